section
-- ===== PART A: goes FIRST, ahead of the names: the tables' words, and 'selects' of the private methods out of them =====
/-- a private method of a class that the tables say can be made, by its rows of tables_1 -/
def lw_okq (q : MethodName × Nat) : Prop := (q.1.cls ≠ "java/lang/invoke/MethodHandle" ∧ q.1.cls ≠ "java/lang/invoke/VarHandle") ∧ Cond.instantiable q.1.cls q.2 ∈ tables_1 ∧ Cond.privateMethod q.1 ∈ tables_1 ∧ Cond.instanceMethod q.1 ∈ tables_1
theorem lw_p0 : lw_okq (⟨"LevelledInk", "failed", "(I)I"⟩, 7) := ⟨⟨by decide +kernel, by decide +kernel⟩, List.mem_of_getElem? (i := 14) (by decide +kernel), List.mem_of_getElem? (i := 247) (by decide +kernel), List.mem_of_getElem? (i := 248) (by decide +kernel)⟩
theorem lw_p1 : lw_okq (⟨"LevelledInk$Card", "cut", "(I)I"⟩, 3) := ⟨⟨by decide +kernel, by decide +kernel⟩, List.mem_of_getElem? (i := 134) (by decide +kernel), List.mem_of_getElem? (i := 284) (by decide +kernel), List.mem_of_getElem? (i := 285) (by decide +kernel)⟩
theorem lw_p2 : lw_okq (⟨"LevelledInk$Card", "hasPart", "(II)Z"⟩, 3) := ⟨⟨by decide +kernel, by decide +kernel⟩, List.mem_of_getElem? (i := 134) (by decide +kernel), List.mem_of_getElem? (i := 313) (by decide +kernel), List.mem_of_getElem? (i := 314) (by decide +kernel)⟩
theorem lw_p3 : lw_okq (⟨"LevelledInk$Shears", "tally", "(LLevelledInk$Sheet;II)V"⟩, 6) := ⟨⟨by decide +kernel, by decide +kernel⟩, List.mem_of_getElem? (i := 52) (by decide +kernel), List.mem_of_getElem? (i := 356) (by decide +kernel), List.mem_of_getElem? (i := 357) (by decide +kernel)⟩
theorem lw_p4 : lw_okq (⟨"LevelledInk$Shears", "countIn", "(I)V"⟩, 6) := ⟨⟨by decide +kernel, by decide +kernel⟩, List.mem_of_getElem? (i := 52) (by decide +kernel), List.mem_of_getElem? (i := 364) (by decide +kernel), List.mem_of_getElem? (i := 365) (by decide +kernel)⟩
theorem lw_p5 : lw_okq (⟨"LevelledInk$Shears", "begin", "()V"⟩, 6) := ⟨⟨by decide +kernel, by decide +kernel⟩, List.mem_of_getElem? (i := 52) (by decide +kernel), List.mem_of_getElem? (i := 384) (by decide +kernel), List.mem_of_getElem? (i := 385) (by decide +kernel)⟩
theorem lw_p6 : lw_okq (⟨"LevelledInk$Shears", "attemptAt", "(LLevelledInk$Sheet;II)V"⟩, 6) := ⟨⟨by decide +kernel, by decide +kernel⟩, List.mem_of_getElem? (i := 52) (by decide +kernel), List.mem_of_getElem? (i := 388) (by decide +kernel), List.mem_of_getElem? (i := 389) (by decide +kernel)⟩
theorem lw_p7 : lw_okq (⟨"LevelledInk$Shears", "isBetter", "(II)Z"⟩, 6) := ⟨⟨by decide +kernel, by decide +kernel⟩, List.mem_of_getElem? (i := 52) (by decide +kernel), List.mem_of_getElem? (i := 394) (by decide +kernel), List.mem_of_getElem? (i := 395) (by decide +kernel)⟩
theorem lw_p8 : lw_okq (⟨"LevelledInk$Sheet", "finishMove", "()V"⟩, 6) := ⟨⟨by decide +kernel, by decide +kernel⟩, List.mem_of_getElem? (i := 22) (by decide +kernel), List.mem_of_getElem? (i := 436) (by decide +kernel), List.mem_of_getElem? (i := 437) (by decide +kernel)⟩
theorem lw_p9 : lw_okq (⟨"LevelledInk$Strokes", "addRuns", "(LLevelledInk$Sheet;I)V"⟩, 7) := ⟨⟨by decide +kernel, by decide +kernel⟩, List.mem_of_getElem? (i := 78) (by decide +kernel), List.mem_of_getElem? (i := 453) (by decide +kernel), List.mem_of_getElem? (i := 454) (by decide +kernel)⟩
theorem lw_p10 : lw_okq (⟨"LevelledInk$Strokes", "linkRows", "(II)V"⟩, 7) := ⟨⟨by decide +kernel, by decide +kernel⟩, List.mem_of_getElem? (i := 78) (by decide +kernel), List.mem_of_getElem? (i := 459) (by decide +kernel), List.mem_of_getElem? (i := 460) (by decide +kernel)⟩
theorem lw_p11 : lw_okq (⟨"LevelledInk$Strokes", "join", "(II)V"⟩, 7) := ⟨⟨by decide +kernel, by decide +kernel⟩, List.mem_of_getElem? (i := 78) (by decide +kernel), List.mem_of_getElem? (i := 463) (by decide +kernel), List.mem_of_getElem? (i := 464) (by decide +kernel)⟩
theorem lw_p12 : lw_okq (⟨"LevelledInk$Strokes", "firstRun", "(I)I"⟩, 7) := ⟨⟨by decide +kernel, by decide +kernel⟩, List.mem_of_getElem? (i := 78) (by decide +kernel), List.mem_of_getElem? (i := 467) (by decide +kernel), List.mem_of_getElem? (i := 468) (by decide +kernel)⟩
theorem lw_p13 : lw_okq (⟨"LevelledInk$Strokes", "numberStrokes", "()V"⟩, 7) := ⟨⟨by decide +kernel, by decide +kernel⟩, List.mem_of_getElem? (i := 78) (by decide +kernel), List.mem_of_getElem? (i := 473) (by decide +kernel), List.mem_of_getElem? (i := 474) (by decide +kernel)⟩
theorem lw_p14 : lw_okq (⟨"LevelledInk$Strokes", "isRun", "(I)Z"⟩, 7) := ⟨⟨by decide +kernel, by decide +kernel⟩, List.mem_of_getElem? (i := 78) (by decide +kernel), List.mem_of_getElem? (i := 485) (by decide +kernel), List.mem_of_getElem? (i := 486) (by decide +kernel)⟩
theorem lw_p15 : lw_okq (⟨"LevelledInk$Strokes", "least", "([II)I"⟩, 7) := ⟨⟨by decide +kernel, by decide +kernel⟩, List.mem_of_getElem? (i := 78) (by decide +kernel), List.mem_of_getElem? (i := 522) (by decide +kernel), List.mem_of_getElem? (i := 523) (by decide +kernel)⟩
def lw_privs_1 : List (MethodName × Nat) := [(⟨"LevelledInk", "failed", "(I)I"⟩, 7), (⟨"LevelledInk$Card", "cut", "(I)I"⟩, 3), (⟨"LevelledInk$Card", "hasPart", "(II)Z"⟩, 3), (⟨"LevelledInk$Shears", "tally", "(LLevelledInk$Sheet;II)V"⟩, 6), (⟨"LevelledInk$Shears", "countIn", "(I)V"⟩, 6), (⟨"LevelledInk$Shears", "begin", "()V"⟩, 6), (⟨"LevelledInk$Shears", "attemptAt", "(LLevelledInk$Sheet;II)V"⟩, 6), (⟨"LevelledInk$Shears", "isBetter", "(II)Z"⟩, 6), (⟨"LevelledInk$Sheet", "finishMove", "()V"⟩, 6), (⟨"LevelledInk$Strokes", "addRuns", "(LLevelledInk$Sheet;I)V"⟩, 7), (⟨"LevelledInk$Strokes", "linkRows", "(II)V"⟩, 7), (⟨"LevelledInk$Strokes", "join", "(II)V"⟩, 7), (⟨"LevelledInk$Strokes", "firstRun", "(I)I"⟩, 7), (⟨"LevelledInk$Strokes", "numberStrokes", "()V"⟩, 7), (⟨"LevelledInk$Strokes", "isRun", "(I)Z"⟩, 7), (⟨"LevelledInk$Strokes", "least", "([II)I"⟩, 7)]
theorem lw_r1 : ∀ q ∈ lw_privs_1, lw_okq q := List.forall_mem_cons.mpr ⟨lw_p0, List.forall_mem_cons.mpr ⟨lw_p1, List.forall_mem_cons.mpr ⟨lw_p2, List.forall_mem_cons.mpr ⟨lw_p3, List.forall_mem_cons.mpr ⟨lw_p4, List.forall_mem_cons.mpr ⟨lw_p5, List.forall_mem_cons.mpr ⟨lw_p6, List.forall_mem_cons.mpr ⟨lw_p7, List.forall_mem_cons.mpr ⟨lw_p8, List.forall_mem_cons.mpr ⟨lw_p9, List.forall_mem_cons.mpr ⟨lw_p10, List.forall_mem_cons.mpr ⟨lw_p11, List.forall_mem_cons.mpr ⟨lw_p12, List.forall_mem_cons.mpr ⟨lw_p13, List.forall_mem_cons.mpr ⟨lw_p14, List.forall_mem_cons.mpr ⟨lw_p15, fun _ h => absurd h List.not_mem_nil⟩⟩⟩⟩⟩⟩⟩⟩⟩⟩⟩⟩⟩⟩⟩⟩
theorem lw_p16 : lw_okq (⟨"LevelledInk$Strokes", "greatest", "([II)I"⟩, 7) := ⟨⟨by decide +kernel, by decide +kernel⟩, List.mem_of_getElem? (i := 78) (by decide +kernel), List.mem_of_getElem? (i := 530) (by decide +kernel), List.mem_of_getElem? (i := 531) (by decide +kernel)⟩
theorem lw_p17 : lw_okq (⟨"LevelledInk$Baseline", "measure", "(II)V"⟩, 7) := ⟨⟨by decide +kernel, by decide +kernel⟩, List.mem_of_getElem? (i := 106) (by decide +kernel), List.mem_of_getElem? (i := 556) (by decide +kernel), List.mem_of_getElem? (i := 557) (by decide +kernel)⟩
theorem lw_p18 : lw_okq (⟨"LevelledInk$Baseline", "lowestOnward", "(II)I"⟩, 7) := ⟨⟨by decide +kernel, by decide +kernel⟩, List.mem_of_getElem? (i := 106) (by decide +kernel), List.mem_of_getElem? (i := 560) (by decide +kernel), List.mem_of_getElem? (i := 561) (by decide +kernel)⟩
theorem lw_p19 : lw_okq (⟨"LevelledInk$Baseline", "reachAt", "(II)I"⟩, 7) := ⟨⟨by decide +kernel, by decide +kernel⟩, List.mem_of_getElem? (i := 106) (by decide +kernel), List.mem_of_getElem? (i := 564) (by decide +kernel), List.mem_of_getElem? (i := 565) (by decide +kernel)⟩
theorem lw_p20 : lw_okq (⟨"LevelledInk$Baseline", "follow", "()V"⟩, 7) := ⟨⟨by decide +kernel, by decide +kernel⟩, List.mem_of_getElem? (i := 106) (by decide +kernel), List.mem_of_getElem? (i := 569) (by decide +kernel), List.mem_of_getElem? (i := 570) (by decide +kernel)⟩
theorem lw_p21 : lw_okq (⟨"LevelledInk", "filledCards", "()I"⟩, 7) := ⟨⟨by decide +kernel, by decide +kernel⟩, List.mem_of_getElem? (i := 14) (by decide +kernel), List.mem_of_getElem? (i := 679) (by decide +kernel), List.mem_of_getElem? (i := 680) (by decide +kernel)⟩
theorem lw_p22 : lw_okq (⟨"LevelledInkModel", "inkOf", "()I"⟩, 26) := ⟨⟨by decide +kernel, by decide +kernel⟩, List.mem_of_getElem? (i := 683) (by decide +kernel), List.mem_of_getElem? (i := 775) (by decide +kernel), List.mem_of_getElem? (i := 776) (by decide +kernel)⟩
theorem lw_p23 : lw_okq (⟨"LevelledInkModel", "isColumn", "(I)Z"⟩, 26) := ⟨⟨by decide +kernel, by decide +kernel⟩, List.mem_of_getElem? (i := 683) (by decide +kernel), List.mem_of_getElem? (i := 783) (by decide +kernel), List.mem_of_getElem? (i := 784) (by decide +kernel)⟩
theorem lw_p24 : lw_okq (⟨"LevelledInkModel", "isDot", "(II)Z"⟩, 26) := ⟨⟨by decide +kernel, by decide +kernel⟩, List.mem_of_getElem? (i := 683) (by decide +kernel), List.mem_of_getElem? (i := 796) (by decide +kernel), List.mem_of_getElem? (i := 797) (by decide +kernel)⟩
theorem lw_p25 : lw_okq (⟨"LevelledInkModel", "refused", "(I)I"⟩, 26) := ⟨⟨by decide +kernel, by decide +kernel⟩, List.mem_of_getElem? (i := 683) (by decide +kernel), List.mem_of_getElem? (i := 807) (by decide +kernel), List.mem_of_getElem? (i := 808) (by decide +kernel)⟩
theorem lw_p26 : lw_okq (⟨"LevelledInkModel", "fails", "(I)I"⟩, 26) := ⟨⟨by decide +kernel, by decide +kernel⟩, List.mem_of_getElem? (i := 683) (by decide +kernel), List.mem_of_getElem? (i := 811) (by decide +kernel), List.mem_of_getElem? (i := 812) (by decide +kernel)⟩
theorem lw_p27 : lw_okq (⟨"LevelledInkModel", "clears", "(III)V"⟩, 26) := ⟨⟨by decide +kernel, by decide +kernel⟩, List.mem_of_getElem? (i := 683) (by decide +kernel), List.mem_of_getElem? (i := 819) (by decide +kernel), List.mem_of_getElem? (i := 820) (by decide +kernel)⟩
theorem lw_p28 : lw_okq (⟨"LevelledInkModel", "against", "(II)I"⟩, 26) := ⟨⟨by decide +kernel, by decide +kernel⟩, List.mem_of_getElem? (i := 683) (by decide +kernel), List.mem_of_getElem? (i := 831) (by decide +kernel), List.mem_of_getElem? (i := 832) (by decide +kernel)⟩
theorem lw_p29 : lw_okq (⟨"LevelledInkModel", "findProfile", "(II)V"⟩, 26) := ⟨⟨by decide +kernel, by decide +kernel⟩, List.mem_of_getElem? (i := 683) (by decide +kernel), List.mem_of_getElem? (i := 874) (by decide +kernel), List.mem_of_getElem? (i := 875) (by decide +kernel)⟩
theorem lw_p30 : lw_okq (⟨"LevelledInkModel", "sharpness", "(II)I"⟩, 26) := ⟨⟨by decide +kernel, by decide +kernel⟩, List.mem_of_getElem? (i := 683) (by decide +kernel), List.mem_of_getElem? (i := 885) (by decide +kernel), List.mem_of_getElem? (i := 886) (by decide +kernel)⟩
theorem lw_p31 : lw_okq (⟨"LevelledInkModel", "tryIt", "(II)V"⟩, 26) := ⟨⟨by decide +kernel, by decide +kernel⟩, List.mem_of_getElem? (i := 683) (by decide +kernel), List.mem_of_getElem? (i := 893) (by decide +kernel), List.mem_of_getElem? (i := 894) (by decide +kernel)⟩
def lw_privs_2 : List (MethodName × Nat) := [(⟨"LevelledInk$Strokes", "greatest", "([II)I"⟩, 7), (⟨"LevelledInk$Baseline", "measure", "(II)V"⟩, 7), (⟨"LevelledInk$Baseline", "lowestOnward", "(II)I"⟩, 7), (⟨"LevelledInk$Baseline", "reachAt", "(II)I"⟩, 7), (⟨"LevelledInk$Baseline", "follow", "()V"⟩, 7), (⟨"LevelledInk", "filledCards", "()I"⟩, 7), (⟨"LevelledInkModel", "inkOf", "()I"⟩, 26), (⟨"LevelledInkModel", "isColumn", "(I)Z"⟩, 26), (⟨"LevelledInkModel", "isDot", "(II)Z"⟩, 26), (⟨"LevelledInkModel", "refused", "(I)I"⟩, 26), (⟨"LevelledInkModel", "fails", "(I)I"⟩, 26), (⟨"LevelledInkModel", "clears", "(III)V"⟩, 26), (⟨"LevelledInkModel", "against", "(II)I"⟩, 26), (⟨"LevelledInkModel", "findProfile", "(II)V"⟩, 26), (⟨"LevelledInkModel", "sharpness", "(II)I"⟩, 26), (⟨"LevelledInkModel", "tryIt", "(II)V"⟩, 26)]
theorem lw_r2 : ∀ q ∈ lw_privs_2, lw_okq q := List.forall_mem_cons.mpr ⟨lw_p16, List.forall_mem_cons.mpr ⟨lw_p17, List.forall_mem_cons.mpr ⟨lw_p18, List.forall_mem_cons.mpr ⟨lw_p19, List.forall_mem_cons.mpr ⟨lw_p20, List.forall_mem_cons.mpr ⟨lw_p21, List.forall_mem_cons.mpr ⟨lw_p22, List.forall_mem_cons.mpr ⟨lw_p23, List.forall_mem_cons.mpr ⟨lw_p24, List.forall_mem_cons.mpr ⟨lw_p25, List.forall_mem_cons.mpr ⟨lw_p26, List.forall_mem_cons.mpr ⟨lw_p27, List.forall_mem_cons.mpr ⟨lw_p28, List.forall_mem_cons.mpr ⟨lw_p29, List.forall_mem_cons.mpr ⟨lw_p30, List.forall_mem_cons.mpr ⟨lw_p31, fun _ h => absurd h List.not_mem_nil⟩⟩⟩⟩⟩⟩⟩⟩⟩⟩⟩⟩⟩⟩⟩⟩
theorem lw_p32 : lw_okq (⟨"LevelledInkModel", "bestTried", "()I"⟩, 26) := ⟨⟨by decide +kernel, by decide +kernel⟩, List.mem_of_getElem? (i := 683) (by decide +kernel), List.mem_of_getElem? (i := 897) (by decide +kernel), List.mem_of_getElem? (i := 898) (by decide +kernel)⟩
theorem lw_p33 : lw_okq (⟨"LevelledInkModel", "search", "(I)V"⟩, 26) := ⟨⟨by decide +kernel, by decide +kernel⟩, List.mem_of_getElem? (i := 683) (by decide +kernel), List.mem_of_getElem? (i := 911) (by decide +kernel), List.mem_of_getElem? (i := 912) (by decide +kernel)⟩
theorem lw_p34 : lw_okq (⟨"LevelledInkModel", "moveAll", "(II)I"⟩, 26) := ⟨⟨by decide +kernel, by decide +kernel⟩, List.mem_of_getElem? (i := 683) (by decide +kernel), List.mem_of_getElem? (i := 923) (by decide +kernel), List.mem_of_getElem? (i := 924) (by decide +kernel)⟩
theorem lw_p35 : lw_okq (⟨"LevelledInkModel", "goesTo", "(IIII)I"⟩, 26) := ⟨⟨by decide +kernel, by decide +kernel⟩, List.mem_of_getElem? (i := 683) (by decide +kernel), List.mem_of_getElem? (i := 927) (by decide +kernel), List.mem_of_getElem? (i := 928) (by decide +kernel)⟩
theorem lw_p36 : lw_okq (⟨"LevelledInkModel", "curlOf", "(I)I"⟩, 26) := ⟨⟨by decide +kernel, by decide +kernel⟩, List.mem_of_getElem? (i := 683) (by decide +kernel), List.mem_of_getElem? (i := 931) (by decide +kernel), List.mem_of_getElem? (i := 932) (by decide +kernel)⟩
theorem lw_p37 : lw_okq (⟨"LevelledInkModel", "keeps", "()V"⟩, 26) := ⟨⟨by decide +kernel, by decide +kernel⟩, List.mem_of_getElem? (i := 683) (by decide +kernel), List.mem_of_getElem? (i := 935) (by decide +kernel), List.mem_of_getElem? (i := 936) (by decide +kernel)⟩
theorem lw_p38 : lw_okq (⟨"LevelledInkModel", "findStrokes", "()V"⟩, 26) := ⟨⟨by decide +kernel, by decide +kernel⟩, List.mem_of_getElem? (i := 683) (by decide +kernel), List.mem_of_getElem? (i := 947) (by decide +kernel), List.mem_of_getElem? (i := 948) (by decide +kernel)⟩
theorem lw_p39 : lw_okq (⟨"LevelledInkModel", "findRuns", "()V"⟩, 26) := ⟨⟨by decide +kernel, by decide +kernel⟩, List.mem_of_getElem? (i := 683) (by decide +kernel), List.mem_of_getElem? (i := 951) (by decide +kernel), List.mem_of_getElem? (i := 952) (by decide +kernel)⟩
theorem lw_p40 : lw_okq (⟨"LevelledInkModel", "spreads", "(I)V"⟩, 26) := ⟨⟨by decide +kernel, by decide +kernel⟩, List.mem_of_getElem? (i := 683) (by decide +kernel), List.mem_of_getElem? (i := 955) (by decide +kernel), List.mem_of_getElem? (i := 956) (by decide +kernel)⟩
theorem lw_p41 : lw_okq (⟨"LevelledInkModel", "areTouching", "(II)Z"⟩, 26) := ⟨⟨by decide +kernel, by decide +kernel⟩, List.mem_of_getElem? (i := 683) (by decide +kernel), List.mem_of_getElem? (i := 959) (by decide +kernel), List.mem_of_getElem? (i := 960) (by decide +kernel)⟩
theorem lw_p42 : lw_okq (⟨"LevelledInkModel", "findBaseline", "()V"⟩, 26) := ⟨⟨by decide +kernel, by decide +kernel⟩, List.mem_of_getElem? (i := 683) (by decide +kernel), List.mem_of_getElem? (i := 971) (by decide +kernel), List.mem_of_getElem? (i := 972) (by decide +kernel)⟩
theorem lw_p43 : lw_okq (⟨"LevelledInkModel", "findLeads", "()V"⟩, 26) := ⟨⟨by decide +kernel, by decide +kernel⟩, List.mem_of_getElem? (i := 683) (by decide +kernel), List.mem_of_getElem? (i := 975) (by decide +kernel), List.mem_of_getElem? (i := 976) (by decide +kernel)⟩
theorem lw_p44 : lw_okq (⟨"LevelledInkModel", "leadsAt", "(II)I"⟩, 26) := ⟨⟨by decide +kernel, by decide +kernel⟩, List.mem_of_getElem? (i := 683) (by decide +kernel), List.mem_of_getElem? (i := 979) (by decide +kernel), List.mem_of_getElem? (i := 980) (by decide +kernel)⟩
theorem lw_p45 : lw_okq (⟨"LevelledInkModel", "isFoot", "(II)Z"⟩, 26) := ⟨⟨by decide +kernel, by decide +kernel⟩, List.mem_of_getElem? (i := 683) (by decide +kernel), List.mem_of_getElem? (i := 983) (by decide +kernel), List.mem_of_getElem? (i := 984) (by decide +kernel)⟩
theorem lw_p46 : lw_okq (⟨"LevelledInkModel", "lowest", "(IIII)I"⟩, 26) := ⟨⟨by decide +kernel, by decide +kernel⟩, List.mem_of_getElem? (i := 683) (by decide +kernel), List.mem_of_getElem? (i := 987) (by decide +kernel), List.mem_of_getElem? (i := 988) (by decide +kernel)⟩
theorem lw_p47 : lw_okq (⟨"LevelledInkModel", "levelOf", "()I"⟩, 26) := ⟨⟨by decide +kernel, by decide +kernel⟩, List.mem_of_getElem? (i := 683) (by decide +kernel), List.mem_of_getElem? (i := 991) (by decide +kernel), List.mem_of_getElem? (i := 992) (by decide +kernel)⟩
def lw_privs_3 : List (MethodName × Nat) := [(⟨"LevelledInkModel", "bestTried", "()I"⟩, 26), (⟨"LevelledInkModel", "search", "(I)V"⟩, 26), (⟨"LevelledInkModel", "moveAll", "(II)I"⟩, 26), (⟨"LevelledInkModel", "goesTo", "(IIII)I"⟩, 26), (⟨"LevelledInkModel", "curlOf", "(I)I"⟩, 26), (⟨"LevelledInkModel", "keeps", "()V"⟩, 26), (⟨"LevelledInkModel", "findStrokes", "()V"⟩, 26), (⟨"LevelledInkModel", "findRuns", "()V"⟩, 26), (⟨"LevelledInkModel", "spreads", "(I)V"⟩, 26), (⟨"LevelledInkModel", "areTouching", "(II)Z"⟩, 26), (⟨"LevelledInkModel", "findBaseline", "()V"⟩, 26), (⟨"LevelledInkModel", "findLeads", "()V"⟩, 26), (⟨"LevelledInkModel", "leadsAt", "(II)I"⟩, 26), (⟨"LevelledInkModel", "isFoot", "(II)Z"⟩, 26), (⟨"LevelledInkModel", "lowest", "(IIII)I"⟩, 26), (⟨"LevelledInkModel", "levelOf", "()I"⟩, 26)]
theorem lw_r3 : ∀ q ∈ lw_privs_3, lw_okq q := List.forall_mem_cons.mpr ⟨lw_p32, List.forall_mem_cons.mpr ⟨lw_p33, List.forall_mem_cons.mpr ⟨lw_p34, List.forall_mem_cons.mpr ⟨lw_p35, List.forall_mem_cons.mpr ⟨lw_p36, List.forall_mem_cons.mpr ⟨lw_p37, List.forall_mem_cons.mpr ⟨lw_p38, List.forall_mem_cons.mpr ⟨lw_p39, List.forall_mem_cons.mpr ⟨lw_p40, List.forall_mem_cons.mpr ⟨lw_p41, List.forall_mem_cons.mpr ⟨lw_p42, List.forall_mem_cons.mpr ⟨lw_p43, List.forall_mem_cons.mpr ⟨lw_p44, List.forall_mem_cons.mpr ⟨lw_p45, List.forall_mem_cons.mpr ⟨lw_p46, List.forall_mem_cons.mpr ⟨lw_p47, fun _ h => absurd h List.not_mem_nil⟩⟩⟩⟩⟩⟩⟩⟩⟩⟩⟩⟩⟩⟩⟩⟩
theorem lw_p48 : lw_okq (⟨"LevelledInkModel", "rowsTogether", "()I"⟩, 26) := ⟨⟨by decide +kernel, by decide +kernel⟩, List.mem_of_getElem? (i := 683) (by decide +kernel), List.mem_of_getElem? (i := 995) (by decide +kernel), List.mem_of_getElem? (i := 996) (by decide +kernel)⟩
theorem lw_p49 : lw_okq (⟨"LevelledInkModel", "findCurls", "()V"⟩, 26) := ⟨⟨by decide +kernel, by decide +kernel⟩, List.mem_of_getElem? (i := 683) (by decide +kernel), List.mem_of_getElem? (i := 1007) (by decide +kernel), List.mem_of_getElem? (i := 1008) (by decide +kernel)⟩
theorem lw_p50 : lw_okq (⟨"LevelledInkModel", "nearest", "(III)V"⟩, 26) := ⟨⟨by decide +kernel, by decide +kernel⟩, List.mem_of_getElem? (i := 683) (by decide +kernel), List.mem_of_getElem? (i := 1019) (by decide +kernel), List.mem_of_getElem? (i := 1020) (by decide +kernel)⟩
theorem lw_p51 : lw_okq (⟨"LevelledInkModel", "bits", "(II)J"⟩, 26) := ⟨⟨by decide +kernel, by decide +kernel⟩, List.mem_of_getElem? (i := 683) (by decide +kernel), List.mem_of_getElem? (i := 1023) (by decide +kernel), List.mem_of_getElem? (i := 1024) (by decide +kernel)⟩
theorem lw_p52 : lw_okq (⟨"LevelledInkModel", "feet", "()I"⟩, 26) := ⟨⟨by decide +kernel, by decide +kernel⟩, List.mem_of_getElem? (i := 683) (by decide +kernel), List.mem_of_getElem? (i := 1045) (by decide +kernel), List.mem_of_getElem? (i := 1046) (by decide +kernel)⟩
def lw_privs_4 : List (MethodName × Nat) := [(⟨"LevelledInkModel", "rowsTogether", "()I"⟩, 26), (⟨"LevelledInkModel", "findCurls", "()V"⟩, 26), (⟨"LevelledInkModel", "nearest", "(III)V"⟩, 26), (⟨"LevelledInkModel", "bits", "(II)J"⟩, 26), (⟨"LevelledInkModel", "feet", "()I"⟩, 26)]
theorem lw_r4 : ∀ q ∈ lw_privs_4, lw_okq q := List.forall_mem_cons.mpr ⟨lw_p48, List.forall_mem_cons.mpr ⟨lw_p49, List.forall_mem_cons.mpr ⟨lw_p50, List.forall_mem_cons.mpr ⟨lw_p51, List.forall_mem_cons.mpr ⟨lw_p52, fun _ h => absurd h List.not_mem_nil⟩⟩⟩⟩⟩
def lw_privs : List (MethodName × Nat) := lw_privs_1 ++ (lw_privs_2 ++ (lw_privs_3 ++ (lw_privs_4)))
def lw_tbl : List Cond := k2_sels lw_privs ++ tables_1
theorem lw_privs_ok : ∀ q ∈ lw_privs, lw_okq q := by
  show ∀ q ∈ lw_privs_1 ++ (lw_privs_2 ++ (lw_privs_3 ++ (lw_privs_4))), lw_okq q
  exact List.forall_mem_append.mpr ⟨lw_r1, List.forall_mem_append.mpr ⟨lw_r2, List.forall_mem_append.mpr ⟨lw_r3, lw_r4⟩⟩⟩
-- ===== end of PART A; then your names; then what follows =====
end
section
/-! ===== BEGIN words of one list among another's, by their places ===== -/
theorem goodIn_r {big : List Cond} (ws : List Cond) (ps : List Nat) (hp : ws = ps.filterMap (fun i => big[i]?)) (h : ws.all goodWord = true) : GoodIn big ws := by
  intro w hw
  have h1 := List.all_eq_true.mp h w hw
  rw [hp] at hw
  obtain ⟨i, -, hi⟩ := List.mem_filterMap.mp hw
  have hm : w ∈ big := by first | exact List.mem_of_getElem? hi | exact List.getElem?_mem hi
  exact ⟨hm, good_of_word h1⟩
theorem goodIn_app {big a b : List Cond} (ha : GoodIn big a) (hb : GoodIn big b) : GoodIn big (a ++ b) := fun w h => (List.mem_append.mp h).elim (ha w) (hb w)
theorem goodIn_ca {big a b : List Cond} {c : Cond} (ha : GoodIn big (c :: a)) (hb : GoodIn big b) : GoodIn big (c :: (a ++ b)) := fun w h => (List.mem_cons.mp h).elim (fun e => ha w (List.mem_cons.mpr (Or.inl e))) (fun h => (List.mem_append.mp h).elim (fun h => ha w (List.mem_cons.mpr (Or.inr h))) (hb w))
theorem goodIn_sub {big ws : List Cond} (hm : ∀ w ∈ ws, w ∈ big) (h : ws.all goodWord = true) : GoodIn big ws := fun w hw => ⟨hm w hw, good_of_word (List.all_eq_true.mp h w hw)⟩
/-! ===== END ===== -/

/-! ===== BEGIN new T[n][m]: the outer array a place, the inner ones among the pooled ===== -/
/-- f, but v at every address of l -/
def vr_up {α : Type} (f : Nat → α) (l : List Nat) (v : α) : Nat → α := fun a => if a ∈ l then v else f a
theorem vr_up_in {α : Type} {f : Nat → α} {l : List Nat} {v : α} {a : Nat} (h : a ∈ l) : vr_up f l v a = v := if_pos h
theorem vr_up_ne {α : Type} {f : Nat → α} {l : List Nat} {v : α} {a : Nat} (h : a ∉ l) : vr_up f l v a = f a := if_neg h
theorem vr_rows {L l : List Nat} {f : Nat → va_E} {e : va_E} (h : ∀ a, a ∈ l → a ∉ L) : va_pl L f ++ l.map (fun a => (a, e)) = va_pl (L ++ l) (vr_up f l e) := by
  unfold va_pl
  rw [List.map_append]
  congr 1
  · apply List.map_congr_left
    intro a ha
    rw [vr_up_ne (fun q => h a q ha)]
  · apply List.map_congr_left
    intro a ha
    rw [vr_up_in ha]
theorem vr_lay {X rows : va_W} {x : Nat × va_E} {pl : va_W} {D : va_G} {cl : List vw_C} {H : Heap} (hP : va_P D cl (((X ++ pl) ++ [x]) ++ rows) H) : va_P D cl ((X ++ [x]) ++ (pl ++ rows)) H := by
  rw [List.append_assoc (X ++ pl)] at hP
  have h := va_P.swap hP
  rw [← List.append_assoc X] at h
  have h2 := va_P.swap h
  rw [List.append_assoc (X ++ [x])] at h2
  exact h2
theorem vr_layD {X rows : va_W} {x : Nat × va_E} {pl : va_W} {A : Nat → Prop} (hD : va_D A (((X ++ pl) ++ [x]) ++ rows)) : va_D A ((X ++ [x]) ++ (pl ++ rows)) := by
  rw [List.append_assoc (X ++ pl)] at hD
  have h := va_D.swap hD
  rw [← List.append_assoc X] at h
  have h2 := va_D.swap h
  rw [List.append_assoc (X ++ [x])] at h2
  exact h2
theorem vr_outer (c : ClassId) (N h0 : Nat) : ∀ i : Nat, Jvm.Free.Multi.outerC c N h0 i = arrV c N (fun j => va_rf (if j < i then some (h0 + 1 + j) else none))
  | 0 => by
    show ({ cls := c, slots := Array.replicate N .null, vm := .none } : Cell) = _
    rw [arrV_new]
    refine congrArg (arrV c N) (funext fun j => ?_)
    simp [va_rf]
  | i + 1 => by
    show (Jvm.Free.Multi.outerC c N h0 i).setSlot i (.ref (h0 + 1 + i)) = _
    rw [vr_outer c N h0 i, arrV_store]
    refine congrArg (arrV c N) (funext fun j => ?_)
    by_cases e : j = i
    · subst e
      simp [updV, va_rf]
    · by_cases h : j < i
      · simp [updV, e, h, Nat.lt_succ_of_lt h]
      · simp [updV, e, h, show ¬ j < i + 1 by omega]
section VGM
variable {p : Program} {l : Launch} {e : Env} {R : Room} {s : State} {m : MethodId} {args : Array Value} {below : List Frame} {meth : Method} {c : Code} {H : Heap} {locs : List Loc} {cells slots : Nat} {Q : State → Prop}
variable {cc : ByteArray} {pc : Nat} {ls : Array Slot} {rest : List Value} {D : va_G} {cl : List vw_C} {A : Nat → Prop} {a : Nat} {tys : List (ClassId × FieldType)} {ws : va_W} {H0 : Heap}
theorem va_mna {X : va_W} {L : List Nat} {f : Nat → va_E} {cc : ByteArray} (hexec : p.tables.exec = Jvm.exec) (hb : c.code = cc) {own : String} {index : Nat} {ty : FieldType} {cy : ClassId} (hown : s.vm.findClass own = some m.cls) (hclink : (Cond.classLink own index ("[" ++ (FieldType.array ty).toString)).before args s = true) (hover : va_AOA ty s) (harr : (Cond.arrayClass ty).before args s = true) (hcy : s.vm.findClass (FieldType.array ty).toString = some cy)
    (hK : va_K D cl tys s) (hP : va_P D cl (X ++ va_pl L f) H) (hD : va_D A (X ++ va_pl L f)) (hS : va_S A H0 H locs) (hA : ∀ q, H0.size ≤ q → A q) {n k : Int32} {N' K' : Nat} {z : vp_A} (hn : ¬ n < 0) (hk : ¬ k < 0) (hN : n.toNatClampNeg = N') (hM : k.toNatClampNeg = K')
    (hb1 : N' * 4 ≤ 536870912) (hb2 : K' * componentBytes ty ≤ 536870912) (hb3 : K' ≤ 536870912) (hdf : fits ty (defaultValue ty) = true) (hdd : (defaultValue ty).isDefault = true) (hcells : cells + (1 + N') ≤ R.cells) (hslots : slots + (N' + N' * K') ≤ R.slots) (hz : ∀ c : ClassId, Jvm.Free.Multi.innerC c K' (defaultValue ty) = vp_cell c z) (hdg : decode cc pc = .ok (.multianewarray index 2, 4))
    (kk : ∀ (q : Nat) (r : Nat → Nat) (cA : ClassId) (H1 : Heap), (∀ i j : Nat, i < N' → j < N' → r i = r j → i = j) → (∀ i : Nat, i < N' → r i ∉ L) → va_K D cl (tys ++ [(cA, .array ty)]) s →
      va_P D cl ((X ++ [(q, .inl (cA, N', .inr (.inr (.inr (.inr (fun i => if i < N' then some (r i) else none))))))]) ++ va_pl (L ++ (List.range N').map r) (vr_up f ((List.range N').map r) (.inl (cy, z)))) H1 → va_D A ((X ++ [(q, .inl (cA, N', .inr (.inr (.inr (.inr (fun i => if i < N' then some (r i) else none))))))]) ++ va_pl (L ++ (List.range N').map r) (vr_up f ((List.range N').map r) (.inl (cy, z)))) → va_S A H0 H1 locs →
      W p l e R s m args below meth c H1 locs (cells + 1 + N') (slots + N' + N' * K') Q (F0 m (pc + 4) ls (.ref q :: rest))) : W p l e R s m args below meth c H locs cells slots Q (F0 m pc ls (.int k :: .int n :: rest)) := by
  subst hN
  subst hM
  intro T hT Xs
  obtain ⟨vm₁, cA, comp, -, fA, fC, hO, -, X', step⟩ := Xs.multianewarray2F hexec hown hclink (va_AOA.use hover) harr (g := F0 m pc ls (.int k :: .int n :: rest)) rfl (by rw [hb]; exact hdg) rfl hn hk hb1 hb2 hb3 hdf hdd hcells hslots
  have ec : some cy = some comp := hcy.symm.trans fC
  cases ec
  generalize hF : Jvm.Free.Multi.fill (T.setVm vm₁) cA cy n.toNatClampNeg k.toNatClampNeg (defaultValue ty) n.toNatClampNeg = F at X' step
  have hTh : (T.setVm vm₁).heap = H := hT
  obtain ⟨f1, f2, -, -⟩ := Jvm.Free.Multi.fill_facts (T.setVm vm₁) cA cy n.toNatClampNeg k.toNatClampNeg (defaultValue ty) n.toNatClampNeg
  rw [hF, hTh] at f1 f2
  have hold : ∀ x : Nat, x < H.size → F.heap[x]? = H[x]? := fun x hx => by
    have := Jvm.Free.Multi.fill_old (T.setVm vm₁) cA cy n.toNatClampNeg k.toNatClampNeg (defaultValue ty) (a := x) (by rw [hTh]; exact hx) n.toNatClampNeg
    rw [hF, hTh] at this
    exact this
  have hrow : ∀ j : Nat, j < n.toNatClampNeg → F.heap[H.size + 1 + j]? = some (vp_cell cy z) := fun j hj => by
    have := Jvm.Free.Multi.fill_inner (T.setVm vm₁) cA cy n.toNatClampNeg k.toNatClampNeg (defaultValue ty) n.toNatClampNeg j hj
    rw [hF, hTh, hz] at this
    exact this
  have hout : Jvm.Free.Multi.outerC cA n.toNatClampNeg H.size n.toNatClampNeg = vp_cell cA (n.toNatClampNeg, .inr (.inr (.inr (.inr (fun i => if i < n.toNatClampNeg then some (H.size + 1 + i) else none))))) := by
    rw [vp_cell_q]
    exact vr_outer cA n.toNatClampNeg H.size n.toNatClampNeg
  rw [hout] at f2
  have hlt : ∀ a, a ∈ L → a < H.size := fun a ha => by
    obtain ⟨k9, hk9⟩ := va_pl_get (X := X) (f := f) ha
    exact (hP k9 _ hk9).lt
  have hnl : ∀ i : Nat, i < n.toNatClampNeg → H.size + 1 + i ∉ L := fun i _ h => by
    have := hlt _ h
    omega
  have hnm : ∀ a, a ∈ (List.range n.toNatClampNeg).map (fun i => H.size + 1 + i) → a ∉ L := fun a ha h => by
    obtain ⟨i, -, rfl⟩ := List.mem_map.mp ha
    have := hlt _ h
    omega
  have hP0 : va_P D cl (X ++ va_pl L f) F.heap := hP.kept (fun k9 x hx => hold x.1 ((hP k9 x hx).lt))
  have hP1 : va_P D cl ((X ++ va_pl L f) ++ [(H.size, .inl (cA, n.toNatClampNeg, .inr (.inr (.inr (.inr (fun i => if i < n.toNatClampNeg then some (H.size + 1 + i) else none))))))]) F.heap := hP0.app (fun k9 x hx => by
    have h0 : k9 < 1 := (List.getElem?_eq_some_iff.mp hx).1
    rw [show k9 = 0 by omega] at hx
    cases hx
    exact f2)
  have hP2 : va_P D cl (((X ++ va_pl L f) ++ [(H.size, .inl (cA, n.toNatClampNeg, .inr (.inr (.inr (.inr (fun i => if i < n.toNatClampNeg then some (H.size + 1 + i) else none))))))]) ++ ((List.range n.toNatClampNeg).map (fun i => H.size + 1 + i)).map (fun a => (a, .inl (cy, z)))) F.heap := hP1.app (fun k9 x hx => by
    obtain ⟨a, ha, rfl⟩ := List.mem_map.mp (List.mem_of_getElem? hx)
    obtain ⟨i, hi, rfl⟩ := List.mem_map.mp ha
    exact hrow i (List.mem_range.mp hi))
  have hD2 : va_D A (((X ++ va_pl L f) ++ [(H.size, .inl (cA, n.toNatClampNeg, .inr (.inr (.inr (.inr (fun i => if i < n.toNatClampNeg then some (H.size + 1 + i) else none))))))]) ++ ((List.range n.toNatClampNeg).map (fun i => H.size + 1 + i)).map (fun a => (a, .inl (cy, z)))) := by
    have hD1 := hD.push (e := .inl (cA, n.toNatClampNeg, .inr (.inr (.inr (.inr (fun i => if i < n.toNatClampNeg then some (H.size + 1 + i) else none)))))) hP rfl (hA _ hS.1)
    generalize hW1 : (X ++ va_pl L f) ++ [(H.size, .inl (cA, n.toNatClampNeg, .inr (.inr (.inr (.inr (fun i => if i < n.toNatClampNeg then some (H.size + 1 + i) else none))))))] = W1 at hD1 hP1 ⊢
    have hle : ∀ (k9 : Nat) (x : Nat × va_E), W1[k9]? = some x → x.1 ≤ H.size := fun k9 x hx => by
      rw [← hW1] at hx
      by_cases hl : k9 < (X ++ va_pl L f).length
      · rw [List.getElem?_append_left hl] at hx
        exact Nat.le_of_lt ((hP k9 x hx).lt)
      · rw [List.getElem?_append_right (by omega)] at hx
        have h0 : k9 - (X ++ va_pl L f).length < 1 := (List.getElem?_eq_some_iff.mp hx).1
        rw [show k9 - (X ++ va_pl L f).length = 0 by omega] at hx
        cases hx
        exact Nat.le_refl _
    have hr : ∀ (k9 : Nat) (x : Nat × va_E), (((List.range n.toNatClampNeg).map (fun i => H.size + 1 + i)).map (fun a => ((a, .inl (cy, z)) : Nat × va_E)))[k9]? = some x → x.1 = H.size + 1 + k9 := fun k9 x hx => by
      rw [List.getElem?_map, List.getElem?_map] at hx
      by_cases h9 : k9 < n.toNatClampNeg
      · rw [List.getElem?_range h9] at hx
        cases hx
        rfl
      · have hn0 : (List.range n.toNatClampNeg)[k9]? = none := List.getElem?_eq_none (by rw [List.length_range]; omega)
        rw [hn0] at hx
        cases hx
    refine ⟨fun i j x y hi hj hxy => ?_, fun k9 x hx => ?_⟩
    · by_cases h1 : i < W1.length <;> by_cases h2 : j < W1.length
      · rw [List.getElem?_append_left h1] at hi
        rw [List.getElem?_append_left h2] at hj
        exact hD1.1 i j x y hi hj hxy
      · rw [List.getElem?_append_left h1] at hi
        rw [List.getElem?_append_right (by omega)] at hj
        have := hle _ _ hi
        have := hr _ _ hj
        omega
      · rw [List.getElem?_append_right (by omega)] at hi
        rw [List.getElem?_append_left h2] at hj
        have := hle _ _ hj
        have := hr _ _ hi
        omega
      · rw [List.getElem?_append_right (by omega)] at hi hj
        have := hr _ _ hi
        have := hr _ _ hj
        omega
    · by_cases h1 : k9 < W1.length
      · rw [List.getElem?_append_left h1] at hx
        exact hD1.2 k9 x hx
      · rw [List.getElem?_append_right (by omega)] at hx
        have := hr _ _ hx
        exact hA _ (by have := hS.1; omega)
  have hAr : ArrOfT s cA (.array ty) := fun N9 z9 => by
    obtain ⟨-, k9, hk9, cm9, hkk9⟩ := (hO 0 0 0).1
    exact ⟨(fun q hq => by cases hq), k9, hk9, cm9, hkk9⟩
  have hK2 : va_K D cl (tys ++ [(cA, .array ty)]) s := ⟨hK.1, fun k9 x hx => by
    by_cases hl : k9 < tys.length
    · rw [List.getElem?_append_left hl] at hx
      exact hK.2 k9 x hx
    · rw [List.getElem?_append_right (by omega)] at hx
      have h0 : k9 - tys.length < 1 := (List.getElem?_eq_some_iff.mp hx).1
      rw [show k9 - tys.length = 0 by omega] at hx
      cases hx
      exact ⟨hAr, fA⟩⟩
  obtain ⟨t, a1, b1⟩ := kk H.size (fun i => H.size + 1 + i) cA F.heap (fun i j _ _ h => by have h9 : H.size + 1 + i = H.size + 1 + j := h; omega) hnl hK2 (by rw [← vr_rows hnm]; exact vr_lay hP2) (by rw [← vr_rows hnm]; exact vr_layD hD2) ⟨by rw [f1]; have := hS.1; omega, fun x h1 h2 => (hold x (Nat.lt_of_lt_of_le h1 hS.1)).trans (hS.2.1 x h1 h2), hS.2.2⟩ F rfl X'
  refine ⟨t, step t ?_, b1⟩
  have e : T.heap.size = H.size := by rw [hT]
  rw [e]
  exact a1
end VGM
/-! ===== END ===== -/

/-! ===== BEGIN printed: names, fields, word lists, decode rows ===== -/
def RX0 : String := "LevelledInk$Baseline"
def TX0 : u_T := fun k => match k with
  | 0 => ("LevelledInk$Baseline", "reach", "[[I", true)
  | 1 => ("LevelledInk$Baseline", "rows", "[I", true)
  | 2 => ("LevelledInk$Baseline", "width", "I", false)
  | 3 => ("LevelledInk$Baseline", "first", "I", false)
  | 4 => ("LevelledInk$Baseline", "length", "I", false)
  | 5 => ("LevelledInk$Baseline", "firstRow", "I", false)
  | _ => ("LevelledInk$Baseline", "sum", "I", false)
def tyX0 : Nat → FieldType := fun k => match k with
  | 0 => .array (.array .int)
  | 1 => .array .int
  | 2 => .int
  | 3 => .int
  | 4 => .int
  | 5 => .int
  | _ => .int
abbrev wsX00 : List Cond := u_ws RX0 TX0 7
theorem nmX0 : ∀ a, a < 7 → ∀ b, b < 7 → a ≠ b → (TX0 a).2.1 ≠ (TX0 b).2.1 := by decide +kernel
theorem tyX0_ok : ∀ k, k < 7 → parseFieldDescriptor (TX0 k).2.2.1 = some (tyX0 k) := by decide +kernel
abbrev cX0_init : ByteArray := prog_2_method_1_code
def yX0_init : MethodName := ⟨RX0, "<init>", "()V"⟩
abbrev cX0_find : ByteArray := prog_2_method_2_code
def yX0_find : MethodName := ⟨RX0, "find", "(LLevelledInk$Sheet;)V"⟩
abbrev cX0_first : ByteArray := prog_2_method_3_code
def yX0_first : MethodName := ⟨RX0, "first", "()I"⟩
abbrev cX0_length : ByteArray := prog_2_method_4_code
def yX0_length : MethodName := ⟨RX0, "length", "()I"⟩
abbrev cX0_height : ByteArray := prog_2_method_5_code
def yX0_height : MethodName := ⟨RX0, "height", "()I"⟩
abbrev cX0_covers : ByteArray := prog_2_method_6_code
def yX0_covers : MethodName := ⟨RX0, "covers", "(I)Z"⟩
abbrev cX0_footRow : ByteArray := prog_2_method_7_code
def yX0_footRow : MethodName := ⟨RX0, "footRow", "(I)I"⟩
abbrev cX0_bend : ByteArray := prog_2_method_8_code
def yX0_bend : MethodName := ⟨RX0, "bend", "(I)I"⟩
abbrev cX0_meanBits : ByteArray := prog_2_method_9_code
def yX0_meanBits : MethodName := ⟨RX0, "meanBits", "()J"⟩
abbrev cX0_slopeBits : ByteArray := prog_2_method_10_code
def yX0_slopeBits : MethodName := ⟨RX0, "slopeBits", "()I"⟩
abbrev cX0_measure : ByteArray := prog_2_method_11_code
def yX0_measure : MethodName := ⟨RX0, "measure", "(II)V"⟩
abbrev cX0_follow : ByteArray := prog_2_method_12_code
def yX0_follow : MethodName := ⟨RX0, "follow", "()V"⟩
abbrev cX0_lowestOnward : ByteArray := prog_2_method_13_code
def yX0_lowestOnward : MethodName := ⟨RX0, "lowestOnward", "(II)I"⟩
abbrev cX0_reachAt : ByteArray := prog_2_method_14_code
def yX0_reachAt : MethodName := ⟨RX0, "reachAt", "(II)I"⟩
def RX1 : String := "LevelledInk$Binary"
def TX1 : u_T := fun k => match k with
  | _ => ("", "", "", false)
def tyX1 : Nat → FieldType := fun k => match k with
  | _ => .int
abbrev wsX10 : List Cond := u_ws RX1 TX1 0
theorem nmX1 : ∀ a, a < 0 → ∀ b, b < 0 → a ≠ b → (TX1 a).2.1 ≠ (TX1 b).2.1 := by decide +kernel
theorem tyX1_ok : ∀ k, k < 0 → parseFieldDescriptor (TX1 k).2.2.1 = some (tyX1 k) := by decide +kernel
abbrev cX1_nearestDouble : ByteArray := prog_3_method_2_code
def yX1_nearestDouble : MethodName := ⟨RX1, "nearestDouble", "(II)J"⟩
abbrev cX1_nearestFloat : ByteArray := prog_3_method_3_code
def yX1_nearestFloat : MethodName := ⟨RX1, "nearestFloat", "(II)I"⟩
abbrev cX1_doubleAboveWhole : ByteArray := prog_3_method_4_code
def yX1_doubleAboveWhole : MethodName := ⟨RX1, "doubleAboveWhole", "(J)J"⟩
abbrev cX1_nearest : ByteArray := prog_3_method_5_code
def yX1_nearest : MethodName := ⟨RX1, "nearest", "(JJII)J"⟩
abbrev cX1_packed : ByteArray := prog_3_method_6_code
def yX1_packed : MethodName := ⟨RX1, "packed", "(IJII)J"⟩
def RX2 : String := "LevelledInk$Card"
def TX2 : u_T := fun k => match k with
  | 0 => ("LevelledInk$Card", "places", "[I", true)
  | 1 => ("LevelledInk$Card", "sort", "I", false)
  | _ => ("LevelledInk$Card", "length", "I", false)
def tyX2 : Nat → FieldType := fun k => match k with
  | 0 => .array .int
  | 1 => .int
  | _ => .int
abbrev wsX20 : List Cond := u_ws RX2 TX2 3
theorem nmX2 : ∀ a, a < 3 → ∀ b, b < 3 → a ≠ b → (TX2 a).2.1 ≠ (TX2 b).2.1 := by decide +kernel
theorem tyX2_ok : ∀ k, k < 3 → parseFieldDescriptor (TX2 k).2.2.1 = some (tyX2 k) := by decide +kernel
abbrev cX2_init : ByteArray := prog_4_method_1_code
def yX2_init : MethodName := ⟨RX2, "<init>", "()V"⟩
abbrev cX2_isNothing : ByteArray := prog_4_method_2_code
def yX2_isNothing : MethodName := ⟨RX2, "isNothing", "()Z"⟩
abbrev cX2_drop : ByteArray := prog_4_method_3_code
def yX2_drop : MethodName := ⟨RX2, "drop", "()V"⟩
abbrev cX2_renew : ByteArray := prog_4_method_4_code
def yX2_renew : MethodName := ⟨RX2, "renew", "(II)V"⟩
abbrev cX2_hasPlace : ByteArray := prog_4_method_5_code
def yX2_hasPlace : MethodName := ⟨RX2, "hasPlace", "(I)Z"⟩
abbrev cX2_number : ByteArray := prog_4_method_6_code
def yX2_number : MethodName := ⟨RX2, "number", "(I)I"⟩
abbrev cX2_write : ByteArray := prog_4_method_7_code
def yX2_write : MethodName := ⟨RX2, "write", "(II)V"⟩
abbrev cX2_faultAt : ByteArray := prog_4_method_8_code
def yX2_faultAt : MethodName := ⟨RX2, "faultAt", "(I)I"⟩
abbrev cX2_faultOfCopy : ByteArray := prog_4_method_9_code
def yX2_faultOfCopy : MethodName := ⟨RX2, "faultOfCopy", "(ILLevelledInk$Card;II)I"⟩
abbrev cX2_copyTo : ByteArray := prog_4_method_10_code
def yX2_copyTo : MethodName := ⟨RX2, "copyTo", "(ILLevelledInk$Card;II)V"⟩
abbrev cX2_hasPart : ByteArray := prog_4_method_11_code
def yX2_hasPart : MethodName := ⟨RX2, "hasPart", "(II)Z"⟩
abbrev cX2_cut : ByteArray := prog_4_method_12_code
def yX2_cut : MethodName := ⟨RX2, "cut", "(I)I"⟩
def RX3 : String := "LevelledInk$Shears"
def TX3 : u_T := fun k => match k with
  | 0 => ("LevelledInk$Shears", "counts", "[I", true)
  | 1 => ("LevelledInk$Shears", "order", "[I", true)
  | 2 => ("LevelledInk$Shears", "seen", "[Z", true)
  | 3 => ("LevelledInk$Shears", "attempts", "I", false)
  | 4 => ("LevelledInk$Shears", "sharpest", "I", false)
  | _ => ("LevelledInk$Shears", "greatest", "I", false)
def tyX3 : Nat → FieldType := fun k => match k with
  | 0 => .array .int
  | 1 => .array .int
  | 2 => .array .boolean
  | 3 => .int
  | 4 => .int
  | _ => .int
abbrev wsX30 : List Cond := u_ws RX3 TX3 6
theorem nmX3 : ∀ a, a < 6 → ∀ b, b < 6 → a ≠ b → (TX3 a).2.1 ≠ (TX3 b).2.1 := by decide +kernel
theorem tyX3_ok : ∀ k, k < 6 → parseFieldDescriptor (TX3 k).2.2.1 = some (tyX3 k) := by decide +kernel
abbrev cX3_init : ByteArray := prog_5_method_1_code
def yX3_init : MethodName := ⟨RX3, "<init>", "()V"⟩
abbrev cX3_attempts : ByteArray := prog_5_method_2_code
def yX3_attempts : MethodName := ⟨RX3, "attempts", "()I"⟩
abbrev cX3_attempt : ByteArray := prog_5_method_3_code
def yX3_attempt : MethodName := ⟨RX3, "attempt", "(I)I"⟩
abbrev cX3_sharpest : ByteArray := prog_5_method_4_code
def yX3_sharpest : MethodName := ⟨RX3, "sharpest", "()I"⟩
abbrev cX3_countAt : ByteArray := prog_5_method_5_code
def yX3_countAt : MethodName := ⟨RX3, "countAt", "(LLevelledInk$Sheet;III)I"⟩
abbrev cX3_sharpness : ByteArray := prog_5_method_6_code
def yX3_sharpness : MethodName := ⟨RX3, "sharpness", "(LLevelledInk$Sheet;II)I"⟩
abbrev cX3_tryAll : ByteArray := prog_5_method_7_code
def yX3_tryAll : MethodName := ⟨RX3, "tryAll", "(LLevelledInk$Sheet;I)V"⟩
abbrev cX3_search : ByteArray := prog_5_method_8_code
def yX3_search : MethodName := ⟨RX3, "search", "(LLevelledInk$Sheet;I)V"⟩
abbrev cX3_begin : ByteArray := prog_5_method_9_code
def yX3_begin : MethodName := ⟨RX3, "begin", "()V"⟩
abbrev cX3_attemptAt : ByteArray := prog_5_method_10_code
def yX3_attemptAt : MethodName := ⟨RX3, "attemptAt", "(LLevelledInk$Sheet;II)V"⟩
abbrev cX3_isBetter : ByteArray := prog_5_method_11_code
def yX3_isBetter : MethodName := ⟨RX3, "isBetter", "(II)Z"⟩
abbrev cX3_tally : ByteArray := prog_5_method_12_code
def yX3_tally : MethodName := ⟨RX3, "tally", "(LLevelledInk$Sheet;II)V"⟩
abbrev cX3_countIn : ByteArray := prog_5_method_13_code
def yX3_countIn : MethodName := ⟨RX3, "countIn", "(I)V"⟩
def RX4 : String := "LevelledInk$Sheet"
def TX4 : u_T := fun k => match k with
  | 0 => ("LevelledInk$Sheet", "columns", "[I", true)
  | 1 => ("LevelledInk$Sheet", "fresh", "[I", true)
  | 2 => ("LevelledInk$Sheet", "earlier", "[[I", true)
  | 3 => ("LevelledInk$Sheet", "width", "I", false)
  | 4 => ("LevelledInk$Sheet", "kept", "I", false)
  | _ => ("LevelledInk$Sheet", "next", "I", false)
def tyX4 : Nat → FieldType := fun k => match k with
  | 0 => .array .int
  | 1 => .array .int
  | 2 => .array (.array .int)
  | 3 => .int
  | 4 => .int
  | _ => .int
abbrev wsX40 : List Cond := u_ws RX4 TX4 6
theorem nmX4 : ∀ a, a < 6 → ∀ b, b < 6 → a ≠ b → (TX4 a).2.1 ≠ (TX4 b).2.1 := by decide +kernel
theorem tyX4_ok : ∀ k, k < 6 → parseFieldDescriptor (TX4 k).2.2.1 = some (tyX4 k) := by decide +kernel
abbrev cX4_init : ByteArray := prog_6_method_1_code
def yX4_init : MethodName := ⟨RX4, "<init>", "()V"⟩
abbrev cX4_width : ByteArray := prog_6_method_2_code
def yX4_width : MethodName := ⟨RX4, "width", "()I"⟩
abbrev cX4_hasColumn : ByteArray := prog_6_method_3_code
def yX4_hasColumn : MethodName := ⟨RX4, "hasColumn", "(I)Z"⟩
abbrev cX4_dots : ByteArray := prog_6_method_4_code
def yX4_dots : MethodName := ⟨RX4, "dots", "(I)I"⟩
abbrev cX4_inked : ByteArray := prog_6_method_5_code
def yX4_inked : MethodName := ⟨RX4, "inked", "(II)Z"⟩
abbrev cX4_draw : ByteArray := prog_6_method_6_code
def yX4_draw : MethodName := ⟨RX4, "draw", "(IIZ)V"⟩
abbrev cX4_renew : ByteArray := prog_6_method_7_code
def yX4_renew : MethodName := ⟨RX4, "renew", "(I)V"⟩
abbrev cX4_ink : ByteArray := prog_6_method_8_code
def yX4_ink : MethodName := ⟨RX4, "ink", "()I"⟩
abbrev cX4_inkOfRow : ByteArray := prog_6_method_9_code
def yX4_inkOfRow : MethodName := ⟨RX4, "inkOfRow", "(I)I"⟩
abbrev cX4_feet : ByteArray := prog_6_method_10_code
def yX4_feet : MethodName := ⟨RX4, "feet", "(I)I"⟩
abbrev cX4_allFeet : ByteArray := prog_6_method_11_code
def yX4_allFeet : MethodName := ⟨RX4, "allFeet", "()I"⟩
abbrev cX4_moves : ByteArray := prog_6_method_12_code
def yX4_moves : MethodName := ⟨RX4, "moves", "()I"⟩
abbrev cX4_forgetMoves : ByteArray := prog_6_method_13_code
def yX4_forgetMoves : MethodName := ⟨RX4, "forgetMoves", "()V"⟩
abbrev cX4_takeBack : ByteArray := prog_6_method_14_code
def yX4_takeBack : MethodName := ⟨RX4, "takeBack", "()V"⟩
abbrev cX4_slideColumns : ByteArray := prog_6_method_15_code
def yX4_slideColumns : MethodName := ⟨RX4, "slideColumns", "([I)I"⟩
abbrev cX4_slideRows : ByteArray := prog_6_method_16_code
def yX4_slideRows : MethodName := ⟨RX4, "slideRows", "([I)I"⟩
abbrev cX4_raised : ByteArray := prog_6_method_17_code
def yX4_raised : MethodName := ⟨RX4, "raised", "(II)I"⟩
abbrev cX4_finishMove : ByteArray := prog_6_method_18_code
def yX4_finishMove : MethodName := ⟨RX4, "finishMove", "()V"⟩
def RX5 : String := "LevelledInk$Strokes"
def TX5 : u_T := fun k => match k with
  | 0 => ("LevelledInk$Strokes", "rows", "[I", true)
  | 1 => ("LevelledInk$Strokes", "firsts", "[I", true)
  | 2 => ("LevelledInk$Strokes", "lasts", "[I", true)
  | 3 => ("LevelledInk$Strokes", "links", "[I", true)
  | 4 => ("LevelledInk$Strokes", "numbers", "[I", true)
  | 5 => ("LevelledInk$Strokes", "runs", "I", false)
  | _ => ("LevelledInk$Strokes", "count", "I", false)
def tyX5 : Nat → FieldType := fun k => match k with
  | 0 => .array .int
  | 1 => .array .int
  | 2 => .array .int
  | 3 => .array .int
  | 4 => .array .int
  | 5 => .int
  | _ => .int
abbrev wsX50 : List Cond := u_ws RX5 TX5 7
theorem nmX5 : ∀ a, a < 7 → ∀ b, b < 7 → a ≠ b → (TX5 a).2.1 ≠ (TX5 b).2.1 := by decide +kernel
theorem tyX5_ok : ∀ k, k < 7 → parseFieldDescriptor (TX5 k).2.2.1 = some (tyX5 k) := by decide +kernel
abbrev cX5_init : ByteArray := prog_7_method_1_code
def yX5_init : MethodName := ⟨RX5, "<init>", "()V"⟩
abbrev cX5_find : ByteArray := prog_7_method_2_code
def yX5_find : MethodName := ⟨RX5, "find", "(LLevelledInk$Sheet;)V"⟩
abbrev cX5_runs : ByteArray := prog_7_method_3_code
def yX5_runs : MethodName := ⟨RX5, "runs", "()I"⟩
abbrev cX5_count : ByteArray := prog_7_method_4_code
def yX5_count : MethodName := ⟨RX5, "count", "()I"⟩
abbrev cX5_rowOf : ByteArray := prog_7_method_5_code
def yX5_rowOf : MethodName := ⟨RX5, "rowOf", "(I)I"⟩
abbrev cX5_firstOf : ByteArray := prog_7_method_6_code
def yX5_firstOf : MethodName := ⟨RX5, "firstOf", "(I)I"⟩
abbrev cX5_dotsOf : ByteArray := prog_7_method_7_code
def yX5_dotsOf : MethodName := ⟨RX5, "dotsOf", "(I)I"⟩
abbrev cX5_strokeOf : ByteArray := prog_7_method_8_code
def yX5_strokeOf : MethodName := ⟨RX5, "strokeOf", "(I)I"⟩
abbrev cX5_dotsTogether : ByteArray := prog_7_method_9_code
def yX5_dotsTogether : MethodName := ⟨RX5, "dotsTogether", "(I)I"⟩
abbrev cX5_runsTogether : ByteArray := prog_7_method_10_code
def yX5_runsTogether : MethodName := ⟨RX5, "runsTogether", "(I)I"⟩
abbrev cX5_leastRow : ByteArray := prog_7_method_11_code
def yX5_leastRow : MethodName := ⟨RX5, "leastRow", "(I)I"⟩
abbrev cX5_greatestRow : ByteArray := prog_7_method_12_code
def yX5_greatestRow : MethodName := ⟨RX5, "greatestRow", "(I)I"⟩
abbrev cX5_leastColumn : ByteArray := prog_7_method_13_code
def yX5_leastColumn : MethodName := ⟨RX5, "leastColumn", "(I)I"⟩
abbrev cX5_greatestColumn : ByteArray := prog_7_method_14_code
def yX5_greatestColumn : MethodName := ⟨RX5, "greatestColumn", "(I)I"⟩
abbrev cX5_least : ByteArray := prog_7_method_15_code
def yX5_least : MethodName := ⟨RX5, "least", "([II)I"⟩
abbrev cX5_greatest : ByteArray := prog_7_method_16_code
def yX5_greatest : MethodName := ⟨RX5, "greatest", "([II)I"⟩
abbrev cX5_isRun : ByteArray := prog_7_method_17_code
def yX5_isRun : MethodName := ⟨RX5, "isRun", "(I)Z"⟩
abbrev cX5_addRuns : ByteArray := prog_7_method_18_code
def yX5_addRuns : MethodName := ⟨RX5, "addRuns", "(LLevelledInk$Sheet;I)V"⟩
abbrev cX5_linkRows : ByteArray := prog_7_method_19_code
def yX5_linkRows : MethodName := ⟨RX5, "linkRows", "(II)V"⟩
abbrev cX5_join : ByteArray := prog_7_method_20_code
def yX5_join : MethodName := ⟨RX5, "join", "(II)V"⟩
abbrev cX5_firstRun : ByteArray := prog_7_method_21_code
def yX5_firstRun : MethodName := ⟨RX5, "firstRun", "(I)I"⟩
abbrev cX5_numberStrokes : ByteArray := prog_7_method_22_code
def yX5_numberStrokes : MethodName := ⟨RX5, "numberStrokes", "()V"⟩
def RX6 : String := "LevelledInk"
def TX6 : u_T := fun k => match k with
  | 0 => ("LevelledInk", "sheet", "LLevelledInk$Sheet;", true)
  | 1 => ("LevelledInk", "cards", "[LLevelledInk$Card;", true)
  | 2 => ("LevelledInk", "shears", "LLevelledInk$Shears;", true)
  | 3 => ("LevelledInk", "strokes", "LLevelledInk$Strokes;", true)
  | 4 => ("LevelledInk", "line", "LLevelledInk$Baseline;", true)
  | 5 => ("LevelledInk", "slides", "[I", true)
  | _ => ("LevelledInk", "lastFault", "I", false)
def tyX6 : Nat → FieldType := fun k => match k with
  | 0 => .object "LevelledInk$Sheet"
  | 1 => .array (.object "LevelledInk$Card")
  | 2 => .object "LevelledInk$Shears"
  | 3 => .object "LevelledInk$Strokes"
  | 4 => .object "LevelledInk$Baseline"
  | 5 => .array .int
  | _ => .int
abbrev wsX60 : List Cond := u_ws RX6 TX6 7
theorem nmX6 : ∀ a, a < 7 → ∀ b, b < 7 → a ≠ b → (TX6 a).2.1 ≠ (TX6 b).2.1 := by decide +kernel
theorem tyX6_ok : ∀ k, k < 7 → parseFieldDescriptor (TX6 k).2.2.1 = some (tyX6 k) := by decide +kernel
abbrev cX6_init : ByteArray := prog_1_method_1_code
def yX6_init : MethodName := ⟨RX6, "<init>", "()V"⟩
abbrev cX6_page : ByteArray := prog_1_method_2_code
def yX6_page : MethodName := ⟨RX6, "page", "(I)I"⟩
abbrev cX6_dot : ByteArray := prog_1_method_3_code
def yX6_dot : MethodName := ⟨RX6, "dot", "(III)I"⟩
abbrev cX6_column : ByteArray := prog_1_method_4_code
def yX6_column : MethodName := ⟨RX6, "column", "(I)J"⟩
abbrev cX6_row : ByteArray := prog_1_method_5_code
def yX6_row : MethodName := ⟨RX6, "row", "(II)I"⟩
abbrev cX6_take : ByteArray := prog_1_method_6_code
def yX6_take : MethodName := ⟨RX6, "take", "(II)I"⟩
abbrev cX6_blank : ByteArray := prog_1_method_7_code
def yX6_blank : MethodName := ⟨RX6, "blank", "(III)I"⟩
abbrev cX6_put : ByteArray := prog_1_method_8_code
def yX6_put : MethodName := ⟨RX6, "put", "(III)I"⟩
abbrev cX6_get : ByteArray := prog_1_method_9_code
def yX6_get : MethodName := ⟨RX6, "get", "(II)J"⟩
abbrev cX6_copy : ByteArray := prog_1_method_10_code
def yX6_copy : MethodName := ⟨RX6, "copy", "(IIIII)I"⟩
abbrev cX6_lose : ByteArray := prog_1_method_11_code
def yX6_lose : MethodName := ⟨RX6, "lose", "(I)I"⟩
abbrev cX6_shift : ByteArray := prog_1_method_12_code
def yX6_shift : MethodName := ⟨RX6, "shift", "(III)I"⟩
abbrev cX6_profile : ByteArray := prog_1_method_13_code
def yX6_profile : MethodName := ⟨RX6, "profile", "(III)I"⟩
abbrev cX6_sharp : ByteArray := prog_1_method_14_code
def yX6_sharp : MethodName := ⟨RX6, "sharp", "(II)I"⟩
abbrev cX6_best : ByteArray := prog_1_method_15_code
def yX6_best : MethodName := ⟨RX6, "best", "(I)I"⟩
abbrev cX6_found : ByteArray := prog_1_method_16_code
def yX6_found : MethodName := ⟨RX6, "found", "(I)I"⟩
abbrev cX6_tried : ByteArray := prog_1_method_17_code
def yX6_tried : MethodName := ⟨RX6, "tried", "(II)I"⟩
abbrev cX6_shear : ByteArray := prog_1_method_18_code
def yX6_shear : MethodName := ⟨RX6, "shear", "(II)I"⟩
abbrev cX6_run : ByteArray := prog_1_method_19_code
def yX6_run : MethodName := ⟨RX6, "run", "(II)I"⟩
abbrev cX6_stroke : ByteArray := prog_1_method_20_code
def yX6_stroke : MethodName := ⟨RX6, "stroke", "(II)I"⟩
abbrev cX6_baseline : ByteArray := prog_1_method_21_code
def yX6_baseline : MethodName := ⟨RX6, "baseline", "(I)I"⟩
abbrev cX6_foot : ByteArray := prog_1_method_22_code
def yX6_foot : MethodName := ⟨RX6, "foot", "(I)I"⟩
abbrev cX6_curl : ByteArray := prog_1_method_23_code
def yX6_curl : MethodName := ⟨RX6, "curl", "(I)I"⟩
abbrev cX6_mean : ByteArray := prog_1_method_24_code
def yX6_mean : MethodName := ⟨RX6, "mean", "()J"⟩
abbrev cX6_rest : ByteArray := prog_1_method_25_code
def yX6_rest : MethodName := ⟨RX6, "rest", "()J"⟩
abbrev cX6_slope : ByteArray := prog_1_method_26_code
def yX6_slope : MethodName := ⟨RX6, "slope", "()I"⟩
abbrev cX6_level : ByteArray := prog_1_method_27_code
def yX6_level : MethodName := ⟨RX6, "level", "()I"⟩
abbrev cX6_back : ByteArray := prog_1_method_28_code
def yX6_back : MethodName := ⟨RX6, "back", "()I"⟩
abbrev cX6_fault : ByteArray := prog_1_method_29_code
def yX6_fault : MethodName := ⟨RX6, "fault", "()I"⟩
abbrev cX6_many : ByteArray := prog_1_method_30_code
def yX6_many : MethodName := ⟨RX6, "many", "(I)I"⟩
abbrev cX6_isRow : ByteArray := prog_1_method_31_code
def yX6_isRow : MethodName := ⟨RX6, "isRow", "(I)Z"⟩
abbrev cX6_isCard : ByteArray := prog_1_method_32_code
def yX6_isCard : MethodName := ⟨RX6, "isCard", "(I)Z"⟩
abbrev cX6_isAxis : ByteArray := prog_1_method_33_code
def yX6_isAxis : MethodName := ⟨RX6, "isAxis", "(I)Z"⟩
abbrev cX6_isShear : ByteArray := prog_1_method_34_code
def yX6_isShear : MethodName := ⟨RX6, "isShear", "(I)Z"⟩
abbrev cX6_failed : ByteArray := prog_1_method_35_code
def yX6_failed : MethodName := ⟨RX6, "failed", "(I)I"⟩
abbrev cX6_filledCards : ByteArray := prog_1_method_36_code
def yX6_filledCards : MethodName := ⟨RX6, "filledCards", "()I"⟩
abbrev cX6_shiftOf : ByteArray := prog_1_method_37_code
def yX6_shiftOf : MethodName := ⟨RX6, "shiftOf", "(III)I"⟩
def RX7 : String := "LevelledInkModel"
def TX7 : u_T := fun k => match k with
  | 0 => ("LevelledInkModel", "fault", "I", false)
  | 1 => ("LevelledInkModel", "width", "I", false)
  | 2 => ("LevelledInkModel", "ink", "[Z", true)
  | 3 => ("LevelledInkModel", "sortOf", "[I", true)
  | 4 => ("LevelledInkModel", "longOf", "[I", true)
  | 5 => ("LevelledInkModel", "card", "[I", true)
  | 6 => ("LevelledInkModel", "counts", "[I", true)
  | 7 => ("LevelledInkModel", "tries", "I", false)
  | 8 => ("LevelledInkModel", "tryOf", "[I", true)
  | 9 => ("LevelledInkModel", "sharpOf", "[I", true)
  | 10 => ("LevelledInkModel", "moves", "I", false)
  | 11 => ("LevelledInkModel", "kept", "[Z", true)
  | 12 => ("LevelledInkModel", "then", "[Z", true)
  | 13 => ("LevelledInkModel", "runs", "I", false)
  | 14 => ("LevelledInkModel", "runRow", "[I", true)
  | 15 => ("LevelledInkModel", "runFrom", "[I", true)
  | 16 => ("LevelledInkModel", "runLong", "[I", true)
  | 17 => ("LevelledInkModel", "strokeOf", "[I", true)
  | 18 => ("LevelledInkModel", "strokes", "I", false)
  | 19 => ("LevelledInkModel", "leads", "[I", true)
  | 20 => ("LevelledInkModel", "firstColumn", "I", false)
  | 21 => ("LevelledInkModel", "manyColumns", "I", false)
  | 22 => ("LevelledInkModel", "footOf", "[I", true)
  | 23 => ("LevelledInkModel", "curls", "[I", true)
  | 24 => ("LevelledInkModel", "figures", "J", false)
  | _ => ("LevelledInkModel", "power", "I", false)
def tyX7 : Nat → FieldType := fun k => match k with
  | 0 => .int
  | 1 => .int
  | 2 => .array .boolean
  | 3 => .array .int
  | 4 => .array .int
  | 5 => .array .int
  | 6 => .array .int
  | 7 => .int
  | 8 => .array .int
  | 9 => .array .int
  | 10 => .int
  | 11 => .array .boolean
  | 12 => .array .boolean
  | 13 => .int
  | 14 => .array .int
  | 15 => .array .int
  | 16 => .array .int
  | 17 => .array .int
  | 18 => .int
  | 19 => .array .int
  | 20 => .int
  | 21 => .int
  | 22 => .array .int
  | 23 => .array .int
  | 24 => .long
  | _ => .int
abbrev wsX70 : List Cond := u_ws RX7 TX7 26
theorem nmX7 : ∀ a, a < 26 → ∀ b, b < 26 → a ≠ b → (TX7 a).2.1 ≠ (TX7 b).2.1 := by decide +kernel
theorem tyX7_ok : ∀ k, k < 26 → parseFieldDescriptor (TX7 k).2.2.1 = some (tyX7 k) := by decide +kernel
abbrev cX7_init : ByteArray := prog_9_method_1_code
def yX7_init : MethodName := ⟨RX7, "<init>", "()V"⟩
abbrev cX7_refused : ByteArray := prog_9_method_2_code
def yX7_refused : MethodName := ⟨RX7, "refused", "(I)I"⟩
abbrev cX7_fails : ByteArray := prog_9_method_3_code
def yX7_fails : MethodName := ⟨RX7, "fails", "(I)I"⟩
abbrev cX7_within : ByteArray := prog_9_method_4_code
def yX7_within : MethodName := ⟨RX7, "within", "(III)Z"⟩
abbrev cX7_isColumn : ByteArray := prog_9_method_5_code
def yX7_isColumn : MethodName := ⟨RX7, "isColumn", "(I)Z"⟩
abbrev cX7_isRow : ByteArray := prog_9_method_6_code
def yX7_isRow : MethodName := ⟨RX7, "isRow", "(I)Z"⟩
abbrev cX7_isDot : ByteArray := prog_9_method_7_code
def yX7_isDot : MethodName := ⟨RX7, "isDot", "(II)Z"⟩
abbrev cX7_inkOf : ByteArray := prog_9_method_8_code
def yX7_inkOf : MethodName := ⟨RX7, "inkOf", "()I"⟩
abbrev cX7_page : ByteArray := prog_9_method_9_code
def yX7_page : MethodName := ⟨RX7, "page", "(I)I"⟩
abbrev cX7_dot : ByteArray := prog_9_method_10_code
def yX7_dot : MethodName := ⟨RX7, "dot", "(III)I"⟩
abbrev cX7_column : ByteArray := prog_9_method_11_code
def yX7_column : MethodName := ⟨RX7, "column", "(I)J"⟩
abbrev cX7_isCard : ByteArray := prog_9_method_12_code
def yX7_isCard : MethodName := ⟨RX7, "isCard", "(I)Z"⟩
abbrev cX7_cut : ByteArray := prog_9_method_13_code
def yX7_cut : MethodName := ⟨RX7, "cut", "(II)I"⟩
abbrev cX7_row : ByteArray := prog_9_method_14_code
def yX7_row : MethodName := ⟨RX7, "row", "(II)I"⟩
abbrev cX7_clears : ByteArray := prog_9_method_15_code
def yX7_clears : MethodName := ⟨RX7, "clears", "(III)V"⟩
abbrev cX7_take : ByteArray := prog_9_method_16_code
def yX7_take : MethodName := ⟨RX7, "take", "(II)I"⟩
abbrev cX7_blank : ByteArray := prog_9_method_17_code
def yX7_blank : MethodName := ⟨RX7, "blank", "(III)I"⟩
abbrev cX7_against : ByteArray := prog_9_method_18_code
def yX7_against : MethodName := ⟨RX7, "against", "(II)I"⟩
abbrev cX7_put : ByteArray := prog_9_method_19_code
def yX7_put : MethodName := ⟨RX7, "put", "(III)I"⟩
abbrev cX7_get : ByteArray := prog_9_method_20_code
def yX7_get : MethodName := ⟨RX7, "get", "(II)J"⟩
abbrev cX7_copy : ByteArray := prog_9_method_21_code
def yX7_copy : MethodName := ⟨RX7, "copy", "(IIIII)I"⟩
abbrev cX7_lose : ByteArray := prog_9_method_22_code
def yX7_lose : MethodName := ⟨RX7, "lose", "(I)I"⟩
abbrev cX7_down : ByteArray := prog_9_method_23_code
def yX7_down : MethodName := ⟨RX7, "down", "(II)I"⟩
abbrev cX7_rounded : ByteArray := prog_9_method_24_code
def yX7_rounded : MethodName := ⟨RX7, "rounded", "(II)I"⟩
abbrev cX7_isAxis : ByteArray := prog_9_method_25_code
def yX7_isAxis : MethodName := ⟨RX7, "isAxis", "(I)Z"⟩
abbrev cX7_isShear : ByteArray := prog_9_method_26_code
def yX7_isShear : MethodName := ⟨RX7, "isShear", "(I)Z"⟩
abbrev cX7_shiftOf : ByteArray := prog_9_method_27_code
def yX7_shiftOf : MethodName := ⟨RX7, "shiftOf", "(III)I"⟩
abbrev cX7_sheared : ByteArray := prog_9_method_28_code
def yX7_sheared : MethodName := ⟨RX7, "sheared", "(IIII)I"⟩
abbrev cX7_shift : ByteArray := prog_9_method_29_code
def yX7_shift : MethodName := ⟨RX7, "shift", "(III)I"⟩
abbrev cX7_findProfile : ByteArray := prog_9_method_30_code
def yX7_findProfile : MethodName := ⟨RX7, "findProfile", "(II)V"⟩
abbrev cX7_profile : ByteArray := prog_9_method_31_code
def yX7_profile : MethodName := ⟨RX7, "profile", "(III)I"⟩
abbrev cX7_sharpness : ByteArray := prog_9_method_32_code
def yX7_sharpness : MethodName := ⟨RX7, "sharpness", "(II)I"⟩
abbrev cX7_sharp : ByteArray := prog_9_method_33_code
def yX7_sharp : MethodName := ⟨RX7, "sharp", "(II)I"⟩
abbrev cX7_far : ByteArray := prog_9_method_34_code
def yX7_far : MethodName := ⟨RX7, "far", "(I)I"⟩
abbrev cX7_isAhead : ByteArray := prog_9_method_35_code
def yX7_isAhead : MethodName := ⟨RX7, "isAhead", "(IIII)Z"⟩
abbrev cX7_tryIt : ByteArray := prog_9_method_36_code
def yX7_tryIt : MethodName := ⟨RX7, "tryIt", "(II)V"⟩
abbrev cX7_bestTried : ByteArray := prog_9_method_37_code
def yX7_bestTried : MethodName := ⟨RX7, "bestTried", "()I"⟩
abbrev cX7_best : ByteArray := prog_9_method_38_code
def yX7_best : MethodName := ⟨RX7, "best", "(I)I"⟩
abbrev cX7_search : ByteArray := prog_9_method_39_code
def yX7_search : MethodName := ⟨RX7, "search", "(I)V"⟩
abbrev cX7_found : ByteArray := prog_9_method_40_code
def yX7_found : MethodName := ⟨RX7, "found", "(I)I"⟩
abbrev cX7_tried : ByteArray := prog_9_method_41_code
def yX7_tried : MethodName := ⟨RX7, "tried", "(II)I"⟩
abbrev cX7_keeps : ByteArray := prog_9_method_42_code
def yX7_keeps : MethodName := ⟨RX7, "keeps", "()V"⟩
abbrev cX7_goesTo : ByteArray := prog_9_method_43_code
def yX7_goesTo : MethodName := ⟨RX7, "goesTo", "(IIII)I"⟩
abbrev cX7_moveAll : ByteArray := prog_9_method_44_code
def yX7_moveAll : MethodName := ⟨RX7, "moveAll", "(II)I"⟩
abbrev cX7_shear : ByteArray := prog_9_method_45_code
def yX7_shear : MethodName := ⟨RX7, "shear", "(II)I"⟩
abbrev cX7_back : ByteArray := prog_9_method_46_code
def yX7_back : MethodName := ⟨RX7, "back", "()I"⟩
abbrev cX7_findRuns : ByteArray := prog_9_method_47_code
def yX7_findRuns : MethodName := ⟨RX7, "findRuns", "()V"⟩
abbrev cX7_areTouching : ByteArray := prog_9_method_48_code
def yX7_areTouching : MethodName := ⟨RX7, "areTouching", "(II)Z"⟩
abbrev cX7_spreads : ByteArray := prog_9_method_49_code
def yX7_spreads : MethodName := ⟨RX7, "spreads", "(I)V"⟩
abbrev cX7_findStrokes : ByteArray := prog_9_method_50_code
def yX7_findStrokes : MethodName := ⟨RX7, "findStrokes", "()V"⟩
abbrev cX7_run : ByteArray := prog_9_method_51_code
def yX7_run : MethodName := ⟨RX7, "run", "(II)I"⟩
abbrev cX7_stroke : ByteArray := prog_9_method_52_code
def yX7_stroke : MethodName := ⟨RX7, "stroke", "(II)I"⟩
abbrev cX7_isFoot : ByteArray := prog_9_method_53_code
def yX7_isFoot : MethodName := ⟨RX7, "isFoot", "(II)Z"⟩
abbrev cX7_leadsAt : ByteArray := prog_9_method_54_code
def yX7_leadsAt : MethodName := ⟨RX7, "leadsAt", "(II)I"⟩
abbrev cX7_findLeads : ByteArray := prog_9_method_55_code
def yX7_findLeads : MethodName := ⟨RX7, "findLeads", "()V"⟩
abbrev cX7_lowest : ByteArray := prog_9_method_56_code
def yX7_lowest : MethodName := ⟨RX7, "lowest", "(IIII)I"⟩
abbrev cX7_findBaseline : ByteArray := prog_9_method_57_code
def yX7_findBaseline : MethodName := ⟨RX7, "findBaseline", "()V"⟩
abbrev cX7_rowsTogether : ByteArray := prog_9_method_58_code
def yX7_rowsTogether : MethodName := ⟨RX7, "rowsTogether", "()I"⟩
abbrev cX7_levelOf : ByteArray := prog_9_method_59_code
def yX7_levelOf : MethodName := ⟨RX7, "levelOf", "()I"⟩
abbrev cX7_curlOf : ByteArray := prog_9_method_60_code
def yX7_curlOf : MethodName := ⟨RX7, "curlOf", "(I)I"⟩
abbrev cX7_findCurls : ByteArray := prog_9_method_61_code
def yX7_findCurls : MethodName := ⟨RX7, "findCurls", "()V"⟩
abbrev cX7_baseline : ByteArray := prog_9_method_62_code
def yX7_baseline : MethodName := ⟨RX7, "baseline", "(I)I"⟩
abbrev cX7_foot : ByteArray := prog_9_method_63_code
def yX7_foot : MethodName := ⟨RX7, "foot", "(I)I"⟩
abbrev cX7_curl : ByteArray := prog_9_method_64_code
def yX7_curl : MethodName := ⟨RX7, "curl", "(I)I"⟩
abbrev cX7_level : ByteArray := prog_9_method_65_code
def yX7_level : MethodName := ⟨RX7, "level", "()I"⟩
abbrev cX7_nearest : ByteArray := prog_9_method_66_code
def yX7_nearest : MethodName := ⟨RX7, "nearest", "(III)V"⟩
abbrev cX7_bits : ByteArray := prog_9_method_67_code
def yX7_bits : MethodName := ⟨RX7, "bits", "(II)J"⟩
abbrev cX7_mean : ByteArray := prog_9_method_68_code
def yX7_mean : MethodName := ⟨RX7, "mean", "()J"⟩
abbrev cX7_rest : ByteArray := prog_9_method_69_code
def yX7_rest : MethodName := ⟨RX7, "rest", "()J"⟩
abbrev cX7_slope : ByteArray := prog_9_method_70_code
def yX7_slope : MethodName := ⟨RX7, "slope", "()I"⟩
abbrev cX7_fault : ByteArray := prog_9_method_71_code
def yX7_fault : MethodName := ⟨RX7, "fault", "()I"⟩
abbrev cX7_feet : ByteArray := prog_9_method_72_code
def yX7_feet : MethodName := ⟨RX7, "feet", "()I"⟩
abbrev cX7_many : ByteArray := prog_9_method_73_code
def yX7_many : MethodName := ⟨RX7, "many", "(I)I"⟩
def RJ6 : String := "java/lang/Integer"
def TJ6 : u_T := fun k => match k with
  | _ => ("", "", "", false)
def tyJ6 : Nat → FieldType := fun k => match k with
  | _ => .int
abbrev wsJ60 : List Cond := u_ws RJ6 TJ6 0
theorem nmJ6 : ∀ a, a < 0 → ∀ b, b < 0 → a ≠ b → (TJ6 a).2.1 ≠ (TJ6 b).2.1 := by decide +kernel
theorem tyJ6_ok : ∀ k, k < 0 → parseFieldDescriptor (TJ6 k).2.2.1 = some (tyJ6 k) := by decide +kernel
abbrev cJ6_bitCount_0f7a4 : ByteArray := prog_10_method_49_code
def yJ6_bitCount_0f7a4 : MethodName := ⟨RJ6, "bitCount", "(I)I"⟩
def RJ9 : String := "java/lang/Math"
def TJ9 : u_T := fun k => match k with
  | _ => ("", "", "", false)
def tyJ9 : Nat → FieldType := fun k => match k with
  | _ => .int
abbrev wsJ90 : List Cond := u_ws RJ9 TJ9 0
theorem nmJ9 : ∀ a, a < 0 → ∀ b, b < 0 → a ≠ b → (TJ9 a).2.1 ≠ (TJ9 b).2.1 := by decide +kernel
theorem tyJ9_ok : ∀ k, k < 0 → parseFieldDescriptor (TJ9 k).2.2.1 = some (tyJ9 k) := by decide +kernel
abbrev cJ9_floorDiv_7cf53 : ByteArray := prog_11_method_47_code
def yJ9_floorDiv_7cf53 : MethodName := ⟨RJ9, "floorDiv", "(II)I"⟩
abbrev cJ9_abs_0f7a4 : ByteArray := prog_11_method_59_code
def yJ9_abs_0f7a4 : MethodName := ⟨RJ9, "abs", "(I)I"⟩
abbrev cJ9_abs_067f4 : ByteArray := prog_11_method_61_code
def yJ9_abs_067f4 : MethodName := ⟨RJ9, "abs", "(J)J"⟩
abbrev cJ9_max_7cf53 : ByteArray := prog_11_method_65_code
def yJ9_max_7cf53 : MethodName := ⟨RJ9, "max", "(II)I"⟩
abbrev cJ9_min_7cf53 : ByteArray := prog_11_method_69_code
def yJ9_min_7cf53 : MethodName := ⟨RJ9, "min", "(II)I"⟩
def RJ10 : String := "java/lang/System"
def TJ10 : u_T := fun k => match k with
  | _ => ("", "", "", false)
def tyJ10 : Nat → FieldType := fun k => match k with
  | _ => .int
abbrev wsJ100 : List Cond := u_ws RJ10 TJ10 0
theorem nmJ10 : ∀ a, a < 0 → ∀ b, b < 0 → a ≠ b → (TJ10 a).2.1 ≠ (TJ10 b).2.1 := by decide +kernel
theorem tyJ10_ok : ∀ k, k < 0 → parseFieldDescriptor (TJ10 k).2.2.1 = some (tyJ10 k) := by decide +kernel
def RJ7 : String := "java/util/Arrays"
def TJ7 : u_T := fun k => match k with
  | _ => ("", "", "", false)
def tyJ7 : Nat → FieldType := fun k => match k with
  | _ => .int
abbrev wsJ70 : List Cond := u_ws RJ7 TJ7 0
theorem nmJ7 : ∀ a, a < 0 → ∀ b, b < 0 → a ≠ b → (TJ7 a).2.1 ≠ (TJ7 b).2.1 := by decide +kernel
theorem tyJ7_ok : ∀ k, k < 0 → parseFieldDescriptor (TJ7 k).2.2.1 = some (tyJ7 k) := by decide +kernel
abbrev cJ7_fill_53178 : ByteArray := prog_13_method_103_code
def yJ7_fill_53178 : MethodName := ⟨RJ7, "fill", "([II)V"⟩
def RL : String := "LevelledInkLaw"
abbrev cL_law : ByteArray := code
def yL_law : MethodName := ⟨RL, "law", "([I)Z"⟩
def wsL_law_r1 : List Cond := [Cond.classLink RL 7 RX6, Cond.instantiable RX6 7, Cond.initialized RX6, Cond.classLink RL 10 RX7, Cond.instantiable RX7 26, Cond.initialized RX7, Cond.methodLink RL 9 yX6_init, Cond.instanceMethod yX6_init, Cond.code yX6_init cX6_init 2 none, Cond.methodLink RX6 3 objectInit, Cond.instanceMethod objectInit, Cond.code objectInit ⟨#[0xb1]⟩ 1 none, Cond.classLink RX6 9 RX4, Cond.instantiable RX4 6, Cond.initialized RX4, Cond.fieldLink RX6 12 "LevelledInk" "sheet" "LLevelledInk$Sheet;", Cond.classLink RX6 18 RX2, Cond.fieldLink RX6 20 "LevelledInk" "cards" "[LLevelledInk$Card;", Cond.classLink RX6 24 RX3, Cond.instantiable RX3 6, Cond.initialized RX3, Cond.fieldLink RX6 27 "LevelledInk" "shears" "LLevelledInk$Shears;", Cond.classLink RX6 31 RX5, Cond.instantiable RX5 7]
def wsL_law_r2 : List Cond := [Cond.initialized RX5, Cond.fieldLink RX6 34 "LevelledInk" "strokes" "LLevelledInk$Strokes;", Cond.classLink RX6 38 RX0, Cond.instantiable RX0 7, Cond.initialized RX0, Cond.fieldLink RX6 41 "LevelledInk" "line" "LLevelledInk$Baseline;", Cond.arrayClass .int, Cond.fieldLink RX6 45 "LevelledInk" "slides" "[I", Cond.fieldLink RX6 49 "LevelledInk" "lastFault" "I", Cond.instantiable RX2 3, Cond.initialized RX2, Cond.instanceMethod yX4_init, Cond.code yX4_init cX4_init 1 none, Cond.methodLink RX4 3 objectInit, Cond.fieldLink RX4 9 "LevelledInk$Sheet" "columns" "[I", Cond.fieldLink RX4 15 "LevelledInk$Sheet" "fresh" "[I", Cond.classLink RX4 18 "[[I", Cond.fieldLink RX4 20 "LevelledInk$Sheet" "earlier" "[[I", Cond.fieldLink RX4 23 "LevelledInk$Sheet" "width" "I", Cond.fieldLink RX4 27 "LevelledInk$Sheet" "kept" "I", Cond.fieldLink RX4 30 "LevelledInk$Sheet" "next" "I", Cond.instanceMethod yX3_init, Cond.code yX3_init cX3_init 1 none, Cond.methodLink RX3 3 objectInit]
def wsL_law_r3 : List Cond := [Cond.fieldLink RX3 11 "LevelledInk$Shears" "counts" "[I", Cond.fieldLink RX3 15 "LevelledInk$Shears" "order" "[I", Cond.arrayClass .boolean, Cond.fieldLink RX3 18 "LevelledInk$Shears" "seen" "[Z", Cond.fieldLink RX3 22 "LevelledInk$Shears" "attempts" "I", Cond.fieldLink RX3 26 "LevelledInk$Shears" "sharpest" "I", Cond.fieldLink RX3 29 "LevelledInk$Shears" "greatest" "I", Cond.instanceMethod yX5_init, Cond.code yX5_init cX5_init 1 none, Cond.methodLink RX5 3 objectInit, Cond.fieldLink RX5 11 "LevelledInk$Strokes" "rows" "[I", Cond.fieldLink RX5 15 "LevelledInk$Strokes" "firsts" "[I", Cond.fieldLink RX5 18 "LevelledInk$Strokes" "lasts" "[I", Cond.fieldLink RX5 21 "LevelledInk$Strokes" "links" "[I", Cond.fieldLink RX5 24 "LevelledInk$Strokes" "numbers" "[I", Cond.fieldLink RX5 27 "LevelledInk$Strokes" "runs" "I", Cond.fieldLink RX5 31 "LevelledInk$Strokes" "count" "I", Cond.instanceMethod yX0_init, Cond.code yX0_init cX0_init 1 none, Cond.methodLink RX0 3 objectInit, Cond.classLink RX0 9 "[[I", Cond.fieldLink RX0 11 "LevelledInk$Baseline" "reach" "[[I", Cond.fieldLink RX0 16 "LevelledInk$Baseline" "rows" "[I", Cond.fieldLink RX0 20 "LevelledInk$Baseline" "width" "I"]
def wsL_law_r4 : List Cond := [Cond.fieldLink RX0 24 "LevelledInk$Baseline" "first" "I", Cond.fieldLink RX0 27 "LevelledInk$Baseline" "length" "I", Cond.fieldLink RX0 30 "LevelledInk$Baseline" "firstRow" "I", Cond.fieldLink RX0 33 "LevelledInk$Baseline" "sum" "I", Cond.instanceMethod yX2_init, Cond.code yX2_init cX2_init 1 none, Cond.methodLink RX2 3 objectInit, Cond.fieldLink RX2 9 "LevelledInk$Card" "places" "[I", Cond.fieldLink RX2 15 "LevelledInk$Card" "sort" "I", Cond.fieldLink RX2 19 "LevelledInk$Card" "length" "I", Cond.methodLink RL 12 yX7_init, Cond.instanceMethod yX7_init, Cond.code yX7_init cX7_init 1 none, Cond.methodLink RX7 1 objectInit, Cond.fieldLink RX7 7 "LevelledInkModel" "width" "I", Cond.fieldLink RX7 13 "LevelledInkModel" "ink" "[Z", Cond.fieldLink RX7 17 "LevelledInkModel" "sortOf" "[I", Cond.fieldLink RX7 21 "LevelledInkModel" "longOf" "[I", Cond.fieldLink RX7 24 "LevelledInkModel" "card" "[I", Cond.fieldLink RX7 27 "LevelledInkModel" "counts" "[I", Cond.fieldLink RX7 30 "LevelledInkModel" "tryOf" "[I", Cond.fieldLink RX7 33 "LevelledInkModel" "sharpOf" "[I", Cond.fieldLink RX7 36 "LevelledInkModel" "kept" "[Z", Cond.fieldLink RX7 39 "LevelledInkModel" "then" "[Z"]
def wsL_law_r5 : List Cond := [Cond.fieldLink RX7 42 "LevelledInkModel" "runRow" "[I", Cond.fieldLink RX7 45 "LevelledInkModel" "runFrom" "[I", Cond.fieldLink RX7 48 "LevelledInkModel" "runLong" "[I", Cond.fieldLink RX7 51 "LevelledInkModel" "strokeOf" "[I", Cond.fieldLink RX7 54 "LevelledInkModel" "leads" "[I", Cond.fieldLink RX7 57 "LevelledInkModel" "footOf" "[I", Cond.fieldLink RX7 60 "LevelledInkModel" "curls" "[I", Cond.methodLink RL 13 yX6_page, Cond.instanceMethod yX6_page, Cond.selects RX6 yX6_page yX6_page, Cond.code yX6_page cX6_page 3 (some .int), Cond.methodLink RX6 54 yX4_ink, Cond.instanceMethod yX4_ink, Cond.selects RX4 yX4_ink yX4_ink, Cond.code yX4_ink cX4_ink 3 (some .int), Cond.methodLink RX4 62 yJ6_bitCount_0f7a4, Cond.static yJ6_bitCount_0f7a4, Cond.initialized RJ6, Cond.code yJ6_bitCount_0f7a4 cJ6_bitCount_0f7a4 1 (some .int), Cond.constant RJ6 265 (1431655765), Cond.constant RJ6 266 (858993459), Cond.constant RJ6 267 (252645135), Cond.methodLink RX6 58 yX4_renew, Cond.instanceMethod yX4_renew]
def wsL_law_r6 : List Cond := [Cond.selects RX4 yX4_renew yX4_renew, Cond.code yX4_renew cX4_renew 2 none, Cond.methodLink RX4 44 Lib.Math.min.name, Cond.static Lib.Math.min.name, Cond.initialized "java/lang/Math", Cond.code Lib.Math.min.name Lib.Math.min.code 2 (some .int), Cond.methodLink RX4 50 Lib.Math.max.name, Cond.static Lib.Math.max.name, Cond.code Lib.Math.max.name Lib.Math.max.code 2 (some .int), Cond.methodLink RX4 53 yJ7_fill_53178, Cond.static yJ7_fill_53178, Cond.initialized RJ7, Cond.code yJ7_fill_53178 cJ7_fill_53178 4 none, Cond.methodLink RX4 59 yX4_forgetMoves, Cond.instanceMethod yX4_forgetMoves, Cond.selects RX4 yX4_forgetMoves yX4_forgetMoves, Cond.code yX4_forgetMoves cX4_forgetMoves 1 none, Cond.methodLink RL 17 yX7_page, Cond.instanceMethod yX7_page, Cond.selects RX7 yX7_page yX7_page, Cond.code yX7_page cX7_page 4 (some .int), Cond.fieldLink RX7 81 "LevelledInkModel" "moves" "I", Cond.methodLink RX7 66 yX7_within, Cond.static yX7_within]
def wsL_law_r7 : List Cond := [Cond.code yX7_within cX7_within 3 (some .boolean), Cond.methodLink RX7 77 yX7_inkOf, Cond.instanceMethod yX7_inkOf, Cond.selects RX7 yX7_inkOf yX7_inkOf, Cond.code yX7_inkOf cX7_inkOf 3 (some .int), Cond.methodLink RL 18 yX6_dot, Cond.instanceMethod yX6_dot, Cond.selects RX6 yX6_dot yX6_dot, Cond.code yX6_dot cX6_dot 5 (some .int), Cond.methodLink RX6 62 yX4_hasColumn, Cond.instanceMethod yX4_hasColumn, Cond.selects RX4 yX4_hasColumn yX4_hasColumn, Cond.code yX4_hasColumn cX4_hasColumn 2 (some .boolean), Cond.methodLink RX6 66 yX6_isRow, Cond.static yX6_isRow, Cond.code yX6_isRow cX6_isRow 1 (some .boolean), Cond.methodLink RX6 69 yX4_inked, Cond.instanceMethod yX4_inked, Cond.selects RX4 yX4_inked yX4_inked, Cond.code yX4_inked cX4_inked 3 (some .boolean), Cond.methodLink RX4 40 yX4_dots, Cond.instanceMethod yX4_dots, Cond.selects RX4 yX4_dots yX4_dots, Cond.code yX4_dots cX4_dots 2 (some .int)]
def wsL_law_r8 : List Cond := [Cond.methodLink RX4 33 yX4_hasColumn, Cond.methodLink RX6 73 yX4_forgetMoves, Cond.methodLink RX6 76 yX4_draw, Cond.instanceMethod yX4_draw, Cond.selects RX4 yX4_draw yX4_draw, Cond.code yX4_draw cX4_draw 5 none, Cond.methodLink RL 22 yX7_dot, Cond.instanceMethod yX7_dot, Cond.selects RX7 yX7_dot yX7_dot, Cond.code yX7_dot cX7_dot 5 (some .int), Cond.methodLink RX7 70 yX7_isColumn, Cond.instanceMethod yX7_isColumn, Cond.selects RX7 yX7_isColumn yX7_isColumn, Cond.code yX7_isColumn cX7_isColumn 2 (some .boolean), Cond.methodLink RX7 74 yX7_isRow, Cond.static yX7_isRow, Cond.code yX7_isRow cX7_isRow 1 (some .boolean), Cond.methodLink RL 23 yX6_column, Cond.instanceMethod yX6_column, Cond.selects RX6 yX6_column yX6_column, Cond.code yX6_column cX6_column 2 (some .long), Cond.constantLong RX6 84 (4294967295), Cond.constantLong RX6 86 (-9223372036854775808), Cond.methodLink RX6 80 yX4_dots]
def wsL_law_r9 : List Cond := [Cond.methodLink RL 27 yX7_column, Cond.instanceMethod yX7_column, Cond.selects RX7 yX7_column yX7_column, Cond.code yX7_column cX7_column 5 (some .long), Cond.constantLong RX7 84 (-9223372036854775808), Cond.constantLong RX7 86 (2), Cond.methodLink RX7 88 yX7_isDot, Cond.instanceMethod yX7_isDot, Cond.selects RX7 yX7_isDot yX7_isDot, Cond.code yX7_isDot cX7_isDot 3 (some .boolean), Cond.methodLink RL 28 yX6_row, Cond.instanceMethod yX6_row, Cond.selects RX6 yX6_row yX6_row, Cond.code yX6_row cX6_row 5 (some .int), Cond.methodLink RX6 88 yX6_isCard, Cond.static yX6_isCard, Cond.code yX6_isCard cX6_isCard 1 (some .boolean), Cond.methodLink RX6 91 yX2_isNothing, Cond.instanceMethod yX2_isNothing, Cond.selects RX2 yX2_isNothing yX2_isNothing, Cond.code yX2_isNothing cX2_isNothing 1 (some .boolean), Cond.methodLink RX6 95 yX6_failed, Cond.instanceMethod yX6_failed, Cond.selects RX6 yX6_failed yX6_failed]
def wsL_law_r10 : List Cond := [Cond.code yX6_failed cX6_failed 2 (some .int), Cond.methodLink RX6 98 yX4_width, Cond.instanceMethod yX4_width, Cond.selects RX4 yX4_width yX4_width, Cond.code yX4_width cX4_width 1 (some .int), Cond.methodLink RX6 101 yX2_hasPlace, Cond.instanceMethod yX2_hasPlace, Cond.selects RX2 yX2_hasPlace yX2_hasPlace, Cond.code yX2_hasPlace cX2_hasPlace 2 (some .boolean), Cond.methodLink RX6 104 yX2_number, Cond.instanceMethod yX2_number, Cond.selects RX2 yX2_number yX2_number, Cond.code yX2_number cX2_number 2 (some .int), Cond.methodLink RX2 37 yX2_hasPlace, Cond.methodLink RX6 107 yX4_inkOfRow, Cond.instanceMethod yX4_inkOfRow, Cond.selects RX4 yX4_inkOfRow yX4_inkOfRow, Cond.code yX4_inkOfRow cX4_inkOfRow 4 (some .int), Cond.methodLink RX4 67 yX4_inked, Cond.methodLink RL 32 yX7_row, Cond.instanceMethod yX7_row, Cond.selects RX7 yX7_row yX7_row, Cond.code yX7_row cX7_row 6 (some .int), Cond.methodLink RX7 93 yX7_isCard]
def wsL_law_r11 : List Cond := [Cond.static yX7_isCard, Cond.code yX7_isCard cX7_isCard 1 (some .boolean), Cond.methodLink RX7 96 yX7_refused, Cond.instanceMethod yX7_refused, Cond.selects RX7 yX7_refused yX7_refused, Cond.code yX7_refused cX7_refused 2 (some .int), Cond.fieldLink RX7 63 "LevelledInkModel" "fault" "I", Cond.methodLink RX7 100 yX7_fails, Cond.instanceMethod yX7_fails, Cond.selects RX7 yX7_fails yX7_fails, Cond.code yX7_fails cX7_fails 2 (some .int), Cond.methodLink RL 33 yX6_take, Cond.instanceMethod yX6_take, Cond.selects RX6 yX6_take yX6_take, Cond.code yX6_take cX6_take 5 (some .int), Cond.methodLink RX6 110 yX2_renew, Cond.instanceMethod yX2_renew, Cond.selects RX2 yX2_renew yX2_renew, Cond.code yX2_renew cX2_renew 3 none, Cond.methodLink RX2 22 Lib.Math.min.name, Cond.methodLink RX2 28 Lib.Math.max.name, Cond.methodLink RX2 31 yJ7_fill_53178, Cond.methodLink RX6 113 yX2_write, Cond.instanceMethod yX2_write]
def wsL_law_r12 : List Cond := [Cond.selects RX2 yX2_write yX2_write, Cond.code yX2_write cX2_write 3 none, Cond.methodLink RX2 41 yX2_cut, Cond.instanceMethod yX2_cut, Cond.selects RX2 yX2_cut yX2_cut, Cond.code yX2_cut cX2_cut 2 (some .int), Cond.methodLink RL 36 yX7_take, Cond.instanceMethod yX7_take, Cond.selects RX7 yX7_take yX7_take, Cond.code yX7_take cX7_take 5 (some .int), Cond.methodLink RX7 103 yX7_clears, Cond.instanceMethod yX7_clears, Cond.selects RX7 yX7_clears yX7_clears, Cond.code yX7_clears cX7_clears 5 none, Cond.methodLink RL 37 yX6_blank, Cond.instanceMethod yX6_blank, Cond.selects RX6 yX6_blank yX6_blank, Cond.code yX6_blank cX6_blank 4 (some .int), Cond.methodLink RL 40 yX7_blank, Cond.instanceMethod yX7_blank, Cond.selects RX7 yX7_blank yX7_blank, Cond.code yX7_blank cX7_blank 4 (some .int), Cond.methodLink RL 41 yX6_put, Cond.instanceMethod yX6_put]
def wsL_law_r13 : List Cond := [Cond.selects RX6 yX6_put yX6_put, Cond.code yX6_put cX6_put 5 (some .int), Cond.methodLink RX6 116 yX2_faultAt, Cond.instanceMethod yX2_faultAt, Cond.selects RX2 yX2_faultAt yX2_faultAt, Cond.code yX2_faultAt cX2_faultAt 2 (some .int), Cond.methodLink RX2 45 yX2_isNothing, Cond.methodLink RL 44 yX7_put, Cond.instanceMethod yX7_put, Cond.selects RX7 yX7_put yX7_put, Cond.code yX7_put cX7_put 5 (some .int), Cond.methodLink RX7 107 yX7_against, Cond.instanceMethod yX7_against, Cond.selects RX7 yX7_against yX7_against, Cond.code yX7_against cX7_against 3 (some .int), Cond.methodLink RX7 111 yX7_cut, Cond.static yX7_cut, Cond.code yX7_cut cX7_cut 2 (some .int), Cond.constant RX7 92 (65535), Cond.methodLink RL 45 yX6_get, Cond.instanceMethod yX6_get, Cond.selects RX6 yX6_get yX6_get, Cond.code yX6_get cX6_get 3 (some .long), Cond.methodLink RL 49 yX7_get]
def wsL_law_r14 : List Cond := [Cond.instanceMethod yX7_get, Cond.selects RX7 yX7_get yX7_get, Cond.code yX7_get cX7_get 3 (some .long), Cond.methodLink RL 50 yX6_copy, Cond.instanceMethod yX6_copy, Cond.selects RX6 yX6_copy yX6_copy, Cond.code yX6_copy cX6_copy 7 (some .int), Cond.methodLink RX6 119 yX2_faultOfCopy, Cond.instanceMethod yX2_faultOfCopy, Cond.selects RX2 yX2_faultOfCopy yX2_faultOfCopy, Cond.code yX2_faultOfCopy cX2_faultOfCopy 5 (some .int), Cond.methodLink RX2 49 yX2_hasPart, Cond.instanceMethod yX2_hasPart, Cond.selects RX2 yX2_hasPart yX2_hasPart, Cond.code yX2_hasPart cX2_hasPart 3 (some .boolean), Cond.methodLink RX6 123 yX2_copyTo, Cond.instanceMethod yX2_copyTo, Cond.selects RX2 yX2_copyTo yX2_copyTo, Cond.code yX2_copyTo cX2_copyTo 5 none, Cond.methodLink RX2 53 arraycopyName, Cond.native arraycopyName, Cond.static arraycopyName, Cond.initialized "java/lang/System", Cond.methodLink RL 54 yX7_copy]
def wsL_law_r15 : List Cond := [Cond.instanceMethod yX7_copy, Cond.selects RX7 yX7_copy yX7_copy, Cond.code yX7_copy cX7_copy 8 (some .int), Cond.methodLink RL 55 yX6_lose, Cond.instanceMethod yX6_lose, Cond.selects RX6 yX6_lose yX6_lose, Cond.code yX6_lose cX6_lose 3 (some .int), Cond.methodLink RX6 127 yX2_drop, Cond.instanceMethod yX2_drop, Cond.selects RX2 yX2_drop yX2_drop, Cond.code yX2_drop cX2_drop 1 none, Cond.methodLink RL 58 yX7_lose, Cond.instanceMethod yX7_lose, Cond.selects RX7 yX7_lose yX7_lose, Cond.code yX7_lose cX7_lose 3 (some .int), Cond.methodLink RL 59 yX6_shift, Cond.instanceMethod yX6_shift, Cond.selects RX6 yX6_shift yX6_shift, Cond.code yX6_shift cX6_shift 5 (some .int), Cond.methodLink RX6 130 yX6_isAxis, Cond.static yX6_isAxis, Cond.code yX6_isAxis cX6_isAxis 1 (some .boolean), Cond.methodLink RX6 133 yX6_isShear, Cond.static yX6_isShear]
def wsL_law_r16 : List Cond := [Cond.code yX6_isShear cX6_isShear 1 (some .boolean), Cond.methodLink RX6 136 yX6_shiftOf, Cond.static yX6_shiftOf, Cond.code yX6_shiftOf cX6_shiftOf 4 (some .int), Cond.methodLink RX6 255 yJ9_floorDiv_7cf53, Cond.static yJ9_floorDiv_7cf53, Cond.initialized RJ9, Cond.code yJ9_floorDiv_7cf53 cJ9_floorDiv_7cf53 3 (some .int), Cond.methodLink RL 62 yX7_shift, Cond.instanceMethod yX7_shift, Cond.selects RX7 yX7_shift yX7_shift, Cond.code yX7_shift cX7_shift 5 (some .int), Cond.methodLink RX7 124 yX7_isAxis, Cond.static yX7_isAxis, Cond.code yX7_isAxis cX7_isAxis 1 (some .boolean), Cond.methodLink RX7 127 yX7_isShear, Cond.static yX7_isShear, Cond.code yX7_isShear cX7_isShear 1 (some .boolean), Cond.methodLink RX7 120 yX7_shiftOf, Cond.static yX7_shiftOf, Cond.code yX7_shiftOf cX7_shiftOf 3 (some .int), Cond.methodLink RX7 117 yX7_rounded, Cond.static yX7_rounded, Cond.code yX7_rounded cX7_rounded 2 (some .int)]
def wsL_law_r17 : List Cond := [Cond.methodLink RX7 114 yX7_down, Cond.static yX7_down, Cond.code yX7_down cX7_down 2 (some .int), Cond.methodLink RL 63 yX6_profile, Cond.instanceMethod yX6_profile, Cond.selects RX6 yX6_profile yX6_profile, Cond.code yX6_profile cX6_profile 4 (some .int), Cond.methodLink RX6 140 yX3_countAt, Cond.instanceMethod yX3_countAt, Cond.selects RX3 yX3_countAt yX3_countAt, Cond.code yX3_countAt cX3_countAt 5 (some .int), Cond.methodLink RX3 32 yX3_tally, Cond.instanceMethod yX3_tally, Cond.selects RX3 yX3_tally yX3_tally, Cond.code yX3_tally cX3_tally 7 none, Cond.methodLink RX3 60 yJ7_fill_53178, Cond.methodLink RX3 66 yX4_width, Cond.methodLink RX3 72 yX4_dots, Cond.methodLink RX3 79 yX3_countIn, Cond.instanceMethod yX3_countIn, Cond.selects RX3 yX3_countIn yX3_countIn, Cond.code yX3_countIn cX3_countIn 2 none, Cond.methodLink RL 66 yX7_profile, Cond.instanceMethod yX7_profile]
def wsL_law_r18 : List Cond := [Cond.selects RX7 yX7_profile yX7_profile, Cond.code yX7_profile cX7_profile 4 (some .int), Cond.methodLink RX7 134 yX7_findProfile, Cond.instanceMethod yX7_findProfile, Cond.selects RX7 yX7_findProfile yX7_findProfile, Cond.code yX7_findProfile cX7_findProfile 5 none, Cond.methodLink RX7 130 yX7_sheared, Cond.static yX7_sheared, Cond.code yX7_sheared cX7_sheared 4 (some .int), Cond.methodLink RL 67 yX6_sharp, Cond.instanceMethod yX6_sharp, Cond.selects RX6 yX6_sharp yX6_sharp, Cond.code yX6_sharp cX6_sharp 3 (some .int), Cond.methodLink RX6 144 yX3_sharpness, Cond.instanceMethod yX3_sharpness, Cond.selects RX3 yX3_sharpness yX3_sharpness, Cond.code yX3_sharpness cX3_sharpness 10 (some .int), Cond.methodLink RL 70 yX7_sharp, Cond.instanceMethod yX7_sharp, Cond.selects RX7 yX7_sharp yX7_sharp, Cond.code yX7_sharp cX7_sharp 3 (some .int), Cond.methodLink RX7 138 yX7_sharpness, Cond.instanceMethod yX7_sharpness, Cond.selects RX7 yX7_sharpness yX7_sharpness]
def wsL_law_r19 : List Cond := [Cond.code yX7_sharpness cX7_sharpness 6 (some .int), Cond.methodLink RL 71 yX6_best, Cond.instanceMethod yX6_best, Cond.selects RX6 yX6_best yX6_best, Cond.code yX6_best cX6_best 2 (some .int), Cond.methodLink RX6 148 yX3_tryAll, Cond.instanceMethod yX3_tryAll, Cond.selects RX3 yX3_tryAll yX3_tryAll, Cond.code yX3_tryAll cX3_tryAll 4 none, Cond.methodLink RX3 36 yX3_begin, Cond.instanceMethod yX3_begin, Cond.selects RX3 yX3_begin yX3_begin, Cond.code yX3_begin cX3_begin 2 none, Cond.methodLink RX3 39 yX3_attemptAt, Cond.instanceMethod yX3_attemptAt, Cond.selects RX3 yX3_attemptAt yX3_attemptAt, Cond.code yX3_attemptAt cX3_attemptAt 5 none, Cond.methodLink RX3 46 yX3_sharpness, Cond.methodLink RX3 50 yX3_isBetter, Cond.instanceMethod yX3_isBetter, Cond.selects RX3 yX3_isBetter yX3_isBetter, Cond.code yX3_isBetter cX3_isBetter 3 (some .boolean), Cond.methodLink RX3 54 Lib.Math.abs.name, Cond.static Lib.Math.abs.name]
def wsL_law_r20 : List Cond := [Cond.code Lib.Math.abs.name Lib.Math.abs.code 1 (some .int), Cond.methodLink RX6 152 yX3_sharpest, Cond.instanceMethod yX3_sharpest, Cond.selects RX3 yX3_sharpest yX3_sharpest, Cond.code yX3_sharpest cX3_sharpest 1 (some .int), Cond.methodLink RL 74 yX7_best, Cond.instanceMethod yX7_best, Cond.selects RX7 yX7_best yX7_best, Cond.code yX7_best cX7_best 3 (some .int), Cond.fieldLink RX7 144 "LevelledInkModel" "tries" "I", Cond.methodLink RX7 151 yX7_tryIt, Cond.instanceMethod yX7_tryIt, Cond.selects RX7 yX7_tryIt yX7_tryIt, Cond.code yX7_tryIt cX7_tryIt 5 none, Cond.methodLink RX7 154 yX7_bestTried, Cond.instanceMethod yX7_bestTried, Cond.selects RX7 yX7_bestTried yX7_bestTried, Cond.code yX7_bestTried cX7_bestTried 3 (some .int), Cond.methodLink RX7 147 yX7_isAhead, Cond.static yX7_isAhead, Cond.code yX7_isAhead cX7_isAhead 4 (some .boolean), Cond.methodLink RX7 141 yX7_far, Cond.static yX7_far, Cond.code yX7_far cX7_far 1 (some .int)]
def wsL_law_r21 : List Cond := [Cond.methodLink RL 75 yX6_found, Cond.instanceMethod yX6_found, Cond.selects RX6 yX6_found yX6_found, Cond.code yX6_found cX6_found 2 (some .int), Cond.methodLink RX6 155 yX3_search, Cond.instanceMethod yX3_search, Cond.selects RX3 yX3_search yX3_search, Cond.code yX3_search cX3_search 5 none, Cond.methodLink RL 78 yX7_found, Cond.instanceMethod yX7_found, Cond.selects RX7 yX7_found yX7_found, Cond.code yX7_found cX7_found 2 (some .int), Cond.methodLink RX7 157 yX7_search, Cond.instanceMethod yX7_search, Cond.selects RX7 yX7_search yX7_search, Cond.code yX7_search cX7_search 4 none, Cond.methodLink RL 79 yX6_tried, Cond.instanceMethod yX6_tried, Cond.selects RX6 yX6_tried yX6_tried, Cond.code yX6_tried cX6_tried 3 (some .int), Cond.methodLink RX6 158 yX3_attempts, Cond.instanceMethod yX3_attempts, Cond.selects RX3 yX3_attempts yX3_attempts, Cond.code yX3_attempts cX3_attempts 1 (some .int)]
def wsL_law_r22 : List Cond := [Cond.methodLink RX6 161 yX3_attempt, Cond.instanceMethod yX3_attempt, Cond.selects RX3 yX3_attempt yX3_attempt, Cond.code yX3_attempt cX3_attempt 2 (some .int), Cond.methodLink RL 82 yX7_tried, Cond.instanceMethod yX7_tried, Cond.selects RX7 yX7_tried yX7_tried, Cond.code yX7_tried cX7_tried 3 (some .int), Cond.methodLink RL 83 yX6_shear, Cond.instanceMethod yX6_shear, Cond.selects RX6 yX6_shear yX6_shear, Cond.code yX6_shear cX6_shear 5 (some .int), Cond.methodLink RX6 164 yX4_slideColumns, Cond.instanceMethod yX4_slideColumns, Cond.selects RX4 yX4_slideColumns yX4_slideColumns, Cond.code yX4_slideColumns cX4_slideColumns 5 (some .int), Cond.methodLink RX4 80 yX4_raised, Cond.static yX4_raised, Cond.code yX4_raised cX4_raised 2 (some .int), Cond.methodLink RX4 83 yX4_finishMove, Cond.instanceMethod yX4_finishMove, Cond.selects RX4 yX4_finishMove yX4_finishMove, Cond.code yX4_finishMove cX4_finishMove 1 none, Cond.methodLink RX4 74 arraycopyName]
def wsL_law_r23 : List Cond := [Cond.methodLink RX6 168 yX4_slideRows, Cond.instanceMethod yX4_slideRows, Cond.selects RX4 yX4_slideRows yX4_slideRows, Cond.code yX4_slideRows cX4_slideRows 6 (some .int), Cond.methodLink RL 86 yX7_shear, Cond.instanceMethod yX7_shear, Cond.selects RX7 yX7_shear yX7_shear, Cond.code yX7_shear cX7_shear 3 (some .int), Cond.methodLink RX7 170 yX7_moveAll, Cond.instanceMethod yX7_moveAll, Cond.selects RX7 yX7_moveAll yX7_moveAll, Cond.code yX7_moveAll cX7_moveAll 6 (some .int), Cond.methodLink RX7 164 yX7_goesTo, Cond.instanceMethod yX7_goesTo, Cond.selects RX7 yX7_goesTo yX7_goesTo, Cond.code yX7_goesTo cX7_goesTo 7 (some .int), Cond.methodLink RX7 161 yX7_curlOf, Cond.instanceMethod yX7_curlOf, Cond.selects RX7 yX7_curlOf yX7_curlOf, Cond.code yX7_curlOf cX7_curlOf 2 (some .int), Cond.methodLink RX7 167 yX7_keeps, Cond.instanceMethod yX7_keeps, Cond.selects RX7 yX7_keeps yX7_keeps, Cond.code yX7_keeps cX7_keeps 2 none]
def wsL_law_r24 : List Cond := [Cond.methodLink RL 87 yX6_run, Cond.instanceMethod yX6_run, Cond.selects RX6 yX6_run yX6_run, Cond.code yX6_run cX6_run 3 (some .int), Cond.methodLink RX6 171 yX5_find, Cond.instanceMethod yX5_find, Cond.selects RX5 yX5_find yX5_find, Cond.code yX5_find cX5_find 5 none, Cond.methodLink RX5 34 yX5_addRuns, Cond.instanceMethod yX5_addRuns, Cond.selects RX5 yX5_addRuns yX5_addRuns, Cond.code yX5_addRuns cX5_addRuns 6 none, Cond.methodLink RX5 69 yX4_width, Cond.methodLink RX5 75 yX4_inked, Cond.methodLink RX5 38 yX5_linkRows, Cond.instanceMethod yX5_linkRows, Cond.selects RX5 yX5_linkRows yX5_linkRows, Cond.code yX5_linkRows cX5_linkRows 5 none, Cond.methodLink RX5 79 yX5_join, Cond.instanceMethod yX5_join, Cond.selects RX5 yX5_join yX5_join, Cond.code yX5_join cX5_join 5 none, Cond.methodLink RX5 66 Lib.Math.max.name, Cond.methodLink RX5 60 Lib.Math.min.name]
def wsL_law_r25 : List Cond := [Cond.methodLink RX5 82 yX5_firstRun, Cond.instanceMethod yX5_firstRun, Cond.selects RX5 yX5_firstRun yX5_firstRun, Cond.code yX5_firstRun cX5_firstRun 4 (some .int), Cond.methodLink RX5 42 yX5_numberStrokes, Cond.instanceMethod yX5_numberStrokes, Cond.selects RX5 yX5_numberStrokes yX5_numberStrokes, Cond.code yX5_numberStrokes cX5_numberStrokes 2 none, Cond.methodLink RX6 175 yX5_runs, Cond.instanceMethod yX5_runs, Cond.selects RX5 yX5_runs yX5_runs, Cond.code yX5_runs cX5_runs 1 (some .int), Cond.methodLink RX6 178 yX5_rowOf, Cond.instanceMethod yX5_rowOf, Cond.selects RX5 yX5_rowOf yX5_rowOf, Cond.code yX5_rowOf cX5_rowOf 2 (some .int), Cond.methodLink RX5 45 yX5_isRun, Cond.instanceMethod yX5_isRun, Cond.selects RX5 yX5_isRun yX5_isRun, Cond.code yX5_isRun cX5_isRun 2 (some .boolean), Cond.methodLink RX6 181 yX5_firstOf, Cond.instanceMethod yX5_firstOf, Cond.selects RX5 yX5_firstOf yX5_firstOf, Cond.code yX5_firstOf cX5_firstOf 2 (some .int)]
def wsL_law_r26 : List Cond := [Cond.methodLink RX6 184 yX5_dotsOf, Cond.instanceMethod yX5_dotsOf, Cond.selects RX5 yX5_dotsOf yX5_dotsOf, Cond.code yX5_dotsOf cX5_dotsOf 2 (some .int), Cond.methodLink RX6 187 yX5_strokeOf, Cond.instanceMethod yX5_strokeOf, Cond.selects RX5 yX5_strokeOf yX5_strokeOf, Cond.code yX5_strokeOf cX5_strokeOf 2 (some .int), Cond.methodLink RL 90 yX7_run, Cond.instanceMethod yX7_run, Cond.selects RX7 yX7_run yX7_run, Cond.code yX7_run cX7_run 3 (some .int), Cond.fieldLink RX7 173 "LevelledInkModel" "runs" "I", Cond.methodLink RX7 188 yX7_findStrokes, Cond.instanceMethod yX7_findStrokes, Cond.selects RX7 yX7_findStrokes yX7_findStrokes, Cond.code yX7_findStrokes cX7_findStrokes 2 none, Cond.fieldLink RX7 182 "LevelledInkModel" "strokes" "I", Cond.methodLink RX7 179 yX7_findRuns, Cond.instanceMethod yX7_findRuns, Cond.selects RX7 yX7_findRuns yX7_findRuns, Cond.code yX7_findRuns cX7_findRuns 3 none, Cond.methodLink RX7 185 yX7_spreads, Cond.instanceMethod yX7_spreads]
def wsL_law_r27 : List Cond := [Cond.selects RX7 yX7_spreads yX7_spreads, Cond.code yX7_spreads cX7_spreads 5 none, Cond.methodLink RX7 176 yX7_areTouching, Cond.instanceMethod yX7_areTouching, Cond.selects RX7 yX7_areTouching yX7_areTouching, Cond.code yX7_areTouching cX7_areTouching 5 (some .boolean), Cond.methodLink RL 91 yX6_stroke, Cond.instanceMethod yX6_stroke, Cond.selects RX6 yX6_stroke yX6_stroke, Cond.code yX6_stroke cX6_stroke 3 (some .int), Cond.methodLink RX6 190 yX5_count, Cond.instanceMethod yX5_count, Cond.selects RX5 yX5_count yX5_count, Cond.code yX5_count cX5_count 1 (some .int), Cond.methodLink RX6 193 yX5_dotsTogether, Cond.instanceMethod yX5_dotsTogether, Cond.selects RX5 yX5_dotsTogether yX5_dotsTogether, Cond.code yX5_dotsTogether cX5_dotsTogether 4 (some .int), Cond.methodLink RX5 49 yX5_dotsOf, Cond.methodLink RX6 196 yX5_runsTogether, Cond.instanceMethod yX5_runsTogether, Cond.selects RX5 yX5_runsTogether yX5_runsTogether, Cond.code yX5_runsTogether cX5_runsTogether 4 (some .int), Cond.methodLink RX6 199 yX5_leastRow]
def wsL_law_r28 : List Cond := [Cond.instanceMethod yX5_leastRow, Cond.selects RX5 yX5_leastRow yX5_leastRow, Cond.code yX5_leastRow cX5_leastRow 2 (some .int), Cond.methodLink RX5 53 yX5_least, Cond.instanceMethod yX5_least, Cond.selects RX5 yX5_least yX5_least, Cond.code yX5_least cX5_least 5 (some .int), Cond.methodLink RX6 202 yX5_greatestRow, Cond.instanceMethod yX5_greatestRow, Cond.selects RX5 yX5_greatestRow yX5_greatestRow, Cond.code yX5_greatestRow cX5_greatestRow 2 (some .int), Cond.methodLink RX5 57 yX5_greatest, Cond.instanceMethod yX5_greatest, Cond.selects RX5 yX5_greatest yX5_greatest, Cond.code yX5_greatest cX5_greatest 5 (some .int), Cond.methodLink RX6 205 yX5_leastColumn, Cond.instanceMethod yX5_leastColumn, Cond.selects RX5 yX5_leastColumn yX5_leastColumn, Cond.code yX5_leastColumn cX5_leastColumn 2 (some .int), Cond.methodLink RX6 208 yX5_greatestColumn, Cond.instanceMethod yX5_greatestColumn, Cond.selects RX5 yX5_greatestColumn yX5_greatestColumn, Cond.code yX5_greatestColumn cX5_greatestColumn 2 (some .int), Cond.methodLink RL 94 yX7_stroke]
def wsL_law_r29 : List Cond := [Cond.instanceMethod yX7_stroke, Cond.selects RX7 yX7_stroke yX7_stroke, Cond.code yX7_stroke cX7_stroke 11 (some .int), Cond.methodLink RL 95 yX6_baseline, Cond.instanceMethod yX6_baseline, Cond.selects RX6 yX6_baseline yX6_baseline, Cond.code yX6_baseline cX6_baseline 2 (some .int), Cond.methodLink RX6 211 yX0_find, Cond.instanceMethod yX0_find, Cond.selects RX0 yX0_find yX0_find, Cond.code yX0_find cX0_find 3 none, Cond.methodLink RX0 41 Lib.Math.min.name, Cond.methodLink RX0 36 yX4_width, Cond.methodLink RX0 47 yX4_feet, Cond.instanceMethod yX4_feet, Cond.selects RX4 yX4_feet yX4_feet, Cond.code yX4_feet cX4_feet 2 (some .int), Cond.methodLink RX0 51 yX0_measure, Cond.instanceMethod yX0_measure, Cond.selects RX0 yX0_measure yX0_measure, Cond.code yX0_measure cX0_measure 5 none, Cond.methodLink RX0 80 yX0_lowestOnward, Cond.instanceMethod yX0_lowestOnward, Cond.selects RX0 yX0_lowestOnward yX0_lowestOnward]
def wsL_law_r30 : List Cond := [Cond.code yX0_lowestOnward cX0_lowestOnward 5 (some .int), Cond.methodLink RX0 83 yX0_reachAt, Cond.instanceMethod yX0_reachAt, Cond.selects RX0 yX0_reachAt yX0_reachAt, Cond.code yX0_reachAt cX0_reachAt 3 (some .int), Cond.methodLink RX0 55 yX0_follow, Cond.instanceMethod yX0_follow, Cond.selects RX0 yX0_follow yX0_follow, Cond.code yX0_follow cX0_follow 3 none, Cond.methodLink RX6 212 yX0_length, Cond.instanceMethod yX0_length, Cond.selects RX0 yX0_length yX0_length, Cond.code yX0_length cX0_length 1 (some .int), Cond.methodLink RX6 215 yX0_first, Cond.instanceMethod yX0_first, Cond.selects RX0 yX0_first yX0_first, Cond.code yX0_first cX0_first 1 (some .int), Cond.methodLink RX6 218 yX0_height, Cond.instanceMethod yX0_height, Cond.selects RX0 yX0_height yX0_height, Cond.code yX0_height cX0_height 1 (some .int), Cond.methodLink RL 98 yX7_baseline, Cond.instanceMethod yX7_baseline, Cond.selects RX7 yX7_baseline yX7_baseline]
def wsL_law_r31 : List Cond := [Cond.code yX7_baseline cX7_baseline 2 (some .int), Cond.fieldLink RX7 200 "LevelledInkModel" "manyColumns" "I", Cond.fieldLink RX7 203 "LevelledInkModel" "firstColumn" "I", Cond.methodLink RX7 215 yX7_findBaseline, Cond.instanceMethod yX7_findBaseline, Cond.selects RX7 yX7_findBaseline yX7_findBaseline, Cond.code yX7_findBaseline cX7_findBaseline 5 none, Cond.methodLink RX7 197 yX7_findLeads, Cond.instanceMethod yX7_findLeads, Cond.selects RX7 yX7_findLeads yX7_findLeads, Cond.code yX7_findLeads cX7_findLeads 6 none, Cond.methodLink RX7 191 yX7_leadsAt, Cond.instanceMethod yX7_leadsAt, Cond.selects RX7 yX7_leadsAt yX7_leadsAt, Cond.code yX7_leadsAt cX7_leadsAt 3 (some .int), Cond.methodLink RX7 194 yX7_isFoot, Cond.instanceMethod yX7_isFoot, Cond.selects RX7 yX7_isFoot yX7_isFoot, Cond.code yX7_isFoot cX7_isFoot 3 (some .boolean), Cond.methodLink RX7 206 yX7_lowest, Cond.instanceMethod yX7_lowest, Cond.selects RX7 yX7_lowest yX7_lowest, Cond.code yX7_lowest cX7_lowest 6 (some .int), Cond.methodLink RX7 212 yX7_levelOf]
def wsL_law_r32 : List Cond := [Cond.instanceMethod yX7_levelOf, Cond.selects RX7 yX7_levelOf yX7_levelOf, Cond.code yX7_levelOf cX7_levelOf 1 (some .int), Cond.methodLink RX7 209 yX7_rowsTogether, Cond.instanceMethod yX7_rowsTogether, Cond.selects RX7 yX7_rowsTogether yX7_rowsTogether, Cond.code yX7_rowsTogether cX7_rowsTogether 3 (some .int), Cond.methodLink RL 99 yX6_foot, Cond.instanceMethod yX6_foot, Cond.selects RX6 yX6_foot yX6_foot, Cond.code yX6_foot cX6_foot 2 (some .int), Cond.methodLink RX6 221 yX0_covers, Cond.instanceMethod yX0_covers, Cond.selects RX0 yX0_covers yX0_covers, Cond.code yX0_covers cX0_covers 2 (some .boolean), Cond.methodLink RX6 224 yX0_footRow, Cond.instanceMethod yX0_footRow, Cond.selects RX0 yX0_footRow yX0_footRow, Cond.code yX0_footRow cX0_footRow 2 (some .int), Cond.methodLink RX0 58 yX0_covers, Cond.methodLink RL 102 yX7_foot, Cond.instanceMethod yX7_foot, Cond.selects RX7 yX7_foot yX7_foot, Cond.code yX7_foot cX7_foot 2 (some .int)]
def wsL_law_r33 : List Cond := [Cond.methodLink RL 103 yX6_curl, Cond.instanceMethod yX6_curl, Cond.selects RX6 yX6_curl yX6_curl, Cond.code yX6_curl cX6_curl 2 (some .int), Cond.methodLink RX6 227 yX0_bend, Cond.instanceMethod yX0_bend, Cond.selects RX0 yX0_bend yX0_bend, Cond.code yX0_bend cX0_bend 3 (some .int), Cond.methodLink RX0 62 Lib.Math.max.name, Cond.methodLink RX0 65 yX0_footRow, Cond.methodLink RX0 68 yX0_height, Cond.methodLink RL 106 yX7_curl, Cond.instanceMethod yX7_curl, Cond.selects RX7 yX7_curl yX7_curl, Cond.code yX7_curl cX7_curl 2 (some .int), Cond.methodLink RX7 218 yX7_findCurls, Cond.instanceMethod yX7_findCurls, Cond.selects RX7 yX7_findCurls yX7_findCurls, Cond.code yX7_findCurls cX7_findCurls 4 none, Cond.methodLink RL 107 yX6_mean, Cond.instanceMethod yX6_mean, Cond.selects RX6 yX6_mean yX6_mean, Cond.code yX6_mean cX6_mean 1 (some .long), Cond.methodLink RX6 230 yX0_meanBits]
def wsL_law_r34 : List Cond := [Cond.instanceMethod yX0_meanBits, Cond.selects RX0 yX0_meanBits yX0_meanBits, Cond.code yX0_meanBits cX0_meanBits 1 (some .long), Cond.methodLink RX0 71 yX1_nearestDouble, Cond.static yX1_nearestDouble, Cond.initialized RX1, Cond.code yX1_nearestDouble cX1_nearestDouble 2 (some .long), Cond.methodLink RX1 9 yX1_nearest, Cond.static yX1_nearest, Cond.code yX1_nearest cX1_nearest 15 (some .long), Cond.constantLong RX1 26 (2), Cond.methodLink RX1 22 yX1_packed, Cond.static yX1_packed, Cond.code yX1_packed cX1_packed 5 (some .long), Cond.methodLink RL 111 yX7_mean, Cond.instanceMethod yX7_mean, Cond.selects RX7 yX7_mean yX7_mean, Cond.code yX7_mean cX7_mean 1 (some .long), Cond.methodLink RX7 228 yX7_nearest, Cond.instanceMethod yX7_nearest, Cond.selects RX7 yX7_nearest yX7_nearest, Cond.code yX7_nearest cX7_nearest 10 none, Cond.fieldLink RX7 221 "LevelledInkModel" "power" "I", Cond.fieldLink RX7 224 "LevelledInkModel" "figures" "J"]
def wsL_law_r35 : List Cond := [Cond.methodLink RX7 231 yX7_bits, Cond.instanceMethod yX7_bits, Cond.selects RX7 yX7_bits yX7_bits, Cond.code yX7_bits cX7_bits 5 (some .long), Cond.methodLink RL 112 yX6_rest, Cond.instanceMethod yX6_rest, Cond.selects RX6 yX6_rest yX6_rest, Cond.code yX6_rest cX6_rest 1 (some .long), Cond.methodLink RX6 234 yX1_doubleAboveWhole, Cond.static yX1_doubleAboveWhole, Cond.code yX1_doubleAboveWhole cX1_doubleAboveWhole 8 (some .long), Cond.constantLong RX1 20 (4503599627370496), Cond.methodLink RL 115 yX7_rest, Cond.instanceMethod yX7_rest, Cond.selects RX7 yX7_rest yX7_rest, Cond.code yX7_rest cX7_rest 1 (some .long), Cond.constantLong RX7 235 (4503599627370496), Cond.methodLink RL 116 yX6_slope, Cond.instanceMethod yX6_slope, Cond.selects RX6 yX6_slope yX6_slope, Cond.code yX6_slope cX6_slope 1 (some .int), Cond.methodLink RX6 240 yX0_slopeBits, Cond.instanceMethod yX0_slopeBits, Cond.selects RX0 yX0_slopeBits yX0_slopeBits]
def wsL_law_r36 : List Cond := [Cond.code yX0_slopeBits cX0_slopeBits 6 (some .int), Cond.methodLink RX0 77 yX1_nearestFloat, Cond.static yX1_nearestFloat, Cond.code yX1_nearestFloat cX1_nearestFloat 3 (some .int), Cond.methodLink RX1 13 Lib.MathLoose.abs_long.x, Cond.static Lib.MathLoose.abs_long.x, Cond.code Lib.MathLoose.abs_long.x Lib.MathLoose.abs_long.code 2 (some .long), Cond.constant RX1 19 (-2147483648), Cond.methodLink RL 120 yX7_slope, Cond.instanceMethod yX7_slope, Cond.selects RX7 yX7_slope yX7_slope, Cond.code yX7_slope cX7_slope 8 (some .int), Cond.constant RX7 237 (-2147483648), Cond.methodLink RL 121 yX6_level, Cond.instanceMethod yX6_level, Cond.selects RX6 yX6_level yX6_level, Cond.code yX6_level cX6_level 2 (some .int), Cond.methodLink RL 124 yX7_level, Cond.instanceMethod yX7_level, Cond.selects RX7 yX7_level yX7_level, Cond.code yX7_level cX7_level 1 (some .int), Cond.methodLink RL 125 yX6_back, Cond.instanceMethod yX6_back, Cond.selects RX6 yX6_back yX6_back]
def wsL_law_r37 : List Cond := [Cond.code yX6_back cX6_back 1 (some .int), Cond.methodLink RX6 243 yX4_moves, Cond.instanceMethod yX4_moves, Cond.selects RX4 yX4_moves yX4_moves, Cond.code yX4_moves cX4_moves 1 (some .int), Cond.methodLink RX6 246 yX4_takeBack, Cond.instanceMethod yX4_takeBack, Cond.selects RX4 yX4_takeBack yX4_takeBack, Cond.code yX4_takeBack cX4_takeBack 1 none, Cond.methodLink RL 128 yX7_back, Cond.instanceMethod yX7_back, Cond.selects RX7 yX7_back yX7_back, Cond.code yX7_back cX7_back 2 (some .int), Cond.methodLink RL 129 yX6_fault, Cond.instanceMethod yX6_fault, Cond.selects RX6 yX6_fault yX6_fault, Cond.code yX6_fault cX6_fault 1 (some .int), Cond.methodLink RL 132 yX7_fault, Cond.instanceMethod yX7_fault, Cond.selects RX7 yX7_fault yX7_fault, Cond.code yX7_fault cX7_fault 1 (some .int), Cond.methodLink RL 133 yX6_many, Cond.instanceMethod yX6_many, Cond.selects RX6 yX6_many yX6_many]
def wsL_law_r38 : List Cond := [Cond.code yX6_many cX6_many 2 (some .int), Cond.methodLink RX6 249 yX4_allFeet, Cond.instanceMethod yX4_allFeet, Cond.selects RX4 yX4_allFeet yX4_allFeet, Cond.code yX4_allFeet cX4_allFeet 3 (some .int), Cond.methodLink RX4 71 yX4_feet, Cond.methodLink RX6 252 yX6_filledCards, Cond.instanceMethod yX6_filledCards, Cond.selects RX6 yX6_filledCards yX6_filledCards, Cond.code yX6_filledCards cX6_filledCards 3 (some .int), Cond.methodLink RL 136 yX7_many, Cond.instanceMethod yX7_many, Cond.selects RX7 yX7_many yX7_many, Cond.code yX7_many cX7_many 4 (some .int), Cond.methodLink RX7 238 yX7_feet, Cond.instanceMethod yX7_feet, Cond.selects RX7 yX7_feet yX7_feet, Cond.code yX7_feet cX7_feet 4 (some .int)]
def wsL_law : List Cond := (wsL_law_r1 ++ (wsL_law_r2 ++ (wsL_law_r3 ++ (wsL_law_r4 ++ (wsL_law_r5 ++ (wsL_law_r6 ++ (wsL_law_r7 ++ (wsL_law_r8 ++ (wsL_law_r9 ++ (wsL_law_r10 ++ (wsL_law_r11 ++ (wsL_law_r12 ++ (wsL_law_r13 ++ (wsL_law_r14 ++ (wsL_law_r15 ++ (wsL_law_r16 ++ (wsL_law_r17 ++ (wsL_law_r18 ++ (wsL_law_r19 ++ (wsL_law_r20 ++ (wsL_law_r21 ++ (wsL_law_r22 ++ (wsL_law_r23 ++ (wsL_law_r24 ++ (wsL_law_r25 ++ (wsL_law_r26 ++ (wsL_law_r27 ++ (wsL_law_r28 ++ (wsL_law_r29 ++ (wsL_law_r30 ++ (wsL_law_r31 ++ (wsL_law_r32 ++ (wsL_law_r33 ++ (wsL_law_r34 ++ (wsL_law_r35 ++ (wsL_law_r36 ++ (wsL_law_r37 ++ wsL_law_r38))))))))))))))))))))))))))))))))))))) ++ wsX60 ++ wsX70 ++ wsX40 ++ wsX30 ++ wsX50 ++ wsX00 ++ wsX20 ++ ([] : List Cond)
set_option maxRecDepth 20000 in
theorem wsL_law_in : ∀ w ∈ wsL_law, w ∈ lw_tbl := fun w h => (goodIn_p wsL_law [70, 73, 78, 108, 134, 162, 190, 739, 227, 231, 234, 241, 244, 247, 250, 254, 823, 826, 830, 258, 262, 265, 269, 274, 280, 834, 838, 841, 284, 845, 851, 291, 294, 298, 302, 306, 310, 314, 319, 855, 858, 862, 866, 324, 328, 335, 339, 870, 874, 343, 878, 347, 351, 882, 886, 889, 356, 894, 360, 364, 368, 372, 898, 379, 383, 902, 387, 390, 393, 396, 399, 906, 909, 912, 915, 918, 921, 403, 407, 411, 419, 925, 929, 932, 423, 427, 936, 940, 431, 435, 439, 443, 449, 452, 456, 944, 948, 952, 955, 958, 460, 464, 962, 966, 468, 472, 476, 970, 480, 484, 487, 491, 496, 974, 978, 982, 986, 990, 500, 504, 508, 514, 518, 522, 528, 532, 536, 540, 544, 548, 552, 998, 1002, 1006, 1010, 1014, 556, 560, 564, 569, 573, 577, 581, 585, 589, 593, 1018, 597, 601, 607, 611, 615, 619, 624, 628, 632, 636, 1022, 1026, 1030, 1034, 1038, 1042, 1046, 1050, 640, 644, 648, 1054, 653, 657, 1058, 1062, 664, 668, 671, 674, 678, 1070, 1074, 1078, 682, 685, 1082, 690, 694, 697, 700, 1087, 705, 1066, 709, 713, 717, 994, 721, 1092, 725, 729, 734, 1096, 1100] (by decide +kernel) (by decide +kernel) w h).1
theorem inlX0 : ∀ w ∈ wsX00, w ∈ wsL_law := fun _ h => List.mem_append_left _ (List.mem_append_left _ (List.mem_append_right _ h))
theorem inX0 : ∀ w ∈ wsX00, w ∈ lw_tbl := fun w h => wsL_law_in w (inlX0 w h)
theorem inX1 : ∀ w ∈ wsX10, w ∈ lw_tbl := by decide +kernel
theorem inlX2 : ∀ w ∈ wsX20, w ∈ wsL_law := fun _ h => List.mem_append_left _ (List.mem_append_right _ h)
theorem inX2 : ∀ w ∈ wsX20, w ∈ lw_tbl := fun w h => wsL_law_in w (inlX2 w h)
theorem inlX3 : ∀ w ∈ wsX30, w ∈ wsL_law := fun _ h => List.mem_append_left _ (List.mem_append_left _ (List.mem_append_left _ (List.mem_append_left _ (List.mem_append_right _ h))))
theorem inX3 : ∀ w ∈ wsX30, w ∈ lw_tbl := fun w h => wsL_law_in w (inlX3 w h)
theorem inlX4 : ∀ w ∈ wsX40, w ∈ wsL_law := fun _ h => List.mem_append_left _ (List.mem_append_left _ (List.mem_append_left _ (List.mem_append_left _ (List.mem_append_left _ (List.mem_append_right _ h)))))
theorem inX4 : ∀ w ∈ wsX40, w ∈ lw_tbl := fun w h => wsL_law_in w (inlX4 w h)
theorem inlX5 : ∀ w ∈ wsX50, w ∈ wsL_law := fun _ h => List.mem_append_left _ (List.mem_append_left _ (List.mem_append_left _ (List.mem_append_right _ h)))
theorem inX5 : ∀ w ∈ wsX50, w ∈ lw_tbl := fun w h => wsL_law_in w (inlX5 w h)
theorem inlX6 : ∀ w ∈ wsX60, w ∈ wsL_law := fun _ h => List.mem_append_left _ (List.mem_append_left _ (List.mem_append_left _ (List.mem_append_left _ (List.mem_append_left _ (List.mem_append_left _ (List.mem_append_left _ (List.mem_append_right _ h)))))))
theorem inX6 : ∀ w ∈ wsX60, w ∈ lw_tbl := fun w h => wsL_law_in w (inlX6 w h)
theorem inlX7 : ∀ w ∈ wsX70, w ∈ wsL_law := fun _ h => List.mem_append_left _ (List.mem_append_left _ (List.mem_append_left _ (List.mem_append_left _ (List.mem_append_left _ (List.mem_append_left _ (List.mem_append_right _ h))))))
theorem inX7 : ∀ w ∈ wsX70, w ∈ lw_tbl := fun w h => wsL_law_in w (inlX7 w h)
theorem inJ6 : ∀ w ∈ wsJ60, w ∈ lw_tbl := by decide +kernel
theorem inJ9 : ∀ w ∈ wsJ90, w ∈ lw_tbl := by decide +kernel
theorem inJ10 : ∀ w ∈ wsJ100, w ∈ lw_tbl := by decide +kernel
theorem inJ7 : ∀ w ∈ wsJ70, w ∈ lw_tbl := by decide +kernel
abbrev vwCl : List vw_C := [(RX0, TX0, 7), (RX2, TX2, 3), (RX3, TX3, 6), (RX4, TX4, 6), (RX5, TX5, 7), (RX6, TX6, 7), (RX7, TX7, 26)]
end
section
theorem dX0_init_0 : decode cX0_init 0 = .ok (.aload_n 0, 1) := by decide +kernel
theorem dX0_init_1 : decode cX0_init 1 = .ok (.invokespecial 3, 3) := by decide +kernel
theorem dX0_init_4 : decode cX0_init 4 = .ok (.aload_n 0, 1) := by decide +kernel
theorem dX0_init_5 : decode cX0_init 5 = .ok (.bipush 24, 2) := by decide +kernel
theorem dX0_init_7 : decode cX0_init 7 = .ok (.bipush 32, 2) := by decide +kernel
theorem dX0_init_9 : decode cX0_init 9 = .ok (.multianewarray 9 2, 4) := by decide +kernel
theorem dX0_init_13 : decode cX0_init 13 = .ok (.putfield 11, 3) := by decide +kernel
theorem dX0_init_16 : decode cX0_init 16 = .ok (.aload_n 0, 1) := by decide +kernel
theorem dX0_init_17 : decode cX0_init 17 = .ok (.bipush 24, 2) := by decide +kernel
theorem dX0_init_19 : decode cX0_init 19 = .ok (.newarray .int, 2) := by decide +kernel
theorem dX0_init_21 : decode cX0_init 21 = .ok (.putfield 16, 3) := by decide +kernel
theorem dX0_init_24 : decode cX0_init 24 = .ok (.aload_n 0, 1) := by decide +kernel
theorem dX0_init_25 : decode cX0_init 25 = .ok (.iconst 0, 1) := by decide +kernel
theorem dX0_init_26 : decode cX0_init 26 = .ok (.putfield 20, 3) := by decide +kernel
theorem dX0_init_29 : decode cX0_init 29 = .ok (.aload_n 0, 1) := by decide +kernel
theorem dX0_init_30 : decode cX0_init 30 = .ok (.iconst 0, 1) := by decide +kernel
theorem dX0_init_31 : decode cX0_init 31 = .ok (.putfield 24, 3) := by decide +kernel
theorem dX0_init_34 : decode cX0_init 34 = .ok (.aload_n 0, 1) := by decide +kernel
theorem dX0_init_35 : decode cX0_init 35 = .ok (.iconst 0, 1) := by decide +kernel
theorem dX0_init_36 : decode cX0_init 36 = .ok (.putfield 27, 3) := by decide +kernel
theorem dX0_init_39 : decode cX0_init 39 = .ok (.aload_n 0, 1) := by decide +kernel
theorem dX0_init_40 : decode cX0_init 40 = .ok (.iconst 0, 1) := by decide +kernel
theorem dX0_init_41 : decode cX0_init 41 = .ok (.putfield 30, 3) := by decide +kernel
theorem dX0_init_44 : decode cX0_init 44 = .ok (.aload_n 0, 1) := by decide +kernel
theorem dX0_init_45 : decode cX0_init 45 = .ok (.iconst 0, 1) := by decide +kernel
theorem dX0_init_46 : decode cX0_init 46 = .ok (.putfield 33, 3) := by decide +kernel
theorem dX0_init_49 : decode cX0_init 49 = .ok (.return_, 1) := by decide +kernel
theorem dX0_find_0 : decode cX0_find 0 = .ok (.aload_n 0, 1) := by decide +kernel
theorem dX0_find_1 : decode cX0_find 1 = .ok (.aload_n 1, 1) := by decide +kernel
theorem dX0_find_2 : decode cX0_find 2 = .ok (.invokevirtual 36, 3) := by decide +kernel
theorem dX0_find_5 : decode cX0_find 5 = .ok (.bipush 24, 2) := by decide +kernel
theorem dX0_find_7 : decode cX0_find 7 = .ok (.invokestatic 41, 3) := by decide +kernel
theorem dX0_find_10 : decode cX0_find 10 = .ok (.putfield 20, 3) := by decide +kernel
theorem dX0_find_13 : decode cX0_find 13 = .ok (.aload_n 0, 1) := by decide +kernel
theorem dX0_find_14 : decode cX0_find 14 = .ok (.iconst 0, 1) := by decide +kernel
theorem dX0_find_15 : decode cX0_find 15 = .ok (.putfield 27, 3) := by decide +kernel
theorem dX0_find_18 : decode cX0_find 18 = .ok (.aload_n 0, 1) := by decide +kernel
theorem dX0_find_19 : decode cX0_find 19 = .ok (.getfield 20, 3) := by decide +kernel
theorem dX0_find_22 : decode cX0_find 22 = .ok (.iconst 1, 1) := by decide +kernel
theorem dX0_find_23 : decode cX0_find 23 = .ok (.isub, 1) := by decide +kernel
theorem dX0_find_24 : decode cX0_find 24 = .ok (.istore_n 2, 1) := by decide +kernel
theorem dX0_find_25 : decode cX0_find 25 = .ok (.iload_n 2, 1) := by decide +kernel
theorem dX0_find_26 : decode cX0_find 26 = .ok (.ifCond .lt 19, 3) := by decide +kernel
theorem dX0_find_29 : decode cX0_find 29 = .ok (.aload_n 0, 1) := by decide +kernel
theorem dX0_find_30 : decode cX0_find 30 = .ok (.iload_n 2, 1) := by decide +kernel
theorem dX0_find_31 : decode cX0_find 31 = .ok (.aload_n 1, 1) := by decide +kernel
theorem dX0_find_32 : decode cX0_find 32 = .ok (.iload_n 2, 1) := by decide +kernel
theorem dX0_find_33 : decode cX0_find 33 = .ok (.invokevirtual 47, 3) := by decide +kernel
theorem dX0_find_36 : decode cX0_find 36 = .ok (.invokevirtual 51, 3) := by decide +kernel
theorem dX0_find_39 : decode cX0_find 39 = .ok (.iinc 2 (-1), 3) := by decide +kernel
theorem dX0_find_42 : decode cX0_find 42 = .ok (.goto (-17), 3) := by decide +kernel
theorem dX0_find_45 : decode cX0_find 45 = .ok (.aload_n 0, 1) := by decide +kernel
theorem dX0_find_46 : decode cX0_find 46 = .ok (.invokevirtual 55, 3) := by decide +kernel
theorem dX0_find_49 : decode cX0_find 49 = .ok (.return_, 1) := by decide +kernel
theorem dX0_first_0 : decode cX0_first 0 = .ok (.aload_n 0, 1) := by decide +kernel
theorem dX0_first_1 : decode cX0_first 1 = .ok (.getfield 24, 3) := by decide +kernel
theorem dX0_first_4 : decode cX0_first 4 = .ok (.ireturn, 1) := by decide +kernel
theorem dX0_length_0 : decode cX0_length 0 = .ok (.aload_n 0, 1) := by decide +kernel
theorem dX0_length_1 : decode cX0_length 1 = .ok (.getfield 27, 3) := by decide +kernel
theorem dX0_length_4 : decode cX0_length 4 = .ok (.ireturn, 1) := by decide +kernel
theorem dX0_height_0 : decode cX0_height 0 = .ok (.aload_n 0, 1) := by decide +kernel
theorem dX0_height_1 : decode cX0_height 1 = .ok (.getfield 27, 3) := by decide +kernel
theorem dX0_height_4 : decode cX0_height 4 = .ok (.ifCond .le 24, 3) := by decide +kernel
theorem dX0_height_7 : decode cX0_height 7 = .ok (.iconst 2, 1) := by decide +kernel
theorem dX0_height_8 : decode cX0_height 8 = .ok (.aload_n 0, 1) := by decide +kernel
theorem dX0_height_9 : decode cX0_height 9 = .ok (.getfield 33, 3) := by decide +kernel
theorem dX0_height_12 : decode cX0_height 12 = .ok (.imul, 1) := by decide +kernel
theorem dX0_height_13 : decode cX0_height 13 = .ok (.aload_n 0, 1) := by decide +kernel
theorem dX0_height_14 : decode cX0_height 14 = .ok (.getfield 27, 3) := by decide +kernel
theorem dX0_height_17 : decode cX0_height 17 = .ok (.iadd, 1) := by decide +kernel
theorem dX0_height_18 : decode cX0_height 18 = .ok (.iconst 2, 1) := by decide +kernel
theorem dX0_height_19 : decode cX0_height 19 = .ok (.aload_n 0, 1) := by decide +kernel
theorem dX0_height_20 : decode cX0_height 20 = .ok (.getfield 27, 3) := by decide +kernel
theorem dX0_height_23 : decode cX0_height 23 = .ok (.imul, 1) := by decide +kernel
theorem dX0_height_24 : decode cX0_height 24 = .ok (.idiv, 1) := by decide +kernel
theorem dX0_height_25 : decode cX0_height 25 = .ok (.goto 4, 3) := by decide +kernel
theorem dX0_height_28 : decode cX0_height 28 = .ok (.iconst 0, 1) := by decide +kernel
theorem dX0_height_29 : decode cX0_height 29 = .ok (.ireturn, 1) := by decide +kernel
theorem dX0_covers_0 : decode cX0_covers 0 = .ok (.iload_n 1, 1) := by decide +kernel
theorem dX0_covers_1 : decode cX0_covers 1 = .ok (.aload_n 0, 1) := by decide +kernel
theorem dX0_covers_2 : decode cX0_covers 2 = .ok (.getfield 24, 3) := by decide +kernel
theorem dX0_covers_5 : decode cX0_covers 5 = .ok (.if_icmp .lt 20, 3) := by decide +kernel
theorem dX0_covers_8 : decode cX0_covers 8 = .ok (.iload_n 1, 1) := by decide +kernel
theorem dX0_covers_9 : decode cX0_covers 9 = .ok (.aload_n 0, 1) := by decide +kernel
theorem dX0_covers_10 : decode cX0_covers 10 = .ok (.getfield 24, 3) := by decide +kernel
theorem dX0_covers_13 : decode cX0_covers 13 = .ok (.aload_n 0, 1) := by decide +kernel
theorem dX0_covers_14 : decode cX0_covers 14 = .ok (.getfield 27, 3) := by decide +kernel
theorem dX0_covers_17 : decode cX0_covers 17 = .ok (.iadd, 1) := by decide +kernel
theorem dX0_covers_18 : decode cX0_covers 18 = .ok (.if_icmp .ge 7, 3) := by decide +kernel
theorem dX0_covers_21 : decode cX0_covers 21 = .ok (.iconst 1, 1) := by decide +kernel
theorem dX0_covers_22 : decode cX0_covers 22 = .ok (.goto 4, 3) := by decide +kernel
theorem dX0_covers_25 : decode cX0_covers 25 = .ok (.iconst 0, 1) := by decide +kernel
theorem dX0_covers_26 : decode cX0_covers 26 = .ok (.ireturn, 1) := by decide +kernel
theorem dX0_footRow_0 : decode cX0_footRow 0 = .ok (.aload_n 0, 1) := by decide +kernel
theorem dX0_footRow_1 : decode cX0_footRow 1 = .ok (.iload_n 1, 1) := by decide +kernel
theorem dX0_footRow_2 : decode cX0_footRow 2 = .ok (.invokevirtual 58, 3) := by decide +kernel
theorem dX0_footRow_5 : decode cX0_footRow 5 = .ok (.ifCond .eq 12, 3) := by decide +kernel
theorem dX0_footRow_8 : decode cX0_footRow 8 = .ok (.aload_n 0, 1) := by decide +kernel
theorem dX0_footRow_9 : decode cX0_footRow 9 = .ok (.getfield 16, 3) := by decide +kernel
theorem dX0_footRow_12 : decode cX0_footRow 12 = .ok (.iload_n 1, 1) := by decide +kernel
theorem dX0_footRow_13 : decode cX0_footRow 13 = .ok (.iaload, 1) := by decide +kernel
theorem dX0_footRow_14 : decode cX0_footRow 14 = .ok (.goto 5, 3) := by decide +kernel
theorem dX0_footRow_17 : decode cX0_footRow 17 = .ok (.bipush (-9), 2) := by decide +kernel
theorem dX0_footRow_19 : decode cX0_footRow 19 = .ok (.ireturn, 1) := by decide +kernel
theorem dX0_bend_0 : decode cX0_bend 0 = .ok (.aload_n 0, 1) := by decide +kernel
theorem dX0_bend_1 : decode cX0_bend 1 = .ok (.getfield 24, 3) := by decide +kernel
theorem dX0_bend_4 : decode cX0_bend 4 = .ok (.iload_n 1, 1) := by decide +kernel
theorem dX0_bend_5 : decode cX0_bend 5 = .ok (.aload_n 0, 1) := by decide +kernel
theorem dX0_bend_6 : decode cX0_bend 6 = .ok (.getfield 24, 3) := by decide +kernel
theorem dX0_bend_9 : decode cX0_bend 9 = .ok (.aload_n 0, 1) := by decide +kernel
theorem dX0_bend_10 : decode cX0_bend 10 = .ok (.getfield 27, 3) := by decide +kernel
theorem dX0_bend_13 : decode cX0_bend 13 = .ok (.iadd, 1) := by decide +kernel
theorem dX0_bend_14 : decode cX0_bend 14 = .ok (.iconst 1, 1) := by decide +kernel
theorem dX0_bend_15 : decode cX0_bend 15 = .ok (.isub, 1) := by decide +kernel
theorem dX0_bend_16 : decode cX0_bend 16 = .ok (.invokestatic 41, 3) := by decide +kernel
theorem dX0_bend_19 : decode cX0_bend 19 = .ok (.invokestatic 62, 3) := by decide +kernel
theorem dX0_bend_22 : decode cX0_bend 22 = .ok (.istore_n 2, 1) := by decide +kernel
theorem dX0_bend_23 : decode cX0_bend 23 = .ok (.aload_n 0, 1) := by decide +kernel
theorem dX0_bend_24 : decode cX0_bend 24 = .ok (.iload_n 2, 1) := by decide +kernel
theorem dX0_bend_25 : decode cX0_bend 25 = .ok (.invokevirtual 65, 3) := by decide +kernel
theorem dX0_bend_28 : decode cX0_bend 28 = .ok (.aload_n 0, 1) := by decide +kernel
theorem dX0_bend_29 : decode cX0_bend 29 = .ok (.invokevirtual 68, 3) := by decide +kernel
theorem dX0_bend_32 : decode cX0_bend 32 = .ok (.isub, 1) := by decide +kernel
theorem dX0_bend_33 : decode cX0_bend 33 = .ok (.ireturn, 1) := by decide +kernel
theorem dX0_meanBits_0 : decode cX0_meanBits 0 = .ok (.aload_n 0, 1) := by decide +kernel
theorem dX0_meanBits_1 : decode cX0_meanBits 1 = .ok (.getfield 33, 3) := by decide +kernel
theorem dX0_meanBits_4 : decode cX0_meanBits 4 = .ok (.aload_n 0, 1) := by decide +kernel
theorem dX0_meanBits_5 : decode cX0_meanBits 5 = .ok (.getfield 27, 3) := by decide +kernel
theorem dX0_meanBits_8 : decode cX0_meanBits 8 = .ok (.invokestatic 71, 3) := by decide +kernel
theorem dX0_meanBits_11 : decode cX0_meanBits 11 = .ok (.lreturn, 1) := by decide +kernel
theorem dX0_slopeBits_0 : decode cX0_slopeBits 0 = .ok (.iconst 0, 1) := by decide +kernel
theorem dX0_slopeBits_1 : decode cX0_slopeBits 1 = .ok (.istore_n 1, 1) := by decide +kernel
theorem dX0_slopeBits_2 : decode cX0_slopeBits 2 = .ok (.iconst 0, 1) := by decide +kernel
theorem dX0_slopeBits_3 : decode cX0_slopeBits 3 = .ok (.istore_n 2, 1) := by decide +kernel
theorem dX0_slopeBits_4 : decode cX0_slopeBits 4 = .ok (.iconst 0, 1) := by decide +kernel
theorem dX0_slopeBits_5 : decode cX0_slopeBits 5 = .ok (.istore_n 3, 1) := by decide +kernel
theorem dX0_slopeBits_6 : decode cX0_slopeBits 6 = .ok (.aload_n 0, 1) := by decide +kernel
theorem dX0_slopeBits_7 : decode cX0_slopeBits 7 = .ok (.getfield 24, 3) := by decide +kernel
theorem dX0_slopeBits_10 : decode cX0_slopeBits 10 = .ok (.istore 4, 2) := by decide +kernel
theorem dX0_slopeBits_12 : decode cX0_slopeBits 12 = .ok (.iload 4, 2) := by decide +kernel
theorem dX0_slopeBits_14 : decode cX0_slopeBits 14 = .ok (.aload_n 0, 1) := by decide +kernel
theorem dX0_slopeBits_15 : decode cX0_slopeBits 15 = .ok (.getfield 24, 3) := by decide +kernel
theorem dX0_slopeBits_18 : decode cX0_slopeBits 18 = .ok (.aload_n 0, 1) := by decide +kernel
theorem dX0_slopeBits_19 : decode cX0_slopeBits 19 = .ok (.getfield 27, 3) := by decide +kernel
theorem dX0_slopeBits_22 : decode cX0_slopeBits 22 = .ok (.iadd, 1) := by decide +kernel
theorem dX0_slopeBits_23 : decode cX0_slopeBits 23 = .ok (.if_icmp .ge 34, 3) := by decide +kernel
theorem dX0_slopeBits_26 : decode cX0_slopeBits 26 = .ok (.iload_n 1, 1) := by decide +kernel
theorem dX0_slopeBits_27 : decode cX0_slopeBits 27 = .ok (.iload 4, 2) := by decide +kernel
theorem dX0_slopeBits_29 : decode cX0_slopeBits 29 = .ok (.iadd, 1) := by decide +kernel
theorem dX0_slopeBits_30 : decode cX0_slopeBits 30 = .ok (.istore_n 1, 1) := by decide +kernel
theorem dX0_slopeBits_31 : decode cX0_slopeBits 31 = .ok (.iload_n 2, 1) := by decide +kernel
theorem dX0_slopeBits_32 : decode cX0_slopeBits 32 = .ok (.iload 4, 2) := by decide +kernel
theorem dX0_slopeBits_34 : decode cX0_slopeBits 34 = .ok (.iload 4, 2) := by decide +kernel
theorem dX0_slopeBits_36 : decode cX0_slopeBits 36 = .ok (.imul, 1) := by decide +kernel
theorem dX0_slopeBits_37 : decode cX0_slopeBits 37 = .ok (.iadd, 1) := by decide +kernel
theorem dX0_slopeBits_38 : decode cX0_slopeBits 38 = .ok (.istore_n 2, 1) := by decide +kernel
theorem dX0_slopeBits_39 : decode cX0_slopeBits 39 = .ok (.iload_n 3, 1) := by decide +kernel
theorem dX0_slopeBits_40 : decode cX0_slopeBits 40 = .ok (.iload 4, 2) := by decide +kernel
theorem dX0_slopeBits_42 : decode cX0_slopeBits 42 = .ok (.aload_n 0, 1) := by decide +kernel
theorem dX0_slopeBits_43 : decode cX0_slopeBits 43 = .ok (.iload 4, 2) := by decide +kernel
theorem dX0_slopeBits_45 : decode cX0_slopeBits 45 = .ok (.invokevirtual 65, 3) := by decide +kernel
theorem dX0_slopeBits_48 : decode cX0_slopeBits 48 = .ok (.imul, 1) := by decide +kernel
theorem dX0_slopeBits_49 : decode cX0_slopeBits 49 = .ok (.iadd, 1) := by decide +kernel
theorem dX0_slopeBits_50 : decode cX0_slopeBits 50 = .ok (.istore_n 3, 1) := by decide +kernel
theorem dX0_slopeBits_51 : decode cX0_slopeBits 51 = .ok (.iinc 4 1, 3) := by decide +kernel
theorem dX0_slopeBits_54 : decode cX0_slopeBits 54 = .ok (.goto (-42), 3) := by decide +kernel
theorem dX0_slopeBits_57 : decode cX0_slopeBits 57 = .ok (.aload_n 0, 1) := by decide +kernel
theorem dX0_slopeBits_58 : decode cX0_slopeBits 58 = .ok (.getfield 27, 3) := by decide +kernel
theorem dX0_slopeBits_61 : decode cX0_slopeBits 61 = .ok (.iload_n 3, 1) := by decide +kernel
theorem dX0_slopeBits_62 : decode cX0_slopeBits 62 = .ok (.imul, 1) := by decide +kernel
theorem dX0_slopeBits_63 : decode cX0_slopeBits 63 = .ok (.iload_n 1, 1) := by decide +kernel
theorem dX0_slopeBits_64 : decode cX0_slopeBits 64 = .ok (.aload_n 0, 1) := by decide +kernel
theorem dX0_slopeBits_65 : decode cX0_slopeBits 65 = .ok (.getfield 33, 3) := by decide +kernel
theorem dX0_slopeBits_68 : decode cX0_slopeBits 68 = .ok (.imul, 1) := by decide +kernel
theorem dX0_slopeBits_69 : decode cX0_slopeBits 69 = .ok (.isub, 1) := by decide +kernel
theorem dX0_slopeBits_70 : decode cX0_slopeBits 70 = .ok (.istore 4, 2) := by decide +kernel
theorem dX0_slopeBits_72 : decode cX0_slopeBits 72 = .ok (.aload_n 0, 1) := by decide +kernel
theorem dX0_slopeBits_73 : decode cX0_slopeBits 73 = .ok (.getfield 27, 3) := by decide +kernel
theorem dX0_slopeBits_76 : decode cX0_slopeBits 76 = .ok (.iload_n 2, 1) := by decide +kernel
theorem dX0_slopeBits_77 : decode cX0_slopeBits 77 = .ok (.imul, 1) := by decide +kernel
theorem dX0_slopeBits_78 : decode cX0_slopeBits 78 = .ok (.iload_n 1, 1) := by decide +kernel
theorem dX0_slopeBits_79 : decode cX0_slopeBits 79 = .ok (.iload_n 1, 1) := by decide +kernel
theorem dX0_slopeBits_80 : decode cX0_slopeBits 80 = .ok (.imul, 1) := by decide +kernel
theorem dX0_slopeBits_81 : decode cX0_slopeBits 81 = .ok (.isub, 1) := by decide +kernel
theorem dX0_slopeBits_82 : decode cX0_slopeBits 82 = .ok (.istore 5, 2) := by decide +kernel
theorem dX0_slopeBits_84 : decode cX0_slopeBits 84 = .ok (.iload 4, 2) := by decide +kernel
theorem dX0_slopeBits_86 : decode cX0_slopeBits 86 = .ok (.iload 5, 2) := by decide +kernel
theorem dX0_slopeBits_88 : decode cX0_slopeBits 88 = .ok (.invokestatic 77, 3) := by decide +kernel
theorem dX0_slopeBits_91 : decode cX0_slopeBits 91 = .ok (.ireturn, 1) := by decide +kernel
theorem dX0_measure_0 : decode cX0_measure 0 = .ok (.iconst 0, 1) := by decide +kernel
theorem dX0_measure_1 : decode cX0_measure 1 = .ok (.istore_n 3, 1) := by decide +kernel
theorem dX0_measure_2 : decode cX0_measure 2 = .ok (.iload_n 3, 1) := by decide +kernel
theorem dX0_measure_3 : decode cX0_measure 3 = .ok (.bipush 32, 2) := by decide +kernel
theorem dX0_measure_5 : decode cX0_measure 5 = .ok (.if_icmp .ge 101, 3) := by decide +kernel
theorem dX0_measure_8 : decode cX0_measure 8 = .ok (.iload_n 2, 1) := by decide +kernel
theorem dX0_measure_9 : decode cX0_measure 9 = .ok (.iload_n 3, 1) := by decide +kernel
theorem dX0_measure_10 : decode cX0_measure 10 = .ok (.iushr, 1) := by decide +kernel
theorem dX0_measure_11 : decode cX0_measure 11 = .ok (.iconst 1, 1) := by decide +kernel
theorem dX0_measure_12 : decode cX0_measure 12 = .ok (.iand, 1) := by decide +kernel
theorem dX0_measure_13 : decode cX0_measure 13 = .ok (.iconst 1, 1) := by decide +kernel
theorem dX0_measure_14 : decode cX0_measure 14 = .ok (.if_icmp .ne 7, 3) := by decide +kernel
theorem dX0_measure_17 : decode cX0_measure 17 = .ok (.iconst 1, 1) := by decide +kernel
theorem dX0_measure_18 : decode cX0_measure 18 = .ok (.goto 4, 3) := by decide +kernel
theorem dX0_measure_21 : decode cX0_measure 21 = .ok (.iconst 0, 1) := by decide +kernel
theorem dX0_measure_22 : decode cX0_measure 22 = .ok (.istore 4, 2) := by decide +kernel
theorem dX0_measure_24 : decode cX0_measure 24 = .ok (.aload_n 0, 1) := by decide +kernel
theorem dX0_measure_25 : decode cX0_measure 25 = .ok (.getfield 11, 3) := by decide +kernel
theorem dX0_measure_28 : decode cX0_measure 28 = .ok (.iload_n 1, 1) := by decide +kernel
theorem dX0_measure_29 : decode cX0_measure 29 = .ok (.aaload, 1) := by decide +kernel
theorem dX0_measure_30 : decode cX0_measure 30 = .ok (.iload_n 3, 1) := by decide +kernel
theorem dX0_measure_31 : decode cX0_measure 31 = .ok (.iload 4, 2) := by decide +kernel
theorem dX0_measure_33 : decode cX0_measure 33 = .ok (.ifCond .eq 23, 3) := by decide +kernel
theorem dX0_measure_36 : decode cX0_measure 36 = .ok (.iconst 1, 1) := by decide +kernel
theorem dX0_measure_37 : decode cX0_measure 37 = .ok (.aload_n 0, 1) := by decide +kernel
theorem dX0_measure_38 : decode cX0_measure 38 = .ok (.iload_n 1, 1) := by decide +kernel
theorem dX0_measure_39 : decode cX0_measure 39 = .ok (.iconst 1, 1) := by decide +kernel
theorem dX0_measure_40 : decode cX0_measure 40 = .ok (.iadd, 1) := by decide +kernel
theorem dX0_measure_41 : decode cX0_measure 41 = .ok (.aload_n 0, 1) := by decide +kernel
theorem dX0_measure_42 : decode cX0_measure 42 = .ok (.iload_n 1, 1) := by decide +kernel
theorem dX0_measure_43 : decode cX0_measure 43 = .ok (.iconst 1, 1) := by decide +kernel
theorem dX0_measure_44 : decode cX0_measure 44 = .ok (.iadd, 1) := by decide +kernel
theorem dX0_measure_45 : decode cX0_measure 45 = .ok (.iload_n 3, 1) := by decide +kernel
theorem dX0_measure_46 : decode cX0_measure 46 = .ok (.invokevirtual 80, 3) := by decide +kernel
theorem dX0_measure_49 : decode cX0_measure 49 = .ok (.invokevirtual 83, 3) := by decide +kernel
theorem dX0_measure_52 : decode cX0_measure 52 = .ok (.iadd, 1) := by decide +kernel
theorem dX0_measure_53 : decode cX0_measure 53 = .ok (.goto 4, 3) := by decide +kernel
theorem dX0_measure_56 : decode cX0_measure 56 = .ok (.iconst 0, 1) := by decide +kernel
theorem dX0_measure_57 : decode cX0_measure 57 = .ok (.iastore, 1) := by decide +kernel
theorem dX0_measure_58 : decode cX0_measure 58 = .ok (.iload 4, 2) := by decide +kernel
theorem dX0_measure_60 : decode cX0_measure 60 = .ok (.ifCond .eq 40, 3) := by decide +kernel
theorem dX0_measure_63 : decode cX0_measure 63 = .ok (.aload_n 0, 1) := by decide +kernel
theorem dX0_measure_64 : decode cX0_measure 64 = .ok (.getfield 11, 3) := by decide +kernel
theorem dX0_measure_67 : decode cX0_measure 67 = .ok (.iload_n 1, 1) := by decide +kernel
theorem dX0_measure_68 : decode cX0_measure 68 = .ok (.aaload, 1) := by decide +kernel
theorem dX0_measure_69 : decode cX0_measure 69 = .ok (.iload_n 3, 1) := by decide +kernel
theorem dX0_measure_70 : decode cX0_measure 70 = .ok (.iaload, 1) := by decide +kernel
theorem dX0_measure_71 : decode cX0_measure 71 = .ok (.aload_n 0, 1) := by decide +kernel
theorem dX0_measure_72 : decode cX0_measure 72 = .ok (.getfield 27, 3) := by decide +kernel
theorem dX0_measure_75 : decode cX0_measure 75 = .ok (.if_icmp .lt 25, 3) := by decide +kernel
theorem dX0_measure_78 : decode cX0_measure 78 = .ok (.aload_n 0, 1) := by decide +kernel
theorem dX0_measure_79 : decode cX0_measure 79 = .ok (.aload_n 0, 1) := by decide +kernel
theorem dX0_measure_80 : decode cX0_measure 80 = .ok (.getfield 11, 3) := by decide +kernel
theorem dX0_measure_83 : decode cX0_measure 83 = .ok (.iload_n 1, 1) := by decide +kernel
theorem dX0_measure_84 : decode cX0_measure 84 = .ok (.aaload, 1) := by decide +kernel
theorem dX0_measure_85 : decode cX0_measure 85 = .ok (.iload_n 3, 1) := by decide +kernel
theorem dX0_measure_86 : decode cX0_measure 86 = .ok (.iaload, 1) := by decide +kernel
theorem dX0_measure_87 : decode cX0_measure 87 = .ok (.putfield 27, 3) := by decide +kernel
theorem dX0_measure_90 : decode cX0_measure 90 = .ok (.aload_n 0, 1) := by decide +kernel
theorem dX0_measure_91 : decode cX0_measure 91 = .ok (.iload_n 1, 1) := by decide +kernel
theorem dX0_measure_92 : decode cX0_measure 92 = .ok (.putfield 24, 3) := by decide +kernel
theorem dX0_measure_95 : decode cX0_measure 95 = .ok (.aload_n 0, 1) := by decide +kernel
theorem dX0_measure_96 : decode cX0_measure 96 = .ok (.iload_n 3, 1) := by decide +kernel
theorem dX0_measure_97 : decode cX0_measure 97 = .ok (.putfield 30, 3) := by decide +kernel
theorem dX0_measure_100 : decode cX0_measure 100 = .ok (.iinc 3 1, 3) := by decide +kernel
theorem dX0_measure_103 : decode cX0_measure 103 = .ok (.goto (-101), 3) := by decide +kernel
theorem dX0_measure_106 : decode cX0_measure 106 = .ok (.return_, 1) := by decide +kernel
theorem dX0_follow_0 : decode cX0_follow 0 = .ok (.aload_n 0, 1) := by decide +kernel
theorem dX0_follow_1 : decode cX0_follow 1 = .ok (.iconst 0, 1) := by decide +kernel
theorem dX0_follow_2 : decode cX0_follow 2 = .ok (.putfield 33, 3) := by decide +kernel
theorem dX0_follow_5 : decode cX0_follow 5 = .ok (.aload_n 0, 1) := by decide +kernel
theorem dX0_follow_6 : decode cX0_follow 6 = .ok (.getfield 30, 3) := by decide +kernel
theorem dX0_follow_9 : decode cX0_follow 9 = .ok (.istore_n 1, 1) := by decide +kernel
theorem dX0_follow_10 : decode cX0_follow 10 = .ok (.aload_n 0, 1) := by decide +kernel
theorem dX0_follow_11 : decode cX0_follow 11 = .ok (.getfield 24, 3) := by decide +kernel
theorem dX0_follow_14 : decode cX0_follow 14 = .ok (.istore_n 2, 1) := by decide +kernel
theorem dX0_follow_15 : decode cX0_follow 15 = .ok (.iload_n 2, 1) := by decide +kernel
theorem dX0_follow_16 : decode cX0_follow 16 = .ok (.aload_n 0, 1) := by decide +kernel
theorem dX0_follow_17 : decode cX0_follow 17 = .ok (.getfield 24, 3) := by decide +kernel
theorem dX0_follow_20 : decode cX0_follow 20 = .ok (.aload_n 0, 1) := by decide +kernel
theorem dX0_follow_21 : decode cX0_follow 21 = .ok (.getfield 27, 3) := by decide +kernel
theorem dX0_follow_24 : decode cX0_follow 24 = .ok (.iadd, 1) := by decide +kernel
theorem dX0_follow_25 : decode cX0_follow 25 = .ok (.if_icmp .ge 41, 3) := by decide +kernel
theorem dX0_follow_28 : decode cX0_follow 28 = .ok (.iload_n 2, 1) := by decide +kernel
theorem dX0_follow_29 : decode cX0_follow 29 = .ok (.bipush 24, 2) := by decide +kernel
theorem dX0_follow_31 : decode cX0_follow 31 = .ok (.if_icmp .ge 35, 3) := by decide +kernel
theorem dX0_follow_34 : decode cX0_follow 34 = .ok (.aload_n 0, 1) := by decide +kernel
theorem dX0_follow_35 : decode cX0_follow 35 = .ok (.getfield 16, 3) := by decide +kernel
theorem dX0_follow_38 : decode cX0_follow 38 = .ok (.iload_n 2, 1) := by decide +kernel
theorem dX0_follow_39 : decode cX0_follow 39 = .ok (.iload_n 1, 1) := by decide +kernel
theorem dX0_follow_40 : decode cX0_follow 40 = .ok (.iastore, 1) := by decide +kernel
theorem dX0_follow_41 : decode cX0_follow 41 = .ok (.aload_n 0, 1) := by decide +kernel
theorem dX0_follow_42 : decode cX0_follow 42 = .ok (.dup, 1) := by decide +kernel
theorem dX0_follow_43 : decode cX0_follow 43 = .ok (.getfield 33, 3) := by decide +kernel
theorem dX0_follow_46 : decode cX0_follow 46 = .ok (.iload_n 1, 1) := by decide +kernel
theorem dX0_follow_47 : decode cX0_follow 47 = .ok (.iadd, 1) := by decide +kernel
theorem dX0_follow_48 : decode cX0_follow 48 = .ok (.putfield 33, 3) := by decide +kernel
theorem dX0_follow_51 : decode cX0_follow 51 = .ok (.aload_n 0, 1) := by decide +kernel
theorem dX0_follow_52 : decode cX0_follow 52 = .ok (.iload_n 2, 1) := by decide +kernel
theorem dX0_follow_53 : decode cX0_follow 53 = .ok (.iconst 1, 1) := by decide +kernel
theorem dX0_follow_54 : decode cX0_follow 54 = .ok (.iadd, 1) := by decide +kernel
theorem dX0_follow_55 : decode cX0_follow 55 = .ok (.iload_n 1, 1) := by decide +kernel
theorem dX0_follow_56 : decode cX0_follow 56 = .ok (.invokevirtual 80, 3) := by decide +kernel
theorem dX0_follow_59 : decode cX0_follow 59 = .ok (.istore_n 1, 1) := by decide +kernel
theorem dX0_follow_60 : decode cX0_follow 60 = .ok (.iinc 2 1, 3) := by decide +kernel
theorem dX0_follow_63 : decode cX0_follow 63 = .ok (.goto (-48), 3) := by decide +kernel
theorem dX0_follow_66 : decode cX0_follow 66 = .ok (.return_, 1) := by decide +kernel
theorem dX0_lowestOnward_0 : decode cX0_lowestOnward 0 = .ok (.iload_n 2, 1) := by decide +kernel
theorem dX0_lowestOnward_1 : decode cX0_lowestOnward 1 = .ok (.iconst 1, 1) := by decide +kernel
theorem dX0_lowestOnward_2 : decode cX0_lowestOnward 2 = .ok (.iadd, 1) := by decide +kernel
theorem dX0_lowestOnward_3 : decode cX0_lowestOnward 3 = .ok (.istore_n 3, 1) := by decide +kernel
theorem dX0_lowestOnward_4 : decode cX0_lowestOnward 4 = .ok (.iload_n 2, 1) := by decide +kernel
theorem dX0_lowestOnward_5 : decode cX0_lowestOnward 5 = .ok (.istore 4, 2) := by decide +kernel
theorem dX0_lowestOnward_7 : decode cX0_lowestOnward 7 = .ok (.iload 4, 2) := by decide +kernel
theorem dX0_lowestOnward_9 : decode cX0_lowestOnward 9 = .ok (.iload_n 2, 1) := by decide +kernel
theorem dX0_lowestOnward_10 : decode cX0_lowestOnward 10 = .ok (.iconst 1, 1) := by decide +kernel
theorem dX0_lowestOnward_11 : decode cX0_lowestOnward 11 = .ok (.isub, 1) := by decide +kernel
theorem dX0_lowestOnward_12 : decode cX0_lowestOnward 12 = .ok (.if_icmp .lt 28, 3) := by decide +kernel
theorem dX0_lowestOnward_15 : decode cX0_lowestOnward 15 = .ok (.aload_n 0, 1) := by decide +kernel
theorem dX0_lowestOnward_16 : decode cX0_lowestOnward 16 = .ok (.iload_n 1, 1) := by decide +kernel
theorem dX0_lowestOnward_17 : decode cX0_lowestOnward 17 = .ok (.iload 4, 2) := by decide +kernel
theorem dX0_lowestOnward_19 : decode cX0_lowestOnward 19 = .ok (.invokevirtual 83, 3) := by decide +kernel
theorem dX0_lowestOnward_22 : decode cX0_lowestOnward 22 = .ok (.aload_n 0, 1) := by decide +kernel
theorem dX0_lowestOnward_23 : decode cX0_lowestOnward 23 = .ok (.iload_n 1, 1) := by decide +kernel
theorem dX0_lowestOnward_24 : decode cX0_lowestOnward 24 = .ok (.iload_n 3, 1) := by decide +kernel
theorem dX0_lowestOnward_25 : decode cX0_lowestOnward 25 = .ok (.invokevirtual 83, 3) := by decide +kernel
theorem dX0_lowestOnward_28 : decode cX0_lowestOnward 28 = .ok (.if_icmp .le 6, 3) := by decide +kernel
theorem dX0_lowestOnward_31 : decode cX0_lowestOnward 31 = .ok (.iload 4, 2) := by decide +kernel
theorem dX0_lowestOnward_33 : decode cX0_lowestOnward 33 = .ok (.istore_n 3, 1) := by decide +kernel
theorem dX0_lowestOnward_34 : decode cX0_lowestOnward 34 = .ok (.iinc 4 (-1), 3) := by decide +kernel
theorem dX0_lowestOnward_37 : decode cX0_lowestOnward 37 = .ok (.goto (-30), 3) := by decide +kernel
theorem dX0_lowestOnward_40 : decode cX0_lowestOnward 40 = .ok (.iload_n 3, 1) := by decide +kernel
theorem dX0_lowestOnward_41 : decode cX0_lowestOnward 41 = .ok (.ireturn, 1) := by decide +kernel
theorem dX0_reachAt_0 : decode cX0_reachAt 0 = .ok (.iload_n 1, 1) := by decide +kernel
theorem dX0_reachAt_1 : decode cX0_reachAt 1 = .ok (.ifCond .lt 29, 3) := by decide +kernel
theorem dX0_reachAt_4 : decode cX0_reachAt 4 = .ok (.iload_n 1, 1) := by decide +kernel
theorem dX0_reachAt_5 : decode cX0_reachAt 5 = .ok (.aload_n 0, 1) := by decide +kernel
theorem dX0_reachAt_6 : decode cX0_reachAt 6 = .ok (.getfield 20, 3) := by decide +kernel
theorem dX0_reachAt_9 : decode cX0_reachAt 9 = .ok (.if_icmp .ge 21, 3) := by decide +kernel
theorem dX0_reachAt_12 : decode cX0_reachAt 12 = .ok (.iload_n 2, 1) := by decide +kernel
theorem dX0_reachAt_13 : decode cX0_reachAt 13 = .ok (.invokestatic 86, 3) := by decide +kernel
theorem dX0_reachAt_16 : decode cX0_reachAt 16 = .ok (.ifCond .eq 14, 3) := by decide +kernel
theorem dX0_reachAt_19 : decode cX0_reachAt 19 = .ok (.aload_n 0, 1) := by decide +kernel
theorem dX0_reachAt_20 : decode cX0_reachAt 20 = .ok (.getfield 11, 3) := by decide +kernel
theorem dX0_reachAt_23 : decode cX0_reachAt 23 = .ok (.iload_n 1, 1) := by decide +kernel
theorem dX0_reachAt_24 : decode cX0_reachAt 24 = .ok (.aaload, 1) := by decide +kernel
theorem dX0_reachAt_25 : decode cX0_reachAt 25 = .ok (.iload_n 2, 1) := by decide +kernel
theorem dX0_reachAt_26 : decode cX0_reachAt 26 = .ok (.iaload, 1) := by decide +kernel
theorem dX0_reachAt_27 : decode cX0_reachAt 27 = .ok (.goto 4, 3) := by decide +kernel
theorem dX0_reachAt_30 : decode cX0_reachAt 30 = .ok (.iconst 0, 1) := by decide +kernel
theorem dX0_reachAt_31 : decode cX0_reachAt 31 = .ok (.ireturn, 1) := by decide +kernel
theorem dX1_nearestDouble_0 : decode cX1_nearestDouble 0 = .ok (.iload_n 0, 1) := by decide +kernel
theorem dX1_nearestDouble_1 : decode cX1_nearestDouble 1 = .ok (.i2l, 1) := by decide +kernel
theorem dX1_nearestDouble_2 : decode cX1_nearestDouble 2 = .ok (.iload_n 1, 1) := by decide +kernel
theorem dX1_nearestDouble_3 : decode cX1_nearestDouble 3 = .ok (.i2l, 1) := by decide +kernel
theorem dX1_nearestDouble_4 : decode cX1_nearestDouble 4 = .ok (.bipush 52, 2) := by decide +kernel
theorem dX1_nearestDouble_6 : decode cX1_nearestDouble 6 = .ok (.sipush 1023, 3) := by decide +kernel
theorem dX1_nearestDouble_9 : decode cX1_nearestDouble 9 = .ok (.invokestatic 9, 3) := by decide +kernel
theorem dX1_nearestDouble_12 : decode cX1_nearestDouble 12 = .ok (.lreturn, 1) := by decide +kernel
theorem dX1_nearestFloat_0 : decode cX1_nearestFloat 0 = .ok (.iload_n 0, 1) := by decide +kernel
theorem dX1_nearestFloat_1 : decode cX1_nearestFloat 1 = .ok (.i2l, 1) := by decide +kernel
theorem dX1_nearestFloat_2 : decode cX1_nearestFloat 2 = .ok (.invokestatic 13, 3) := by decide +kernel
theorem dX1_nearestFloat_5 : decode cX1_nearestFloat 5 = .ok (.iload_n 1, 1) := by decide +kernel
theorem dX1_nearestFloat_6 : decode cX1_nearestFloat 6 = .ok (.i2l, 1) := by decide +kernel
theorem dX1_nearestFloat_7 : decode cX1_nearestFloat 7 = .ok (.bipush 23, 2) := by decide +kernel
theorem dX1_nearestFloat_9 : decode cX1_nearestFloat 9 = .ok (.bipush 127, 2) := by decide +kernel
theorem dX1_nearestFloat_11 : decode cX1_nearestFloat 11 = .ok (.invokestatic 9, 3) := by decide +kernel
theorem dX1_nearestFloat_14 : decode cX1_nearestFloat 14 = .ok (.l2i, 1) := by decide +kernel
theorem dX1_nearestFloat_15 : decode cX1_nearestFloat 15 = .ok (.istore_n 2, 1) := by decide +kernel
theorem dX1_nearestFloat_16 : decode cX1_nearestFloat 16 = .ok (.iload_n 0, 1) := by decide +kernel
theorem dX1_nearestFloat_17 : decode cX1_nearestFloat 17 = .ok (.ifCond .ge 10, 3) := by decide +kernel
theorem dX1_nearestFloat_20 : decode cX1_nearestFloat 20 = .ok (.iload_n 2, 1) := by decide +kernel
theorem dX1_nearestFloat_21 : decode cX1_nearestFloat 21 = .ok (.ldc 19, 2) := by decide +kernel
theorem dX1_nearestFloat_23 : decode cX1_nearestFloat 23 = .ok (.ior, 1) := by decide +kernel
theorem dX1_nearestFloat_24 : decode cX1_nearestFloat 24 = .ok (.goto 4, 3) := by decide +kernel
theorem dX1_nearestFloat_27 : decode cX1_nearestFloat 27 = .ok (.iload_n 2, 1) := by decide +kernel
theorem dX1_nearestFloat_28 : decode cX1_nearestFloat 28 = .ok (.ireturn, 1) := by decide +kernel
theorem dX1_doubleAboveWhole_0 : decode cX1_doubleAboveWhole 0 = .ok (.lload_n 0, 1) := by decide +kernel
theorem dX1_doubleAboveWhole_1 : decode cX1_doubleAboveWhole 1 = .ok (.bipush 52, 2) := by decide +kernel
theorem dX1_doubleAboveWhole_3 : decode cX1_doubleAboveWhole 3 = .ok (.lushr, 1) := by decide +kernel
theorem dX1_doubleAboveWhole_4 : decode cX1_doubleAboveWhole 4 = .ok (.l2i, 1) := by decide +kernel
theorem dX1_doubleAboveWhole_5 : decode cX1_doubleAboveWhole 5 = .ok (.sipush 1023, 3) := by decide +kernel
theorem dX1_doubleAboveWhole_8 : decode cX1_doubleAboveWhole 8 = .ok (.isub, 1) := by decide +kernel
theorem dX1_doubleAboveWhole_9 : decode cX1_doubleAboveWhole 9 = .ok (.istore_n 2, 1) := by decide +kernel
theorem dX1_doubleAboveWhole_10 : decode cX1_doubleAboveWhole 10 = .ok (.iload_n 2, 1) := by decide +kernel
theorem dX1_doubleAboveWhole_11 : decode cX1_doubleAboveWhole 11 = .ok (.ifCond .ge 5, 3) := by decide +kernel
theorem dX1_doubleAboveWhole_14 : decode cX1_doubleAboveWhole 14 = .ok (.lload_n 0, 1) := by decide +kernel
theorem dX1_doubleAboveWhole_15 : decode cX1_doubleAboveWhole 15 = .ok (.lreturn, 1) := by decide +kernel
theorem dX1_doubleAboveWhole_16 : decode cX1_doubleAboveWhole 16 = .ok (.iload_n 2, 1) := by decide +kernel
theorem dX1_doubleAboveWhole_17 : decode cX1_doubleAboveWhole 17 = .ok (.bipush 52, 2) := by decide +kernel
theorem dX1_doubleAboveWhole_19 : decode cX1_doubleAboveWhole 19 = .ok (.if_icmp .ge 16, 3) := by decide +kernel
theorem dX1_doubleAboveWhole_22 : decode cX1_doubleAboveWhole 22 = .ok (.lload_n 0, 1) := by decide +kernel
theorem dX1_doubleAboveWhole_23 : decode cX1_doubleAboveWhole 23 = .ok (.lconst 1, 1) := by decide +kernel
theorem dX1_doubleAboveWhole_24 : decode cX1_doubleAboveWhole 24 = .ok (.bipush 52, 2) := by decide +kernel
theorem dX1_doubleAboveWhole_26 : decode cX1_doubleAboveWhole 26 = .ok (.iload_n 2, 1) := by decide +kernel
theorem dX1_doubleAboveWhole_27 : decode cX1_doubleAboveWhole 27 = .ok (.isub, 1) := by decide +kernel
theorem dX1_doubleAboveWhole_28 : decode cX1_doubleAboveWhole 28 = .ok (.lshl, 1) := by decide +kernel
theorem dX1_doubleAboveWhole_29 : decode cX1_doubleAboveWhole 29 = .ok (.lconst 1, 1) := by decide +kernel
theorem dX1_doubleAboveWhole_30 : decode cX1_doubleAboveWhole 30 = .ok (.lsub, 1) := by decide +kernel
theorem dX1_doubleAboveWhole_31 : decode cX1_doubleAboveWhole 31 = .ok (.land, 1) := by decide +kernel
theorem dX1_doubleAboveWhole_32 : decode cX1_doubleAboveWhole 32 = .ok (.goto 4, 3) := by decide +kernel
theorem dX1_doubleAboveWhole_35 : decode cX1_doubleAboveWhole 35 = .ok (.lconst 0, 1) := by decide +kernel
theorem dX1_doubleAboveWhole_36 : decode cX1_doubleAboveWhole 36 = .ok (.lstore_n 3, 1) := by decide +kernel
theorem dX1_doubleAboveWhole_37 : decode cX1_doubleAboveWhole 37 = .ok (.lload_n 3, 1) := by decide +kernel
theorem dX1_doubleAboveWhole_38 : decode cX1_doubleAboveWhole 38 = .ok (.lconst 0, 1) := by decide +kernel
theorem dX1_doubleAboveWhole_39 : decode cX1_doubleAboveWhole 39 = .ok (.lcmp, 1) := by decide +kernel
theorem dX1_doubleAboveWhole_40 : decode cX1_doubleAboveWhole 40 = .ok (.ifCond .ne 5, 3) := by decide +kernel
theorem dX1_doubleAboveWhole_43 : decode cX1_doubleAboveWhole 43 = .ok (.lconst 0, 1) := by decide +kernel
theorem dX1_doubleAboveWhole_44 : decode cX1_doubleAboveWhole 44 = .ok (.lreturn, 1) := by decide +kernel
theorem dX1_doubleAboveWhole_45 : decode cX1_doubleAboveWhole 45 = .ok (.ldc2_w 20, 3) := by decide +kernel
theorem dX1_doubleAboveWhole_48 : decode cX1_doubleAboveWhole 48 = .ok (.lstore 5, 2) := by decide +kernel
theorem dX1_doubleAboveWhole_50 : decode cX1_doubleAboveWhole 50 = .ok (.iconst 0, 1) := by decide +kernel
theorem dX1_doubleAboveWhole_51 : decode cX1_doubleAboveWhole 51 = .ok (.istore 7, 2) := by decide +kernel
theorem dX1_doubleAboveWhole_53 : decode cX1_doubleAboveWhole 53 = .ok (.iload 7, 2) := by decide +kernel
theorem dX1_doubleAboveWhole_55 : decode cX1_doubleAboveWhole 55 = .ok (.bipush 52, 2) := by decide +kernel
theorem dX1_doubleAboveWhole_57 : decode cX1_doubleAboveWhole 57 = .ok (.if_icmp .gt 23, 3) := by decide +kernel
theorem dX1_doubleAboveWhole_60 : decode cX1_doubleAboveWhole 60 = .ok (.lload_n 3, 1) := by decide +kernel
theorem dX1_doubleAboveWhole_61 : decode cX1_doubleAboveWhole 61 = .ok (.lload 5, 2) := by decide +kernel
theorem dX1_doubleAboveWhole_63 : decode cX1_doubleAboveWhole 63 = .ok (.lcmp, 1) := by decide +kernel
theorem dX1_doubleAboveWhole_64 : decode cX1_doubleAboveWhole 64 = .ok (.ifCond .ge 16, 3) := by decide +kernel
theorem dX1_doubleAboveWhole_67 : decode cX1_doubleAboveWhole 67 = .ok (.lload_n 3, 1) := by decide +kernel
theorem dX1_doubleAboveWhole_68 : decode cX1_doubleAboveWhole 68 = .ok (.iconst 1, 1) := by decide +kernel
theorem dX1_doubleAboveWhole_69 : decode cX1_doubleAboveWhole 69 = .ok (.lshl, 1) := by decide +kernel
theorem dX1_doubleAboveWhole_70 : decode cX1_doubleAboveWhole 70 = .ok (.lstore_n 3, 1) := by decide +kernel
theorem dX1_doubleAboveWhole_71 : decode cX1_doubleAboveWhole 71 = .ok (.iinc 2 (-1), 3) := by decide +kernel
theorem dX1_doubleAboveWhole_74 : decode cX1_doubleAboveWhole 74 = .ok (.iinc 7 1, 3) := by decide +kernel
theorem dX1_doubleAboveWhole_77 : decode cX1_doubleAboveWhole 77 = .ok (.goto (-24), 3) := by decide +kernel
theorem dX1_doubleAboveWhole_80 : decode cX1_doubleAboveWhole 80 = .ok (.iload_n 2, 1) := by decide +kernel
theorem dX1_doubleAboveWhole_81 : decode cX1_doubleAboveWhole 81 = .ok (.lload_n 3, 1) := by decide +kernel
theorem dX1_doubleAboveWhole_82 : decode cX1_doubleAboveWhole 82 = .ok (.bipush 52, 2) := by decide +kernel
theorem dX1_doubleAboveWhole_84 : decode cX1_doubleAboveWhole 84 = .ok (.sipush 1023, 3) := by decide +kernel
theorem dX1_doubleAboveWhole_87 : decode cX1_doubleAboveWhole 87 = .ok (.invokestatic 22, 3) := by decide +kernel
theorem dX1_doubleAboveWhole_90 : decode cX1_doubleAboveWhole 90 = .ok (.lreturn, 1) := by decide +kernel
theorem dX1_nearest_0 : decode cX1_nearest 0 = .ok (.lload_n 0, 1) := by decide +kernel
theorem dX1_nearest_1 : decode cX1_nearest 1 = .ok (.lconst 0, 1) := by decide +kernel
theorem dX1_nearest_2 : decode cX1_nearest 2 = .ok (.lcmp, 1) := by decide +kernel
theorem dX1_nearest_3 : decode cX1_nearest 3 = .ok (.ifCond .le 9, 3) := by decide +kernel
theorem dX1_nearest_6 : decode cX1_nearest 6 = .ok (.lload_n 2, 1) := by decide +kernel
theorem dX1_nearest_7 : decode cX1_nearest 7 = .ok (.lconst 0, 1) := by decide +kernel
theorem dX1_nearest_8 : decode cX1_nearest 8 = .ok (.lcmp, 1) := by decide +kernel
theorem dX1_nearest_9 : decode cX1_nearest 9 = .ok (.ifCond .gt 5, 3) := by decide +kernel
theorem dX1_nearest_12 : decode cX1_nearest 12 = .ok (.lconst 0, 1) := by decide +kernel
theorem dX1_nearest_13 : decode cX1_nearest 13 = .ok (.lreturn, 1) := by decide +kernel
theorem dX1_nearest_14 : decode cX1_nearest 14 = .ok (.lload_n 0, 1) := by decide +kernel
theorem dX1_nearest_15 : decode cX1_nearest 15 = .ok (.lstore 6, 2) := by decide +kernel
theorem dX1_nearest_17 : decode cX1_nearest 17 = .ok (.lload_n 2, 1) := by decide +kernel
theorem dX1_nearest_18 : decode cX1_nearest 18 = .ok (.lstore 8, 2) := by decide +kernel
theorem dX1_nearest_20 : decode cX1_nearest 20 = .ok (.iconst 0, 1) := by decide +kernel
theorem dX1_nearest_21 : decode cX1_nearest 21 = .ok (.istore 10, 2) := by decide +kernel
theorem dX1_nearest_23 : decode cX1_nearest 23 = .ok (.lload 6, 2) := by decide +kernel
theorem dX1_nearest_25 : decode cX1_nearest 25 = .ok (.ldc2_w 26, 3) := by decide +kernel
theorem dX1_nearest_28 : decode cX1_nearest 28 = .ok (.lload 8, 2) := by decide +kernel
theorem dX1_nearest_30 : decode cX1_nearest 30 = .ok (.lmul, 1) := by decide +kernel
theorem dX1_nearest_31 : decode cX1_nearest 31 = .ok (.lcmp, 1) := by decide +kernel
theorem dX1_nearest_32 : decode cX1_nearest 32 = .ok (.ifCond .lt 24, 3) := by decide +kernel
theorem dX1_nearest_35 : decode cX1_nearest 35 = .ok (.iload 10, 2) := by decide +kernel
theorem dX1_nearest_37 : decode cX1_nearest 37 = .ok (.bipush 32, 2) := by decide +kernel
theorem dX1_nearest_39 : decode cX1_nearest 39 = .ok (.if_icmp .ge 17, 3) := by decide +kernel
theorem dX1_nearest_42 : decode cX1_nearest 42 = .ok (.lload 8, 2) := by decide +kernel
theorem dX1_nearest_44 : decode cX1_nearest 44 = .ok (.ldc2_w 26, 3) := by decide +kernel
theorem dX1_nearest_47 : decode cX1_nearest 47 = .ok (.lmul, 1) := by decide +kernel
theorem dX1_nearest_48 : decode cX1_nearest 48 = .ok (.lstore 8, 2) := by decide +kernel
theorem dX1_nearest_50 : decode cX1_nearest 50 = .ok (.iinc 10 1, 3) := by decide +kernel
theorem dX1_nearest_53 : decode cX1_nearest 53 = .ok (.goto (-30), 3) := by decide +kernel
theorem dX1_nearest_56 : decode cX1_nearest 56 = .ok (.lload 6, 2) := by decide +kernel
theorem dX1_nearest_58 : decode cX1_nearest 58 = .ok (.lload 8, 2) := by decide +kernel
theorem dX1_nearest_60 : decode cX1_nearest 60 = .ok (.lcmp, 1) := by decide +kernel
theorem dX1_nearest_61 : decode cX1_nearest 61 = .ok (.ifCond .ge 24, 3) := by decide +kernel
theorem dX1_nearest_64 : decode cX1_nearest 64 = .ok (.iload 10, 2) := by decide +kernel
theorem dX1_nearest_66 : decode cX1_nearest 66 = .ok (.bipush (-32), 2) := by decide +kernel
theorem dX1_nearest_68 : decode cX1_nearest 68 = .ok (.if_icmp .le 17, 3) := by decide +kernel
theorem dX1_nearest_71 : decode cX1_nearest 71 = .ok (.lload 6, 2) := by decide +kernel
theorem dX1_nearest_73 : decode cX1_nearest 73 = .ok (.ldc2_w 26, 3) := by decide +kernel
theorem dX1_nearest_76 : decode cX1_nearest 76 = .ok (.lmul, 1) := by decide +kernel
theorem dX1_nearest_77 : decode cX1_nearest 77 = .ok (.lstore 6, 2) := by decide +kernel
theorem dX1_nearest_79 : decode cX1_nearest 79 = .ok (.iinc 10 (-1), 3) := by decide +kernel
theorem dX1_nearest_82 : decode cX1_nearest 82 = .ok (.goto (-26), 3) := by decide +kernel
theorem dX1_nearest_85 : decode cX1_nearest 85 = .ok (.lload 6, 2) := by decide +kernel
theorem dX1_nearest_87 : decode cX1_nearest 87 = .ok (.iload 4, 2) := by decide +kernel
theorem dX1_nearest_89 : decode cX1_nearest 89 = .ok (.lshl, 1) := by decide +kernel
theorem dX1_nearest_90 : decode cX1_nearest 90 = .ok (.lload 8, 2) := by decide +kernel
theorem dX1_nearest_92 : decode cX1_nearest 92 = .ok (.ldiv, 1) := by decide +kernel
theorem dX1_nearest_93 : decode cX1_nearest 93 = .ok (.lstore 11, 2) := by decide +kernel
theorem dX1_nearest_95 : decode cX1_nearest 95 = .ok (.ldc2_w 26, 3) := by decide +kernel
theorem dX1_nearest_98 : decode cX1_nearest 98 = .ok (.lload 6, 2) := by decide +kernel
theorem dX1_nearest_100 : decode cX1_nearest 100 = .ok (.iload 4, 2) := by decide +kernel
theorem dX1_nearest_102 : decode cX1_nearest 102 = .ok (.lshl, 1) := by decide +kernel
theorem dX1_nearest_103 : decode cX1_nearest 103 = .ok (.lload 8, 2) := by decide +kernel
theorem dX1_nearest_105 : decode cX1_nearest 105 = .ok (.lrem, 1) := by decide +kernel
theorem dX1_nearest_106 : decode cX1_nearest 106 = .ok (.lmul, 1) := by decide +kernel
theorem dX1_nearest_107 : decode cX1_nearest 107 = .ok (.lstore 13, 2) := by decide +kernel
theorem dX1_nearest_109 : decode cX1_nearest 109 = .ok (.lload 13, 2) := by decide +kernel
theorem dX1_nearest_111 : decode cX1_nearest 111 = .ok (.lload 8, 2) := by decide +kernel
theorem dX1_nearest_113 : decode cX1_nearest 113 = .ok (.lcmp, 1) := by decide +kernel
theorem dX1_nearest_114 : decode cX1_nearest 114 = .ok (.ifCond .gt 20, 3) := by decide +kernel
theorem dX1_nearest_117 : decode cX1_nearest 117 = .ok (.lload 13, 2) := by decide +kernel
theorem dX1_nearest_119 : decode cX1_nearest 119 = .ok (.lload 8, 2) := by decide +kernel
theorem dX1_nearest_121 : decode cX1_nearest 121 = .ok (.lcmp, 1) := by decide +kernel
theorem dX1_nearest_122 : decode cX1_nearest 122 = .ok (.ifCond .ne 18, 3) := by decide +kernel
theorem dX1_nearest_125 : decode cX1_nearest 125 = .ok (.lload 11, 2) := by decide +kernel
theorem dX1_nearest_127 : decode cX1_nearest 127 = .ok (.lconst 1, 1) := by decide +kernel
theorem dX1_nearest_128 : decode cX1_nearest 128 = .ok (.land, 1) := by decide +kernel
theorem dX1_nearest_129 : decode cX1_nearest 129 = .ok (.lconst 1, 1) := by decide +kernel
theorem dX1_nearest_130 : decode cX1_nearest 130 = .ok (.lcmp, 1) := by decide +kernel
theorem dX1_nearest_131 : decode cX1_nearest 131 = .ok (.ifCond .ne 9, 3) := by decide +kernel
theorem dX1_nearest_134 : decode cX1_nearest 134 = .ok (.lload 11, 2) := by decide +kernel
theorem dX1_nearest_136 : decode cX1_nearest 136 = .ok (.lconst 1, 1) := by decide +kernel
theorem dX1_nearest_137 : decode cX1_nearest 137 = .ok (.ladd, 1) := by decide +kernel
theorem dX1_nearest_138 : decode cX1_nearest 138 = .ok (.lstore 11, 2) := by decide +kernel
theorem dX1_nearest_140 : decode cX1_nearest 140 = .ok (.iload 10, 2) := by decide +kernel
theorem dX1_nearest_142 : decode cX1_nearest 142 = .ok (.lload 11, 2) := by decide +kernel
theorem dX1_nearest_144 : decode cX1_nearest 144 = .ok (.iload 4, 2) := by decide +kernel
theorem dX1_nearest_146 : decode cX1_nearest 146 = .ok (.iload 5, 2) := by decide +kernel
theorem dX1_nearest_148 : decode cX1_nearest 148 = .ok (.invokestatic 22, 3) := by decide +kernel
theorem dX1_nearest_151 : decode cX1_nearest 151 = .ok (.lreturn, 1) := by decide +kernel
theorem dX1_packed_0 : decode cX1_packed 0 = .ok (.iload_n 0, 1) := by decide +kernel
theorem dX1_packed_1 : decode cX1_packed 1 = .ok (.iload 4, 2) := by decide +kernel
theorem dX1_packed_3 : decode cX1_packed 3 = .ok (.iadd, 1) := by decide +kernel
theorem dX1_packed_4 : decode cX1_packed 4 = .ok (.i2l, 1) := by decide +kernel
theorem dX1_packed_5 : decode cX1_packed 5 = .ok (.iload_n 3, 1) := by decide +kernel
theorem dX1_packed_6 : decode cX1_packed 6 = .ok (.lshl, 1) := by decide +kernel
theorem dX1_packed_7 : decode cX1_packed 7 = .ok (.lload_n 1, 1) := by decide +kernel
theorem dX1_packed_8 : decode cX1_packed 8 = .ok (.ladd, 1) := by decide +kernel
theorem dX1_packed_9 : decode cX1_packed 9 = .ok (.lconst 1, 1) := by decide +kernel
theorem dX1_packed_10 : decode cX1_packed 10 = .ok (.iload_n 3, 1) := by decide +kernel
theorem dX1_packed_11 : decode cX1_packed 11 = .ok (.lshl, 1) := by decide +kernel
theorem dX1_packed_12 : decode cX1_packed 12 = .ok (.lsub, 1) := by decide +kernel
theorem dX1_packed_13 : decode cX1_packed 13 = .ok (.lreturn, 1) := by decide +kernel
theorem dX2_init_0 : decode cX2_init 0 = .ok (.aload_n 0, 1) := by decide +kernel
theorem dX2_init_1 : decode cX2_init 1 = .ok (.invokespecial 3, 3) := by decide +kernel
theorem dX2_init_4 : decode cX2_init 4 = .ok (.aload_n 0, 1) := by decide +kernel
theorem dX2_init_5 : decode cX2_init 5 = .ok (.bipush 32, 2) := by decide +kernel
theorem dX2_init_7 : decode cX2_init 7 = .ok (.newarray .int, 2) := by decide +kernel
theorem dX2_init_9 : decode cX2_init 9 = .ok (.putfield 9, 3) := by decide +kernel
theorem dX2_init_12 : decode cX2_init 12 = .ok (.aload_n 0, 1) := by decide +kernel
theorem dX2_init_13 : decode cX2_init 13 = .ok (.iconst (-1), 1) := by decide +kernel
theorem dX2_init_14 : decode cX2_init 14 = .ok (.putfield 15, 3) := by decide +kernel
theorem dX2_init_17 : decode cX2_init 17 = .ok (.aload_n 0, 1) := by decide +kernel
theorem dX2_init_18 : decode cX2_init 18 = .ok (.iconst 0, 1) := by decide +kernel
theorem dX2_init_19 : decode cX2_init 19 = .ok (.putfield 19, 3) := by decide +kernel
theorem dX2_init_22 : decode cX2_init 22 = .ok (.return_, 1) := by decide +kernel
theorem dX2_isNothing_0 : decode cX2_isNothing 0 = .ok (.aload_n 0, 1) := by decide +kernel
theorem dX2_isNothing_1 : decode cX2_isNothing 1 = .ok (.getfield 15, 3) := by decide +kernel
theorem dX2_isNothing_4 : decode cX2_isNothing 4 = .ok (.iconst (-1), 1) := by decide +kernel
theorem dX2_isNothing_5 : decode cX2_isNothing 5 = .ok (.if_icmp .ne 7, 3) := by decide +kernel
theorem dX2_isNothing_8 : decode cX2_isNothing 8 = .ok (.iconst 1, 1) := by decide +kernel
theorem dX2_isNothing_9 : decode cX2_isNothing 9 = .ok (.goto 4, 3) := by decide +kernel
theorem dX2_isNothing_12 : decode cX2_isNothing 12 = .ok (.iconst 0, 1) := by decide +kernel
theorem dX2_isNothing_13 : decode cX2_isNothing 13 = .ok (.ireturn, 1) := by decide +kernel
theorem dX2_drop_0 : decode cX2_drop 0 = .ok (.aload_n 0, 1) := by decide +kernel
theorem dX2_drop_1 : decode cX2_drop 1 = .ok (.iconst (-1), 1) := by decide +kernel
theorem dX2_drop_2 : decode cX2_drop 2 = .ok (.putfield 15, 3) := by decide +kernel
theorem dX2_drop_5 : decode cX2_drop 5 = .ok (.aload_n 0, 1) := by decide +kernel
theorem dX2_drop_6 : decode cX2_drop 6 = .ok (.iconst 0, 1) := by decide +kernel
theorem dX2_drop_7 : decode cX2_drop 7 = .ok (.putfield 19, 3) := by decide +kernel
theorem dX2_drop_10 : decode cX2_drop 10 = .ok (.return_, 1) := by decide +kernel
theorem dX2_renew_0 : decode cX2_renew 0 = .ok (.aload_n 0, 1) := by decide +kernel
theorem dX2_renew_1 : decode cX2_renew 1 = .ok (.iload_n 1, 1) := by decide +kernel
theorem dX2_renew_2 : decode cX2_renew 2 = .ok (.putfield 15, 3) := by decide +kernel
theorem dX2_renew_5 : decode cX2_renew 5 = .ok (.aload_n 0, 1) := by decide +kernel
theorem dX2_renew_6 : decode cX2_renew 6 = .ok (.iconst 0, 1) := by decide +kernel
theorem dX2_renew_7 : decode cX2_renew 7 = .ok (.iload_n 2, 1) := by decide +kernel
theorem dX2_renew_8 : decode cX2_renew 8 = .ok (.bipush 32, 2) := by decide +kernel
theorem dX2_renew_10 : decode cX2_renew 10 = .ok (.invokestatic 22, 3) := by decide +kernel
theorem dX2_renew_13 : decode cX2_renew 13 = .ok (.invokestatic 28, 3) := by decide +kernel
theorem dX2_renew_16 : decode cX2_renew 16 = .ok (.putfield 19, 3) := by decide +kernel
theorem dX2_renew_19 : decode cX2_renew 19 = .ok (.aload_n 0, 1) := by decide +kernel
theorem dX2_renew_20 : decode cX2_renew 20 = .ok (.getfield 9, 3) := by decide +kernel
theorem dX2_renew_23 : decode cX2_renew 23 = .ok (.iconst 0, 1) := by decide +kernel
theorem dX2_renew_24 : decode cX2_renew 24 = .ok (.invokestatic 31, 3) := by decide +kernel
theorem dX2_renew_27 : decode cX2_renew 27 = .ok (.return_, 1) := by decide +kernel
theorem dX2_hasPlace_0 : decode cX2_hasPlace 0 = .ok (.iload_n 1, 1) := by decide +kernel
theorem dX2_hasPlace_1 : decode cX2_hasPlace 1 = .ok (.ifCond .lt 15, 3) := by decide +kernel
theorem dX2_hasPlace_4 : decode cX2_hasPlace 4 = .ok (.iload_n 1, 1) := by decide +kernel
theorem dX2_hasPlace_5 : decode cX2_hasPlace 5 = .ok (.aload_n 0, 1) := by decide +kernel
theorem dX2_hasPlace_6 : decode cX2_hasPlace 6 = .ok (.getfield 19, 3) := by decide +kernel
theorem dX2_hasPlace_9 : decode cX2_hasPlace 9 = .ok (.if_icmp .ge 7, 3) := by decide +kernel
theorem dX2_hasPlace_12 : decode cX2_hasPlace 12 = .ok (.iconst 1, 1) := by decide +kernel
theorem dX2_hasPlace_13 : decode cX2_hasPlace 13 = .ok (.goto 4, 3) := by decide +kernel
theorem dX2_hasPlace_16 : decode cX2_hasPlace 16 = .ok (.iconst 0, 1) := by decide +kernel
theorem dX2_hasPlace_17 : decode cX2_hasPlace 17 = .ok (.ireturn, 1) := by decide +kernel
theorem dX2_number_0 : decode cX2_number 0 = .ok (.aload_n 0, 1) := by decide +kernel
theorem dX2_number_1 : decode cX2_number 1 = .ok (.iload_n 1, 1) := by decide +kernel
theorem dX2_number_2 : decode cX2_number 2 = .ok (.invokevirtual 37, 3) := by decide +kernel
theorem dX2_number_5 : decode cX2_number 5 = .ok (.ifCond .eq 12, 3) := by decide +kernel
theorem dX2_number_8 : decode cX2_number 8 = .ok (.aload_n 0, 1) := by decide +kernel
theorem dX2_number_9 : decode cX2_number 9 = .ok (.getfield 9, 3) := by decide +kernel
theorem dX2_number_12 : decode cX2_number 12 = .ok (.iload_n 1, 1) := by decide +kernel
theorem dX2_number_13 : decode cX2_number 13 = .ok (.iaload, 1) := by decide +kernel
theorem dX2_number_14 : decode cX2_number 14 = .ok (.goto 4, 3) := by decide +kernel
theorem dX2_number_17 : decode cX2_number 17 = .ok (.iconst 0, 1) := by decide +kernel
theorem dX2_number_18 : decode cX2_number 18 = .ok (.ireturn, 1) := by decide +kernel
theorem dX2_write_0 : decode cX2_write 0 = .ok (.aload_n 0, 1) := by decide +kernel
theorem dX2_write_1 : decode cX2_write 1 = .ok (.iload_n 1, 1) := by decide +kernel
theorem dX2_write_2 : decode cX2_write 2 = .ok (.invokevirtual 37, 3) := by decide +kernel
theorem dX2_write_5 : decode cX2_write 5 = .ok (.ifCond .eq 14, 3) := by decide +kernel
theorem dX2_write_8 : decode cX2_write 8 = .ok (.aload_n 0, 1) := by decide +kernel
theorem dX2_write_9 : decode cX2_write 9 = .ok (.getfield 9, 3) := by decide +kernel
theorem dX2_write_12 : decode cX2_write 12 = .ok (.iload_n 1, 1) := by decide +kernel
theorem dX2_write_13 : decode cX2_write 13 = .ok (.aload_n 0, 1) := by decide +kernel
theorem dX2_write_14 : decode cX2_write 14 = .ok (.iload_n 2, 1) := by decide +kernel
theorem dX2_write_15 : decode cX2_write 15 = .ok (.invokevirtual 41, 3) := by decide +kernel
theorem dX2_write_18 : decode cX2_write 18 = .ok (.iastore, 1) := by decide +kernel
theorem dX2_write_19 : decode cX2_write 19 = .ok (.return_, 1) := by decide +kernel
theorem dX2_faultAt_0 : decode cX2_faultAt 0 = .ok (.aload_n 0, 1) := by decide +kernel
theorem dX2_faultAt_1 : decode cX2_faultAt 1 = .ok (.invokevirtual 45, 3) := by decide +kernel
theorem dX2_faultAt_4 : decode cX2_faultAt 4 = .ok (.ifCond .eq 5, 3) := by decide +kernel
theorem dX2_faultAt_7 : decode cX2_faultAt 7 = .ok (.iconst 1, 1) := by decide +kernel
theorem dX2_faultAt_8 : decode cX2_faultAt 8 = .ok (.ireturn, 1) := by decide +kernel
theorem dX2_faultAt_9 : decode cX2_faultAt 9 = .ok (.aload_n 0, 1) := by decide +kernel
theorem dX2_faultAt_10 : decode cX2_faultAt 10 = .ok (.iload_n 1, 1) := by decide +kernel
theorem dX2_faultAt_11 : decode cX2_faultAt 11 = .ok (.invokevirtual 37, 3) := by decide +kernel
theorem dX2_faultAt_14 : decode cX2_faultAt 14 = .ok (.ifCond .eq 7, 3) := by decide +kernel
theorem dX2_faultAt_17 : decode cX2_faultAt 17 = .ok (.iconst 0, 1) := by decide +kernel
theorem dX2_faultAt_18 : decode cX2_faultAt 18 = .ok (.goto 4, 3) := by decide +kernel
theorem dX2_faultAt_21 : decode cX2_faultAt 21 = .ok (.iconst 3, 1) := by decide +kernel
theorem dX2_faultAt_22 : decode cX2_faultAt 22 = .ok (.ireturn, 1) := by decide +kernel
theorem dX2_faultOfCopy_0 : decode cX2_faultOfCopy 0 = .ok (.aload_n 0, 1) := by decide +kernel
theorem dX2_faultOfCopy_1 : decode cX2_faultOfCopy 1 = .ok (.invokevirtual 45, 3) := by decide +kernel
theorem dX2_faultOfCopy_4 : decode cX2_faultOfCopy 4 = .ok (.ifCond .ne 10, 3) := by decide +kernel
theorem dX2_faultOfCopy_7 : decode cX2_faultOfCopy 7 = .ok (.aload_n 2, 1) := by decide +kernel
theorem dX2_faultOfCopy_8 : decode cX2_faultOfCopy 8 = .ok (.invokevirtual 45, 3) := by decide +kernel
theorem dX2_faultOfCopy_11 : decode cX2_faultOfCopy 11 = .ok (.ifCond .eq 5, 3) := by decide +kernel
theorem dX2_faultOfCopy_14 : decode cX2_faultOfCopy 14 = .ok (.iconst 1, 1) := by decide +kernel
theorem dX2_faultOfCopy_15 : decode cX2_faultOfCopy 15 = .ok (.ireturn, 1) := by decide +kernel
theorem dX2_faultOfCopy_16 : decode cX2_faultOfCopy 16 = .ok (.aload_n 0, 1) := by decide +kernel
theorem dX2_faultOfCopy_17 : decode cX2_faultOfCopy 17 = .ok (.getfield 15, 3) := by decide +kernel
theorem dX2_faultOfCopy_20 : decode cX2_faultOfCopy 20 = .ok (.aload_n 2, 1) := by decide +kernel
theorem dX2_faultOfCopy_21 : decode cX2_faultOfCopy 21 = .ok (.getfield 15, 3) := by decide +kernel
theorem dX2_faultOfCopy_24 : decode cX2_faultOfCopy 24 = .ok (.if_icmp .eq 5, 3) := by decide +kernel
theorem dX2_faultOfCopy_27 : decode cX2_faultOfCopy 27 = .ok (.iconst 2, 1) := by decide +kernel
theorem dX2_faultOfCopy_28 : decode cX2_faultOfCopy 28 = .ok (.ireturn, 1) := by decide +kernel
theorem dX2_faultOfCopy_29 : decode cX2_faultOfCopy 29 = .ok (.aload_n 0, 1) := by decide +kernel
theorem dX2_faultOfCopy_30 : decode cX2_faultOfCopy 30 = .ok (.iload_n 1, 1) := by decide +kernel
theorem dX2_faultOfCopy_31 : decode cX2_faultOfCopy 31 = .ok (.iload 4, 2) := by decide +kernel
theorem dX2_faultOfCopy_33 : decode cX2_faultOfCopy 33 = .ok (.invokevirtual 49, 3) := by decide +kernel
theorem dX2_faultOfCopy_36 : decode cX2_faultOfCopy 36 = .ok (.ifCond .eq 17, 3) := by decide +kernel
theorem dX2_faultOfCopy_39 : decode cX2_faultOfCopy 39 = .ok (.aload_n 2, 1) := by decide +kernel
theorem dX2_faultOfCopy_40 : decode cX2_faultOfCopy 40 = .ok (.iload_n 3, 1) := by decide +kernel
theorem dX2_faultOfCopy_41 : decode cX2_faultOfCopy 41 = .ok (.iload 4, 2) := by decide +kernel
theorem dX2_faultOfCopy_43 : decode cX2_faultOfCopy 43 = .ok (.invokevirtual 49, 3) := by decide +kernel
theorem dX2_faultOfCopy_46 : decode cX2_faultOfCopy 46 = .ok (.ifCond .eq 7, 3) := by decide +kernel
theorem dX2_faultOfCopy_49 : decode cX2_faultOfCopy 49 = .ok (.iconst 0, 1) := by decide +kernel
theorem dX2_faultOfCopy_50 : decode cX2_faultOfCopy 50 = .ok (.goto 4, 3) := by decide +kernel
theorem dX2_faultOfCopy_53 : decode cX2_faultOfCopy 53 = .ok (.iconst 3, 1) := by decide +kernel
theorem dX2_faultOfCopy_54 : decode cX2_faultOfCopy 54 = .ok (.ireturn, 1) := by decide +kernel
theorem dX2_copyTo_0 : decode cX2_copyTo 0 = .ok (.aload_n 0, 1) := by decide +kernel
theorem dX2_copyTo_1 : decode cX2_copyTo 1 = .ok (.iload_n 1, 1) := by decide +kernel
theorem dX2_copyTo_2 : decode cX2_copyTo 2 = .ok (.iload 4, 2) := by decide +kernel
theorem dX2_copyTo_4 : decode cX2_copyTo 4 = .ok (.invokevirtual 49, 3) := by decide +kernel
theorem dX2_copyTo_7 : decode cX2_copyTo 7 = .ok (.ifCond .eq 28, 3) := by decide +kernel
theorem dX2_copyTo_10 : decode cX2_copyTo 10 = .ok (.aload_n 2, 1) := by decide +kernel
theorem dX2_copyTo_11 : decode cX2_copyTo 11 = .ok (.iload_n 3, 1) := by decide +kernel
theorem dX2_copyTo_12 : decode cX2_copyTo 12 = .ok (.iload 4, 2) := by decide +kernel
theorem dX2_copyTo_14 : decode cX2_copyTo 14 = .ok (.invokevirtual 49, 3) := by decide +kernel
theorem dX2_copyTo_17 : decode cX2_copyTo 17 = .ok (.ifCond .eq 18, 3) := by decide +kernel
theorem dX2_copyTo_20 : decode cX2_copyTo 20 = .ok (.aload_n 0, 1) := by decide +kernel
theorem dX2_copyTo_21 : decode cX2_copyTo 21 = .ok (.getfield 9, 3) := by decide +kernel
theorem dX2_copyTo_24 : decode cX2_copyTo 24 = .ok (.iload_n 1, 1) := by decide +kernel
theorem dX2_copyTo_25 : decode cX2_copyTo 25 = .ok (.aload_n 2, 1) := by decide +kernel
theorem dX2_copyTo_26 : decode cX2_copyTo 26 = .ok (.getfield 9, 3) := by decide +kernel
theorem dX2_copyTo_29 : decode cX2_copyTo 29 = .ok (.iload_n 3, 1) := by decide +kernel
theorem dX2_copyTo_30 : decode cX2_copyTo 30 = .ok (.iload 4, 2) := by decide +kernel
theorem dX2_copyTo_32 : decode cX2_copyTo 32 = .ok (.invokestatic 53, 3) := by decide +kernel
theorem dX2_copyTo_35 : decode cX2_copyTo 35 = .ok (.return_, 1) := by decide +kernel
theorem dX2_hasPart_0 : decode cX2_hasPart 0 = .ok (.iload_n 1, 1) := by decide +kernel
theorem dX2_hasPart_1 : decode cX2_hasPart 1 = .ok (.ifCond .lt 29, 3) := by decide +kernel
theorem dX2_hasPart_4 : decode cX2_hasPart 4 = .ok (.iload_n 2, 1) := by decide +kernel
theorem dX2_hasPart_5 : decode cX2_hasPart 5 = .ok (.ifCond .lt 25, 3) := by decide +kernel
theorem dX2_hasPart_8 : decode cX2_hasPart 8 = .ok (.iload_n 2, 1) := by decide +kernel
theorem dX2_hasPart_9 : decode cX2_hasPart 9 = .ok (.aload_n 0, 1) := by decide +kernel
theorem dX2_hasPart_10 : decode cX2_hasPart 10 = .ok (.getfield 19, 3) := by decide +kernel
theorem dX2_hasPart_13 : decode cX2_hasPart 13 = .ok (.if_icmp .gt 17, 3) := by decide +kernel
theorem dX2_hasPart_16 : decode cX2_hasPart 16 = .ok (.iload_n 1, 1) := by decide +kernel
theorem dX2_hasPart_17 : decode cX2_hasPart 17 = .ok (.aload_n 0, 1) := by decide +kernel
theorem dX2_hasPart_18 : decode cX2_hasPart 18 = .ok (.getfield 19, 3) := by decide +kernel
theorem dX2_hasPart_21 : decode cX2_hasPart 21 = .ok (.iload_n 2, 1) := by decide +kernel
theorem dX2_hasPart_22 : decode cX2_hasPart 22 = .ok (.isub, 1) := by decide +kernel
theorem dX2_hasPart_23 : decode cX2_hasPart 23 = .ok (.if_icmp .gt 7, 3) := by decide +kernel
theorem dX2_hasPart_26 : decode cX2_hasPart 26 = .ok (.iconst 1, 1) := by decide +kernel
theorem dX2_hasPart_27 : decode cX2_hasPart 27 = .ok (.goto 4, 3) := by decide +kernel
theorem dX2_hasPart_30 : decode cX2_hasPart 30 = .ok (.iconst 0, 1) := by decide +kernel
theorem dX2_hasPart_31 : decode cX2_hasPart 31 = .ok (.ireturn, 1) := by decide +kernel
theorem dX2_cut_0 : decode cX2_cut 0 = .ok (.aload_n 0, 1) := by decide +kernel
theorem dX2_cut_1 : decode cX2_cut 1 = .ok (.getfield 15, 3) := by decide +kernel
theorem dX2_cut_4 : decode cX2_cut 4 = .ok (.tableswitch 37 0 2 #[28, 31, 34], 28) := by decide +kernel
theorem dX2_cut_32 : decode cX2_cut 32 = .ok (.iload_n 1, 1) := by decide +kernel
theorem dX2_cut_33 : decode cX2_cut 33 = .ok (.i2b, 1) := by decide +kernel
theorem dX2_cut_34 : decode cX2_cut 34 = .ok (.ireturn, 1) := by decide +kernel
theorem dX2_cut_35 : decode cX2_cut 35 = .ok (.iload_n 1, 1) := by decide +kernel
theorem dX2_cut_36 : decode cX2_cut 36 = .ok (.i2c, 1) := by decide +kernel
theorem dX2_cut_37 : decode cX2_cut 37 = .ok (.ireturn, 1) := by decide +kernel
theorem dX2_cut_38 : decode cX2_cut 38 = .ok (.iload_n 1, 1) := by decide +kernel
theorem dX2_cut_39 : decode cX2_cut 39 = .ok (.i2s, 1) := by decide +kernel
theorem dX2_cut_40 : decode cX2_cut 40 = .ok (.ireturn, 1) := by decide +kernel
theorem dX2_cut_41 : decode cX2_cut 41 = .ok (.iload_n 1, 1) := by decide +kernel
theorem dX2_cut_42 : decode cX2_cut 42 = .ok (.ifCond .eq 7, 3) := by decide +kernel
theorem dX2_cut_45 : decode cX2_cut 45 = .ok (.iconst 1, 1) := by decide +kernel
theorem dX2_cut_46 : decode cX2_cut 46 = .ok (.goto 4, 3) := by decide +kernel
theorem dX2_cut_49 : decode cX2_cut 49 = .ok (.iconst 0, 1) := by decide +kernel
theorem dX2_cut_50 : decode cX2_cut 50 = .ok (.ireturn, 1) := by decide +kernel
theorem dX3_init_0 : decode cX3_init 0 = .ok (.aload_n 0, 1) := by decide +kernel
theorem dX3_init_1 : decode cX3_init 1 = .ok (.invokespecial 3, 3) := by decide +kernel
theorem dX3_init_4 : decode cX3_init 4 = .ok (.aload_n 0, 1) := by decide +kernel
theorem dX3_init_5 : decode cX3_init 5 = .ok (.bipush 86, 2) := by decide +kernel
theorem dX3_init_7 : decode cX3_init 7 = .ok (.newarray .int, 2) := by decide +kernel
theorem dX3_init_9 : decode cX3_init 9 = .ok (.putfield 11, 3) := by decide +kernel
theorem dX3_init_12 : decode cX3_init 12 = .ok (.aload_n 0, 1) := by decide +kernel
theorem dX3_init_13 : decode cX3_init 13 = .ok (.bipush 33, 2) := by decide +kernel
theorem dX3_init_15 : decode cX3_init 15 = .ok (.newarray .int, 2) := by decide +kernel
theorem dX3_init_17 : decode cX3_init 17 = .ok (.putfield 15, 3) := by decide +kernel
theorem dX3_init_20 : decode cX3_init 20 = .ok (.aload_n 0, 1) := by decide +kernel
theorem dX3_init_21 : decode cX3_init 21 = .ok (.bipush 33, 2) := by decide +kernel
theorem dX3_init_23 : decode cX3_init 23 = .ok (.newarray .boolean, 2) := by decide +kernel
theorem dX3_init_25 : decode cX3_init 25 = .ok (.putfield 18, 3) := by decide +kernel
theorem dX3_init_28 : decode cX3_init 28 = .ok (.aload_n 0, 1) := by decide +kernel
theorem dX3_init_29 : decode cX3_init 29 = .ok (.iconst 0, 1) := by decide +kernel
theorem dX3_init_30 : decode cX3_init 30 = .ok (.putfield 22, 3) := by decide +kernel
theorem dX3_init_33 : decode cX3_init 33 = .ok (.aload_n 0, 1) := by decide +kernel
theorem dX3_init_34 : decode cX3_init 34 = .ok (.iconst 0, 1) := by decide +kernel
theorem dX3_init_35 : decode cX3_init 35 = .ok (.putfield 26, 3) := by decide +kernel
theorem dX3_init_38 : decode cX3_init 38 = .ok (.aload_n 0, 1) := by decide +kernel
theorem dX3_init_39 : decode cX3_init 39 = .ok (.iconst 0, 1) := by decide +kernel
theorem dX3_init_40 : decode cX3_init 40 = .ok (.putfield 29, 3) := by decide +kernel
theorem dX3_init_43 : decode cX3_init 43 = .ok (.return_, 1) := by decide +kernel
theorem dX3_attempts_0 : decode cX3_attempts 0 = .ok (.aload_n 0, 1) := by decide +kernel
theorem dX3_attempts_1 : decode cX3_attempts 1 = .ok (.getfield 22, 3) := by decide +kernel
theorem dX3_attempts_4 : decode cX3_attempts 4 = .ok (.ireturn, 1) := by decide +kernel
theorem dX3_attempt_0 : decode cX3_attempt 0 = .ok (.iload_n 1, 1) := by decide +kernel
theorem dX3_attempt_1 : decode cX3_attempt 1 = .ok (.ifCond .lt 20, 3) := by decide +kernel
theorem dX3_attempt_4 : decode cX3_attempt 4 = .ok (.iload_n 1, 1) := by decide +kernel
theorem dX3_attempt_5 : decode cX3_attempt 5 = .ok (.aload_n 0, 1) := by decide +kernel
theorem dX3_attempt_6 : decode cX3_attempt 6 = .ok (.getfield 22, 3) := by decide +kernel
theorem dX3_attempt_9 : decode cX3_attempt 9 = .ok (.if_icmp .ge 12, 3) := by decide +kernel
theorem dX3_attempt_12 : decode cX3_attempt 12 = .ok (.aload_n 0, 1) := by decide +kernel
theorem dX3_attempt_13 : decode cX3_attempt 13 = .ok (.getfield 15, 3) := by decide +kernel
theorem dX3_attempt_16 : decode cX3_attempt 16 = .ok (.iload_n 1, 1) := by decide +kernel
theorem dX3_attempt_17 : decode cX3_attempt 17 = .ok (.iaload, 1) := by decide +kernel
theorem dX3_attempt_18 : decode cX3_attempt 18 = .ok (.goto 4, 3) := by decide +kernel
theorem dX3_attempt_21 : decode cX3_attempt 21 = .ok (.iconst 0, 1) := by decide +kernel
theorem dX3_attempt_22 : decode cX3_attempt 22 = .ok (.ireturn, 1) := by decide +kernel
theorem dX3_sharpest_0 : decode cX3_sharpest 0 = .ok (.aload_n 0, 1) := by decide +kernel
theorem dX3_sharpest_1 : decode cX3_sharpest 1 = .ok (.getfield 26, 3) := by decide +kernel
theorem dX3_sharpest_4 : decode cX3_sharpest 4 = .ok (.ireturn, 1) := by decide +kernel
theorem dX3_countAt_0 : decode cX3_countAt 0 = .ok (.aload_n 0, 1) := by decide +kernel
theorem dX3_countAt_1 : decode cX3_countAt 1 = .ok (.aload_n 1, 1) := by decide +kernel
theorem dX3_countAt_2 : decode cX3_countAt 2 = .ok (.iload_n 2, 1) := by decide +kernel
theorem dX3_countAt_3 : decode cX3_countAt 3 = .ok (.iload_n 3, 1) := by decide +kernel
theorem dX3_countAt_4 : decode cX3_countAt 4 = .ok (.invokevirtual 32, 3) := by decide +kernel
theorem dX3_countAt_7 : decode cX3_countAt 7 = .ok (.iload 4, 2) := by decide +kernel
theorem dX3_countAt_9 : decode cX3_countAt 9 = .ok (.bipush (-31), 2) := by decide +kernel
theorem dX3_countAt_11 : decode cX3_countAt 11 = .ok (.if_icmp .lt 23, 3) := by decide +kernel
theorem dX3_countAt_14 : decode cX3_countAt 14 = .ok (.iload 4, 2) := by decide +kernel
theorem dX3_countAt_16 : decode cX3_countAt 16 = .ok (.bipush 54, 2) := by decide +kernel
theorem dX3_countAt_18 : decode cX3_countAt 18 = .ok (.if_icmp .gt 16, 3) := by decide +kernel
theorem dX3_countAt_21 : decode cX3_countAt 21 = .ok (.aload_n 0, 1) := by decide +kernel
theorem dX3_countAt_22 : decode cX3_countAt 22 = .ok (.getfield 11, 3) := by decide +kernel
theorem dX3_countAt_25 : decode cX3_countAt 25 = .ok (.iload 4, 2) := by decide +kernel
theorem dX3_countAt_27 : decode cX3_countAt 27 = .ok (.bipush (-31), 2) := by decide +kernel
theorem dX3_countAt_29 : decode cX3_countAt 29 = .ok (.isub, 1) := by decide +kernel
theorem dX3_countAt_30 : decode cX3_countAt 30 = .ok (.iaload, 1) := by decide +kernel
theorem dX3_countAt_31 : decode cX3_countAt 31 = .ok (.goto 4, 3) := by decide +kernel
theorem dX3_countAt_34 : decode cX3_countAt 34 = .ok (.iconst 0, 1) := by decide +kernel
theorem dX3_countAt_35 : decode cX3_countAt 35 = .ok (.ireturn, 1) := by decide +kernel
theorem dX3_sharpness_0 : decode cX3_sharpness 0 = .ok (.aload_n 0, 1) := by decide +kernel
theorem dX3_sharpness_1 : decode cX3_sharpness 1 = .ok (.aload_n 1, 1) := by decide +kernel
theorem dX3_sharpness_2 : decode cX3_sharpness 2 = .ok (.iload_n 2, 1) := by decide +kernel
theorem dX3_sharpness_3 : decode cX3_sharpness 3 = .ok (.iload_n 3, 1) := by decide +kernel
theorem dX3_sharpness_4 : decode cX3_sharpness 4 = .ok (.invokevirtual 32, 3) := by decide +kernel
theorem dX3_sharpness_7 : decode cX3_sharpness 7 = .ok (.iconst 0, 1) := by decide +kernel
theorem dX3_sharpness_8 : decode cX3_sharpness 8 = .ok (.istore 4, 2) := by decide +kernel
theorem dX3_sharpness_10 : decode cX3_sharpness 10 = .ok (.iconst 0, 1) := by decide +kernel
theorem dX3_sharpness_11 : decode cX3_sharpness 11 = .ok (.istore 5, 2) := by decide +kernel
theorem dX3_sharpness_13 : decode cX3_sharpness 13 = .ok (.aload_n 0, 1) := by decide +kernel
theorem dX3_sharpness_14 : decode cX3_sharpness 14 = .ok (.getfield 11, 3) := by decide +kernel
theorem dX3_sharpness_17 : decode cX3_sharpness 17 = .ok (.astore 6, 2) := by decide +kernel
theorem dX3_sharpness_19 : decode cX3_sharpness 19 = .ok (.aload 6, 2) := by decide +kernel
theorem dX3_sharpness_21 : decode cX3_sharpness 21 = .ok (.arraylength, 1) := by decide +kernel
theorem dX3_sharpness_22 : decode cX3_sharpness 22 = .ok (.istore 7, 2) := by decide +kernel
theorem dX3_sharpness_24 : decode cX3_sharpness 24 = .ok (.iconst 0, 1) := by decide +kernel
theorem dX3_sharpness_25 : decode cX3_sharpness 25 = .ok (.istore 8, 2) := by decide +kernel
theorem dX3_sharpness_27 : decode cX3_sharpness 27 = .ok (.iload 8, 2) := by decide +kernel
theorem dX3_sharpness_29 : decode cX3_sharpness 29 = .ok (.iload 7, 2) := by decide +kernel
theorem dX3_sharpness_31 : decode cX3_sharpness 31 = .ok (.if_icmp .ge 36, 3) := by decide +kernel
theorem dX3_sharpness_34 : decode cX3_sharpness 34 = .ok (.aload 6, 2) := by decide +kernel
theorem dX3_sharpness_36 : decode cX3_sharpness 36 = .ok (.iload 8, 2) := by decide +kernel
theorem dX3_sharpness_38 : decode cX3_sharpness 38 = .ok (.iaload, 1) := by decide +kernel
theorem dX3_sharpness_39 : decode cX3_sharpness 39 = .ok (.istore 9, 2) := by decide +kernel
theorem dX3_sharpness_41 : decode cX3_sharpness 41 = .ok (.iload 4, 2) := by decide +kernel
theorem dX3_sharpness_43 : decode cX3_sharpness 43 = .ok (.iload 9, 2) := by decide +kernel
theorem dX3_sharpness_45 : decode cX3_sharpness 45 = .ok (.iload 5, 2) := by decide +kernel
theorem dX3_sharpness_47 : decode cX3_sharpness 47 = .ok (.isub, 1) := by decide +kernel
theorem dX3_sharpness_48 : decode cX3_sharpness 48 = .ok (.iload 9, 2) := by decide +kernel
theorem dX3_sharpness_50 : decode cX3_sharpness 50 = .ok (.iload 5, 2) := by decide +kernel
theorem dX3_sharpness_52 : decode cX3_sharpness 52 = .ok (.isub, 1) := by decide +kernel
theorem dX3_sharpness_53 : decode cX3_sharpness 53 = .ok (.imul, 1) := by decide +kernel
theorem dX3_sharpness_54 : decode cX3_sharpness 54 = .ok (.iadd, 1) := by decide +kernel
theorem dX3_sharpness_55 : decode cX3_sharpness 55 = .ok (.istore 4, 2) := by decide +kernel
theorem dX3_sharpness_57 : decode cX3_sharpness 57 = .ok (.iload 9, 2) := by decide +kernel
theorem dX3_sharpness_59 : decode cX3_sharpness 59 = .ok (.istore 5, 2) := by decide +kernel
theorem dX3_sharpness_61 : decode cX3_sharpness 61 = .ok (.iinc 8 1, 3) := by decide +kernel
theorem dX3_sharpness_64 : decode cX3_sharpness 64 = .ok (.goto (-37), 3) := by decide +kernel
theorem dX3_sharpness_67 : decode cX3_sharpness 67 = .ok (.iload 4, 2) := by decide +kernel
theorem dX3_sharpness_69 : decode cX3_sharpness 69 = .ok (.iload 5, 2) := by decide +kernel
theorem dX3_sharpness_71 : decode cX3_sharpness 71 = .ok (.iload 5, 2) := by decide +kernel
theorem dX3_sharpness_73 : decode cX3_sharpness 73 = .ok (.imul, 1) := by decide +kernel
theorem dX3_sharpness_74 : decode cX3_sharpness 74 = .ok (.iadd, 1) := by decide +kernel
theorem dX3_sharpness_75 : decode cX3_sharpness 75 = .ok (.ireturn, 1) := by decide +kernel
theorem dX3_tryAll_0 : decode cX3_tryAll 0 = .ok (.aload_n 0, 1) := by decide +kernel
theorem dX3_tryAll_1 : decode cX3_tryAll 1 = .ok (.invokevirtual 36, 3) := by decide +kernel
theorem dX3_tryAll_4 : decode cX3_tryAll 4 = .ok (.bipush (-16), 2) := by decide +kernel
theorem dX3_tryAll_6 : decode cX3_tryAll 6 = .ok (.istore_n 3, 1) := by decide +kernel
theorem dX3_tryAll_7 : decode cX3_tryAll 7 = .ok (.iload_n 3, 1) := by decide +kernel
theorem dX3_tryAll_8 : decode cX3_tryAll 8 = .ok (.bipush 16, 2) := by decide +kernel
theorem dX3_tryAll_10 : decode cX3_tryAll 10 = .ok (.if_icmp .gt 16, 3) := by decide +kernel
theorem dX3_tryAll_13 : decode cX3_tryAll 13 = .ok (.aload_n 0, 1) := by decide +kernel
theorem dX3_tryAll_14 : decode cX3_tryAll 14 = .ok (.aload_n 1, 1) := by decide +kernel
theorem dX3_tryAll_15 : decode cX3_tryAll 15 = .ok (.iload_n 2, 1) := by decide +kernel
theorem dX3_tryAll_16 : decode cX3_tryAll 16 = .ok (.iload_n 3, 1) := by decide +kernel
theorem dX3_tryAll_17 : decode cX3_tryAll 17 = .ok (.invokevirtual 39, 3) := by decide +kernel
theorem dX3_tryAll_20 : decode cX3_tryAll 20 = .ok (.iinc 3 1, 3) := by decide +kernel
theorem dX3_tryAll_23 : decode cX3_tryAll 23 = .ok (.goto (-16), 3) := by decide +kernel
theorem dX3_tryAll_26 : decode cX3_tryAll 26 = .ok (.return_, 1) := by decide +kernel
theorem dX3_search_0 : decode cX3_search 0 = .ok (.aload_n 0, 1) := by decide +kernel
theorem dX3_search_1 : decode cX3_search 1 = .ok (.invokevirtual 36, 3) := by decide +kernel
theorem dX3_search_4 : decode cX3_search 4 = .ok (.bipush (-16), 2) := by decide +kernel
theorem dX3_search_6 : decode cX3_search 6 = .ok (.istore_n 3, 1) := by decide +kernel
theorem dX3_search_7 : decode cX3_search 7 = .ok (.iload_n 3, 1) := by decide +kernel
theorem dX3_search_8 : decode cX3_search 8 = .ok (.bipush 16, 2) := by decide +kernel
theorem dX3_search_10 : decode cX3_search 10 = .ok (.if_icmp .gt 16, 3) := by decide +kernel
theorem dX3_search_13 : decode cX3_search 13 = .ok (.aload_n 0, 1) := by decide +kernel
theorem dX3_search_14 : decode cX3_search 14 = .ok (.aload_n 1, 1) := by decide +kernel
theorem dX3_search_15 : decode cX3_search 15 = .ok (.iload_n 2, 1) := by decide +kernel
theorem dX3_search_16 : decode cX3_search 16 = .ok (.iload_n 3, 1) := by decide +kernel
theorem dX3_search_17 : decode cX3_search 17 = .ok (.invokevirtual 39, 3) := by decide +kernel
theorem dX3_search_20 : decode cX3_search 20 = .ok (.iinc 3 8, 3) := by decide +kernel
theorem dX3_search_23 : decode cX3_search 23 = .ok (.goto (-16), 3) := by decide +kernel
theorem dX3_search_26 : decode cX3_search 26 = .ok (.iconst 4, 1) := by decide +kernel
theorem dX3_search_27 : decode cX3_search 27 = .ok (.istore_n 3, 1) := by decide +kernel
theorem dX3_search_28 : decode cX3_search 28 = .ok (.iload_n 3, 1) := by decide +kernel
theorem dX3_search_29 : decode cX3_search 29 = .ok (.iconst 1, 1) := by decide +kernel
theorem dX3_search_30 : decode cX3_search 30 = .ok (.if_icmp .lt 36, 3) := by decide +kernel
theorem dX3_search_33 : decode cX3_search 33 = .ok (.aload_n 0, 1) := by decide +kernel
theorem dX3_search_34 : decode cX3_search 34 = .ok (.getfield 26, 3) := by decide +kernel
theorem dX3_search_37 : decode cX3_search 37 = .ok (.istore 4, 2) := by decide +kernel
theorem dX3_search_39 : decode cX3_search 39 = .ok (.aload_n 0, 1) := by decide +kernel
theorem dX3_search_40 : decode cX3_search 40 = .ok (.aload_n 1, 1) := by decide +kernel
theorem dX3_search_41 : decode cX3_search 41 = .ok (.iload_n 2, 1) := by decide +kernel
theorem dX3_search_42 : decode cX3_search 42 = .ok (.iload 4, 2) := by decide +kernel
theorem dX3_search_44 : decode cX3_search 44 = .ok (.iload_n 3, 1) := by decide +kernel
theorem dX3_search_45 : decode cX3_search 45 = .ok (.isub, 1) := by decide +kernel
theorem dX3_search_46 : decode cX3_search 46 = .ok (.invokevirtual 39, 3) := by decide +kernel
theorem dX3_search_49 : decode cX3_search 49 = .ok (.aload_n 0, 1) := by decide +kernel
theorem dX3_search_50 : decode cX3_search 50 = .ok (.aload_n 1, 1) := by decide +kernel
theorem dX3_search_51 : decode cX3_search 51 = .ok (.iload_n 2, 1) := by decide +kernel
theorem dX3_search_52 : decode cX3_search 52 = .ok (.iload 4, 2) := by decide +kernel
theorem dX3_search_54 : decode cX3_search 54 = .ok (.iload_n 3, 1) := by decide +kernel
theorem dX3_search_55 : decode cX3_search 55 = .ok (.iadd, 1) := by decide +kernel
theorem dX3_search_56 : decode cX3_search 56 = .ok (.invokevirtual 39, 3) := by decide +kernel
theorem dX3_search_59 : decode cX3_search 59 = .ok (.iload_n 3, 1) := by decide +kernel
theorem dX3_search_60 : decode cX3_search 60 = .ok (.iconst 2, 1) := by decide +kernel
theorem dX3_search_61 : decode cX3_search 61 = .ok (.idiv, 1) := by decide +kernel
theorem dX3_search_62 : decode cX3_search 62 = .ok (.istore_n 3, 1) := by decide +kernel
theorem dX3_search_63 : decode cX3_search 63 = .ok (.goto (-35), 3) := by decide +kernel
theorem dX3_search_66 : decode cX3_search 66 = .ok (.return_, 1) := by decide +kernel
theorem dX3_begin_0 : decode cX3_begin 0 = .ok (.aload_n 0, 1) := by decide +kernel
theorem dX3_begin_1 : decode cX3_begin 1 = .ok (.iconst 0, 1) := by decide +kernel
theorem dX3_begin_2 : decode cX3_begin 2 = .ok (.putfield 22, 3) := by decide +kernel
theorem dX3_begin_5 : decode cX3_begin 5 = .ok (.iconst 0, 1) := by decide +kernel
theorem dX3_begin_6 : decode cX3_begin 6 = .ok (.istore_n 1, 1) := by decide +kernel
theorem dX3_begin_7 : decode cX3_begin 7 = .ok (.iload_n 1, 1) := by decide +kernel
theorem dX3_begin_8 : decode cX3_begin 8 = .ok (.aload_n 0, 1) := by decide +kernel
theorem dX3_begin_9 : decode cX3_begin 9 = .ok (.getfield 18, 3) := by decide +kernel
theorem dX3_begin_12 : decode cX3_begin 12 = .ok (.arraylength, 1) := by decide +kernel
theorem dX3_begin_13 : decode cX3_begin 13 = .ok (.if_icmp .ge 16, 3) := by decide +kernel
theorem dX3_begin_16 : decode cX3_begin 16 = .ok (.aload_n 0, 1) := by decide +kernel
theorem dX3_begin_17 : decode cX3_begin 17 = .ok (.getfield 18, 3) := by decide +kernel
theorem dX3_begin_20 : decode cX3_begin 20 = .ok (.iload_n 1, 1) := by decide +kernel
theorem dX3_begin_21 : decode cX3_begin 21 = .ok (.iconst 0, 1) := by decide +kernel
theorem dX3_begin_22 : decode cX3_begin 22 = .ok (.bastore, 1) := by decide +kernel
theorem dX3_begin_23 : decode cX3_begin 23 = .ok (.iinc 1 1, 3) := by decide +kernel
theorem dX3_begin_26 : decode cX3_begin 26 = .ok (.goto (-19), 3) := by decide +kernel
theorem dX3_begin_29 : decode cX3_begin 29 = .ok (.return_, 1) := by decide +kernel
theorem dX3_attemptAt_0 : decode cX3_attemptAt 0 = .ok (.iload_n 3, 1) := by decide +kernel
theorem dX3_attemptAt_1 : decode cX3_attemptAt 1 = .ok (.invokestatic 42, 3) := by decide +kernel
theorem dX3_attemptAt_4 : decode cX3_attemptAt 4 = .ok (.ifCond .eq 27, 3) := by decide +kernel
theorem dX3_attemptAt_7 : decode cX3_attemptAt 7 = .ok (.aload_n 0, 1) := by decide +kernel
theorem dX3_attemptAt_8 : decode cX3_attemptAt 8 = .ok (.getfield 18, 3) := by decide +kernel
theorem dX3_attemptAt_11 : decode cX3_attemptAt 11 = .ok (.iload_n 3, 1) := by decide +kernel
theorem dX3_attemptAt_12 : decode cX3_attemptAt 12 = .ok (.bipush 16, 2) := by decide +kernel
theorem dX3_attemptAt_14 : decode cX3_attemptAt 14 = .ok (.iadd, 1) := by decide +kernel
theorem dX3_attemptAt_15 : decode cX3_attemptAt 15 = .ok (.baload, 1) := by decide +kernel
theorem dX3_attemptAt_16 : decode cX3_attemptAt 16 = .ok (.ifCond .ne 15, 3) := by decide +kernel
theorem dX3_attemptAt_19 : decode cX3_attemptAt 19 = .ok (.aload_n 0, 1) := by decide +kernel
theorem dX3_attemptAt_20 : decode cX3_attemptAt 20 = .ok (.getfield 22, 3) := by decide +kernel
theorem dX3_attemptAt_23 : decode cX3_attemptAt 23 = .ok (.aload_n 0, 1) := by decide +kernel
theorem dX3_attemptAt_24 : decode cX3_attemptAt 24 = .ok (.getfield 15, 3) := by decide +kernel
theorem dX3_attemptAt_27 : decode cX3_attemptAt 27 = .ok (.arraylength, 1) := by decide +kernel
theorem dX3_attemptAt_28 : decode cX3_attemptAt 28 = .ok (.if_icmp .lt 4, 3) := by decide +kernel
theorem dX3_attemptAt_31 : decode cX3_attemptAt 31 = .ok (.return_, 1) := by decide +kernel
theorem dX3_attemptAt_32 : decode cX3_attemptAt 32 = .ok (.aload_n 0, 1) := by decide +kernel
theorem dX3_attemptAt_33 : decode cX3_attemptAt 33 = .ok (.aload_n 1, 1) := by decide +kernel
theorem dX3_attemptAt_34 : decode cX3_attemptAt 34 = .ok (.iload_n 2, 1) := by decide +kernel
theorem dX3_attemptAt_35 : decode cX3_attemptAt 35 = .ok (.iload_n 3, 1) := by decide +kernel
theorem dX3_attemptAt_36 : decode cX3_attemptAt 36 = .ok (.invokevirtual 46, 3) := by decide +kernel
theorem dX3_attemptAt_39 : decode cX3_attemptAt 39 = .ok (.istore 4, 2) := by decide +kernel
theorem dX3_attemptAt_41 : decode cX3_attemptAt 41 = .ok (.aload_n 0, 1) := by decide +kernel
theorem dX3_attemptAt_42 : decode cX3_attemptAt 42 = .ok (.getfield 22, 3) := by decide +kernel
theorem dX3_attemptAt_45 : decode cX3_attemptAt 45 = .ok (.ifCond .eq 13, 3) := by decide +kernel
theorem dX3_attemptAt_48 : decode cX3_attemptAt 48 = .ok (.aload_n 0, 1) := by decide +kernel
theorem dX3_attemptAt_49 : decode cX3_attemptAt 49 = .ok (.iload 4, 2) := by decide +kernel
theorem dX3_attemptAt_51 : decode cX3_attemptAt 51 = .ok (.iload_n 3, 1) := by decide +kernel
theorem dX3_attemptAt_52 : decode cX3_attemptAt 52 = .ok (.invokevirtual 50, 3) := by decide +kernel
theorem dX3_attemptAt_55 : decode cX3_attemptAt 55 = .ok (.ifCond .eq 14, 3) := by decide +kernel
theorem dX3_attemptAt_58 : decode cX3_attemptAt 58 = .ok (.aload_n 0, 1) := by decide +kernel
theorem dX3_attemptAt_59 : decode cX3_attemptAt 59 = .ok (.iload 4, 2) := by decide +kernel
theorem dX3_attemptAt_61 : decode cX3_attemptAt 61 = .ok (.putfield 29, 3) := by decide +kernel
theorem dX3_attemptAt_64 : decode cX3_attemptAt 64 = .ok (.aload_n 0, 1) := by decide +kernel
theorem dX3_attemptAt_65 : decode cX3_attemptAt 65 = .ok (.iload_n 3, 1) := by decide +kernel
theorem dX3_attemptAt_66 : decode cX3_attemptAt 66 = .ok (.putfield 26, 3) := by decide +kernel
theorem dX3_attemptAt_69 : decode cX3_attemptAt 69 = .ok (.aload_n 0, 1) := by decide +kernel
theorem dX3_attemptAt_70 : decode cX3_attemptAt 70 = .ok (.getfield 18, 3) := by decide +kernel
theorem dX3_attemptAt_73 : decode cX3_attemptAt 73 = .ok (.iload_n 3, 1) := by decide +kernel
theorem dX3_attemptAt_74 : decode cX3_attemptAt 74 = .ok (.bipush 16, 2) := by decide +kernel
theorem dX3_attemptAt_76 : decode cX3_attemptAt 76 = .ok (.iadd, 1) := by decide +kernel
theorem dX3_attemptAt_77 : decode cX3_attemptAt 77 = .ok (.iconst 1, 1) := by decide +kernel
theorem dX3_attemptAt_78 : decode cX3_attemptAt 78 = .ok (.bastore, 1) := by decide +kernel
theorem dX3_attemptAt_79 : decode cX3_attemptAt 79 = .ok (.aload_n 0, 1) := by decide +kernel
theorem dX3_attemptAt_80 : decode cX3_attemptAt 80 = .ok (.getfield 15, 3) := by decide +kernel
theorem dX3_attemptAt_83 : decode cX3_attemptAt 83 = .ok (.aload_n 0, 1) := by decide +kernel
theorem dX3_attemptAt_84 : decode cX3_attemptAt 84 = .ok (.getfield 22, 3) := by decide +kernel
theorem dX3_attemptAt_87 : decode cX3_attemptAt 87 = .ok (.iload_n 3, 1) := by decide +kernel
theorem dX3_attemptAt_88 : decode cX3_attemptAt 88 = .ok (.iastore, 1) := by decide +kernel
theorem dX3_attemptAt_89 : decode cX3_attemptAt 89 = .ok (.aload_n 0, 1) := by decide +kernel
theorem dX3_attemptAt_90 : decode cX3_attemptAt 90 = .ok (.dup, 1) := by decide +kernel
theorem dX3_attemptAt_91 : decode cX3_attemptAt 91 = .ok (.getfield 22, 3) := by decide +kernel
theorem dX3_attemptAt_94 : decode cX3_attemptAt 94 = .ok (.iconst 1, 1) := by decide +kernel
theorem dX3_attemptAt_95 : decode cX3_attemptAt 95 = .ok (.iadd, 1) := by decide +kernel
theorem dX3_attemptAt_96 : decode cX3_attemptAt 96 = .ok (.putfield 22, 3) := by decide +kernel
theorem dX3_attemptAt_99 : decode cX3_attemptAt 99 = .ok (.return_, 1) := by decide +kernel
theorem dX3_isBetter_0 : decode cX3_isBetter 0 = .ok (.iload_n 1, 1) := by decide +kernel
theorem dX3_isBetter_1 : decode cX3_isBetter 1 = .ok (.aload_n 0, 1) := by decide +kernel
theorem dX3_isBetter_2 : decode cX3_isBetter 2 = .ok (.getfield 29, 3) := by decide +kernel
theorem dX3_isBetter_5 : decode cX3_isBetter 5 = .ok (.if_icmp .eq 17, 3) := by decide +kernel
theorem dX3_isBetter_8 : decode cX3_isBetter 8 = .ok (.iload_n 1, 1) := by decide +kernel
theorem dX3_isBetter_9 : decode cX3_isBetter 9 = .ok (.aload_n 0, 1) := by decide +kernel
theorem dX3_isBetter_10 : decode cX3_isBetter 10 = .ok (.getfield 29, 3) := by decide +kernel
theorem dX3_isBetter_13 : decode cX3_isBetter 13 = .ok (.if_icmp .le 7, 3) := by decide +kernel
theorem dX3_isBetter_16 : decode cX3_isBetter 16 = .ok (.iconst 1, 1) := by decide +kernel
theorem dX3_isBetter_17 : decode cX3_isBetter 17 = .ok (.goto 4, 3) := by decide +kernel
theorem dX3_isBetter_20 : decode cX3_isBetter 20 = .ok (.iconst 0, 1) := by decide +kernel
theorem dX3_isBetter_21 : decode cX3_isBetter 21 = .ok (.ireturn, 1) := by decide +kernel
theorem dX3_isBetter_22 : decode cX3_isBetter 22 = .ok (.iload_n 2, 1) := by decide +kernel
theorem dX3_isBetter_23 : decode cX3_isBetter 23 = .ok (.invokestatic 54, 3) := by decide +kernel
theorem dX3_isBetter_26 : decode cX3_isBetter 26 = .ok (.aload_n 0, 1) := by decide +kernel
theorem dX3_isBetter_27 : decode cX3_isBetter 27 = .ok (.getfield 26, 3) := by decide +kernel
theorem dX3_isBetter_30 : decode cX3_isBetter 30 = .ok (.invokestatic 54, 3) := by decide +kernel
theorem dX3_isBetter_33 : decode cX3_isBetter 33 = .ok (.if_icmp .eq 23, 3) := by decide +kernel
theorem dX3_isBetter_36 : decode cX3_isBetter 36 = .ok (.iload_n 2, 1) := by decide +kernel
theorem dX3_isBetter_37 : decode cX3_isBetter 37 = .ok (.invokestatic 54, 3) := by decide +kernel
theorem dX3_isBetter_40 : decode cX3_isBetter 40 = .ok (.aload_n 0, 1) := by decide +kernel
theorem dX3_isBetter_41 : decode cX3_isBetter 41 = .ok (.getfield 26, 3) := by decide +kernel
theorem dX3_isBetter_44 : decode cX3_isBetter 44 = .ok (.invokestatic 54, 3) := by decide +kernel
theorem dX3_isBetter_47 : decode cX3_isBetter 47 = .ok (.if_icmp .ge 7, 3) := by decide +kernel
theorem dX3_isBetter_50 : decode cX3_isBetter 50 = .ok (.iconst 1, 1) := by decide +kernel
theorem dX3_isBetter_51 : decode cX3_isBetter 51 = .ok (.goto 4, 3) := by decide +kernel
theorem dX3_isBetter_54 : decode cX3_isBetter 54 = .ok (.iconst 0, 1) := by decide +kernel
theorem dX3_isBetter_55 : decode cX3_isBetter 55 = .ok (.ireturn, 1) := by decide +kernel
theorem dX3_isBetter_56 : decode cX3_isBetter 56 = .ok (.iload_n 2, 1) := by decide +kernel
theorem dX3_isBetter_57 : decode cX3_isBetter 57 = .ok (.aload_n 0, 1) := by decide +kernel
theorem dX3_isBetter_58 : decode cX3_isBetter 58 = .ok (.getfield 26, 3) := by decide +kernel
theorem dX3_isBetter_61 : decode cX3_isBetter 61 = .ok (.if_icmp .ge 7, 3) := by decide +kernel
theorem dX3_isBetter_64 : decode cX3_isBetter 64 = .ok (.iconst 1, 1) := by decide +kernel
theorem dX3_isBetter_65 : decode cX3_isBetter 65 = .ok (.goto 4, 3) := by decide +kernel
theorem dX3_isBetter_68 : decode cX3_isBetter 68 = .ok (.iconst 0, 1) := by decide +kernel
theorem dX3_isBetter_69 : decode cX3_isBetter 69 = .ok (.ireturn, 1) := by decide +kernel
theorem dX3_tally_0 : decode cX3_tally 0 = .ok (.aload_n 0, 1) := by decide +kernel
theorem dX3_tally_1 : decode cX3_tally 1 = .ok (.getfield 11, 3) := by decide +kernel
theorem dX3_tally_4 : decode cX3_tally 4 = .ok (.iconst 0, 1) := by decide +kernel
theorem dX3_tally_5 : decode cX3_tally 5 = .ok (.invokestatic 60, 3) := by decide +kernel
theorem dX3_tally_8 : decode cX3_tally 8 = .ok (.iconst 0, 1) := by decide +kernel
theorem dX3_tally_9 : decode cX3_tally 9 = .ok (.istore 4, 2) := by decide +kernel
theorem dX3_tally_11 : decode cX3_tally 11 = .ok (.iload 4, 2) := by decide +kernel
theorem dX3_tally_13 : decode cX3_tally 13 = .ok (.aload_n 1, 1) := by decide +kernel
theorem dX3_tally_14 : decode cX3_tally 14 = .ok (.invokevirtual 66, 3) := by decide +kernel
theorem dX3_tally_17 : decode cX3_tally 17 = .ok (.if_icmp .ge 83, 3) := by decide +kernel
theorem dX3_tally_20 : decode cX3_tally 20 = .ok (.aload_n 1, 1) := by decide +kernel
theorem dX3_tally_21 : decode cX3_tally 21 = .ok (.iload 4, 2) := by decide +kernel
theorem dX3_tally_23 : decode cX3_tally 23 = .ok (.invokevirtual 72, 3) := by decide +kernel
theorem dX3_tally_26 : decode cX3_tally 26 = .ok (.istore 5, 2) := by decide +kernel
theorem dX3_tally_28 : decode cX3_tally 28 = .ok (.iconst 0, 1) := by decide +kernel
theorem dX3_tally_29 : decode cX3_tally 29 = .ok (.istore 6, 2) := by decide +kernel
theorem dX3_tally_31 : decode cX3_tally 31 = .ok (.iload 6, 2) := by decide +kernel
theorem dX3_tally_33 : decode cX3_tally 33 = .ok (.bipush 32, 2) := by decide +kernel
theorem dX3_tally_35 : decode cX3_tally 35 = .ok (.if_icmp .ge 59, 3) := by decide +kernel
theorem dX3_tally_38 : decode cX3_tally 38 = .ok (.iload 5, 2) := by decide +kernel
theorem dX3_tally_40 : decode cX3_tally 40 = .ok (.ifCond .eq 54, 3) := by decide +kernel
theorem dX3_tally_43 : decode cX3_tally 43 = .ok (.iload 5, 2) := by decide +kernel
theorem dX3_tally_45 : decode cX3_tally 45 = .ok (.iconst 1, 1) := by decide +kernel
theorem dX3_tally_46 : decode cX3_tally 46 = .ok (.iand, 1) := by decide +kernel
theorem dX3_tally_47 : decode cX3_tally 47 = .ok (.iconst 1, 1) := by decide +kernel
theorem dX3_tally_48 : decode cX3_tally 48 = .ok (.if_icmp .ne 34, 3) := by decide +kernel
theorem dX3_tally_51 : decode cX3_tally 51 = .ok (.aload_n 0, 1) := by decide +kernel
theorem dX3_tally_52 : decode cX3_tally 52 = .ok (.iload_n 2, 1) := by decide +kernel
theorem dX3_tally_53 : decode cX3_tally 53 = .ok (.ifCond .ne 16, 3) := by decide +kernel
theorem dX3_tally_56 : decode cX3_tally 56 = .ok (.iload 6, 2) := by decide +kernel
theorem dX3_tally_58 : decode cX3_tally 58 = .ok (.iconst 0, 1) := by decide +kernel
theorem dX3_tally_59 : decode cX3_tally 59 = .ok (.iload_n 3, 1) := by decide +kernel
theorem dX3_tally_60 : decode cX3_tally 60 = .ok (.iload 4, 2) := by decide +kernel
theorem dX3_tally_62 : decode cX3_tally 62 = .ok (.invokestatic 75, 3) := by decide +kernel
theorem dX3_tally_65 : decode cX3_tally 65 = .ok (.isub, 1) := by decide +kernel
theorem dX3_tally_66 : decode cX3_tally 66 = .ok (.goto 13, 3) := by decide +kernel
theorem dX3_tally_69 : decode cX3_tally 69 = .ok (.iload 4, 2) := by decide +kernel
theorem dX3_tally_71 : decode cX3_tally 71 = .ok (.iconst 1, 1) := by decide +kernel
theorem dX3_tally_72 : decode cX3_tally 72 = .ok (.iload_n 3, 1) := by decide +kernel
theorem dX3_tally_73 : decode cX3_tally 73 = .ok (.iload 6, 2) := by decide +kernel
theorem dX3_tally_75 : decode cX3_tally 75 = .ok (.invokestatic 75, 3) := by decide +kernel
theorem dX3_tally_78 : decode cX3_tally 78 = .ok (.isub, 1) := by decide +kernel
theorem dX3_tally_79 : decode cX3_tally 79 = .ok (.invokevirtual 79, 3) := by decide +kernel
theorem dX3_tally_82 : decode cX3_tally 82 = .ok (.iload 5, 2) := by decide +kernel
theorem dX3_tally_84 : decode cX3_tally 84 = .ok (.iconst 1, 1) := by decide +kernel
theorem dX3_tally_85 : decode cX3_tally 85 = .ok (.iushr, 1) := by decide +kernel
theorem dX3_tally_86 : decode cX3_tally 86 = .ok (.istore 5, 2) := by decide +kernel
theorem dX3_tally_88 : decode cX3_tally 88 = .ok (.iinc 6 1, 3) := by decide +kernel
theorem dX3_tally_91 : decode cX3_tally 91 = .ok (.goto (-60), 3) := by decide +kernel
theorem dX3_tally_94 : decode cX3_tally 94 = .ok (.iinc 4 1, 3) := by decide +kernel
theorem dX3_tally_97 : decode cX3_tally 97 = .ok (.goto (-86), 3) := by decide +kernel
theorem dX3_tally_100 : decode cX3_tally 100 = .ok (.return_, 1) := by decide +kernel
theorem dX3_countIn_0 : decode cX3_countIn 0 = .ok (.iload_n 1, 1) := by decide +kernel
theorem dX3_countIn_1 : decode cX3_countIn 1 = .ok (.bipush (-31), 2) := by decide +kernel
theorem dX3_countIn_3 : decode cX3_countIn 3 = .ok (.if_icmp .lt 22, 3) := by decide +kernel
theorem dX3_countIn_6 : decode cX3_countIn 6 = .ok (.iload_n 1, 1) := by decide +kernel
theorem dX3_countIn_7 : decode cX3_countIn 7 = .ok (.bipush 54, 2) := by decide +kernel
theorem dX3_countIn_9 : decode cX3_countIn 9 = .ok (.if_icmp .gt 16, 3) := by decide +kernel
theorem dX3_countIn_12 : decode cX3_countIn 12 = .ok (.aload_n 0, 1) := by decide +kernel
theorem dX3_countIn_13 : decode cX3_countIn 13 = .ok (.getfield 11, 3) := by decide +kernel
theorem dX3_countIn_16 : decode cX3_countIn 16 = .ok (.iload_n 1, 1) := by decide +kernel
theorem dX3_countIn_17 : decode cX3_countIn 17 = .ok (.bipush (-31), 2) := by decide +kernel
theorem dX3_countIn_19 : decode cX3_countIn 19 = .ok (.isub, 1) := by decide +kernel
theorem dX3_countIn_20 : decode cX3_countIn 20 = .ok (.dup2, 1) := by decide +kernel
theorem dX3_countIn_21 : decode cX3_countIn 21 = .ok (.iaload, 1) := by decide +kernel
theorem dX3_countIn_22 : decode cX3_countIn 22 = .ok (.iconst 1, 1) := by decide +kernel
theorem dX3_countIn_23 : decode cX3_countIn 23 = .ok (.iadd, 1) := by decide +kernel
theorem dX3_countIn_24 : decode cX3_countIn 24 = .ok (.iastore, 1) := by decide +kernel
theorem dX3_countIn_25 : decode cX3_countIn 25 = .ok (.return_, 1) := by decide +kernel
theorem dX4_init_0 : decode cX4_init 0 = .ok (.aload_n 0, 1) := by decide +kernel
theorem dX4_init_1 : decode cX4_init 1 = .ok (.invokespecial 3, 3) := by decide +kernel
theorem dX4_init_4 : decode cX4_init 4 = .ok (.aload_n 0, 1) := by decide +kernel
theorem dX4_init_5 : decode cX4_init 5 = .ok (.bipush 24, 2) := by decide +kernel
theorem dX4_init_7 : decode cX4_init 7 = .ok (.newarray .int, 2) := by decide +kernel
theorem dX4_init_9 : decode cX4_init 9 = .ok (.putfield 9, 3) := by decide +kernel
theorem dX4_init_12 : decode cX4_init 12 = .ok (.aload_n 0, 1) := by decide +kernel
theorem dX4_init_13 : decode cX4_init 13 = .ok (.bipush 24, 2) := by decide +kernel
theorem dX4_init_15 : decode cX4_init 15 = .ok (.newarray .int, 2) := by decide +kernel
theorem dX4_init_17 : decode cX4_init 17 = .ok (.putfield 15, 3) := by decide +kernel
theorem dX4_init_20 : decode cX4_init 20 = .ok (.aload_n 0, 1) := by decide +kernel
theorem dX4_init_21 : decode cX4_init 21 = .ok (.bipush 8, 2) := by decide +kernel
theorem dX4_init_23 : decode cX4_init 23 = .ok (.bipush 24, 2) := by decide +kernel
theorem dX4_init_25 : decode cX4_init 25 = .ok (.multianewarray 18 2, 4) := by decide +kernel
theorem dX4_init_29 : decode cX4_init 29 = .ok (.putfield 20, 3) := by decide +kernel
theorem dX4_init_32 : decode cX4_init 32 = .ok (.aload_n 0, 1) := by decide +kernel
theorem dX4_init_33 : decode cX4_init 33 = .ok (.bipush 24, 2) := by decide +kernel
theorem dX4_init_35 : decode cX4_init 35 = .ok (.putfield 23, 3) := by decide +kernel
theorem dX4_init_38 : decode cX4_init 38 = .ok (.aload_n 0, 1) := by decide +kernel
theorem dX4_init_39 : decode cX4_init 39 = .ok (.iconst 0, 1) := by decide +kernel
theorem dX4_init_40 : decode cX4_init 40 = .ok (.putfield 27, 3) := by decide +kernel
theorem dX4_init_43 : decode cX4_init 43 = .ok (.aload_n 0, 1) := by decide +kernel
theorem dX4_init_44 : decode cX4_init 44 = .ok (.iconst 0, 1) := by decide +kernel
theorem dX4_init_45 : decode cX4_init 45 = .ok (.putfield 30, 3) := by decide +kernel
theorem dX4_init_48 : decode cX4_init 48 = .ok (.return_, 1) := by decide +kernel
theorem dX4_width_0 : decode cX4_width 0 = .ok (.aload_n 0, 1) := by decide +kernel
theorem dX4_width_1 : decode cX4_width 1 = .ok (.getfield 23, 3) := by decide +kernel
theorem dX4_width_4 : decode cX4_width 4 = .ok (.ireturn, 1) := by decide +kernel
theorem dX4_hasColumn_0 : decode cX4_hasColumn 0 = .ok (.iload_n 1, 1) := by decide +kernel
theorem dX4_hasColumn_1 : decode cX4_hasColumn 1 = .ok (.ifCond .lt 15, 3) := by decide +kernel
theorem dX4_hasColumn_4 : decode cX4_hasColumn 4 = .ok (.iload_n 1, 1) := by decide +kernel
theorem dX4_hasColumn_5 : decode cX4_hasColumn 5 = .ok (.aload_n 0, 1) := by decide +kernel
theorem dX4_hasColumn_6 : decode cX4_hasColumn 6 = .ok (.getfield 23, 3) := by decide +kernel
theorem dX4_hasColumn_9 : decode cX4_hasColumn 9 = .ok (.if_icmp .ge 7, 3) := by decide +kernel
theorem dX4_hasColumn_12 : decode cX4_hasColumn 12 = .ok (.iconst 1, 1) := by decide +kernel
theorem dX4_hasColumn_13 : decode cX4_hasColumn 13 = .ok (.goto 4, 3) := by decide +kernel
theorem dX4_hasColumn_16 : decode cX4_hasColumn 16 = .ok (.iconst 0, 1) := by decide +kernel
theorem dX4_hasColumn_17 : decode cX4_hasColumn 17 = .ok (.ireturn, 1) := by decide +kernel
theorem dX4_dots_0 : decode cX4_dots 0 = .ok (.aload_n 0, 1) := by decide +kernel
theorem dX4_dots_1 : decode cX4_dots 1 = .ok (.iload_n 1, 1) := by decide +kernel
theorem dX4_dots_2 : decode cX4_dots 2 = .ok (.invokevirtual 33, 3) := by decide +kernel
theorem dX4_dots_5 : decode cX4_dots 5 = .ok (.ifCond .eq 12, 3) := by decide +kernel
theorem dX4_dots_8 : decode cX4_dots 8 = .ok (.aload_n 0, 1) := by decide +kernel
theorem dX4_dots_9 : decode cX4_dots 9 = .ok (.getfield 9, 3) := by decide +kernel
theorem dX4_dots_12 : decode cX4_dots 12 = .ok (.iload_n 1, 1) := by decide +kernel
theorem dX4_dots_13 : decode cX4_dots 13 = .ok (.iaload, 1) := by decide +kernel
theorem dX4_dots_14 : decode cX4_dots 14 = .ok (.goto 4, 3) := by decide +kernel
theorem dX4_dots_17 : decode cX4_dots 17 = .ok (.iconst 0, 1) := by decide +kernel
theorem dX4_dots_18 : decode cX4_dots 18 = .ok (.ireturn, 1) := by decide +kernel
theorem dX4_inked_0 : decode cX4_inked 0 = .ok (.iload_n 2, 1) := by decide +kernel
theorem dX4_inked_1 : decode cX4_inked 1 = .ok (.invokestatic 37, 3) := by decide +kernel
theorem dX4_inked_4 : decode cX4_inked 4 = .ok (.ifCond .eq 20, 3) := by decide +kernel
theorem dX4_inked_7 : decode cX4_inked 7 = .ok (.aload_n 0, 1) := by decide +kernel
theorem dX4_inked_8 : decode cX4_inked 8 = .ok (.iload_n 1, 1) := by decide +kernel
theorem dX4_inked_9 : decode cX4_inked 9 = .ok (.invokevirtual 40, 3) := by decide +kernel
theorem dX4_inked_12 : decode cX4_inked 12 = .ok (.iload_n 2, 1) := by decide +kernel
theorem dX4_inked_13 : decode cX4_inked 13 = .ok (.iushr, 1) := by decide +kernel
theorem dX4_inked_14 : decode cX4_inked 14 = .ok (.iconst 1, 1) := by decide +kernel
theorem dX4_inked_15 : decode cX4_inked 15 = .ok (.iand, 1) := by decide +kernel
theorem dX4_inked_16 : decode cX4_inked 16 = .ok (.iconst 1, 1) := by decide +kernel
theorem dX4_inked_17 : decode cX4_inked 17 = .ok (.if_icmp .ne 7, 3) := by decide +kernel
theorem dX4_inked_20 : decode cX4_inked 20 = .ok (.iconst 1, 1) := by decide +kernel
theorem dX4_inked_21 : decode cX4_inked 21 = .ok (.goto 4, 3) := by decide +kernel
theorem dX4_inked_24 : decode cX4_inked 24 = .ok (.iconst 0, 1) := by decide +kernel
theorem dX4_inked_25 : decode cX4_inked 25 = .ok (.ireturn, 1) := by decide +kernel
theorem dX4_draw_0 : decode cX4_draw 0 = .ok (.aload_n 0, 1) := by decide +kernel
theorem dX4_draw_1 : decode cX4_draw 1 = .ok (.iload_n 1, 1) := by decide +kernel
theorem dX4_draw_2 : decode cX4_draw 2 = .ok (.invokevirtual 33, 3) := by decide +kernel
theorem dX4_draw_5 : decode cX4_draw 5 = .ok (.ifCond .eq 10, 3) := by decide +kernel
theorem dX4_draw_8 : decode cX4_draw 8 = .ok (.iload_n 2, 1) := by decide +kernel
theorem dX4_draw_9 : decode cX4_draw 9 = .ok (.invokestatic 37, 3) := by decide +kernel
theorem dX4_draw_12 : decode cX4_draw 12 = .ok (.ifCond .ne 4, 3) := by decide +kernel
theorem dX4_draw_15 : decode cX4_draw 15 = .ok (.return_, 1) := by decide +kernel
theorem dX4_draw_16 : decode cX4_draw 16 = .ok (.iconst 1, 1) := by decide +kernel
theorem dX4_draw_17 : decode cX4_draw 17 = .ok (.iload_n 2, 1) := by decide +kernel
theorem dX4_draw_18 : decode cX4_draw 18 = .ok (.ishl, 1) := by decide +kernel
theorem dX4_draw_19 : decode cX4_draw 19 = .ok (.istore 4, 2) := by decide +kernel
theorem dX4_draw_21 : decode cX4_draw 21 = .ok (.aload_n 0, 1) := by decide +kernel
theorem dX4_draw_22 : decode cX4_draw 22 = .ok (.getfield 9, 3) := by decide +kernel
theorem dX4_draw_25 : decode cX4_draw 25 = .ok (.iload_n 1, 1) := by decide +kernel
theorem dX4_draw_26 : decode cX4_draw 26 = .ok (.iload_n 3, 1) := by decide +kernel
theorem dX4_draw_27 : decode cX4_draw 27 = .ok (.ifCond .eq 15, 3) := by decide +kernel
theorem dX4_draw_30 : decode cX4_draw 30 = .ok (.aload_n 0, 1) := by decide +kernel
theorem dX4_draw_31 : decode cX4_draw 31 = .ok (.getfield 9, 3) := by decide +kernel
theorem dX4_draw_34 : decode cX4_draw 34 = .ok (.iload_n 1, 1) := by decide +kernel
theorem dX4_draw_35 : decode cX4_draw 35 = .ok (.iaload, 1) := by decide +kernel
theorem dX4_draw_36 : decode cX4_draw 36 = .ok (.iload 4, 2) := by decide +kernel
theorem dX4_draw_38 : decode cX4_draw 38 = .ok (.ior, 1) := by decide +kernel
theorem dX4_draw_39 : decode cX4_draw 39 = .ok (.goto 14, 3) := by decide +kernel
theorem dX4_draw_42 : decode cX4_draw 42 = .ok (.aload_n 0, 1) := by decide +kernel
theorem dX4_draw_43 : decode cX4_draw 43 = .ok (.getfield 9, 3) := by decide +kernel
theorem dX4_draw_46 : decode cX4_draw 46 = .ok (.iload_n 1, 1) := by decide +kernel
theorem dX4_draw_47 : decode cX4_draw 47 = .ok (.iaload, 1) := by decide +kernel
theorem dX4_draw_48 : decode cX4_draw 48 = .ok (.iload 4, 2) := by decide +kernel
theorem dX4_draw_50 : decode cX4_draw 50 = .ok (.iconst (-1), 1) := by decide +kernel
theorem dX4_draw_51 : decode cX4_draw 51 = .ok (.ixor, 1) := by decide +kernel
theorem dX4_draw_52 : decode cX4_draw 52 = .ok (.iand, 1) := by decide +kernel
theorem dX4_draw_53 : decode cX4_draw 53 = .ok (.iastore, 1) := by decide +kernel
theorem dX4_draw_54 : decode cX4_draw 54 = .ok (.return_, 1) := by decide +kernel
theorem dX4_renew_0 : decode cX4_renew 0 = .ok (.aload_n 0, 1) := by decide +kernel
theorem dX4_renew_1 : decode cX4_renew 1 = .ok (.iconst 1, 1) := by decide +kernel
theorem dX4_renew_2 : decode cX4_renew 2 = .ok (.iload_n 1, 1) := by decide +kernel
theorem dX4_renew_3 : decode cX4_renew 3 = .ok (.bipush 24, 2) := by decide +kernel
theorem dX4_renew_5 : decode cX4_renew 5 = .ok (.invokestatic 44, 3) := by decide +kernel
theorem dX4_renew_8 : decode cX4_renew 8 = .ok (.invokestatic 50, 3) := by decide +kernel
theorem dX4_renew_11 : decode cX4_renew 11 = .ok (.putfield 23, 3) := by decide +kernel
theorem dX4_renew_14 : decode cX4_renew 14 = .ok (.aload_n 0, 1) := by decide +kernel
theorem dX4_renew_15 : decode cX4_renew 15 = .ok (.getfield 9, 3) := by decide +kernel
theorem dX4_renew_18 : decode cX4_renew 18 = .ok (.iconst 0, 1) := by decide +kernel
theorem dX4_renew_19 : decode cX4_renew 19 = .ok (.invokestatic 53, 3) := by decide +kernel
theorem dX4_renew_22 : decode cX4_renew 22 = .ok (.aload_n 0, 1) := by decide +kernel
theorem dX4_renew_23 : decode cX4_renew 23 = .ok (.invokevirtual 59, 3) := by decide +kernel
theorem dX4_renew_26 : decode cX4_renew 26 = .ok (.return_, 1) := by decide +kernel
theorem dX4_ink_0 : decode cX4_ink 0 = .ok (.iconst 0, 1) := by decide +kernel
theorem dX4_ink_1 : decode cX4_ink 1 = .ok (.istore_n 1, 1) := by decide +kernel
theorem dX4_ink_2 : decode cX4_ink 2 = .ok (.iconst 0, 1) := by decide +kernel
theorem dX4_ink_3 : decode cX4_ink 3 = .ok (.istore_n 2, 1) := by decide +kernel
theorem dX4_ink_4 : decode cX4_ink 4 = .ok (.iload_n 2, 1) := by decide +kernel
theorem dX4_ink_5 : decode cX4_ink 5 = .ok (.aload_n 0, 1) := by decide +kernel
theorem dX4_ink_6 : decode cX4_ink 6 = .ok (.getfield 23, 3) := by decide +kernel
theorem dX4_ink_9 : decode cX4_ink 9 = .ok (.if_icmp .ge 21, 3) := by decide +kernel
theorem dX4_ink_12 : decode cX4_ink 12 = .ok (.iload_n 1, 1) := by decide +kernel
theorem dX4_ink_13 : decode cX4_ink 13 = .ok (.aload_n 0, 1) := by decide +kernel
theorem dX4_ink_14 : decode cX4_ink 14 = .ok (.getfield 9, 3) := by decide +kernel
theorem dX4_ink_17 : decode cX4_ink 17 = .ok (.iload_n 2, 1) := by decide +kernel
theorem dX4_ink_18 : decode cX4_ink 18 = .ok (.iaload, 1) := by decide +kernel
theorem dX4_ink_19 : decode cX4_ink 19 = .ok (.invokestatic 62, 3) := by decide +kernel
theorem dX4_ink_22 : decode cX4_ink 22 = .ok (.iadd, 1) := by decide +kernel
theorem dX4_ink_23 : decode cX4_ink 23 = .ok (.istore_n 1, 1) := by decide +kernel
theorem dX4_ink_24 : decode cX4_ink 24 = .ok (.iinc 2 1, 3) := by decide +kernel
theorem dX4_ink_27 : decode cX4_ink 27 = .ok (.goto (-23), 3) := by decide +kernel
theorem dX4_ink_30 : decode cX4_ink 30 = .ok (.iload_n 1, 1) := by decide +kernel
theorem dX4_ink_31 : decode cX4_ink 31 = .ok (.ireturn, 1) := by decide +kernel
theorem dX4_inkOfRow_0 : decode cX4_inkOfRow 0 = .ok (.iconst 0, 1) := by decide +kernel
theorem dX4_inkOfRow_1 : decode cX4_inkOfRow 1 = .ok (.istore_n 2, 1) := by decide +kernel
theorem dX4_inkOfRow_2 : decode cX4_inkOfRow 2 = .ok (.iconst 0, 1) := by decide +kernel
theorem dX4_inkOfRow_3 : decode cX4_inkOfRow 3 = .ok (.istore_n 3, 1) := by decide +kernel
theorem dX4_inkOfRow_4 : decode cX4_inkOfRow 4 = .ok (.iload_n 3, 1) := by decide +kernel
theorem dX4_inkOfRow_5 : decode cX4_inkOfRow 5 = .ok (.aload_n 0, 1) := by decide +kernel
theorem dX4_inkOfRow_6 : decode cX4_inkOfRow 6 = .ok (.getfield 23, 3) := by decide +kernel
theorem dX4_inkOfRow_9 : decode cX4_inkOfRow 9 = .ok (.if_icmp .ge 26, 3) := by decide +kernel
theorem dX4_inkOfRow_12 : decode cX4_inkOfRow 12 = .ok (.iload_n 2, 1) := by decide +kernel
theorem dX4_inkOfRow_13 : decode cX4_inkOfRow 13 = .ok (.aload_n 0, 1) := by decide +kernel
theorem dX4_inkOfRow_14 : decode cX4_inkOfRow 14 = .ok (.iload_n 3, 1) := by decide +kernel
theorem dX4_inkOfRow_15 : decode cX4_inkOfRow 15 = .ok (.iload_n 1, 1) := by decide +kernel
theorem dX4_inkOfRow_16 : decode cX4_inkOfRow 16 = .ok (.invokevirtual 67, 3) := by decide +kernel
theorem dX4_inkOfRow_19 : decode cX4_inkOfRow 19 = .ok (.ifCond .eq 7, 3) := by decide +kernel
theorem dX4_inkOfRow_22 : decode cX4_inkOfRow 22 = .ok (.iconst 1, 1) := by decide +kernel
theorem dX4_inkOfRow_23 : decode cX4_inkOfRow 23 = .ok (.goto 4, 3) := by decide +kernel
theorem dX4_inkOfRow_26 : decode cX4_inkOfRow 26 = .ok (.iconst 0, 1) := by decide +kernel
theorem dX4_inkOfRow_27 : decode cX4_inkOfRow 27 = .ok (.iadd, 1) := by decide +kernel
theorem dX4_inkOfRow_28 : decode cX4_inkOfRow 28 = .ok (.istore_n 2, 1) := by decide +kernel
theorem dX4_inkOfRow_29 : decode cX4_inkOfRow 29 = .ok (.iinc 3 1, 3) := by decide +kernel
theorem dX4_inkOfRow_32 : decode cX4_inkOfRow 32 = .ok (.goto (-28), 3) := by decide +kernel
theorem dX4_inkOfRow_35 : decode cX4_inkOfRow 35 = .ok (.iload_n 2, 1) := by decide +kernel
theorem dX4_inkOfRow_36 : decode cX4_inkOfRow 36 = .ok (.ireturn, 1) := by decide +kernel
theorem dX4_feet_0 : decode cX4_feet 0 = .ok (.aload_n 0, 1) := by decide +kernel
theorem dX4_feet_1 : decode cX4_feet 1 = .ok (.iload_n 1, 1) := by decide +kernel
theorem dX4_feet_2 : decode cX4_feet 2 = .ok (.invokevirtual 40, 3) := by decide +kernel
theorem dX4_feet_5 : decode cX4_feet 5 = .ok (.aload_n 0, 1) := by decide +kernel
theorem dX4_feet_6 : decode cX4_feet 6 = .ok (.iload_n 1, 1) := by decide +kernel
theorem dX4_feet_7 : decode cX4_feet 7 = .ok (.invokevirtual 40, 3) := by decide +kernel
theorem dX4_feet_10 : decode cX4_feet 10 = .ok (.iconst 1, 1) := by decide +kernel
theorem dX4_feet_11 : decode cX4_feet 11 = .ok (.iushr, 1) := by decide +kernel
theorem dX4_feet_12 : decode cX4_feet 12 = .ok (.iconst (-1), 1) := by decide +kernel
theorem dX4_feet_13 : decode cX4_feet 13 = .ok (.ixor, 1) := by decide +kernel
theorem dX4_feet_14 : decode cX4_feet 14 = .ok (.iand, 1) := by decide +kernel
theorem dX4_feet_15 : decode cX4_feet 15 = .ok (.ireturn, 1) := by decide +kernel
theorem dX4_allFeet_0 : decode cX4_allFeet 0 = .ok (.iconst 0, 1) := by decide +kernel
theorem dX4_allFeet_1 : decode cX4_allFeet 1 = .ok (.istore_n 1, 1) := by decide +kernel
theorem dX4_allFeet_2 : decode cX4_allFeet 2 = .ok (.iconst 0, 1) := by decide +kernel
theorem dX4_allFeet_3 : decode cX4_allFeet 3 = .ok (.istore_n 2, 1) := by decide +kernel
theorem dX4_allFeet_4 : decode cX4_allFeet 4 = .ok (.iload_n 2, 1) := by decide +kernel
theorem dX4_allFeet_5 : decode cX4_allFeet 5 = .ok (.aload_n 0, 1) := by decide +kernel
theorem dX4_allFeet_6 : decode cX4_allFeet 6 = .ok (.getfield 23, 3) := by decide +kernel
theorem dX4_allFeet_9 : decode cX4_allFeet 9 = .ok (.if_icmp .ge 20, 3) := by decide +kernel
theorem dX4_allFeet_12 : decode cX4_allFeet 12 = .ok (.iload_n 1, 1) := by decide +kernel
theorem dX4_allFeet_13 : decode cX4_allFeet 13 = .ok (.aload_n 0, 1) := by decide +kernel
theorem dX4_allFeet_14 : decode cX4_allFeet 14 = .ok (.iload_n 2, 1) := by decide +kernel
theorem dX4_allFeet_15 : decode cX4_allFeet 15 = .ok (.invokevirtual 71, 3) := by decide +kernel
theorem dX4_allFeet_18 : decode cX4_allFeet 18 = .ok (.invokestatic 62, 3) := by decide +kernel
theorem dX4_allFeet_21 : decode cX4_allFeet 21 = .ok (.iadd, 1) := by decide +kernel
theorem dX4_allFeet_22 : decode cX4_allFeet 22 = .ok (.istore_n 1, 1) := by decide +kernel
theorem dX4_allFeet_23 : decode cX4_allFeet 23 = .ok (.iinc 2 1, 3) := by decide +kernel
theorem dX4_allFeet_26 : decode cX4_allFeet 26 = .ok (.goto (-22), 3) := by decide +kernel
theorem dX4_allFeet_29 : decode cX4_allFeet 29 = .ok (.iload_n 1, 1) := by decide +kernel
theorem dX4_allFeet_30 : decode cX4_allFeet 30 = .ok (.ireturn, 1) := by decide +kernel
theorem dX4_moves_0 : decode cX4_moves 0 = .ok (.aload_n 0, 1) := by decide +kernel
theorem dX4_moves_1 : decode cX4_moves 1 = .ok (.getfield 27, 3) := by decide +kernel
theorem dX4_moves_4 : decode cX4_moves 4 = .ok (.ireturn, 1) := by decide +kernel
theorem dX4_forgetMoves_0 : decode cX4_forgetMoves 0 = .ok (.aload_n 0, 1) := by decide +kernel
theorem dX4_forgetMoves_1 : decode cX4_forgetMoves 1 = .ok (.iconst 0, 1) := by decide +kernel
theorem dX4_forgetMoves_2 : decode cX4_forgetMoves 2 = .ok (.putfield 27, 3) := by decide +kernel
theorem dX4_forgetMoves_5 : decode cX4_forgetMoves 5 = .ok (.return_, 1) := by decide +kernel
theorem dX4_takeBack_0 : decode cX4_takeBack 0 = .ok (.aload_n 0, 1) := by decide +kernel
theorem dX4_takeBack_1 : decode cX4_takeBack 1 = .ok (.getfield 27, 3) := by decide +kernel
theorem dX4_takeBack_4 : decode cX4_takeBack 4 = .ok (.ifCond .ne 4, 3) := by decide +kernel
theorem dX4_takeBack_7 : decode cX4_takeBack 7 = .ok (.return_, 1) := by decide +kernel
theorem dX4_takeBack_8 : decode cX4_takeBack 8 = .ok (.aload_n 0, 1) := by decide +kernel
theorem dX4_takeBack_9 : decode cX4_takeBack 9 = .ok (.dup, 1) := by decide +kernel
theorem dX4_takeBack_10 : decode cX4_takeBack 10 = .ok (.getfield 27, 3) := by decide +kernel
theorem dX4_takeBack_13 : decode cX4_takeBack 13 = .ok (.iconst 1, 1) := by decide +kernel
theorem dX4_takeBack_14 : decode cX4_takeBack 14 = .ok (.isub, 1) := by decide +kernel
theorem dX4_takeBack_15 : decode cX4_takeBack 15 = .ok (.putfield 27, 3) := by decide +kernel
theorem dX4_takeBack_18 : decode cX4_takeBack 18 = .ok (.aload_n 0, 1) := by decide +kernel
theorem dX4_takeBack_19 : decode cX4_takeBack 19 = .ok (.aload_n 0, 1) := by decide +kernel
theorem dX4_takeBack_20 : decode cX4_takeBack 20 = .ok (.getfield 30, 3) := by decide +kernel
theorem dX4_takeBack_23 : decode cX4_takeBack 23 = .ok (.bipush 8, 2) := by decide +kernel
theorem dX4_takeBack_25 : decode cX4_takeBack 25 = .ok (.iadd, 1) := by decide +kernel
theorem dX4_takeBack_26 : decode cX4_takeBack 26 = .ok (.iconst 1, 1) := by decide +kernel
theorem dX4_takeBack_27 : decode cX4_takeBack 27 = .ok (.isub, 1) := by decide +kernel
theorem dX4_takeBack_28 : decode cX4_takeBack 28 = .ok (.bipush 8, 2) := by decide +kernel
theorem dX4_takeBack_30 : decode cX4_takeBack 30 = .ok (.irem, 1) := by decide +kernel
theorem dX4_takeBack_31 : decode cX4_takeBack 31 = .ok (.putfield 30, 3) := by decide +kernel
theorem dX4_takeBack_34 : decode cX4_takeBack 34 = .ok (.aload_n 0, 1) := by decide +kernel
theorem dX4_takeBack_35 : decode cX4_takeBack 35 = .ok (.getfield 20, 3) := by decide +kernel
theorem dX4_takeBack_38 : decode cX4_takeBack 38 = .ok (.aload_n 0, 1) := by decide +kernel
theorem dX4_takeBack_39 : decode cX4_takeBack 39 = .ok (.getfield 30, 3) := by decide +kernel
theorem dX4_takeBack_42 : decode cX4_takeBack 42 = .ok (.aaload, 1) := by decide +kernel
theorem dX4_takeBack_43 : decode cX4_takeBack 43 = .ok (.iconst 0, 1) := by decide +kernel
theorem dX4_takeBack_44 : decode cX4_takeBack 44 = .ok (.aload_n 0, 1) := by decide +kernel
theorem dX4_takeBack_45 : decode cX4_takeBack 45 = .ok (.getfield 9, 3) := by decide +kernel
theorem dX4_takeBack_48 : decode cX4_takeBack 48 = .ok (.iconst 0, 1) := by decide +kernel
theorem dX4_takeBack_49 : decode cX4_takeBack 49 = .ok (.bipush 24, 2) := by decide +kernel
theorem dX4_takeBack_51 : decode cX4_takeBack 51 = .ok (.invokestatic 74, 3) := by decide +kernel
theorem dX4_takeBack_54 : decode cX4_takeBack 54 = .ok (.return_, 1) := by decide +kernel
theorem dX4_slideColumns_0 : decode cX4_slideColumns 0 = .ok (.iconst 0, 1) := by decide +kernel
theorem dX4_slideColumns_1 : decode cX4_slideColumns 1 = .ok (.istore_n 2, 1) := by decide +kernel
theorem dX4_slideColumns_2 : decode cX4_slideColumns 2 = .ok (.iconst 0, 1) := by decide +kernel
theorem dX4_slideColumns_3 : decode cX4_slideColumns 3 = .ok (.istore_n 3, 1) := by decide +kernel
theorem dX4_slideColumns_4 : decode cX4_slideColumns 4 = .ok (.iload_n 3, 1) := by decide +kernel
theorem dX4_slideColumns_5 : decode cX4_slideColumns 5 = .ok (.aload_n 0, 1) := by decide +kernel
theorem dX4_slideColumns_6 : decode cX4_slideColumns 6 = .ok (.getfield 23, 3) := by decide +kernel
theorem dX4_slideColumns_9 : decode cX4_slideColumns 9 = .ok (.if_icmp .ge 76, 3) := by decide +kernel
theorem dX4_slideColumns_12 : decode cX4_slideColumns 12 = .ok (.iload_n 3, 1) := by decide +kernel
theorem dX4_slideColumns_13 : decode cX4_slideColumns 13 = .ok (.aload_n 1, 1) := by decide +kernel
theorem dX4_slideColumns_14 : decode cX4_slideColumns 14 = .ok (.arraylength, 1) := by decide +kernel
theorem dX4_slideColumns_15 : decode cX4_slideColumns 15 = .ok (.if_icmp .ge 70, 3) := by decide +kernel
theorem dX4_slideColumns_18 : decode cX4_slideColumns 18 = .ok (.aload_n 0, 1) := by decide +kernel
theorem dX4_slideColumns_19 : decode cX4_slideColumns 19 = .ok (.getfield 15, 3) := by decide +kernel
theorem dX4_slideColumns_22 : decode cX4_slideColumns 22 = .ok (.iload_n 3, 1) := by decide +kernel
theorem dX4_slideColumns_23 : decode cX4_slideColumns 23 = .ok (.aload_n 0, 1) := by decide +kernel
theorem dX4_slideColumns_24 : decode cX4_slideColumns 24 = .ok (.getfield 9, 3) := by decide +kernel
theorem dX4_slideColumns_27 : decode cX4_slideColumns 27 = .ok (.iload_n 3, 1) := by decide +kernel
theorem dX4_slideColumns_28 : decode cX4_slideColumns 28 = .ok (.iaload, 1) := by decide +kernel
theorem dX4_slideColumns_29 : decode cX4_slideColumns 29 = .ok (.aload_n 1, 1) := by decide +kernel
theorem dX4_slideColumns_30 : decode cX4_slideColumns 30 = .ok (.iload_n 3, 1) := by decide +kernel
theorem dX4_slideColumns_31 : decode cX4_slideColumns 31 = .ok (.iaload, 1) := by decide +kernel
theorem dX4_slideColumns_32 : decode cX4_slideColumns 32 = .ok (.invokestatic 80, 3) := by decide +kernel
theorem dX4_slideColumns_35 : decode cX4_slideColumns 35 = .ok (.iastore, 1) := by decide +kernel
theorem dX4_slideColumns_36 : decode cX4_slideColumns 36 = .ok (.aload_n 0, 1) := by decide +kernel
theorem dX4_slideColumns_37 : decode cX4_slideColumns 37 = .ok (.getfield 9, 3) := by decide +kernel
theorem dX4_slideColumns_40 : decode cX4_slideColumns 40 = .ok (.iload_n 3, 1) := by decide +kernel
theorem dX4_slideColumns_41 : decode cX4_slideColumns 41 = .ok (.iaload, 1) := by decide +kernel
theorem dX4_slideColumns_42 : decode cX4_slideColumns 42 = .ok (.invokestatic 62, 3) := by decide +kernel
theorem dX4_slideColumns_45 : decode cX4_slideColumns 45 = .ok (.istore 4, 2) := by decide +kernel
theorem dX4_slideColumns_47 : decode cX4_slideColumns 47 = .ok (.aload_n 0, 1) := by decide +kernel
theorem dX4_slideColumns_48 : decode cX4_slideColumns 48 = .ok (.getfield 15, 3) := by decide +kernel
theorem dX4_slideColumns_51 : decode cX4_slideColumns 51 = .ok (.iload_n 3, 1) := by decide +kernel
theorem dX4_slideColumns_52 : decode cX4_slideColumns 52 = .ok (.iaload, 1) := by decide +kernel
theorem dX4_slideColumns_53 : decode cX4_slideColumns 53 = .ok (.invokestatic 62, 3) := by decide +kernel
theorem dX4_slideColumns_56 : decode cX4_slideColumns 56 = .ok (.iload 4, 2) := by decide +kernel
theorem dX4_slideColumns_58 : decode cX4_slideColumns 58 = .ok (.if_icmp .eq 6, 3) := by decide +kernel
theorem dX4_slideColumns_61 : decode cX4_slideColumns 61 = .ok (.bipush (-3), 2) := by decide +kernel
theorem dX4_slideColumns_63 : decode cX4_slideColumns 63 = .ok (.ireturn, 1) := by decide +kernel
theorem dX4_slideColumns_64 : decode cX4_slideColumns 64 = .ok (.iload_n 2, 1) := by decide +kernel
theorem dX4_slideColumns_65 : decode cX4_slideColumns 65 = .ok (.aload_n 1, 1) := by decide +kernel
theorem dX4_slideColumns_66 : decode cX4_slideColumns 66 = .ok (.iload_n 3, 1) := by decide +kernel
theorem dX4_slideColumns_67 : decode cX4_slideColumns 67 = .ok (.iaload, 1) := by decide +kernel
theorem dX4_slideColumns_68 : decode cX4_slideColumns 68 = .ok (.ifCond .ne 7, 3) := by decide +kernel
theorem dX4_slideColumns_71 : decode cX4_slideColumns 71 = .ok (.iconst 0, 1) := by decide +kernel
theorem dX4_slideColumns_72 : decode cX4_slideColumns 72 = .ok (.goto 5, 3) := by decide +kernel
theorem dX4_slideColumns_75 : decode cX4_slideColumns 75 = .ok (.iload 4, 2) := by decide +kernel
theorem dX4_slideColumns_77 : decode cX4_slideColumns 77 = .ok (.iadd, 1) := by decide +kernel
theorem dX4_slideColumns_78 : decode cX4_slideColumns 78 = .ok (.istore_n 2, 1) := by decide +kernel
theorem dX4_slideColumns_79 : decode cX4_slideColumns 79 = .ok (.iinc 3 1, 3) := by decide +kernel
theorem dX4_slideColumns_82 : decode cX4_slideColumns 82 = .ok (.goto (-78), 3) := by decide +kernel
theorem dX4_slideColumns_85 : decode cX4_slideColumns 85 = .ok (.aload_n 0, 1) := by decide +kernel
theorem dX4_slideColumns_86 : decode cX4_slideColumns 86 = .ok (.invokevirtual 83, 3) := by decide +kernel
theorem dX4_slideColumns_89 : decode cX4_slideColumns 89 = .ok (.iload_n 2, 1) := by decide +kernel
theorem dX4_slideColumns_90 : decode cX4_slideColumns 90 = .ok (.ireturn, 1) := by decide +kernel
theorem dX4_slideRows_0 : decode cX4_slideRows 0 = .ok (.iconst 0, 1) := by decide +kernel
theorem dX4_slideRows_1 : decode cX4_slideRows 1 = .ok (.istore_n 2, 1) := by decide +kernel
theorem dX4_slideRows_2 : decode cX4_slideRows 2 = .ok (.aload_n 0, 1) := by decide +kernel
theorem dX4_slideRows_3 : decode cX4_slideRows 3 = .ok (.getfield 15, 3) := by decide +kernel
theorem dX4_slideRows_6 : decode cX4_slideRows 6 = .ok (.iconst 0, 1) := by decide +kernel
theorem dX4_slideRows_7 : decode cX4_slideRows 7 = .ok (.invokestatic 53, 3) := by decide +kernel
theorem dX4_slideRows_10 : decode cX4_slideRows 10 = .ok (.iconst 0, 1) := by decide +kernel
theorem dX4_slideRows_11 : decode cX4_slideRows 11 = .ok (.istore_n 3, 1) := by decide +kernel
theorem dX4_slideRows_12 : decode cX4_slideRows 12 = .ok (.iload_n 3, 1) := by decide +kernel
theorem dX4_slideRows_13 : decode cX4_slideRows 13 = .ok (.bipush 32, 2) := by decide +kernel
theorem dX4_slideRows_15 : decode cX4_slideRows 15 = .ok (.if_icmp .ge 93, 3) := by decide +kernel
theorem dX4_slideRows_18 : decode cX4_slideRows 18 = .ok (.iload_n 3, 1) := by decide +kernel
theorem dX4_slideRows_19 : decode cX4_slideRows 19 = .ok (.aload_n 1, 1) := by decide +kernel
theorem dX4_slideRows_20 : decode cX4_slideRows 20 = .ok (.arraylength, 1) := by decide +kernel
theorem dX4_slideRows_21 : decode cX4_slideRows 21 = .ok (.if_icmp .ge 87, 3) := by decide +kernel
theorem dX4_slideRows_24 : decode cX4_slideRows 24 = .ok (.iconst 0, 1) := by decide +kernel
theorem dX4_slideRows_25 : decode cX4_slideRows 25 = .ok (.istore 4, 2) := by decide +kernel
theorem dX4_slideRows_27 : decode cX4_slideRows 27 = .ok (.iload 4, 2) := by decide +kernel
theorem dX4_slideRows_29 : decode cX4_slideRows 29 = .ok (.aload_n 0, 1) := by decide +kernel
theorem dX4_slideRows_30 : decode cX4_slideRows 30 = .ok (.getfield 23, 3) := by decide +kernel
theorem dX4_slideRows_33 : decode cX4_slideRows 33 = .ok (.if_icmp .ge 69, 3) := by decide +kernel
theorem dX4_slideRows_36 : decode cX4_slideRows 36 = .ok (.aload_n 0, 1) := by decide +kernel
theorem dX4_slideRows_37 : decode cX4_slideRows 37 = .ok (.iload 4, 2) := by decide +kernel
theorem dX4_slideRows_39 : decode cX4_slideRows 39 = .ok (.iload_n 3, 1) := by decide +kernel
theorem dX4_slideRows_40 : decode cX4_slideRows 40 = .ok (.invokevirtual 67, 3) := by decide +kernel
theorem dX4_slideRows_43 : decode cX4_slideRows 43 = .ok (.ifCond .ne 6, 3) := by decide +kernel
theorem dX4_slideRows_46 : decode cX4_slideRows 46 = .ok (.goto 50, 3) := by decide +kernel
theorem dX4_slideRows_49 : decode cX4_slideRows 49 = .ok (.iload 4, 2) := by decide +kernel
theorem dX4_slideRows_51 : decode cX4_slideRows 51 = .ok (.aload_n 1, 1) := by decide +kernel
theorem dX4_slideRows_52 : decode cX4_slideRows 52 = .ok (.iload_n 3, 1) := by decide +kernel
theorem dX4_slideRows_53 : decode cX4_slideRows 53 = .ok (.iaload, 1) := by decide +kernel
theorem dX4_slideRows_54 : decode cX4_slideRows 54 = .ok (.isub, 1) := by decide +kernel
theorem dX4_slideRows_55 : decode cX4_slideRows 55 = .ok (.istore 5, 2) := by decide +kernel
theorem dX4_slideRows_57 : decode cX4_slideRows 57 = .ok (.aload_n 0, 1) := by decide +kernel
theorem dX4_slideRows_58 : decode cX4_slideRows 58 = .ok (.iload 5, 2) := by decide +kernel
theorem dX4_slideRows_60 : decode cX4_slideRows 60 = .ok (.invokevirtual 33, 3) := by decide +kernel
theorem dX4_slideRows_63 : decode cX4_slideRows 63 = .ok (.ifCond .ne 6, 3) := by decide +kernel
theorem dX4_slideRows_66 : decode cX4_slideRows 66 = .ok (.bipush (-3), 2) := by decide +kernel
theorem dX4_slideRows_68 : decode cX4_slideRows 68 = .ok (.ireturn, 1) := by decide +kernel
theorem dX4_slideRows_69 : decode cX4_slideRows 69 = .ok (.aload_n 0, 1) := by decide +kernel
theorem dX4_slideRows_70 : decode cX4_slideRows 70 = .ok (.getfield 15, 3) := by decide +kernel
theorem dX4_slideRows_73 : decode cX4_slideRows 73 = .ok (.iload 5, 2) := by decide +kernel
theorem dX4_slideRows_75 : decode cX4_slideRows 75 = .ok (.dup2, 1) := by decide +kernel
theorem dX4_slideRows_76 : decode cX4_slideRows 76 = .ok (.iaload, 1) := by decide +kernel
theorem dX4_slideRows_77 : decode cX4_slideRows 77 = .ok (.iconst 1, 1) := by decide +kernel
theorem dX4_slideRows_78 : decode cX4_slideRows 78 = .ok (.iload_n 3, 1) := by decide +kernel
theorem dX4_slideRows_79 : decode cX4_slideRows 79 = .ok (.ishl, 1) := by decide +kernel
theorem dX4_slideRows_80 : decode cX4_slideRows 80 = .ok (.ior, 1) := by decide +kernel
theorem dX4_slideRows_81 : decode cX4_slideRows 81 = .ok (.iastore, 1) := by decide +kernel
theorem dX4_slideRows_82 : decode cX4_slideRows 82 = .ok (.iload_n 2, 1) := by decide +kernel
theorem dX4_slideRows_83 : decode cX4_slideRows 83 = .ok (.aload_n 1, 1) := by decide +kernel
theorem dX4_slideRows_84 : decode cX4_slideRows 84 = .ok (.iload_n 3, 1) := by decide +kernel
theorem dX4_slideRows_85 : decode cX4_slideRows 85 = .ok (.iaload, 1) := by decide +kernel
theorem dX4_slideRows_86 : decode cX4_slideRows 86 = .ok (.ifCond .ne 7, 3) := by decide +kernel
theorem dX4_slideRows_89 : decode cX4_slideRows 89 = .ok (.iconst 0, 1) := by decide +kernel
theorem dX4_slideRows_90 : decode cX4_slideRows 90 = .ok (.goto 4, 3) := by decide +kernel
theorem dX4_slideRows_93 : decode cX4_slideRows 93 = .ok (.iconst 1, 1) := by decide +kernel
theorem dX4_slideRows_94 : decode cX4_slideRows 94 = .ok (.iadd, 1) := by decide +kernel
theorem dX4_slideRows_95 : decode cX4_slideRows 95 = .ok (.istore_n 2, 1) := by decide +kernel
theorem dX4_slideRows_96 : decode cX4_slideRows 96 = .ok (.iinc 4 1, 3) := by decide +kernel
theorem dX4_slideRows_99 : decode cX4_slideRows 99 = .ok (.goto (-72), 3) := by decide +kernel
theorem dX4_slideRows_102 : decode cX4_slideRows 102 = .ok (.iinc 3 1, 3) := by decide +kernel
theorem dX4_slideRows_105 : decode cX4_slideRows 105 = .ok (.goto (-93), 3) := by decide +kernel
theorem dX4_slideRows_108 : decode cX4_slideRows 108 = .ok (.aload_n 0, 1) := by decide +kernel
theorem dX4_slideRows_109 : decode cX4_slideRows 109 = .ok (.invokevirtual 83, 3) := by decide +kernel
theorem dX4_slideRows_112 : decode cX4_slideRows 112 = .ok (.iload_n 2, 1) := by decide +kernel
theorem dX4_slideRows_113 : decode cX4_slideRows 113 = .ok (.ireturn, 1) := by decide +kernel
theorem dX4_raised_0 : decode cX4_raised 0 = .ok (.iload_n 1, 1) := by decide +kernel
theorem dX4_raised_1 : decode cX4_raised 1 = .ok (.bipush 32, 2) := by decide +kernel
theorem dX4_raised_3 : decode cX4_raised 3 = .ok (.if_icmp .ge 9, 3) := by decide +kernel
theorem dX4_raised_6 : decode cX4_raised 6 = .ok (.iload_n 1, 1) := by decide +kernel
theorem dX4_raised_7 : decode cX4_raised 7 = .ok (.bipush (-32), 2) := by decide +kernel
theorem dX4_raised_9 : decode cX4_raised 9 = .ok (.if_icmp .gt 5, 3) := by decide +kernel
theorem dX4_raised_12 : decode cX4_raised 12 = .ok (.iconst 0, 1) := by decide +kernel
theorem dX4_raised_13 : decode cX4_raised 13 = .ok (.ireturn, 1) := by decide +kernel
theorem dX4_raised_14 : decode cX4_raised 14 = .ok (.iload_n 1, 1) := by decide +kernel
theorem dX4_raised_15 : decode cX4_raised 15 = .ok (.ifCond .lt 9, 3) := by decide +kernel
theorem dX4_raised_18 : decode cX4_raised 18 = .ok (.iload_n 0, 1) := by decide +kernel
theorem dX4_raised_19 : decode cX4_raised 19 = .ok (.iload_n 1, 1) := by decide +kernel
theorem dX4_raised_20 : decode cX4_raised 20 = .ok (.iushr, 1) := by decide +kernel
theorem dX4_raised_21 : decode cX4_raised 21 = .ok (.goto 7, 3) := by decide +kernel
theorem dX4_raised_24 : decode cX4_raised 24 = .ok (.iload_n 0, 1) := by decide +kernel
theorem dX4_raised_25 : decode cX4_raised 25 = .ok (.iload_n 1, 1) := by decide +kernel
theorem dX4_raised_26 : decode cX4_raised 26 = .ok (.ineg, 1) := by decide +kernel
theorem dX4_raised_27 : decode cX4_raised 27 = .ok (.ishl, 1) := by decide +kernel
theorem dX4_raised_28 : decode cX4_raised 28 = .ok (.ireturn, 1) := by decide +kernel
theorem dX4_finishMove_0 : decode cX4_finishMove 0 = .ok (.aload_n 0, 1) := by decide +kernel
theorem dX4_finishMove_1 : decode cX4_finishMove 1 = .ok (.getfield 9, 3) := by decide +kernel
theorem dX4_finishMove_4 : decode cX4_finishMove 4 = .ok (.iconst 0, 1) := by decide +kernel
theorem dX4_finishMove_5 : decode cX4_finishMove 5 = .ok (.aload_n 0, 1) := by decide +kernel
theorem dX4_finishMove_6 : decode cX4_finishMove 6 = .ok (.getfield 20, 3) := by decide +kernel
theorem dX4_finishMove_9 : decode cX4_finishMove 9 = .ok (.aload_n 0, 1) := by decide +kernel
theorem dX4_finishMove_10 : decode cX4_finishMove 10 = .ok (.getfield 30, 3) := by decide +kernel
theorem dX4_finishMove_13 : decode cX4_finishMove 13 = .ok (.aaload, 1) := by decide +kernel
theorem dX4_finishMove_14 : decode cX4_finishMove 14 = .ok (.iconst 0, 1) := by decide +kernel
theorem dX4_finishMove_15 : decode cX4_finishMove 15 = .ok (.bipush 24, 2) := by decide +kernel
theorem dX4_finishMove_17 : decode cX4_finishMove 17 = .ok (.invokestatic 74, 3) := by decide +kernel
theorem dX4_finishMove_20 : decode cX4_finishMove 20 = .ok (.aload_n 0, 1) := by decide +kernel
theorem dX4_finishMove_21 : decode cX4_finishMove 21 = .ok (.getfield 15, 3) := by decide +kernel
theorem dX4_finishMove_24 : decode cX4_finishMove 24 = .ok (.iconst 0, 1) := by decide +kernel
theorem dX4_finishMove_25 : decode cX4_finishMove 25 = .ok (.aload_n 0, 1) := by decide +kernel
theorem dX4_finishMove_26 : decode cX4_finishMove 26 = .ok (.getfield 9, 3) := by decide +kernel
theorem dX4_finishMove_29 : decode cX4_finishMove 29 = .ok (.iconst 0, 1) := by decide +kernel
theorem dX4_finishMove_30 : decode cX4_finishMove 30 = .ok (.aload_n 0, 1) := by decide +kernel
theorem dX4_finishMove_31 : decode cX4_finishMove 31 = .ok (.getfield 23, 3) := by decide +kernel
theorem dX4_finishMove_34 : decode cX4_finishMove 34 = .ok (.invokestatic 74, 3) := by decide +kernel
theorem dX4_finishMove_37 : decode cX4_finishMove 37 = .ok (.aload_n 0, 1) := by decide +kernel
theorem dX4_finishMove_38 : decode cX4_finishMove 38 = .ok (.aload_n 0, 1) := by decide +kernel
theorem dX4_finishMove_39 : decode cX4_finishMove 39 = .ok (.getfield 30, 3) := by decide +kernel
theorem dX4_finishMove_42 : decode cX4_finishMove 42 = .ok (.iconst 1, 1) := by decide +kernel
theorem dX4_finishMove_43 : decode cX4_finishMove 43 = .ok (.iadd, 1) := by decide +kernel
theorem dX4_finishMove_44 : decode cX4_finishMove 44 = .ok (.bipush 8, 2) := by decide +kernel
theorem dX4_finishMove_46 : decode cX4_finishMove 46 = .ok (.irem, 1) := by decide +kernel
theorem dX4_finishMove_47 : decode cX4_finishMove 47 = .ok (.putfield 30, 3) := by decide +kernel
theorem dX4_finishMove_50 : decode cX4_finishMove 50 = .ok (.aload_n 0, 1) := by decide +kernel
theorem dX4_finishMove_51 : decode cX4_finishMove 51 = .ok (.aload_n 0, 1) := by decide +kernel
theorem dX4_finishMove_52 : decode cX4_finishMove 52 = .ok (.getfield 27, 3) := by decide +kernel
theorem dX4_finishMove_55 : decode cX4_finishMove 55 = .ok (.iconst 1, 1) := by decide +kernel
theorem dX4_finishMove_56 : decode cX4_finishMove 56 = .ok (.iadd, 1) := by decide +kernel
theorem dX4_finishMove_57 : decode cX4_finishMove 57 = .ok (.bipush 8, 2) := by decide +kernel
theorem dX4_finishMove_59 : decode cX4_finishMove 59 = .ok (.invokestatic 44, 3) := by decide +kernel
theorem dX4_finishMove_62 : decode cX4_finishMove 62 = .ok (.putfield 27, 3) := by decide +kernel
theorem dX4_finishMove_65 : decode cX4_finishMove 65 = .ok (.return_, 1) := by decide +kernel
theorem dX5_init_0 : decode cX5_init 0 = .ok (.aload_n 0, 1) := by decide +kernel
theorem dX5_init_1 : decode cX5_init 1 = .ok (.invokespecial 3, 3) := by decide +kernel
theorem dX5_init_4 : decode cX5_init 4 = .ok (.aload_n 0, 1) := by decide +kernel
theorem dX5_init_5 : decode cX5_init 5 = .ok (.sipush 384, 3) := by decide +kernel
theorem dX5_init_8 : decode cX5_init 8 = .ok (.newarray .int, 2) := by decide +kernel
theorem dX5_init_10 : decode cX5_init 10 = .ok (.putfield 11, 3) := by decide +kernel
theorem dX5_init_13 : decode cX5_init 13 = .ok (.aload_n 0, 1) := by decide +kernel
theorem dX5_init_14 : decode cX5_init 14 = .ok (.sipush 384, 3) := by decide +kernel
theorem dX5_init_17 : decode cX5_init 17 = .ok (.newarray .int, 2) := by decide +kernel
theorem dX5_init_19 : decode cX5_init 19 = .ok (.putfield 15, 3) := by decide +kernel
theorem dX5_init_22 : decode cX5_init 22 = .ok (.aload_n 0, 1) := by decide +kernel
theorem dX5_init_23 : decode cX5_init 23 = .ok (.sipush 384, 3) := by decide +kernel
theorem dX5_init_26 : decode cX5_init 26 = .ok (.newarray .int, 2) := by decide +kernel
theorem dX5_init_28 : decode cX5_init 28 = .ok (.putfield 18, 3) := by decide +kernel
theorem dX5_init_31 : decode cX5_init 31 = .ok (.aload_n 0, 1) := by decide +kernel
theorem dX5_init_32 : decode cX5_init 32 = .ok (.sipush 384, 3) := by decide +kernel
theorem dX5_init_35 : decode cX5_init 35 = .ok (.newarray .int, 2) := by decide +kernel
theorem dX5_init_37 : decode cX5_init 37 = .ok (.putfield 21, 3) := by decide +kernel
theorem dX5_init_40 : decode cX5_init 40 = .ok (.aload_n 0, 1) := by decide +kernel
theorem dX5_init_41 : decode cX5_init 41 = .ok (.sipush 384, 3) := by decide +kernel
theorem dX5_init_44 : decode cX5_init 44 = .ok (.newarray .int, 2) := by decide +kernel
theorem dX5_init_46 : decode cX5_init 46 = .ok (.putfield 24, 3) := by decide +kernel
theorem dX5_init_49 : decode cX5_init 49 = .ok (.aload_n 0, 1) := by decide +kernel
theorem dX5_init_50 : decode cX5_init 50 = .ok (.iconst 0, 1) := by decide +kernel
theorem dX5_init_51 : decode cX5_init 51 = .ok (.putfield 27, 3) := by decide +kernel
theorem dX5_init_54 : decode cX5_init 54 = .ok (.aload_n 0, 1) := by decide +kernel
theorem dX5_init_55 : decode cX5_init 55 = .ok (.iconst 0, 1) := by decide +kernel
theorem dX5_init_56 : decode cX5_init 56 = .ok (.putfield 31, 3) := by decide +kernel
theorem dX5_init_59 : decode cX5_init 59 = .ok (.return_, 1) := by decide +kernel
theorem dX5_find_0 : decode cX5_find 0 = .ok (.aload_n 0, 1) := by decide +kernel
theorem dX5_find_1 : decode cX5_find 1 = .ok (.iconst 0, 1) := by decide +kernel
theorem dX5_find_2 : decode cX5_find 2 = .ok (.putfield 27, 3) := by decide +kernel
theorem dX5_find_5 : decode cX5_find 5 = .ok (.iconst 0, 1) := by decide +kernel
theorem dX5_find_6 : decode cX5_find 6 = .ok (.istore_n 2, 1) := by decide +kernel
theorem dX5_find_7 : decode cX5_find 7 = .ok (.iconst 0, 1) := by decide +kernel
theorem dX5_find_8 : decode cX5_find 8 = .ok (.istore_n 3, 1) := by decide +kernel
theorem dX5_find_9 : decode cX5_find 9 = .ok (.iload_n 3, 1) := by decide +kernel
theorem dX5_find_10 : decode cX5_find 10 = .ok (.bipush 32, 2) := by decide +kernel
theorem dX5_find_12 : decode cX5_find 12 = .ok (.if_icmp .ge 31, 3) := by decide +kernel
theorem dX5_find_15 : decode cX5_find 15 = .ok (.aload_n 0, 1) := by decide +kernel
theorem dX5_find_16 : decode cX5_find 16 = .ok (.getfield 27, 3) := by decide +kernel
theorem dX5_find_19 : decode cX5_find 19 = .ok (.istore 4, 2) := by decide +kernel
theorem dX5_find_21 : decode cX5_find 21 = .ok (.aload_n 0, 1) := by decide +kernel
theorem dX5_find_22 : decode cX5_find 22 = .ok (.aload_n 1, 1) := by decide +kernel
theorem dX5_find_23 : decode cX5_find 23 = .ok (.iload_n 3, 1) := by decide +kernel
theorem dX5_find_24 : decode cX5_find 24 = .ok (.invokevirtual 34, 3) := by decide +kernel
theorem dX5_find_27 : decode cX5_find 27 = .ok (.aload_n 0, 1) := by decide +kernel
theorem dX5_find_28 : decode cX5_find 28 = .ok (.iload_n 2, 1) := by decide +kernel
theorem dX5_find_29 : decode cX5_find 29 = .ok (.iload 4, 2) := by decide +kernel
theorem dX5_find_31 : decode cX5_find 31 = .ok (.invokevirtual 38, 3) := by decide +kernel
theorem dX5_find_34 : decode cX5_find 34 = .ok (.iload 4, 2) := by decide +kernel
theorem dX5_find_36 : decode cX5_find 36 = .ok (.istore_n 2, 1) := by decide +kernel
theorem dX5_find_37 : decode cX5_find 37 = .ok (.iinc 3 1, 3) := by decide +kernel
theorem dX5_find_40 : decode cX5_find 40 = .ok (.goto (-31), 3) := by decide +kernel
theorem dX5_find_43 : decode cX5_find 43 = .ok (.aload_n 0, 1) := by decide +kernel
theorem dX5_find_44 : decode cX5_find 44 = .ok (.invokevirtual 42, 3) := by decide +kernel
theorem dX5_find_47 : decode cX5_find 47 = .ok (.return_, 1) := by decide +kernel
theorem dX5_runs_0 : decode cX5_runs 0 = .ok (.aload_n 0, 1) := by decide +kernel
theorem dX5_runs_1 : decode cX5_runs 1 = .ok (.getfield 27, 3) := by decide +kernel
theorem dX5_runs_4 : decode cX5_runs 4 = .ok (.ireturn, 1) := by decide +kernel
theorem dX5_count_0 : decode cX5_count 0 = .ok (.aload_n 0, 1) := by decide +kernel
theorem dX5_count_1 : decode cX5_count 1 = .ok (.getfield 31, 3) := by decide +kernel
theorem dX5_count_4 : decode cX5_count 4 = .ok (.ireturn, 1) := by decide +kernel
theorem dX5_rowOf_0 : decode cX5_rowOf 0 = .ok (.aload_n 0, 1) := by decide +kernel
theorem dX5_rowOf_1 : decode cX5_rowOf 1 = .ok (.iload_n 1, 1) := by decide +kernel
theorem dX5_rowOf_2 : decode cX5_rowOf 2 = .ok (.invokevirtual 45, 3) := by decide +kernel
theorem dX5_rowOf_5 : decode cX5_rowOf 5 = .ok (.ifCond .eq 12, 3) := by decide +kernel
theorem dX5_rowOf_8 : decode cX5_rowOf 8 = .ok (.aload_n 0, 1) := by decide +kernel
theorem dX5_rowOf_9 : decode cX5_rowOf 9 = .ok (.getfield 11, 3) := by decide +kernel
theorem dX5_rowOf_12 : decode cX5_rowOf 12 = .ok (.iload_n 1, 1) := by decide +kernel
theorem dX5_rowOf_13 : decode cX5_rowOf 13 = .ok (.iaload, 1) := by decide +kernel
theorem dX5_rowOf_14 : decode cX5_rowOf 14 = .ok (.goto 4, 3) := by decide +kernel
theorem dX5_rowOf_17 : decode cX5_rowOf 17 = .ok (.iconst (-1), 1) := by decide +kernel
theorem dX5_rowOf_18 : decode cX5_rowOf 18 = .ok (.ireturn, 1) := by decide +kernel
theorem dX5_firstOf_0 : decode cX5_firstOf 0 = .ok (.aload_n 0, 1) := by decide +kernel
theorem dX5_firstOf_1 : decode cX5_firstOf 1 = .ok (.iload_n 1, 1) := by decide +kernel
theorem dX5_firstOf_2 : decode cX5_firstOf 2 = .ok (.invokevirtual 45, 3) := by decide +kernel
theorem dX5_firstOf_5 : decode cX5_firstOf 5 = .ok (.ifCond .eq 12, 3) := by decide +kernel
theorem dX5_firstOf_8 : decode cX5_firstOf 8 = .ok (.aload_n 0, 1) := by decide +kernel
theorem dX5_firstOf_9 : decode cX5_firstOf 9 = .ok (.getfield 15, 3) := by decide +kernel
theorem dX5_firstOf_12 : decode cX5_firstOf 12 = .ok (.iload_n 1, 1) := by decide +kernel
theorem dX5_firstOf_13 : decode cX5_firstOf 13 = .ok (.iaload, 1) := by decide +kernel
theorem dX5_firstOf_14 : decode cX5_firstOf 14 = .ok (.goto 4, 3) := by decide +kernel
theorem dX5_firstOf_17 : decode cX5_firstOf 17 = .ok (.iconst (-1), 1) := by decide +kernel
theorem dX5_firstOf_18 : decode cX5_firstOf 18 = .ok (.ireturn, 1) := by decide +kernel
theorem dX5_dotsOf_0 : decode cX5_dotsOf 0 = .ok (.aload_n 0, 1) := by decide +kernel
theorem dX5_dotsOf_1 : decode cX5_dotsOf 1 = .ok (.iload_n 1, 1) := by decide +kernel
theorem dX5_dotsOf_2 : decode cX5_dotsOf 2 = .ok (.invokevirtual 45, 3) := by decide +kernel
theorem dX5_dotsOf_5 : decode cX5_dotsOf 5 = .ok (.ifCond .eq 21, 3) := by decide +kernel
theorem dX5_dotsOf_8 : decode cX5_dotsOf 8 = .ok (.aload_n 0, 1) := by decide +kernel
theorem dX5_dotsOf_9 : decode cX5_dotsOf 9 = .ok (.getfield 18, 3) := by decide +kernel
theorem dX5_dotsOf_12 : decode cX5_dotsOf 12 = .ok (.iload_n 1, 1) := by decide +kernel
theorem dX5_dotsOf_13 : decode cX5_dotsOf 13 = .ok (.iaload, 1) := by decide +kernel
theorem dX5_dotsOf_14 : decode cX5_dotsOf 14 = .ok (.aload_n 0, 1) := by decide +kernel
theorem dX5_dotsOf_15 : decode cX5_dotsOf 15 = .ok (.getfield 15, 3) := by decide +kernel
theorem dX5_dotsOf_18 : decode cX5_dotsOf 18 = .ok (.iload_n 1, 1) := by decide +kernel
theorem dX5_dotsOf_19 : decode cX5_dotsOf 19 = .ok (.iaload, 1) := by decide +kernel
theorem dX5_dotsOf_20 : decode cX5_dotsOf 20 = .ok (.isub, 1) := by decide +kernel
theorem dX5_dotsOf_21 : decode cX5_dotsOf 21 = .ok (.iconst 1, 1) := by decide +kernel
theorem dX5_dotsOf_22 : decode cX5_dotsOf 22 = .ok (.iadd, 1) := by decide +kernel
theorem dX5_dotsOf_23 : decode cX5_dotsOf 23 = .ok (.goto 4, 3) := by decide +kernel
theorem dX5_dotsOf_26 : decode cX5_dotsOf 26 = .ok (.iconst (-1), 1) := by decide +kernel
theorem dX5_dotsOf_27 : decode cX5_dotsOf 27 = .ok (.ireturn, 1) := by decide +kernel
theorem dX5_strokeOf_0 : decode cX5_strokeOf 0 = .ok (.aload_n 0, 1) := by decide +kernel
theorem dX5_strokeOf_1 : decode cX5_strokeOf 1 = .ok (.iload_n 1, 1) := by decide +kernel
theorem dX5_strokeOf_2 : decode cX5_strokeOf 2 = .ok (.invokevirtual 45, 3) := by decide +kernel
theorem dX5_strokeOf_5 : decode cX5_strokeOf 5 = .ok (.ifCond .eq 12, 3) := by decide +kernel
theorem dX5_strokeOf_8 : decode cX5_strokeOf 8 = .ok (.aload_n 0, 1) := by decide +kernel
theorem dX5_strokeOf_9 : decode cX5_strokeOf 9 = .ok (.getfield 24, 3) := by decide +kernel
theorem dX5_strokeOf_12 : decode cX5_strokeOf 12 = .ok (.iload_n 1, 1) := by decide +kernel
theorem dX5_strokeOf_13 : decode cX5_strokeOf 13 = .ok (.iaload, 1) := by decide +kernel
theorem dX5_strokeOf_14 : decode cX5_strokeOf 14 = .ok (.goto 4, 3) := by decide +kernel
theorem dX5_strokeOf_17 : decode cX5_strokeOf 17 = .ok (.iconst (-1), 1) := by decide +kernel
theorem dX5_strokeOf_18 : decode cX5_strokeOf 18 = .ok (.ireturn, 1) := by decide +kernel
theorem dX5_dotsTogether_0 : decode cX5_dotsTogether 0 = .ok (.iconst 0, 1) := by decide +kernel
theorem dX5_dotsTogether_1 : decode cX5_dotsTogether 1 = .ok (.istore_n 2, 1) := by decide +kernel
theorem dX5_dotsTogether_2 : decode cX5_dotsTogether 2 = .ok (.iconst 0, 1) := by decide +kernel
theorem dX5_dotsTogether_3 : decode cX5_dotsTogether 3 = .ok (.istore_n 3, 1) := by decide +kernel
theorem dX5_dotsTogether_4 : decode cX5_dotsTogether 4 = .ok (.iload_n 3, 1) := by decide +kernel
theorem dX5_dotsTogether_5 : decode cX5_dotsTogether 5 = .ok (.aload_n 0, 1) := by decide +kernel
theorem dX5_dotsTogether_6 : decode cX5_dotsTogether 6 = .ok (.getfield 27, 3) := by decide +kernel
theorem dX5_dotsTogether_9 : decode cX5_dotsTogether 9 = .ok (.if_icmp .ge 31, 3) := by decide +kernel
theorem dX5_dotsTogether_12 : decode cX5_dotsTogether 12 = .ok (.iload_n 2, 1) := by decide +kernel
theorem dX5_dotsTogether_13 : decode cX5_dotsTogether 13 = .ok (.aload_n 0, 1) := by decide +kernel
theorem dX5_dotsTogether_14 : decode cX5_dotsTogether 14 = .ok (.getfield 24, 3) := by decide +kernel
theorem dX5_dotsTogether_17 : decode cX5_dotsTogether 17 = .ok (.iload_n 3, 1) := by decide +kernel
theorem dX5_dotsTogether_18 : decode cX5_dotsTogether 18 = .ok (.iaload, 1) := by decide +kernel
theorem dX5_dotsTogether_19 : decode cX5_dotsTogether 19 = .ok (.iload_n 1, 1) := by decide +kernel
theorem dX5_dotsTogether_20 : decode cX5_dotsTogether 20 = .ok (.if_icmp .ne 11, 3) := by decide +kernel
theorem dX5_dotsTogether_23 : decode cX5_dotsTogether 23 = .ok (.aload_n 0, 1) := by decide +kernel
theorem dX5_dotsTogether_24 : decode cX5_dotsTogether 24 = .ok (.iload_n 3, 1) := by decide +kernel
theorem dX5_dotsTogether_25 : decode cX5_dotsTogether 25 = .ok (.invokevirtual 49, 3) := by decide +kernel
theorem dX5_dotsTogether_28 : decode cX5_dotsTogether 28 = .ok (.goto 4, 3) := by decide +kernel
theorem dX5_dotsTogether_31 : decode cX5_dotsTogether 31 = .ok (.iconst 0, 1) := by decide +kernel
theorem dX5_dotsTogether_32 : decode cX5_dotsTogether 32 = .ok (.iadd, 1) := by decide +kernel
theorem dX5_dotsTogether_33 : decode cX5_dotsTogether 33 = .ok (.istore_n 2, 1) := by decide +kernel
theorem dX5_dotsTogether_34 : decode cX5_dotsTogether 34 = .ok (.iinc 3 1, 3) := by decide +kernel
theorem dX5_dotsTogether_37 : decode cX5_dotsTogether 37 = .ok (.goto (-33), 3) := by decide +kernel
theorem dX5_dotsTogether_40 : decode cX5_dotsTogether 40 = .ok (.iload_n 2, 1) := by decide +kernel
theorem dX5_dotsTogether_41 : decode cX5_dotsTogether 41 = .ok (.ireturn, 1) := by decide +kernel
theorem dX5_runsTogether_0 : decode cX5_runsTogether 0 = .ok (.iconst 0, 1) := by decide +kernel
theorem dX5_runsTogether_1 : decode cX5_runsTogether 1 = .ok (.istore_n 2, 1) := by decide +kernel
theorem dX5_runsTogether_2 : decode cX5_runsTogether 2 = .ok (.iconst 0, 1) := by decide +kernel
theorem dX5_runsTogether_3 : decode cX5_runsTogether 3 = .ok (.istore_n 3, 1) := by decide +kernel
theorem dX5_runsTogether_4 : decode cX5_runsTogether 4 = .ok (.iload_n 3, 1) := by decide +kernel
theorem dX5_runsTogether_5 : decode cX5_runsTogether 5 = .ok (.aload_n 0, 1) := by decide +kernel
theorem dX5_runsTogether_6 : decode cX5_runsTogether 6 = .ok (.getfield 27, 3) := by decide +kernel
theorem dX5_runsTogether_9 : decode cX5_runsTogether 9 = .ok (.if_icmp .ge 27, 3) := by decide +kernel
theorem dX5_runsTogether_12 : decode cX5_runsTogether 12 = .ok (.iload_n 2, 1) := by decide +kernel
theorem dX5_runsTogether_13 : decode cX5_runsTogether 13 = .ok (.aload_n 0, 1) := by decide +kernel
theorem dX5_runsTogether_14 : decode cX5_runsTogether 14 = .ok (.getfield 24, 3) := by decide +kernel
theorem dX5_runsTogether_17 : decode cX5_runsTogether 17 = .ok (.iload_n 3, 1) := by decide +kernel
theorem dX5_runsTogether_18 : decode cX5_runsTogether 18 = .ok (.iaload, 1) := by decide +kernel
theorem dX5_runsTogether_19 : decode cX5_runsTogether 19 = .ok (.iload_n 1, 1) := by decide +kernel
theorem dX5_runsTogether_20 : decode cX5_runsTogether 20 = .ok (.if_icmp .ne 7, 3) := by decide +kernel
theorem dX5_runsTogether_23 : decode cX5_runsTogether 23 = .ok (.iconst 1, 1) := by decide +kernel
theorem dX5_runsTogether_24 : decode cX5_runsTogether 24 = .ok (.goto 4, 3) := by decide +kernel
theorem dX5_runsTogether_27 : decode cX5_runsTogether 27 = .ok (.iconst 0, 1) := by decide +kernel
theorem dX5_runsTogether_28 : decode cX5_runsTogether 28 = .ok (.iadd, 1) := by decide +kernel
theorem dX5_runsTogether_29 : decode cX5_runsTogether 29 = .ok (.istore_n 2, 1) := by decide +kernel
theorem dX5_runsTogether_30 : decode cX5_runsTogether 30 = .ok (.iinc 3 1, 3) := by decide +kernel
theorem dX5_runsTogether_33 : decode cX5_runsTogether 33 = .ok (.goto (-29), 3) := by decide +kernel
theorem dX5_runsTogether_36 : decode cX5_runsTogether 36 = .ok (.iload_n 2, 1) := by decide +kernel
theorem dX5_runsTogether_37 : decode cX5_runsTogether 37 = .ok (.ireturn, 1) := by decide +kernel
theorem dX5_leastRow_0 : decode cX5_leastRow 0 = .ok (.aload_n 0, 1) := by decide +kernel
theorem dX5_leastRow_1 : decode cX5_leastRow 1 = .ok (.aload_n 0, 1) := by decide +kernel
theorem dX5_leastRow_2 : decode cX5_leastRow 2 = .ok (.getfield 11, 3) := by decide +kernel
theorem dX5_leastRow_5 : decode cX5_leastRow 5 = .ok (.iload_n 1, 1) := by decide +kernel
theorem dX5_leastRow_6 : decode cX5_leastRow 6 = .ok (.invokevirtual 53, 3) := by decide +kernel
theorem dX5_leastRow_9 : decode cX5_leastRow 9 = .ok (.ireturn, 1) := by decide +kernel
theorem dX5_greatestRow_0 : decode cX5_greatestRow 0 = .ok (.aload_n 0, 1) := by decide +kernel
theorem dX5_greatestRow_1 : decode cX5_greatestRow 1 = .ok (.aload_n 0, 1) := by decide +kernel
theorem dX5_greatestRow_2 : decode cX5_greatestRow 2 = .ok (.getfield 11, 3) := by decide +kernel
theorem dX5_greatestRow_5 : decode cX5_greatestRow 5 = .ok (.iload_n 1, 1) := by decide +kernel
theorem dX5_greatestRow_6 : decode cX5_greatestRow 6 = .ok (.invokevirtual 57, 3) := by decide +kernel
theorem dX5_greatestRow_9 : decode cX5_greatestRow 9 = .ok (.ireturn, 1) := by decide +kernel
theorem dX5_leastColumn_0 : decode cX5_leastColumn 0 = .ok (.aload_n 0, 1) := by decide +kernel
theorem dX5_leastColumn_1 : decode cX5_leastColumn 1 = .ok (.aload_n 0, 1) := by decide +kernel
theorem dX5_leastColumn_2 : decode cX5_leastColumn 2 = .ok (.getfield 15, 3) := by decide +kernel
theorem dX5_leastColumn_5 : decode cX5_leastColumn 5 = .ok (.iload_n 1, 1) := by decide +kernel
theorem dX5_leastColumn_6 : decode cX5_leastColumn 6 = .ok (.invokevirtual 53, 3) := by decide +kernel
theorem dX5_leastColumn_9 : decode cX5_leastColumn 9 = .ok (.ireturn, 1) := by decide +kernel
theorem dX5_greatestColumn_0 : decode cX5_greatestColumn 0 = .ok (.aload_n 0, 1) := by decide +kernel
theorem dX5_greatestColumn_1 : decode cX5_greatestColumn 1 = .ok (.aload_n 0, 1) := by decide +kernel
theorem dX5_greatestColumn_2 : decode cX5_greatestColumn 2 = .ok (.getfield 18, 3) := by decide +kernel
theorem dX5_greatestColumn_5 : decode cX5_greatestColumn 5 = .ok (.iload_n 1, 1) := by decide +kernel
theorem dX5_greatestColumn_6 : decode cX5_greatestColumn 6 = .ok (.invokevirtual 57, 3) := by decide +kernel
theorem dX5_greatestColumn_9 : decode cX5_greatestColumn 9 = .ok (.ireturn, 1) := by decide +kernel
theorem dX5_least_0 : decode cX5_least 0 = .ok (.bipush 32, 2) := by decide +kernel
theorem dX5_least_2 : decode cX5_least 2 = .ok (.istore_n 3, 1) := by decide +kernel
theorem dX5_least_3 : decode cX5_least 3 = .ok (.iconst 0, 1) := by decide +kernel
theorem dX5_least_4 : decode cX5_least 4 = .ok (.istore 4, 2) := by decide +kernel
theorem dX5_least_6 : decode cX5_least 6 = .ok (.iload 4, 2) := by decide +kernel
theorem dX5_least_8 : decode cX5_least 8 = .ok (.aload_n 0, 1) := by decide +kernel
theorem dX5_least_9 : decode cX5_least 9 = .ok (.getfield 27, 3) := by decide +kernel
theorem dX5_least_12 : decode cX5_least 12 = .ok (.if_icmp .ge 40, 3) := by decide +kernel
theorem dX5_least_15 : decode cX5_least 15 = .ok (.iload 4, 2) := by decide +kernel
theorem dX5_least_17 : decode cX5_least 17 = .ok (.aload_n 1, 1) := by decide +kernel
theorem dX5_least_18 : decode cX5_least 18 = .ok (.arraylength, 1) := by decide +kernel
theorem dX5_least_19 : decode cX5_least 19 = .ok (.if_icmp .ge 33, 3) := by decide +kernel
theorem dX5_least_22 : decode cX5_least 22 = .ok (.aload_n 0, 1) := by decide +kernel
theorem dX5_least_23 : decode cX5_least 23 = .ok (.getfield 24, 3) := by decide +kernel
theorem dX5_least_26 : decode cX5_least 26 = .ok (.iload 4, 2) := by decide +kernel
theorem dX5_least_28 : decode cX5_least 28 = .ok (.iaload, 1) := by decide +kernel
theorem dX5_least_29 : decode cX5_least 29 = .ok (.iload_n 2, 1) := by decide +kernel
theorem dX5_least_30 : decode cX5_least 30 = .ok (.if_icmp .ne 14, 3) := by decide +kernel
theorem dX5_least_33 : decode cX5_least 33 = .ok (.iload_n 3, 1) := by decide +kernel
theorem dX5_least_34 : decode cX5_least 34 = .ok (.aload_n 1, 1) := by decide +kernel
theorem dX5_least_35 : decode cX5_least 35 = .ok (.iload 4, 2) := by decide +kernel
theorem dX5_least_37 : decode cX5_least 37 = .ok (.iaload, 1) := by decide +kernel
theorem dX5_least_38 : decode cX5_least 38 = .ok (.invokestatic 60, 3) := by decide +kernel
theorem dX5_least_41 : decode cX5_least 41 = .ok (.goto 4, 3) := by decide +kernel
theorem dX5_least_44 : decode cX5_least 44 = .ok (.iload_n 3, 1) := by decide +kernel
theorem dX5_least_45 : decode cX5_least 45 = .ok (.istore_n 3, 1) := by decide +kernel
theorem dX5_least_46 : decode cX5_least 46 = .ok (.iinc 4 1, 3) := by decide +kernel
theorem dX5_least_49 : decode cX5_least 49 = .ok (.goto (-43), 3) := by decide +kernel
theorem dX5_least_52 : decode cX5_least 52 = .ok (.iload_n 3, 1) := by decide +kernel
theorem dX5_least_53 : decode cX5_least 53 = .ok (.ireturn, 1) := by decide +kernel
theorem dX5_greatest_0 : decode cX5_greatest 0 = .ok (.iconst 0, 1) := by decide +kernel
theorem dX5_greatest_1 : decode cX5_greatest 1 = .ok (.istore_n 3, 1) := by decide +kernel
theorem dX5_greatest_2 : decode cX5_greatest 2 = .ok (.iconst 0, 1) := by decide +kernel
theorem dX5_greatest_3 : decode cX5_greatest 3 = .ok (.istore 4, 2) := by decide +kernel
theorem dX5_greatest_5 : decode cX5_greatest 5 = .ok (.iload 4, 2) := by decide +kernel
theorem dX5_greatest_7 : decode cX5_greatest 7 = .ok (.aload_n 0, 1) := by decide +kernel
theorem dX5_greatest_8 : decode cX5_greatest 8 = .ok (.getfield 27, 3) := by decide +kernel
theorem dX5_greatest_11 : decode cX5_greatest 11 = .ok (.if_icmp .ge 40, 3) := by decide +kernel
theorem dX5_greatest_14 : decode cX5_greatest 14 = .ok (.iload 4, 2) := by decide +kernel
theorem dX5_greatest_16 : decode cX5_greatest 16 = .ok (.aload_n 1, 1) := by decide +kernel
theorem dX5_greatest_17 : decode cX5_greatest 17 = .ok (.arraylength, 1) := by decide +kernel
theorem dX5_greatest_18 : decode cX5_greatest 18 = .ok (.if_icmp .ge 33, 3) := by decide +kernel
theorem dX5_greatest_21 : decode cX5_greatest 21 = .ok (.aload_n 0, 1) := by decide +kernel
theorem dX5_greatest_22 : decode cX5_greatest 22 = .ok (.getfield 24, 3) := by decide +kernel
theorem dX5_greatest_25 : decode cX5_greatest 25 = .ok (.iload 4, 2) := by decide +kernel
theorem dX5_greatest_27 : decode cX5_greatest 27 = .ok (.iaload, 1) := by decide +kernel
theorem dX5_greatest_28 : decode cX5_greatest 28 = .ok (.iload_n 2, 1) := by decide +kernel
theorem dX5_greatest_29 : decode cX5_greatest 29 = .ok (.if_icmp .ne 14, 3) := by decide +kernel
theorem dX5_greatest_32 : decode cX5_greatest 32 = .ok (.iload_n 3, 1) := by decide +kernel
theorem dX5_greatest_33 : decode cX5_greatest 33 = .ok (.aload_n 1, 1) := by decide +kernel
theorem dX5_greatest_34 : decode cX5_greatest 34 = .ok (.iload 4, 2) := by decide +kernel
theorem dX5_greatest_36 : decode cX5_greatest 36 = .ok (.iaload, 1) := by decide +kernel
theorem dX5_greatest_37 : decode cX5_greatest 37 = .ok (.invokestatic 66, 3) := by decide +kernel
theorem dX5_greatest_40 : decode cX5_greatest 40 = .ok (.goto 4, 3) := by decide +kernel
theorem dX5_greatest_43 : decode cX5_greatest 43 = .ok (.iload_n 3, 1) := by decide +kernel
theorem dX5_greatest_44 : decode cX5_greatest 44 = .ok (.istore_n 3, 1) := by decide +kernel
theorem dX5_greatest_45 : decode cX5_greatest 45 = .ok (.iinc 4 1, 3) := by decide +kernel
theorem dX5_greatest_48 : decode cX5_greatest 48 = .ok (.goto (-43), 3) := by decide +kernel
theorem dX5_greatest_51 : decode cX5_greatest 51 = .ok (.iload_n 3, 1) := by decide +kernel
theorem dX5_greatest_52 : decode cX5_greatest 52 = .ok (.ireturn, 1) := by decide +kernel
theorem dX5_isRun_0 : decode cX5_isRun 0 = .ok (.iload_n 1, 1) := by decide +kernel
theorem dX5_isRun_1 : decode cX5_isRun 1 = .ok (.ifCond .lt 15, 3) := by decide +kernel
theorem dX5_isRun_4 : decode cX5_isRun 4 = .ok (.iload_n 1, 1) := by decide +kernel
theorem dX5_isRun_5 : decode cX5_isRun 5 = .ok (.aload_n 0, 1) := by decide +kernel
theorem dX5_isRun_6 : decode cX5_isRun 6 = .ok (.getfield 27, 3) := by decide +kernel
theorem dX5_isRun_9 : decode cX5_isRun 9 = .ok (.if_icmp .ge 7, 3) := by decide +kernel
theorem dX5_isRun_12 : decode cX5_isRun 12 = .ok (.iconst 1, 1) := by decide +kernel
theorem dX5_isRun_13 : decode cX5_isRun 13 = .ok (.goto 4, 3) := by decide +kernel
theorem dX5_isRun_16 : decode cX5_isRun 16 = .ok (.iconst 0, 1) := by decide +kernel
theorem dX5_isRun_17 : decode cX5_isRun 17 = .ok (.ireturn, 1) := by decide +kernel
theorem dX5_addRuns_0 : decode cX5_addRuns 0 = .ok (.iconst 0, 1) := by decide +kernel
theorem dX5_addRuns_1 : decode cX5_addRuns 1 = .ok (.istore_n 3, 1) := by decide +kernel
theorem dX5_addRuns_2 : decode cX5_addRuns 2 = .ok (.iconst 0, 1) := by decide +kernel
theorem dX5_addRuns_3 : decode cX5_addRuns 3 = .ok (.istore 4, 2) := by decide +kernel
theorem dX5_addRuns_5 : decode cX5_addRuns 5 = .ok (.iload 4, 2) := by decide +kernel
theorem dX5_addRuns_7 : decode cX5_addRuns 7 = .ok (.aload_n 1, 1) := by decide +kernel
theorem dX5_addRuns_8 : decode cX5_addRuns 8 = .ok (.invokevirtual 69, 3) := by decide +kernel
theorem dX5_addRuns_11 : decode cX5_addRuns 11 = .ok (.if_icmp .ge 109, 3) := by decide +kernel
theorem dX5_addRuns_14 : decode cX5_addRuns 14 = .ok (.aload_n 1, 1) := by decide +kernel
theorem dX5_addRuns_15 : decode cX5_addRuns 15 = .ok (.iload 4, 2) := by decide +kernel
theorem dX5_addRuns_17 : decode cX5_addRuns 17 = .ok (.iload_n 2, 1) := by decide +kernel
theorem dX5_addRuns_18 : decode cX5_addRuns 18 = .ok (.invokevirtual 75, 3) := by decide +kernel
theorem dX5_addRuns_21 : decode cX5_addRuns 21 = .ok (.istore 5, 2) := by decide +kernel
theorem dX5_addRuns_23 : decode cX5_addRuns 23 = .ok (.iload 5, 2) := by decide +kernel
theorem dX5_addRuns_25 : decode cX5_addRuns 25 = .ok (.ifCond .eq 61, 3) := by decide +kernel
theorem dX5_addRuns_28 : decode cX5_addRuns 28 = .ok (.iload_n 3, 1) := by decide +kernel
theorem dX5_addRuns_29 : decode cX5_addRuns 29 = .ok (.ifCond .ne 57, 3) := by decide +kernel
theorem dX5_addRuns_32 : decode cX5_addRuns 32 = .ok (.aload_n 0, 1) := by decide +kernel
theorem dX5_addRuns_33 : decode cX5_addRuns 33 = .ok (.getfield 27, 3) := by decide +kernel
theorem dX5_addRuns_36 : decode cX5_addRuns 36 = .ok (.sipush 384, 3) := by decide +kernel
theorem dX5_addRuns_39 : decode cX5_addRuns 39 = .ok (.if_icmp .ge 47, 3) := by decide +kernel
theorem dX5_addRuns_42 : decode cX5_addRuns 42 = .ok (.aload_n 0, 1) := by decide +kernel
theorem dX5_addRuns_43 : decode cX5_addRuns 43 = .ok (.getfield 11, 3) := by decide +kernel
theorem dX5_addRuns_46 : decode cX5_addRuns 46 = .ok (.aload_n 0, 1) := by decide +kernel
theorem dX5_addRuns_47 : decode cX5_addRuns 47 = .ok (.getfield 27, 3) := by decide +kernel
theorem dX5_addRuns_50 : decode cX5_addRuns 50 = .ok (.iload_n 2, 1) := by decide +kernel
theorem dX5_addRuns_51 : decode cX5_addRuns 51 = .ok (.iastore, 1) := by decide +kernel
theorem dX5_addRuns_52 : decode cX5_addRuns 52 = .ok (.aload_n 0, 1) := by decide +kernel
theorem dX5_addRuns_53 : decode cX5_addRuns 53 = .ok (.getfield 15, 3) := by decide +kernel
theorem dX5_addRuns_56 : decode cX5_addRuns 56 = .ok (.aload_n 0, 1) := by decide +kernel
theorem dX5_addRuns_57 : decode cX5_addRuns 57 = .ok (.getfield 27, 3) := by decide +kernel
theorem dX5_addRuns_60 : decode cX5_addRuns 60 = .ok (.iload 4, 2) := by decide +kernel
theorem dX5_addRuns_62 : decode cX5_addRuns 62 = .ok (.iastore, 1) := by decide +kernel
theorem dX5_addRuns_63 : decode cX5_addRuns 63 = .ok (.aload_n 0, 1) := by decide +kernel
theorem dX5_addRuns_64 : decode cX5_addRuns 64 = .ok (.getfield 21, 3) := by decide +kernel
theorem dX5_addRuns_67 : decode cX5_addRuns 67 = .ok (.aload_n 0, 1) := by decide +kernel
theorem dX5_addRuns_68 : decode cX5_addRuns 68 = .ok (.getfield 27, 3) := by decide +kernel
theorem dX5_addRuns_71 : decode cX5_addRuns 71 = .ok (.aload_n 0, 1) := by decide +kernel
theorem dX5_addRuns_72 : decode cX5_addRuns 72 = .ok (.getfield 27, 3) := by decide +kernel
theorem dX5_addRuns_75 : decode cX5_addRuns 75 = .ok (.iastore, 1) := by decide +kernel
theorem dX5_addRuns_76 : decode cX5_addRuns 76 = .ok (.aload_n 0, 1) := by decide +kernel
theorem dX5_addRuns_77 : decode cX5_addRuns 77 = .ok (.dup, 1) := by decide +kernel
theorem dX5_addRuns_78 : decode cX5_addRuns 78 = .ok (.getfield 27, 3) := by decide +kernel
theorem dX5_addRuns_81 : decode cX5_addRuns 81 = .ok (.iconst 1, 1) := by decide +kernel
theorem dX5_addRuns_82 : decode cX5_addRuns 82 = .ok (.iadd, 1) := by decide +kernel
theorem dX5_addRuns_83 : decode cX5_addRuns 83 = .ok (.putfield 27, 3) := by decide +kernel
theorem dX5_addRuns_86 : decode cX5_addRuns 86 = .ok (.iload 5, 2) := by decide +kernel
theorem dX5_addRuns_88 : decode cX5_addRuns 88 = .ok (.ifCond .eq 23, 3) := by decide +kernel
theorem dX5_addRuns_91 : decode cX5_addRuns 91 = .ok (.aload_n 0, 1) := by decide +kernel
theorem dX5_addRuns_92 : decode cX5_addRuns 92 = .ok (.getfield 27, 3) := by decide +kernel
theorem dX5_addRuns_95 : decode cX5_addRuns 95 = .ok (.ifCond .le 16, 3) := by decide +kernel
theorem dX5_addRuns_98 : decode cX5_addRuns 98 = .ok (.aload_n 0, 1) := by decide +kernel
theorem dX5_addRuns_99 : decode cX5_addRuns 99 = .ok (.getfield 18, 3) := by decide +kernel
theorem dX5_addRuns_102 : decode cX5_addRuns 102 = .ok (.aload_n 0, 1) := by decide +kernel
theorem dX5_addRuns_103 : decode cX5_addRuns 103 = .ok (.getfield 27, 3) := by decide +kernel
theorem dX5_addRuns_106 : decode cX5_addRuns 106 = .ok (.iconst 1, 1) := by decide +kernel
theorem dX5_addRuns_107 : decode cX5_addRuns 107 = .ok (.isub, 1) := by decide +kernel
theorem dX5_addRuns_108 : decode cX5_addRuns 108 = .ok (.iload 4, 2) := by decide +kernel
theorem dX5_addRuns_110 : decode cX5_addRuns 110 = .ok (.iastore, 1) := by decide +kernel
theorem dX5_addRuns_111 : decode cX5_addRuns 111 = .ok (.iload 5, 2) := by decide +kernel
theorem dX5_addRuns_113 : decode cX5_addRuns 113 = .ok (.istore_n 3, 1) := by decide +kernel
theorem dX5_addRuns_114 : decode cX5_addRuns 114 = .ok (.iinc 4 1, 3) := by decide +kernel
theorem dX5_addRuns_117 : decode cX5_addRuns 117 = .ok (.goto (-112), 3) := by decide +kernel
theorem dX5_addRuns_120 : decode cX5_addRuns 120 = .ok (.return_, 1) := by decide +kernel
theorem dX5_linkRows_0 : decode cX5_linkRows 0 = .ok (.iload_n 1, 1) := by decide +kernel
theorem dX5_linkRows_1 : decode cX5_linkRows 1 = .ok (.istore_n 3, 1) := by decide +kernel
theorem dX5_linkRows_2 : decode cX5_linkRows 2 = .ok (.iload_n 3, 1) := by decide +kernel
theorem dX5_linkRows_3 : decode cX5_linkRows 3 = .ok (.iload_n 2, 1) := by decide +kernel
theorem dX5_linkRows_4 : decode cX5_linkRows 4 = .ok (.if_icmp .ge 70, 3) := by decide +kernel
theorem dX5_linkRows_7 : decode cX5_linkRows 7 = .ok (.iload_n 2, 1) := by decide +kernel
theorem dX5_linkRows_8 : decode cX5_linkRows 8 = .ok (.istore 4, 2) := by decide +kernel
theorem dX5_linkRows_10 : decode cX5_linkRows 10 = .ok (.iload 4, 2) := by decide +kernel
theorem dX5_linkRows_12 : decode cX5_linkRows 12 = .ok (.aload_n 0, 1) := by decide +kernel
theorem dX5_linkRows_13 : decode cX5_linkRows 13 = .ok (.getfield 27, 3) := by decide +kernel
theorem dX5_linkRows_16 : decode cX5_linkRows 16 = .ok (.if_icmp .ge 52, 3) := by decide +kernel
theorem dX5_linkRows_19 : decode cX5_linkRows 19 = .ok (.aload_n 0, 1) := by decide +kernel
theorem dX5_linkRows_20 : decode cX5_linkRows 20 = .ok (.getfield 15, 3) := by decide +kernel
theorem dX5_linkRows_23 : decode cX5_linkRows 23 = .ok (.iload_n 3, 1) := by decide +kernel
theorem dX5_linkRows_24 : decode cX5_linkRows 24 = .ok (.iaload, 1) := by decide +kernel
theorem dX5_linkRows_25 : decode cX5_linkRows 25 = .ok (.aload_n 0, 1) := by decide +kernel
theorem dX5_linkRows_26 : decode cX5_linkRows 26 = .ok (.getfield 18, 3) := by decide +kernel
theorem dX5_linkRows_29 : decode cX5_linkRows 29 = .ok (.iload 4, 2) := by decide +kernel
theorem dX5_linkRows_31 : decode cX5_linkRows 31 = .ok (.iaload, 1) := by decide +kernel
theorem dX5_linkRows_32 : decode cX5_linkRows 32 = .ok (.iconst 1, 1) := by decide +kernel
theorem dX5_linkRows_33 : decode cX5_linkRows 33 = .ok (.iadd, 1) := by decide +kernel
theorem dX5_linkRows_34 : decode cX5_linkRows 34 = .ok (.if_icmp .gt 28, 3) := by decide +kernel
theorem dX5_linkRows_37 : decode cX5_linkRows 37 = .ok (.aload_n 0, 1) := by decide +kernel
theorem dX5_linkRows_38 : decode cX5_linkRows 38 = .ok (.getfield 15, 3) := by decide +kernel
theorem dX5_linkRows_41 : decode cX5_linkRows 41 = .ok (.iload 4, 2) := by decide +kernel
theorem dX5_linkRows_43 : decode cX5_linkRows 43 = .ok (.iaload, 1) := by decide +kernel
theorem dX5_linkRows_44 : decode cX5_linkRows 44 = .ok (.aload_n 0, 1) := by decide +kernel
theorem dX5_linkRows_45 : decode cX5_linkRows 45 = .ok (.getfield 18, 3) := by decide +kernel
theorem dX5_linkRows_48 : decode cX5_linkRows 48 = .ok (.iload_n 3, 1) := by decide +kernel
theorem dX5_linkRows_49 : decode cX5_linkRows 49 = .ok (.iaload, 1) := by decide +kernel
theorem dX5_linkRows_50 : decode cX5_linkRows 50 = .ok (.iconst 1, 1) := by decide +kernel
theorem dX5_linkRows_51 : decode cX5_linkRows 51 = .ok (.iadd, 1) := by decide +kernel
theorem dX5_linkRows_52 : decode cX5_linkRows 52 = .ok (.if_icmp .gt 10, 3) := by decide +kernel
theorem dX5_linkRows_55 : decode cX5_linkRows 55 = .ok (.aload_n 0, 1) := by decide +kernel
theorem dX5_linkRows_56 : decode cX5_linkRows 56 = .ok (.iload_n 3, 1) := by decide +kernel
theorem dX5_linkRows_57 : decode cX5_linkRows 57 = .ok (.iload 4, 2) := by decide +kernel
theorem dX5_linkRows_59 : decode cX5_linkRows 59 = .ok (.invokevirtual 79, 3) := by decide +kernel
theorem dX5_linkRows_62 : decode cX5_linkRows 62 = .ok (.iinc 4 1, 3) := by decide +kernel
theorem dX5_linkRows_65 : decode cX5_linkRows 65 = .ok (.goto (-55), 3) := by decide +kernel
theorem dX5_linkRows_68 : decode cX5_linkRows 68 = .ok (.iinc 3 1, 3) := by decide +kernel
theorem dX5_linkRows_71 : decode cX5_linkRows 71 = .ok (.goto (-69), 3) := by decide +kernel
theorem dX5_linkRows_74 : decode cX5_linkRows 74 = .ok (.return_, 1) := by decide +kernel
theorem dX5_join_0 : decode cX5_join 0 = .ok (.aload_n 0, 1) := by decide +kernel
theorem dX5_join_1 : decode cX5_join 1 = .ok (.iload_n 1, 1) := by decide +kernel
theorem dX5_join_2 : decode cX5_join 2 = .ok (.invokevirtual 82, 3) := by decide +kernel
theorem dX5_join_5 : decode cX5_join 5 = .ok (.istore_n 3, 1) := by decide +kernel
theorem dX5_join_6 : decode cX5_join 6 = .ok (.aload_n 0, 1) := by decide +kernel
theorem dX5_join_7 : decode cX5_join 7 = .ok (.iload_n 2, 1) := by decide +kernel
theorem dX5_join_8 : decode cX5_join 8 = .ok (.invokevirtual 82, 3) := by decide +kernel
theorem dX5_join_11 : decode cX5_join 11 = .ok (.istore 4, 2) := by decide +kernel
theorem dX5_join_13 : decode cX5_join 13 = .ok (.aload_n 0, 1) := by decide +kernel
theorem dX5_join_14 : decode cX5_join 14 = .ok (.getfield 21, 3) := by decide +kernel
theorem dX5_join_17 : decode cX5_join 17 = .ok (.iload_n 3, 1) := by decide +kernel
theorem dX5_join_18 : decode cX5_join 18 = .ok (.iload 4, 2) := by decide +kernel
theorem dX5_join_20 : decode cX5_join 20 = .ok (.invokestatic 66, 3) := by decide +kernel
theorem dX5_join_23 : decode cX5_join 23 = .ok (.iload_n 3, 1) := by decide +kernel
theorem dX5_join_24 : decode cX5_join 24 = .ok (.iload 4, 2) := by decide +kernel
theorem dX5_join_26 : decode cX5_join 26 = .ok (.invokestatic 60, 3) := by decide +kernel
theorem dX5_join_29 : decode cX5_join 29 = .ok (.iastore, 1) := by decide +kernel
theorem dX5_join_30 : decode cX5_join 30 = .ok (.return_, 1) := by decide +kernel
theorem dX5_firstRun_0 : decode cX5_firstRun 0 = .ok (.iload_n 1, 1) := by decide +kernel
theorem dX5_firstRun_1 : decode cX5_firstRun 1 = .ok (.istore_n 2, 1) := by decide +kernel
theorem dX5_firstRun_2 : decode cX5_firstRun 2 = .ok (.iconst 0, 1) := by decide +kernel
theorem dX5_firstRun_3 : decode cX5_firstRun 3 = .ok (.istore_n 3, 1) := by decide +kernel
theorem dX5_firstRun_4 : decode cX5_firstRun 4 = .ok (.iload_n 3, 1) := by decide +kernel
theorem dX5_firstRun_5 : decode cX5_firstRun 5 = .ok (.aload_n 0, 1) := by decide +kernel
theorem dX5_firstRun_6 : decode cX5_firstRun 6 = .ok (.getfield 27, 3) := by decide +kernel
theorem dX5_firstRun_9 : decode cX5_firstRun 9 = .ok (.if_icmp .ge 26, 3) := by decide +kernel
theorem dX5_firstRun_12 : decode cX5_firstRun 12 = .ok (.aload_n 0, 1) := by decide +kernel
theorem dX5_firstRun_13 : decode cX5_firstRun 13 = .ok (.getfield 21, 3) := by decide +kernel
theorem dX5_firstRun_16 : decode cX5_firstRun 16 = .ok (.iload_n 2, 1) := by decide +kernel
theorem dX5_firstRun_17 : decode cX5_firstRun 17 = .ok (.iaload, 1) := by decide +kernel
theorem dX5_firstRun_18 : decode cX5_firstRun 18 = .ok (.iload_n 2, 1) := by decide +kernel
theorem dX5_firstRun_19 : decode cX5_firstRun 19 = .ok (.if_icmp .eq 16, 3) := by decide +kernel
theorem dX5_firstRun_22 : decode cX5_firstRun 22 = .ok (.aload_n 0, 1) := by decide +kernel
theorem dX5_firstRun_23 : decode cX5_firstRun 23 = .ok (.getfield 21, 3) := by decide +kernel
theorem dX5_firstRun_26 : decode cX5_firstRun 26 = .ok (.iload_n 2, 1) := by decide +kernel
theorem dX5_firstRun_27 : decode cX5_firstRun 27 = .ok (.iaload, 1) := by decide +kernel
theorem dX5_firstRun_28 : decode cX5_firstRun 28 = .ok (.istore_n 2, 1) := by decide +kernel
theorem dX5_firstRun_29 : decode cX5_firstRun 29 = .ok (.iinc 3 1, 3) := by decide +kernel
theorem dX5_firstRun_32 : decode cX5_firstRun 32 = .ok (.goto (-28), 3) := by decide +kernel
theorem dX5_firstRun_35 : decode cX5_firstRun 35 = .ok (.iload_n 2, 1) := by decide +kernel
theorem dX5_firstRun_36 : decode cX5_firstRun 36 = .ok (.ireturn, 1) := by decide +kernel
theorem dX5_numberStrokes_0 : decode cX5_numberStrokes 0 = .ok (.aload_n 0, 1) := by decide +kernel
theorem dX5_numberStrokes_1 : decode cX5_numberStrokes 1 = .ok (.iconst 0, 1) := by decide +kernel
theorem dX5_numberStrokes_2 : decode cX5_numberStrokes 2 = .ok (.putfield 31, 3) := by decide +kernel
theorem dX5_numberStrokes_5 : decode cX5_numberStrokes 5 = .ok (.iconst 0, 1) := by decide +kernel
theorem dX5_numberStrokes_6 : decode cX5_numberStrokes 6 = .ok (.istore_n 1, 1) := by decide +kernel
theorem dX5_numberStrokes_7 : decode cX5_numberStrokes 7 = .ok (.iload_n 1, 1) := by decide +kernel
theorem dX5_numberStrokes_8 : decode cX5_numberStrokes 8 = .ok (.aload_n 0, 1) := by decide +kernel
theorem dX5_numberStrokes_9 : decode cX5_numberStrokes 9 = .ok (.getfield 27, 3) := by decide +kernel
theorem dX5_numberStrokes_12 : decode cX5_numberStrokes 12 = .ok (.if_icmp .ge 59, 3) := by decide +kernel
theorem dX5_numberStrokes_15 : decode cX5_numberStrokes 15 = .ok (.aload_n 0, 1) := by decide +kernel
theorem dX5_numberStrokes_16 : decode cX5_numberStrokes 16 = .ok (.getfield 21, 3) := by decide +kernel
theorem dX5_numberStrokes_19 : decode cX5_numberStrokes 19 = .ok (.iload_n 1, 1) := by decide +kernel
theorem dX5_numberStrokes_20 : decode cX5_numberStrokes 20 = .ok (.iaload, 1) := by decide +kernel
theorem dX5_numberStrokes_21 : decode cX5_numberStrokes 21 = .ok (.iload_n 1, 1) := by decide +kernel
theorem dX5_numberStrokes_22 : decode cX5_numberStrokes 22 = .ok (.if_icmp .ne 26, 3) := by decide +kernel
theorem dX5_numberStrokes_25 : decode cX5_numberStrokes 25 = .ok (.aload_n 0, 1) := by decide +kernel
theorem dX5_numberStrokes_26 : decode cX5_numberStrokes 26 = .ok (.getfield 24, 3) := by decide +kernel
theorem dX5_numberStrokes_29 : decode cX5_numberStrokes 29 = .ok (.iload_n 1, 1) := by decide +kernel
theorem dX5_numberStrokes_30 : decode cX5_numberStrokes 30 = .ok (.aload_n 0, 1) := by decide +kernel
theorem dX5_numberStrokes_31 : decode cX5_numberStrokes 31 = .ok (.getfield 31, 3) := by decide +kernel
theorem dX5_numberStrokes_34 : decode cX5_numberStrokes 34 = .ok (.iastore, 1) := by decide +kernel
theorem dX5_numberStrokes_35 : decode cX5_numberStrokes 35 = .ok (.aload_n 0, 1) := by decide +kernel
theorem dX5_numberStrokes_36 : decode cX5_numberStrokes 36 = .ok (.dup, 1) := by decide +kernel
theorem dX5_numberStrokes_37 : decode cX5_numberStrokes 37 = .ok (.getfield 31, 3) := by decide +kernel
theorem dX5_numberStrokes_40 : decode cX5_numberStrokes 40 = .ok (.iconst 1, 1) := by decide +kernel
theorem dX5_numberStrokes_41 : decode cX5_numberStrokes 41 = .ok (.iadd, 1) := by decide +kernel
theorem dX5_numberStrokes_42 : decode cX5_numberStrokes 42 = .ok (.putfield 31, 3) := by decide +kernel
theorem dX5_numberStrokes_45 : decode cX5_numberStrokes 45 = .ok (.goto 20, 3) := by decide +kernel
theorem dX5_numberStrokes_48 : decode cX5_numberStrokes 48 = .ok (.aload_n 0, 1) := by decide +kernel
theorem dX5_numberStrokes_49 : decode cX5_numberStrokes 49 = .ok (.getfield 24, 3) := by decide +kernel
theorem dX5_numberStrokes_52 : decode cX5_numberStrokes 52 = .ok (.iload_n 1, 1) := by decide +kernel
theorem dX5_numberStrokes_53 : decode cX5_numberStrokes 53 = .ok (.aload_n 0, 1) := by decide +kernel
theorem dX5_numberStrokes_54 : decode cX5_numberStrokes 54 = .ok (.getfield 24, 3) := by decide +kernel
theorem dX5_numberStrokes_57 : decode cX5_numberStrokes 57 = .ok (.aload_n 0, 1) := by decide +kernel
theorem dX5_numberStrokes_58 : decode cX5_numberStrokes 58 = .ok (.getfield 21, 3) := by decide +kernel
theorem dX5_numberStrokes_61 : decode cX5_numberStrokes 61 = .ok (.iload_n 1, 1) := by decide +kernel
theorem dX5_numberStrokes_62 : decode cX5_numberStrokes 62 = .ok (.iaload, 1) := by decide +kernel
theorem dX5_numberStrokes_63 : decode cX5_numberStrokes 63 = .ok (.iaload, 1) := by decide +kernel
theorem dX5_numberStrokes_64 : decode cX5_numberStrokes 64 = .ok (.iastore, 1) := by decide +kernel
theorem dX5_numberStrokes_65 : decode cX5_numberStrokes 65 = .ok (.iinc 1 1, 3) := by decide +kernel
theorem dX5_numberStrokes_68 : decode cX5_numberStrokes 68 = .ok (.goto (-61), 3) := by decide +kernel
theorem dX5_numberStrokes_71 : decode cX5_numberStrokes 71 = .ok (.return_, 1) := by decide +kernel
theorem dX6_init_0 : decode cX6_init 0 = .ok (.aload_n 0, 1) := by decide +kernel
theorem dX6_init_1 : decode cX6_init 1 = .ok (.invokespecial 3, 3) := by decide +kernel
theorem dX6_init_4 : decode cX6_init 4 = .ok (.aload_n 0, 1) := by decide +kernel
theorem dX6_init_5 : decode cX6_init 5 = .ok (.new 9, 3) := by decide +kernel
theorem dX6_init_8 : decode cX6_init 8 = .ok (.dup, 1) := by decide +kernel
theorem dX6_init_9 : decode cX6_init 9 = .ok (.invokespecial 11, 3) := by decide +kernel
theorem dX6_init_12 : decode cX6_init 12 = .ok (.putfield 12, 3) := by decide +kernel
theorem dX6_init_15 : decode cX6_init 15 = .ok (.aload_n 0, 1) := by decide +kernel
theorem dX6_init_16 : decode cX6_init 16 = .ok (.iconst 4, 1) := by decide +kernel
theorem dX6_init_17 : decode cX6_init 17 = .ok (.anewarray 18, 3) := by decide +kernel
theorem dX6_init_20 : decode cX6_init 20 = .ok (.putfield 20, 3) := by decide +kernel
theorem dX6_init_23 : decode cX6_init 23 = .ok (.aload_n 0, 1) := by decide +kernel
theorem dX6_init_24 : decode cX6_init 24 = .ok (.new 24, 3) := by decide +kernel
theorem dX6_init_27 : decode cX6_init 27 = .ok (.dup, 1) := by decide +kernel
theorem dX6_init_28 : decode cX6_init 28 = .ok (.invokespecial 26, 3) := by decide +kernel
theorem dX6_init_31 : decode cX6_init 31 = .ok (.putfield 27, 3) := by decide +kernel
theorem dX6_init_34 : decode cX6_init 34 = .ok (.aload_n 0, 1) := by decide +kernel
theorem dX6_init_35 : decode cX6_init 35 = .ok (.new 31, 3) := by decide +kernel
theorem dX6_init_38 : decode cX6_init 38 = .ok (.dup, 1) := by decide +kernel
theorem dX6_init_39 : decode cX6_init 39 = .ok (.invokespecial 33, 3) := by decide +kernel
theorem dX6_init_42 : decode cX6_init 42 = .ok (.putfield 34, 3) := by decide +kernel
theorem dX6_init_45 : decode cX6_init 45 = .ok (.aload_n 0, 1) := by decide +kernel
theorem dX6_init_46 : decode cX6_init 46 = .ok (.new 38, 3) := by decide +kernel
theorem dX6_init_49 : decode cX6_init 49 = .ok (.dup, 1) := by decide +kernel
theorem dX6_init_50 : decode cX6_init 50 = .ok (.invokespecial 40, 3) := by decide +kernel
theorem dX6_init_53 : decode cX6_init 53 = .ok (.putfield 41, 3) := by decide +kernel
theorem dX6_init_56 : decode cX6_init 56 = .ok (.aload_n 0, 1) := by decide +kernel
theorem dX6_init_57 : decode cX6_init 57 = .ok (.bipush 32, 2) := by decide +kernel
theorem dX6_init_59 : decode cX6_init 59 = .ok (.newarray .int, 2) := by decide +kernel
theorem dX6_init_61 : decode cX6_init 61 = .ok (.putfield 45, 3) := by decide +kernel
theorem dX6_init_64 : decode cX6_init 64 = .ok (.aload_n 0, 1) := by decide +kernel
theorem dX6_init_65 : decode cX6_init 65 = .ok (.iconst 0, 1) := by decide +kernel
theorem dX6_init_66 : decode cX6_init 66 = .ok (.putfield 49, 3) := by decide +kernel
theorem dX6_init_69 : decode cX6_init 69 = .ok (.iconst 0, 1) := by decide +kernel
theorem dX6_init_70 : decode cX6_init 70 = .ok (.istore_n 1, 1) := by decide +kernel
theorem dX6_init_71 : decode cX6_init 71 = .ok (.iload_n 1, 1) := by decide +kernel
theorem dX6_init_72 : decode cX6_init 72 = .ok (.iconst 4, 1) := by decide +kernel
theorem dX6_init_73 : decode cX6_init 73 = .ok (.if_icmp .ge 22, 3) := by decide +kernel
theorem dX6_init_76 : decode cX6_init 76 = .ok (.aload_n 0, 1) := by decide +kernel
theorem dX6_init_77 : decode cX6_init 77 = .ok (.getfield 20, 3) := by decide +kernel
theorem dX6_init_80 : decode cX6_init 80 = .ok (.iload_n 1, 1) := by decide +kernel
theorem dX6_init_81 : decode cX6_init 81 = .ok (.new 18, 3) := by decide +kernel
theorem dX6_init_84 : decode cX6_init 84 = .ok (.dup, 1) := by decide +kernel
theorem dX6_init_85 : decode cX6_init 85 = .ok (.invokespecial 53, 3) := by decide +kernel
theorem dX6_init_88 : decode cX6_init 88 = .ok (.aastore, 1) := by decide +kernel
theorem dX6_init_89 : decode cX6_init 89 = .ok (.iinc 1 1, 3) := by decide +kernel
theorem dX6_init_92 : decode cX6_init 92 = .ok (.goto (-21), 3) := by decide +kernel
theorem dX6_init_95 : decode cX6_init 95 = .ok (.return_, 1) := by decide +kernel
theorem dX6_page_0 : decode cX6_page 0 = .ok (.iload_n 1, 1) := by decide +kernel
theorem dX6_page_1 : decode cX6_page 1 = .ok (.iconst 1, 1) := by decide +kernel
theorem dX6_page_2 : decode cX6_page 2 = .ok (.if_icmp .lt 9, 3) := by decide +kernel
theorem dX6_page_5 : decode cX6_page 5 = .ok (.iload_n 1, 1) := by decide +kernel
theorem dX6_page_6 : decode cX6_page 6 = .ok (.bipush 24, 2) := by decide +kernel
theorem dX6_page_8 : decode cX6_page 8 = .ok (.if_icmp .le 6, 3) := by decide +kernel
theorem dX6_page_11 : decode cX6_page 11 = .ok (.bipush (-2), 2) := by decide +kernel
theorem dX6_page_13 : decode cX6_page 13 = .ok (.ireturn, 1) := by decide +kernel
theorem dX6_page_14 : decode cX6_page 14 = .ok (.aload_n 0, 1) := by decide +kernel
theorem dX6_page_15 : decode cX6_page 15 = .ok (.getfield 12, 3) := by decide +kernel
theorem dX6_page_18 : decode cX6_page 18 = .ok (.invokevirtual 54, 3) := by decide +kernel
theorem dX6_page_21 : decode cX6_page 21 = .ok (.istore_n 2, 1) := by decide +kernel
theorem dX6_page_22 : decode cX6_page 22 = .ok (.aload_n 0, 1) := by decide +kernel
theorem dX6_page_23 : decode cX6_page 23 = .ok (.getfield 12, 3) := by decide +kernel
theorem dX6_page_26 : decode cX6_page 26 = .ok (.iload_n 1, 1) := by decide +kernel
theorem dX6_page_27 : decode cX6_page 27 = .ok (.invokevirtual 58, 3) := by decide +kernel
theorem dX6_page_30 : decode cX6_page 30 = .ok (.iload_n 2, 1) := by decide +kernel
theorem dX6_page_31 : decode cX6_page 31 = .ok (.ireturn, 1) := by decide +kernel
theorem dX6_dot_0 : decode cX6_dot 0 = .ok (.aload_n 0, 1) := by decide +kernel
theorem dX6_dot_1 : decode cX6_dot 1 = .ok (.getfield 12, 3) := by decide +kernel
theorem dX6_dot_4 : decode cX6_dot 4 = .ok (.iload_n 1, 1) := by decide +kernel
theorem dX6_dot_5 : decode cX6_dot 5 = .ok (.invokevirtual 62, 3) := by decide +kernel
theorem dX6_dot_8 : decode cX6_dot 8 = .ok (.ifCond .eq 10, 3) := by decide +kernel
theorem dX6_dot_11 : decode cX6_dot 11 = .ok (.iload_n 2, 1) := by decide +kernel
theorem dX6_dot_12 : decode cX6_dot 12 = .ok (.invokestatic 66, 3) := by decide +kernel
theorem dX6_dot_15 : decode cX6_dot 15 = .ok (.ifCond .ne 5, 3) := by decide +kernel
theorem dX6_dot_18 : decode cX6_dot 18 = .ok (.iconst (-1), 1) := by decide +kernel
theorem dX6_dot_19 : decode cX6_dot 19 = .ok (.ireturn, 1) := by decide +kernel
theorem dX6_dot_20 : decode cX6_dot 20 = .ok (.iload_n 3, 1) := by decide +kernel
theorem dX6_dot_21 : decode cX6_dot 21 = .ok (.ifCond .eq 11, 3) := by decide +kernel
theorem dX6_dot_24 : decode cX6_dot 24 = .ok (.iload_n 3, 1) := by decide +kernel
theorem dX6_dot_25 : decode cX6_dot 25 = .ok (.iconst 1, 1) := by decide +kernel
theorem dX6_dot_26 : decode cX6_dot 26 = .ok (.if_icmp .eq 6, 3) := by decide +kernel
theorem dX6_dot_29 : decode cX6_dot 29 = .ok (.bipush (-2), 2) := by decide +kernel
theorem dX6_dot_31 : decode cX6_dot 31 = .ok (.ireturn, 1) := by decide +kernel
theorem dX6_dot_32 : decode cX6_dot 32 = .ok (.aload_n 0, 1) := by decide +kernel
theorem dX6_dot_33 : decode cX6_dot 33 = .ok (.getfield 12, 3) := by decide +kernel
theorem dX6_dot_36 : decode cX6_dot 36 = .ok (.iload_n 1, 1) := by decide +kernel
theorem dX6_dot_37 : decode cX6_dot 37 = .ok (.iload_n 2, 1) := by decide +kernel
theorem dX6_dot_38 : decode cX6_dot 38 = .ok (.invokevirtual 69, 3) := by decide +kernel
theorem dX6_dot_41 : decode cX6_dot 41 = .ok (.ifCond .eq 7, 3) := by decide +kernel
theorem dX6_dot_44 : decode cX6_dot 44 = .ok (.iconst 1, 1) := by decide +kernel
theorem dX6_dot_45 : decode cX6_dot 45 = .ok (.goto 4, 3) := by decide +kernel
theorem dX6_dot_48 : decode cX6_dot 48 = .ok (.iconst 0, 1) := by decide +kernel
theorem dX6_dot_49 : decode cX6_dot 49 = .ok (.istore 4, 2) := by decide +kernel
theorem dX6_dot_51 : decode cX6_dot 51 = .ok (.aload_n 0, 1) := by decide +kernel
theorem dX6_dot_52 : decode cX6_dot 52 = .ok (.getfield 12, 3) := by decide +kernel
theorem dX6_dot_55 : decode cX6_dot 55 = .ok (.invokevirtual 73, 3) := by decide +kernel
theorem dX6_dot_58 : decode cX6_dot 58 = .ok (.aload_n 0, 1) := by decide +kernel
theorem dX6_dot_59 : decode cX6_dot 59 = .ok (.getfield 12, 3) := by decide +kernel
theorem dX6_dot_62 : decode cX6_dot 62 = .ok (.iload_n 1, 1) := by decide +kernel
theorem dX6_dot_63 : decode cX6_dot 63 = .ok (.iload_n 2, 1) := by decide +kernel
theorem dX6_dot_64 : decode cX6_dot 64 = .ok (.iload_n 3, 1) := by decide +kernel
theorem dX6_dot_65 : decode cX6_dot 65 = .ok (.iconst 1, 1) := by decide +kernel
theorem dX6_dot_66 : decode cX6_dot 66 = .ok (.if_icmp .ne 7, 3) := by decide +kernel
theorem dX6_dot_69 : decode cX6_dot 69 = .ok (.iconst 1, 1) := by decide +kernel
theorem dX6_dot_70 : decode cX6_dot 70 = .ok (.goto 4, 3) := by decide +kernel
theorem dX6_dot_73 : decode cX6_dot 73 = .ok (.iconst 0, 1) := by decide +kernel
theorem dX6_dot_74 : decode cX6_dot 74 = .ok (.invokevirtual 76, 3) := by decide +kernel
theorem dX6_dot_77 : decode cX6_dot 77 = .ok (.iload 4, 2) := by decide +kernel
theorem dX6_dot_79 : decode cX6_dot 79 = .ok (.ireturn, 1) := by decide +kernel
theorem dX6_column_0 : decode cX6_column 0 = .ok (.aload_n 0, 1) := by decide +kernel
theorem dX6_column_1 : decode cX6_column 1 = .ok (.getfield 12, 3) := by decide +kernel
theorem dX6_column_4 : decode cX6_column 4 = .ok (.iload_n 1, 1) := by decide +kernel
theorem dX6_column_5 : decode cX6_column 5 = .ok (.invokevirtual 62, 3) := by decide +kernel
theorem dX6_column_8 : decode cX6_column 8 = .ok (.ifCond .eq 19, 3) := by decide +kernel
theorem dX6_column_11 : decode cX6_column 11 = .ok (.aload_n 0, 1) := by decide +kernel
theorem dX6_column_12 : decode cX6_column 12 = .ok (.getfield 12, 3) := by decide +kernel
theorem dX6_column_15 : decode cX6_column 15 = .ok (.iload_n 1, 1) := by decide +kernel
theorem dX6_column_16 : decode cX6_column 16 = .ok (.invokevirtual 80, 3) := by decide +kernel
theorem dX6_column_19 : decode cX6_column 19 = .ok (.i2l, 1) := by decide +kernel
theorem dX6_column_20 : decode cX6_column 20 = .ok (.ldc2_w 84, 3) := by decide +kernel
theorem dX6_column_23 : decode cX6_column 23 = .ok (.land, 1) := by decide +kernel
theorem dX6_column_24 : decode cX6_column 24 = .ok (.goto 6, 3) := by decide +kernel
theorem dX6_column_27 : decode cX6_column 27 = .ok (.ldc2_w 86, 3) := by decide +kernel
theorem dX6_column_30 : decode cX6_column 30 = .ok (.lreturn, 1) := by decide +kernel
theorem dX6_row_0 : decode cX6_row 0 = .ok (.aload_n 0, 1) := by decide +kernel
theorem dX6_row_1 : decode cX6_row 1 = .ok (.iconst 0, 1) := by decide +kernel
theorem dX6_row_2 : decode cX6_row 2 = .ok (.putfield 49, 3) := by decide +kernel
theorem dX6_row_5 : decode cX6_row 5 = .ok (.iload_n 1, 1) := by decide +kernel
theorem dX6_row_6 : decode cX6_row 6 = .ok (.invokestatic 66, 3) := by decide +kernel
theorem dX6_row_9 : decode cX6_row 9 = .ok (.ifCond .eq 10, 3) := by decide +kernel
theorem dX6_row_12 : decode cX6_row 12 = .ok (.iload_n 2, 1) := by decide +kernel
theorem dX6_row_13 : decode cX6_row 13 = .ok (.invokestatic 88, 3) := by decide +kernel
theorem dX6_row_16 : decode cX6_row 16 = .ok (.ifCond .ne 5, 3) := by decide +kernel
theorem dX6_row_19 : decode cX6_row 19 = .ok (.iconst (-1), 1) := by decide +kernel
theorem dX6_row_20 : decode cX6_row 20 = .ok (.ireturn, 1) := by decide +kernel
theorem dX6_row_21 : decode cX6_row 21 = .ok (.aload_n 0, 1) := by decide +kernel
theorem dX6_row_22 : decode cX6_row 22 = .ok (.getfield 20, 3) := by decide +kernel
theorem dX6_row_25 : decode cX6_row 25 = .ok (.iload_n 2, 1) := by decide +kernel
theorem dX6_row_26 : decode cX6_row 26 = .ok (.aaload, 1) := by decide +kernel
theorem dX6_row_27 : decode cX6_row 27 = .ok (.astore_n 3, 1) := by decide +kernel
theorem dX6_row_28 : decode cX6_row 28 = .ok (.aload_n 3, 1) := by decide +kernel
theorem dX6_row_29 : decode cX6_row 29 = .ok (.invokevirtual 91, 3) := by decide +kernel
theorem dX6_row_32 : decode cX6_row 32 = .ok (.ifCond .eq 9, 3) := by decide +kernel
theorem dX6_row_35 : decode cX6_row 35 = .ok (.aload_n 0, 1) := by decide +kernel
theorem dX6_row_36 : decode cX6_row 36 = .ok (.iconst 1, 1) := by decide +kernel
theorem dX6_row_37 : decode cX6_row 37 = .ok (.invokevirtual 95, 3) := by decide +kernel
theorem dX6_row_40 : decode cX6_row 40 = .ok (.ireturn, 1) := by decide +kernel
theorem dX6_row_41 : decode cX6_row 41 = .ok (.aload_n 0, 1) := by decide +kernel
theorem dX6_row_42 : decode cX6_row 42 = .ok (.getfield 12, 3) := by decide +kernel
theorem dX6_row_45 : decode cX6_row 45 = .ok (.invokevirtual 73, 3) := by decide +kernel
theorem dX6_row_48 : decode cX6_row 48 = .ok (.iconst 0, 1) := by decide +kernel
theorem dX6_row_49 : decode cX6_row 49 = .ok (.istore 4, 2) := by decide +kernel
theorem dX6_row_51 : decode cX6_row 51 = .ok (.iload 4, 2) := by decide +kernel
theorem dX6_row_53 : decode cX6_row 53 = .ok (.aload_n 0, 1) := by decide +kernel
theorem dX6_row_54 : decode cX6_row 54 = .ok (.getfield 12, 3) := by decide +kernel
theorem dX6_row_57 : decode cX6_row 57 = .ok (.invokevirtual 98, 3) := by decide +kernel
theorem dX6_row_60 : decode cX6_row 60 = .ok (.if_icmp .ge 42, 3) := by decide +kernel
theorem dX6_row_63 : decode cX6_row 63 = .ok (.aload_n 0, 1) := by decide +kernel
theorem dX6_row_64 : decode cX6_row 64 = .ok (.getfield 12, 3) := by decide +kernel
theorem dX6_row_67 : decode cX6_row 67 = .ok (.iload 4, 2) := by decide +kernel
theorem dX6_row_69 : decode cX6_row 69 = .ok (.iload_n 1, 1) := by decide +kernel
theorem dX6_row_70 : decode cX6_row 70 = .ok (.aload_n 3, 1) := by decide +kernel
theorem dX6_row_71 : decode cX6_row 71 = .ok (.iload 4, 2) := by decide +kernel
theorem dX6_row_73 : decode cX6_row 73 = .ok (.invokevirtual 101, 3) := by decide +kernel
theorem dX6_row_76 : decode cX6_row 76 = .ok (.ifCond .eq 16, 3) := by decide +kernel
theorem dX6_row_79 : decode cX6_row 79 = .ok (.aload_n 3, 1) := by decide +kernel
theorem dX6_row_80 : decode cX6_row 80 = .ok (.iload 4, 2) := by decide +kernel
theorem dX6_row_82 : decode cX6_row 82 = .ok (.invokevirtual 104, 3) := by decide +kernel
theorem dX6_row_85 : decode cX6_row 85 = .ok (.ifCond .eq 7, 3) := by decide +kernel
theorem dX6_row_88 : decode cX6_row 88 = .ok (.iconst 1, 1) := by decide +kernel
theorem dX6_row_89 : decode cX6_row 89 = .ok (.goto 4, 3) := by decide +kernel
theorem dX6_row_92 : decode cX6_row 92 = .ok (.iconst 0, 1) := by decide +kernel
theorem dX6_row_93 : decode cX6_row 93 = .ok (.invokevirtual 76, 3) := by decide +kernel
theorem dX6_row_96 : decode cX6_row 96 = .ok (.iinc 4 1, 3) := by decide +kernel
theorem dX6_row_99 : decode cX6_row 99 = .ok (.goto (-48), 3) := by decide +kernel
theorem dX6_row_102 : decode cX6_row 102 = .ok (.aload_n 0, 1) := by decide +kernel
theorem dX6_row_103 : decode cX6_row 103 = .ok (.getfield 12, 3) := by decide +kernel
theorem dX6_row_106 : decode cX6_row 106 = .ok (.iload_n 1, 1) := by decide +kernel
theorem dX6_row_107 : decode cX6_row 107 = .ok (.invokevirtual 107, 3) := by decide +kernel
theorem dX6_row_110 : decode cX6_row 110 = .ok (.ireturn, 1) := by decide +kernel
theorem dX6_take_0 : decode cX6_take 0 = .ok (.iload_n 1, 1) := by decide +kernel
theorem dX6_take_1 : decode cX6_take 1 = .ok (.invokestatic 88, 3) := by decide +kernel
theorem dX6_take_4 : decode cX6_take 4 = .ok (.ifCond .eq 10, 3) := by decide +kernel
theorem dX6_take_7 : decode cX6_take 7 = .ok (.iload_n 2, 1) := by decide +kernel
theorem dX6_take_8 : decode cX6_take 8 = .ok (.invokestatic 66, 3) := by decide +kernel
theorem dX6_take_11 : decode cX6_take 11 = .ok (.ifCond .ne 5, 3) := by decide +kernel
theorem dX6_take_14 : decode cX6_take 14 = .ok (.iconst (-1), 1) := by decide +kernel
theorem dX6_take_15 : decode cX6_take 15 = .ok (.ireturn, 1) := by decide +kernel
theorem dX6_take_16 : decode cX6_take 16 = .ok (.aload_n 0, 1) := by decide +kernel
theorem dX6_take_17 : decode cX6_take 17 = .ok (.getfield 20, 3) := by decide +kernel
theorem dX6_take_20 : decode cX6_take 20 = .ok (.iload_n 1, 1) := by decide +kernel
theorem dX6_take_21 : decode cX6_take 21 = .ok (.aaload, 1) := by decide +kernel
theorem dX6_take_22 : decode cX6_take 22 = .ok (.astore_n 3, 1) := by decide +kernel
theorem dX6_take_23 : decode cX6_take 23 = .ok (.aload_n 3, 1) := by decide +kernel
theorem dX6_take_24 : decode cX6_take 24 = .ok (.iconst 3, 1) := by decide +kernel
theorem dX6_take_25 : decode cX6_take 25 = .ok (.aload_n 0, 1) := by decide +kernel
theorem dX6_take_26 : decode cX6_take 26 = .ok (.getfield 12, 3) := by decide +kernel
theorem dX6_take_29 : decode cX6_take 29 = .ok (.invokevirtual 98, 3) := by decide +kernel
theorem dX6_take_32 : decode cX6_take 32 = .ok (.invokevirtual 110, 3) := by decide +kernel
theorem dX6_take_35 : decode cX6_take 35 = .ok (.iconst 0, 1) := by decide +kernel
theorem dX6_take_36 : decode cX6_take 36 = .ok (.istore 4, 2) := by decide +kernel
theorem dX6_take_38 : decode cX6_take 38 = .ok (.iload 4, 2) := by decide +kernel
theorem dX6_take_40 : decode cX6_take 40 = .ok (.aload_n 0, 1) := by decide +kernel
theorem dX6_take_41 : decode cX6_take 41 = .ok (.getfield 12, 3) := by decide +kernel
theorem dX6_take_44 : decode cX6_take 44 = .ok (.invokevirtual 98, 3) := by decide +kernel
theorem dX6_take_47 : decode cX6_take 47 = .ok (.if_icmp .ge 33, 3) := by decide +kernel
theorem dX6_take_50 : decode cX6_take 50 = .ok (.aload_n 3, 1) := by decide +kernel
theorem dX6_take_51 : decode cX6_take 51 = .ok (.iload 4, 2) := by decide +kernel
theorem dX6_take_53 : decode cX6_take 53 = .ok (.aload_n 0, 1) := by decide +kernel
theorem dX6_take_54 : decode cX6_take 54 = .ok (.getfield 12, 3) := by decide +kernel
theorem dX6_take_57 : decode cX6_take 57 = .ok (.iload 4, 2) := by decide +kernel
theorem dX6_take_59 : decode cX6_take 59 = .ok (.iload_n 2, 1) := by decide +kernel
theorem dX6_take_60 : decode cX6_take 60 = .ok (.invokevirtual 69, 3) := by decide +kernel
theorem dX6_take_63 : decode cX6_take 63 = .ok (.ifCond .eq 7, 3) := by decide +kernel
theorem dX6_take_66 : decode cX6_take 66 = .ok (.iconst 1, 1) := by decide +kernel
theorem dX6_take_67 : decode cX6_take 67 = .ok (.goto 4, 3) := by decide +kernel
theorem dX6_take_70 : decode cX6_take 70 = .ok (.iconst 0, 1) := by decide +kernel
theorem dX6_take_71 : decode cX6_take 71 = .ok (.invokevirtual 113, 3) := by decide +kernel
theorem dX6_take_74 : decode cX6_take 74 = .ok (.iinc 4 1, 3) := by decide +kernel
theorem dX6_take_77 : decode cX6_take 77 = .ok (.goto (-39), 3) := by decide +kernel
theorem dX6_take_80 : decode cX6_take 80 = .ok (.aload_n 0, 1) := by decide +kernel
theorem dX6_take_81 : decode cX6_take 81 = .ok (.getfield 12, 3) := by decide +kernel
theorem dX6_take_84 : decode cX6_take 84 = .ok (.iload_n 2, 1) := by decide +kernel
theorem dX6_take_85 : decode cX6_take 85 = .ok (.invokevirtual 107, 3) := by decide +kernel
theorem dX6_take_88 : decode cX6_take 88 = .ok (.ireturn, 1) := by decide +kernel
theorem dX6_blank_0 : decode cX6_blank 0 = .ok (.aload_n 0, 1) := by decide +kernel
theorem dX6_blank_1 : decode cX6_blank 1 = .ok (.iconst 0, 1) := by decide +kernel
theorem dX6_blank_2 : decode cX6_blank 2 = .ok (.putfield 49, 3) := by decide +kernel
theorem dX6_blank_5 : decode cX6_blank 5 = .ok (.iload_n 1, 1) := by decide +kernel
theorem dX6_blank_6 : decode cX6_blank 6 = .ok (.invokestatic 88, 3) := by decide +kernel
theorem dX6_blank_9 : decode cX6_blank 9 = .ok (.ifCond .ne 5, 3) := by decide +kernel
theorem dX6_blank_12 : decode cX6_blank 12 = .ok (.iconst (-1), 1) := by decide +kernel
theorem dX6_blank_13 : decode cX6_blank 13 = .ok (.ireturn, 1) := by decide +kernel
theorem dX6_blank_14 : decode cX6_blank 14 = .ok (.iload_n 2, 1) := by decide +kernel
theorem dX6_blank_15 : decode cX6_blank 15 = .ok (.ifCond .lt 14, 3) := by decide +kernel
theorem dX6_blank_18 : decode cX6_blank 18 = .ok (.iload_n 2, 1) := by decide +kernel
theorem dX6_blank_19 : decode cX6_blank 19 = .ok (.iconst 3, 1) := by decide +kernel
theorem dX6_blank_20 : decode cX6_blank 20 = .ok (.if_icmp .gt 9, 3) := by decide +kernel
theorem dX6_blank_23 : decode cX6_blank 23 = .ok (.iload_n 3, 1) := by decide +kernel
theorem dX6_blank_24 : decode cX6_blank 24 = .ok (.bipush 32, 2) := by decide +kernel
theorem dX6_blank_26 : decode cX6_blank 26 = .ok (.if_icmp .le 6, 3) := by decide +kernel
theorem dX6_blank_29 : decode cX6_blank 29 = .ok (.bipush (-2), 2) := by decide +kernel
theorem dX6_blank_31 : decode cX6_blank 31 = .ok (.ireturn, 1) := by decide +kernel
theorem dX6_blank_32 : decode cX6_blank 32 = .ok (.iload_n 3, 1) := by decide +kernel
theorem dX6_blank_33 : decode cX6_blank 33 = .ok (.ifCond .ge 9, 3) := by decide +kernel
theorem dX6_blank_36 : decode cX6_blank 36 = .ok (.aload_n 0, 1) := by decide +kernel
theorem dX6_blank_37 : decode cX6_blank 37 = .ok (.iconst 4, 1) := by decide +kernel
theorem dX6_blank_38 : decode cX6_blank 38 = .ok (.invokevirtual 95, 3) := by decide +kernel
theorem dX6_blank_41 : decode cX6_blank 41 = .ok (.ireturn, 1) := by decide +kernel
theorem dX6_blank_42 : decode cX6_blank 42 = .ok (.aload_n 0, 1) := by decide +kernel
theorem dX6_blank_43 : decode cX6_blank 43 = .ok (.getfield 20, 3) := by decide +kernel
theorem dX6_blank_46 : decode cX6_blank 46 = .ok (.iload_n 1, 1) := by decide +kernel
theorem dX6_blank_47 : decode cX6_blank 47 = .ok (.aaload, 1) := by decide +kernel
theorem dX6_blank_48 : decode cX6_blank 48 = .ok (.iload_n 2, 1) := by decide +kernel
theorem dX6_blank_49 : decode cX6_blank 49 = .ok (.iload_n 3, 1) := by decide +kernel
theorem dX6_blank_50 : decode cX6_blank 50 = .ok (.invokevirtual 110, 3) := by decide +kernel
theorem dX6_blank_53 : decode cX6_blank 53 = .ok (.iconst 1, 1) := by decide +kernel
theorem dX6_blank_54 : decode cX6_blank 54 = .ok (.ireturn, 1) := by decide +kernel
theorem dX6_put_0 : decode cX6_put 0 = .ok (.aload_n 0, 1) := by decide +kernel
theorem dX6_put_1 : decode cX6_put 1 = .ok (.iconst 0, 1) := by decide +kernel
theorem dX6_put_2 : decode cX6_put 2 = .ok (.putfield 49, 3) := by decide +kernel
theorem dX6_put_5 : decode cX6_put 5 = .ok (.iload_n 1, 1) := by decide +kernel
theorem dX6_put_6 : decode cX6_put 6 = .ok (.invokestatic 88, 3) := by decide +kernel
theorem dX6_put_9 : decode cX6_put 9 = .ok (.ifCond .ne 5, 3) := by decide +kernel
theorem dX6_put_12 : decode cX6_put 12 = .ok (.iconst (-1), 1) := by decide +kernel
theorem dX6_put_13 : decode cX6_put 13 = .ok (.ireturn, 1) := by decide +kernel
theorem dX6_put_14 : decode cX6_put 14 = .ok (.aload_n 0, 1) := by decide +kernel
theorem dX6_put_15 : decode cX6_put 15 = .ok (.getfield 20, 3) := by decide +kernel
theorem dX6_put_18 : decode cX6_put 18 = .ok (.iload_n 1, 1) := by decide +kernel
theorem dX6_put_19 : decode cX6_put 19 = .ok (.aaload, 1) := by decide +kernel
theorem dX6_put_20 : decode cX6_put 20 = .ok (.iload_n 2, 1) := by decide +kernel
theorem dX6_put_21 : decode cX6_put 21 = .ok (.invokevirtual 116, 3) := by decide +kernel
theorem dX6_put_24 : decode cX6_put 24 = .ok (.istore 4, 2) := by decide +kernel
theorem dX6_put_26 : decode cX6_put 26 = .ok (.iload 4, 2) := by decide +kernel
theorem dX6_put_28 : decode cX6_put 28 = .ok (.ifCond .eq 10, 3) := by decide +kernel
theorem dX6_put_31 : decode cX6_put 31 = .ok (.aload_n 0, 1) := by decide +kernel
theorem dX6_put_32 : decode cX6_put 32 = .ok (.iload 4, 2) := by decide +kernel
theorem dX6_put_34 : decode cX6_put 34 = .ok (.invokevirtual 95, 3) := by decide +kernel
theorem dX6_put_37 : decode cX6_put 37 = .ok (.ireturn, 1) := by decide +kernel
theorem dX6_put_38 : decode cX6_put 38 = .ok (.aload_n 0, 1) := by decide +kernel
theorem dX6_put_39 : decode cX6_put 39 = .ok (.getfield 20, 3) := by decide +kernel
theorem dX6_put_42 : decode cX6_put 42 = .ok (.iload_n 1, 1) := by decide +kernel
theorem dX6_put_43 : decode cX6_put 43 = .ok (.aaload, 1) := by decide +kernel
theorem dX6_put_44 : decode cX6_put 44 = .ok (.iload_n 2, 1) := by decide +kernel
theorem dX6_put_45 : decode cX6_put 45 = .ok (.iload_n 3, 1) := by decide +kernel
theorem dX6_put_46 : decode cX6_put 46 = .ok (.invokevirtual 113, 3) := by decide +kernel
theorem dX6_put_49 : decode cX6_put 49 = .ok (.iconst 1, 1) := by decide +kernel
theorem dX6_put_50 : decode cX6_put 50 = .ok (.ireturn, 1) := by decide +kernel
theorem dX6_get_0 : decode cX6_get 0 = .ok (.aload_n 0, 1) := by decide +kernel
theorem dX6_get_1 : decode cX6_get 1 = .ok (.iconst 0, 1) := by decide +kernel
theorem dX6_get_2 : decode cX6_get 2 = .ok (.putfield 49, 3) := by decide +kernel
theorem dX6_get_5 : decode cX6_get 5 = .ok (.iload_n 1, 1) := by decide +kernel
theorem dX6_get_6 : decode cX6_get 6 = .ok (.invokestatic 88, 3) := by decide +kernel
theorem dX6_get_9 : decode cX6_get 9 = .ok (.ifCond .ne 7, 3) := by decide +kernel
theorem dX6_get_12 : decode cX6_get 12 = .ok (.ldc2_w 86, 3) := by decide +kernel
theorem dX6_get_15 : decode cX6_get 15 = .ok (.lreturn, 1) := by decide +kernel
theorem dX6_get_16 : decode cX6_get 16 = .ok (.aload_n 0, 1) := by decide +kernel
theorem dX6_get_17 : decode cX6_get 17 = .ok (.aload_n 0, 1) := by decide +kernel
theorem dX6_get_18 : decode cX6_get 18 = .ok (.getfield 20, 3) := by decide +kernel
theorem dX6_get_21 : decode cX6_get 21 = .ok (.iload_n 1, 1) := by decide +kernel
theorem dX6_get_22 : decode cX6_get 22 = .ok (.aaload, 1) := by decide +kernel
theorem dX6_get_23 : decode cX6_get 23 = .ok (.iload_n 2, 1) := by decide +kernel
theorem dX6_get_24 : decode cX6_get 24 = .ok (.invokevirtual 116, 3) := by decide +kernel
theorem dX6_get_27 : decode cX6_get 27 = .ok (.putfield 49, 3) := by decide +kernel
theorem dX6_get_30 : decode cX6_get 30 = .ok (.aload_n 0, 1) := by decide +kernel
theorem dX6_get_31 : decode cX6_get 31 = .ok (.getfield 49, 3) := by decide +kernel
theorem dX6_get_34 : decode cX6_get 34 = .ok (.ifCond .ne 17, 3) := by decide +kernel
theorem dX6_get_37 : decode cX6_get 37 = .ok (.aload_n 0, 1) := by decide +kernel
theorem dX6_get_38 : decode cX6_get 38 = .ok (.getfield 20, 3) := by decide +kernel
theorem dX6_get_41 : decode cX6_get 41 = .ok (.iload_n 1, 1) := by decide +kernel
theorem dX6_get_42 : decode cX6_get 42 = .ok (.aaload, 1) := by decide +kernel
theorem dX6_get_43 : decode cX6_get 43 = .ok (.iload_n 2, 1) := by decide +kernel
theorem dX6_get_44 : decode cX6_get 44 = .ok (.invokevirtual 104, 3) := by decide +kernel
theorem dX6_get_47 : decode cX6_get 47 = .ok (.i2l, 1) := by decide +kernel
theorem dX6_get_48 : decode cX6_get 48 = .ok (.goto 6, 3) := by decide +kernel
theorem dX6_get_51 : decode cX6_get 51 = .ok (.ldc2_w 86, 3) := by decide +kernel
theorem dX6_get_54 : decode cX6_get 54 = .ok (.lreturn, 1) := by decide +kernel
theorem dX6_copy_0 : decode cX6_copy 0 = .ok (.aload_n 0, 1) := by decide +kernel
theorem dX6_copy_1 : decode cX6_copy 1 = .ok (.iconst 0, 1) := by decide +kernel
theorem dX6_copy_2 : decode cX6_copy 2 = .ok (.putfield 49, 3) := by decide +kernel
theorem dX6_copy_5 : decode cX6_copy 5 = .ok (.iload_n 1, 1) := by decide +kernel
theorem dX6_copy_6 : decode cX6_copy 6 = .ok (.invokestatic 88, 3) := by decide +kernel
theorem dX6_copy_9 : decode cX6_copy 9 = .ok (.ifCond .eq 10, 3) := by decide +kernel
theorem dX6_copy_12 : decode cX6_copy 12 = .ok (.iload_n 3, 1) := by decide +kernel
theorem dX6_copy_13 : decode cX6_copy 13 = .ok (.invokestatic 88, 3) := by decide +kernel
theorem dX6_copy_16 : decode cX6_copy 16 = .ok (.ifCond .ne 5, 3) := by decide +kernel
theorem dX6_copy_19 : decode cX6_copy 19 = .ok (.iconst (-1), 1) := by decide +kernel
theorem dX6_copy_20 : decode cX6_copy 20 = .ok (.ireturn, 1) := by decide +kernel
theorem dX6_copy_21 : decode cX6_copy 21 = .ok (.aload_n 0, 1) := by decide +kernel
theorem dX6_copy_22 : decode cX6_copy 22 = .ok (.getfield 20, 3) := by decide +kernel
theorem dX6_copy_25 : decode cX6_copy 25 = .ok (.iload_n 1, 1) := by decide +kernel
theorem dX6_copy_26 : decode cX6_copy 26 = .ok (.aaload, 1) := by decide +kernel
theorem dX6_copy_27 : decode cX6_copy 27 = .ok (.iload_n 2, 1) := by decide +kernel
theorem dX6_copy_28 : decode cX6_copy 28 = .ok (.aload_n 0, 1) := by decide +kernel
theorem dX6_copy_29 : decode cX6_copy 29 = .ok (.getfield 20, 3) := by decide +kernel
theorem dX6_copy_32 : decode cX6_copy 32 = .ok (.iload_n 3, 1) := by decide +kernel
theorem dX6_copy_33 : decode cX6_copy 33 = .ok (.aaload, 1) := by decide +kernel
theorem dX6_copy_34 : decode cX6_copy 34 = .ok (.iload 4, 2) := by decide +kernel
theorem dX6_copy_36 : decode cX6_copy 36 = .ok (.iload 5, 2) := by decide +kernel
theorem dX6_copy_38 : decode cX6_copy 38 = .ok (.invokevirtual 119, 3) := by decide +kernel
theorem dX6_copy_41 : decode cX6_copy 41 = .ok (.istore 6, 2) := by decide +kernel
theorem dX6_copy_43 : decode cX6_copy 43 = .ok (.iload 6, 2) := by decide +kernel
theorem dX6_copy_45 : decode cX6_copy 45 = .ok (.ifCond .eq 10, 3) := by decide +kernel
theorem dX6_copy_48 : decode cX6_copy 48 = .ok (.aload_n 0, 1) := by decide +kernel
theorem dX6_copy_49 : decode cX6_copy 49 = .ok (.iload 6, 2) := by decide +kernel
theorem dX6_copy_51 : decode cX6_copy 51 = .ok (.invokevirtual 95, 3) := by decide +kernel
theorem dX6_copy_54 : decode cX6_copy 54 = .ok (.ireturn, 1) := by decide +kernel
theorem dX6_copy_55 : decode cX6_copy 55 = .ok (.aload_n 0, 1) := by decide +kernel
theorem dX6_copy_56 : decode cX6_copy 56 = .ok (.getfield 20, 3) := by decide +kernel
theorem dX6_copy_59 : decode cX6_copy 59 = .ok (.iload_n 1, 1) := by decide +kernel
theorem dX6_copy_60 : decode cX6_copy 60 = .ok (.aaload, 1) := by decide +kernel
theorem dX6_copy_61 : decode cX6_copy 61 = .ok (.iload_n 2, 1) := by decide +kernel
theorem dX6_copy_62 : decode cX6_copy 62 = .ok (.aload_n 0, 1) := by decide +kernel
theorem dX6_copy_63 : decode cX6_copy 63 = .ok (.getfield 20, 3) := by decide +kernel
theorem dX6_copy_66 : decode cX6_copy 66 = .ok (.iload_n 3, 1) := by decide +kernel
theorem dX6_copy_67 : decode cX6_copy 67 = .ok (.aaload, 1) := by decide +kernel
theorem dX6_copy_68 : decode cX6_copy 68 = .ok (.iload 4, 2) := by decide +kernel
theorem dX6_copy_70 : decode cX6_copy 70 = .ok (.iload 5, 2) := by decide +kernel
theorem dX6_copy_72 : decode cX6_copy 72 = .ok (.invokevirtual 123, 3) := by decide +kernel
theorem dX6_copy_75 : decode cX6_copy 75 = .ok (.iload 5, 2) := by decide +kernel
theorem dX6_copy_77 : decode cX6_copy 77 = .ok (.ireturn, 1) := by decide +kernel
theorem dX6_lose_0 : decode cX6_lose 0 = .ok (.iload_n 1, 1) := by decide +kernel
theorem dX6_lose_1 : decode cX6_lose 1 = .ok (.invokestatic 88, 3) := by decide +kernel
theorem dX6_lose_4 : decode cX6_lose 4 = .ok (.ifCond .ne 5, 3) := by decide +kernel
theorem dX6_lose_7 : decode cX6_lose 7 = .ok (.iconst (-1), 1) := by decide +kernel
theorem dX6_lose_8 : decode cX6_lose 8 = .ok (.ireturn, 1) := by decide +kernel
theorem dX6_lose_9 : decode cX6_lose 9 = .ok (.aload_n 0, 1) := by decide +kernel
theorem dX6_lose_10 : decode cX6_lose 10 = .ok (.getfield 20, 3) := by decide +kernel
theorem dX6_lose_13 : decode cX6_lose 13 = .ok (.iload_n 1, 1) := by decide +kernel
theorem dX6_lose_14 : decode cX6_lose 14 = .ok (.aaload, 1) := by decide +kernel
theorem dX6_lose_15 : decode cX6_lose 15 = .ok (.invokevirtual 91, 3) := by decide +kernel
theorem dX6_lose_18 : decode cX6_lose 18 = .ok (.ifCond .eq 7, 3) := by decide +kernel
theorem dX6_lose_21 : decode cX6_lose 21 = .ok (.iconst 0, 1) := by decide +kernel
theorem dX6_lose_22 : decode cX6_lose 22 = .ok (.goto 4, 3) := by decide +kernel
theorem dX6_lose_25 : decode cX6_lose 25 = .ok (.iconst 1, 1) := by decide +kernel
theorem dX6_lose_26 : decode cX6_lose 26 = .ok (.istore_n 2, 1) := by decide +kernel
theorem dX6_lose_27 : decode cX6_lose 27 = .ok (.aload_n 0, 1) := by decide +kernel
theorem dX6_lose_28 : decode cX6_lose 28 = .ok (.getfield 20, 3) := by decide +kernel
theorem dX6_lose_31 : decode cX6_lose 31 = .ok (.iload_n 1, 1) := by decide +kernel
theorem dX6_lose_32 : decode cX6_lose 32 = .ok (.aaload, 1) := by decide +kernel
theorem dX6_lose_33 : decode cX6_lose 33 = .ok (.invokevirtual 127, 3) := by decide +kernel
theorem dX6_lose_36 : decode cX6_lose 36 = .ok (.iload_n 2, 1) := by decide +kernel
theorem dX6_lose_37 : decode cX6_lose 37 = .ok (.ireturn, 1) := by decide +kernel
theorem dX6_shift_0 : decode cX6_shift 0 = .ok (.iload_n 1, 1) := by decide +kernel
theorem dX6_shift_1 : decode cX6_shift 1 = .ok (.invokestatic 130, 3) := by decide +kernel
theorem dX6_shift_4 : decode cX6_shift 4 = .ok (.ifCond .eq 10, 3) := by decide +kernel
theorem dX6_shift_7 : decode cX6_shift 7 = .ok (.iload_n 2, 1) := by decide +kernel
theorem dX6_shift_8 : decode cX6_shift 8 = .ok (.invokestatic 133, 3) := by decide +kernel
theorem dX6_shift_11 : decode cX6_shift 11 = .ok (.ifCond .ne 6, 3) := by decide +kernel
theorem dX6_shift_14 : decode cX6_shift 14 = .ok (.bipush (-2), 2) := by decide +kernel
theorem dX6_shift_16 : decode cX6_shift 16 = .ok (.ireturn, 1) := by decide +kernel
theorem dX6_shift_17 : decode cX6_shift 17 = .ok (.iload_n 1, 1) := by decide +kernel
theorem dX6_shift_18 : decode cX6_shift 18 = .ok (.ifCond .ne 14, 3) := by decide +kernel
theorem dX6_shift_21 : decode cX6_shift 21 = .ok (.aload_n 0, 1) := by decide +kernel
theorem dX6_shift_22 : decode cX6_shift 22 = .ok (.getfield 12, 3) := by decide +kernel
theorem dX6_shift_25 : decode cX6_shift 25 = .ok (.iload_n 3, 1) := by decide +kernel
theorem dX6_shift_26 : decode cX6_shift 26 = .ok (.invokevirtual 62, 3) := by decide +kernel
theorem dX6_shift_29 : decode cX6_shift 29 = .ok (.goto 7, 3) := by decide +kernel
theorem dX6_shift_32 : decode cX6_shift 32 = .ok (.iload_n 3, 1) := by decide +kernel
theorem dX6_shift_33 : decode cX6_shift 33 = .ok (.invokestatic 66, 3) := by decide +kernel
theorem dX6_shift_36 : decode cX6_shift 36 = .ok (.istore 4, 2) := by decide +kernel
theorem dX6_shift_38 : decode cX6_shift 38 = .ok (.iload 4, 2) := by decide +kernel
theorem dX6_shift_40 : decode cX6_shift 40 = .ok (.ifCond .eq 12, 3) := by decide +kernel
theorem dX6_shift_43 : decode cX6_shift 43 = .ok (.iload_n 1, 1) := by decide +kernel
theorem dX6_shift_44 : decode cX6_shift 44 = .ok (.iload_n 2, 1) := by decide +kernel
theorem dX6_shift_45 : decode cX6_shift 45 = .ok (.iload_n 3, 1) := by decide +kernel
theorem dX6_shift_46 : decode cX6_shift 46 = .ok (.invokestatic 136, 3) := by decide +kernel
theorem dX6_shift_49 : decode cX6_shift 49 = .ok (.goto 4, 3) := by decide +kernel
theorem dX6_shift_52 : decode cX6_shift 52 = .ok (.iconst (-1), 1) := by decide +kernel
theorem dX6_shift_53 : decode cX6_shift 53 = .ok (.ireturn, 1) := by decide +kernel
theorem dX6_profile_0 : decode cX6_profile 0 = .ok (.iload_n 1, 1) := by decide +kernel
theorem dX6_profile_1 : decode cX6_profile 1 = .ok (.invokestatic 130, 3) := by decide +kernel
theorem dX6_profile_4 : decode cX6_profile 4 = .ok (.ifCond .eq 22, 3) := by decide +kernel
theorem dX6_profile_7 : decode cX6_profile 7 = .ok (.iload_n 2, 1) := by decide +kernel
theorem dX6_profile_8 : decode cX6_profile 8 = .ok (.invokestatic 133, 3) := by decide +kernel
theorem dX6_profile_11 : decode cX6_profile 11 = .ok (.ifCond .eq 15, 3) := by decide +kernel
theorem dX6_profile_14 : decode cX6_profile 14 = .ok (.iload_n 3, 1) := by decide +kernel
theorem dX6_profile_15 : decode cX6_profile 15 = .ok (.bipush (-99), 2) := by decide +kernel
theorem dX6_profile_17 : decode cX6_profile 17 = .ok (.if_icmp .lt 9, 3) := by decide +kernel
theorem dX6_profile_20 : decode cX6_profile 20 = .ok (.iload_n 3, 1) := by decide +kernel
theorem dX6_profile_21 : decode cX6_profile 21 = .ok (.bipush 99, 2) := by decide +kernel
theorem dX6_profile_23 : decode cX6_profile 23 = .ok (.if_icmp .le 6, 3) := by decide +kernel
theorem dX6_profile_26 : decode cX6_profile 26 = .ok (.bipush (-2), 2) := by decide +kernel
theorem dX6_profile_28 : decode cX6_profile 28 = .ok (.ireturn, 1) := by decide +kernel
theorem dX6_profile_29 : decode cX6_profile 29 = .ok (.aload_n 0, 1) := by decide +kernel
theorem dX6_profile_30 : decode cX6_profile 30 = .ok (.getfield 27, 3) := by decide +kernel
theorem dX6_profile_33 : decode cX6_profile 33 = .ok (.aload_n 0, 1) := by decide +kernel
theorem dX6_profile_34 : decode cX6_profile 34 = .ok (.getfield 12, 3) := by decide +kernel
theorem dX6_profile_37 : decode cX6_profile 37 = .ok (.iload_n 1, 1) := by decide +kernel
theorem dX6_profile_38 : decode cX6_profile 38 = .ok (.iload_n 2, 1) := by decide +kernel
theorem dX6_profile_39 : decode cX6_profile 39 = .ok (.iload_n 3, 1) := by decide +kernel
theorem dX6_profile_40 : decode cX6_profile 40 = .ok (.invokevirtual 140, 3) := by decide +kernel
theorem dX6_profile_43 : decode cX6_profile 43 = .ok (.ireturn, 1) := by decide +kernel
theorem dX6_sharp_0 : decode cX6_sharp 0 = .ok (.iload_n 1, 1) := by decide +kernel
theorem dX6_sharp_1 : decode cX6_sharp 1 = .ok (.invokestatic 130, 3) := by decide +kernel
theorem dX6_sharp_4 : decode cX6_sharp 4 = .ok (.ifCond .eq 10, 3) := by decide +kernel
theorem dX6_sharp_7 : decode cX6_sharp 7 = .ok (.iload_n 2, 1) := by decide +kernel
theorem dX6_sharp_8 : decode cX6_sharp 8 = .ok (.invokestatic 133, 3) := by decide +kernel
theorem dX6_sharp_11 : decode cX6_sharp 11 = .ok (.ifCond .ne 6, 3) := by decide +kernel
theorem dX6_sharp_14 : decode cX6_sharp 14 = .ok (.bipush (-2), 2) := by decide +kernel
theorem dX6_sharp_16 : decode cX6_sharp 16 = .ok (.ireturn, 1) := by decide +kernel
theorem dX6_sharp_17 : decode cX6_sharp 17 = .ok (.aload_n 0, 1) := by decide +kernel
theorem dX6_sharp_18 : decode cX6_sharp 18 = .ok (.getfield 27, 3) := by decide +kernel
theorem dX6_sharp_21 : decode cX6_sharp 21 = .ok (.aload_n 0, 1) := by decide +kernel
theorem dX6_sharp_22 : decode cX6_sharp 22 = .ok (.getfield 12, 3) := by decide +kernel
theorem dX6_sharp_25 : decode cX6_sharp 25 = .ok (.iload_n 1, 1) := by decide +kernel
theorem dX6_sharp_26 : decode cX6_sharp 26 = .ok (.iload_n 2, 1) := by decide +kernel
theorem dX6_sharp_27 : decode cX6_sharp 27 = .ok (.invokevirtual 144, 3) := by decide +kernel
theorem dX6_sharp_30 : decode cX6_sharp 30 = .ok (.ireturn, 1) := by decide +kernel
theorem dX6_best_0 : decode cX6_best 0 = .ok (.iload_n 1, 1) := by decide +kernel
theorem dX6_best_1 : decode cX6_best 1 = .ok (.invokestatic 130, 3) := by decide +kernel
theorem dX6_best_4 : decode cX6_best 4 = .ok (.ifCond .ne 6, 3) := by decide +kernel
theorem dX6_best_7 : decode cX6_best 7 = .ok (.bipush (-2), 2) := by decide +kernel
theorem dX6_best_9 : decode cX6_best 9 = .ok (.ireturn, 1) := by decide +kernel
theorem dX6_best_10 : decode cX6_best 10 = .ok (.aload_n 0, 1) := by decide +kernel
theorem dX6_best_11 : decode cX6_best 11 = .ok (.getfield 27, 3) := by decide +kernel
theorem dX6_best_14 : decode cX6_best 14 = .ok (.aload_n 0, 1) := by decide +kernel
theorem dX6_best_15 : decode cX6_best 15 = .ok (.getfield 12, 3) := by decide +kernel
theorem dX6_best_18 : decode cX6_best 18 = .ok (.iload_n 1, 1) := by decide +kernel
theorem dX6_best_19 : decode cX6_best 19 = .ok (.invokevirtual 148, 3) := by decide +kernel
theorem dX6_best_22 : decode cX6_best 22 = .ok (.aload_n 0, 1) := by decide +kernel
theorem dX6_best_23 : decode cX6_best 23 = .ok (.getfield 27, 3) := by decide +kernel
theorem dX6_best_26 : decode cX6_best 26 = .ok (.invokevirtual 152, 3) := by decide +kernel
theorem dX6_best_29 : decode cX6_best 29 = .ok (.bipush 100, 2) := by decide +kernel
theorem dX6_best_31 : decode cX6_best 31 = .ok (.iadd, 1) := by decide +kernel
theorem dX6_best_32 : decode cX6_best 32 = .ok (.ireturn, 1) := by decide +kernel
theorem dX6_found_0 : decode cX6_found 0 = .ok (.iload_n 1, 1) := by decide +kernel
theorem dX6_found_1 : decode cX6_found 1 = .ok (.invokestatic 130, 3) := by decide +kernel
theorem dX6_found_4 : decode cX6_found 4 = .ok (.ifCond .ne 6, 3) := by decide +kernel
theorem dX6_found_7 : decode cX6_found 7 = .ok (.bipush (-2), 2) := by decide +kernel
theorem dX6_found_9 : decode cX6_found 9 = .ok (.ireturn, 1) := by decide +kernel
theorem dX6_found_10 : decode cX6_found 10 = .ok (.aload_n 0, 1) := by decide +kernel
theorem dX6_found_11 : decode cX6_found 11 = .ok (.getfield 27, 3) := by decide +kernel
theorem dX6_found_14 : decode cX6_found 14 = .ok (.aload_n 0, 1) := by decide +kernel
theorem dX6_found_15 : decode cX6_found 15 = .ok (.getfield 12, 3) := by decide +kernel
theorem dX6_found_18 : decode cX6_found 18 = .ok (.iload_n 1, 1) := by decide +kernel
theorem dX6_found_19 : decode cX6_found 19 = .ok (.invokevirtual 155, 3) := by decide +kernel
theorem dX6_found_22 : decode cX6_found 22 = .ok (.aload_n 0, 1) := by decide +kernel
theorem dX6_found_23 : decode cX6_found 23 = .ok (.getfield 27, 3) := by decide +kernel
theorem dX6_found_26 : decode cX6_found 26 = .ok (.invokevirtual 152, 3) := by decide +kernel
theorem dX6_found_29 : decode cX6_found 29 = .ok (.bipush 100, 2) := by decide +kernel
theorem dX6_found_31 : decode cX6_found 31 = .ok (.iadd, 1) := by decide +kernel
theorem dX6_found_32 : decode cX6_found 32 = .ok (.ireturn, 1) := by decide +kernel
theorem dX6_tried_0 : decode cX6_tried 0 = .ok (.iload_n 1, 1) := by decide +kernel
theorem dX6_tried_1 : decode cX6_tried 1 = .ok (.invokestatic 130, 3) := by decide +kernel
theorem dX6_tried_4 : decode cX6_tried 4 = .ok (.ifCond .eq 13, 3) := by decide +kernel
theorem dX6_tried_7 : decode cX6_tried 7 = .ok (.iload_n 2, 1) := by decide +kernel
theorem dX6_tried_8 : decode cX6_tried 8 = .ok (.ifCond .lt 9, 3) := by decide +kernel
theorem dX6_tried_11 : decode cX6_tried 11 = .ok (.iload_n 2, 1) := by decide +kernel
theorem dX6_tried_12 : decode cX6_tried 12 = .ok (.bipush 32, 2) := by decide +kernel
theorem dX6_tried_14 : decode cX6_tried 14 = .ok (.if_icmp .le 6, 3) := by decide +kernel
theorem dX6_tried_17 : decode cX6_tried 17 = .ok (.bipush (-2), 2) := by decide +kernel
theorem dX6_tried_19 : decode cX6_tried 19 = .ok (.ireturn, 1) := by decide +kernel
theorem dX6_tried_20 : decode cX6_tried 20 = .ok (.aload_n 0, 1) := by decide +kernel
theorem dX6_tried_21 : decode cX6_tried 21 = .ok (.getfield 27, 3) := by decide +kernel
theorem dX6_tried_24 : decode cX6_tried 24 = .ok (.aload_n 0, 1) := by decide +kernel
theorem dX6_tried_25 : decode cX6_tried 25 = .ok (.getfield 12, 3) := by decide +kernel
theorem dX6_tried_28 : decode cX6_tried 28 = .ok (.iload_n 1, 1) := by decide +kernel
theorem dX6_tried_29 : decode cX6_tried 29 = .ok (.invokevirtual 155, 3) := by decide +kernel
theorem dX6_tried_32 : decode cX6_tried 32 = .ok (.iload_n 2, 1) := by decide +kernel
theorem dX6_tried_33 : decode cX6_tried 33 = .ok (.aload_n 0, 1) := by decide +kernel
theorem dX6_tried_34 : decode cX6_tried 34 = .ok (.getfield 27, 3) := by decide +kernel
theorem dX6_tried_37 : decode cX6_tried 37 = .ok (.invokevirtual 158, 3) := by decide +kernel
theorem dX6_tried_40 : decode cX6_tried 40 = .ok (.if_icmp .ge 17, 3) := by decide +kernel
theorem dX6_tried_43 : decode cX6_tried 43 = .ok (.aload_n 0, 1) := by decide +kernel
theorem dX6_tried_44 : decode cX6_tried 44 = .ok (.getfield 27, 3) := by decide +kernel
theorem dX6_tried_47 : decode cX6_tried 47 = .ok (.iload_n 2, 1) := by decide +kernel
theorem dX6_tried_48 : decode cX6_tried 48 = .ok (.invokevirtual 161, 3) := by decide +kernel
theorem dX6_tried_51 : decode cX6_tried 51 = .ok (.bipush 100, 2) := by decide +kernel
theorem dX6_tried_53 : decode cX6_tried 53 = .ok (.iadd, 1) := by decide +kernel
theorem dX6_tried_54 : decode cX6_tried 54 = .ok (.goto 5, 3) := by decide +kernel
theorem dX6_tried_57 : decode cX6_tried 57 = .ok (.bipush (-9), 2) := by decide +kernel
theorem dX6_tried_59 : decode cX6_tried 59 = .ok (.ireturn, 1) := by decide +kernel
theorem dX6_shear_0 : decode cX6_shear 0 = .ok (.iload_n 1, 1) := by decide +kernel
theorem dX6_shear_1 : decode cX6_shear 1 = .ok (.invokestatic 130, 3) := by decide +kernel
theorem dX6_shear_4 : decode cX6_shear 4 = .ok (.ifCond .eq 10, 3) := by decide +kernel
theorem dX6_shear_7 : decode cX6_shear 7 = .ok (.iload_n 2, 1) := by decide +kernel
theorem dX6_shear_8 : decode cX6_shear 8 = .ok (.invokestatic 133, 3) := by decide +kernel
theorem dX6_shear_11 : decode cX6_shear 11 = .ok (.ifCond .ne 6, 3) := by decide +kernel
theorem dX6_shear_14 : decode cX6_shear 14 = .ok (.bipush (-2), 2) := by decide +kernel
theorem dX6_shear_16 : decode cX6_shear 16 = .ok (.ireturn, 1) := by decide +kernel
theorem dX6_shear_17 : decode cX6_shear 17 = .ok (.iload_n 1, 1) := by decide +kernel
theorem dX6_shear_18 : decode cX6_shear 18 = .ok (.ifCond .ne 13, 3) := by decide +kernel
theorem dX6_shear_21 : decode cX6_shear 21 = .ok (.aload_n 0, 1) := by decide +kernel
theorem dX6_shear_22 : decode cX6_shear 22 = .ok (.getfield 12, 3) := by decide +kernel
theorem dX6_shear_25 : decode cX6_shear 25 = .ok (.invokevirtual 98, 3) := by decide +kernel
theorem dX6_shear_28 : decode cX6_shear 28 = .ok (.goto 5, 3) := by decide +kernel
theorem dX6_shear_31 : decode cX6_shear 31 = .ok (.bipush 32, 2) := by decide +kernel
theorem dX6_shear_33 : decode cX6_shear 33 = .ok (.istore_n 3, 1) := by decide +kernel
theorem dX6_shear_34 : decode cX6_shear 34 = .ok (.iconst 0, 1) := by decide +kernel
theorem dX6_shear_35 : decode cX6_shear 35 = .ok (.istore 4, 2) := by decide +kernel
theorem dX6_shear_37 : decode cX6_shear 37 = .ok (.iload 4, 2) := by decide +kernel
theorem dX6_shear_39 : decode cX6_shear 39 = .ok (.iload_n 3, 1) := by decide +kernel
theorem dX6_shear_40 : decode cX6_shear 40 = .ok (.if_icmp .ge 23, 3) := by decide +kernel
theorem dX6_shear_43 : decode cX6_shear 43 = .ok (.aload_n 0, 1) := by decide +kernel
theorem dX6_shear_44 : decode cX6_shear 44 = .ok (.getfield 45, 3) := by decide +kernel
theorem dX6_shear_47 : decode cX6_shear 47 = .ok (.iload 4, 2) := by decide +kernel
theorem dX6_shear_49 : decode cX6_shear 49 = .ok (.iload_n 1, 1) := by decide +kernel
theorem dX6_shear_50 : decode cX6_shear 50 = .ok (.iload_n 2, 1) := by decide +kernel
theorem dX6_shear_51 : decode cX6_shear 51 = .ok (.iload 4, 2) := by decide +kernel
theorem dX6_shear_53 : decode cX6_shear 53 = .ok (.invokestatic 136, 3) := by decide +kernel
theorem dX6_shear_56 : decode cX6_shear 56 = .ok (.iastore, 1) := by decide +kernel
theorem dX6_shear_57 : decode cX6_shear 57 = .ok (.iinc 4 1, 3) := by decide +kernel
theorem dX6_shear_60 : decode cX6_shear 60 = .ok (.goto (-23), 3) := by decide +kernel
theorem dX6_shear_63 : decode cX6_shear 63 = .ok (.iload_n 1, 1) := by decide +kernel
theorem dX6_shear_64 : decode cX6_shear 64 = .ok (.ifCond .ne 17, 3) := by decide +kernel
theorem dX6_shear_67 : decode cX6_shear 67 = .ok (.aload_n 0, 1) := by decide +kernel
theorem dX6_shear_68 : decode cX6_shear 68 = .ok (.getfield 12, 3) := by decide +kernel
theorem dX6_shear_71 : decode cX6_shear 71 = .ok (.aload_n 0, 1) := by decide +kernel
theorem dX6_shear_72 : decode cX6_shear 72 = .ok (.getfield 45, 3) := by decide +kernel
theorem dX6_shear_75 : decode cX6_shear 75 = .ok (.invokevirtual 164, 3) := by decide +kernel
theorem dX6_shear_78 : decode cX6_shear 78 = .ok (.goto 14, 3) := by decide +kernel
theorem dX6_shear_81 : decode cX6_shear 81 = .ok (.aload_n 0, 1) := by decide +kernel
theorem dX6_shear_82 : decode cX6_shear 82 = .ok (.getfield 12, 3) := by decide +kernel
theorem dX6_shear_85 : decode cX6_shear 85 = .ok (.aload_n 0, 1) := by decide +kernel
theorem dX6_shear_86 : decode cX6_shear 86 = .ok (.getfield 45, 3) := by decide +kernel
theorem dX6_shear_89 : decode cX6_shear 89 = .ok (.invokevirtual 168, 3) := by decide +kernel
theorem dX6_shear_92 : decode cX6_shear 92 = .ok (.ireturn, 1) := by decide +kernel
theorem dX6_run_0 : decode cX6_run 0 = .ok (.aload_n 0, 1) := by decide +kernel
theorem dX6_run_1 : decode cX6_run 1 = .ok (.getfield 34, 3) := by decide +kernel
theorem dX6_run_4 : decode cX6_run 4 = .ok (.aload_n 0, 1) := by decide +kernel
theorem dX6_run_5 : decode cX6_run 5 = .ok (.getfield 12, 3) := by decide +kernel
theorem dX6_run_8 : decode cX6_run 8 = .ok (.invokevirtual 171, 3) := by decide +kernel
theorem dX6_run_11 : decode cX6_run 11 = .ok (.iload_n 1, 1) := by decide +kernel
theorem dX6_run_12 : decode cX6_run 12 = .ok (.ifCond .lt 14, 3) := by decide +kernel
theorem dX6_run_15 : decode cX6_run 15 = .ok (.iload_n 1, 1) := by decide +kernel
theorem dX6_run_16 : decode cX6_run 16 = .ok (.aload_n 0, 1) := by decide +kernel
theorem dX6_run_17 : decode cX6_run 17 = .ok (.getfield 34, 3) := by decide +kernel
theorem dX6_run_20 : decode cX6_run 20 = .ok (.invokevirtual 175, 3) := by decide +kernel
theorem dX6_run_23 : decode cX6_run 23 = .ok (.if_icmp .lt 5, 3) := by decide +kernel
theorem dX6_run_26 : decode cX6_run 26 = .ok (.iconst (-1), 1) := by decide +kernel
theorem dX6_run_27 : decode cX6_run 27 = .ok (.ireturn, 1) := by decide +kernel
theorem dX6_run_28 : decode cX6_run 28 = .ok (.iload_n 2, 1) := by decide +kernel
theorem dX6_run_29 : decode cX6_run 29 = .ok (.tableswitch 67 0 3 #[31, 40, 49, 58], 31) := by decide +kernel
theorem dX6_run_60 : decode cX6_run 60 = .ok (.aload_n 0, 1) := by decide +kernel
theorem dX6_run_61 : decode cX6_run 61 = .ok (.getfield 34, 3) := by decide +kernel
theorem dX6_run_64 : decode cX6_run 64 = .ok (.iload_n 1, 1) := by decide +kernel
theorem dX6_run_65 : decode cX6_run 65 = .ok (.invokevirtual 178, 3) := by decide +kernel
theorem dX6_run_68 : decode cX6_run 68 = .ok (.ireturn, 1) := by decide +kernel
theorem dX6_run_69 : decode cX6_run 69 = .ok (.aload_n 0, 1) := by decide +kernel
theorem dX6_run_70 : decode cX6_run 70 = .ok (.getfield 34, 3) := by decide +kernel
theorem dX6_run_73 : decode cX6_run 73 = .ok (.iload_n 1, 1) := by decide +kernel
theorem dX6_run_74 : decode cX6_run 74 = .ok (.invokevirtual 181, 3) := by decide +kernel
theorem dX6_run_77 : decode cX6_run 77 = .ok (.ireturn, 1) := by decide +kernel
theorem dX6_run_78 : decode cX6_run 78 = .ok (.aload_n 0, 1) := by decide +kernel
theorem dX6_run_79 : decode cX6_run 79 = .ok (.getfield 34, 3) := by decide +kernel
theorem dX6_run_82 : decode cX6_run 82 = .ok (.iload_n 1, 1) := by decide +kernel
theorem dX6_run_83 : decode cX6_run 83 = .ok (.invokevirtual 184, 3) := by decide +kernel
theorem dX6_run_86 : decode cX6_run 86 = .ok (.ireturn, 1) := by decide +kernel
theorem dX6_run_87 : decode cX6_run 87 = .ok (.aload_n 0, 1) := by decide +kernel
theorem dX6_run_88 : decode cX6_run 88 = .ok (.getfield 34, 3) := by decide +kernel
theorem dX6_run_91 : decode cX6_run 91 = .ok (.iload_n 1, 1) := by decide +kernel
theorem dX6_run_92 : decode cX6_run 92 = .ok (.invokevirtual 187, 3) := by decide +kernel
theorem dX6_run_95 : decode cX6_run 95 = .ok (.ireturn, 1) := by decide +kernel
theorem dX6_run_96 : decode cX6_run 96 = .ok (.bipush (-2), 2) := by decide +kernel
theorem dX6_run_98 : decode cX6_run 98 = .ok (.ireturn, 1) := by decide +kernel
theorem dX6_stroke_0 : decode cX6_stroke 0 = .ok (.aload_n 0, 1) := by decide +kernel
theorem dX6_stroke_1 : decode cX6_stroke 1 = .ok (.getfield 34, 3) := by decide +kernel
theorem dX6_stroke_4 : decode cX6_stroke 4 = .ok (.aload_n 0, 1) := by decide +kernel
theorem dX6_stroke_5 : decode cX6_stroke 5 = .ok (.getfield 12, 3) := by decide +kernel
theorem dX6_stroke_8 : decode cX6_stroke 8 = .ok (.invokevirtual 171, 3) := by decide +kernel
theorem dX6_stroke_11 : decode cX6_stroke 11 = .ok (.iload_n 1, 1) := by decide +kernel
theorem dX6_stroke_12 : decode cX6_stroke 12 = .ok (.ifCond .lt 14, 3) := by decide +kernel
theorem dX6_stroke_15 : decode cX6_stroke 15 = .ok (.iload_n 1, 1) := by decide +kernel
theorem dX6_stroke_16 : decode cX6_stroke 16 = .ok (.aload_n 0, 1) := by decide +kernel
theorem dX6_stroke_17 : decode cX6_stroke 17 = .ok (.getfield 34, 3) := by decide +kernel
theorem dX6_stroke_20 : decode cX6_stroke 20 = .ok (.invokevirtual 190, 3) := by decide +kernel
theorem dX6_stroke_23 : decode cX6_stroke 23 = .ok (.if_icmp .lt 5, 3) := by decide +kernel
theorem dX6_stroke_26 : decode cX6_stroke 26 = .ok (.iconst (-1), 1) := by decide +kernel
theorem dX6_stroke_27 : decode cX6_stroke 27 = .ok (.ireturn, 1) := by decide +kernel
theorem dX6_stroke_28 : decode cX6_stroke 28 = .ok (.iload_n 2, 1) := by decide +kernel
theorem dX6_stroke_29 : decode cX6_stroke 29 = .ok (.tableswitch 93 0 5 #[39, 48, 57, 66, 75, 84], 39) := by decide +kernel
theorem dX6_stroke_68 : decode cX6_stroke 68 = .ok (.aload_n 0, 1) := by decide +kernel
theorem dX6_stroke_69 : decode cX6_stroke 69 = .ok (.getfield 34, 3) := by decide +kernel
theorem dX6_stroke_72 : decode cX6_stroke 72 = .ok (.iload_n 1, 1) := by decide +kernel
theorem dX6_stroke_73 : decode cX6_stroke 73 = .ok (.invokevirtual 193, 3) := by decide +kernel
theorem dX6_stroke_76 : decode cX6_stroke 76 = .ok (.ireturn, 1) := by decide +kernel
theorem dX6_stroke_77 : decode cX6_stroke 77 = .ok (.aload_n 0, 1) := by decide +kernel
theorem dX6_stroke_78 : decode cX6_stroke 78 = .ok (.getfield 34, 3) := by decide +kernel
theorem dX6_stroke_81 : decode cX6_stroke 81 = .ok (.iload_n 1, 1) := by decide +kernel
theorem dX6_stroke_82 : decode cX6_stroke 82 = .ok (.invokevirtual 196, 3) := by decide +kernel
theorem dX6_stroke_85 : decode cX6_stroke 85 = .ok (.ireturn, 1) := by decide +kernel
theorem dX6_stroke_86 : decode cX6_stroke 86 = .ok (.aload_n 0, 1) := by decide +kernel
theorem dX6_stroke_87 : decode cX6_stroke 87 = .ok (.getfield 34, 3) := by decide +kernel
theorem dX6_stroke_90 : decode cX6_stroke 90 = .ok (.iload_n 1, 1) := by decide +kernel
theorem dX6_stroke_91 : decode cX6_stroke 91 = .ok (.invokevirtual 199, 3) := by decide +kernel
theorem dX6_stroke_94 : decode cX6_stroke 94 = .ok (.ireturn, 1) := by decide +kernel
theorem dX6_stroke_95 : decode cX6_stroke 95 = .ok (.aload_n 0, 1) := by decide +kernel
theorem dX6_stroke_96 : decode cX6_stroke 96 = .ok (.getfield 34, 3) := by decide +kernel
theorem dX6_stroke_99 : decode cX6_stroke 99 = .ok (.iload_n 1, 1) := by decide +kernel
theorem dX6_stroke_100 : decode cX6_stroke 100 = .ok (.invokevirtual 202, 3) := by decide +kernel
theorem dX6_stroke_103 : decode cX6_stroke 103 = .ok (.ireturn, 1) := by decide +kernel
theorem dX6_stroke_104 : decode cX6_stroke 104 = .ok (.aload_n 0, 1) := by decide +kernel
theorem dX6_stroke_105 : decode cX6_stroke 105 = .ok (.getfield 34, 3) := by decide +kernel
theorem dX6_stroke_108 : decode cX6_stroke 108 = .ok (.iload_n 1, 1) := by decide +kernel
theorem dX6_stroke_109 : decode cX6_stroke 109 = .ok (.invokevirtual 205, 3) := by decide +kernel
theorem dX6_stroke_112 : decode cX6_stroke 112 = .ok (.ireturn, 1) := by decide +kernel
theorem dX6_stroke_113 : decode cX6_stroke 113 = .ok (.aload_n 0, 1) := by decide +kernel
theorem dX6_stroke_114 : decode cX6_stroke 114 = .ok (.getfield 34, 3) := by decide +kernel
theorem dX6_stroke_117 : decode cX6_stroke 117 = .ok (.iload_n 1, 1) := by decide +kernel
theorem dX6_stroke_118 : decode cX6_stroke 118 = .ok (.invokevirtual 208, 3) := by decide +kernel
theorem dX6_stroke_121 : decode cX6_stroke 121 = .ok (.ireturn, 1) := by decide +kernel
theorem dX6_stroke_122 : decode cX6_stroke 122 = .ok (.bipush (-2), 2) := by decide +kernel
theorem dX6_stroke_124 : decode cX6_stroke 124 = .ok (.ireturn, 1) := by decide +kernel
theorem dX6_baseline_0 : decode cX6_baseline 0 = .ok (.iload_n 1, 1) := by decide +kernel
theorem dX6_baseline_1 : decode cX6_baseline 1 = .ok (.ifCond .lt 8, 3) := by decide +kernel
theorem dX6_baseline_4 : decode cX6_baseline 4 = .ok (.iload_n 1, 1) := by decide +kernel
theorem dX6_baseline_5 : decode cX6_baseline 5 = .ok (.iconst 2, 1) := by decide +kernel
theorem dX6_baseline_6 : decode cX6_baseline 6 = .ok (.if_icmp .le 6, 3) := by decide +kernel
theorem dX6_baseline_9 : decode cX6_baseline 9 = .ok (.bipush (-2), 2) := by decide +kernel
theorem dX6_baseline_11 : decode cX6_baseline 11 = .ok (.ireturn, 1) := by decide +kernel
theorem dX6_baseline_12 : decode cX6_baseline 12 = .ok (.aload_n 0, 1) := by decide +kernel
theorem dX6_baseline_13 : decode cX6_baseline 13 = .ok (.getfield 41, 3) := by decide +kernel
theorem dX6_baseline_16 : decode cX6_baseline 16 = .ok (.aload_n 0, 1) := by decide +kernel
theorem dX6_baseline_17 : decode cX6_baseline 17 = .ok (.getfield 12, 3) := by decide +kernel
theorem dX6_baseline_20 : decode cX6_baseline 20 = .ok (.invokevirtual 211, 3) := by decide +kernel
theorem dX6_baseline_23 : decode cX6_baseline 23 = .ok (.aload_n 0, 1) := by decide +kernel
theorem dX6_baseline_24 : decode cX6_baseline 24 = .ok (.getfield 41, 3) := by decide +kernel
theorem dX6_baseline_27 : decode cX6_baseline 27 = .ok (.invokevirtual 212, 3) := by decide +kernel
theorem dX6_baseline_30 : decode cX6_baseline 30 = .ok (.ifCond .ne 6, 3) := by decide +kernel
theorem dX6_baseline_33 : decode cX6_baseline 33 = .ok (.bipush (-9), 2) := by decide +kernel
theorem dX6_baseline_35 : decode cX6_baseline 35 = .ok (.ireturn, 1) := by decide +kernel
theorem dX6_baseline_36 : decode cX6_baseline 36 = .ok (.iload_n 1, 1) := by decide +kernel
theorem dX6_baseline_37 : decode cX6_baseline 37 = .ok (.lookupswitch 43 #[(0, 27), (1, 35)], 27) := by decide +kernel
theorem dX6_baseline_64 : decode cX6_baseline 64 = .ok (.aload_n 0, 1) := by decide +kernel
theorem dX6_baseline_65 : decode cX6_baseline 65 = .ok (.getfield 41, 3) := by decide +kernel
theorem dX6_baseline_68 : decode cX6_baseline 68 = .ok (.invokevirtual 215, 3) := by decide +kernel
theorem dX6_baseline_71 : decode cX6_baseline 71 = .ok (.ireturn, 1) := by decide +kernel
theorem dX6_baseline_72 : decode cX6_baseline 72 = .ok (.aload_n 0, 1) := by decide +kernel
theorem dX6_baseline_73 : decode cX6_baseline 73 = .ok (.getfield 41, 3) := by decide +kernel
theorem dX6_baseline_76 : decode cX6_baseline 76 = .ok (.invokevirtual 212, 3) := by decide +kernel
theorem dX6_baseline_79 : decode cX6_baseline 79 = .ok (.ireturn, 1) := by decide +kernel
theorem dX6_baseline_80 : decode cX6_baseline 80 = .ok (.aload_n 0, 1) := by decide +kernel
theorem dX6_baseline_81 : decode cX6_baseline 81 = .ok (.getfield 41, 3) := by decide +kernel
theorem dX6_baseline_84 : decode cX6_baseline 84 = .ok (.invokevirtual 218, 3) := by decide +kernel
theorem dX6_baseline_87 : decode cX6_baseline 87 = .ok (.ireturn, 1) := by decide +kernel
theorem dX6_foot_0 : decode cX6_foot 0 = .ok (.aload_n 0, 1) := by decide +kernel
theorem dX6_foot_1 : decode cX6_foot 1 = .ok (.getfield 12, 3) := by decide +kernel
theorem dX6_foot_4 : decode cX6_foot 4 = .ok (.iload_n 1, 1) := by decide +kernel
theorem dX6_foot_5 : decode cX6_foot 5 = .ok (.invokevirtual 62, 3) := by decide +kernel
theorem dX6_foot_8 : decode cX6_foot 8 = .ok (.ifCond .ne 5, 3) := by decide +kernel
theorem dX6_foot_11 : decode cX6_foot 11 = .ok (.iconst (-1), 1) := by decide +kernel
theorem dX6_foot_12 : decode cX6_foot 12 = .ok (.ireturn, 1) := by decide +kernel
theorem dX6_foot_13 : decode cX6_foot 13 = .ok (.aload_n 0, 1) := by decide +kernel
theorem dX6_foot_14 : decode cX6_foot 14 = .ok (.getfield 41, 3) := by decide +kernel
theorem dX6_foot_17 : decode cX6_foot 17 = .ok (.aload_n 0, 1) := by decide +kernel
theorem dX6_foot_18 : decode cX6_foot 18 = .ok (.getfield 12, 3) := by decide +kernel
theorem dX6_foot_21 : decode cX6_foot 21 = .ok (.invokevirtual 211, 3) := by decide +kernel
theorem dX6_foot_24 : decode cX6_foot 24 = .ok (.aload_n 0, 1) := by decide +kernel
theorem dX6_foot_25 : decode cX6_foot 25 = .ok (.getfield 41, 3) := by decide +kernel
theorem dX6_foot_28 : decode cX6_foot 28 = .ok (.iload_n 1, 1) := by decide +kernel
theorem dX6_foot_29 : decode cX6_foot 29 = .ok (.invokevirtual 221, 3) := by decide +kernel
theorem dX6_foot_32 : decode cX6_foot 32 = .ok (.ifCond .eq 14, 3) := by decide +kernel
theorem dX6_foot_35 : decode cX6_foot 35 = .ok (.aload_n 0, 1) := by decide +kernel
theorem dX6_foot_36 : decode cX6_foot 36 = .ok (.getfield 41, 3) := by decide +kernel
theorem dX6_foot_39 : decode cX6_foot 39 = .ok (.iload_n 1, 1) := by decide +kernel
theorem dX6_foot_40 : decode cX6_foot 40 = .ok (.invokevirtual 224, 3) := by decide +kernel
theorem dX6_foot_43 : decode cX6_foot 43 = .ok (.goto 5, 3) := by decide +kernel
theorem dX6_foot_46 : decode cX6_foot 46 = .ok (.bipush (-9), 2) := by decide +kernel
theorem dX6_foot_48 : decode cX6_foot 48 = .ok (.ireturn, 1) := by decide +kernel
theorem dX6_curl_0 : decode cX6_curl 0 = .ok (.aload_n 0, 1) := by decide +kernel
theorem dX6_curl_1 : decode cX6_curl 1 = .ok (.getfield 12, 3) := by decide +kernel
theorem dX6_curl_4 : decode cX6_curl 4 = .ok (.iload_n 1, 1) := by decide +kernel
theorem dX6_curl_5 : decode cX6_curl 5 = .ok (.invokevirtual 62, 3) := by decide +kernel
theorem dX6_curl_8 : decode cX6_curl 8 = .ok (.ifCond .ne 5, 3) := by decide +kernel
theorem dX6_curl_11 : decode cX6_curl 11 = .ok (.iconst (-1), 1) := by decide +kernel
theorem dX6_curl_12 : decode cX6_curl 12 = .ok (.ireturn, 1) := by decide +kernel
theorem dX6_curl_13 : decode cX6_curl 13 = .ok (.aload_n 0, 1) := by decide +kernel
theorem dX6_curl_14 : decode cX6_curl 14 = .ok (.getfield 41, 3) := by decide +kernel
theorem dX6_curl_17 : decode cX6_curl 17 = .ok (.aload_n 0, 1) := by decide +kernel
theorem dX6_curl_18 : decode cX6_curl 18 = .ok (.getfield 12, 3) := by decide +kernel
theorem dX6_curl_21 : decode cX6_curl 21 = .ok (.invokevirtual 211, 3) := by decide +kernel
theorem dX6_curl_24 : decode cX6_curl 24 = .ok (.aload_n 0, 1) := by decide +kernel
theorem dX6_curl_25 : decode cX6_curl 25 = .ok (.getfield 41, 3) := by decide +kernel
theorem dX6_curl_28 : decode cX6_curl 28 = .ok (.invokevirtual 212, 3) := by decide +kernel
theorem dX6_curl_31 : decode cX6_curl 31 = .ok (.ifCond .ne 8, 3) := by decide +kernel
theorem dX6_curl_34 : decode cX6_curl 34 = .ok (.bipush (-3), 2) := by decide +kernel
theorem dX6_curl_36 : decode cX6_curl 36 = .ok (.goto 14, 3) := by decide +kernel
theorem dX6_curl_39 : decode cX6_curl 39 = .ok (.aload_n 0, 1) := by decide +kernel
theorem dX6_curl_40 : decode cX6_curl 40 = .ok (.getfield 41, 3) := by decide +kernel
theorem dX6_curl_43 : decode cX6_curl 43 = .ok (.iload_n 1, 1) := by decide +kernel
theorem dX6_curl_44 : decode cX6_curl 44 = .ok (.invokevirtual 227, 3) := by decide +kernel
theorem dX6_curl_47 : decode cX6_curl 47 = .ok (.bipush 100, 2) := by decide +kernel
theorem dX6_curl_49 : decode cX6_curl 49 = .ok (.iadd, 1) := by decide +kernel
theorem dX6_curl_50 : decode cX6_curl 50 = .ok (.ireturn, 1) := by decide +kernel
theorem dX6_mean_0 : decode cX6_mean 0 = .ok (.aload_n 0, 1) := by decide +kernel
theorem dX6_mean_1 : decode cX6_mean 1 = .ok (.getfield 41, 3) := by decide +kernel
theorem dX6_mean_4 : decode cX6_mean 4 = .ok (.aload_n 0, 1) := by decide +kernel
theorem dX6_mean_5 : decode cX6_mean 5 = .ok (.getfield 12, 3) := by decide +kernel
theorem dX6_mean_8 : decode cX6_mean 8 = .ok (.invokevirtual 211, 3) := by decide +kernel
theorem dX6_mean_11 : decode cX6_mean 11 = .ok (.aload_n 0, 1) := by decide +kernel
theorem dX6_mean_12 : decode cX6_mean 12 = .ok (.getfield 41, 3) := by decide +kernel
theorem dX6_mean_15 : decode cX6_mean 15 = .ok (.invokevirtual 212, 3) := by decide +kernel
theorem dX6_mean_18 : decode cX6_mean 18 = .ok (.ifCond .ne 9, 3) := by decide +kernel
theorem dX6_mean_21 : decode cX6_mean 21 = .ok (.ldc2_w 86, 3) := by decide +kernel
theorem dX6_mean_24 : decode cX6_mean 24 = .ok (.goto 10, 3) := by decide +kernel
theorem dX6_mean_27 : decode cX6_mean 27 = .ok (.aload_n 0, 1) := by decide +kernel
theorem dX6_mean_28 : decode cX6_mean 28 = .ok (.getfield 41, 3) := by decide +kernel
theorem dX6_mean_31 : decode cX6_mean 31 = .ok (.invokevirtual 230, 3) := by decide +kernel
theorem dX6_mean_34 : decode cX6_mean 34 = .ok (.lreturn, 1) := by decide +kernel
theorem dX6_rest_0 : decode cX6_rest 0 = .ok (.aload_n 0, 1) := by decide +kernel
theorem dX6_rest_1 : decode cX6_rest 1 = .ok (.getfield 41, 3) := by decide +kernel
theorem dX6_rest_4 : decode cX6_rest 4 = .ok (.aload_n 0, 1) := by decide +kernel
theorem dX6_rest_5 : decode cX6_rest 5 = .ok (.getfield 12, 3) := by decide +kernel
theorem dX6_rest_8 : decode cX6_rest 8 = .ok (.invokevirtual 211, 3) := by decide +kernel
theorem dX6_rest_11 : decode cX6_rest 11 = .ok (.aload_n 0, 1) := by decide +kernel
theorem dX6_rest_12 : decode cX6_rest 12 = .ok (.getfield 41, 3) := by decide +kernel
theorem dX6_rest_15 : decode cX6_rest 15 = .ok (.invokevirtual 212, 3) := by decide +kernel
theorem dX6_rest_18 : decode cX6_rest 18 = .ok (.ifCond .ne 9, 3) := by decide +kernel
theorem dX6_rest_21 : decode cX6_rest 21 = .ok (.ldc2_w 86, 3) := by decide +kernel
theorem dX6_rest_24 : decode cX6_rest 24 = .ok (.goto 13, 3) := by decide +kernel
theorem dX6_rest_27 : decode cX6_rest 27 = .ok (.aload_n 0, 1) := by decide +kernel
theorem dX6_rest_28 : decode cX6_rest 28 = .ok (.getfield 41, 3) := by decide +kernel
theorem dX6_rest_31 : decode cX6_rest 31 = .ok (.invokevirtual 230, 3) := by decide +kernel
theorem dX6_rest_34 : decode cX6_rest 34 = .ok (.invokestatic 234, 3) := by decide +kernel
theorem dX6_rest_37 : decode cX6_rest 37 = .ok (.lreturn, 1) := by decide +kernel
theorem dX6_slope_0 : decode cX6_slope 0 = .ok (.aload_n 0, 1) := by decide +kernel
theorem dX6_slope_1 : decode cX6_slope 1 = .ok (.getfield 41, 3) := by decide +kernel
theorem dX6_slope_4 : decode cX6_slope 4 = .ok (.aload_n 0, 1) := by decide +kernel
theorem dX6_slope_5 : decode cX6_slope 5 = .ok (.getfield 12, 3) := by decide +kernel
theorem dX6_slope_8 : decode cX6_slope 8 = .ok (.invokevirtual 211, 3) := by decide +kernel
theorem dX6_slope_11 : decode cX6_slope 11 = .ok (.aload_n 0, 1) := by decide +kernel
theorem dX6_slope_12 : decode cX6_slope 12 = .ok (.getfield 41, 3) := by decide +kernel
theorem dX6_slope_15 : decode cX6_slope 15 = .ok (.invokevirtual 212, 3) := by decide +kernel
theorem dX6_slope_18 : decode cX6_slope 18 = .ok (.iconst 2, 1) := by decide +kernel
theorem dX6_slope_19 : decode cX6_slope 19 = .ok (.if_icmp .ge 8, 3) := by decide +kernel
theorem dX6_slope_22 : decode cX6_slope 22 = .ok (.bipush (-3), 2) := by decide +kernel
theorem dX6_slope_24 : decode cX6_slope 24 = .ok (.goto 10, 3) := by decide +kernel
theorem dX6_slope_27 : decode cX6_slope 27 = .ok (.aload_n 0, 1) := by decide +kernel
theorem dX6_slope_28 : decode cX6_slope 28 = .ok (.getfield 41, 3) := by decide +kernel
theorem dX6_slope_31 : decode cX6_slope 31 = .ok (.invokevirtual 240, 3) := by decide +kernel
theorem dX6_slope_34 : decode cX6_slope 34 = .ok (.ireturn, 1) := by decide +kernel
theorem dX6_level_0 : decode cX6_level 0 = .ok (.aload_n 0, 1) := by decide +kernel
theorem dX6_level_1 : decode cX6_level 1 = .ok (.getfield 41, 3) := by decide +kernel
theorem dX6_level_4 : decode cX6_level 4 = .ok (.aload_n 0, 1) := by decide +kernel
theorem dX6_level_5 : decode cX6_level 5 = .ok (.getfield 12, 3) := by decide +kernel
theorem dX6_level_8 : decode cX6_level 8 = .ok (.invokevirtual 211, 3) := by decide +kernel
theorem dX6_level_11 : decode cX6_level 11 = .ok (.aload_n 0, 1) := by decide +kernel
theorem dX6_level_12 : decode cX6_level 12 = .ok (.getfield 41, 3) := by decide +kernel
theorem dX6_level_15 : decode cX6_level 15 = .ok (.invokevirtual 212, 3) := by decide +kernel
theorem dX6_level_18 : decode cX6_level 18 = .ok (.ifCond .ne 6, 3) := by decide +kernel
theorem dX6_level_21 : decode cX6_level 21 = .ok (.bipush (-3), 2) := by decide +kernel
theorem dX6_level_23 : decode cX6_level 23 = .ok (.ireturn, 1) := by decide +kernel
theorem dX6_level_24 : decode cX6_level 24 = .ok (.iconst 0, 1) := by decide +kernel
theorem dX6_level_25 : decode cX6_level 25 = .ok (.istore_n 1, 1) := by decide +kernel
theorem dX6_level_26 : decode cX6_level 26 = .ok (.iload_n 1, 1) := by decide +kernel
theorem dX6_level_27 : decode cX6_level 27 = .ok (.aload_n 0, 1) := by decide +kernel
theorem dX6_level_28 : decode cX6_level 28 = .ok (.getfield 12, 3) := by decide +kernel
theorem dX6_level_31 : decode cX6_level 31 = .ok (.invokevirtual 98, 3) := by decide +kernel
theorem dX6_level_34 : decode cX6_level 34 = .ok (.if_icmp .ge 23, 3) := by decide +kernel
theorem dX6_level_37 : decode cX6_level 37 = .ok (.aload_n 0, 1) := by decide +kernel
theorem dX6_level_38 : decode cX6_level 38 = .ok (.getfield 45, 3) := by decide +kernel
theorem dX6_level_41 : decode cX6_level 41 = .ok (.iload_n 1, 1) := by decide +kernel
theorem dX6_level_42 : decode cX6_level 42 = .ok (.aload_n 0, 1) := by decide +kernel
theorem dX6_level_43 : decode cX6_level 43 = .ok (.getfield 41, 3) := by decide +kernel
theorem dX6_level_46 : decode cX6_level 46 = .ok (.iload_n 1, 1) := by decide +kernel
theorem dX6_level_47 : decode cX6_level 47 = .ok (.invokevirtual 227, 3) := by decide +kernel
theorem dX6_level_50 : decode cX6_level 50 = .ok (.iastore, 1) := by decide +kernel
theorem dX6_level_51 : decode cX6_level 51 = .ok (.iinc 1 1, 3) := by decide +kernel
theorem dX6_level_54 : decode cX6_level 54 = .ok (.goto (-28), 3) := by decide +kernel
theorem dX6_level_57 : decode cX6_level 57 = .ok (.aload_n 0, 1) := by decide +kernel
theorem dX6_level_58 : decode cX6_level 58 = .ok (.getfield 12, 3) := by decide +kernel
theorem dX6_level_61 : decode cX6_level 61 = .ok (.aload_n 0, 1) := by decide +kernel
theorem dX6_level_62 : decode cX6_level 62 = .ok (.getfield 45, 3) := by decide +kernel
theorem dX6_level_65 : decode cX6_level 65 = .ok (.invokevirtual 164, 3) := by decide +kernel
theorem dX6_level_68 : decode cX6_level 68 = .ok (.ireturn, 1) := by decide +kernel
theorem dX6_back_0 : decode cX6_back 0 = .ok (.aload_n 0, 1) := by decide +kernel
theorem dX6_back_1 : decode cX6_back 1 = .ok (.getfield 12, 3) := by decide +kernel
theorem dX6_back_4 : decode cX6_back 4 = .ok (.invokevirtual 243, 3) := by decide +kernel
theorem dX6_back_7 : decode cX6_back 7 = .ok (.ifCond .ne 6, 3) := by decide +kernel
theorem dX6_back_10 : decode cX6_back 10 = .ok (.bipush (-3), 2) := by decide +kernel
theorem dX6_back_12 : decode cX6_back 12 = .ok (.ireturn, 1) := by decide +kernel
theorem dX6_back_13 : decode cX6_back 13 = .ok (.aload_n 0, 1) := by decide +kernel
theorem dX6_back_14 : decode cX6_back 14 = .ok (.getfield 12, 3) := by decide +kernel
theorem dX6_back_17 : decode cX6_back 17 = .ok (.invokevirtual 246, 3) := by decide +kernel
theorem dX6_back_20 : decode cX6_back 20 = .ok (.aload_n 0, 1) := by decide +kernel
theorem dX6_back_21 : decode cX6_back 21 = .ok (.getfield 12, 3) := by decide +kernel
theorem dX6_back_24 : decode cX6_back 24 = .ok (.invokevirtual 243, 3) := by decide +kernel
theorem dX6_back_27 : decode cX6_back 27 = .ok (.ireturn, 1) := by decide +kernel
theorem dX6_fault_0 : decode cX6_fault 0 = .ok (.aload_n 0, 1) := by decide +kernel
theorem dX6_fault_1 : decode cX6_fault 1 = .ok (.getfield 49, 3) := by decide +kernel
theorem dX6_fault_4 : decode cX6_fault 4 = .ok (.ireturn, 1) := by decide +kernel
theorem dX6_many_0 : decode cX6_many 0 = .ok (.iload_n 1, 1) := by decide +kernel
theorem dX6_many_1 : decode cX6_many 1 = .ok (.tableswitch 118 0 6 #[43, 51, 59, 78, 97, 105, 113], 43) := by decide +kernel
theorem dX6_many_44 : decode cX6_many 44 = .ok (.aload_n 0, 1) := by decide +kernel
theorem dX6_many_45 : decode cX6_many 45 = .ok (.getfield 12, 3) := by decide +kernel
theorem dX6_many_48 : decode cX6_many 48 = .ok (.invokevirtual 98, 3) := by decide +kernel
theorem dX6_many_51 : decode cX6_many 51 = .ok (.ireturn, 1) := by decide +kernel
theorem dX6_many_52 : decode cX6_many 52 = .ok (.aload_n 0, 1) := by decide +kernel
theorem dX6_many_53 : decode cX6_many 53 = .ok (.getfield 12, 3) := by decide +kernel
theorem dX6_many_56 : decode cX6_many 56 = .ok (.invokevirtual 54, 3) := by decide +kernel
theorem dX6_many_59 : decode cX6_many 59 = .ok (.ireturn, 1) := by decide +kernel
theorem dX6_many_60 : decode cX6_many 60 = .ok (.aload_n 0, 1) := by decide +kernel
theorem dX6_many_61 : decode cX6_many 61 = .ok (.getfield 34, 3) := by decide +kernel
theorem dX6_many_64 : decode cX6_many 64 = .ok (.aload_n 0, 1) := by decide +kernel
theorem dX6_many_65 : decode cX6_many 65 = .ok (.getfield 12, 3) := by decide +kernel
theorem dX6_many_68 : decode cX6_many 68 = .ok (.invokevirtual 171, 3) := by decide +kernel
theorem dX6_many_71 : decode cX6_many 71 = .ok (.aload_n 0, 1) := by decide +kernel
theorem dX6_many_72 : decode cX6_many 72 = .ok (.getfield 34, 3) := by decide +kernel
theorem dX6_many_75 : decode cX6_many 75 = .ok (.invokevirtual 175, 3) := by decide +kernel
theorem dX6_many_78 : decode cX6_many 78 = .ok (.ireturn, 1) := by decide +kernel
theorem dX6_many_79 : decode cX6_many 79 = .ok (.aload_n 0, 1) := by decide +kernel
theorem dX6_many_80 : decode cX6_many 80 = .ok (.getfield 34, 3) := by decide +kernel
theorem dX6_many_83 : decode cX6_many 83 = .ok (.aload_n 0, 1) := by decide +kernel
theorem dX6_many_84 : decode cX6_many 84 = .ok (.getfield 12, 3) := by decide +kernel
theorem dX6_many_87 : decode cX6_many 87 = .ok (.invokevirtual 171, 3) := by decide +kernel
theorem dX6_many_90 : decode cX6_many 90 = .ok (.aload_n 0, 1) := by decide +kernel
theorem dX6_many_91 : decode cX6_many 91 = .ok (.getfield 34, 3) := by decide +kernel
theorem dX6_many_94 : decode cX6_many 94 = .ok (.invokevirtual 190, 3) := by decide +kernel
theorem dX6_many_97 : decode cX6_many 97 = .ok (.ireturn, 1) := by decide +kernel
theorem dX6_many_98 : decode cX6_many 98 = .ok (.aload_n 0, 1) := by decide +kernel
theorem dX6_many_99 : decode cX6_many 99 = .ok (.getfield 12, 3) := by decide +kernel
theorem dX6_many_102 : decode cX6_many 102 = .ok (.invokevirtual 249, 3) := by decide +kernel
theorem dX6_many_105 : decode cX6_many 105 = .ok (.ireturn, 1) := by decide +kernel
theorem dX6_many_106 : decode cX6_many 106 = .ok (.aload_n 0, 1) := by decide +kernel
theorem dX6_many_107 : decode cX6_many 107 = .ok (.getfield 12, 3) := by decide +kernel
theorem dX6_many_110 : decode cX6_many 110 = .ok (.invokevirtual 243, 3) := by decide +kernel
theorem dX6_many_113 : decode cX6_many 113 = .ok (.ireturn, 1) := by decide +kernel
theorem dX6_many_114 : decode cX6_many 114 = .ok (.aload_n 0, 1) := by decide +kernel
theorem dX6_many_115 : decode cX6_many 115 = .ok (.invokevirtual 252, 3) := by decide +kernel
theorem dX6_many_118 : decode cX6_many 118 = .ok (.ireturn, 1) := by decide +kernel
theorem dX6_many_119 : decode cX6_many 119 = .ok (.bipush (-2), 2) := by decide +kernel
theorem dX6_many_121 : decode cX6_many 121 = .ok (.ireturn, 1) := by decide +kernel
theorem dX6_isRow_0 : decode cX6_isRow 0 = .ok (.iload_n 0, 1) := by decide +kernel
theorem dX6_isRow_1 : decode cX6_isRow 1 = .ok (.ifCond .lt 13, 3) := by decide +kernel
theorem dX6_isRow_4 : decode cX6_isRow 4 = .ok (.iload_n 0, 1) := by decide +kernel
theorem dX6_isRow_5 : decode cX6_isRow 5 = .ok (.bipush 32, 2) := by decide +kernel
theorem dX6_isRow_7 : decode cX6_isRow 7 = .ok (.if_icmp .ge 7, 3) := by decide +kernel
theorem dX6_isRow_10 : decode cX6_isRow 10 = .ok (.iconst 1, 1) := by decide +kernel
theorem dX6_isRow_11 : decode cX6_isRow 11 = .ok (.goto 4, 3) := by decide +kernel
theorem dX6_isRow_14 : decode cX6_isRow 14 = .ok (.iconst 0, 1) := by decide +kernel
theorem dX6_isRow_15 : decode cX6_isRow 15 = .ok (.ireturn, 1) := by decide +kernel
theorem dX6_isCard_0 : decode cX6_isCard 0 = .ok (.iload_n 0, 1) := by decide +kernel
theorem dX6_isCard_1 : decode cX6_isCard 1 = .ok (.ifCond .lt 12, 3) := by decide +kernel
theorem dX6_isCard_4 : decode cX6_isCard 4 = .ok (.iload_n 0, 1) := by decide +kernel
theorem dX6_isCard_5 : decode cX6_isCard 5 = .ok (.iconst 4, 1) := by decide +kernel
theorem dX6_isCard_6 : decode cX6_isCard 6 = .ok (.if_icmp .ge 7, 3) := by decide +kernel
theorem dX6_isCard_9 : decode cX6_isCard 9 = .ok (.iconst 1, 1) := by decide +kernel
theorem dX6_isCard_10 : decode cX6_isCard 10 = .ok (.goto 4, 3) := by decide +kernel
theorem dX6_isCard_13 : decode cX6_isCard 13 = .ok (.iconst 0, 1) := by decide +kernel
theorem dX6_isCard_14 : decode cX6_isCard 14 = .ok (.ireturn, 1) := by decide +kernel
theorem dX6_isAxis_0 : decode cX6_isAxis 0 = .ok (.iload_n 0, 1) := by decide +kernel
theorem dX6_isAxis_1 : decode cX6_isAxis 1 = .ok (.ifCond .eq 8, 3) := by decide +kernel
theorem dX6_isAxis_4 : decode cX6_isAxis 4 = .ok (.iload_n 0, 1) := by decide +kernel
theorem dX6_isAxis_5 : decode cX6_isAxis 5 = .ok (.iconst 1, 1) := by decide +kernel
theorem dX6_isAxis_6 : decode cX6_isAxis 6 = .ok (.if_icmp .ne 7, 3) := by decide +kernel
theorem dX6_isAxis_9 : decode cX6_isAxis 9 = .ok (.iconst 1, 1) := by decide +kernel
theorem dX6_isAxis_10 : decode cX6_isAxis 10 = .ok (.goto 4, 3) := by decide +kernel
theorem dX6_isAxis_13 : decode cX6_isAxis 13 = .ok (.iconst 0, 1) := by decide +kernel
theorem dX6_isAxis_14 : decode cX6_isAxis 14 = .ok (.ireturn, 1) := by decide +kernel
theorem dX6_isShear_0 : decode cX6_isShear 0 = .ok (.iload_n 0, 1) := by decide +kernel
theorem dX6_isShear_1 : decode cX6_isShear 1 = .ok (.bipush (-16), 2) := by decide +kernel
theorem dX6_isShear_3 : decode cX6_isShear 3 = .ok (.if_icmp .lt 13, 3) := by decide +kernel
theorem dX6_isShear_6 : decode cX6_isShear 6 = .ok (.iload_n 0, 1) := by decide +kernel
theorem dX6_isShear_7 : decode cX6_isShear 7 = .ok (.bipush 16, 2) := by decide +kernel
theorem dX6_isShear_9 : decode cX6_isShear 9 = .ok (.if_icmp .gt 7, 3) := by decide +kernel
theorem dX6_isShear_12 : decode cX6_isShear 12 = .ok (.iconst 1, 1) := by decide +kernel
theorem dX6_isShear_13 : decode cX6_isShear 13 = .ok (.goto 4, 3) := by decide +kernel
theorem dX6_isShear_16 : decode cX6_isShear 16 = .ok (.iconst 0, 1) := by decide +kernel
theorem dX6_isShear_17 : decode cX6_isShear 17 = .ok (.ireturn, 1) := by decide +kernel
theorem dX6_failed_0 : decode cX6_failed 0 = .ok (.aload_n 0, 1) := by decide +kernel
theorem dX6_failed_1 : decode cX6_failed 1 = .ok (.iload_n 1, 1) := by decide +kernel
theorem dX6_failed_2 : decode cX6_failed 2 = .ok (.putfield 49, 3) := by decide +kernel
theorem dX6_failed_5 : decode cX6_failed 5 = .ok (.bipush (-10), 2) := by decide +kernel
theorem dX6_failed_7 : decode cX6_failed 7 = .ok (.iload_n 1, 1) := by decide +kernel
theorem dX6_failed_8 : decode cX6_failed 8 = .ok (.isub, 1) := by decide +kernel
theorem dX6_failed_9 : decode cX6_failed 9 = .ok (.ireturn, 1) := by decide +kernel
theorem dX6_filledCards_0 : decode cX6_filledCards 0 = .ok (.iconst 0, 1) := by decide +kernel
theorem dX6_filledCards_1 : decode cX6_filledCards 1 = .ok (.istore_n 1, 1) := by decide +kernel
theorem dX6_filledCards_2 : decode cX6_filledCards 2 = .ok (.iconst 0, 1) := by decide +kernel
theorem dX6_filledCards_3 : decode cX6_filledCards 3 = .ok (.istore_n 2, 1) := by decide +kernel
theorem dX6_filledCards_4 : decode cX6_filledCards 4 = .ok (.iload_n 2, 1) := by decide +kernel
theorem dX6_filledCards_5 : decode cX6_filledCards 5 = .ok (.iconst 4, 1) := by decide +kernel
theorem dX6_filledCards_6 : decode cX6_filledCards 6 = .ok (.if_icmp .ge 29, 3) := by decide +kernel
theorem dX6_filledCards_9 : decode cX6_filledCards 9 = .ok (.iload_n 1, 1) := by decide +kernel
theorem dX6_filledCards_10 : decode cX6_filledCards 10 = .ok (.aload_n 0, 1) := by decide +kernel
theorem dX6_filledCards_11 : decode cX6_filledCards 11 = .ok (.getfield 20, 3) := by decide +kernel
theorem dX6_filledCards_14 : decode cX6_filledCards 14 = .ok (.iload_n 2, 1) := by decide +kernel
theorem dX6_filledCards_15 : decode cX6_filledCards 15 = .ok (.aaload, 1) := by decide +kernel
theorem dX6_filledCards_16 : decode cX6_filledCards 16 = .ok (.invokevirtual 91, 3) := by decide +kernel
theorem dX6_filledCards_19 : decode cX6_filledCards 19 = .ok (.ifCond .eq 7, 3) := by decide +kernel
theorem dX6_filledCards_22 : decode cX6_filledCards 22 = .ok (.iconst 0, 1) := by decide +kernel
theorem dX6_filledCards_23 : decode cX6_filledCards 23 = .ok (.goto 4, 3) := by decide +kernel
theorem dX6_filledCards_26 : decode cX6_filledCards 26 = .ok (.iconst 1, 1) := by decide +kernel
theorem dX6_filledCards_27 : decode cX6_filledCards 27 = .ok (.iadd, 1) := by decide +kernel
theorem dX6_filledCards_28 : decode cX6_filledCards 28 = .ok (.istore_n 1, 1) := by decide +kernel
theorem dX6_filledCards_29 : decode cX6_filledCards 29 = .ok (.iinc 2 1, 3) := by decide +kernel
theorem dX6_filledCards_32 : decode cX6_filledCards 32 = .ok (.goto (-28), 3) := by decide +kernel
theorem dX6_filledCards_35 : decode cX6_filledCards 35 = .ok (.iload_n 1, 1) := by decide +kernel
theorem dX6_filledCards_36 : decode cX6_filledCards 36 = .ok (.ireturn, 1) := by decide +kernel
theorem dX6_shiftOf_0 : decode cX6_shiftOf 0 = .ok (.iload_n 0, 1) := by decide +kernel
theorem dX6_shiftOf_1 : decode cX6_shiftOf 1 = .ok (.ifCond .ne 7, 3) := by decide +kernel
theorem dX6_shiftOf_4 : decode cX6_shiftOf 4 = .ok (.iload_n 2, 1) := by decide +kernel
theorem dX6_shiftOf_5 : decode cX6_shiftOf 5 = .ok (.goto 7, 3) := by decide +kernel
theorem dX6_shiftOf_8 : decode cX6_shiftOf 8 = .ok (.bipush 31, 2) := by decide +kernel
theorem dX6_shiftOf_10 : decode cX6_shiftOf 10 = .ok (.iload_n 2, 1) := by decide +kernel
theorem dX6_shiftOf_11 : decode cX6_shiftOf 11 = .ok (.isub, 1) := by decide +kernel
theorem dX6_shiftOf_12 : decode cX6_shiftOf 12 = .ok (.istore_n 3, 1) := by decide +kernel
theorem dX6_shiftOf_13 : decode cX6_shiftOf 13 = .ok (.iload_n 1, 1) := by decide +kernel
theorem dX6_shiftOf_14 : decode cX6_shiftOf 14 = .ok (.iload_n 3, 1) := by decide +kernel
theorem dX6_shiftOf_15 : decode cX6_shiftOf 15 = .ok (.imul, 1) := by decide +kernel
theorem dX6_shiftOf_16 : decode cX6_shiftOf 16 = .ok (.bipush 8, 2) := by decide +kernel
theorem dX6_shiftOf_18 : decode cX6_shiftOf 18 = .ok (.iadd, 1) := by decide +kernel
theorem dX6_shiftOf_19 : decode cX6_shiftOf 19 = .ok (.bipush 16, 2) := by decide +kernel
theorem dX6_shiftOf_21 : decode cX6_shiftOf 21 = .ok (.invokestatic 255, 3) := by decide +kernel
theorem dX6_shiftOf_24 : decode cX6_shiftOf 24 = .ok (.ireturn, 1) := by decide +kernel
theorem dX7_init_0 : decode cX7_init 0 = .ok (.aload_n 0, 1) := by decide +kernel
theorem dX7_init_1 : decode cX7_init 1 = .ok (.invokespecial 1, 3) := by decide +kernel
theorem dX7_init_4 : decode cX7_init 4 = .ok (.aload_n 0, 1) := by decide +kernel
theorem dX7_init_5 : decode cX7_init 5 = .ok (.bipush 24, 2) := by decide +kernel
theorem dX7_init_7 : decode cX7_init 7 = .ok (.putfield 7, 3) := by decide +kernel
theorem dX7_init_10 : decode cX7_init 10 = .ok (.aload_n 0, 1) := by decide +kernel
theorem dX7_init_11 : decode cX7_init 11 = .ok (.sipush 768, 3) := by decide +kernel
theorem dX7_init_14 : decode cX7_init 14 = .ok (.newarray .boolean, 2) := by decide +kernel
theorem dX7_init_16 : decode cX7_init 16 = .ok (.putfield 13, 3) := by decide +kernel
theorem dX7_init_19 : decode cX7_init 19 = .ok (.aload_n 0, 1) := by decide +kernel
theorem dX7_init_20 : decode cX7_init 20 = .ok (.iconst 4, 1) := by decide +kernel
theorem dX7_init_21 : decode cX7_init 21 = .ok (.newarray .int, 2) := by decide +kernel
theorem dX7_init_23 : decode cX7_init 23 = .ok (.dup, 1) := by decide +kernel
theorem dX7_init_24 : decode cX7_init 24 = .ok (.iconst 0, 1) := by decide +kernel
theorem dX7_init_25 : decode cX7_init 25 = .ok (.bipush (-9), 2) := by decide +kernel
theorem dX7_init_27 : decode cX7_init 27 = .ok (.iastore, 1) := by decide +kernel
theorem dX7_init_28 : decode cX7_init 28 = .ok (.dup, 1) := by decide +kernel
theorem dX7_init_29 : decode cX7_init 29 = .ok (.iconst 1, 1) := by decide +kernel
theorem dX7_init_30 : decode cX7_init 30 = .ok (.bipush (-9), 2) := by decide +kernel
theorem dX7_init_32 : decode cX7_init 32 = .ok (.iastore, 1) := by decide +kernel
theorem dX7_init_33 : decode cX7_init 33 = .ok (.dup, 1) := by decide +kernel
theorem dX7_init_34 : decode cX7_init 34 = .ok (.iconst 2, 1) := by decide +kernel
theorem dX7_init_35 : decode cX7_init 35 = .ok (.bipush (-9), 2) := by decide +kernel
theorem dX7_init_37 : decode cX7_init 37 = .ok (.iastore, 1) := by decide +kernel
theorem dX7_init_38 : decode cX7_init 38 = .ok (.dup, 1) := by decide +kernel
theorem dX7_init_39 : decode cX7_init 39 = .ok (.iconst 3, 1) := by decide +kernel
theorem dX7_init_40 : decode cX7_init 40 = .ok (.bipush (-9), 2) := by decide +kernel
theorem dX7_init_42 : decode cX7_init 42 = .ok (.iastore, 1) := by decide +kernel
theorem dX7_init_43 : decode cX7_init 43 = .ok (.putfield 17, 3) := by decide +kernel
theorem dX7_init_46 : decode cX7_init 46 = .ok (.aload_n 0, 1) := by decide +kernel
theorem dX7_init_47 : decode cX7_init 47 = .ok (.iconst 4, 1) := by decide +kernel
theorem dX7_init_48 : decode cX7_init 48 = .ok (.newarray .int, 2) := by decide +kernel
theorem dX7_init_50 : decode cX7_init 50 = .ok (.putfield 21, 3) := by decide +kernel
theorem dX7_init_53 : decode cX7_init 53 = .ok (.aload_n 0, 1) := by decide +kernel
theorem dX7_init_54 : decode cX7_init 54 = .ok (.sipush 128, 3) := by decide +kernel
theorem dX7_init_57 : decode cX7_init 57 = .ok (.newarray .int, 2) := by decide +kernel
theorem dX7_init_59 : decode cX7_init 59 = .ok (.putfield 24, 3) := by decide +kernel
theorem dX7_init_62 : decode cX7_init 62 = .ok (.aload_n 0, 1) := by decide +kernel
theorem dX7_init_63 : decode cX7_init 63 = .ok (.sipush 201, 3) := by decide +kernel
theorem dX7_init_66 : decode cX7_init 66 = .ok (.newarray .int, 2) := by decide +kernel
theorem dX7_init_68 : decode cX7_init 68 = .ok (.putfield 27, 3) := by decide +kernel
theorem dX7_init_71 : decode cX7_init 71 = .ok (.aload_n 0, 1) := by decide +kernel
theorem dX7_init_72 : decode cX7_init 72 = .ok (.bipush 33, 2) := by decide +kernel
theorem dX7_init_74 : decode cX7_init 74 = .ok (.newarray .int, 2) := by decide +kernel
theorem dX7_init_76 : decode cX7_init 76 = .ok (.putfield 30, 3) := by decide +kernel
theorem dX7_init_79 : decode cX7_init 79 = .ok (.aload_n 0, 1) := by decide +kernel
theorem dX7_init_80 : decode cX7_init 80 = .ok (.bipush 33, 2) := by decide +kernel
theorem dX7_init_82 : decode cX7_init 82 = .ok (.newarray .int, 2) := by decide +kernel
theorem dX7_init_84 : decode cX7_init 84 = .ok (.putfield 33, 3) := by decide +kernel
theorem dX7_init_87 : decode cX7_init 87 = .ok (.aload_n 0, 1) := by decide +kernel
theorem dX7_init_88 : decode cX7_init 88 = .ok (.sipush 6144, 3) := by decide +kernel
theorem dX7_init_91 : decode cX7_init 91 = .ok (.newarray .boolean, 2) := by decide +kernel
theorem dX7_init_93 : decode cX7_init 93 = .ok (.putfield 36, 3) := by decide +kernel
theorem dX7_init_96 : decode cX7_init 96 = .ok (.aload_n 0, 1) := by decide +kernel
theorem dX7_init_97 : decode cX7_init 97 = .ok (.sipush 768, 3) := by decide +kernel
theorem dX7_init_100 : decode cX7_init 100 = .ok (.newarray .boolean, 2) := by decide +kernel
theorem dX7_init_102 : decode cX7_init 102 = .ok (.putfield 39, 3) := by decide +kernel
theorem dX7_init_105 : decode cX7_init 105 = .ok (.aload_n 0, 1) := by decide +kernel
theorem dX7_init_106 : decode cX7_init 106 = .ok (.sipush 384, 3) := by decide +kernel
theorem dX7_init_109 : decode cX7_init 109 = .ok (.newarray .int, 2) := by decide +kernel
theorem dX7_init_111 : decode cX7_init 111 = .ok (.putfield 42, 3) := by decide +kernel
theorem dX7_init_114 : decode cX7_init 114 = .ok (.aload_n 0, 1) := by decide +kernel
theorem dX7_init_115 : decode cX7_init 115 = .ok (.sipush 384, 3) := by decide +kernel
theorem dX7_init_118 : decode cX7_init 118 = .ok (.newarray .int, 2) := by decide +kernel
theorem dX7_init_120 : decode cX7_init 120 = .ok (.putfield 45, 3) := by decide +kernel
theorem dX7_init_123 : decode cX7_init 123 = .ok (.aload_n 0, 1) := by decide +kernel
theorem dX7_init_124 : decode cX7_init 124 = .ok (.sipush 384, 3) := by decide +kernel
theorem dX7_init_127 : decode cX7_init 127 = .ok (.newarray .int, 2) := by decide +kernel
theorem dX7_init_129 : decode cX7_init 129 = .ok (.putfield 48, 3) := by decide +kernel
theorem dX7_init_132 : decode cX7_init 132 = .ok (.aload_n 0, 1) := by decide +kernel
theorem dX7_init_133 : decode cX7_init 133 = .ok (.sipush 384, 3) := by decide +kernel
theorem dX7_init_136 : decode cX7_init 136 = .ok (.newarray .int, 2) := by decide +kernel
theorem dX7_init_138 : decode cX7_init 138 = .ok (.putfield 51, 3) := by decide +kernel
theorem dX7_init_141 : decode cX7_init 141 = .ok (.aload_n 0, 1) := by decide +kernel
theorem dX7_init_142 : decode cX7_init 142 = .ok (.sipush 768, 3) := by decide +kernel
theorem dX7_init_145 : decode cX7_init 145 = .ok (.newarray .int, 2) := by decide +kernel
theorem dX7_init_147 : decode cX7_init 147 = .ok (.putfield 54, 3) := by decide +kernel
theorem dX7_init_150 : decode cX7_init 150 = .ok (.aload_n 0, 1) := by decide +kernel
theorem dX7_init_151 : decode cX7_init 151 = .ok (.bipush 24, 2) := by decide +kernel
theorem dX7_init_153 : decode cX7_init 153 = .ok (.newarray .int, 2) := by decide +kernel
theorem dX7_init_155 : decode cX7_init 155 = .ok (.putfield 57, 3) := by decide +kernel
theorem dX7_init_158 : decode cX7_init 158 = .ok (.aload_n 0, 1) := by decide +kernel
theorem dX7_init_159 : decode cX7_init 159 = .ok (.bipush 24, 2) := by decide +kernel
theorem dX7_init_161 : decode cX7_init 161 = .ok (.newarray .int, 2) := by decide +kernel
theorem dX7_init_163 : decode cX7_init 163 = .ok (.putfield 60, 3) := by decide +kernel
theorem dX7_init_166 : decode cX7_init 166 = .ok (.return_, 1) := by decide +kernel
theorem dX7_refused_0 : decode cX7_refused 0 = .ok (.aload_n 0, 1) := by decide +kernel
theorem dX7_refused_1 : decode cX7_refused 1 = .ok (.iconst 0, 1) := by decide +kernel
theorem dX7_refused_2 : decode cX7_refused 2 = .ok (.putfield 63, 3) := by decide +kernel
theorem dX7_refused_5 : decode cX7_refused 5 = .ok (.iload_n 1, 1) := by decide +kernel
theorem dX7_refused_6 : decode cX7_refused 6 = .ok (.ireturn, 1) := by decide +kernel
theorem dX7_fails_0 : decode cX7_fails 0 = .ok (.aload_n 0, 1) := by decide +kernel
theorem dX7_fails_1 : decode cX7_fails 1 = .ok (.iload_n 1, 1) := by decide +kernel
theorem dX7_fails_2 : decode cX7_fails 2 = .ok (.putfield 63, 3) := by decide +kernel
theorem dX7_fails_5 : decode cX7_fails 5 = .ok (.bipush (-10), 2) := by decide +kernel
theorem dX7_fails_7 : decode cX7_fails 7 = .ok (.iload_n 1, 1) := by decide +kernel
theorem dX7_fails_8 : decode cX7_fails 8 = .ok (.isub, 1) := by decide +kernel
theorem dX7_fails_9 : decode cX7_fails 9 = .ok (.ireturn, 1) := by decide +kernel
theorem dX7_within_0 : decode cX7_within 0 = .ok (.iload_n 0, 1) := by decide +kernel
theorem dX7_within_1 : decode cX7_within 1 = .ok (.iload_n 1, 1) := by decide +kernel
theorem dX7_within_2 : decode cX7_within 2 = .ok (.if_icmp .lt 12, 3) := by decide +kernel
theorem dX7_within_5 : decode cX7_within 5 = .ok (.iload_n 0, 1) := by decide +kernel
theorem dX7_within_6 : decode cX7_within 6 = .ok (.iload_n 2, 1) := by decide +kernel
theorem dX7_within_7 : decode cX7_within 7 = .ok (.if_icmp .gt 7, 3) := by decide +kernel
theorem dX7_within_10 : decode cX7_within 10 = .ok (.iconst 1, 1) := by decide +kernel
theorem dX7_within_11 : decode cX7_within 11 = .ok (.goto 4, 3) := by decide +kernel
theorem dX7_within_14 : decode cX7_within 14 = .ok (.iconst 0, 1) := by decide +kernel
theorem dX7_within_15 : decode cX7_within 15 = .ok (.ireturn, 1) := by decide +kernel
theorem dX7_isColumn_0 : decode cX7_isColumn 0 = .ok (.iload_n 1, 1) := by decide +kernel
theorem dX7_isColumn_1 : decode cX7_isColumn 1 = .ok (.iconst 0, 1) := by decide +kernel
theorem dX7_isColumn_2 : decode cX7_isColumn 2 = .ok (.aload_n 0, 1) := by decide +kernel
theorem dX7_isColumn_3 : decode cX7_isColumn 3 = .ok (.getfield 7, 3) := by decide +kernel
theorem dX7_isColumn_6 : decode cX7_isColumn 6 = .ok (.iconst 1, 1) := by decide +kernel
theorem dX7_isColumn_7 : decode cX7_isColumn 7 = .ok (.isub, 1) := by decide +kernel
theorem dX7_isColumn_8 : decode cX7_isColumn 8 = .ok (.invokestatic 66, 3) := by decide +kernel
theorem dX7_isColumn_11 : decode cX7_isColumn 11 = .ok (.ireturn, 1) := by decide +kernel
theorem dX7_isRow_0 : decode cX7_isRow 0 = .ok (.iload_n 0, 1) := by decide +kernel
theorem dX7_isRow_1 : decode cX7_isRow 1 = .ok (.iconst 0, 1) := by decide +kernel
theorem dX7_isRow_2 : decode cX7_isRow 2 = .ok (.bipush 31, 2) := by decide +kernel
theorem dX7_isRow_4 : decode cX7_isRow 4 = .ok (.invokestatic 66, 3) := by decide +kernel
theorem dX7_isRow_7 : decode cX7_isRow 7 = .ok (.ireturn, 1) := by decide +kernel
theorem dX7_isDot_0 : decode cX7_isDot 0 = .ok (.aload_n 0, 1) := by decide +kernel
theorem dX7_isDot_1 : decode cX7_isDot 1 = .ok (.iload_n 1, 1) := by decide +kernel
theorem dX7_isDot_2 : decode cX7_isDot 2 = .ok (.invokevirtual 70, 3) := by decide +kernel
theorem dX7_isDot_5 : decode cX7_isDot 5 = .ok (.ifCond .eq 28, 3) := by decide +kernel
theorem dX7_isDot_8 : decode cX7_isDot 8 = .ok (.iload_n 2, 1) := by decide +kernel
theorem dX7_isDot_9 : decode cX7_isDot 9 = .ok (.invokestatic 74, 3) := by decide +kernel
theorem dX7_isDot_12 : decode cX7_isDot 12 = .ok (.ifCond .eq 21, 3) := by decide +kernel
theorem dX7_isDot_15 : decode cX7_isDot 15 = .ok (.aload_n 0, 1) := by decide +kernel
theorem dX7_isDot_16 : decode cX7_isDot 16 = .ok (.getfield 13, 3) := by decide +kernel
theorem dX7_isDot_19 : decode cX7_isDot 19 = .ok (.bipush 32, 2) := by decide +kernel
theorem dX7_isDot_21 : decode cX7_isDot 21 = .ok (.iload_n 1, 1) := by decide +kernel
theorem dX7_isDot_22 : decode cX7_isDot 22 = .ok (.imul, 1) := by decide +kernel
theorem dX7_isDot_23 : decode cX7_isDot 23 = .ok (.iload_n 2, 1) := by decide +kernel
theorem dX7_isDot_24 : decode cX7_isDot 24 = .ok (.iadd, 1) := by decide +kernel
theorem dX7_isDot_25 : decode cX7_isDot 25 = .ok (.baload, 1) := by decide +kernel
theorem dX7_isDot_26 : decode cX7_isDot 26 = .ok (.ifCond .eq 7, 3) := by decide +kernel
theorem dX7_isDot_29 : decode cX7_isDot 29 = .ok (.iconst 1, 1) := by decide +kernel
theorem dX7_isDot_30 : decode cX7_isDot 30 = .ok (.goto 4, 3) := by decide +kernel
theorem dX7_isDot_33 : decode cX7_isDot 33 = .ok (.iconst 0, 1) := by decide +kernel
theorem dX7_isDot_34 : decode cX7_isDot 34 = .ok (.ireturn, 1) := by decide +kernel
theorem dX7_inkOf_0 : decode cX7_inkOf 0 = .ok (.iconst 0, 1) := by decide +kernel
theorem dX7_inkOf_1 : decode cX7_inkOf 1 = .ok (.istore_n 1, 1) := by decide +kernel
theorem dX7_inkOf_2 : decode cX7_inkOf 2 = .ok (.iconst 0, 1) := by decide +kernel
theorem dX7_inkOf_3 : decode cX7_inkOf 3 = .ok (.istore_n 2, 1) := by decide +kernel
theorem dX7_inkOf_4 : decode cX7_inkOf 4 = .ok (.iload_n 2, 1) := by decide +kernel
theorem dX7_inkOf_5 : decode cX7_inkOf 5 = .ok (.sipush 768, 3) := by decide +kernel
theorem dX7_inkOf_8 : decode cX7_inkOf 8 = .ok (.if_icmp .ge 26, 3) := by decide +kernel
theorem dX7_inkOf_11 : decode cX7_inkOf 11 = .ok (.iload_n 1, 1) := by decide +kernel
theorem dX7_inkOf_12 : decode cX7_inkOf 12 = .ok (.aload_n 0, 1) := by decide +kernel
theorem dX7_inkOf_13 : decode cX7_inkOf 13 = .ok (.getfield 13, 3) := by decide +kernel
theorem dX7_inkOf_16 : decode cX7_inkOf 16 = .ok (.iload_n 2, 1) := by decide +kernel
theorem dX7_inkOf_17 : decode cX7_inkOf 17 = .ok (.baload, 1) := by decide +kernel
theorem dX7_inkOf_18 : decode cX7_inkOf 18 = .ok (.ifCond .eq 7, 3) := by decide +kernel
theorem dX7_inkOf_21 : decode cX7_inkOf 21 = .ok (.iconst 1, 1) := by decide +kernel
theorem dX7_inkOf_22 : decode cX7_inkOf 22 = .ok (.goto 4, 3) := by decide +kernel
theorem dX7_inkOf_25 : decode cX7_inkOf 25 = .ok (.iconst 0, 1) := by decide +kernel
theorem dX7_inkOf_26 : decode cX7_inkOf 26 = .ok (.iadd, 1) := by decide +kernel
theorem dX7_inkOf_27 : decode cX7_inkOf 27 = .ok (.istore_n 1, 1) := by decide +kernel
theorem dX7_inkOf_28 : decode cX7_inkOf 28 = .ok (.iinc 2 1, 3) := by decide +kernel
theorem dX7_inkOf_31 : decode cX7_inkOf 31 = .ok (.goto (-27), 3) := by decide +kernel
theorem dX7_inkOf_34 : decode cX7_inkOf 34 = .ok (.iload_n 1, 1) := by decide +kernel
theorem dX7_inkOf_35 : decode cX7_inkOf 35 = .ok (.ireturn, 1) := by decide +kernel
theorem dX7_page_0 : decode cX7_page 0 = .ok (.iload_n 1, 1) := by decide +kernel
theorem dX7_page_1 : decode cX7_page 1 = .ok (.iconst 1, 1) := by decide +kernel
theorem dX7_page_2 : decode cX7_page 2 = .ok (.bipush 24, 2) := by decide +kernel
theorem dX7_page_4 : decode cX7_page 4 = .ok (.invokestatic 66, 3) := by decide +kernel
theorem dX7_page_7 : decode cX7_page 7 = .ok (.ifCond .ne 6, 3) := by decide +kernel
theorem dX7_page_10 : decode cX7_page 10 = .ok (.bipush (-2), 2) := by decide +kernel
theorem dX7_page_12 : decode cX7_page 12 = .ok (.ireturn, 1) := by decide +kernel
theorem dX7_page_13 : decode cX7_page 13 = .ok (.aload_n 0, 1) := by decide +kernel
theorem dX7_page_14 : decode cX7_page 14 = .ok (.invokevirtual 77, 3) := by decide +kernel
theorem dX7_page_17 : decode cX7_page 17 = .ok (.istore_n 2, 1) := by decide +kernel
theorem dX7_page_18 : decode cX7_page 18 = .ok (.iconst 0, 1) := by decide +kernel
theorem dX7_page_19 : decode cX7_page 19 = .ok (.istore_n 3, 1) := by decide +kernel
theorem dX7_page_20 : decode cX7_page 20 = .ok (.iload_n 3, 1) := by decide +kernel
theorem dX7_page_21 : decode cX7_page 21 = .ok (.sipush 768, 3) := by decide +kernel
theorem dX7_page_24 : decode cX7_page 24 = .ok (.if_icmp .ge 16, 3) := by decide +kernel
theorem dX7_page_27 : decode cX7_page 27 = .ok (.aload_n 0, 1) := by decide +kernel
theorem dX7_page_28 : decode cX7_page 28 = .ok (.getfield 13, 3) := by decide +kernel
theorem dX7_page_31 : decode cX7_page 31 = .ok (.iload_n 3, 1) := by decide +kernel
theorem dX7_page_32 : decode cX7_page 32 = .ok (.iconst 0, 1) := by decide +kernel
theorem dX7_page_33 : decode cX7_page 33 = .ok (.bastore, 1) := by decide +kernel
theorem dX7_page_34 : decode cX7_page 34 = .ok (.iinc 3 1, 3) := by decide +kernel
theorem dX7_page_37 : decode cX7_page 37 = .ok (.goto (-17), 3) := by decide +kernel
theorem dX7_page_40 : decode cX7_page 40 = .ok (.aload_n 0, 1) := by decide +kernel
theorem dX7_page_41 : decode cX7_page 41 = .ok (.iload_n 1, 1) := by decide +kernel
theorem dX7_page_42 : decode cX7_page 42 = .ok (.putfield 7, 3) := by decide +kernel
theorem dX7_page_45 : decode cX7_page 45 = .ok (.aload_n 0, 1) := by decide +kernel
theorem dX7_page_46 : decode cX7_page 46 = .ok (.iconst 0, 1) := by decide +kernel
theorem dX7_page_47 : decode cX7_page 47 = .ok (.putfield 81, 3) := by decide +kernel
theorem dX7_page_50 : decode cX7_page 50 = .ok (.iload_n 2, 1) := by decide +kernel
theorem dX7_page_51 : decode cX7_page 51 = .ok (.ireturn, 1) := by decide +kernel
theorem dX7_dot_0 : decode cX7_dot 0 = .ok (.aload_n 0, 1) := by decide +kernel
theorem dX7_dot_1 : decode cX7_dot 1 = .ok (.iload_n 1, 1) := by decide +kernel
theorem dX7_dot_2 : decode cX7_dot 2 = .ok (.invokevirtual 70, 3) := by decide +kernel
theorem dX7_dot_5 : decode cX7_dot 5 = .ok (.ifCond .eq 10, 3) := by decide +kernel
theorem dX7_dot_8 : decode cX7_dot 8 = .ok (.iload_n 2, 1) := by decide +kernel
theorem dX7_dot_9 : decode cX7_dot 9 = .ok (.invokestatic 74, 3) := by decide +kernel
theorem dX7_dot_12 : decode cX7_dot 12 = .ok (.ifCond .ne 5, 3) := by decide +kernel
theorem dX7_dot_15 : decode cX7_dot 15 = .ok (.iconst (-1), 1) := by decide +kernel
theorem dX7_dot_16 : decode cX7_dot 16 = .ok (.ireturn, 1) := by decide +kernel
theorem dX7_dot_17 : decode cX7_dot 17 = .ok (.iload_n 3, 1) := by decide +kernel
theorem dX7_dot_18 : decode cX7_dot 18 = .ok (.iconst 0, 1) := by decide +kernel
theorem dX7_dot_19 : decode cX7_dot 19 = .ok (.iconst 1, 1) := by decide +kernel
theorem dX7_dot_20 : decode cX7_dot 20 = .ok (.invokestatic 66, 3) := by decide +kernel
theorem dX7_dot_23 : decode cX7_dot 23 = .ok (.ifCond .ne 6, 3) := by decide +kernel
theorem dX7_dot_26 : decode cX7_dot 26 = .ok (.bipush (-2), 2) := by decide +kernel
theorem dX7_dot_28 : decode cX7_dot 28 = .ok (.ireturn, 1) := by decide +kernel
theorem dX7_dot_29 : decode cX7_dot 29 = .ok (.aload_n 0, 1) := by decide +kernel
theorem dX7_dot_30 : decode cX7_dot 30 = .ok (.getfield 13, 3) := by decide +kernel
theorem dX7_dot_33 : decode cX7_dot 33 = .ok (.bipush 32, 2) := by decide +kernel
theorem dX7_dot_35 : decode cX7_dot 35 = .ok (.iload_n 1, 1) := by decide +kernel
theorem dX7_dot_36 : decode cX7_dot 36 = .ok (.imul, 1) := by decide +kernel
theorem dX7_dot_37 : decode cX7_dot 37 = .ok (.iload_n 2, 1) := by decide +kernel
end
section
theorem dX7_dot_38 : decode cX7_dot 38 = .ok (.iadd, 1) := by decide +kernel
theorem dX7_dot_39 : decode cX7_dot 39 = .ok (.baload, 1) := by decide +kernel
theorem dX7_dot_40 : decode cX7_dot 40 = .ok (.ifCond .eq 7, 3) := by decide +kernel
theorem dX7_dot_43 : decode cX7_dot 43 = .ok (.iconst 1, 1) := by decide +kernel
theorem dX7_dot_44 : decode cX7_dot 44 = .ok (.goto 4, 3) := by decide +kernel
theorem dX7_dot_47 : decode cX7_dot 47 = .ok (.iconst 0, 1) := by decide +kernel
theorem dX7_dot_48 : decode cX7_dot 48 = .ok (.istore 4, 2) := by decide +kernel
theorem dX7_dot_50 : decode cX7_dot 50 = .ok (.aload_n 0, 1) := by decide +kernel
theorem dX7_dot_51 : decode cX7_dot 51 = .ok (.getfield 13, 3) := by decide +kernel
theorem dX7_dot_54 : decode cX7_dot 54 = .ok (.bipush 32, 2) := by decide +kernel
theorem dX7_dot_56 : decode cX7_dot 56 = .ok (.iload_n 1, 1) := by decide +kernel
theorem dX7_dot_57 : decode cX7_dot 57 = .ok (.imul, 1) := by decide +kernel
theorem dX7_dot_58 : decode cX7_dot 58 = .ok (.iload_n 2, 1) := by decide +kernel
theorem dX7_dot_59 : decode cX7_dot 59 = .ok (.iadd, 1) := by decide +kernel
theorem dX7_dot_60 : decode cX7_dot 60 = .ok (.iload_n 3, 1) := by decide +kernel
theorem dX7_dot_61 : decode cX7_dot 61 = .ok (.iconst 1, 1) := by decide +kernel
theorem dX7_dot_62 : decode cX7_dot 62 = .ok (.if_icmp .ne 7, 3) := by decide +kernel
theorem dX7_dot_65 : decode cX7_dot 65 = .ok (.iconst 1, 1) := by decide +kernel
theorem dX7_dot_66 : decode cX7_dot 66 = .ok (.goto 4, 3) := by decide +kernel
theorem dX7_dot_69 : decode cX7_dot 69 = .ok (.iconst 0, 1) := by decide +kernel
theorem dX7_dot_70 : decode cX7_dot 70 = .ok (.bastore, 1) := by decide +kernel
theorem dX7_dot_71 : decode cX7_dot 71 = .ok (.aload_n 0, 1) := by decide +kernel
theorem dX7_dot_72 : decode cX7_dot 72 = .ok (.iconst 0, 1) := by decide +kernel
theorem dX7_dot_73 : decode cX7_dot 73 = .ok (.putfield 81, 3) := by decide +kernel
theorem dX7_dot_76 : decode cX7_dot 76 = .ok (.iload 4, 2) := by decide +kernel
theorem dX7_dot_78 : decode cX7_dot 78 = .ok (.ireturn, 1) := by decide +kernel
theorem dX7_column_0 : decode cX7_column 0 = .ok (.aload_n 0, 1) := by decide +kernel
theorem dX7_column_1 : decode cX7_column 1 = .ok (.iload_n 1, 1) := by decide +kernel
theorem dX7_column_2 : decode cX7_column 2 = .ok (.invokevirtual 70, 3) := by decide +kernel
theorem dX7_column_5 : decode cX7_column 5 = .ok (.ifCond .ne 7, 3) := by decide +kernel
theorem dX7_column_8 : decode cX7_column 8 = .ok (.ldc2_w 84, 3) := by decide +kernel
theorem dX7_column_11 : decode cX7_column 11 = .ok (.lreturn, 1) := by decide +kernel
theorem dX7_column_12 : decode cX7_column 12 = .ok (.lconst 0, 1) := by decide +kernel
theorem dX7_column_13 : decode cX7_column 13 = .ok (.lstore_n 2, 1) := by decide +kernel
theorem dX7_column_14 : decode cX7_column 14 = .ok (.bipush 31, 2) := by decide +kernel
theorem dX7_column_16 : decode cX7_column 16 = .ok (.istore 4, 2) := by decide +kernel
theorem dX7_column_18 : decode cX7_column 18 = .ok (.iload 4, 2) := by decide +kernel
theorem dX7_column_20 : decode cX7_column 20 = .ok (.ifCond .lt 31, 3) := by decide +kernel
theorem dX7_column_23 : decode cX7_column 23 = .ok (.ldc2_w 86, 3) := by decide +kernel
theorem dX7_column_26 : decode cX7_column 26 = .ok (.lload_n 2, 1) := by decide +kernel
theorem dX7_column_27 : decode cX7_column 27 = .ok (.lmul, 1) := by decide +kernel
theorem dX7_column_28 : decode cX7_column 28 = .ok (.aload_n 0, 1) := by decide +kernel
theorem dX7_column_29 : decode cX7_column 29 = .ok (.iload_n 1, 1) := by decide +kernel
theorem dX7_column_30 : decode cX7_column 30 = .ok (.iload 4, 2) := by decide +kernel
theorem dX7_column_32 : decode cX7_column 32 = .ok (.invokevirtual 88, 3) := by decide +kernel
theorem dX7_column_35 : decode cX7_column 35 = .ok (.ifCond .eq 7, 3) := by decide +kernel
theorem dX7_column_38 : decode cX7_column 38 = .ok (.lconst 1, 1) := by decide +kernel
theorem dX7_column_39 : decode cX7_column 39 = .ok (.goto 4, 3) := by decide +kernel
theorem dX7_column_42 : decode cX7_column 42 = .ok (.lconst 0, 1) := by decide +kernel
theorem dX7_column_43 : decode cX7_column 43 = .ok (.ladd, 1) := by decide +kernel
theorem dX7_column_44 : decode cX7_column 44 = .ok (.lstore_n 2, 1) := by decide +kernel
theorem dX7_column_45 : decode cX7_column 45 = .ok (.iinc 4 (-1), 3) := by decide +kernel
theorem dX7_column_48 : decode cX7_column 48 = .ok (.goto (-30), 3) := by decide +kernel
theorem dX7_column_51 : decode cX7_column 51 = .ok (.lload_n 2, 1) := by decide +kernel
theorem dX7_column_52 : decode cX7_column 52 = .ok (.lreturn, 1) := by decide +kernel
theorem dX7_isCard_0 : decode cX7_isCard 0 = .ok (.iload_n 0, 1) := by decide +kernel
theorem dX7_isCard_1 : decode cX7_isCard 1 = .ok (.iconst 0, 1) := by decide +kernel
theorem dX7_isCard_2 : decode cX7_isCard 2 = .ok (.iconst 3, 1) := by decide +kernel
theorem dX7_isCard_3 : decode cX7_isCard 3 = .ok (.invokestatic 66, 3) := by decide +kernel
theorem dX7_isCard_6 : decode cX7_isCard 6 = .ok (.ireturn, 1) := by decide +kernel
theorem dX7_cut_0 : decode cX7_cut 0 = .ok (.iload_n 0, 1) := by decide +kernel
theorem dX7_cut_1 : decode cX7_cut 1 = .ok (.tableswitch 38 0 2 #[27, 30, 35], 27) := by decide +kernel
theorem dX7_cut_28 : decode cX7_cut 28 = .ok (.iload_n 1, 1) := by decide +kernel
theorem dX7_cut_29 : decode cX7_cut 29 = .ok (.i2b, 1) := by decide +kernel
theorem dX7_cut_30 : decode cX7_cut 30 = .ok (.ireturn, 1) := by decide +kernel
theorem dX7_cut_31 : decode cX7_cut 31 = .ok (.iload_n 1, 1) := by decide +kernel
theorem dX7_cut_32 : decode cX7_cut 32 = .ok (.ldc 92, 2) := by decide +kernel
theorem dX7_cut_34 : decode cX7_cut 34 = .ok (.iand, 1) := by decide +kernel
theorem dX7_cut_35 : decode cX7_cut 35 = .ok (.ireturn, 1) := by decide +kernel
theorem dX7_cut_36 : decode cX7_cut 36 = .ok (.iload_n 1, 1) := by decide +kernel
theorem dX7_cut_37 : decode cX7_cut 37 = .ok (.i2s, 1) := by decide +kernel
theorem dX7_cut_38 : decode cX7_cut 38 = .ok (.ireturn, 1) := by decide +kernel
theorem dX7_cut_39 : decode cX7_cut 39 = .ok (.iload_n 1, 1) := by decide +kernel
theorem dX7_cut_40 : decode cX7_cut 40 = .ok (.ifCond .ne 7, 3) := by decide +kernel
theorem dX7_cut_43 : decode cX7_cut 43 = .ok (.iconst 0, 1) := by decide +kernel
theorem dX7_cut_44 : decode cX7_cut 44 = .ok (.goto 4, 3) := by decide +kernel
theorem dX7_cut_47 : decode cX7_cut 47 = .ok (.iconst 1, 1) := by decide +kernel
theorem dX7_cut_48 : decode cX7_cut 48 = .ok (.ireturn, 1) := by decide +kernel
theorem dX7_row_0 : decode cX7_row 0 = .ok (.iload_n 1, 1) := by decide +kernel
theorem dX7_row_1 : decode cX7_row 1 = .ok (.invokestatic 74, 3) := by decide +kernel
theorem dX7_row_4 : decode cX7_row 4 = .ok (.ifCond .eq 10, 3) := by decide +kernel
theorem dX7_row_7 : decode cX7_row 7 = .ok (.iload_n 2, 1) := by decide +kernel
theorem dX7_row_8 : decode cX7_row 8 = .ok (.invokestatic 93, 3) := by decide +kernel
theorem dX7_row_11 : decode cX7_row 11 = .ok (.ifCond .ne 9, 3) := by decide +kernel
theorem dX7_row_14 : decode cX7_row 14 = .ok (.aload_n 0, 1) := by decide +kernel
theorem dX7_row_15 : decode cX7_row 15 = .ok (.iconst (-1), 1) := by decide +kernel
theorem dX7_row_16 : decode cX7_row 16 = .ok (.invokevirtual 96, 3) := by decide +kernel
theorem dX7_row_19 : decode cX7_row 19 = .ok (.ireturn, 1) := by decide +kernel
theorem dX7_row_20 : decode cX7_row 20 = .ok (.aload_n 0, 1) := by decide +kernel
theorem dX7_row_21 : decode cX7_row 21 = .ok (.getfield 17, 3) := by decide +kernel
theorem dX7_row_24 : decode cX7_row 24 = .ok (.iload_n 2, 1) := by decide +kernel
theorem dX7_row_25 : decode cX7_row 25 = .ok (.iaload, 1) := by decide +kernel
theorem dX7_row_26 : decode cX7_row 26 = .ok (.bipush (-9), 2) := by decide +kernel
theorem dX7_row_28 : decode cX7_row 28 = .ok (.if_icmp .ne 9, 3) := by decide +kernel
theorem dX7_row_31 : decode cX7_row 31 = .ok (.aload_n 0, 1) := by decide +kernel
theorem dX7_row_32 : decode cX7_row 32 = .ok (.iconst 1, 1) := by decide +kernel
theorem dX7_row_33 : decode cX7_row 33 = .ok (.invokevirtual 100, 3) := by decide +kernel
theorem dX7_row_36 : decode cX7_row 36 = .ok (.ireturn, 1) := by decide +kernel
theorem dX7_row_37 : decode cX7_row 37 = .ok (.iconst 0, 1) := by decide +kernel
theorem dX7_row_38 : decode cX7_row 38 = .ok (.istore_n 3, 1) := by decide +kernel
theorem dX7_row_39 : decode cX7_row 39 = .ok (.iconst 0, 1) := by decide +kernel
theorem dX7_row_40 : decode cX7_row 40 = .ok (.istore 4, 2) := by decide +kernel
theorem dX7_row_42 : decode cX7_row 42 = .ok (.iload 4, 2) := by decide +kernel
theorem dX7_row_44 : decode cX7_row 44 = .ok (.aload_n 0, 1) := by decide +kernel
theorem dX7_row_45 : decode cX7_row 45 = .ok (.getfield 7, 3) := by decide +kernel
theorem dX7_row_48 : decode cX7_row 48 = .ok (.if_icmp .ge 69, 3) := by decide +kernel
theorem dX7_row_51 : decode cX7_row 51 = .ok (.iload 4, 2) := by decide +kernel
theorem dX7_row_53 : decode cX7_row 53 = .ok (.aload_n 0, 1) := by decide +kernel
theorem dX7_row_54 : decode cX7_row 54 = .ok (.getfield 21, 3) := by decide +kernel
theorem dX7_row_57 : decode cX7_row 57 = .ok (.iload_n 2, 1) := by decide +kernel
theorem dX7_row_58 : decode cX7_row 58 = .ok (.iaload, 1) := by decide +kernel
theorem dX7_row_59 : decode cX7_row 59 = .ok (.if_icmp .ge 22, 3) := by decide +kernel
theorem dX7_row_62 : decode cX7_row 62 = .ok (.aload_n 0, 1) := by decide +kernel
theorem dX7_row_63 : decode cX7_row 63 = .ok (.getfield 24, 3) := by decide +kernel
theorem dX7_row_66 : decode cX7_row 66 = .ok (.bipush 32, 2) := by decide +kernel
theorem dX7_row_68 : decode cX7_row 68 = .ok (.iload_n 2, 1) := by decide +kernel
theorem dX7_row_69 : decode cX7_row 69 = .ok (.imul, 1) := by decide +kernel
theorem dX7_row_70 : decode cX7_row 70 = .ok (.iload 4, 2) := by decide +kernel
theorem dX7_row_72 : decode cX7_row 72 = .ok (.iadd, 1) := by decide +kernel
theorem dX7_row_73 : decode cX7_row 73 = .ok (.iaload, 1) := by decide +kernel
theorem dX7_row_74 : decode cX7_row 74 = .ok (.ifCond .eq 7, 3) := by decide +kernel
theorem dX7_row_77 : decode cX7_row 77 = .ok (.iconst 1, 1) := by decide +kernel
theorem dX7_row_78 : decode cX7_row 78 = .ok (.goto 4, 3) := by decide +kernel
theorem dX7_row_81 : decode cX7_row 81 = .ok (.iconst 0, 1) := by decide +kernel
theorem dX7_row_82 : decode cX7_row 82 = .ok (.istore 5, 2) := by decide +kernel
theorem dX7_row_84 : decode cX7_row 84 = .ok (.aload_n 0, 1) := by decide +kernel
theorem dX7_row_85 : decode cX7_row 85 = .ok (.getfield 13, 3) := by decide +kernel
theorem dX7_row_88 : decode cX7_row 88 = .ok (.bipush 32, 2) := by decide +kernel
theorem dX7_row_90 : decode cX7_row 90 = .ok (.iload 4, 2) := by decide +kernel
theorem dX7_row_92 : decode cX7_row 92 = .ok (.imul, 1) := by decide +kernel
theorem dX7_row_93 : decode cX7_row 93 = .ok (.iload_n 1, 1) := by decide +kernel
theorem dX7_row_94 : decode cX7_row 94 = .ok (.iadd, 1) := by decide +kernel
theorem dX7_row_95 : decode cX7_row 95 = .ok (.iload 5, 2) := by decide +kernel
theorem dX7_row_97 : decode cX7_row 97 = .ok (.bastore, 1) := by decide +kernel
theorem dX7_row_98 : decode cX7_row 98 = .ok (.iload_n 3, 1) := by decide +kernel
theorem dX7_row_99 : decode cX7_row 99 = .ok (.iload 5, 2) := by decide +kernel
theorem dX7_row_101 : decode cX7_row 101 = .ok (.ifCond .eq 7, 3) := by decide +kernel
theorem dX7_row_104 : decode cX7_row 104 = .ok (.iconst 1, 1) := by decide +kernel
theorem dX7_row_105 : decode cX7_row 105 = .ok (.goto 4, 3) := by decide +kernel
theorem dX7_row_108 : decode cX7_row 108 = .ok (.iconst 0, 1) := by decide +kernel
theorem dX7_row_109 : decode cX7_row 109 = .ok (.iadd, 1) := by decide +kernel
theorem dX7_row_110 : decode cX7_row 110 = .ok (.istore_n 3, 1) := by decide +kernel
theorem dX7_row_111 : decode cX7_row 111 = .ok (.iinc 4 1, 3) := by decide +kernel
theorem dX7_row_114 : decode cX7_row 114 = .ok (.goto (-72), 3) := by decide +kernel
theorem dX7_row_117 : decode cX7_row 117 = .ok (.aload_n 0, 1) := by decide +kernel
theorem dX7_row_118 : decode cX7_row 118 = .ok (.iconst 0, 1) := by decide +kernel
theorem dX7_row_119 : decode cX7_row 119 = .ok (.putfield 81, 3) := by decide +kernel
theorem dX7_row_122 : decode cX7_row 122 = .ok (.aload_n 0, 1) := by decide +kernel
theorem dX7_row_123 : decode cX7_row 123 = .ok (.iload_n 3, 1) := by decide +kernel
theorem dX7_row_124 : decode cX7_row 124 = .ok (.invokevirtual 96, 3) := by decide +kernel
theorem dX7_row_127 : decode cX7_row 127 = .ok (.ireturn, 1) := by decide +kernel
theorem dX7_clears_0 : decode cX7_clears 0 = .ok (.aload_n 0, 1) := by decide +kernel
theorem dX7_clears_1 : decode cX7_clears 1 = .ok (.getfield 17, 3) := by decide +kernel
theorem dX7_clears_4 : decode cX7_clears 4 = .ok (.iload_n 1, 1) := by decide +kernel
theorem dX7_clears_5 : decode cX7_clears 5 = .ok (.iload_n 2, 1) := by decide +kernel
theorem dX7_clears_6 : decode cX7_clears 6 = .ok (.iastore, 1) := by decide +kernel
theorem dX7_clears_7 : decode cX7_clears 7 = .ok (.aload_n 0, 1) := by decide +kernel
theorem dX7_clears_8 : decode cX7_clears 8 = .ok (.getfield 21, 3) := by decide +kernel
theorem dX7_clears_11 : decode cX7_clears 11 = .ok (.iload_n 1, 1) := by decide +kernel
theorem dX7_clears_12 : decode cX7_clears 12 = .ok (.iload_n 3, 1) := by decide +kernel
theorem dX7_clears_13 : decode cX7_clears 13 = .ok (.iastore, 1) := by decide +kernel
theorem dX7_clears_14 : decode cX7_clears 14 = .ok (.iconst 0, 1) := by decide +kernel
theorem dX7_clears_15 : decode cX7_clears 15 = .ok (.istore 4, 2) := by decide +kernel
theorem dX7_clears_17 : decode cX7_clears 17 = .ok (.iload 4, 2) := by decide +kernel
theorem dX7_clears_19 : decode cX7_clears 19 = .ok (.bipush 32, 2) := by decide +kernel
theorem dX7_clears_21 : decode cX7_clears 21 = .ok (.if_icmp .ge 22, 3) := by decide +kernel
theorem dX7_clears_24 : decode cX7_clears 24 = .ok (.aload_n 0, 1) := by decide +kernel
theorem dX7_clears_25 : decode cX7_clears 25 = .ok (.getfield 24, 3) := by decide +kernel
theorem dX7_clears_28 : decode cX7_clears 28 = .ok (.bipush 32, 2) := by decide +kernel
theorem dX7_clears_30 : decode cX7_clears 30 = .ok (.iload_n 1, 1) := by decide +kernel
theorem dX7_clears_31 : decode cX7_clears 31 = .ok (.imul, 1) := by decide +kernel
theorem dX7_clears_32 : decode cX7_clears 32 = .ok (.iload 4, 2) := by decide +kernel
theorem dX7_clears_34 : decode cX7_clears 34 = .ok (.iadd, 1) := by decide +kernel
theorem dX7_clears_35 : decode cX7_clears 35 = .ok (.iconst 0, 1) := by decide +kernel
theorem dX7_clears_36 : decode cX7_clears 36 = .ok (.iastore, 1) := by decide +kernel
theorem dX7_clears_37 : decode cX7_clears 37 = .ok (.iinc 4 1, 3) := by decide +kernel
theorem dX7_clears_40 : decode cX7_clears 40 = .ok (.goto (-23), 3) := by decide +kernel
theorem dX7_clears_43 : decode cX7_clears 43 = .ok (.return_, 1) := by decide +kernel
theorem dX7_take_0 : decode cX7_take 0 = .ok (.iload_n 1, 1) := by decide +kernel
theorem dX7_take_1 : decode cX7_take 1 = .ok (.invokestatic 93, 3) := by decide +kernel
theorem dX7_take_4 : decode cX7_take 4 = .ok (.ifCond .eq 10, 3) := by decide +kernel
theorem dX7_take_7 : decode cX7_take 7 = .ok (.iload_n 2, 1) := by decide +kernel
theorem dX7_take_8 : decode cX7_take 8 = .ok (.invokestatic 74, 3) := by decide +kernel
theorem dX7_take_11 : decode cX7_take 11 = .ok (.ifCond .ne 5, 3) := by decide +kernel
theorem dX7_take_14 : decode cX7_take 14 = .ok (.iconst (-1), 1) := by decide +kernel
theorem dX7_take_15 : decode cX7_take 15 = .ok (.ireturn, 1) := by decide +kernel
theorem dX7_take_16 : decode cX7_take 16 = .ok (.aload_n 0, 1) := by decide +kernel
theorem dX7_take_17 : decode cX7_take 17 = .ok (.iload_n 1, 1) := by decide +kernel
theorem dX7_take_18 : decode cX7_take 18 = .ok (.iconst 3, 1) := by decide +kernel
theorem dX7_take_19 : decode cX7_take 19 = .ok (.aload_n 0, 1) := by decide +kernel
theorem dX7_take_20 : decode cX7_take 20 = .ok (.getfield 7, 3) := by decide +kernel
theorem dX7_take_23 : decode cX7_take 23 = .ok (.invokevirtual 103, 3) := by decide +kernel
theorem dX7_take_26 : decode cX7_take 26 = .ok (.iconst 0, 1) := by decide +kernel
theorem dX7_take_27 : decode cX7_take 27 = .ok (.istore_n 3, 1) := by decide +kernel
theorem dX7_take_28 : decode cX7_take 28 = .ok (.iconst 0, 1) := by decide +kernel
theorem dX7_take_29 : decode cX7_take 29 = .ok (.istore 4, 2) := by decide +kernel
theorem dX7_take_31 : decode cX7_take 31 = .ok (.iload 4, 2) := by decide +kernel
theorem dX7_take_33 : decode cX7_take 33 = .ok (.aload_n 0, 1) := by decide +kernel
theorem dX7_take_34 : decode cX7_take 34 = .ok (.getfield 7, 3) := by decide +kernel
theorem dX7_take_37 : decode cX7_take 37 = .ok (.if_icmp .ge 54, 3) := by decide +kernel
theorem dX7_take_40 : decode cX7_take 40 = .ok (.aload_n 0, 1) := by decide +kernel
theorem dX7_take_41 : decode cX7_take 41 = .ok (.getfield 24, 3) := by decide +kernel
theorem dX7_take_44 : decode cX7_take 44 = .ok (.bipush 32, 2) := by decide +kernel
theorem dX7_take_46 : decode cX7_take 46 = .ok (.iload_n 1, 1) := by decide +kernel
theorem dX7_take_47 : decode cX7_take 47 = .ok (.imul, 1) := by decide +kernel
theorem dX7_take_48 : decode cX7_take 48 = .ok (.iload 4, 2) := by decide +kernel
theorem dX7_take_50 : decode cX7_take 50 = .ok (.iadd, 1) := by decide +kernel
theorem dX7_take_51 : decode cX7_take 51 = .ok (.aload_n 0, 1) := by decide +kernel
theorem dX7_take_52 : decode cX7_take 52 = .ok (.iload 4, 2) := by decide +kernel
theorem dX7_take_54 : decode cX7_take 54 = .ok (.iload_n 2, 1) := by decide +kernel
theorem dX7_take_55 : decode cX7_take 55 = .ok (.invokevirtual 88, 3) := by decide +kernel
theorem dX7_take_58 : decode cX7_take 58 = .ok (.ifCond .eq 7, 3) := by decide +kernel
theorem dX7_take_61 : decode cX7_take 61 = .ok (.iconst 1, 1) := by decide +kernel
theorem dX7_take_62 : decode cX7_take 62 = .ok (.goto 4, 3) := by decide +kernel
theorem dX7_take_65 : decode cX7_take 65 = .ok (.iconst 0, 1) := by decide +kernel
theorem dX7_take_66 : decode cX7_take 66 = .ok (.iastore, 1) := by decide +kernel
theorem dX7_take_67 : decode cX7_take 67 = .ok (.iload_n 3, 1) := by decide +kernel
theorem dX7_take_68 : decode cX7_take 68 = .ok (.aload_n 0, 1) := by decide +kernel
theorem dX7_take_69 : decode cX7_take 69 = .ok (.iload 4, 2) := by decide +kernel
theorem dX7_take_71 : decode cX7_take 71 = .ok (.iload_n 2, 1) := by decide +kernel
theorem dX7_take_72 : decode cX7_take 72 = .ok (.invokevirtual 88, 3) := by decide +kernel
theorem dX7_take_75 : decode cX7_take 75 = .ok (.ifCond .eq 7, 3) := by decide +kernel
theorem dX7_take_78 : decode cX7_take 78 = .ok (.iconst 1, 1) := by decide +kernel
theorem dX7_take_79 : decode cX7_take 79 = .ok (.goto 4, 3) := by decide +kernel
theorem dX7_take_82 : decode cX7_take 82 = .ok (.iconst 0, 1) := by decide +kernel
theorem dX7_take_83 : decode cX7_take 83 = .ok (.iadd, 1) := by decide +kernel
theorem dX7_take_84 : decode cX7_take 84 = .ok (.istore_n 3, 1) := by decide +kernel
theorem dX7_take_85 : decode cX7_take 85 = .ok (.iinc 4 1, 3) := by decide +kernel
theorem dX7_take_88 : decode cX7_take 88 = .ok (.goto (-57), 3) := by decide +kernel
theorem dX7_take_91 : decode cX7_take 91 = .ok (.iload_n 3, 1) := by decide +kernel
theorem dX7_take_92 : decode cX7_take 92 = .ok (.ireturn, 1) := by decide +kernel
theorem dX7_blank_0 : decode cX7_blank 0 = .ok (.iload_n 1, 1) := by decide +kernel
theorem dX7_blank_1 : decode cX7_blank 1 = .ok (.invokestatic 93, 3) := by decide +kernel
theorem dX7_blank_4 : decode cX7_blank 4 = .ok (.ifCond .ne 9, 3) := by decide +kernel
theorem dX7_blank_7 : decode cX7_blank 7 = .ok (.aload_n 0, 1) := by decide +kernel
theorem dX7_blank_8 : decode cX7_blank 8 = .ok (.iconst (-1), 1) := by decide +kernel
theorem dX7_blank_9 : decode cX7_blank 9 = .ok (.invokevirtual 96, 3) := by decide +kernel
theorem dX7_blank_12 : decode cX7_blank 12 = .ok (.ireturn, 1) := by decide +kernel
theorem dX7_blank_13 : decode cX7_blank 13 = .ok (.iload_n 2, 1) := by decide +kernel
theorem dX7_blank_14 : decode cX7_blank 14 = .ok (.iconst 0, 1) := by decide +kernel
theorem dX7_blank_15 : decode cX7_blank 15 = .ok (.iconst 3, 1) := by decide +kernel
theorem dX7_blank_16 : decode cX7_blank 16 = .ok (.invokestatic 66, 3) := by decide +kernel
theorem dX7_blank_19 : decode cX7_blank 19 = .ok (.ifCond .eq 9, 3) := by decide +kernel
theorem dX7_blank_22 : decode cX7_blank 22 = .ok (.iload_n 3, 1) := by decide +kernel
theorem dX7_blank_23 : decode cX7_blank 23 = .ok (.bipush 32, 2) := by decide +kernel
theorem dX7_blank_25 : decode cX7_blank 25 = .ok (.if_icmp .le 10, 3) := by decide +kernel
theorem dX7_blank_28 : decode cX7_blank 28 = .ok (.aload_n 0, 1) := by decide +kernel
theorem dX7_blank_29 : decode cX7_blank 29 = .ok (.bipush (-2), 2) := by decide +kernel
theorem dX7_blank_31 : decode cX7_blank 31 = .ok (.invokevirtual 96, 3) := by decide +kernel
theorem dX7_blank_34 : decode cX7_blank 34 = .ok (.ireturn, 1) := by decide +kernel
theorem dX7_blank_35 : decode cX7_blank 35 = .ok (.iload_n 3, 1) := by decide +kernel
theorem dX7_blank_36 : decode cX7_blank 36 = .ok (.ifCond .ge 9, 3) := by decide +kernel
theorem dX7_blank_39 : decode cX7_blank 39 = .ok (.aload_n 0, 1) := by decide +kernel
theorem dX7_blank_40 : decode cX7_blank 40 = .ok (.iconst 4, 1) := by decide +kernel
theorem dX7_blank_41 : decode cX7_blank 41 = .ok (.invokevirtual 100, 3) := by decide +kernel
theorem dX7_blank_44 : decode cX7_blank 44 = .ok (.ireturn, 1) := by decide +kernel
theorem dX7_blank_45 : decode cX7_blank 45 = .ok (.aload_n 0, 1) := by decide +kernel
theorem dX7_blank_46 : decode cX7_blank 46 = .ok (.iload_n 1, 1) := by decide +kernel
theorem dX7_blank_47 : decode cX7_blank 47 = .ok (.iload_n 2, 1) := by decide +kernel
theorem dX7_blank_48 : decode cX7_blank 48 = .ok (.iload_n 3, 1) := by decide +kernel
theorem dX7_blank_49 : decode cX7_blank 49 = .ok (.invokevirtual 103, 3) := by decide +kernel
theorem dX7_blank_52 : decode cX7_blank 52 = .ok (.aload_n 0, 1) := by decide +kernel
theorem dX7_blank_53 : decode cX7_blank 53 = .ok (.iconst 1, 1) := by decide +kernel
theorem dX7_blank_54 : decode cX7_blank 54 = .ok (.invokevirtual 96, 3) := by decide +kernel
theorem dX7_blank_57 : decode cX7_blank 57 = .ok (.ireturn, 1) := by decide +kernel
theorem dX7_against_0 : decode cX7_against 0 = .ok (.aload_n 0, 1) := by decide +kernel
theorem dX7_against_1 : decode cX7_against 1 = .ok (.getfield 17, 3) := by decide +kernel
theorem dX7_against_4 : decode cX7_against 4 = .ok (.iload_n 1, 1) := by decide +kernel
theorem dX7_against_5 : decode cX7_against 5 = .ok (.iaload, 1) := by decide +kernel
theorem dX7_against_6 : decode cX7_against 6 = .ok (.bipush (-9), 2) := by decide +kernel
theorem dX7_against_8 : decode cX7_against 8 = .ok (.if_icmp .ne 7, 3) := by decide +kernel
theorem dX7_against_11 : decode cX7_against 11 = .ok (.iconst 1, 1) := by decide +kernel
theorem dX7_against_12 : decode cX7_against 12 = .ok (.goto 24, 3) := by decide +kernel
theorem dX7_against_15 : decode cX7_against 15 = .ok (.iload_n 2, 1) := by decide +kernel
theorem dX7_against_16 : decode cX7_against 16 = .ok (.iconst 0, 1) := by decide +kernel
theorem dX7_against_17 : decode cX7_against 17 = .ok (.aload_n 0, 1) := by decide +kernel
theorem dX7_against_18 : decode cX7_against 18 = .ok (.getfield 21, 3) := by decide +kernel
theorem dX7_against_21 : decode cX7_against 21 = .ok (.iload_n 1, 1) := by decide +kernel
theorem dX7_against_22 : decode cX7_against 22 = .ok (.iaload, 1) := by decide +kernel
theorem dX7_against_23 : decode cX7_against 23 = .ok (.iconst 1, 1) := by decide +kernel
theorem dX7_against_24 : decode cX7_against 24 = .ok (.isub, 1) := by decide +kernel
theorem dX7_against_25 : decode cX7_against 25 = .ok (.invokestatic 66, 3) := by decide +kernel
theorem dX7_against_28 : decode cX7_against 28 = .ok (.ifCond .eq 7, 3) := by decide +kernel
theorem dX7_against_31 : decode cX7_against 31 = .ok (.iconst 0, 1) := by decide +kernel
theorem dX7_against_32 : decode cX7_against 32 = .ok (.goto 4, 3) := by decide +kernel
theorem dX7_against_35 : decode cX7_against 35 = .ok (.iconst 3, 1) := by decide +kernel
theorem dX7_against_36 : decode cX7_against 36 = .ok (.ireturn, 1) := by decide +kernel
theorem dX7_put_0 : decode cX7_put 0 = .ok (.iload_n 1, 1) := by decide +kernel
theorem dX7_put_1 : decode cX7_put 1 = .ok (.invokestatic 93, 3) := by decide +kernel
theorem dX7_put_4 : decode cX7_put 4 = .ok (.ifCond .ne 9, 3) := by decide +kernel
theorem dX7_put_7 : decode cX7_put 7 = .ok (.aload_n 0, 1) := by decide +kernel
theorem dX7_put_8 : decode cX7_put 8 = .ok (.iconst (-1), 1) := by decide +kernel
theorem dX7_put_9 : decode cX7_put 9 = .ok (.invokevirtual 96, 3) := by decide +kernel
theorem dX7_put_12 : decode cX7_put 12 = .ok (.ireturn, 1) := by decide +kernel
theorem dX7_put_13 : decode cX7_put 13 = .ok (.aload_n 0, 1) := by decide +kernel
theorem dX7_put_14 : decode cX7_put 14 = .ok (.iload_n 1, 1) := by decide +kernel
theorem dX7_put_15 : decode cX7_put 15 = .ok (.iload_n 2, 1) := by decide +kernel
theorem dX7_put_16 : decode cX7_put 16 = .ok (.invokevirtual 107, 3) := by decide +kernel
theorem dX7_put_19 : decode cX7_put 19 = .ok (.istore 4, 2) := by decide +kernel
theorem dX7_put_21 : decode cX7_put 21 = .ok (.iload 4, 2) := by decide +kernel
theorem dX7_put_23 : decode cX7_put 23 = .ok (.ifCond .eq 10, 3) := by decide +kernel
theorem dX7_put_26 : decode cX7_put 26 = .ok (.aload_n 0, 1) := by decide +kernel
theorem dX7_put_27 : decode cX7_put 27 = .ok (.iload 4, 2) := by decide +kernel
theorem dX7_put_29 : decode cX7_put 29 = .ok (.invokevirtual 100, 3) := by decide +kernel
theorem dX7_put_32 : decode cX7_put 32 = .ok (.ireturn, 1) := by decide +kernel
theorem dX7_put_33 : decode cX7_put 33 = .ok (.aload_n 0, 1) := by decide +kernel
theorem dX7_put_34 : decode cX7_put 34 = .ok (.getfield 24, 3) := by decide +kernel
theorem dX7_put_37 : decode cX7_put 37 = .ok (.bipush 32, 2) := by decide +kernel
theorem dX7_put_39 : decode cX7_put 39 = .ok (.iload_n 1, 1) := by decide +kernel
theorem dX7_put_40 : decode cX7_put 40 = .ok (.imul, 1) := by decide +kernel
theorem dX7_put_41 : decode cX7_put 41 = .ok (.iload_n 2, 1) := by decide +kernel
theorem dX7_put_42 : decode cX7_put 42 = .ok (.iadd, 1) := by decide +kernel
theorem dX7_put_43 : decode cX7_put 43 = .ok (.aload_n 0, 1) := by decide +kernel
theorem dX7_put_44 : decode cX7_put 44 = .ok (.getfield 17, 3) := by decide +kernel
theorem dX7_put_47 : decode cX7_put 47 = .ok (.iload_n 1, 1) := by decide +kernel
theorem dX7_put_48 : decode cX7_put 48 = .ok (.iaload, 1) := by decide +kernel
theorem dX7_put_49 : decode cX7_put 49 = .ok (.iload_n 3, 1) := by decide +kernel
theorem dX7_put_50 : decode cX7_put 50 = .ok (.invokestatic 111, 3) := by decide +kernel
theorem dX7_put_53 : decode cX7_put 53 = .ok (.iastore, 1) := by decide +kernel
theorem dX7_put_54 : decode cX7_put 54 = .ok (.aload_n 0, 1) := by decide +kernel
theorem dX7_put_55 : decode cX7_put 55 = .ok (.iconst 1, 1) := by decide +kernel
theorem dX7_put_56 : decode cX7_put 56 = .ok (.invokevirtual 96, 3) := by decide +kernel
theorem dX7_put_59 : decode cX7_put 59 = .ok (.ireturn, 1) := by decide +kernel
theorem dX7_get_0 : decode cX7_get 0 = .ok (.aload_n 0, 1) := by decide +kernel
theorem dX7_get_1 : decode cX7_get 1 = .ok (.iconst 0, 1) := by decide +kernel
theorem dX7_get_2 : decode cX7_get 2 = .ok (.putfield 63, 3) := by decide +kernel
theorem dX7_get_5 : decode cX7_get 5 = .ok (.iload_n 1, 1) := by decide +kernel
theorem dX7_get_6 : decode cX7_get 6 = .ok (.invokestatic 93, 3) := by decide +kernel
theorem dX7_get_9 : decode cX7_get 9 = .ok (.ifCond .ne 7, 3) := by decide +kernel
theorem dX7_get_12 : decode cX7_get 12 = .ok (.ldc2_w 84, 3) := by decide +kernel
theorem dX7_get_15 : decode cX7_get 15 = .ok (.lreturn, 1) := by decide +kernel
theorem dX7_get_16 : decode cX7_get 16 = .ok (.aload_n 0, 1) := by decide +kernel
theorem dX7_get_17 : decode cX7_get 17 = .ok (.aload_n 0, 1) := by decide +kernel
theorem dX7_get_18 : decode cX7_get 18 = .ok (.iload_n 1, 1) := by decide +kernel
theorem dX7_get_19 : decode cX7_get 19 = .ok (.iload_n 2, 1) := by decide +kernel
theorem dX7_get_20 : decode cX7_get 20 = .ok (.invokevirtual 107, 3) := by decide +kernel
theorem dX7_get_23 : decode cX7_get 23 = .ok (.putfield 63, 3) := by decide +kernel
theorem dX7_get_26 : decode cX7_get 26 = .ok (.aload_n 0, 1) := by decide +kernel
theorem dX7_get_27 : decode cX7_get 27 = .ok (.getfield 63, 3) := by decide +kernel
theorem dX7_get_30 : decode cX7_get 30 = .ok (.ifCond .ne 18, 3) := by decide +kernel
theorem dX7_get_33 : decode cX7_get 33 = .ok (.aload_n 0, 1) := by decide +kernel
theorem dX7_get_34 : decode cX7_get 34 = .ok (.getfield 24, 3) := by decide +kernel
theorem dX7_get_37 : decode cX7_get 37 = .ok (.bipush 32, 2) := by decide +kernel
theorem dX7_get_39 : decode cX7_get 39 = .ok (.iload_n 1, 1) := by decide +kernel
theorem dX7_get_40 : decode cX7_get 40 = .ok (.imul, 1) := by decide +kernel
theorem dX7_get_41 : decode cX7_get 41 = .ok (.iload_n 2, 1) := by decide +kernel
theorem dX7_get_42 : decode cX7_get 42 = .ok (.iadd, 1) := by decide +kernel
theorem dX7_get_43 : decode cX7_get 43 = .ok (.iaload, 1) := by decide +kernel
theorem dX7_get_44 : decode cX7_get 44 = .ok (.i2l, 1) := by decide +kernel
theorem dX7_get_45 : decode cX7_get 45 = .ok (.goto 6, 3) := by decide +kernel
theorem dX7_get_48 : decode cX7_get 48 = .ok (.ldc2_w 84, 3) := by decide +kernel
theorem dX7_get_51 : decode cX7_get 51 = .ok (.lreturn, 1) := by decide +kernel
theorem dX7_copy_0 : decode cX7_copy 0 = .ok (.iload_n 1, 1) := by decide +kernel
theorem dX7_copy_1 : decode cX7_copy 1 = .ok (.invokestatic 93, 3) := by decide +kernel
theorem dX7_copy_4 : decode cX7_copy 4 = .ok (.ifCond .eq 10, 3) := by decide +kernel
theorem dX7_copy_7 : decode cX7_copy 7 = .ok (.iload_n 3, 1) := by decide +kernel
theorem dX7_copy_8 : decode cX7_copy 8 = .ok (.invokestatic 93, 3) := by decide +kernel
theorem dX7_copy_11 : decode cX7_copy 11 = .ok (.ifCond .ne 9, 3) := by decide +kernel
theorem dX7_copy_14 : decode cX7_copy 14 = .ok (.aload_n 0, 1) := by decide +kernel
theorem dX7_copy_15 : decode cX7_copy 15 = .ok (.iconst (-1), 1) := by decide +kernel
theorem dX7_copy_16 : decode cX7_copy 16 = .ok (.invokevirtual 96, 3) := by decide +kernel
theorem dX7_copy_19 : decode cX7_copy 19 = .ok (.ireturn, 1) := by decide +kernel
theorem dX7_copy_20 : decode cX7_copy 20 = .ok (.aload_n 0, 1) := by decide +kernel
theorem dX7_copy_21 : decode cX7_copy 21 = .ok (.getfield 17, 3) := by decide +kernel
theorem dX7_copy_24 : decode cX7_copy 24 = .ok (.iload_n 1, 1) := by decide +kernel
theorem dX7_copy_25 : decode cX7_copy 25 = .ok (.iaload, 1) := by decide +kernel
theorem dX7_copy_26 : decode cX7_copy 26 = .ok (.bipush (-9), 2) := by decide +kernel
theorem dX7_copy_28 : decode cX7_copy 28 = .ok (.if_icmp .eq 14, 3) := by decide +kernel
theorem dX7_copy_31 : decode cX7_copy 31 = .ok (.aload_n 0, 1) := by decide +kernel
theorem dX7_copy_32 : decode cX7_copy 32 = .ok (.getfield 17, 3) := by decide +kernel
theorem dX7_copy_35 : decode cX7_copy 35 = .ok (.iload_n 3, 1) := by decide +kernel
theorem dX7_copy_36 : decode cX7_copy 36 = .ok (.iaload, 1) := by decide +kernel
theorem dX7_copy_37 : decode cX7_copy 37 = .ok (.bipush (-9), 2) := by decide +kernel
theorem dX7_copy_39 : decode cX7_copy 39 = .ok (.if_icmp .ne 9, 3) := by decide +kernel
theorem dX7_copy_42 : decode cX7_copy 42 = .ok (.aload_n 0, 1) := by decide +kernel
theorem dX7_copy_43 : decode cX7_copy 43 = .ok (.iconst 1, 1) := by decide +kernel
theorem dX7_copy_44 : decode cX7_copy 44 = .ok (.invokevirtual 100, 3) := by decide +kernel
theorem dX7_copy_47 : decode cX7_copy 47 = .ok (.ireturn, 1) := by decide +kernel
theorem dX7_copy_48 : decode cX7_copy 48 = .ok (.aload_n 0, 1) := by decide +kernel
theorem dX7_copy_49 : decode cX7_copy 49 = .ok (.getfield 17, 3) := by decide +kernel
theorem dX7_copy_52 : decode cX7_copy 52 = .ok (.iload_n 1, 1) := by decide +kernel
theorem dX7_copy_53 : decode cX7_copy 53 = .ok (.iaload, 1) := by decide +kernel
theorem dX7_copy_54 : decode cX7_copy 54 = .ok (.aload_n 0, 1) := by decide +kernel
theorem dX7_copy_55 : decode cX7_copy 55 = .ok (.getfield 17, 3) := by decide +kernel
theorem dX7_copy_58 : decode cX7_copy 58 = .ok (.iload_n 3, 1) := by decide +kernel
theorem dX7_copy_59 : decode cX7_copy 59 = .ok (.iaload, 1) := by decide +kernel
theorem dX7_copy_60 : decode cX7_copy 60 = .ok (.if_icmp .eq 9, 3) := by decide +kernel
theorem dX7_copy_63 : decode cX7_copy 63 = .ok (.aload_n 0, 1) := by decide +kernel
theorem dX7_copy_64 : decode cX7_copy 64 = .ok (.iconst 2, 1) := by decide +kernel
theorem dX7_copy_65 : decode cX7_copy 65 = .ok (.invokevirtual 100, 3) := by decide +kernel
theorem dX7_copy_68 : decode cX7_copy 68 = .ok (.ireturn, 1) := by decide +kernel
theorem dX7_copy_69 : decode cX7_copy 69 = .ok (.iload_n 2, 1) := by decide +kernel
theorem dX7_copy_70 : decode cX7_copy 70 = .ok (.ifCond .lt 61, 3) := by decide +kernel
theorem dX7_copy_73 : decode cX7_copy 73 = .ok (.iload 4, 2) := by decide +kernel
theorem dX7_copy_75 : decode cX7_copy 75 = .ok (.ifCond .lt 56, 3) := by decide +kernel
theorem dX7_copy_78 : decode cX7_copy 78 = .ok (.iload 5, 2) := by decide +kernel
theorem dX7_copy_80 : decode cX7_copy 80 = .ok (.ifCond .lt 51, 3) := by decide +kernel
theorem dX7_copy_83 : decode cX7_copy 83 = .ok (.iload_n 2, 1) := by decide +kernel
theorem dX7_copy_84 : decode cX7_copy 84 = .ok (.aload_n 0, 1) := by decide +kernel
theorem dX7_copy_85 : decode cX7_copy 85 = .ok (.getfield 21, 3) := by decide +kernel
theorem dX7_copy_88 : decode cX7_copy 88 = .ok (.iload_n 1, 1) := by decide +kernel
theorem dX7_copy_89 : decode cX7_copy 89 = .ok (.iaload, 1) := by decide +kernel
theorem dX7_copy_90 : decode cX7_copy 90 = .ok (.if_icmp .gt 41, 3) := by decide +kernel
theorem dX7_copy_93 : decode cX7_copy 93 = .ok (.iload 4, 2) := by decide +kernel
theorem dX7_copy_95 : decode cX7_copy 95 = .ok (.aload_n 0, 1) := by decide +kernel
theorem dX7_copy_96 : decode cX7_copy 96 = .ok (.getfield 21, 3) := by decide +kernel
theorem dX7_copy_99 : decode cX7_copy 99 = .ok (.iload_n 3, 1) := by decide +kernel
theorem dX7_copy_100 : decode cX7_copy 100 = .ok (.iaload, 1) := by decide +kernel
theorem dX7_copy_101 : decode cX7_copy 101 = .ok (.if_icmp .gt 30, 3) := by decide +kernel
theorem dX7_copy_104 : decode cX7_copy 104 = .ok (.iload 5, 2) := by decide +kernel
theorem dX7_copy_106 : decode cX7_copy 106 = .ok (.aload_n 0, 1) := by decide +kernel
theorem dX7_copy_107 : decode cX7_copy 107 = .ok (.getfield 21, 3) := by decide +kernel
theorem dX7_copy_110 : decode cX7_copy 110 = .ok (.iload_n 1, 1) := by decide +kernel
theorem dX7_copy_111 : decode cX7_copy 111 = .ok (.iaload, 1) := by decide +kernel
theorem dX7_copy_112 : decode cX7_copy 112 = .ok (.iload_n 2, 1) := by decide +kernel
theorem dX7_copy_113 : decode cX7_copy 113 = .ok (.isub, 1) := by decide +kernel
theorem dX7_copy_114 : decode cX7_copy 114 = .ok (.if_icmp .gt 17, 3) := by decide +kernel
theorem dX7_copy_117 : decode cX7_copy 117 = .ok (.iload 5, 2) := by decide +kernel
theorem dX7_copy_119 : decode cX7_copy 119 = .ok (.aload_n 0, 1) := by decide +kernel
theorem dX7_copy_120 : decode cX7_copy 120 = .ok (.getfield 21, 3) := by decide +kernel
theorem dX7_copy_123 : decode cX7_copy 123 = .ok (.iload_n 3, 1) := by decide +kernel
theorem dX7_copy_124 : decode cX7_copy 124 = .ok (.iaload, 1) := by decide +kernel
theorem dX7_copy_125 : decode cX7_copy 125 = .ok (.iload 4, 2) := by decide +kernel
theorem dX7_copy_127 : decode cX7_copy 127 = .ok (.isub, 1) := by decide +kernel
theorem dX7_copy_128 : decode cX7_copy 128 = .ok (.if_icmp .le 9, 3) := by decide +kernel
theorem dX7_copy_131 : decode cX7_copy 131 = .ok (.aload_n 0, 1) := by decide +kernel
theorem dX7_copy_132 : decode cX7_copy 132 = .ok (.iconst 3, 1) := by decide +kernel
theorem dX7_copy_133 : decode cX7_copy 133 = .ok (.invokevirtual 100, 3) := by decide +kernel
theorem dX7_copy_136 : decode cX7_copy 136 = .ok (.ireturn, 1) := by decide +kernel
theorem dX7_copy_137 : decode cX7_copy 137 = .ok (.iconst 0, 1) := by decide +kernel
theorem dX7_copy_138 : decode cX7_copy 138 = .ok (.istore 6, 2) := by decide +kernel
theorem dX7_copy_140 : decode cX7_copy 140 = .ok (.iload 6, 2) := by decide +kernel
theorem dX7_copy_142 : decode cX7_copy 142 = .ok (.iload 5, 2) := by decide +kernel
theorem dX7_copy_144 : decode cX7_copy 144 = .ok (.if_icmp .ge 58, 3) := by decide +kernel
theorem dX7_copy_147 : decode cX7_copy 147 = .ok (.iload_n 2, 1) := by decide +kernel
theorem dX7_copy_148 : decode cX7_copy 148 = .ok (.iload 4, 2) := by decide +kernel
theorem dX7_copy_150 : decode cX7_copy 150 = .ok (.if_icmp .ge 13, 3) := by decide +kernel
theorem dX7_copy_153 : decode cX7_copy 153 = .ok (.iload 5, 2) := by decide +kernel
theorem dX7_copy_155 : decode cX7_copy 155 = .ok (.iconst 1, 1) := by decide +kernel
theorem dX7_copy_156 : decode cX7_copy 156 = .ok (.isub, 1) := by decide +kernel
theorem dX7_copy_157 : decode cX7_copy 157 = .ok (.iload 6, 2) := by decide +kernel
theorem dX7_copy_159 : decode cX7_copy 159 = .ok (.isub, 1) := by decide +kernel
theorem dX7_copy_160 : decode cX7_copy 160 = .ok (.goto 5, 3) := by decide +kernel
theorem dX7_copy_163 : decode cX7_copy 163 = .ok (.iload 6, 2) := by decide +kernel
theorem dX7_copy_165 : decode cX7_copy 165 = .ok (.istore 7, 2) := by decide +kernel
theorem dX7_copy_167 : decode cX7_copy 167 = .ok (.aload_n 0, 1) := by decide +kernel
theorem dX7_copy_168 : decode cX7_copy 168 = .ok (.getfield 24, 3) := by decide +kernel
theorem dX7_copy_171 : decode cX7_copy 171 = .ok (.bipush 32, 2) := by decide +kernel
theorem dX7_copy_173 : decode cX7_copy 173 = .ok (.iload_n 3, 1) := by decide +kernel
theorem dX7_copy_174 : decode cX7_copy 174 = .ok (.imul, 1) := by decide +kernel
theorem dX7_copy_175 : decode cX7_copy 175 = .ok (.iload 4, 2) := by decide +kernel
theorem dX7_copy_177 : decode cX7_copy 177 = .ok (.iadd, 1) := by decide +kernel
theorem dX7_copy_178 : decode cX7_copy 178 = .ok (.iload 7, 2) := by decide +kernel
theorem dX7_copy_180 : decode cX7_copy 180 = .ok (.iadd, 1) := by decide +kernel
theorem dX7_copy_181 : decode cX7_copy 181 = .ok (.aload_n 0, 1) := by decide +kernel
theorem dX7_copy_182 : decode cX7_copy 182 = .ok (.getfield 24, 3) := by decide +kernel
theorem dX7_copy_185 : decode cX7_copy 185 = .ok (.bipush 32, 2) := by decide +kernel
theorem dX7_copy_187 : decode cX7_copy 187 = .ok (.iload_n 1, 1) := by decide +kernel
theorem dX7_copy_188 : decode cX7_copy 188 = .ok (.imul, 1) := by decide +kernel
theorem dX7_copy_189 : decode cX7_copy 189 = .ok (.iload_n 2, 1) := by decide +kernel
theorem dX7_copy_190 : decode cX7_copy 190 = .ok (.iadd, 1) := by decide +kernel
theorem dX7_copy_191 : decode cX7_copy 191 = .ok (.iload 7, 2) := by decide +kernel
theorem dX7_copy_193 : decode cX7_copy 193 = .ok (.iadd, 1) := by decide +kernel
theorem dX7_copy_194 : decode cX7_copy 194 = .ok (.iaload, 1) := by decide +kernel
theorem dX7_copy_195 : decode cX7_copy 195 = .ok (.iastore, 1) := by decide +kernel
theorem dX7_copy_196 : decode cX7_copy 196 = .ok (.iinc 6 1, 3) := by decide +kernel
theorem dX7_copy_199 : decode cX7_copy 199 = .ok (.goto (-59), 3) := by decide +kernel
theorem dX7_copy_202 : decode cX7_copy 202 = .ok (.aload_n 0, 1) := by decide +kernel
theorem dX7_copy_203 : decode cX7_copy 203 = .ok (.iload 5, 2) := by decide +kernel
theorem dX7_copy_205 : decode cX7_copy 205 = .ok (.invokevirtual 96, 3) := by decide +kernel
theorem dX7_copy_208 : decode cX7_copy 208 = .ok (.ireturn, 1) := by decide +kernel
theorem dX7_lose_0 : decode cX7_lose 0 = .ok (.iload_n 1, 1) := by decide +kernel
theorem dX7_lose_1 : decode cX7_lose 1 = .ok (.invokestatic 93, 3) := by decide +kernel
theorem dX7_lose_4 : decode cX7_lose 4 = .ok (.ifCond .ne 5, 3) := by decide +kernel
theorem dX7_lose_7 : decode cX7_lose 7 = .ok (.iconst (-1), 1) := by decide +kernel
theorem dX7_lose_8 : decode cX7_lose 8 = .ok (.ireturn, 1) := by decide +kernel
theorem dX7_lose_9 : decode cX7_lose 9 = .ok (.aload_n 0, 1) := by decide +kernel
theorem dX7_lose_10 : decode cX7_lose 10 = .ok (.getfield 17, 3) := by decide +kernel
theorem dX7_lose_13 : decode cX7_lose 13 = .ok (.iload_n 1, 1) := by decide +kernel
theorem dX7_lose_14 : decode cX7_lose 14 = .ok (.iaload, 1) := by decide +kernel
theorem dX7_lose_15 : decode cX7_lose 15 = .ok (.bipush (-9), 2) := by decide +kernel
theorem dX7_lose_17 : decode cX7_lose 17 = .ok (.if_icmp .ne 7, 3) := by decide +kernel
theorem dX7_lose_20 : decode cX7_lose 20 = .ok (.iconst 0, 1) := by decide +kernel
theorem dX7_lose_21 : decode cX7_lose 21 = .ok (.goto 4, 3) := by decide +kernel
theorem dX7_lose_24 : decode cX7_lose 24 = .ok (.iconst 1, 1) := by decide +kernel
theorem dX7_lose_25 : decode cX7_lose 25 = .ok (.istore_n 2, 1) := by decide +kernel
theorem dX7_lose_26 : decode cX7_lose 26 = .ok (.aload_n 0, 1) := by decide +kernel
theorem dX7_lose_27 : decode cX7_lose 27 = .ok (.getfield 17, 3) := by decide +kernel
theorem dX7_lose_30 : decode cX7_lose 30 = .ok (.iload_n 1, 1) := by decide +kernel
theorem dX7_lose_31 : decode cX7_lose 31 = .ok (.bipush (-9), 2) := by decide +kernel
theorem dX7_lose_33 : decode cX7_lose 33 = .ok (.iastore, 1) := by decide +kernel
theorem dX7_lose_34 : decode cX7_lose 34 = .ok (.iload_n 2, 1) := by decide +kernel
theorem dX7_lose_35 : decode cX7_lose 35 = .ok (.ireturn, 1) := by decide +kernel
theorem dX7_down_0 : decode cX7_down 0 = .ok (.iload_n 0, 1) := by decide +kernel
theorem dX7_down_1 : decode cX7_down 1 = .ok (.ifCond .lt 9, 3) := by decide +kernel
theorem dX7_down_4 : decode cX7_down 4 = .ok (.iload_n 0, 1) := by decide +kernel
theorem dX7_down_5 : decode cX7_down 5 = .ok (.iload_n 1, 1) := by decide +kernel
theorem dX7_down_6 : decode cX7_down 6 = .ok (.idiv, 1) := by decide +kernel
theorem dX7_down_7 : decode cX7_down 7 = .ok (.goto 11, 3) := by decide +kernel
theorem dX7_down_10 : decode cX7_down 10 = .ok (.iload_n 1, 1) := by decide +kernel
theorem dX7_down_11 : decode cX7_down 11 = .ok (.iconst 1, 1) := by decide +kernel
theorem dX7_down_12 : decode cX7_down 12 = .ok (.isub, 1) := by decide +kernel
theorem dX7_down_13 : decode cX7_down 13 = .ok (.iload_n 0, 1) := by decide +kernel
theorem dX7_down_14 : decode cX7_down 14 = .ok (.isub, 1) := by decide +kernel
theorem dX7_down_15 : decode cX7_down 15 = .ok (.iload_n 1, 1) := by decide +kernel
theorem dX7_down_16 : decode cX7_down 16 = .ok (.idiv, 1) := by decide +kernel
theorem dX7_down_17 : decode cX7_down 17 = .ok (.ineg, 1) := by decide +kernel
theorem dX7_down_18 : decode cX7_down 18 = .ok (.ireturn, 1) := by decide +kernel
theorem dX7_rounded_0 : decode cX7_rounded 0 = .ok (.iconst 2, 1) := by decide +kernel
theorem dX7_rounded_1 : decode cX7_rounded 1 = .ok (.iload_n 0, 1) := by decide +kernel
theorem dX7_rounded_2 : decode cX7_rounded 2 = .ok (.imul, 1) := by decide +kernel
theorem dX7_rounded_3 : decode cX7_rounded 3 = .ok (.iload_n 1, 1) := by decide +kernel
theorem dX7_rounded_4 : decode cX7_rounded 4 = .ok (.iadd, 1) := by decide +kernel
theorem dX7_rounded_5 : decode cX7_rounded 5 = .ok (.iconst 2, 1) := by decide +kernel
theorem dX7_rounded_6 : decode cX7_rounded 6 = .ok (.iload_n 1, 1) := by decide +kernel
theorem dX7_rounded_7 : decode cX7_rounded 7 = .ok (.imul, 1) := by decide +kernel
theorem dX7_rounded_8 : decode cX7_rounded 8 = .ok (.invokestatic 114, 3) := by decide +kernel
theorem dX7_rounded_11 : decode cX7_rounded 11 = .ok (.ireturn, 1) := by decide +kernel
theorem dX7_isAxis_0 : decode cX7_isAxis 0 = .ok (.iload_n 0, 1) := by decide +kernel
theorem dX7_isAxis_1 : decode cX7_isAxis 1 = .ok (.iconst 0, 1) := by decide +kernel
theorem dX7_isAxis_2 : decode cX7_isAxis 2 = .ok (.iconst 1, 1) := by decide +kernel
theorem dX7_isAxis_3 : decode cX7_isAxis 3 = .ok (.invokestatic 66, 3) := by decide +kernel
theorem dX7_isAxis_6 : decode cX7_isAxis 6 = .ok (.ireturn, 1) := by decide +kernel
theorem dX7_isShear_0 : decode cX7_isShear 0 = .ok (.iload_n 0, 1) := by decide +kernel
theorem dX7_isShear_1 : decode cX7_isShear 1 = .ok (.bipush (-16), 2) := by decide +kernel
theorem dX7_isShear_3 : decode cX7_isShear 3 = .ok (.bipush 16, 2) := by decide +kernel
theorem dX7_isShear_5 : decode cX7_isShear 5 = .ok (.invokestatic 66, 3) := by decide +kernel
theorem dX7_isShear_8 : decode cX7_isShear 8 = .ok (.ireturn, 1) := by decide +kernel
theorem dX7_shiftOf_0 : decode cX7_shiftOf 0 = .ok (.iload_n 1, 1) := by decide +kernel
theorem dX7_shiftOf_1 : decode cX7_shiftOf 1 = .ok (.iload_n 0, 1) := by decide +kernel
theorem dX7_shiftOf_2 : decode cX7_shiftOf 2 = .ok (.ifCond .ne 7, 3) := by decide +kernel
theorem dX7_shiftOf_5 : decode cX7_shiftOf 5 = .ok (.iload_n 2, 1) := by decide +kernel
theorem dX7_shiftOf_6 : decode cX7_shiftOf 6 = .ok (.goto 7, 3) := by decide +kernel
theorem dX7_shiftOf_9 : decode cX7_shiftOf 9 = .ok (.bipush 31, 2) := by decide +kernel
theorem dX7_shiftOf_11 : decode cX7_shiftOf 11 = .ok (.iload_n 2, 1) := by decide +kernel
theorem dX7_shiftOf_12 : decode cX7_shiftOf 12 = .ok (.isub, 1) := by decide +kernel
theorem dX7_shiftOf_13 : decode cX7_shiftOf 13 = .ok (.imul, 1) := by decide +kernel
theorem dX7_shiftOf_14 : decode cX7_shiftOf 14 = .ok (.bipush 16, 2) := by decide +kernel
theorem dX7_shiftOf_16 : decode cX7_shiftOf 16 = .ok (.invokestatic 117, 3) := by decide +kernel
theorem dX7_shiftOf_19 : decode cX7_shiftOf 19 = .ok (.ireturn, 1) := by decide +kernel
theorem dX7_sheared_0 : decode cX7_sheared 0 = .ok (.iload_n 0, 1) := by decide +kernel
theorem dX7_sheared_1 : decode cX7_sheared 1 = .ok (.ifCond .ne 14, 3) := by decide +kernel
theorem dX7_sheared_4 : decode cX7_sheared 4 = .ok (.iload_n 3, 1) := by decide +kernel
theorem dX7_sheared_5 : decode cX7_sheared 5 = .ok (.iload_n 0, 1) := by decide +kernel
theorem dX7_sheared_6 : decode cX7_sheared 6 = .ok (.iload_n 1, 1) := by decide +kernel
theorem dX7_sheared_7 : decode cX7_sheared 7 = .ok (.iload_n 2, 1) := by decide +kernel
theorem dX7_sheared_8 : decode cX7_sheared 8 = .ok (.invokestatic 120, 3) := by decide +kernel
theorem dX7_sheared_11 : decode cX7_sheared 11 = .ok (.isub, 1) := by decide +kernel
theorem dX7_sheared_12 : decode cX7_sheared 12 = .ok (.goto 11, 3) := by decide +kernel
theorem dX7_sheared_15 : decode cX7_sheared 15 = .ok (.iload_n 2, 1) := by decide +kernel
theorem dX7_sheared_16 : decode cX7_sheared 16 = .ok (.iload_n 0, 1) := by decide +kernel
theorem dX7_sheared_17 : decode cX7_sheared 17 = .ok (.iload_n 1, 1) := by decide +kernel
theorem dX7_sheared_18 : decode cX7_sheared 18 = .ok (.iload_n 3, 1) := by decide +kernel
theorem dX7_sheared_19 : decode cX7_sheared 19 = .ok (.invokestatic 120, 3) := by decide +kernel
theorem dX7_sheared_22 : decode cX7_sheared 22 = .ok (.isub, 1) := by decide +kernel
theorem dX7_sheared_23 : decode cX7_sheared 23 = .ok (.ireturn, 1) := by decide +kernel
theorem dX7_shift_0 : decode cX7_shift 0 = .ok (.iload_n 1, 1) := by decide +kernel
theorem dX7_shift_1 : decode cX7_shift 1 = .ok (.invokestatic 124, 3) := by decide +kernel
theorem dX7_shift_4 : decode cX7_shift 4 = .ok (.ifCond .eq 10, 3) := by decide +kernel
theorem dX7_shift_7 : decode cX7_shift 7 = .ok (.iload_n 2, 1) := by decide +kernel
theorem dX7_shift_8 : decode cX7_shift 8 = .ok (.invokestatic 127, 3) := by decide +kernel
theorem dX7_shift_11 : decode cX7_shift 11 = .ok (.ifCond .ne 6, 3) := by decide +kernel
theorem dX7_shift_14 : decode cX7_shift 14 = .ok (.bipush (-2), 2) := by decide +kernel
theorem dX7_shift_16 : decode cX7_shift 16 = .ok (.ireturn, 1) := by decide +kernel
theorem dX7_shift_17 : decode cX7_shift 17 = .ok (.iload_n 1, 1) := by decide +kernel
theorem dX7_shift_18 : decode cX7_shift 18 = .ok (.ifCond .ne 11, 3) := by decide +kernel
theorem dX7_shift_21 : decode cX7_shift 21 = .ok (.aload_n 0, 1) := by decide +kernel
theorem dX7_shift_22 : decode cX7_shift 22 = .ok (.iload_n 3, 1) := by decide +kernel
theorem dX7_shift_23 : decode cX7_shift 23 = .ok (.invokevirtual 70, 3) := by decide +kernel
theorem dX7_shift_26 : decode cX7_shift 26 = .ok (.goto 7, 3) := by decide +kernel
theorem dX7_shift_29 : decode cX7_shift 29 = .ok (.iload_n 3, 1) := by decide +kernel
theorem dX7_shift_30 : decode cX7_shift 30 = .ok (.invokestatic 74, 3) := by decide +kernel
theorem dX7_shift_33 : decode cX7_shift 33 = .ok (.istore 4, 2) := by decide +kernel
theorem dX7_shift_35 : decode cX7_shift 35 = .ok (.iload 4, 2) := by decide +kernel
theorem dX7_shift_37 : decode cX7_shift 37 = .ok (.ifCond .eq 12, 3) := by decide +kernel
theorem dX7_shift_40 : decode cX7_shift 40 = .ok (.iload_n 1, 1) := by decide +kernel
theorem dX7_shift_41 : decode cX7_shift 41 = .ok (.iload_n 2, 1) := by decide +kernel
theorem dX7_shift_42 : decode cX7_shift 42 = .ok (.iload_n 3, 1) := by decide +kernel
theorem dX7_shift_43 : decode cX7_shift 43 = .ok (.invokestatic 120, 3) := by decide +kernel
theorem dX7_shift_46 : decode cX7_shift 46 = .ok (.goto 4, 3) := by decide +kernel
theorem dX7_shift_49 : decode cX7_shift 49 = .ok (.iconst (-1), 1) := by decide +kernel
theorem dX7_shift_50 : decode cX7_shift 50 = .ok (.ireturn, 1) := by decide +kernel
theorem dX7_findProfile_0 : decode cX7_findProfile 0 = .ok (.iconst 0, 1) := by decide +kernel
theorem dX7_findProfile_1 : decode cX7_findProfile 1 = .ok (.istore_n 3, 1) := by decide +kernel
theorem dX7_findProfile_2 : decode cX7_findProfile 2 = .ok (.iload_n 3, 1) := by decide +kernel
theorem dX7_findProfile_3 : decode cX7_findProfile 3 = .ok (.aload_n 0, 1) := by decide +kernel
theorem dX7_findProfile_4 : decode cX7_findProfile 4 = .ok (.getfield 27, 3) := by decide +kernel
theorem dX7_findProfile_7 : decode cX7_findProfile 7 = .ok (.arraylength, 1) := by decide +kernel
theorem dX7_findProfile_8 : decode cX7_findProfile 8 = .ok (.if_icmp .ge 16, 3) := by decide +kernel
theorem dX7_findProfile_11 : decode cX7_findProfile 11 = .ok (.aload_n 0, 1) := by decide +kernel
theorem dX7_findProfile_12 : decode cX7_findProfile 12 = .ok (.getfield 27, 3) := by decide +kernel
theorem dX7_findProfile_15 : decode cX7_findProfile 15 = .ok (.iload_n 3, 1) := by decide +kernel
theorem dX7_findProfile_16 : decode cX7_findProfile 16 = .ok (.iconst 0, 1) := by decide +kernel
theorem dX7_findProfile_17 : decode cX7_findProfile 17 = .ok (.iastore, 1) := by decide +kernel
theorem dX7_findProfile_18 : decode cX7_findProfile 18 = .ok (.iinc 3 1, 3) := by decide +kernel
theorem dX7_findProfile_21 : decode cX7_findProfile 21 = .ok (.goto (-19), 3) := by decide +kernel
theorem dX7_findProfile_24 : decode cX7_findProfile 24 = .ok (.iconst 0, 1) := by decide +kernel
theorem dX7_findProfile_25 : decode cX7_findProfile 25 = .ok (.istore_n 3, 1) := by decide +kernel
theorem dX7_findProfile_26 : decode cX7_findProfile 26 = .ok (.iload_n 3, 1) := by decide +kernel
theorem dX7_findProfile_27 : decode cX7_findProfile 27 = .ok (.aload_n 0, 1) := by decide +kernel
theorem dX7_findProfile_28 : decode cX7_findProfile 28 = .ok (.getfield 7, 3) := by decide +kernel
theorem dX7_findProfile_31 : decode cX7_findProfile 31 = .ok (.if_icmp .ge 64, 3) := by decide +kernel
theorem dX7_findProfile_34 : decode cX7_findProfile 34 = .ok (.iconst 0, 1) := by decide +kernel
theorem dX7_findProfile_35 : decode cX7_findProfile 35 = .ok (.istore 4, 2) := by decide +kernel
theorem dX7_findProfile_37 : decode cX7_findProfile 37 = .ok (.iload 4, 2) := by decide +kernel
theorem dX7_findProfile_39 : decode cX7_findProfile 39 = .ok (.bipush 32, 2) := by decide +kernel
theorem dX7_findProfile_41 : decode cX7_findProfile 41 = .ok (.if_icmp .ge 48, 3) := by decide +kernel
theorem dX7_findProfile_44 : decode cX7_findProfile 44 = .ok (.aload_n 0, 1) := by decide +kernel
theorem dX7_findProfile_45 : decode cX7_findProfile 45 = .ok (.getfield 27, 3) := by decide +kernel
theorem dX7_findProfile_48 : decode cX7_findProfile 48 = .ok (.bipush 100, 2) := by decide +kernel
theorem dX7_findProfile_50 : decode cX7_findProfile 50 = .ok (.iload_n 1, 1) := by decide +kernel
theorem dX7_findProfile_51 : decode cX7_findProfile 51 = .ok (.iload_n 2, 1) := by decide +kernel
theorem dX7_findProfile_52 : decode cX7_findProfile 52 = .ok (.iload_n 3, 1) := by decide +kernel
theorem dX7_findProfile_53 : decode cX7_findProfile 53 = .ok (.iload 4, 2) := by decide +kernel
theorem dX7_findProfile_55 : decode cX7_findProfile 55 = .ok (.invokestatic 130, 3) := by decide +kernel
theorem dX7_findProfile_58 : decode cX7_findProfile 58 = .ok (.iadd, 1) := by decide +kernel
theorem dX7_findProfile_59 : decode cX7_findProfile 59 = .ok (.dup2, 1) := by decide +kernel
theorem dX7_findProfile_60 : decode cX7_findProfile 60 = .ok (.iaload, 1) := by decide +kernel
theorem dX7_findProfile_61 : decode cX7_findProfile 61 = .ok (.aload_n 0, 1) := by decide +kernel
theorem dX7_findProfile_62 : decode cX7_findProfile 62 = .ok (.getfield 13, 3) := by decide +kernel
theorem dX7_findProfile_65 : decode cX7_findProfile 65 = .ok (.bipush 32, 2) := by decide +kernel
theorem dX7_findProfile_67 : decode cX7_findProfile 67 = .ok (.iload_n 3, 1) := by decide +kernel
theorem dX7_findProfile_68 : decode cX7_findProfile 68 = .ok (.imul, 1) := by decide +kernel
theorem dX7_findProfile_69 : decode cX7_findProfile 69 = .ok (.iload 4, 2) := by decide +kernel
theorem dX7_findProfile_71 : decode cX7_findProfile 71 = .ok (.iadd, 1) := by decide +kernel
theorem dX7_findProfile_72 : decode cX7_findProfile 72 = .ok (.baload, 1) := by decide +kernel
theorem dX7_findProfile_73 : decode cX7_findProfile 73 = .ok (.ifCond .eq 7, 3) := by decide +kernel
theorem dX7_findProfile_76 : decode cX7_findProfile 76 = .ok (.iconst 1, 1) := by decide +kernel
theorem dX7_findProfile_77 : decode cX7_findProfile 77 = .ok (.goto 4, 3) := by decide +kernel
theorem dX7_findProfile_80 : decode cX7_findProfile 80 = .ok (.iconst 0, 1) := by decide +kernel
theorem dX7_findProfile_81 : decode cX7_findProfile 81 = .ok (.iadd, 1) := by decide +kernel
theorem dX7_findProfile_82 : decode cX7_findProfile 82 = .ok (.iastore, 1) := by decide +kernel
theorem dX7_findProfile_83 : decode cX7_findProfile 83 = .ok (.iinc 4 1, 3) := by decide +kernel
theorem dX7_findProfile_86 : decode cX7_findProfile 86 = .ok (.goto (-49), 3) := by decide +kernel
theorem dX7_findProfile_89 : decode cX7_findProfile 89 = .ok (.iinc 3 1, 3) := by decide +kernel
theorem dX7_findProfile_92 : decode cX7_findProfile 92 = .ok (.goto (-66), 3) := by decide +kernel
theorem dX7_findProfile_95 : decode cX7_findProfile 95 = .ok (.return_, 1) := by decide +kernel
theorem dX7_profile_0 : decode cX7_profile 0 = .ok (.iload_n 1, 1) := by decide +kernel
theorem dX7_profile_1 : decode cX7_profile 1 = .ok (.invokestatic 124, 3) := by decide +kernel
theorem dX7_profile_4 : decode cX7_profile 4 = .ok (.ifCond .eq 21, 3) := by decide +kernel
theorem dX7_profile_7 : decode cX7_profile 7 = .ok (.iload_n 2, 1) := by decide +kernel
theorem dX7_profile_8 : decode cX7_profile 8 = .ok (.invokestatic 127, 3) := by decide +kernel
theorem dX7_profile_11 : decode cX7_profile 11 = .ok (.ifCond .eq 14, 3) := by decide +kernel
theorem dX7_profile_14 : decode cX7_profile 14 = .ok (.iload_n 3, 1) := by decide +kernel
theorem dX7_profile_15 : decode cX7_profile 15 = .ok (.bipush (-99), 2) := by decide +kernel
theorem dX7_profile_17 : decode cX7_profile 17 = .ok (.bipush 99, 2) := by decide +kernel
theorem dX7_profile_19 : decode cX7_profile 19 = .ok (.invokestatic 66, 3) := by decide +kernel
theorem dX7_profile_22 : decode cX7_profile 22 = .ok (.ifCond .ne 6, 3) := by decide +kernel
theorem dX7_profile_25 : decode cX7_profile 25 = .ok (.bipush (-2), 2) := by decide +kernel
theorem dX7_profile_27 : decode cX7_profile 27 = .ok (.ireturn, 1) := by decide +kernel
theorem dX7_profile_28 : decode cX7_profile 28 = .ok (.aload_n 0, 1) := by decide +kernel
theorem dX7_profile_29 : decode cX7_profile 29 = .ok (.iload_n 1, 1) := by decide +kernel
theorem dX7_profile_30 : decode cX7_profile 30 = .ok (.iload_n 2, 1) := by decide +kernel
theorem dX7_profile_31 : decode cX7_profile 31 = .ok (.invokevirtual 134, 3) := by decide +kernel
theorem dX7_profile_34 : decode cX7_profile 34 = .ok (.aload_n 0, 1) := by decide +kernel
theorem dX7_profile_35 : decode cX7_profile 35 = .ok (.getfield 27, 3) := by decide +kernel
theorem dX7_profile_38 : decode cX7_profile 38 = .ok (.bipush 100, 2) := by decide +kernel
theorem dX7_profile_40 : decode cX7_profile 40 = .ok (.iload_n 3, 1) := by decide +kernel
theorem dX7_profile_41 : decode cX7_profile 41 = .ok (.iadd, 1) := by decide +kernel
theorem dX7_profile_42 : decode cX7_profile 42 = .ok (.iaload, 1) := by decide +kernel
theorem dX7_profile_43 : decode cX7_profile 43 = .ok (.ireturn, 1) := by decide +kernel
theorem dX7_sharpness_0 : decode cX7_sharpness 0 = .ok (.aload_n 0, 1) := by decide +kernel
theorem dX7_sharpness_1 : decode cX7_sharpness 1 = .ok (.iload_n 1, 1) := by decide +kernel
theorem dX7_sharpness_2 : decode cX7_sharpness 2 = .ok (.iload_n 2, 1) := by decide +kernel
theorem dX7_sharpness_3 : decode cX7_sharpness 3 = .ok (.invokevirtual 134, 3) := by decide +kernel
theorem dX7_sharpness_6 : decode cX7_sharpness 6 = .ok (.iconst 0, 1) := by decide +kernel
theorem dX7_sharpness_7 : decode cX7_sharpness 7 = .ok (.istore_n 3, 1) := by decide +kernel
theorem dX7_sharpness_8 : decode cX7_sharpness 8 = .ok (.iconst 1, 1) := by decide +kernel
theorem dX7_sharpness_9 : decode cX7_sharpness 9 = .ok (.istore 4, 2) := by decide +kernel
theorem dX7_sharpness_11 : decode cX7_sharpness 11 = .ok (.iload 4, 2) := by decide +kernel
theorem dX7_sharpness_13 : decode cX7_sharpness 13 = .ok (.aload_n 0, 1) := by decide +kernel
theorem dX7_sharpness_14 : decode cX7_sharpness 14 = .ok (.getfield 27, 3) := by decide +kernel
theorem dX7_sharpness_17 : decode cX7_sharpness 17 = .ok (.arraylength, 1) := by decide +kernel
theorem dX7_sharpness_18 : decode cX7_sharpness 18 = .ok (.if_icmp .ge 36, 3) := by decide +kernel
theorem dX7_sharpness_21 : decode cX7_sharpness 21 = .ok (.aload_n 0, 1) := by decide +kernel
theorem dX7_sharpness_22 : decode cX7_sharpness 22 = .ok (.getfield 27, 3) := by decide +kernel
theorem dX7_sharpness_25 : decode cX7_sharpness 25 = .ok (.iload 4, 2) := by decide +kernel
theorem dX7_sharpness_27 : decode cX7_sharpness 27 = .ok (.iaload, 1) := by decide +kernel
theorem dX7_sharpness_28 : decode cX7_sharpness 28 = .ok (.aload_n 0, 1) := by decide +kernel
theorem dX7_sharpness_29 : decode cX7_sharpness 29 = .ok (.getfield 27, 3) := by decide +kernel
theorem dX7_sharpness_32 : decode cX7_sharpness 32 = .ok (.iload 4, 2) := by decide +kernel
theorem dX7_sharpness_34 : decode cX7_sharpness 34 = .ok (.iconst 1, 1) := by decide +kernel
theorem dX7_sharpness_35 : decode cX7_sharpness 35 = .ok (.isub, 1) := by decide +kernel
theorem dX7_sharpness_36 : decode cX7_sharpness 36 = .ok (.iaload, 1) := by decide +kernel
theorem dX7_sharpness_37 : decode cX7_sharpness 37 = .ok (.isub, 1) := by decide +kernel
theorem dX7_sharpness_38 : decode cX7_sharpness 38 = .ok (.istore 5, 2) := by decide +kernel
theorem dX7_sharpness_40 : decode cX7_sharpness 40 = .ok (.iload_n 3, 1) := by decide +kernel
theorem dX7_sharpness_41 : decode cX7_sharpness 41 = .ok (.iload 5, 2) := by decide +kernel
theorem dX7_sharpness_43 : decode cX7_sharpness 43 = .ok (.iload 5, 2) := by decide +kernel
theorem dX7_sharpness_45 : decode cX7_sharpness 45 = .ok (.imul, 1) := by decide +kernel
theorem dX7_sharpness_46 : decode cX7_sharpness 46 = .ok (.iadd, 1) := by decide +kernel
theorem dX7_sharpness_47 : decode cX7_sharpness 47 = .ok (.istore_n 3, 1) := by decide +kernel
theorem dX7_sharpness_48 : decode cX7_sharpness 48 = .ok (.iinc 4 1, 3) := by decide +kernel
theorem dX7_sharpness_51 : decode cX7_sharpness 51 = .ok (.goto (-40), 3) := by decide +kernel
theorem dX7_sharpness_54 : decode cX7_sharpness 54 = .ok (.iload_n 3, 1) := by decide +kernel
theorem dX7_sharpness_55 : decode cX7_sharpness 55 = .ok (.ireturn, 1) := by decide +kernel
theorem dX7_sharp_0 : decode cX7_sharp 0 = .ok (.iload_n 1, 1) := by decide +kernel
theorem dX7_sharp_1 : decode cX7_sharp 1 = .ok (.invokestatic 124, 3) := by decide +kernel
theorem dX7_sharp_4 : decode cX7_sharp 4 = .ok (.ifCond .eq 19, 3) := by decide +kernel
theorem dX7_sharp_7 : decode cX7_sharp 7 = .ok (.iload_n 2, 1) := by decide +kernel
theorem dX7_sharp_8 : decode cX7_sharp 8 = .ok (.invokestatic 127, 3) := by decide +kernel
theorem dX7_sharp_11 : decode cX7_sharp 11 = .ok (.ifCond .eq 12, 3) := by decide +kernel
theorem dX7_sharp_14 : decode cX7_sharp 14 = .ok (.aload_n 0, 1) := by decide +kernel
theorem dX7_sharp_15 : decode cX7_sharp 15 = .ok (.iload_n 1, 1) := by decide +kernel
theorem dX7_sharp_16 : decode cX7_sharp 16 = .ok (.iload_n 2, 1) := by decide +kernel
theorem dX7_sharp_17 : decode cX7_sharp 17 = .ok (.invokevirtual 138, 3) := by decide +kernel
theorem dX7_sharp_20 : decode cX7_sharp 20 = .ok (.goto 5, 3) := by decide +kernel
theorem dX7_sharp_23 : decode cX7_sharp 23 = .ok (.bipush (-2), 2) := by decide +kernel
theorem dX7_sharp_25 : decode cX7_sharp 25 = .ok (.ireturn, 1) := by decide +kernel
theorem dX7_far_0 : decode cX7_far 0 = .ok (.iload_n 0, 1) := by decide +kernel
theorem dX7_far_1 : decode cX7_far 1 = .ok (.ifCond .ge 8, 3) := by decide +kernel
theorem dX7_far_4 : decode cX7_far 4 = .ok (.iload_n 0, 1) := by decide +kernel
theorem dX7_far_5 : decode cX7_far 5 = .ok (.ineg, 1) := by decide +kernel
theorem dX7_far_6 : decode cX7_far 6 = .ok (.goto 4, 3) := by decide +kernel
theorem dX7_far_9 : decode cX7_far 9 = .ok (.iload_n 0, 1) := by decide +kernel
theorem dX7_far_10 : decode cX7_far 10 = .ok (.ireturn, 1) := by decide +kernel
theorem dX7_isAhead_0 : decode cX7_isAhead 0 = .ok (.iload_n 1, 1) := by decide +kernel
theorem dX7_isAhead_1 : decode cX7_isAhead 1 = .ok (.iload_n 3, 1) := by decide +kernel
theorem dX7_isAhead_2 : decode cX7_isAhead 2 = .ok (.if_icmp .eq 14, 3) := by decide +kernel
theorem dX7_isAhead_5 : decode cX7_isAhead 5 = .ok (.iload_n 1, 1) := by decide +kernel
theorem dX7_isAhead_6 : decode cX7_isAhead 6 = .ok (.iload_n 3, 1) := by decide +kernel
theorem dX7_isAhead_7 : decode cX7_isAhead 7 = .ok (.if_icmp .le 7, 3) := by decide +kernel
theorem dX7_isAhead_10 : decode cX7_isAhead 10 = .ok (.iconst 1, 1) := by decide +kernel
theorem dX7_isAhead_11 : decode cX7_isAhead 11 = .ok (.goto 4, 3) := by decide +kernel
theorem dX7_isAhead_14 : decode cX7_isAhead 14 = .ok (.iconst 0, 1) := by decide +kernel
theorem dX7_isAhead_15 : decode cX7_isAhead 15 = .ok (.ireturn, 1) := by decide +kernel
theorem dX7_isAhead_16 : decode cX7_isAhead 16 = .ok (.iload_n 0, 1) := by decide +kernel
theorem dX7_isAhead_17 : decode cX7_isAhead 17 = .ok (.invokestatic 141, 3) := by decide +kernel
theorem dX7_isAhead_20 : decode cX7_isAhead 20 = .ok (.iload_n 2, 1) := by decide +kernel
theorem dX7_isAhead_21 : decode cX7_isAhead 21 = .ok (.invokestatic 141, 3) := by decide +kernel
theorem dX7_isAhead_24 : decode cX7_isAhead 24 = .ok (.if_icmp .eq 22, 3) := by decide +kernel
theorem dX7_isAhead_27 : decode cX7_isAhead 27 = .ok (.iload_n 0, 1) := by decide +kernel
theorem dX7_isAhead_28 : decode cX7_isAhead 28 = .ok (.invokestatic 141, 3) := by decide +kernel
theorem dX7_isAhead_31 : decode cX7_isAhead 31 = .ok (.iload_n 2, 1) := by decide +kernel
theorem dX7_isAhead_32 : decode cX7_isAhead 32 = .ok (.invokestatic 141, 3) := by decide +kernel
theorem dX7_isAhead_35 : decode cX7_isAhead 35 = .ok (.if_icmp .ge 7, 3) := by decide +kernel
theorem dX7_isAhead_38 : decode cX7_isAhead 38 = .ok (.iconst 1, 1) := by decide +kernel
theorem dX7_isAhead_39 : decode cX7_isAhead 39 = .ok (.goto 17, 3) := by decide +kernel
theorem dX7_isAhead_42 : decode cX7_isAhead 42 = .ok (.iconst 0, 1) := by decide +kernel
theorem dX7_isAhead_43 : decode cX7_isAhead 43 = .ok (.goto 13, 3) := by decide +kernel
theorem dX7_isAhead_46 : decode cX7_isAhead 46 = .ok (.iload_n 0, 1) := by decide +kernel
theorem dX7_isAhead_47 : decode cX7_isAhead 47 = .ok (.iload_n 2, 1) := by decide +kernel
theorem dX7_isAhead_48 : decode cX7_isAhead 48 = .ok (.if_icmp .ge 7, 3) := by decide +kernel
theorem dX7_isAhead_51 : decode cX7_isAhead 51 = .ok (.iconst 1, 1) := by decide +kernel
theorem dX7_isAhead_52 : decode cX7_isAhead 52 = .ok (.goto 4, 3) := by decide +kernel
theorem dX7_isAhead_55 : decode cX7_isAhead 55 = .ok (.iconst 0, 1) := by decide +kernel
theorem dX7_isAhead_56 : decode cX7_isAhead 56 = .ok (.ireturn, 1) := by decide +kernel
theorem dX7_tryIt_0 : decode cX7_tryIt 0 = .ok (.iload_n 2, 1) := by decide +kernel
theorem dX7_tryIt_1 : decode cX7_tryIt 1 = .ok (.invokestatic 127, 3) := by decide +kernel
theorem dX7_tryIt_4 : decode cX7_tryIt 4 = .ok (.istore_n 3, 1) := by decide +kernel
theorem dX7_tryIt_5 : decode cX7_tryIt 5 = .ok (.iconst 0, 1) := by decide +kernel
theorem dX7_tryIt_6 : decode cX7_tryIt 6 = .ok (.istore 4, 2) := by decide +kernel
theorem dX7_tryIt_8 : decode cX7_tryIt 8 = .ok (.iload 4, 2) := by decide +kernel
theorem dX7_tryIt_10 : decode cX7_tryIt 10 = .ok (.aload_n 0, 1) := by decide +kernel
theorem dX7_tryIt_11 : decode cX7_tryIt 11 = .ok (.getfield 144, 3) := by decide +kernel
theorem dX7_tryIt_14 : decode cX7_tryIt 14 = .ok (.if_icmp .ge 30, 3) := by decide +kernel
theorem dX7_tryIt_17 : decode cX7_tryIt 17 = .ok (.iload_n 3, 1) := by decide +kernel
theorem dX7_tryIt_18 : decode cX7_tryIt 18 = .ok (.ifCond .eq 18, 3) := by decide +kernel
theorem dX7_tryIt_21 : decode cX7_tryIt 21 = .ok (.aload_n 0, 1) := by decide +kernel
theorem dX7_tryIt_22 : decode cX7_tryIt 22 = .ok (.getfield 30, 3) := by decide +kernel
theorem dX7_tryIt_25 : decode cX7_tryIt 25 = .ok (.iload 4, 2) := by decide +kernel
theorem dX7_tryIt_27 : decode cX7_tryIt 27 = .ok (.iaload, 1) := by decide +kernel
theorem dX7_tryIt_28 : decode cX7_tryIt 28 = .ok (.iload_n 2, 1) := by decide +kernel
theorem dX7_tryIt_29 : decode cX7_tryIt 29 = .ok (.if_icmp .eq 7, 3) := by decide +kernel
theorem dX7_tryIt_32 : decode cX7_tryIt 32 = .ok (.iconst 1, 1) := by decide +kernel
theorem dX7_tryIt_33 : decode cX7_tryIt 33 = .ok (.goto 4, 3) := by decide +kernel
theorem dX7_tryIt_36 : decode cX7_tryIt 36 = .ok (.iconst 0, 1) := by decide +kernel
theorem dX7_tryIt_37 : decode cX7_tryIt 37 = .ok (.istore_n 3, 1) := by decide +kernel
theorem dX7_tryIt_38 : decode cX7_tryIt 38 = .ok (.iinc 4 1, 3) := by decide +kernel
theorem dX7_tryIt_41 : decode cX7_tryIt 41 = .ok (.goto (-33), 3) := by decide +kernel
theorem dX7_tryIt_44 : decode cX7_tryIt 44 = .ok (.iload_n 3, 1) := by decide +kernel
theorem dX7_tryIt_45 : decode cX7_tryIt 45 = .ok (.ifCond .eq 38, 3) := by decide +kernel
theorem dX7_tryIt_48 : decode cX7_tryIt 48 = .ok (.aload_n 0, 1) := by decide +kernel
theorem dX7_tryIt_49 : decode cX7_tryIt 49 = .ok (.getfield 30, 3) := by decide +kernel
theorem dX7_tryIt_52 : decode cX7_tryIt 52 = .ok (.aload_n 0, 1) := by decide +kernel
theorem dX7_tryIt_53 : decode cX7_tryIt 53 = .ok (.getfield 144, 3) := by decide +kernel
theorem dX7_tryIt_56 : decode cX7_tryIt 56 = .ok (.iload_n 2, 1) := by decide +kernel
theorem dX7_tryIt_57 : decode cX7_tryIt 57 = .ok (.iastore, 1) := by decide +kernel
theorem dX7_tryIt_58 : decode cX7_tryIt 58 = .ok (.aload_n 0, 1) := by decide +kernel
theorem dX7_tryIt_59 : decode cX7_tryIt 59 = .ok (.getfield 33, 3) := by decide +kernel
theorem dX7_tryIt_62 : decode cX7_tryIt 62 = .ok (.aload_n 0, 1) := by decide +kernel
theorem dX7_tryIt_63 : decode cX7_tryIt 63 = .ok (.getfield 144, 3) := by decide +kernel
theorem dX7_tryIt_66 : decode cX7_tryIt 66 = .ok (.aload_n 0, 1) := by decide +kernel
theorem dX7_tryIt_67 : decode cX7_tryIt 67 = .ok (.iload_n 1, 1) := by decide +kernel
theorem dX7_tryIt_68 : decode cX7_tryIt 68 = .ok (.iload_n 2, 1) := by decide +kernel
theorem dX7_tryIt_69 : decode cX7_tryIt 69 = .ok (.invokevirtual 138, 3) := by decide +kernel
theorem dX7_tryIt_72 : decode cX7_tryIt 72 = .ok (.iastore, 1) := by decide +kernel
theorem dX7_tryIt_73 : decode cX7_tryIt 73 = .ok (.aload_n 0, 1) := by decide +kernel
theorem dX7_tryIt_74 : decode cX7_tryIt 74 = .ok (.dup, 1) := by decide +kernel
theorem dX7_tryIt_75 : decode cX7_tryIt 75 = .ok (.getfield 144, 3) := by decide +kernel
theorem dX7_tryIt_78 : decode cX7_tryIt 78 = .ok (.iconst 1, 1) := by decide +kernel
theorem dX7_tryIt_79 : decode cX7_tryIt 79 = .ok (.iadd, 1) := by decide +kernel
theorem dX7_tryIt_80 : decode cX7_tryIt 80 = .ok (.putfield 144, 3) := by decide +kernel
theorem dX7_tryIt_83 : decode cX7_tryIt 83 = .ok (.return_, 1) := by decide +kernel
theorem dX7_bestTried_0 : decode cX7_bestTried 0 = .ok (.iconst 0, 1) := by decide +kernel
theorem dX7_bestTried_1 : decode cX7_bestTried 1 = .ok (.istore_n 1, 1) := by decide +kernel
theorem dX7_bestTried_2 : decode cX7_bestTried 2 = .ok (.iconst 1, 1) := by decide +kernel
theorem dX7_bestTried_3 : decode cX7_bestTried 3 = .ok (.istore_n 2, 1) := by decide +kernel
theorem dX7_bestTried_4 : decode cX7_bestTried 4 = .ok (.iload_n 2, 1) := by decide +kernel
theorem dX7_bestTried_5 : decode cX7_bestTried 5 = .ok (.aload_n 0, 1) := by decide +kernel
theorem dX7_bestTried_6 : decode cX7_bestTried 6 = .ok (.getfield 144, 3) := by decide +kernel
theorem dX7_bestTried_9 : decode cX7_bestTried 9 = .ok (.if_icmp .ge 45, 3) := by decide +kernel
theorem dX7_bestTried_12 : decode cX7_bestTried 12 = .ok (.aload_n 0, 1) := by decide +kernel
theorem dX7_bestTried_13 : decode cX7_bestTried 13 = .ok (.getfield 30, 3) := by decide +kernel
theorem dX7_bestTried_16 : decode cX7_bestTried 16 = .ok (.iload_n 2, 1) := by decide +kernel
theorem dX7_bestTried_17 : decode cX7_bestTried 17 = .ok (.iaload, 1) := by decide +kernel
theorem dX7_bestTried_18 : decode cX7_bestTried 18 = .ok (.aload_n 0, 1) := by decide +kernel
theorem dX7_bestTried_19 : decode cX7_bestTried 19 = .ok (.getfield 33, 3) := by decide +kernel
theorem dX7_bestTried_22 : decode cX7_bestTried 22 = .ok (.iload_n 2, 1) := by decide +kernel
theorem dX7_bestTried_23 : decode cX7_bestTried 23 = .ok (.iaload, 1) := by decide +kernel
theorem dX7_bestTried_24 : decode cX7_bestTried 24 = .ok (.aload_n 0, 1) := by decide +kernel
theorem dX7_bestTried_25 : decode cX7_bestTried 25 = .ok (.getfield 30, 3) := by decide +kernel
theorem dX7_bestTried_28 : decode cX7_bestTried 28 = .ok (.iload_n 1, 1) := by decide +kernel
theorem dX7_bestTried_29 : decode cX7_bestTried 29 = .ok (.iaload, 1) := by decide +kernel
theorem dX7_bestTried_30 : decode cX7_bestTried 30 = .ok (.aload_n 0, 1) := by decide +kernel
theorem dX7_bestTried_31 : decode cX7_bestTried 31 = .ok (.getfield 33, 3) := by decide +kernel
theorem dX7_bestTried_34 : decode cX7_bestTried 34 = .ok (.iload_n 1, 1) := by decide +kernel
theorem dX7_bestTried_35 : decode cX7_bestTried 35 = .ok (.iaload, 1) := by decide +kernel
theorem dX7_bestTried_36 : decode cX7_bestTried 36 = .ok (.invokestatic 147, 3) := by decide +kernel
theorem dX7_bestTried_39 : decode cX7_bestTried 39 = .ok (.ifCond .eq 7, 3) := by decide +kernel
theorem dX7_bestTried_42 : decode cX7_bestTried 42 = .ok (.iload_n 2, 1) := by decide +kernel
theorem dX7_bestTried_43 : decode cX7_bestTried 43 = .ok (.goto 4, 3) := by decide +kernel
theorem dX7_bestTried_46 : decode cX7_bestTried 46 = .ok (.iload_n 1, 1) := by decide +kernel
theorem dX7_bestTried_47 : decode cX7_bestTried 47 = .ok (.istore_n 1, 1) := by decide +kernel
theorem dX7_bestTried_48 : decode cX7_bestTried 48 = .ok (.iinc 2 1, 3) := by decide +kernel
theorem dX7_bestTried_51 : decode cX7_bestTried 51 = .ok (.goto (-47), 3) := by decide +kernel
theorem dX7_bestTried_54 : decode cX7_bestTried 54 = .ok (.aload_n 0, 1) := by decide +kernel
theorem dX7_bestTried_55 : decode cX7_bestTried 55 = .ok (.getfield 30, 3) := by decide +kernel
theorem dX7_bestTried_58 : decode cX7_bestTried 58 = .ok (.iload_n 1, 1) := by decide +kernel
theorem dX7_bestTried_59 : decode cX7_bestTried 59 = .ok (.iaload, 1) := by decide +kernel
theorem dX7_bestTried_60 : decode cX7_bestTried 60 = .ok (.ireturn, 1) := by decide +kernel
theorem dX7_best_0 : decode cX7_best 0 = .ok (.iload_n 1, 1) := by decide +kernel
theorem dX7_best_1 : decode cX7_best 1 = .ok (.invokestatic 124, 3) := by decide +kernel
theorem dX7_best_4 : decode cX7_best 4 = .ok (.ifCond .ne 6, 3) := by decide +kernel
theorem dX7_best_7 : decode cX7_best 7 = .ok (.bipush (-2), 2) := by decide +kernel
theorem dX7_best_9 : decode cX7_best 9 = .ok (.ireturn, 1) := by decide +kernel
theorem dX7_best_10 : decode cX7_best 10 = .ok (.aload_n 0, 1) := by decide +kernel
theorem dX7_best_11 : decode cX7_best 11 = .ok (.iconst 0, 1) := by decide +kernel
theorem dX7_best_12 : decode cX7_best 12 = .ok (.putfield 144, 3) := by decide +kernel
theorem dX7_best_15 : decode cX7_best 15 = .ok (.bipush (-16), 2) := by decide +kernel
theorem dX7_best_17 : decode cX7_best 17 = .ok (.istore_n 2, 1) := by decide +kernel
theorem dX7_best_18 : decode cX7_best 18 = .ok (.iload_n 2, 1) := by decide +kernel
theorem dX7_best_19 : decode cX7_best 19 = .ok (.bipush 16, 2) := by decide +kernel
theorem dX7_best_21 : decode cX7_best 21 = .ok (.if_icmp .gt 15, 3) := by decide +kernel
theorem dX7_best_24 : decode cX7_best 24 = .ok (.aload_n 0, 1) := by decide +kernel
theorem dX7_best_25 : decode cX7_best 25 = .ok (.iload_n 1, 1) := by decide +kernel
theorem dX7_best_26 : decode cX7_best 26 = .ok (.iload_n 2, 1) := by decide +kernel
theorem dX7_best_27 : decode cX7_best 27 = .ok (.invokevirtual 151, 3) := by decide +kernel
theorem dX7_best_30 : decode cX7_best 30 = .ok (.iinc 2 1, 3) := by decide +kernel
theorem dX7_best_33 : decode cX7_best 33 = .ok (.goto (-15), 3) := by decide +kernel
theorem dX7_best_36 : decode cX7_best 36 = .ok (.aload_n 0, 1) := by decide +kernel
theorem dX7_best_37 : decode cX7_best 37 = .ok (.invokevirtual 154, 3) := by decide +kernel
theorem dX7_best_40 : decode cX7_best 40 = .ok (.bipush 100, 2) := by decide +kernel
theorem dX7_best_42 : decode cX7_best 42 = .ok (.iadd, 1) := by decide +kernel
theorem dX7_best_43 : decode cX7_best 43 = .ok (.ireturn, 1) := by decide +kernel
theorem dX7_search_0 : decode cX7_search 0 = .ok (.aload_n 0, 1) := by decide +kernel
theorem dX7_search_1 : decode cX7_search 1 = .ok (.iconst 0, 1) := by decide +kernel
theorem dX7_search_2 : decode cX7_search 2 = .ok (.putfield 144, 3) := by decide +kernel
theorem dX7_search_5 : decode cX7_search 5 = .ok (.bipush (-16), 2) := by decide +kernel
theorem dX7_search_7 : decode cX7_search 7 = .ok (.istore_n 2, 1) := by decide +kernel
theorem dX7_search_8 : decode cX7_search 8 = .ok (.iload_n 2, 1) := by decide +kernel
theorem dX7_search_9 : decode cX7_search 9 = .ok (.bipush 16, 2) := by decide +kernel
theorem dX7_search_11 : decode cX7_search 11 = .ok (.if_icmp .gt 15, 3) := by decide +kernel
theorem dX7_search_14 : decode cX7_search 14 = .ok (.aload_n 0, 1) := by decide +kernel
theorem dX7_search_15 : decode cX7_search 15 = .ok (.iload_n 1, 1) := by decide +kernel
theorem dX7_search_16 : decode cX7_search 16 = .ok (.iload_n 2, 1) := by decide +kernel
theorem dX7_search_17 : decode cX7_search 17 = .ok (.invokevirtual 151, 3) := by decide +kernel
theorem dX7_search_20 : decode cX7_search 20 = .ok (.iinc 2 8, 3) := by decide +kernel
theorem dX7_search_23 : decode cX7_search 23 = .ok (.goto (-15), 3) := by decide +kernel
theorem dX7_search_26 : decode cX7_search 26 = .ok (.iconst 4, 1) := by decide +kernel
theorem dX7_search_27 : decode cX7_search 27 = .ok (.istore_n 2, 1) := by decide +kernel
theorem dX7_search_28 : decode cX7_search 28 = .ok (.iload_n 2, 1) := by decide +kernel
theorem dX7_search_29 : decode cX7_search 29 = .ok (.ifCond .le 31, 3) := by decide +kernel
theorem dX7_search_32 : decode cX7_search 32 = .ok (.aload_n 0, 1) := by decide +kernel
theorem dX7_search_33 : decode cX7_search 33 = .ok (.invokevirtual 154, 3) := by decide +kernel
theorem dX7_search_36 : decode cX7_search 36 = .ok (.istore_n 3, 1) := by decide +kernel
theorem dX7_search_37 : decode cX7_search 37 = .ok (.aload_n 0, 1) := by decide +kernel
theorem dX7_search_38 : decode cX7_search 38 = .ok (.iload_n 1, 1) := by decide +kernel
theorem dX7_search_39 : decode cX7_search 39 = .ok (.iload_n 3, 1) := by decide +kernel
theorem dX7_search_40 : decode cX7_search 40 = .ok (.iload_n 2, 1) := by decide +kernel
theorem dX7_search_41 : decode cX7_search 41 = .ok (.isub, 1) := by decide +kernel
theorem dX7_search_42 : decode cX7_search 42 = .ok (.invokevirtual 151, 3) := by decide +kernel
theorem dX7_search_45 : decode cX7_search 45 = .ok (.aload_n 0, 1) := by decide +kernel
theorem dX7_search_46 : decode cX7_search 46 = .ok (.iload_n 1, 1) := by decide +kernel
theorem dX7_search_47 : decode cX7_search 47 = .ok (.iload_n 3, 1) := by decide +kernel
theorem dX7_search_48 : decode cX7_search 48 = .ok (.iload_n 2, 1) := by decide +kernel
theorem dX7_search_49 : decode cX7_search 49 = .ok (.iadd, 1) := by decide +kernel
theorem dX7_search_50 : decode cX7_search 50 = .ok (.invokevirtual 151, 3) := by decide +kernel
theorem dX7_search_53 : decode cX7_search 53 = .ok (.iload_n 2, 1) := by decide +kernel
theorem dX7_search_54 : decode cX7_search 54 = .ok (.iconst 2, 1) := by decide +kernel
theorem dX7_search_55 : decode cX7_search 55 = .ok (.idiv, 1) := by decide +kernel
theorem dX7_search_56 : decode cX7_search 56 = .ok (.istore_n 2, 1) := by decide +kernel
theorem dX7_search_57 : decode cX7_search 57 = .ok (.goto (-29), 3) := by decide +kernel
theorem dX7_search_60 : decode cX7_search 60 = .ok (.return_, 1) := by decide +kernel
theorem dX7_found_0 : decode cX7_found 0 = .ok (.iload_n 1, 1) := by decide +kernel
theorem dX7_found_1 : decode cX7_found 1 = .ok (.invokestatic 124, 3) := by decide +kernel
theorem dX7_found_4 : decode cX7_found 4 = .ok (.ifCond .ne 6, 3) := by decide +kernel
theorem dX7_found_7 : decode cX7_found 7 = .ok (.bipush (-2), 2) := by decide +kernel
theorem dX7_found_9 : decode cX7_found 9 = .ok (.ireturn, 1) := by decide +kernel
theorem dX7_found_10 : decode cX7_found 10 = .ok (.aload_n 0, 1) := by decide +kernel
theorem dX7_found_11 : decode cX7_found 11 = .ok (.iload_n 1, 1) := by decide +kernel
theorem dX7_found_12 : decode cX7_found 12 = .ok (.invokevirtual 157, 3) := by decide +kernel
theorem dX7_found_15 : decode cX7_found 15 = .ok (.aload_n 0, 1) := by decide +kernel
theorem dX7_found_16 : decode cX7_found 16 = .ok (.invokevirtual 154, 3) := by decide +kernel
theorem dX7_found_19 : decode cX7_found 19 = .ok (.bipush 100, 2) := by decide +kernel
theorem dX7_found_21 : decode cX7_found 21 = .ok (.iadd, 1) := by decide +kernel
theorem dX7_found_22 : decode cX7_found 22 = .ok (.ireturn, 1) := by decide +kernel
theorem dX7_tried_0 : decode cX7_tried 0 = .ok (.iload_n 1, 1) := by decide +kernel
theorem dX7_tried_1 : decode cX7_tried 1 = .ok (.invokestatic 124, 3) := by decide +kernel
theorem dX7_tried_4 : decode cX7_tried 4 = .ok (.ifCond .eq 13, 3) := by decide +kernel
theorem dX7_tried_7 : decode cX7_tried 7 = .ok (.iload_n 2, 1) := by decide +kernel
theorem dX7_tried_8 : decode cX7_tried 8 = .ok (.iconst 0, 1) := by decide +kernel
theorem dX7_tried_9 : decode cX7_tried 9 = .ok (.bipush 32, 2) := by decide +kernel
theorem dX7_tried_11 : decode cX7_tried 11 = .ok (.invokestatic 66, 3) := by decide +kernel
theorem dX7_tried_14 : decode cX7_tried 14 = .ok (.ifCond .ne 6, 3) := by decide +kernel
theorem dX7_tried_17 : decode cX7_tried 17 = .ok (.bipush (-2), 2) := by decide +kernel
theorem dX7_tried_19 : decode cX7_tried 19 = .ok (.ireturn, 1) := by decide +kernel
theorem dX7_tried_20 : decode cX7_tried 20 = .ok (.aload_n 0, 1) := by decide +kernel
theorem dX7_tried_21 : decode cX7_tried 21 = .ok (.iload_n 1, 1) := by decide +kernel
theorem dX7_tried_22 : decode cX7_tried 22 = .ok (.invokevirtual 157, 3) := by decide +kernel
theorem dX7_tried_25 : decode cX7_tried 25 = .ok (.iload_n 2, 1) := by decide +kernel
theorem dX7_tried_26 : decode cX7_tried 26 = .ok (.aload_n 0, 1) := by decide +kernel
theorem dX7_tried_27 : decode cX7_tried 27 = .ok (.getfield 144, 3) := by decide +kernel
theorem dX7_tried_30 : decode cX7_tried 30 = .ok (.if_icmp .ge 15, 3) := by decide +kernel
theorem dX7_tried_33 : decode cX7_tried 33 = .ok (.aload_n 0, 1) := by decide +kernel
theorem dX7_tried_34 : decode cX7_tried 34 = .ok (.getfield 30, 3) := by decide +kernel
theorem dX7_tried_37 : decode cX7_tried 37 = .ok (.iload_n 2, 1) := by decide +kernel
theorem dX7_tried_38 : decode cX7_tried 38 = .ok (.iaload, 1) := by decide +kernel
theorem dX7_tried_39 : decode cX7_tried 39 = .ok (.bipush 100, 2) := by decide +kernel
theorem dX7_tried_41 : decode cX7_tried 41 = .ok (.iadd, 1) := by decide +kernel
theorem dX7_tried_42 : decode cX7_tried 42 = .ok (.goto 5, 3) := by decide +kernel
theorem dX7_tried_45 : decode cX7_tried 45 = .ok (.bipush (-9), 2) := by decide +kernel
theorem dX7_tried_47 : decode cX7_tried 47 = .ok (.ireturn, 1) := by decide +kernel
theorem dX7_keeps_0 : decode cX7_keeps 0 = .ok (.aload_n 0, 1) := by decide +kernel
theorem dX7_keeps_1 : decode cX7_keeps 1 = .ok (.getfield 81, 3) := by decide +kernel
theorem dX7_keeps_4 : decode cX7_keeps 4 = .ok (.bipush 8, 2) := by decide +kernel
theorem dX7_keeps_6 : decode cX7_keeps 6 = .ok (.if_icmp .ne 44, 3) := by decide +kernel
theorem dX7_keeps_9 : decode cX7_keeps 9 = .ok (.iconst 0, 1) := by decide +kernel
theorem dX7_keeps_10 : decode cX7_keeps 10 = .ok (.istore_n 1, 1) := by decide +kernel
theorem dX7_keeps_11 : decode cX7_keeps 11 = .ok (.iload_n 1, 1) := by decide +kernel
theorem dX7_keeps_12 : decode cX7_keeps 12 = .ok (.sipush 5376, 3) := by decide +kernel
theorem dX7_keeps_15 : decode cX7_keeps 15 = .ok (.if_icmp .ge 25, 3) := by decide +kernel
theorem dX7_keeps_18 : decode cX7_keeps 18 = .ok (.aload_n 0, 1) := by decide +kernel
theorem dX7_keeps_19 : decode cX7_keeps 19 = .ok (.getfield 36, 3) := by decide +kernel
theorem dX7_keeps_22 : decode cX7_keeps 22 = .ok (.iload_n 1, 1) := by decide +kernel
theorem dX7_keeps_23 : decode cX7_keeps 23 = .ok (.aload_n 0, 1) := by decide +kernel
theorem dX7_keeps_24 : decode cX7_keeps 24 = .ok (.getfield 36, 3) := by decide +kernel
theorem dX7_keeps_27 : decode cX7_keeps 27 = .ok (.iload_n 1, 1) := by decide +kernel
theorem dX7_keeps_28 : decode cX7_keeps 28 = .ok (.sipush 768, 3) := by decide +kernel
theorem dX7_keeps_31 : decode cX7_keeps 31 = .ok (.iadd, 1) := by decide +kernel
theorem dX7_keeps_32 : decode cX7_keeps 32 = .ok (.baload, 1) := by decide +kernel
theorem dX7_keeps_33 : decode cX7_keeps 33 = .ok (.bastore, 1) := by decide +kernel
theorem dX7_keeps_34 : decode cX7_keeps 34 = .ok (.iinc 1 1, 3) := by decide +kernel
theorem dX7_keeps_37 : decode cX7_keeps 37 = .ok (.goto (-26), 3) := by decide +kernel
theorem dX7_keeps_40 : decode cX7_keeps 40 = .ok (.aload_n 0, 1) := by decide +kernel
theorem dX7_keeps_41 : decode cX7_keeps 41 = .ok (.dup, 1) := by decide +kernel
theorem dX7_keeps_42 : decode cX7_keeps 42 = .ok (.getfield 81, 3) := by decide +kernel
theorem dX7_keeps_45 : decode cX7_keeps 45 = .ok (.iconst 1, 1) := by decide +kernel
theorem dX7_keeps_46 : decode cX7_keeps 46 = .ok (.isub, 1) := by decide +kernel
theorem dX7_keeps_47 : decode cX7_keeps 47 = .ok (.putfield 81, 3) := by decide +kernel
theorem dX7_keeps_50 : decode cX7_keeps 50 = .ok (.iconst 0, 1) := by decide +kernel
theorem dX7_keeps_51 : decode cX7_keeps 51 = .ok (.istore_n 1, 1) := by decide +kernel
theorem dX7_keeps_52 : decode cX7_keeps 52 = .ok (.iload_n 1, 1) := by decide +kernel
theorem dX7_keeps_53 : decode cX7_keeps 53 = .ok (.sipush 768, 3) := by decide +kernel
theorem dX7_keeps_56 : decode cX7_keeps 56 = .ok (.if_icmp .ge 30, 3) := by decide +kernel
theorem dX7_keeps_59 : decode cX7_keeps 59 = .ok (.aload_n 0, 1) := by decide +kernel
theorem dX7_keeps_60 : decode cX7_keeps 60 = .ok (.getfield 36, 3) := by decide +kernel
theorem dX7_keeps_63 : decode cX7_keeps 63 = .ok (.sipush 768, 3) := by decide +kernel
theorem dX7_keeps_66 : decode cX7_keeps 66 = .ok (.aload_n 0, 1) := by decide +kernel
theorem dX7_keeps_67 : decode cX7_keeps 67 = .ok (.getfield 81, 3) := by decide +kernel
theorem dX7_keeps_70 : decode cX7_keeps 70 = .ok (.imul, 1) := by decide +kernel
theorem dX7_keeps_71 : decode cX7_keeps 71 = .ok (.iload_n 1, 1) := by decide +kernel
theorem dX7_keeps_72 : decode cX7_keeps 72 = .ok (.iadd, 1) := by decide +kernel
theorem dX7_keeps_73 : decode cX7_keeps 73 = .ok (.aload_n 0, 1) := by decide +kernel
theorem dX7_keeps_74 : decode cX7_keeps 74 = .ok (.getfield 13, 3) := by decide +kernel
theorem dX7_keeps_77 : decode cX7_keeps 77 = .ok (.iload_n 1, 1) := by decide +kernel
theorem dX7_keeps_78 : decode cX7_keeps 78 = .ok (.baload, 1) := by decide +kernel
theorem dX7_keeps_79 : decode cX7_keeps 79 = .ok (.bastore, 1) := by decide +kernel
theorem dX7_keeps_80 : decode cX7_keeps 80 = .ok (.iinc 1 1, 3) := by decide +kernel
theorem dX7_keeps_83 : decode cX7_keeps 83 = .ok (.goto (-31), 3) := by decide +kernel
theorem dX7_keeps_86 : decode cX7_keeps 86 = .ok (.aload_n 0, 1) := by decide +kernel
theorem dX7_keeps_87 : decode cX7_keeps 87 = .ok (.dup, 1) := by decide +kernel
theorem dX7_keeps_88 : decode cX7_keeps 88 = .ok (.getfield 81, 3) := by decide +kernel
theorem dX7_keeps_91 : decode cX7_keeps 91 = .ok (.iconst 1, 1) := by decide +kernel
theorem dX7_keeps_92 : decode cX7_keeps 92 = .ok (.iadd, 1) := by decide +kernel
theorem dX7_keeps_93 : decode cX7_keeps 93 = .ok (.putfield 81, 3) := by decide +kernel
theorem dX7_keeps_96 : decode cX7_keeps 96 = .ok (.return_, 1) := by decide +kernel
theorem dX7_goesTo_0 : decode cX7_goesTo 0 = .ok (.iload_n 1, 1) := by decide +kernel
theorem dX7_goesTo_1 : decode cX7_goesTo 1 = .ok (.iconst 1, 1) := by decide +kernel
theorem dX7_goesTo_2 : decode cX7_goesTo 2 = .ok (.if_icmp .ne 14, 3) := by decide +kernel
theorem dX7_goesTo_5 : decode cX7_goesTo 5 = .ok (.iload_n 1, 1) := by decide +kernel
theorem dX7_goesTo_6 : decode cX7_goesTo 6 = .ok (.iload_n 2, 1) := by decide +kernel
theorem dX7_goesTo_7 : decode cX7_goesTo 7 = .ok (.iload_n 3, 1) := by decide +kernel
theorem dX7_goesTo_8 : decode cX7_goesTo 8 = .ok (.iload 4, 2) := by decide +kernel
theorem dX7_goesTo_10 : decode cX7_goesTo 10 = .ok (.invokestatic 130, 3) := by decide +kernel
theorem dX7_goesTo_13 : decode cX7_goesTo 13 = .ok (.goto 4, 3) := by decide +kernel
theorem dX7_goesTo_16 : decode cX7_goesTo 16 = .ok (.iload_n 3, 1) := by decide +kernel
theorem dX7_goesTo_17 : decode cX7_goesTo 17 = .ok (.istore 5, 2) := by decide +kernel
theorem dX7_goesTo_19 : decode cX7_goesTo 19 = .ok (.iload_n 1, 1) := by decide +kernel
theorem dX7_goesTo_20 : decode cX7_goesTo 20 = .ok (.ifCond .ne 14, 3) := by decide +kernel
theorem dX7_goesTo_23 : decode cX7_goesTo 23 = .ok (.iload_n 1, 1) := by decide +kernel
theorem dX7_goesTo_24 : decode cX7_goesTo 24 = .ok (.iload_n 2, 1) := by decide +kernel
theorem dX7_goesTo_25 : decode cX7_goesTo 25 = .ok (.iload_n 3, 1) := by decide +kernel
theorem dX7_goesTo_26 : decode cX7_goesTo 26 = .ok (.iload 4, 2) := by decide +kernel
theorem dX7_goesTo_28 : decode cX7_goesTo 28 = .ok (.invokestatic 130, 3) := by decide +kernel
theorem dX7_goesTo_31 : decode cX7_goesTo 31 = .ok (.goto 21, 3) := by decide +kernel
theorem dX7_goesTo_34 : decode cX7_goesTo 34 = .ok (.iload_n 1, 1) := by decide +kernel
theorem dX7_goesTo_35 : decode cX7_goesTo 35 = .ok (.iconst 1, 1) := by decide +kernel
theorem dX7_goesTo_36 : decode cX7_goesTo 36 = .ok (.if_icmp .ne 8, 3) := by decide +kernel
theorem dX7_goesTo_39 : decode cX7_goesTo 39 = .ok (.iload 4, 2) := by decide +kernel
theorem dX7_goesTo_41 : decode cX7_goesTo 41 = .ok (.goto 11, 3) := by decide +kernel
theorem dX7_goesTo_44 : decode cX7_goesTo 44 = .ok (.iload 4, 2) := by decide +kernel
theorem dX7_goesTo_46 : decode cX7_goesTo 46 = .ok (.aload_n 0, 1) := by decide +kernel
theorem dX7_goesTo_47 : decode cX7_goesTo 47 = .ok (.iload_n 3, 1) := by decide +kernel
theorem dX7_goesTo_48 : decode cX7_goesTo 48 = .ok (.invokevirtual 161, 3) := by decide +kernel
theorem dX7_goesTo_51 : decode cX7_goesTo 51 = .ok (.isub, 1) := by decide +kernel
theorem dX7_goesTo_52 : decode cX7_goesTo 52 = .ok (.istore 6, 2) := by decide +kernel
theorem dX7_goesTo_54 : decode cX7_goesTo 54 = .ok (.aload_n 0, 1) := by decide +kernel
theorem dX7_goesTo_55 : decode cX7_goesTo 55 = .ok (.iload 5, 2) := by decide +kernel
theorem dX7_goesTo_57 : decode cX7_goesTo 57 = .ok (.invokevirtual 70, 3) := by decide +kernel
theorem dX7_goesTo_60 : decode cX7_goesTo 60 = .ok (.ifCond .eq 22, 3) := by decide +kernel
theorem dX7_goesTo_63 : decode cX7_goesTo 63 = .ok (.iload 6, 2) := by decide +kernel
theorem dX7_goesTo_65 : decode cX7_goesTo 65 = .ok (.invokestatic 74, 3) := by decide +kernel
theorem dX7_goesTo_68 : decode cX7_goesTo 68 = .ok (.ifCond .eq 14, 3) := by decide +kernel
theorem dX7_goesTo_71 : decode cX7_goesTo 71 = .ok (.bipush 32, 2) := by decide +kernel
theorem dX7_goesTo_73 : decode cX7_goesTo 73 = .ok (.iload 5, 2) := by decide +kernel
theorem dX7_goesTo_75 : decode cX7_goesTo 75 = .ok (.imul, 1) := by decide +kernel
theorem dX7_goesTo_76 : decode cX7_goesTo 76 = .ok (.iload 6, 2) := by decide +kernel
theorem dX7_goesTo_78 : decode cX7_goesTo 78 = .ok (.iadd, 1) := by decide +kernel
theorem dX7_goesTo_79 : decode cX7_goesTo 79 = .ok (.goto 5, 3) := by decide +kernel
theorem dX7_goesTo_82 : decode cX7_goesTo 82 = .ok (.bipush (-9), 2) := by decide +kernel
theorem dX7_goesTo_84 : decode cX7_goesTo 84 = .ok (.ireturn, 1) := by decide +kernel
theorem dX7_moveAll_0 : decode cX7_moveAll 0 = .ok (.iconst 0, 1) := by decide +kernel
theorem dX7_moveAll_1 : decode cX7_moveAll 1 = .ok (.istore_n 3, 1) := by decide +kernel
theorem dX7_moveAll_2 : decode cX7_moveAll 2 = .ok (.iconst 0, 1) := by decide +kernel
theorem dX7_moveAll_3 : decode cX7_moveAll 3 = .ok (.istore 4, 2) := by decide +kernel
theorem dX7_moveAll_5 : decode cX7_moveAll 5 = .ok (.iload 4, 2) := by decide +kernel
theorem dX7_moveAll_7 : decode cX7_moveAll 7 = .ok (.sipush 768, 3) := by decide +kernel
theorem dX7_moveAll_10 : decode cX7_moveAll 10 = .ok (.if_icmp .ge 17, 3) := by decide +kernel
theorem dX7_moveAll_13 : decode cX7_moveAll 13 = .ok (.aload_n 0, 1) := by decide +kernel
theorem dX7_moveAll_14 : decode cX7_moveAll 14 = .ok (.getfield 39, 3) := by decide +kernel
theorem dX7_moveAll_17 : decode cX7_moveAll 17 = .ok (.iload 4, 2) := by decide +kernel
theorem dX7_moveAll_19 : decode cX7_moveAll 19 = .ok (.iconst 0, 1) := by decide +kernel
theorem dX7_moveAll_20 : decode cX7_moveAll 20 = .ok (.bastore, 1) := by decide +kernel
theorem dX7_moveAll_21 : decode cX7_moveAll 21 = .ok (.iinc 4 1, 3) := by decide +kernel
theorem dX7_moveAll_24 : decode cX7_moveAll 24 = .ok (.goto (-19), 3) := by decide +kernel
theorem dX7_moveAll_27 : decode cX7_moveAll 27 = .ok (.iconst 0, 1) := by decide +kernel
theorem dX7_moveAll_28 : decode cX7_moveAll 28 = .ok (.istore 4, 2) := by decide +kernel
theorem dX7_moveAll_30 : decode cX7_moveAll 30 = .ok (.iload 4, 2) := by decide +kernel
theorem dX7_moveAll_32 : decode cX7_moveAll 32 = .ok (.bipush 32, 2) := by decide +kernel
theorem dX7_moveAll_34 : decode cX7_moveAll 34 = .ok (.aload_n 0, 1) := by decide +kernel
theorem dX7_moveAll_35 : decode cX7_moveAll 35 = .ok (.getfield 7, 3) := by decide +kernel
theorem dX7_moveAll_38 : decode cX7_moveAll 38 = .ok (.imul, 1) := by decide +kernel
theorem dX7_moveAll_39 : decode cX7_moveAll 39 = .ok (.if_icmp .ge 70, 3) := by decide +kernel
theorem dX7_moveAll_42 : decode cX7_moveAll 42 = .ok (.aload_n 0, 1) := by decide +kernel
theorem dX7_moveAll_43 : decode cX7_moveAll 43 = .ok (.getfield 13, 3) := by decide +kernel
theorem dX7_moveAll_46 : decode cX7_moveAll 46 = .ok (.iload 4, 2) := by decide +kernel
theorem dX7_moveAll_48 : decode cX7_moveAll 48 = .ok (.baload, 1) := by decide +kernel
theorem dX7_moveAll_49 : decode cX7_moveAll 49 = .ok (.ifCond .eq 54, 3) := by decide +kernel
theorem dX7_moveAll_52 : decode cX7_moveAll 52 = .ok (.aload_n 0, 1) := by decide +kernel
theorem dX7_moveAll_53 : decode cX7_moveAll 53 = .ok (.iload_n 1, 1) := by decide +kernel
theorem dX7_moveAll_54 : decode cX7_moveAll 54 = .ok (.iload_n 2, 1) := by decide +kernel
theorem dX7_moveAll_55 : decode cX7_moveAll 55 = .ok (.iload 4, 2) := by decide +kernel
theorem dX7_moveAll_57 : decode cX7_moveAll 57 = .ok (.bipush 32, 2) := by decide +kernel
theorem dX7_moveAll_59 : decode cX7_moveAll 59 = .ok (.idiv, 1) := by decide +kernel
theorem dX7_moveAll_60 : decode cX7_moveAll 60 = .ok (.iload 4, 2) := by decide +kernel
theorem dX7_moveAll_62 : decode cX7_moveAll 62 = .ok (.bipush 32, 2) := by decide +kernel
theorem dX7_moveAll_64 : decode cX7_moveAll 64 = .ok (.irem, 1) := by decide +kernel
theorem dX7_moveAll_65 : decode cX7_moveAll 65 = .ok (.invokevirtual 164, 3) := by decide +kernel
theorem dX7_moveAll_68 : decode cX7_moveAll 68 = .ok (.istore 5, 2) := by decide +kernel
theorem dX7_moveAll_70 : decode cX7_moveAll 70 = .ok (.iload 5, 2) := by decide +kernel
theorem dX7_moveAll_72 : decode cX7_moveAll 72 = .ok (.bipush (-9), 2) := by decide +kernel
theorem dX7_moveAll_74 : decode cX7_moveAll 74 = .ok (.if_icmp .ne 6, 3) := by decide +kernel
theorem dX7_moveAll_77 : decode cX7_moveAll 77 = .ok (.bipush (-3), 2) := by decide +kernel
theorem dX7_moveAll_79 : decode cX7_moveAll 79 = .ok (.ireturn, 1) := by decide +kernel
theorem dX7_moveAll_80 : decode cX7_moveAll 80 = .ok (.aload_n 0, 1) := by decide +kernel
theorem dX7_moveAll_81 : decode cX7_moveAll 81 = .ok (.getfield 39, 3) := by decide +kernel
theorem dX7_moveAll_84 : decode cX7_moveAll 84 = .ok (.iload 5, 2) := by decide +kernel
theorem dX7_moveAll_86 : decode cX7_moveAll 86 = .ok (.iconst 1, 1) := by decide +kernel
theorem dX7_moveAll_87 : decode cX7_moveAll 87 = .ok (.bastore, 1) := by decide +kernel
theorem dX7_moveAll_88 : decode cX7_moveAll 88 = .ok (.iload_n 3, 1) := by decide +kernel
theorem dX7_moveAll_89 : decode cX7_moveAll 89 = .ok (.iload 5, 2) := by decide +kernel
theorem dX7_moveAll_91 : decode cX7_moveAll 91 = .ok (.iload 4, 2) := by decide +kernel
theorem dX7_moveAll_93 : decode cX7_moveAll 93 = .ok (.if_icmp .ne 7, 3) := by decide +kernel
theorem dX7_moveAll_96 : decode cX7_moveAll 96 = .ok (.iconst 0, 1) := by decide +kernel
theorem dX7_moveAll_97 : decode cX7_moveAll 97 = .ok (.goto 4, 3) := by decide +kernel
theorem dX7_moveAll_100 : decode cX7_moveAll 100 = .ok (.iconst 1, 1) := by decide +kernel
theorem dX7_moveAll_101 : decode cX7_moveAll 101 = .ok (.iadd, 1) := by decide +kernel
theorem dX7_moveAll_102 : decode cX7_moveAll 102 = .ok (.istore_n 3, 1) := by decide +kernel
theorem dX7_moveAll_103 : decode cX7_moveAll 103 = .ok (.iinc 4 1, 3) := by decide +kernel
theorem dX7_moveAll_106 : decode cX7_moveAll 106 = .ok (.goto (-76), 3) := by decide +kernel
theorem dX7_moveAll_109 : decode cX7_moveAll 109 = .ok (.aload_n 0, 1) := by decide +kernel
theorem dX7_moveAll_110 : decode cX7_moveAll 110 = .ok (.invokevirtual 167, 3) := by decide +kernel
theorem dX7_moveAll_113 : decode cX7_moveAll 113 = .ok (.iconst 0, 1) := by decide +kernel
theorem dX7_moveAll_114 : decode cX7_moveAll 114 = .ok (.istore 4, 2) := by decide +kernel
theorem dX7_moveAll_116 : decode cX7_moveAll 116 = .ok (.iload 4, 2) := by decide +kernel
theorem dX7_moveAll_118 : decode cX7_moveAll 118 = .ok (.sipush 768, 3) := by decide +kernel
theorem dX7_moveAll_121 : decode cX7_moveAll 121 = .ok (.if_icmp .ge 23, 3) := by decide +kernel
theorem dX7_moveAll_124 : decode cX7_moveAll 124 = .ok (.aload_n 0, 1) := by decide +kernel
theorem dX7_moveAll_125 : decode cX7_moveAll 125 = .ok (.getfield 13, 3) := by decide +kernel
theorem dX7_moveAll_128 : decode cX7_moveAll 128 = .ok (.iload 4, 2) := by decide +kernel
theorem dX7_moveAll_130 : decode cX7_moveAll 130 = .ok (.aload_n 0, 1) := by decide +kernel
theorem dX7_moveAll_131 : decode cX7_moveAll 131 = .ok (.getfield 39, 3) := by decide +kernel
theorem dX7_moveAll_134 : decode cX7_moveAll 134 = .ok (.iload 4, 2) := by decide +kernel
theorem dX7_moveAll_136 : decode cX7_moveAll 136 = .ok (.baload, 1) := by decide +kernel
theorem dX7_moveAll_137 : decode cX7_moveAll 137 = .ok (.bastore, 1) := by decide +kernel
theorem dX7_moveAll_138 : decode cX7_moveAll 138 = .ok (.iinc 4 1, 3) := by decide +kernel
theorem dX7_moveAll_141 : decode cX7_moveAll 141 = .ok (.goto (-25), 3) := by decide +kernel
theorem dX7_moveAll_144 : decode cX7_moveAll 144 = .ok (.iload_n 3, 1) := by decide +kernel
theorem dX7_moveAll_145 : decode cX7_moveAll 145 = .ok (.ireturn, 1) := by decide +kernel
theorem dX7_shear_0 : decode cX7_shear 0 = .ok (.iload_n 1, 1) := by decide +kernel
theorem dX7_shear_1 : decode cX7_shear 1 = .ok (.invokestatic 124, 3) := by decide +kernel
theorem dX7_shear_4 : decode cX7_shear 4 = .ok (.ifCond .eq 19, 3) := by decide +kernel
theorem dX7_shear_7 : decode cX7_shear 7 = .ok (.iload_n 2, 1) := by decide +kernel
theorem dX7_shear_8 : decode cX7_shear 8 = .ok (.invokestatic 127, 3) := by decide +kernel
theorem dX7_shear_11 : decode cX7_shear 11 = .ok (.ifCond .eq 12, 3) := by decide +kernel
theorem dX7_shear_14 : decode cX7_shear 14 = .ok (.aload_n 0, 1) := by decide +kernel
theorem dX7_shear_15 : decode cX7_shear 15 = .ok (.iload_n 1, 1) := by decide +kernel
theorem dX7_shear_16 : decode cX7_shear 16 = .ok (.iload_n 2, 1) := by decide +kernel
theorem dX7_shear_17 : decode cX7_shear 17 = .ok (.invokevirtual 170, 3) := by decide +kernel
theorem dX7_shear_20 : decode cX7_shear 20 = .ok (.goto 5, 3) := by decide +kernel
theorem dX7_shear_23 : decode cX7_shear 23 = .ok (.bipush (-2), 2) := by decide +kernel
theorem dX7_shear_25 : decode cX7_shear 25 = .ok (.ireturn, 1) := by decide +kernel
theorem dX7_back_0 : decode cX7_back 0 = .ok (.aload_n 0, 1) := by decide +kernel
theorem dX7_back_1 : decode cX7_back 1 = .ok (.getfield 81, 3) := by decide +kernel
theorem dX7_back_4 : decode cX7_back 4 = .ok (.ifCond .ne 6, 3) := by decide +kernel
theorem dX7_back_7 : decode cX7_back 7 = .ok (.bipush (-3), 2) := by decide +kernel
theorem dX7_back_9 : decode cX7_back 9 = .ok (.ireturn, 1) := by decide +kernel
theorem dX7_back_10 : decode cX7_back 10 = .ok (.aload_n 0, 1) := by decide +kernel
theorem dX7_back_11 : decode cX7_back 11 = .ok (.dup, 1) := by decide +kernel
theorem dX7_back_12 : decode cX7_back 12 = .ok (.getfield 81, 3) := by decide +kernel
theorem dX7_back_15 : decode cX7_back 15 = .ok (.iconst 1, 1) := by decide +kernel
theorem dX7_back_16 : decode cX7_back 16 = .ok (.isub, 1) := by decide +kernel
theorem dX7_back_17 : decode cX7_back 17 = .ok (.putfield 81, 3) := by decide +kernel
theorem dX7_back_20 : decode cX7_back 20 = .ok (.iconst 0, 1) := by decide +kernel
theorem dX7_back_21 : decode cX7_back 21 = .ok (.istore_n 1, 1) := by decide +kernel
theorem dX7_back_22 : decode cX7_back 22 = .ok (.iload_n 1, 1) := by decide +kernel
theorem dX7_back_23 : decode cX7_back 23 = .ok (.sipush 768, 3) := by decide +kernel
theorem dX7_back_26 : decode cX7_back 26 = .ok (.if_icmp .ge 30, 3) := by decide +kernel
theorem dX7_back_29 : decode cX7_back 29 = .ok (.aload_n 0, 1) := by decide +kernel
theorem dX7_back_30 : decode cX7_back 30 = .ok (.getfield 13, 3) := by decide +kernel
theorem dX7_back_33 : decode cX7_back 33 = .ok (.iload_n 1, 1) := by decide +kernel
theorem dX7_back_34 : decode cX7_back 34 = .ok (.aload_n 0, 1) := by decide +kernel
theorem dX7_back_35 : decode cX7_back 35 = .ok (.getfield 36, 3) := by decide +kernel
theorem dX7_back_38 : decode cX7_back 38 = .ok (.sipush 768, 3) := by decide +kernel
theorem dX7_back_41 : decode cX7_back 41 = .ok (.aload_n 0, 1) := by decide +kernel
theorem dX7_back_42 : decode cX7_back 42 = .ok (.getfield 81, 3) := by decide +kernel
theorem dX7_back_45 : decode cX7_back 45 = .ok (.imul, 1) := by decide +kernel
theorem dX7_back_46 : decode cX7_back 46 = .ok (.iload_n 1, 1) := by decide +kernel
theorem dX7_back_47 : decode cX7_back 47 = .ok (.iadd, 1) := by decide +kernel
theorem dX7_back_48 : decode cX7_back 48 = .ok (.baload, 1) := by decide +kernel
theorem dX7_back_49 : decode cX7_back 49 = .ok (.bastore, 1) := by decide +kernel
theorem dX7_back_50 : decode cX7_back 50 = .ok (.iinc 1 1, 3) := by decide +kernel
theorem dX7_back_53 : decode cX7_back 53 = .ok (.goto (-31), 3) := by decide +kernel
theorem dX7_back_56 : decode cX7_back 56 = .ok (.aload_n 0, 1) := by decide +kernel
theorem dX7_back_57 : decode cX7_back 57 = .ok (.getfield 81, 3) := by decide +kernel
theorem dX7_back_60 : decode cX7_back 60 = .ok (.ireturn, 1) := by decide +kernel
theorem dX7_findRuns_0 : decode cX7_findRuns 0 = .ok (.aload_n 0, 1) := by decide +kernel
theorem dX7_findRuns_1 : decode cX7_findRuns 1 = .ok (.iconst 0, 1) := by decide +kernel
theorem dX7_findRuns_2 : decode cX7_findRuns 2 = .ok (.putfield 173, 3) := by decide +kernel
theorem dX7_findRuns_5 : decode cX7_findRuns 5 = .ok (.iconst 0, 1) := by decide +kernel
theorem dX7_findRuns_6 : decode cX7_findRuns 6 = .ok (.istore_n 1, 1) := by decide +kernel
theorem dX7_findRuns_7 : decode cX7_findRuns 7 = .ok (.iload_n 1, 1) := by decide +kernel
theorem dX7_findRuns_8 : decode cX7_findRuns 8 = .ok (.bipush 32, 2) := by decide +kernel
theorem dX7_findRuns_10 : decode cX7_findRuns 10 = .ok (.if_icmp .ge 120, 3) := by decide +kernel
theorem dX7_findRuns_13 : decode cX7_findRuns 13 = .ok (.iconst 0, 1) := by decide +kernel
theorem dX7_findRuns_14 : decode cX7_findRuns 14 = .ok (.istore_n 2, 1) := by decide +kernel
theorem dX7_findRuns_15 : decode cX7_findRuns 15 = .ok (.iload_n 2, 1) := by decide +kernel
theorem dX7_findRuns_16 : decode cX7_findRuns 16 = .ok (.aload_n 0, 1) := by decide +kernel
theorem dX7_findRuns_17 : decode cX7_findRuns 17 = .ok (.getfield 7, 3) := by decide +kernel
theorem dX7_findRuns_20 : decode cX7_findRuns 20 = .ok (.if_icmp .ge 104, 3) := by decide +kernel
theorem dX7_findRuns_23 : decode cX7_findRuns 23 = .ok (.aload_n 0, 1) := by decide +kernel
theorem dX7_findRuns_24 : decode cX7_findRuns 24 = .ok (.iload_n 2, 1) := by decide +kernel
theorem dX7_findRuns_25 : decode cX7_findRuns 25 = .ok (.iload_n 1, 1) := by decide +kernel
theorem dX7_findRuns_26 : decode cX7_findRuns 26 = .ok (.invokevirtual 88, 3) := by decide +kernel
theorem dX7_findRuns_29 : decode cX7_findRuns 29 = .ok (.ifCond .eq 65, 3) := by decide +kernel
theorem dX7_findRuns_32 : decode cX7_findRuns 32 = .ok (.aload_n 0, 1) := by decide +kernel
theorem dX7_findRuns_33 : decode cX7_findRuns 33 = .ok (.iload_n 2, 1) := by decide +kernel
theorem dX7_findRuns_34 : decode cX7_findRuns 34 = .ok (.iconst 1, 1) := by decide +kernel
theorem dX7_findRuns_35 : decode cX7_findRuns 35 = .ok (.isub, 1) := by decide +kernel
theorem dX7_findRuns_36 : decode cX7_findRuns 36 = .ok (.iload_n 1, 1) := by decide +kernel
theorem dX7_findRuns_37 : decode cX7_findRuns 37 = .ok (.invokevirtual 88, 3) := by decide +kernel
theorem dX7_findRuns_40 : decode cX7_findRuns 40 = .ok (.ifCond .ne 54, 3) := by decide +kernel
theorem dX7_findRuns_43 : decode cX7_findRuns 43 = .ok (.aload_n 0, 1) := by decide +kernel
theorem dX7_findRuns_44 : decode cX7_findRuns 44 = .ok (.getfield 42, 3) := by decide +kernel
theorem dX7_findRuns_47 : decode cX7_findRuns 47 = .ok (.aload_n 0, 1) := by decide +kernel
theorem dX7_findRuns_48 : decode cX7_findRuns 48 = .ok (.getfield 173, 3) := by decide +kernel
theorem dX7_findRuns_51 : decode cX7_findRuns 51 = .ok (.iload_n 1, 1) := by decide +kernel
theorem dX7_findRuns_52 : decode cX7_findRuns 52 = .ok (.iastore, 1) := by decide +kernel
theorem dX7_findRuns_53 : decode cX7_findRuns 53 = .ok (.aload_n 0, 1) := by decide +kernel
theorem dX7_findRuns_54 : decode cX7_findRuns 54 = .ok (.getfield 45, 3) := by decide +kernel
theorem dX7_findRuns_57 : decode cX7_findRuns 57 = .ok (.aload_n 0, 1) := by decide +kernel
theorem dX7_findRuns_58 : decode cX7_findRuns 58 = .ok (.getfield 173, 3) := by decide +kernel
theorem dX7_findRuns_61 : decode cX7_findRuns 61 = .ok (.iload_n 2, 1) := by decide +kernel
theorem dX7_findRuns_62 : decode cX7_findRuns 62 = .ok (.iastore, 1) := by decide +kernel
theorem dX7_findRuns_63 : decode cX7_findRuns 63 = .ok (.aload_n 0, 1) := by decide +kernel
theorem dX7_findRuns_64 : decode cX7_findRuns 64 = .ok (.getfield 48, 3) := by decide +kernel
theorem dX7_findRuns_67 : decode cX7_findRuns 67 = .ok (.aload_n 0, 1) := by decide +kernel
theorem dX7_findRuns_68 : decode cX7_findRuns 68 = .ok (.getfield 173, 3) := by decide +kernel
theorem dX7_findRuns_71 : decode cX7_findRuns 71 = .ok (.iconst 0, 1) := by decide +kernel
theorem dX7_findRuns_72 : decode cX7_findRuns 72 = .ok (.iastore, 1) := by decide +kernel
theorem dX7_findRuns_73 : decode cX7_findRuns 73 = .ok (.aload_n 0, 1) := by decide +kernel
theorem dX7_findRuns_74 : decode cX7_findRuns 74 = .ok (.getfield 51, 3) := by decide +kernel
theorem dX7_findRuns_77 : decode cX7_findRuns 77 = .ok (.aload_n 0, 1) := by decide +kernel
theorem dX7_findRuns_78 : decode cX7_findRuns 78 = .ok (.getfield 173, 3) := by decide +kernel
theorem dX7_findRuns_81 : decode cX7_findRuns 81 = .ok (.bipush (-9), 2) := by decide +kernel
theorem dX7_findRuns_83 : decode cX7_findRuns 83 = .ok (.iastore, 1) := by decide +kernel
theorem dX7_findRuns_84 : decode cX7_findRuns 84 = .ok (.aload_n 0, 1) := by decide +kernel
theorem dX7_findRuns_85 : decode cX7_findRuns 85 = .ok (.dup, 1) := by decide +kernel
theorem dX7_findRuns_86 : decode cX7_findRuns 86 = .ok (.getfield 173, 3) := by decide +kernel
theorem dX7_findRuns_89 : decode cX7_findRuns 89 = .ok (.iconst 1, 1) := by decide +kernel
theorem dX7_findRuns_90 : decode cX7_findRuns 90 = .ok (.iadd, 1) := by decide +kernel
theorem dX7_findRuns_91 : decode cX7_findRuns 91 = .ok (.putfield 173, 3) := by decide +kernel
theorem dX7_findRuns_94 : decode cX7_findRuns 94 = .ok (.aload_n 0, 1) := by decide +kernel
theorem dX7_findRuns_95 : decode cX7_findRuns 95 = .ok (.iload_n 2, 1) := by decide +kernel
theorem dX7_findRuns_96 : decode cX7_findRuns 96 = .ok (.iload_n 1, 1) := by decide +kernel
theorem dX7_findRuns_97 : decode cX7_findRuns 97 = .ok (.invokevirtual 88, 3) := by decide +kernel
theorem dX7_findRuns_100 : decode cX7_findRuns 100 = .ok (.ifCond .eq 18, 3) := by decide +kernel
theorem dX7_findRuns_103 : decode cX7_findRuns 103 = .ok (.aload_n 0, 1) := by decide +kernel
theorem dX7_findRuns_104 : decode cX7_findRuns 104 = .ok (.getfield 48, 3) := by decide +kernel
theorem dX7_findRuns_107 : decode cX7_findRuns 107 = .ok (.aload_n 0, 1) := by decide +kernel
theorem dX7_findRuns_108 : decode cX7_findRuns 108 = .ok (.getfield 173, 3) := by decide +kernel
theorem dX7_findRuns_111 : decode cX7_findRuns 111 = .ok (.iconst 1, 1) := by decide +kernel
theorem dX7_findRuns_112 : decode cX7_findRuns 112 = .ok (.isub, 1) := by decide +kernel
theorem dX7_findRuns_113 : decode cX7_findRuns 113 = .ok (.dup2, 1) := by decide +kernel
theorem dX7_findRuns_114 : decode cX7_findRuns 114 = .ok (.iaload, 1) := by decide +kernel
theorem dX7_findRuns_115 : decode cX7_findRuns 115 = .ok (.iconst 1, 1) := by decide +kernel
theorem dX7_findRuns_116 : decode cX7_findRuns 116 = .ok (.iadd, 1) := by decide +kernel
theorem dX7_findRuns_117 : decode cX7_findRuns 117 = .ok (.iastore, 1) := by decide +kernel
theorem dX7_findRuns_118 : decode cX7_findRuns 118 = .ok (.iinc 2 1, 3) := by decide +kernel
theorem dX7_findRuns_121 : decode cX7_findRuns 121 = .ok (.goto (-106), 3) := by decide +kernel
theorem dX7_findRuns_124 : decode cX7_findRuns 124 = .ok (.iinc 1 1, 3) := by decide +kernel
theorem dX7_findRuns_127 : decode cX7_findRuns 127 = .ok (.goto (-120), 3) := by decide +kernel
theorem dX7_findRuns_130 : decode cX7_findRuns 130 = .ok (.return_, 1) := by decide +kernel
theorem dX7_areTouching_0 : decode cX7_areTouching 0 = .ok (.aload_n 0, 1) := by decide +kernel
theorem dX7_areTouching_1 : decode cX7_areTouching 1 = .ok (.getfield 42, 3) := by decide +kernel
theorem dX7_areTouching_4 : decode cX7_areTouching 4 = .ok (.iload_n 1, 1) := by decide +kernel
theorem dX7_areTouching_5 : decode cX7_areTouching 5 = .ok (.iaload, 1) := by decide +kernel
theorem dX7_areTouching_6 : decode cX7_areTouching 6 = .ok (.aload_n 0, 1) := by decide +kernel
theorem dX7_areTouching_7 : decode cX7_areTouching 7 = .ok (.getfield 42, 3) := by decide +kernel
theorem dX7_areTouching_10 : decode cX7_areTouching 10 = .ok (.iload_n 2, 1) := by decide +kernel
theorem dX7_areTouching_11 : decode cX7_areTouching 11 = .ok (.iaload, 1) := by decide +kernel
theorem dX7_areTouching_12 : decode cX7_areTouching 12 = .ok (.isub, 1) := by decide +kernel
theorem dX7_areTouching_13 : decode cX7_areTouching 13 = .ok (.istore_n 3, 1) := by decide +kernel
theorem dX7_areTouching_14 : decode cX7_areTouching 14 = .ok (.iload_n 3, 1) := by decide +kernel
theorem dX7_areTouching_15 : decode cX7_areTouching 15 = .ok (.iconst 1, 1) := by decide +kernel
theorem dX7_areTouching_16 : decode cX7_areTouching 16 = .ok (.if_icmp .eq 8, 3) := by decide +kernel
theorem dX7_areTouching_19 : decode cX7_areTouching 19 = .ok (.iload_n 3, 1) := by decide +kernel
theorem dX7_areTouching_20 : decode cX7_areTouching 20 = .ok (.iconst (-1), 1) := by decide +kernel
theorem dX7_areTouching_21 : decode cX7_areTouching 21 = .ok (.if_icmp .ne 7, 3) := by decide +kernel
theorem dX7_areTouching_24 : decode cX7_areTouching 24 = .ok (.iconst 1, 1) := by decide +kernel
theorem dX7_areTouching_25 : decode cX7_areTouching 25 = .ok (.goto 4, 3) := by decide +kernel
theorem dX7_areTouching_28 : decode cX7_areTouching 28 = .ok (.iconst 0, 1) := by decide +kernel
theorem dX7_areTouching_29 : decode cX7_areTouching 29 = .ok (.istore 4, 2) := by decide +kernel
theorem dX7_areTouching_31 : decode cX7_areTouching 31 = .ok (.iload 4, 2) := by decide +kernel
theorem dX7_areTouching_33 : decode cX7_areTouching 33 = .ok (.ifCond .eq 51, 3) := by decide +kernel
theorem dX7_areTouching_36 : decode cX7_areTouching 36 = .ok (.aload_n 0, 1) := by decide +kernel
theorem dX7_areTouching_37 : decode cX7_areTouching 37 = .ok (.getfield 45, 3) := by decide +kernel
theorem dX7_areTouching_40 : decode cX7_areTouching 40 = .ok (.iload_n 1, 1) := by decide +kernel
theorem dX7_areTouching_41 : decode cX7_areTouching 41 = .ok (.iaload, 1) := by decide +kernel
theorem dX7_areTouching_42 : decode cX7_areTouching 42 = .ok (.aload_n 0, 1) := by decide +kernel
theorem dX7_areTouching_43 : decode cX7_areTouching 43 = .ok (.getfield 45, 3) := by decide +kernel
theorem dX7_areTouching_46 : decode cX7_areTouching 46 = .ok (.iload_n 2, 1) := by decide +kernel
theorem dX7_areTouching_47 : decode cX7_areTouching 47 = .ok (.iaload, 1) := by decide +kernel
theorem dX7_areTouching_48 : decode cX7_areTouching 48 = .ok (.aload_n 0, 1) := by decide +kernel
theorem dX7_areTouching_49 : decode cX7_areTouching 49 = .ok (.getfield 48, 3) := by decide +kernel
theorem dX7_areTouching_52 : decode cX7_areTouching 52 = .ok (.iload_n 2, 1) := by decide +kernel
theorem dX7_areTouching_53 : decode cX7_areTouching 53 = .ok (.iaload, 1) := by decide +kernel
theorem dX7_areTouching_54 : decode cX7_areTouching 54 = .ok (.iadd, 1) := by decide +kernel
theorem dX7_areTouching_55 : decode cX7_areTouching 55 = .ok (.if_icmp .gt 29, 3) := by decide +kernel
theorem dX7_areTouching_58 : decode cX7_areTouching 58 = .ok (.aload_n 0, 1) := by decide +kernel
theorem dX7_areTouching_59 : decode cX7_areTouching 59 = .ok (.getfield 45, 3) := by decide +kernel
theorem dX7_areTouching_62 : decode cX7_areTouching 62 = .ok (.iload_n 2, 1) := by decide +kernel
theorem dX7_areTouching_63 : decode cX7_areTouching 63 = .ok (.iaload, 1) := by decide +kernel
theorem dX7_areTouching_64 : decode cX7_areTouching 64 = .ok (.aload_n 0, 1) := by decide +kernel
theorem dX7_areTouching_65 : decode cX7_areTouching 65 = .ok (.getfield 45, 3) := by decide +kernel
theorem dX7_areTouching_68 : decode cX7_areTouching 68 = .ok (.iload_n 1, 1) := by decide +kernel
theorem dX7_areTouching_69 : decode cX7_areTouching 69 = .ok (.iaload, 1) := by decide +kernel
theorem dX7_areTouching_70 : decode cX7_areTouching 70 = .ok (.aload_n 0, 1) := by decide +kernel
theorem dX7_areTouching_71 : decode cX7_areTouching 71 = .ok (.getfield 48, 3) := by decide +kernel
theorem dX7_areTouching_74 : decode cX7_areTouching 74 = .ok (.iload_n 1, 1) := by decide +kernel
theorem dX7_areTouching_75 : decode cX7_areTouching 75 = .ok (.iaload, 1) := by decide +kernel
theorem dX7_areTouching_76 : decode cX7_areTouching 76 = .ok (.iadd, 1) := by decide +kernel
theorem dX7_areTouching_77 : decode cX7_areTouching 77 = .ok (.if_icmp .gt 7, 3) := by decide +kernel
theorem dX7_areTouching_80 : decode cX7_areTouching 80 = .ok (.iconst 1, 1) := by decide +kernel
theorem dX7_areTouching_81 : decode cX7_areTouching 81 = .ok (.goto 4, 3) := by decide +kernel
theorem dX7_areTouching_84 : decode cX7_areTouching 84 = .ok (.iconst 0, 1) := by decide +kernel
theorem dX7_areTouching_85 : decode cX7_areTouching 85 = .ok (.ireturn, 1) := by decide +kernel
theorem dX7_spreads_0 : decode cX7_spreads 0 = .ok (.iconst 1, 1) := by decide +kernel
theorem dX7_spreads_1 : decode cX7_spreads 1 = .ok (.istore_n 2, 1) := by decide +kernel
theorem dX7_spreads_2 : decode cX7_spreads 2 = .ok (.iload_n 2, 1) := by decide +kernel
theorem dX7_spreads_3 : decode cX7_spreads 3 = .ok (.ifCond .eq 83, 3) := by decide +kernel
theorem dX7_spreads_6 : decode cX7_spreads 6 = .ok (.iconst 0, 1) := by decide +kernel
theorem dX7_spreads_7 : decode cX7_spreads 7 = .ok (.istore_n 2, 1) := by decide +kernel
theorem dX7_spreads_8 : decode cX7_spreads 8 = .ok (.iconst 0, 1) := by decide +kernel
theorem dX7_spreads_9 : decode cX7_spreads 9 = .ok (.istore_n 3, 1) := by decide +kernel
theorem dX7_spreads_10 : decode cX7_spreads 10 = .ok (.iload_n 3, 1) := by decide +kernel
theorem dX7_spreads_11 : decode cX7_spreads 11 = .ok (.aload_n 0, 1) := by decide +kernel
theorem dX7_spreads_12 : decode cX7_spreads 12 = .ok (.getfield 173, 3) := by decide +kernel
theorem dX7_spreads_15 : decode cX7_spreads 15 = .ok (.if_icmp .ge 68, 3) := by decide +kernel
theorem dX7_spreads_18 : decode cX7_spreads 18 = .ok (.iconst 0, 1) := by decide +kernel
theorem dX7_spreads_19 : decode cX7_spreads 19 = .ok (.istore 4, 2) := by decide +kernel
theorem dX7_spreads_21 : decode cX7_spreads 21 = .ok (.iload 4, 2) := by decide +kernel
theorem dX7_spreads_23 : decode cX7_spreads 23 = .ok (.aload_n 0, 1) := by decide +kernel
theorem dX7_spreads_24 : decode cX7_spreads 24 = .ok (.getfield 173, 3) := by decide +kernel
theorem dX7_spreads_27 : decode cX7_spreads 27 = .ok (.if_icmp .ge 50, 3) := by decide +kernel
theorem dX7_spreads_30 : decode cX7_spreads 30 = .ok (.aload_n 0, 1) := by decide +kernel
theorem dX7_spreads_31 : decode cX7_spreads 31 = .ok (.getfield 51, 3) := by decide +kernel
theorem dX7_spreads_34 : decode cX7_spreads 34 = .ok (.iload_n 3, 1) := by decide +kernel
theorem dX7_spreads_35 : decode cX7_spreads 35 = .ok (.iaload, 1) := by decide +kernel
theorem dX7_spreads_36 : decode cX7_spreads 36 = .ok (.bipush (-9), 2) := by decide +kernel
theorem dX7_spreads_38 : decode cX7_spreads 38 = .ok (.if_icmp .ne 39, 3) := by decide +kernel
theorem dX7_spreads_41 : decode cX7_spreads 41 = .ok (.aload_n 0, 1) := by decide +kernel
theorem dX7_spreads_42 : decode cX7_spreads 42 = .ok (.getfield 51, 3) := by decide +kernel
theorem dX7_spreads_45 : decode cX7_spreads 45 = .ok (.iload 4, 2) := by decide +kernel
theorem dX7_spreads_47 : decode cX7_spreads 47 = .ok (.iaload, 1) := by decide +kernel
theorem dX7_spreads_48 : decode cX7_spreads 48 = .ok (.iload_n 1, 1) := by decide +kernel
theorem dX7_spreads_49 : decode cX7_spreads 49 = .ok (.if_icmp .ne 22, 3) := by decide +kernel
theorem dX7_spreads_52 : decode cX7_spreads 52 = .ok (.aload_n 0, 1) := by decide +kernel
theorem dX7_spreads_53 : decode cX7_spreads 53 = .ok (.iload_n 3, 1) := by decide +kernel
theorem dX7_spreads_54 : decode cX7_spreads 54 = .ok (.iload 4, 2) := by decide +kernel
theorem dX7_spreads_56 : decode cX7_spreads 56 = .ok (.invokevirtual 176, 3) := by decide +kernel
theorem dX7_spreads_59 : decode cX7_spreads 59 = .ok (.ifCond .eq 12, 3) := by decide +kernel
theorem dX7_spreads_62 : decode cX7_spreads 62 = .ok (.aload_n 0, 1) := by decide +kernel
theorem dX7_spreads_63 : decode cX7_spreads 63 = .ok (.getfield 51, 3) := by decide +kernel
theorem dX7_spreads_66 : decode cX7_spreads 66 = .ok (.iload_n 3, 1) := by decide +kernel
theorem dX7_spreads_67 : decode cX7_spreads 67 = .ok (.iload_n 1, 1) := by decide +kernel
theorem dX7_spreads_68 : decode cX7_spreads 68 = .ok (.iastore, 1) := by decide +kernel
theorem dX7_spreads_69 : decode cX7_spreads 69 = .ok (.iconst 1, 1) := by decide +kernel
theorem dX7_spreads_70 : decode cX7_spreads 70 = .ok (.istore_n 2, 1) := by decide +kernel
theorem dX7_spreads_71 : decode cX7_spreads 71 = .ok (.iinc 4 1, 3) := by decide +kernel
theorem dX7_spreads_74 : decode cX7_spreads 74 = .ok (.goto (-53), 3) := by decide +kernel
theorem dX7_spreads_77 : decode cX7_spreads 77 = .ok (.iinc 3 1, 3) := by decide +kernel
theorem dX7_spreads_80 : decode cX7_spreads 80 = .ok (.goto (-70), 3) := by decide +kernel
theorem dX7_spreads_83 : decode cX7_spreads 83 = .ok (.goto (-81), 3) := by decide +kernel
theorem dX7_spreads_86 : decode cX7_spreads 86 = .ok (.return_, 1) := by decide +kernel
theorem dX7_findStrokes_0 : decode cX7_findStrokes 0 = .ok (.aload_n 0, 1) := by decide +kernel
theorem dX7_findStrokes_1 : decode cX7_findStrokes 1 = .ok (.invokevirtual 179, 3) := by decide +kernel
theorem dX7_findStrokes_4 : decode cX7_findStrokes 4 = .ok (.aload_n 0, 1) := by decide +kernel
theorem dX7_findStrokes_5 : decode cX7_findStrokes 5 = .ok (.iconst 0, 1) := by decide +kernel
theorem dX7_findStrokes_6 : decode cX7_findStrokes 6 = .ok (.putfield 182, 3) := by decide +kernel
theorem dX7_findStrokes_9 : decode cX7_findStrokes 9 = .ok (.iconst 0, 1) := by decide +kernel
theorem dX7_findStrokes_10 : decode cX7_findStrokes 10 = .ok (.istore_n 1, 1) := by decide +kernel
theorem dX7_findStrokes_11 : decode cX7_findStrokes 11 = .ok (.iload_n 1, 1) := by decide +kernel
theorem dX7_findStrokes_12 : decode cX7_findStrokes 12 = .ok (.aload_n 0, 1) := by decide +kernel
theorem dX7_findStrokes_13 : decode cX7_findStrokes 13 = .ok (.getfield 173, 3) := by decide +kernel
theorem dX7_findStrokes_16 : decode cX7_findStrokes 16 = .ok (.if_icmp .ge 48, 3) := by decide +kernel
theorem dX7_findStrokes_19 : decode cX7_findStrokes 19 = .ok (.aload_n 0, 1) := by decide +kernel
theorem dX7_findStrokes_20 : decode cX7_findStrokes 20 = .ok (.getfield 51, 3) := by decide +kernel
theorem dX7_findStrokes_23 : decode cX7_findStrokes 23 = .ok (.iload_n 1, 1) := by decide +kernel
theorem dX7_findStrokes_24 : decode cX7_findStrokes 24 = .ok (.iaload, 1) := by decide +kernel
theorem dX7_findStrokes_25 : decode cX7_findStrokes 25 = .ok (.bipush (-9), 2) := by decide +kernel
theorem dX7_findStrokes_27 : decode cX7_findStrokes 27 = .ok (.if_icmp .ne 31, 3) := by decide +kernel
theorem dX7_findStrokes_30 : decode cX7_findStrokes 30 = .ok (.aload_n 0, 1) := by decide +kernel
theorem dX7_findStrokes_31 : decode cX7_findStrokes 31 = .ok (.getfield 51, 3) := by decide +kernel
theorem dX7_findStrokes_34 : decode cX7_findStrokes 34 = .ok (.iload_n 1, 1) := by decide +kernel
theorem dX7_findStrokes_35 : decode cX7_findStrokes 35 = .ok (.aload_n 0, 1) := by decide +kernel
theorem dX7_findStrokes_36 : decode cX7_findStrokes 36 = .ok (.getfield 182, 3) := by decide +kernel
theorem dX7_findStrokes_39 : decode cX7_findStrokes 39 = .ok (.iastore, 1) := by decide +kernel
theorem dX7_findStrokes_40 : decode cX7_findStrokes 40 = .ok (.aload_n 0, 1) := by decide +kernel
theorem dX7_findStrokes_41 : decode cX7_findStrokes 41 = .ok (.aload_n 0, 1) := by decide +kernel
theorem dX7_findStrokes_42 : decode cX7_findStrokes 42 = .ok (.getfield 182, 3) := by decide +kernel
theorem dX7_findStrokes_45 : decode cX7_findStrokes 45 = .ok (.invokevirtual 185, 3) := by decide +kernel
theorem dX7_findStrokes_48 : decode cX7_findStrokes 48 = .ok (.aload_n 0, 1) := by decide +kernel
theorem dX7_findStrokes_49 : decode cX7_findStrokes 49 = .ok (.dup, 1) := by decide +kernel
theorem dX7_findStrokes_50 : decode cX7_findStrokes 50 = .ok (.getfield 182, 3) := by decide +kernel
theorem dX7_findStrokes_53 : decode cX7_findStrokes 53 = .ok (.iconst 1, 1) := by decide +kernel
theorem dX7_findStrokes_54 : decode cX7_findStrokes 54 = .ok (.iadd, 1) := by decide +kernel
theorem dX7_findStrokes_55 : decode cX7_findStrokes 55 = .ok (.putfield 182, 3) := by decide +kernel
theorem dX7_findStrokes_58 : decode cX7_findStrokes 58 = .ok (.iinc 1 1, 3) := by decide +kernel
theorem dX7_findStrokes_61 : decode cX7_findStrokes 61 = .ok (.goto (-50), 3) := by decide +kernel
theorem dX7_findStrokes_64 : decode cX7_findStrokes 64 = .ok (.return_, 1) := by decide +kernel
theorem dX7_run_0 : decode cX7_run 0 = .ok (.aload_n 0, 1) := by decide +kernel
theorem dX7_run_1 : decode cX7_run 1 = .ok (.invokevirtual 188, 3) := by decide +kernel
theorem dX7_run_4 : decode cX7_run 4 = .ok (.iload_n 1, 1) := by decide +kernel
theorem dX7_run_5 : decode cX7_run 5 = .ok (.iconst 0, 1) := by decide +kernel
theorem dX7_run_6 : decode cX7_run 6 = .ok (.aload_n 0, 1) := by decide +kernel
theorem dX7_run_7 : decode cX7_run 7 = .ok (.getfield 173, 3) := by decide +kernel
theorem dX7_run_10 : decode cX7_run 10 = .ok (.iconst 1, 1) := by decide +kernel
theorem dX7_run_11 : decode cX7_run 11 = .ok (.isub, 1) := by decide +kernel
theorem dX7_run_12 : decode cX7_run 12 = .ok (.invokestatic 66, 3) := by decide +kernel
theorem dX7_run_15 : decode cX7_run 15 = .ok (.ifCond .ne 5, 3) := by decide +kernel
theorem dX7_run_18 : decode cX7_run 18 = .ok (.iconst (-1), 1) := by decide +kernel
theorem dX7_run_19 : decode cX7_run 19 = .ok (.ireturn, 1) := by decide +kernel
theorem dX7_run_20 : decode cX7_run 20 = .ok (.iload_n 2, 1) := by decide +kernel
theorem dX7_run_21 : decode cX7_run 21 = .ok (.tableswitch 59 0 3 #[31, 38, 45, 52], 31) := by decide +kernel
theorem dX7_run_52 : decode cX7_run 52 = .ok (.aload_n 0, 1) := by decide +kernel
theorem dX7_run_53 : decode cX7_run 53 = .ok (.getfield 42, 3) := by decide +kernel
theorem dX7_run_56 : decode cX7_run 56 = .ok (.iload_n 1, 1) := by decide +kernel
theorem dX7_run_57 : decode cX7_run 57 = .ok (.iaload, 1) := by decide +kernel
theorem dX7_run_58 : decode cX7_run 58 = .ok (.ireturn, 1) := by decide +kernel
theorem dX7_run_59 : decode cX7_run 59 = .ok (.aload_n 0, 1) := by decide +kernel
theorem dX7_run_60 : decode cX7_run 60 = .ok (.getfield 45, 3) := by decide +kernel
theorem dX7_run_63 : decode cX7_run 63 = .ok (.iload_n 1, 1) := by decide +kernel
theorem dX7_run_64 : decode cX7_run 64 = .ok (.iaload, 1) := by decide +kernel
theorem dX7_run_65 : decode cX7_run 65 = .ok (.ireturn, 1) := by decide +kernel
theorem dX7_run_66 : decode cX7_run 66 = .ok (.aload_n 0, 1) := by decide +kernel
theorem dX7_run_67 : decode cX7_run 67 = .ok (.getfield 48, 3) := by decide +kernel
theorem dX7_run_70 : decode cX7_run 70 = .ok (.iload_n 1, 1) := by decide +kernel
theorem dX7_run_71 : decode cX7_run 71 = .ok (.iaload, 1) := by decide +kernel
theorem dX7_run_72 : decode cX7_run 72 = .ok (.ireturn, 1) := by decide +kernel
theorem dX7_run_73 : decode cX7_run 73 = .ok (.aload_n 0, 1) := by decide +kernel
theorem dX7_run_74 : decode cX7_run 74 = .ok (.getfield 51, 3) := by decide +kernel
theorem dX7_run_77 : decode cX7_run 77 = .ok (.iload_n 1, 1) := by decide +kernel
theorem dX7_run_78 : decode cX7_run 78 = .ok (.iaload, 1) := by decide +kernel
theorem dX7_run_79 : decode cX7_run 79 = .ok (.ireturn, 1) := by decide +kernel
theorem dX7_run_80 : decode cX7_run 80 = .ok (.bipush (-2), 2) := by decide +kernel
theorem dX7_run_82 : decode cX7_run 82 = .ok (.ireturn, 1) := by decide +kernel
theorem dX7_stroke_0 : decode cX7_stroke 0 = .ok (.aload_n 0, 1) := by decide +kernel
theorem dX7_stroke_1 : decode cX7_stroke 1 = .ok (.invokevirtual 188, 3) := by decide +kernel
theorem dX7_stroke_4 : decode cX7_stroke 4 = .ok (.iload_n 1, 1) := by decide +kernel
theorem dX7_stroke_5 : decode cX7_stroke 5 = .ok (.iconst 0, 1) := by decide +kernel
theorem dX7_stroke_6 : decode cX7_stroke 6 = .ok (.aload_n 0, 1) := by decide +kernel
theorem dX7_stroke_7 : decode cX7_stroke 7 = .ok (.getfield 182, 3) := by decide +kernel
theorem dX7_stroke_10 : decode cX7_stroke 10 = .ok (.iconst 1, 1) := by decide +kernel
theorem dX7_stroke_11 : decode cX7_stroke 11 = .ok (.isub, 1) := by decide +kernel
theorem dX7_stroke_12 : decode cX7_stroke 12 = .ok (.invokestatic 66, 3) := by decide +kernel
theorem dX7_stroke_15 : decode cX7_stroke 15 = .ok (.ifCond .ne 5, 3) := by decide +kernel
theorem dX7_stroke_18 : decode cX7_stroke 18 = .ok (.iconst (-1), 1) := by decide +kernel
theorem dX7_stroke_19 : decode cX7_stroke 19 = .ok (.ireturn, 1) := by decide +kernel
theorem dX7_stroke_20 : decode cX7_stroke 20 = .ok (.iload_n 2, 1) := by decide +kernel
theorem dX7_stroke_21 : decode cX7_stroke 21 = .ok (.iconst 0, 1) := by decide +kernel
theorem dX7_stroke_22 : decode cX7_stroke 22 = .ok (.iconst 5, 1) := by decide +kernel
theorem dX7_stroke_23 : decode cX7_stroke 23 = .ok (.invokestatic 66, 3) := by decide +kernel
theorem dX7_stroke_26 : decode cX7_stroke 26 = .ok (.ifCond .ne 6, 3) := by decide +kernel
theorem dX7_stroke_29 : decode cX7_stroke 29 = .ok (.bipush (-2), 2) := by decide +kernel
theorem dX7_stroke_31 : decode cX7_stroke 31 = .ok (.ireturn, 1) := by decide +kernel
theorem dX7_stroke_32 : decode cX7_stroke 32 = .ok (.iconst 0, 1) := by decide +kernel
theorem dX7_stroke_33 : decode cX7_stroke 33 = .ok (.istore_n 3, 1) := by decide +kernel
theorem dX7_stroke_34 : decode cX7_stroke 34 = .ok (.iconst 0, 1) := by decide +kernel
theorem dX7_stroke_35 : decode cX7_stroke 35 = .ok (.istore 4, 2) := by decide +kernel
theorem dX7_stroke_37 : decode cX7_stroke 37 = .ok (.bipush 32, 2) := by decide +kernel
theorem dX7_stroke_39 : decode cX7_stroke 39 = .ok (.istore 5, 2) := by decide +kernel
theorem dX7_stroke_41 : decode cX7_stroke 41 = .ok (.iconst (-1), 1) := by decide +kernel
theorem dX7_stroke_42 : decode cX7_stroke 42 = .ok (.istore 6, 2) := by decide +kernel
theorem dX7_stroke_44 : decode cX7_stroke 44 = .ok (.bipush 24, 2) := by decide +kernel
theorem dX7_stroke_46 : decode cX7_stroke 46 = .ok (.istore 7, 2) := by decide +kernel
theorem dX7_stroke_48 : decode cX7_stroke 48 = .ok (.iconst (-1), 1) := by decide +kernel
theorem dX7_stroke_49 : decode cX7_stroke 49 = .ok (.istore 8, 2) := by decide +kernel
theorem dX7_stroke_51 : decode cX7_stroke 51 = .ok (.iconst 0, 1) := by decide +kernel
theorem dX7_stroke_52 : decode cX7_stroke 52 = .ok (.istore 9, 2) := by decide +kernel
theorem dX7_stroke_54 : decode cX7_stroke 54 = .ok (.iload 9, 2) := by decide +kernel
theorem dX7_stroke_56 : decode cX7_stroke 56 = .ok (.aload_n 0, 1) := by decide +kernel
theorem dX7_stroke_57 : decode cX7_stroke 57 = .ok (.getfield 173, 3) := by decide +kernel
theorem dX7_stroke_60 : decode cX7_stroke 60 = .ok (.if_icmp .ge 146, 3) := by decide +kernel
theorem dX7_stroke_63 : decode cX7_stroke 63 = .ok (.aload_n 0, 1) := by decide +kernel
theorem dX7_stroke_64 : decode cX7_stroke 64 = .ok (.getfield 51, 3) := by decide +kernel
theorem dX7_stroke_67 : decode cX7_stroke 67 = .ok (.iload 9, 2) := by decide +kernel
theorem dX7_stroke_69 : decode cX7_stroke 69 = .ok (.iaload, 1) := by decide +kernel
theorem dX7_stroke_70 : decode cX7_stroke 70 = .ok (.iload_n 1, 1) := by decide +kernel
theorem dX7_stroke_71 : decode cX7_stroke 71 = .ok (.if_icmp .ne 129, 3) := by decide +kernel
theorem dX7_stroke_74 : decode cX7_stroke 74 = .ok (.aload_n 0, 1) := by decide +kernel
theorem dX7_stroke_75 : decode cX7_stroke 75 = .ok (.getfield 45, 3) := by decide +kernel
theorem dX7_stroke_78 : decode cX7_stroke 78 = .ok (.iload 9, 2) := by decide +kernel
theorem dX7_stroke_80 : decode cX7_stroke 80 = .ok (.iaload, 1) := by decide +kernel
theorem dX7_stroke_81 : decode cX7_stroke 81 = .ok (.aload_n 0, 1) := by decide +kernel
theorem dX7_stroke_82 : decode cX7_stroke 82 = .ok (.getfield 48, 3) := by decide +kernel
theorem dX7_stroke_85 : decode cX7_stroke 85 = .ok (.iload 9, 2) := by decide +kernel
theorem dX7_stroke_87 : decode cX7_stroke 87 = .ok (.iaload, 1) := by decide +kernel
theorem dX7_stroke_88 : decode cX7_stroke 88 = .ok (.iadd, 1) := by decide +kernel
theorem dX7_stroke_89 : decode cX7_stroke 89 = .ok (.iconst 1, 1) := by decide +kernel
theorem dX7_stroke_90 : decode cX7_stroke 90 = .ok (.isub, 1) := by decide +kernel
theorem dX7_stroke_91 : decode cX7_stroke 91 = .ok (.istore 10, 2) := by decide +kernel
theorem dX7_stroke_93 : decode cX7_stroke 93 = .ok (.iload_n 3, 1) := by decide +kernel
theorem dX7_stroke_94 : decode cX7_stroke 94 = .ok (.aload_n 0, 1) := by decide +kernel
theorem dX7_stroke_95 : decode cX7_stroke 95 = .ok (.getfield 48, 3) := by decide +kernel
theorem dX7_stroke_98 : decode cX7_stroke 98 = .ok (.iload 9, 2) := by decide +kernel
theorem dX7_stroke_100 : decode cX7_stroke 100 = .ok (.iaload, 1) := by decide +kernel
theorem dX7_stroke_101 : decode cX7_stroke 101 = .ok (.iadd, 1) := by decide +kernel
theorem dX7_stroke_102 : decode cX7_stroke 102 = .ok (.istore_n 3, 1) := by decide +kernel
theorem dX7_stroke_103 : decode cX7_stroke 103 = .ok (.iinc 4 1, 3) := by decide +kernel
theorem dX7_stroke_106 : decode cX7_stroke 106 = .ok (.aload_n 0, 1) := by decide +kernel
theorem dX7_stroke_107 : decode cX7_stroke 107 = .ok (.getfield 42, 3) := by decide +kernel
theorem dX7_stroke_110 : decode cX7_stroke 110 = .ok (.iload 9, 2) := by decide +kernel
theorem dX7_stroke_112 : decode cX7_stroke 112 = .ok (.iaload, 1) := by decide +kernel
theorem dX7_stroke_113 : decode cX7_stroke 113 = .ok (.iload 5, 2) := by decide +kernel
theorem dX7_stroke_115 : decode cX7_stroke 115 = .ok (.if_icmp .ge 13, 3) := by decide +kernel
theorem dX7_stroke_118 : decode cX7_stroke 118 = .ok (.aload_n 0, 1) := by decide +kernel
theorem dX7_stroke_119 : decode cX7_stroke 119 = .ok (.getfield 42, 3) := by decide +kernel
theorem dX7_stroke_122 : decode cX7_stroke 122 = .ok (.iload 9, 2) := by decide +kernel
theorem dX7_stroke_124 : decode cX7_stroke 124 = .ok (.iaload, 1) := by decide +kernel
theorem dX7_stroke_125 : decode cX7_stroke 125 = .ok (.goto 5, 3) := by decide +kernel
theorem dX7_stroke_128 : decode cX7_stroke 128 = .ok (.iload 5, 2) := by decide +kernel
theorem dX7_stroke_130 : decode cX7_stroke 130 = .ok (.istore 5, 2) := by decide +kernel
theorem dX7_stroke_132 : decode cX7_stroke 132 = .ok (.aload_n 0, 1) := by decide +kernel
theorem dX7_stroke_133 : decode cX7_stroke 133 = .ok (.getfield 42, 3) := by decide +kernel
theorem dX7_stroke_136 : decode cX7_stroke 136 = .ok (.iload 9, 2) := by decide +kernel
theorem dX7_stroke_138 : decode cX7_stroke 138 = .ok (.iaload, 1) := by decide +kernel
theorem dX7_stroke_139 : decode cX7_stroke 139 = .ok (.iload 6, 2) := by decide +kernel
theorem dX7_stroke_141 : decode cX7_stroke 141 = .ok (.if_icmp .le 13, 3) := by decide +kernel
theorem dX7_stroke_144 : decode cX7_stroke 144 = .ok (.aload_n 0, 1) := by decide +kernel
theorem dX7_stroke_145 : decode cX7_stroke 145 = .ok (.getfield 42, 3) := by decide +kernel
theorem dX7_stroke_148 : decode cX7_stroke 148 = .ok (.iload 9, 2) := by decide +kernel
theorem dX7_stroke_150 : decode cX7_stroke 150 = .ok (.iaload, 1) := by decide +kernel
theorem dX7_stroke_151 : decode cX7_stroke 151 = .ok (.goto 5, 3) := by decide +kernel
theorem dX7_stroke_154 : decode cX7_stroke 154 = .ok (.iload 6, 2) := by decide +kernel
theorem dX7_stroke_156 : decode cX7_stroke 156 = .ok (.istore 6, 2) := by decide +kernel
theorem dX7_stroke_158 : decode cX7_stroke 158 = .ok (.aload_n 0, 1) := by decide +kernel
theorem dX7_stroke_159 : decode cX7_stroke 159 = .ok (.getfield 45, 3) := by decide +kernel
theorem dX7_stroke_162 : decode cX7_stroke 162 = .ok (.iload 9, 2) := by decide +kernel
theorem dX7_stroke_164 : decode cX7_stroke 164 = .ok (.iaload, 1) := by decide +kernel
theorem dX7_stroke_165 : decode cX7_stroke 165 = .ok (.iload 7, 2) := by decide +kernel
theorem dX7_stroke_167 : decode cX7_stroke 167 = .ok (.if_icmp .ge 13, 3) := by decide +kernel
theorem dX7_stroke_170 : decode cX7_stroke 170 = .ok (.aload_n 0, 1) := by decide +kernel
theorem dX7_stroke_171 : decode cX7_stroke 171 = .ok (.getfield 45, 3) := by decide +kernel
theorem dX7_stroke_174 : decode cX7_stroke 174 = .ok (.iload 9, 2) := by decide +kernel
theorem dX7_stroke_176 : decode cX7_stroke 176 = .ok (.iaload, 1) := by decide +kernel
theorem dX7_stroke_177 : decode cX7_stroke 177 = .ok (.goto 5, 3) := by decide +kernel
theorem dX7_stroke_180 : decode cX7_stroke 180 = .ok (.iload 7, 2) := by decide +kernel
theorem dX7_stroke_182 : decode cX7_stroke 182 = .ok (.istore 7, 2) := by decide +kernel
theorem dX7_stroke_184 : decode cX7_stroke 184 = .ok (.iload 10, 2) := by decide +kernel
theorem dX7_stroke_186 : decode cX7_stroke 186 = .ok (.iload 8, 2) := by decide +kernel
theorem dX7_stroke_188 : decode cX7_stroke 188 = .ok (.if_icmp .le 8, 3) := by decide +kernel
theorem dX7_stroke_191 : decode cX7_stroke 191 = .ok (.iload 10, 2) := by decide +kernel
theorem dX7_stroke_193 : decode cX7_stroke 193 = .ok (.goto 5, 3) := by decide +kernel
theorem dX7_stroke_196 : decode cX7_stroke 196 = .ok (.iload 8, 2) := by decide +kernel
theorem dX7_stroke_198 : decode cX7_stroke 198 = .ok (.istore 8, 2) := by decide +kernel
theorem dX7_stroke_200 : decode cX7_stroke 200 = .ok (.iinc 9 1, 3) := by decide +kernel
theorem dX7_stroke_203 : decode cX7_stroke 203 = .ok (.goto (-149), 3) := by decide +kernel
theorem dX7_stroke_206 : decode cX7_stroke 206 = .ok (.iload_n 2, 1) := by decide +kernel
theorem dX7_stroke_207 : decode cX7_stroke 207 = .ok (.tableswitch 47 0 4 #[33, 35, 38, 41, 44], 33) := by decide +kernel
theorem dX7_stroke_240 : decode cX7_stroke 240 = .ok (.iload_n 3, 1) := by decide +kernel
theorem dX7_stroke_241 : decode cX7_stroke 241 = .ok (.ireturn, 1) := by decide +kernel
theorem dX7_stroke_242 : decode cX7_stroke 242 = .ok (.iload 4, 2) := by decide +kernel
theorem dX7_stroke_244 : decode cX7_stroke 244 = .ok (.ireturn, 1) := by decide +kernel
theorem dX7_stroke_245 : decode cX7_stroke 245 = .ok (.iload 5, 2) := by decide +kernel
theorem dX7_stroke_247 : decode cX7_stroke 247 = .ok (.ireturn, 1) := by decide +kernel
theorem dX7_stroke_248 : decode cX7_stroke 248 = .ok (.iload 6, 2) := by decide +kernel
theorem dX7_stroke_250 : decode cX7_stroke 250 = .ok (.ireturn, 1) := by decide +kernel
theorem dX7_stroke_251 : decode cX7_stroke 251 = .ok (.iload 7, 2) := by decide +kernel
theorem dX7_stroke_253 : decode cX7_stroke 253 = .ok (.ireturn, 1) := by decide +kernel
theorem dX7_stroke_254 : decode cX7_stroke 254 = .ok (.iload 8, 2) := by decide +kernel
theorem dX7_stroke_256 : decode cX7_stroke 256 = .ok (.ireturn, 1) := by decide +kernel
theorem dX7_isFoot_0 : decode cX7_isFoot 0 = .ok (.aload_n 0, 1) := by decide +kernel
theorem dX7_isFoot_1 : decode cX7_isFoot 1 = .ok (.iload_n 1, 1) := by decide +kernel
theorem dX7_isFoot_2 : decode cX7_isFoot 2 = .ok (.iload_n 2, 1) := by decide +kernel
theorem dX7_isFoot_3 : decode cX7_isFoot 3 = .ok (.invokevirtual 88, 3) := by decide +kernel
theorem dX7_isFoot_6 : decode cX7_isFoot 6 = .ok (.ifCond .eq 18, 3) := by decide +kernel
theorem dX7_isFoot_9 : decode cX7_isFoot 9 = .ok (.aload_n 0, 1) := by decide +kernel
theorem dX7_isFoot_10 : decode cX7_isFoot 10 = .ok (.iload_n 1, 1) := by decide +kernel
theorem dX7_isFoot_11 : decode cX7_isFoot 11 = .ok (.iload_n 2, 1) := by decide +kernel
theorem dX7_isFoot_12 : decode cX7_isFoot 12 = .ok (.iconst 1, 1) := by decide +kernel
theorem dX7_isFoot_13 : decode cX7_isFoot 13 = .ok (.iadd, 1) := by decide +kernel
theorem dX7_isFoot_14 : decode cX7_isFoot 14 = .ok (.invokevirtual 88, 3) := by decide +kernel
theorem dX7_isFoot_17 : decode cX7_isFoot 17 = .ok (.ifCond .ne 7, 3) := by decide +kernel
theorem dX7_isFoot_20 : decode cX7_isFoot 20 = .ok (.iconst 1, 1) := by decide +kernel
theorem dX7_isFoot_21 : decode cX7_isFoot 21 = .ok (.goto 4, 3) := by decide +kernel
theorem dX7_isFoot_24 : decode cX7_isFoot 24 = .ok (.iconst 0, 1) := by decide +kernel
theorem dX7_isFoot_25 : decode cX7_isFoot 25 = .ok (.ireturn, 1) := by decide +kernel
theorem dX7_leadsAt_0 : decode cX7_leadsAt 0 = .ok (.aload_n 0, 1) := by decide +kernel
theorem dX7_leadsAt_1 : decode cX7_leadsAt 1 = .ok (.iload_n 1, 1) := by decide +kernel
theorem dX7_leadsAt_2 : decode cX7_leadsAt 2 = .ok (.invokevirtual 70, 3) := by decide +kernel
theorem dX7_leadsAt_5 : decode cX7_leadsAt 5 = .ok (.ifCond .eq 24, 3) := by decide +kernel
theorem dX7_leadsAt_8 : decode cX7_leadsAt 8 = .ok (.iload_n 2, 1) := by decide +kernel
theorem dX7_leadsAt_9 : decode cX7_leadsAt 9 = .ok (.invokestatic 74, 3) := by decide +kernel
theorem dX7_leadsAt_12 : decode cX7_leadsAt 12 = .ok (.ifCond .eq 17, 3) := by decide +kernel
theorem dX7_leadsAt_15 : decode cX7_leadsAt 15 = .ok (.aload_n 0, 1) := by decide +kernel
theorem dX7_leadsAt_16 : decode cX7_leadsAt 16 = .ok (.getfield 54, 3) := by decide +kernel
theorem dX7_leadsAt_19 : decode cX7_leadsAt 19 = .ok (.bipush 32, 2) := by decide +kernel
theorem dX7_leadsAt_21 : decode cX7_leadsAt 21 = .ok (.iload_n 1, 1) := by decide +kernel
theorem dX7_leadsAt_22 : decode cX7_leadsAt 22 = .ok (.imul, 1) := by decide +kernel
theorem dX7_leadsAt_23 : decode cX7_leadsAt 23 = .ok (.iload_n 2, 1) := by decide +kernel
theorem dX7_leadsAt_24 : decode cX7_leadsAt 24 = .ok (.iadd, 1) := by decide +kernel
theorem dX7_leadsAt_25 : decode cX7_leadsAt 25 = .ok (.iaload, 1) := by decide +kernel
theorem dX7_leadsAt_26 : decode cX7_leadsAt 26 = .ok (.goto 4, 3) := by decide +kernel
theorem dX7_leadsAt_29 : decode cX7_leadsAt 29 = .ok (.iconst 0, 1) := by decide +kernel
theorem dX7_leadsAt_30 : decode cX7_leadsAt 30 = .ok (.ireturn, 1) := by decide +kernel
theorem dX7_findLeads_0 : decode cX7_findLeads 0 = .ok (.aload_n 0, 1) := by decide +kernel
theorem dX7_findLeads_1 : decode cX7_findLeads 1 = .ok (.getfield 7, 3) := by decide +kernel
theorem dX7_findLeads_4 : decode cX7_findLeads 4 = .ok (.iconst 1, 1) := by decide +kernel
theorem dX7_findLeads_5 : decode cX7_findLeads 5 = .ok (.isub, 1) := by decide +kernel
theorem dX7_findLeads_6 : decode cX7_findLeads 6 = .ok (.istore_n 1, 1) := by decide +kernel
theorem dX7_findLeads_7 : decode cX7_findLeads 7 = .ok (.iload_n 1, 1) := by decide +kernel
theorem dX7_findLeads_8 : decode cX7_findLeads 8 = .ok (.ifCond .lt 95, 3) := by decide +kernel
theorem dX7_findLeads_11 : decode cX7_findLeads 11 = .ok (.iconst 0, 1) := by decide +kernel
theorem dX7_findLeads_12 : decode cX7_findLeads 12 = .ok (.istore_n 2, 1) := by decide +kernel
theorem dX7_findLeads_13 : decode cX7_findLeads 13 = .ok (.iload_n 2, 1) := by decide +kernel
theorem dX7_findLeads_14 : decode cX7_findLeads 14 = .ok (.bipush 32, 2) := by decide +kernel
theorem dX7_findLeads_16 : decode cX7_findLeads 16 = .ok (.if_icmp .ge 81, 3) := by decide +kernel
theorem dX7_findLeads_19 : decode cX7_findLeads 19 = .ok (.iconst 0, 1) := by decide +kernel
theorem dX7_findLeads_20 : decode cX7_findLeads 20 = .ok (.istore_n 3, 1) := by decide +kernel
theorem dX7_findLeads_21 : decode cX7_findLeads 21 = .ok (.iload_n 2, 1) := by decide +kernel
theorem dX7_findLeads_22 : decode cX7_findLeads 22 = .ok (.iconst 1, 1) := by decide +kernel
theorem dX7_findLeads_23 : decode cX7_findLeads 23 = .ok (.isub, 1) := by decide +kernel
theorem dX7_findLeads_24 : decode cX7_findLeads 24 = .ok (.istore 4, 2) := by decide +kernel
theorem dX7_findLeads_26 : decode cX7_findLeads 26 = .ok (.iload 4, 2) := by decide +kernel
theorem dX7_findLeads_28 : decode cX7_findLeads 28 = .ok (.iload_n 2, 1) := by decide +kernel
theorem dX7_findLeads_29 : decode cX7_findLeads 29 = .ok (.iconst 1, 1) := by decide +kernel
theorem dX7_findLeads_30 : decode cX7_findLeads 30 = .ok (.iadd, 1) := by decide +kernel
theorem dX7_findLeads_31 : decode cX7_findLeads 31 = .ok (.if_icmp .gt 33, 3) := by decide +kernel
theorem dX7_findLeads_34 : decode cX7_findLeads 34 = .ok (.aload_n 0, 1) := by decide +kernel
theorem dX7_findLeads_35 : decode cX7_findLeads 35 = .ok (.iload_n 1, 1) := by decide +kernel
theorem dX7_findLeads_36 : decode cX7_findLeads 36 = .ok (.iconst 1, 1) := by decide +kernel
theorem dX7_findLeads_37 : decode cX7_findLeads 37 = .ok (.iadd, 1) := by decide +kernel
theorem dX7_findLeads_38 : decode cX7_findLeads 38 = .ok (.iload 4, 2) := by decide +kernel
theorem dX7_findLeads_40 : decode cX7_findLeads 40 = .ok (.invokevirtual 191, 3) := by decide +kernel
theorem dX7_findLeads_43 : decode cX7_findLeads 43 = .ok (.istore 5, 2) := by decide +kernel
theorem dX7_findLeads_45 : decode cX7_findLeads 45 = .ok (.iload 5, 2) := by decide +kernel
theorem dX7_findLeads_47 : decode cX7_findLeads 47 = .ok (.iload_n 3, 1) := by decide +kernel
theorem dX7_findLeads_48 : decode cX7_findLeads 48 = .ok (.if_icmp .le 8, 3) := by decide +kernel
theorem dX7_findLeads_51 : decode cX7_findLeads 51 = .ok (.iload 5, 2) := by decide +kernel
theorem dX7_findLeads_53 : decode cX7_findLeads 53 = .ok (.goto 4, 3) := by decide +kernel
theorem dX7_findLeads_56 : decode cX7_findLeads 56 = .ok (.iload_n 3, 1) := by decide +kernel
theorem dX7_findLeads_57 : decode cX7_findLeads 57 = .ok (.istore_n 3, 1) := by decide +kernel
theorem dX7_findLeads_58 : decode cX7_findLeads 58 = .ok (.iinc 4 1, 3) := by decide +kernel
theorem dX7_findLeads_61 : decode cX7_findLeads 61 = .ok (.goto (-35), 3) := by decide +kernel
theorem dX7_findLeads_64 : decode cX7_findLeads 64 = .ok (.aload_n 0, 1) := by decide +kernel
theorem dX7_findLeads_65 : decode cX7_findLeads 65 = .ok (.getfield 54, 3) := by decide +kernel
theorem dX7_findLeads_68 : decode cX7_findLeads 68 = .ok (.bipush 32, 2) := by decide +kernel
theorem dX7_findLeads_70 : decode cX7_findLeads 70 = .ok (.iload_n 1, 1) := by decide +kernel
theorem dX7_findLeads_71 : decode cX7_findLeads 71 = .ok (.imul, 1) := by decide +kernel
theorem dX7_findLeads_72 : decode cX7_findLeads 72 = .ok (.iload_n 2, 1) := by decide +kernel
theorem dX7_findLeads_73 : decode cX7_findLeads 73 = .ok (.iadd, 1) := by decide +kernel
theorem dX7_findLeads_74 : decode cX7_findLeads 74 = .ok (.aload_n 0, 1) := by decide +kernel
theorem dX7_findLeads_75 : decode cX7_findLeads 75 = .ok (.iload_n 1, 1) := by decide +kernel
theorem dX7_findLeads_76 : decode cX7_findLeads 76 = .ok (.iload_n 2, 1) := by decide +kernel
theorem dX7_findLeads_77 : decode cX7_findLeads 77 = .ok (.invokevirtual 194, 3) := by decide +kernel
theorem dX7_findLeads_80 : decode cX7_findLeads 80 = .ok (.ifCond .eq 9, 3) := by decide +kernel
theorem dX7_findLeads_83 : decode cX7_findLeads 83 = .ok (.iload_n 3, 1) := by decide +kernel
theorem dX7_findLeads_84 : decode cX7_findLeads 84 = .ok (.iconst 1, 1) := by decide +kernel
theorem dX7_findLeads_85 : decode cX7_findLeads 85 = .ok (.iadd, 1) := by decide +kernel
theorem dX7_findLeads_86 : decode cX7_findLeads 86 = .ok (.goto 4, 3) := by decide +kernel
theorem dX7_findLeads_89 : decode cX7_findLeads 89 = .ok (.iconst 0, 1) := by decide +kernel
theorem dX7_findLeads_90 : decode cX7_findLeads 90 = .ok (.iastore, 1) := by decide +kernel
theorem dX7_findLeads_91 : decode cX7_findLeads 91 = .ok (.iinc 2 1, 3) := by decide +kernel
theorem dX7_findLeads_94 : decode cX7_findLeads 94 = .ok (.goto (-81), 3) := by decide +kernel
theorem dX7_findLeads_97 : decode cX7_findLeads 97 = .ok (.iinc 1 (-1), 3) := by decide +kernel
theorem dX7_findLeads_100 : decode cX7_findLeads 100 = .ok (.goto (-93), 3) := by decide +kernel
theorem dX7_findLeads_103 : decode cX7_findLeads 103 = .ok (.return_, 1) := by decide +kernel
theorem dX7_lowest_0 : decode cX7_lowest 0 = .ok (.iload_n 3, 1) := by decide +kernel
theorem dX7_lowest_1 : decode cX7_lowest 1 = .ok (.istore 5, 2) := by decide +kernel
theorem dX7_lowest_3 : decode cX7_lowest 3 = .ok (.iload 5, 2) := by decide +kernel
theorem dX7_lowest_5 : decode cX7_lowest 5 = .ok (.iload_n 2, 1) := by decide +kernel
theorem dX7_lowest_6 : decode cX7_lowest 6 = .ok (.if_icmp .lt 24, 3) := by decide +kernel
theorem dX7_lowest_9 : decode cX7_lowest 9 = .ok (.aload_n 0, 1) := by decide +kernel
theorem dX7_lowest_10 : decode cX7_lowest 10 = .ok (.iload_n 1, 1) := by decide +kernel
theorem dX7_lowest_11 : decode cX7_lowest 11 = .ok (.iload 5, 2) := by decide +kernel
theorem dX7_lowest_13 : decode cX7_lowest 13 = .ok (.invokevirtual 191, 3) := by decide +kernel
theorem dX7_lowest_16 : decode cX7_lowest 16 = .ok (.iload 4, 2) := by decide +kernel
theorem dX7_lowest_18 : decode cX7_lowest 18 = .ok (.if_icmp .ne 6, 3) := by decide +kernel
theorem dX7_lowest_21 : decode cX7_lowest 21 = .ok (.iload 5, 2) := by decide +kernel
theorem dX7_lowest_23 : decode cX7_lowest 23 = .ok (.ireturn, 1) := by decide +kernel
theorem dX7_lowest_24 : decode cX7_lowest 24 = .ok (.iinc 5 (-1), 3) := by decide +kernel
theorem dX7_lowest_27 : decode cX7_lowest 27 = .ok (.goto (-24), 3) := by decide +kernel
theorem dX7_lowest_30 : decode cX7_lowest 30 = .ok (.bipush (-9), 2) := by decide +kernel
theorem dX7_lowest_32 : decode cX7_lowest 32 = .ok (.ireturn, 1) := by decide +kernel
theorem dX7_findBaseline_0 : decode cX7_findBaseline 0 = .ok (.aload_n 0, 1) := by decide +kernel
theorem dX7_findBaseline_1 : decode cX7_findBaseline 1 = .ok (.invokevirtual 197, 3) := by decide +kernel
theorem dX7_findBaseline_4 : decode cX7_findBaseline 4 = .ok (.aload_n 0, 1) := by decide +kernel
theorem dX7_findBaseline_5 : decode cX7_findBaseline 5 = .ok (.iconst 0, 1) := by decide +kernel
theorem dX7_findBaseline_6 : decode cX7_findBaseline 6 = .ok (.putfield 200, 3) := by decide +kernel
theorem dX7_findBaseline_9 : decode cX7_findBaseline 9 = .ok (.iconst 0, 1) := by decide +kernel
theorem dX7_findBaseline_10 : decode cX7_findBaseline 10 = .ok (.istore_n 1, 1) := by decide +kernel
theorem dX7_findBaseline_11 : decode cX7_findBaseline 11 = .ok (.iload_n 1, 1) := by decide +kernel
theorem dX7_findBaseline_12 : decode cX7_findBaseline 12 = .ok (.bipush 32, 2) := by decide +kernel
theorem dX7_findBaseline_14 : decode cX7_findBaseline 14 = .ok (.aload_n 0, 1) := by decide +kernel
theorem dX7_findBaseline_15 : decode cX7_findBaseline 15 = .ok (.getfield 7, 3) := by decide +kernel
theorem dX7_findBaseline_18 : decode cX7_findBaseline 18 = .ok (.imul, 1) := by decide +kernel
theorem dX7_findBaseline_19 : decode cX7_findBaseline 19 = .ok (.if_icmp .ge 40, 3) := by decide +kernel
theorem dX7_findBaseline_22 : decode cX7_findBaseline 22 = .ok (.aload_n 0, 1) := by decide +kernel
theorem dX7_findBaseline_23 : decode cX7_findBaseline 23 = .ok (.getfield 54, 3) := by decide +kernel
theorem dX7_findBaseline_26 : decode cX7_findBaseline 26 = .ok (.iload_n 1, 1) := by decide +kernel
theorem dX7_findBaseline_27 : decode cX7_findBaseline 27 = .ok (.iaload, 1) := by decide +kernel
theorem dX7_findBaseline_28 : decode cX7_findBaseline 28 = .ok (.aload_n 0, 1) := by decide +kernel
theorem dX7_findBaseline_29 : decode cX7_findBaseline 29 = .ok (.getfield 200, 3) := by decide +kernel
theorem dX7_findBaseline_32 : decode cX7_findBaseline 32 = .ok (.if_icmp .le 21, 3) := by decide +kernel
theorem dX7_findBaseline_35 : decode cX7_findBaseline 35 = .ok (.aload_n 0, 1) := by decide +kernel
theorem dX7_findBaseline_36 : decode cX7_findBaseline 36 = .ok (.aload_n 0, 1) := by decide +kernel
theorem dX7_findBaseline_37 : decode cX7_findBaseline 37 = .ok (.getfield 54, 3) := by decide +kernel
theorem dX7_findBaseline_40 : decode cX7_findBaseline 40 = .ok (.iload_n 1, 1) := by decide +kernel
theorem dX7_findBaseline_41 : decode cX7_findBaseline 41 = .ok (.iaload, 1) := by decide +kernel
theorem dX7_findBaseline_42 : decode cX7_findBaseline 42 = .ok (.putfield 200, 3) := by decide +kernel
theorem dX7_findBaseline_45 : decode cX7_findBaseline 45 = .ok (.aload_n 0, 1) := by decide +kernel
theorem dX7_findBaseline_46 : decode cX7_findBaseline 46 = .ok (.iload_n 1, 1) := by decide +kernel
theorem dX7_findBaseline_47 : decode cX7_findBaseline 47 = .ok (.bipush 32, 2) := by decide +kernel
theorem dX7_findBaseline_49 : decode cX7_findBaseline 49 = .ok (.idiv, 1) := by decide +kernel
theorem dX7_findBaseline_50 : decode cX7_findBaseline 50 = .ok (.putfield 203, 3) := by decide +kernel
theorem dX7_findBaseline_53 : decode cX7_findBaseline 53 = .ok (.iinc 1 1, 3) := by decide +kernel
theorem dX7_findBaseline_56 : decode cX7_findBaseline 56 = .ok (.goto (-45), 3) := by decide +kernel
theorem dX7_findBaseline_59 : decode cX7_findBaseline 59 = .ok (.iconst 0, 1) := by decide +kernel
theorem dX7_findBaseline_60 : decode cX7_findBaseline 60 = .ok (.istore_n 1, 1) := by decide +kernel
theorem dX7_findBaseline_61 : decode cX7_findBaseline 61 = .ok (.bipush 31, 2) := by decide +kernel
theorem dX7_findBaseline_63 : decode cX7_findBaseline 63 = .ok (.istore_n 2, 1) := by decide +kernel
theorem dX7_findBaseline_64 : decode cX7_findBaseline 64 = .ok (.iconst 0, 1) := by decide +kernel
theorem dX7_findBaseline_65 : decode cX7_findBaseline 65 = .ok (.istore_n 3, 1) := by decide +kernel
theorem dX7_findBaseline_66 : decode cX7_findBaseline 66 = .ok (.iload_n 3, 1) := by decide +kernel
theorem dX7_findBaseline_67 : decode cX7_findBaseline 67 = .ok (.aload_n 0, 1) := by decide +kernel
theorem dX7_findBaseline_68 : decode cX7_findBaseline 68 = .ok (.getfield 200, 3) := by decide +kernel
theorem dX7_findBaseline_71 : decode cX7_findBaseline 71 = .ok (.if_icmp .ge 52, 3) := by decide +kernel
theorem dX7_findBaseline_74 : decode cX7_findBaseline 74 = .ok (.aload_n 0, 1) := by decide +kernel
theorem dX7_findBaseline_75 : decode cX7_findBaseline 75 = .ok (.aload_n 0, 1) := by decide +kernel
theorem dX7_findBaseline_76 : decode cX7_findBaseline 76 = .ok (.getfield 203, 3) := by decide +kernel
theorem dX7_findBaseline_79 : decode cX7_findBaseline 79 = .ok (.iload_n 3, 1) := by decide +kernel
theorem dX7_findBaseline_80 : decode cX7_findBaseline 80 = .ok (.iadd, 1) := by decide +kernel
theorem dX7_findBaseline_81 : decode cX7_findBaseline 81 = .ok (.iload_n 1, 1) := by decide +kernel
theorem dX7_findBaseline_82 : decode cX7_findBaseline 82 = .ok (.iload_n 2, 1) := by decide +kernel
theorem dX7_findBaseline_83 : decode cX7_findBaseline 83 = .ok (.aload_n 0, 1) := by decide +kernel
theorem dX7_findBaseline_84 : decode cX7_findBaseline 84 = .ok (.getfield 200, 3) := by decide +kernel
theorem dX7_findBaseline_87 : decode cX7_findBaseline 87 = .ok (.iload_n 3, 1) := by decide +kernel
theorem dX7_findBaseline_88 : decode cX7_findBaseline 88 = .ok (.isub, 1) := by decide +kernel
theorem dX7_findBaseline_89 : decode cX7_findBaseline 89 = .ok (.invokevirtual 206, 3) := by decide +kernel
theorem dX7_findBaseline_92 : decode cX7_findBaseline 92 = .ok (.istore 4, 2) := by decide +kernel
theorem dX7_findBaseline_94 : decode cX7_findBaseline 94 = .ok (.aload_n 0, 1) := by decide +kernel
theorem dX7_findBaseline_95 : decode cX7_findBaseline 95 = .ok (.getfield 57, 3) := by decide +kernel
theorem dX7_findBaseline_98 : decode cX7_findBaseline 98 = .ok (.aload_n 0, 1) := by decide +kernel
theorem dX7_findBaseline_99 : decode cX7_findBaseline 99 = .ok (.getfield 203, 3) := by decide +kernel
theorem dX7_findBaseline_102 : decode cX7_findBaseline 102 = .ok (.iload_n 3, 1) := by decide +kernel
theorem dX7_findBaseline_103 : decode cX7_findBaseline 103 = .ok (.iadd, 1) := by decide +kernel
theorem dX7_findBaseline_104 : decode cX7_findBaseline 104 = .ok (.iload 4, 2) := by decide +kernel
theorem dX7_findBaseline_106 : decode cX7_findBaseline 106 = .ok (.iastore, 1) := by decide +kernel
theorem dX7_findBaseline_107 : decode cX7_findBaseline 107 = .ok (.iload 4, 2) := by decide +kernel
theorem dX7_findBaseline_109 : decode cX7_findBaseline 109 = .ok (.iconst 1, 1) := by decide +kernel
theorem dX7_findBaseline_110 : decode cX7_findBaseline 110 = .ok (.isub, 1) := by decide +kernel
theorem dX7_findBaseline_111 : decode cX7_findBaseline 111 = .ok (.istore_n 1, 1) := by decide +kernel
theorem dX7_findBaseline_112 : decode cX7_findBaseline 112 = .ok (.iload 4, 2) := by decide +kernel
theorem dX7_findBaseline_114 : decode cX7_findBaseline 114 = .ok (.iconst 1, 1) := by decide +kernel
theorem dX7_findBaseline_115 : decode cX7_findBaseline 115 = .ok (.iadd, 1) := by decide +kernel
theorem dX7_findBaseline_116 : decode cX7_findBaseline 116 = .ok (.istore_n 2, 1) := by decide +kernel
theorem dX7_findBaseline_117 : decode cX7_findBaseline 117 = .ok (.iinc 3 1, 3) := by decide +kernel
theorem dX7_findBaseline_120 : decode cX7_findBaseline 120 = .ok (.goto (-54), 3) := by decide +kernel
theorem dX7_findBaseline_123 : decode cX7_findBaseline 123 = .ok (.return_, 1) := by decide +kernel
theorem dX7_rowsTogether_0 : decode cX7_rowsTogether 0 = .ok (.iconst 0, 1) := by decide +kernel
theorem dX7_rowsTogether_1 : decode cX7_rowsTogether 1 = .ok (.istore_n 1, 1) := by decide +kernel
theorem dX7_rowsTogether_2 : decode cX7_rowsTogether 2 = .ok (.iconst 0, 1) := by decide +kernel
theorem dX7_rowsTogether_3 : decode cX7_rowsTogether 3 = .ok (.istore_n 2, 1) := by decide +kernel
theorem dX7_rowsTogether_4 : decode cX7_rowsTogether 4 = .ok (.iload_n 2, 1) := by decide +kernel
theorem dX7_rowsTogether_5 : decode cX7_rowsTogether 5 = .ok (.aload_n 0, 1) := by decide +kernel
theorem dX7_rowsTogether_6 : decode cX7_rowsTogether 6 = .ok (.getfield 200, 3) := by decide +kernel
theorem dX7_rowsTogether_9 : decode cX7_rowsTogether 9 = .ok (.if_icmp .ge 23, 3) := by decide +kernel
theorem dX7_rowsTogether_12 : decode cX7_rowsTogether 12 = .ok (.iload_n 1, 1) := by decide +kernel
theorem dX7_rowsTogether_13 : decode cX7_rowsTogether 13 = .ok (.aload_n 0, 1) := by decide +kernel
theorem dX7_rowsTogether_14 : decode cX7_rowsTogether 14 = .ok (.getfield 57, 3) := by decide +kernel
theorem dX7_rowsTogether_17 : decode cX7_rowsTogether 17 = .ok (.aload_n 0, 1) := by decide +kernel
theorem dX7_rowsTogether_18 : decode cX7_rowsTogether 18 = .ok (.getfield 203, 3) := by decide +kernel
theorem dX7_rowsTogether_21 : decode cX7_rowsTogether 21 = .ok (.iload_n 2, 1) := by decide +kernel
theorem dX7_rowsTogether_22 : decode cX7_rowsTogether 22 = .ok (.iadd, 1) := by decide +kernel
theorem dX7_rowsTogether_23 : decode cX7_rowsTogether 23 = .ok (.iaload, 1) := by decide +kernel
theorem dX7_rowsTogether_24 : decode cX7_rowsTogether 24 = .ok (.iadd, 1) := by decide +kernel
theorem dX7_rowsTogether_25 : decode cX7_rowsTogether 25 = .ok (.istore_n 1, 1) := by decide +kernel
theorem dX7_rowsTogether_26 : decode cX7_rowsTogether 26 = .ok (.iinc 2 1, 3) := by decide +kernel
theorem dX7_rowsTogether_29 : decode cX7_rowsTogether 29 = .ok (.goto (-25), 3) := by decide +kernel
theorem dX7_rowsTogether_32 : decode cX7_rowsTogether 32 = .ok (.iload_n 1, 1) := by decide +kernel
theorem dX7_rowsTogether_33 : decode cX7_rowsTogether 33 = .ok (.ireturn, 1) := by decide +kernel
theorem dX7_levelOf_0 : decode cX7_levelOf 0 = .ok (.aload_n 0, 1) := by decide +kernel
theorem dX7_levelOf_1 : decode cX7_levelOf 1 = .ok (.invokevirtual 209, 3) := by decide +kernel
theorem dX7_levelOf_4 : decode cX7_levelOf 4 = .ok (.aload_n 0, 1) := by decide +kernel
theorem dX7_levelOf_5 : decode cX7_levelOf 5 = .ok (.getfield 200, 3) := by decide +kernel
theorem dX7_levelOf_8 : decode cX7_levelOf 8 = .ok (.invokestatic 117, 3) := by decide +kernel
theorem dX7_levelOf_11 : decode cX7_levelOf 11 = .ok (.ireturn, 1) := by decide +kernel
theorem dX7_curlOf_0 : decode cX7_curlOf 0 = .ok (.aload_n 0, 1) := by decide +kernel
theorem dX7_curlOf_1 : decode cX7_curlOf 1 = .ok (.getfield 60, 3) := by decide +kernel
theorem dX7_curlOf_4 : decode cX7_curlOf 4 = .ok (.iload_n 1, 1) := by decide +kernel
theorem dX7_curlOf_5 : decode cX7_curlOf 5 = .ok (.iaload, 1) := by decide +kernel
theorem dX7_curlOf_6 : decode cX7_curlOf 6 = .ok (.ireturn, 1) := by decide +kernel
theorem dX7_findCurls_0 : decode cX7_findCurls 0 = .ok (.aload_n 0, 1) := by decide +kernel
theorem dX7_findCurls_1 : decode cX7_findCurls 1 = .ok (.getfield 203, 3) := by decide +kernel
theorem dX7_findCurls_4 : decode cX7_findCurls 4 = .ok (.aload_n 0, 1) := by decide +kernel
theorem dX7_findCurls_5 : decode cX7_findCurls 5 = .ok (.getfield 200, 3) := by decide +kernel
theorem dX7_findCurls_8 : decode cX7_findCurls 8 = .ok (.iadd, 1) := by decide +kernel
theorem dX7_findCurls_9 : decode cX7_findCurls 9 = .ok (.iconst 1, 1) := by decide +kernel
theorem dX7_findCurls_10 : decode cX7_findCurls 10 = .ok (.isub, 1) := by decide +kernel
theorem dX7_findCurls_11 : decode cX7_findCurls 11 = .ok (.istore_n 1, 1) := by decide +kernel
theorem dX7_findCurls_12 : decode cX7_findCurls 12 = .ok (.iconst 0, 1) := by decide +kernel
theorem dX7_findCurls_13 : decode cX7_findCurls 13 = .ok (.istore_n 2, 1) := by decide +kernel
theorem dX7_findCurls_14 : decode cX7_findCurls 14 = .ok (.iload_n 2, 1) := by decide +kernel
theorem dX7_findCurls_15 : decode cX7_findCurls 15 = .ok (.aload_n 0, 1) := by decide +kernel
theorem dX7_findCurls_16 : decode cX7_findCurls 16 = .ok (.getfield 7, 3) := by decide +kernel
theorem dX7_findCurls_19 : decode cX7_findCurls 19 = .ok (.if_icmp .ge 52, 3) := by decide +kernel
theorem dX7_findCurls_22 : decode cX7_findCurls 22 = .ok (.iload_n 2, 1) := by decide +kernel
theorem dX7_findCurls_23 : decode cX7_findCurls 23 = .ok (.aload_n 0, 1) := by decide +kernel
theorem dX7_findCurls_24 : decode cX7_findCurls 24 = .ok (.getfield 203, 3) := by decide +kernel
theorem dX7_findCurls_27 : decode cX7_findCurls 27 = .ok (.if_icmp .ge 10, 3) := by decide +kernel
theorem dX7_findCurls_30 : decode cX7_findCurls 30 = .ok (.aload_n 0, 1) := by decide +kernel
theorem dX7_findCurls_31 : decode cX7_findCurls 31 = .ok (.getfield 203, 3) := by decide +kernel
theorem dX7_findCurls_34 : decode cX7_findCurls 34 = .ok (.goto 13, 3) := by decide +kernel
theorem dX7_findCurls_37 : decode cX7_findCurls 37 = .ok (.iload_n 2, 1) := by decide +kernel
theorem dX7_findCurls_38 : decode cX7_findCurls 38 = .ok (.iload_n 1, 1) := by decide +kernel
theorem dX7_findCurls_39 : decode cX7_findCurls 39 = .ok (.if_icmp .le 7, 3) := by decide +kernel
theorem dX7_findCurls_42 : decode cX7_findCurls 42 = .ok (.iload_n 1, 1) := by decide +kernel
theorem dX7_findCurls_43 : decode cX7_findCurls 43 = .ok (.goto 4, 3) := by decide +kernel
theorem dX7_findCurls_46 : decode cX7_findCurls 46 = .ok (.iload_n 2, 1) := by decide +kernel
theorem dX7_findCurls_47 : decode cX7_findCurls 47 = .ok (.istore_n 3, 1) := by decide +kernel
theorem dX7_findCurls_48 : decode cX7_findCurls 48 = .ok (.aload_n 0, 1) := by decide +kernel
theorem dX7_findCurls_49 : decode cX7_findCurls 49 = .ok (.getfield 60, 3) := by decide +kernel
theorem dX7_findCurls_52 : decode cX7_findCurls 52 = .ok (.iload_n 2, 1) := by decide +kernel
theorem dX7_findCurls_53 : decode cX7_findCurls 53 = .ok (.aload_n 0, 1) := by decide +kernel
theorem dX7_findCurls_54 : decode cX7_findCurls 54 = .ok (.getfield 57, 3) := by decide +kernel
theorem dX7_findCurls_57 : decode cX7_findCurls 57 = .ok (.iload_n 3, 1) := by decide +kernel
theorem dX7_findCurls_58 : decode cX7_findCurls 58 = .ok (.iaload, 1) := by decide +kernel
theorem dX7_findCurls_59 : decode cX7_findCurls 59 = .ok (.aload_n 0, 1) := by decide +kernel
theorem dX7_findCurls_60 : decode cX7_findCurls 60 = .ok (.invokevirtual 212, 3) := by decide +kernel
theorem dX7_findCurls_63 : decode cX7_findCurls 63 = .ok (.isub, 1) := by decide +kernel
theorem dX7_findCurls_64 : decode cX7_findCurls 64 = .ok (.iastore, 1) := by decide +kernel
theorem dX7_findCurls_65 : decode cX7_findCurls 65 = .ok (.iinc 2 1, 3) := by decide +kernel
theorem dX7_findCurls_68 : decode cX7_findCurls 68 = .ok (.goto (-54), 3) := by decide +kernel
theorem dX7_findCurls_71 : decode cX7_findCurls 71 = .ok (.return_, 1) := by decide +kernel
theorem dX7_baseline_0 : decode cX7_baseline 0 = .ok (.iload_n 1, 1) := by decide +kernel
theorem dX7_baseline_1 : decode cX7_baseline 1 = .ok (.iconst 0, 1) := by decide +kernel
theorem dX7_baseline_2 : decode cX7_baseline 2 = .ok (.iconst 2, 1) := by decide +kernel
theorem dX7_baseline_3 : decode cX7_baseline 3 = .ok (.invokestatic 66, 3) := by decide +kernel
theorem dX7_baseline_6 : decode cX7_baseline 6 = .ok (.ifCond .ne 6, 3) := by decide +kernel
theorem dX7_baseline_9 : decode cX7_baseline 9 = .ok (.bipush (-2), 2) := by decide +kernel
theorem dX7_baseline_11 : decode cX7_baseline 11 = .ok (.ireturn, 1) := by decide +kernel
theorem dX7_baseline_12 : decode cX7_baseline 12 = .ok (.aload_n 0, 1) := by decide +kernel
theorem dX7_baseline_13 : decode cX7_baseline 13 = .ok (.invokevirtual 215, 3) := by decide +kernel
theorem dX7_baseline_16 : decode cX7_baseline 16 = .ok (.aload_n 0, 1) := by decide +kernel
theorem dX7_baseline_17 : decode cX7_baseline 17 = .ok (.getfield 200, 3) := by decide +kernel
theorem dX7_baseline_20 : decode cX7_baseline 20 = .ok (.ifCond .ne 6, 3) := by decide +kernel
theorem dX7_baseline_23 : decode cX7_baseline 23 = .ok (.bipush (-9), 2) := by decide +kernel
theorem dX7_baseline_25 : decode cX7_baseline 25 = .ok (.ireturn, 1) := by decide +kernel
theorem dX7_baseline_26 : decode cX7_baseline 26 = .ok (.iload_n 1, 1) := by decide +kernel
theorem dX7_baseline_27 : decode cX7_baseline 27 = .ok (.ifCond .ne 10, 3) := by decide +kernel
theorem dX7_baseline_30 : decode cX7_baseline 30 = .ok (.aload_n 0, 1) := by decide +kernel
theorem dX7_baseline_31 : decode cX7_baseline 31 = .ok (.getfield 203, 3) := by decide +kernel
theorem dX7_baseline_34 : decode cX7_baseline 34 = .ok (.goto 19, 3) := by decide +kernel
theorem dX7_baseline_37 : decode cX7_baseline 37 = .ok (.iload_n 1, 1) := by decide +kernel
theorem dX7_baseline_38 : decode cX7_baseline 38 = .ok (.iconst 1, 1) := by decide +kernel
theorem dX7_baseline_39 : decode cX7_baseline 39 = .ok (.if_icmp .ne 10, 3) := by decide +kernel
theorem dX7_baseline_42 : decode cX7_baseline 42 = .ok (.aload_n 0, 1) := by decide +kernel
theorem dX7_baseline_43 : decode cX7_baseline 43 = .ok (.getfield 200, 3) := by decide +kernel
theorem dX7_baseline_46 : decode cX7_baseline 46 = .ok (.goto 7, 3) := by decide +kernel
theorem dX7_baseline_49 : decode cX7_baseline 49 = .ok (.aload_n 0, 1) := by decide +kernel
theorem dX7_baseline_50 : decode cX7_baseline 50 = .ok (.invokevirtual 212, 3) := by decide +kernel
theorem dX7_baseline_53 : decode cX7_baseline 53 = .ok (.ireturn, 1) := by decide +kernel
theorem dX7_foot_0 : decode cX7_foot 0 = .ok (.aload_n 0, 1) := by decide +kernel
theorem dX7_foot_1 : decode cX7_foot 1 = .ok (.iload_n 1, 1) := by decide +kernel
theorem dX7_foot_2 : decode cX7_foot 2 = .ok (.invokevirtual 70, 3) := by decide +kernel
theorem dX7_foot_5 : decode cX7_foot 5 = .ok (.ifCond .ne 5, 3) := by decide +kernel
theorem dX7_foot_8 : decode cX7_foot 8 = .ok (.iconst (-1), 1) := by decide +kernel
theorem dX7_foot_9 : decode cX7_foot 9 = .ok (.ireturn, 1) := by decide +kernel
theorem dX7_foot_10 : decode cX7_foot 10 = .ok (.aload_n 0, 1) := by decide +kernel
theorem dX7_foot_11 : decode cX7_foot 11 = .ok (.invokevirtual 215, 3) := by decide +kernel
theorem dX7_foot_14 : decode cX7_foot 14 = .ok (.aload_n 0, 1) := by decide +kernel
theorem dX7_foot_15 : decode cX7_foot 15 = .ok (.getfield 200, 3) := by decide +kernel
theorem dX7_foot_18 : decode cX7_foot 18 = .ok (.ifCond .le 34, 3) := by decide +kernel
theorem dX7_foot_21 : decode cX7_foot 21 = .ok (.iload_n 1, 1) := by decide +kernel
theorem dX7_foot_22 : decode cX7_foot 22 = .ok (.aload_n 0, 1) := by decide +kernel
theorem dX7_foot_23 : decode cX7_foot 23 = .ok (.getfield 203, 3) := by decide +kernel
theorem dX7_foot_26 : decode cX7_foot 26 = .ok (.aload_n 0, 1) := by decide +kernel
theorem dX7_foot_27 : decode cX7_foot 27 = .ok (.getfield 203, 3) := by decide +kernel
theorem dX7_foot_30 : decode cX7_foot 30 = .ok (.aload_n 0, 1) := by decide +kernel
theorem dX7_foot_31 : decode cX7_foot 31 = .ok (.getfield 200, 3) := by decide +kernel
theorem dX7_foot_34 : decode cX7_foot 34 = .ok (.iadd, 1) := by decide +kernel
theorem dX7_foot_35 : decode cX7_foot 35 = .ok (.iconst 1, 1) := by decide +kernel
theorem dX7_foot_36 : decode cX7_foot 36 = .ok (.isub, 1) := by decide +kernel
theorem dX7_foot_37 : decode cX7_foot 37 = .ok (.invokestatic 66, 3) := by decide +kernel
theorem dX7_foot_40 : decode cX7_foot 40 = .ok (.ifCond .eq 12, 3) := by decide +kernel
theorem dX7_foot_43 : decode cX7_foot 43 = .ok (.aload_n 0, 1) := by decide +kernel
theorem dX7_foot_44 : decode cX7_foot 44 = .ok (.getfield 57, 3) := by decide +kernel
theorem dX7_foot_47 : decode cX7_foot 47 = .ok (.iload_n 1, 1) := by decide +kernel
theorem dX7_foot_48 : decode cX7_foot 48 = .ok (.iaload, 1) := by decide +kernel
theorem dX7_foot_49 : decode cX7_foot 49 = .ok (.goto 5, 3) := by decide +kernel
theorem dX7_foot_52 : decode cX7_foot 52 = .ok (.bipush (-9), 2) := by decide +kernel
theorem dX7_foot_54 : decode cX7_foot 54 = .ok (.ireturn, 1) := by decide +kernel
theorem dX7_curl_0 : decode cX7_curl 0 = .ok (.aload_n 0, 1) := by decide +kernel
theorem dX7_curl_1 : decode cX7_curl 1 = .ok (.iload_n 1, 1) := by decide +kernel
theorem dX7_curl_2 : decode cX7_curl 2 = .ok (.invokevirtual 70, 3) := by decide +kernel
theorem dX7_curl_5 : decode cX7_curl 5 = .ok (.ifCond .ne 5, 3) := by decide +kernel
theorem dX7_curl_8 : decode cX7_curl 8 = .ok (.iconst (-1), 1) := by decide +kernel
theorem dX7_curl_9 : decode cX7_curl 9 = .ok (.ireturn, 1) := by decide +kernel
theorem dX7_curl_10 : decode cX7_curl 10 = .ok (.aload_n 0, 1) := by decide +kernel
theorem dX7_curl_11 : decode cX7_curl 11 = .ok (.invokevirtual 215, 3) := by decide +kernel
theorem dX7_curl_14 : decode cX7_curl 14 = .ok (.aload_n 0, 1) := by decide +kernel
theorem dX7_curl_15 : decode cX7_curl 15 = .ok (.getfield 200, 3) := by decide +kernel
theorem dX7_curl_18 : decode cX7_curl 18 = .ok (.ifCond .ne 6, 3) := by decide +kernel
theorem dX7_curl_21 : decode cX7_curl 21 = .ok (.bipush (-3), 2) := by decide +kernel
theorem dX7_curl_23 : decode cX7_curl 23 = .ok (.ireturn, 1) := by decide +kernel
theorem dX7_curl_24 : decode cX7_curl 24 = .ok (.aload_n 0, 1) := by decide +kernel
theorem dX7_curl_25 : decode cX7_curl 25 = .ok (.invokevirtual 218, 3) := by decide +kernel
theorem dX7_curl_28 : decode cX7_curl 28 = .ok (.aload_n 0, 1) := by decide +kernel
theorem dX7_curl_29 : decode cX7_curl 29 = .ok (.iload_n 1, 1) := by decide +kernel
theorem dX7_curl_30 : decode cX7_curl 30 = .ok (.invokevirtual 161, 3) := by decide +kernel
theorem dX7_curl_33 : decode cX7_curl 33 = .ok (.bipush 100, 2) := by decide +kernel
theorem dX7_curl_35 : decode cX7_curl 35 = .ok (.iadd, 1) := by decide +kernel
theorem dX7_curl_36 : decode cX7_curl 36 = .ok (.ireturn, 1) := by decide +kernel
theorem dX7_level_0 : decode cX7_level 0 = .ok (.aload_n 0, 1) := by decide +kernel
theorem dX7_level_1 : decode cX7_level 1 = .ok (.invokevirtual 215, 3) := by decide +kernel
theorem dX7_level_4 : decode cX7_level 4 = .ok (.aload_n 0, 1) := by decide +kernel
theorem dX7_level_5 : decode cX7_level 5 = .ok (.getfield 200, 3) := by decide +kernel
theorem dX7_level_8 : decode cX7_level 8 = .ok (.ifCond .ne 6, 3) := by decide +kernel
theorem dX7_level_11 : decode cX7_level 11 = .ok (.bipush (-3), 2) := by decide +kernel
theorem dX7_level_13 : decode cX7_level 13 = .ok (.ireturn, 1) := by decide +kernel
theorem dX7_level_14 : decode cX7_level 14 = .ok (.aload_n 0, 1) := by decide +kernel
theorem dX7_level_15 : decode cX7_level 15 = .ok (.invokevirtual 218, 3) := by decide +kernel
theorem dX7_level_18 : decode cX7_level 18 = .ok (.aload_n 0, 1) := by decide +kernel
theorem dX7_level_19 : decode cX7_level 19 = .ok (.iconst 2, 1) := by decide +kernel
theorem dX7_level_20 : decode cX7_level 20 = .ok (.iconst 0, 1) := by decide +kernel
theorem dX7_level_21 : decode cX7_level 21 = .ok (.invokevirtual 170, 3) := by decide +kernel
theorem dX7_level_24 : decode cX7_level 24 = .ok (.ireturn, 1) := by decide +kernel
theorem dX7_nearest_0 : decode cX7_nearest 0 = .ok (.iload_n 1, 1) := by decide +kernel
theorem dX7_nearest_1 : decode cX7_nearest 1 = .ok (.i2l, 1) := by decide +kernel
theorem dX7_nearest_2 : decode cX7_nearest 2 = .ok (.lstore 4, 2) := by decide +kernel
theorem dX7_nearest_4 : decode cX7_nearest 4 = .ok (.lconst 1, 1) := by decide +kernel
theorem dX7_nearest_5 : decode cX7_nearest 5 = .ok (.iload_n 3, 1) := by decide +kernel
theorem dX7_nearest_6 : decode cX7_nearest 6 = .ok (.iconst 1, 1) := by decide +kernel
theorem dX7_nearest_7 : decode cX7_nearest 7 = .ok (.isub, 1) := by decide +kernel
theorem dX7_nearest_8 : decode cX7_nearest 8 = .ok (.lshl, 1) := by decide +kernel
theorem dX7_nearest_9 : decode cX7_nearest 9 = .ok (.lstore 6, 2) := by decide +kernel
theorem dX7_nearest_11 : decode cX7_nearest 11 = .ok (.aload_n 0, 1) := by decide +kernel
theorem dX7_nearest_12 : decode cX7_nearest 12 = .ok (.iconst 0, 1) := by decide +kernel
theorem dX7_nearest_13 : decode cX7_nearest 13 = .ok (.putfield 221, 3) := by decide +kernel
theorem dX7_nearest_16 : decode cX7_nearest 16 = .ok (.lload 4, 2) := by decide +kernel
theorem dX7_nearest_18 : decode cX7_nearest 18 = .ok (.iload_n 2, 1) := by decide +kernel
theorem dX7_nearest_19 : decode cX7_nearest 19 = .ok (.i2l, 1) := by decide +kernel
theorem dX7_nearest_20 : decode cX7_nearest 20 = .ok (.ldiv, 1) := by decide +kernel
theorem dX7_nearest_21 : decode cX7_nearest 21 = .ok (.lload 6, 2) := by decide +kernel
theorem dX7_nearest_23 : decode cX7_nearest 23 = .ok (.lcmp, 1) := by decide +kernel
theorem dX7_nearest_24 : decode cX7_nearest 24 = .ok (.ifCond .ge 24, 3) := by decide +kernel
theorem dX7_nearest_27 : decode cX7_nearest 27 = .ok (.lload 4, 2) := by decide +kernel
theorem dX7_nearest_29 : decode cX7_nearest 29 = .ok (.ldc2_w 86, 3) := by decide +kernel
theorem dX7_nearest_32 : decode cX7_nearest 32 = .ok (.lmul, 1) := by decide +kernel
theorem dX7_nearest_33 : decode cX7_nearest 33 = .ok (.lstore 4, 2) := by decide +kernel
theorem dX7_nearest_35 : decode cX7_nearest 35 = .ok (.aload_n 0, 1) := by decide +kernel
theorem dX7_nearest_36 : decode cX7_nearest 36 = .ok (.dup, 1) := by decide +kernel
theorem dX7_nearest_37 : decode cX7_nearest 37 = .ok (.getfield 221, 3) := by decide +kernel
theorem dX7_nearest_40 : decode cX7_nearest 40 = .ok (.iconst 1, 1) := by decide +kernel
theorem dX7_nearest_41 : decode cX7_nearest 41 = .ok (.isub, 1) := by decide +kernel
theorem dX7_nearest_42 : decode cX7_nearest 42 = .ok (.putfield 221, 3) := by decide +kernel
theorem dX7_nearest_45 : decode cX7_nearest 45 = .ok (.goto (-29), 3) := by decide +kernel
theorem dX7_nearest_48 : decode cX7_nearest 48 = .ok (.aload_n 0, 1) := by decide +kernel
theorem dX7_nearest_49 : decode cX7_nearest 49 = .ok (.lload 4, 2) := by decide +kernel
theorem dX7_nearest_51 : decode cX7_nearest 51 = .ok (.iload_n 2, 1) := by decide +kernel
theorem dX7_nearest_52 : decode cX7_nearest 52 = .ok (.i2l, 1) := by decide +kernel
theorem dX7_nearest_53 : decode cX7_nearest 53 = .ok (.ldiv, 1) := by decide +kernel
theorem dX7_nearest_54 : decode cX7_nearest 54 = .ok (.putfield 224, 3) := by decide +kernel
theorem dX7_nearest_57 : decode cX7_nearest 57 = .ok (.ldc2_w 86, 3) := by decide +kernel
theorem dX7_nearest_60 : decode cX7_nearest 60 = .ok (.lload 4, 2) := by decide +kernel
theorem dX7_nearest_62 : decode cX7_nearest 62 = .ok (.iload_n 2, 1) := by decide +kernel
theorem dX7_nearest_63 : decode cX7_nearest 63 = .ok (.i2l, 1) := by decide +kernel
theorem dX7_nearest_64 : decode cX7_nearest 64 = .ok (.lrem, 1) := by decide +kernel
theorem dX7_nearest_65 : decode cX7_nearest 65 = .ok (.lmul, 1) := by decide +kernel
theorem dX7_nearest_66 : decode cX7_nearest 66 = .ok (.lstore 8, 2) := by decide +kernel
theorem dX7_nearest_68 : decode cX7_nearest 68 = .ok (.aload_n 0, 1) := by decide +kernel
theorem dX7_nearest_69 : decode cX7_nearest 69 = .ok (.dup, 1) := by decide +kernel
theorem dX7_nearest_70 : decode cX7_nearest 70 = .ok (.getfield 224, 3) := by decide +kernel
theorem dX7_nearest_73 : decode cX7_nearest 73 = .ok (.lload 8, 2) := by decide +kernel
theorem dX7_nearest_75 : decode cX7_nearest 75 = .ok (.iload_n 2, 1) := by decide +kernel
theorem dX7_nearest_76 : decode cX7_nearest 76 = .ok (.i2l, 1) := by decide +kernel
theorem dX7_nearest_77 : decode cX7_nearest 77 = .ok (.lcmp, 1) := by decide +kernel
theorem dX7_nearest_78 : decode cX7_nearest 78 = .ok (.ifCond .gt 24, 3) := by decide +kernel
theorem dX7_nearest_81 : decode cX7_nearest 81 = .ok (.lload 8, 2) := by decide +kernel
theorem dX7_nearest_83 : decode cX7_nearest 83 = .ok (.iload_n 2, 1) := by decide +kernel
theorem dX7_nearest_84 : decode cX7_nearest 84 = .ok (.i2l, 1) := by decide +kernel
theorem dX7_nearest_85 : decode cX7_nearest 85 = .ok (.lcmp, 1) := by decide +kernel
theorem dX7_nearest_86 : decode cX7_nearest 86 = .ok (.ifCond .ne 20, 3) := by decide +kernel
theorem dX7_nearest_89 : decode cX7_nearest 89 = .ok (.aload_n 0, 1) := by decide +kernel
theorem dX7_nearest_90 : decode cX7_nearest 90 = .ok (.getfield 224, 3) := by decide +kernel
theorem dX7_nearest_93 : decode cX7_nearest 93 = .ok (.ldc2_w 86, 3) := by decide +kernel
theorem dX7_nearest_96 : decode cX7_nearest 96 = .ok (.lrem, 1) := by decide +kernel
theorem dX7_nearest_97 : decode cX7_nearest 97 = .ok (.lconst 1, 1) := by decide +kernel
theorem dX7_nearest_98 : decode cX7_nearest 98 = .ok (.lcmp, 1) := by decide +kernel
theorem dX7_nearest_99 : decode cX7_nearest 99 = .ok (.ifCond .ne 7, 3) := by decide +kernel
theorem dX7_nearest_102 : decode cX7_nearest 102 = .ok (.lconst 1, 1) := by decide +kernel
theorem dX7_nearest_103 : decode cX7_nearest 103 = .ok (.goto 4, 3) := by decide +kernel
theorem dX7_nearest_106 : decode cX7_nearest 106 = .ok (.lconst 0, 1) := by decide +kernel
theorem dX7_nearest_107 : decode cX7_nearest 107 = .ok (.ladd, 1) := by decide +kernel
theorem dX7_nearest_108 : decode cX7_nearest 108 = .ok (.putfield 224, 3) := by decide +kernel
theorem dX7_nearest_111 : decode cX7_nearest 111 = .ok (.aload_n 0, 1) := by decide +kernel
theorem dX7_nearest_112 : decode cX7_nearest 112 = .ok (.getfield 224, 3) := by decide +kernel
theorem dX7_nearest_115 : decode cX7_nearest 115 = .ok (.ldc2_w 86, 3) := by decide +kernel
theorem dX7_nearest_118 : decode cX7_nearest 118 = .ok (.lload 6, 2) := by decide +kernel
theorem dX7_nearest_120 : decode cX7_nearest 120 = .ok (.lmul, 1) := by decide +kernel
theorem dX7_nearest_121 : decode cX7_nearest 121 = .ok (.lcmp, 1) := by decide +kernel
theorem dX7_nearest_122 : decode cX7_nearest 122 = .ok (.ifCond .ne 19, 3) := by decide +kernel
theorem dX7_nearest_125 : decode cX7_nearest 125 = .ok (.aload_n 0, 1) := by decide +kernel
theorem dX7_nearest_126 : decode cX7_nearest 126 = .ok (.lload 6, 2) := by decide +kernel
theorem dX7_nearest_128 : decode cX7_nearest 128 = .ok (.putfield 224, 3) := by decide +kernel
theorem dX7_nearest_131 : decode cX7_nearest 131 = .ok (.aload_n 0, 1) := by decide +kernel
theorem dX7_nearest_132 : decode cX7_nearest 132 = .ok (.dup, 1) := by decide +kernel
theorem dX7_nearest_133 : decode cX7_nearest 133 = .ok (.getfield 221, 3) := by decide +kernel
theorem dX7_nearest_136 : decode cX7_nearest 136 = .ok (.iconst 1, 1) := by decide +kernel
theorem dX7_nearest_137 : decode cX7_nearest 137 = .ok (.iadd, 1) := by decide +kernel
theorem dX7_nearest_138 : decode cX7_nearest 138 = .ok (.putfield 221, 3) := by decide +kernel
theorem dX7_nearest_141 : decode cX7_nearest 141 = .ok (.return_, 1) := by decide +kernel
theorem dX7_bits_0 : decode cX7_bits 0 = .ok (.lconst 1, 1) := by decide +kernel
theorem dX7_bits_1 : decode cX7_bits 1 = .ok (.iload_n 1, 1) := by decide +kernel
theorem dX7_bits_2 : decode cX7_bits 2 = .ok (.iconst 1, 1) := by decide +kernel
theorem dX7_bits_3 : decode cX7_bits 3 = .ok (.isub, 1) := by decide +kernel
theorem dX7_bits_4 : decode cX7_bits 4 = .ok (.lshl, 1) := by decide +kernel
theorem dX7_bits_5 : decode cX7_bits 5 = .ok (.lstore_n 3, 1) := by decide +kernel
theorem dX7_bits_6 : decode cX7_bits 6 = .ok (.aload_n 0, 1) := by decide +kernel
theorem dX7_bits_7 : decode cX7_bits 7 = .ok (.getfield 221, 3) := by decide +kernel
theorem dX7_bits_10 : decode cX7_bits 10 = .ok (.iload_n 1, 1) := by decide +kernel
theorem dX7_bits_11 : decode cX7_bits 11 = .ok (.iadd, 1) := by decide +kernel
theorem dX7_bits_12 : decode cX7_bits 12 = .ok (.i2l, 1) := by decide +kernel
theorem dX7_bits_13 : decode cX7_bits 13 = .ok (.lconst 1, 1) := by decide +kernel
theorem dX7_bits_14 : decode cX7_bits 14 = .ok (.lsub, 1) := by decide +kernel
theorem dX7_bits_15 : decode cX7_bits 15 = .ok (.iload_n 2, 1) := by decide +kernel
theorem dX7_bits_16 : decode cX7_bits 16 = .ok (.i2l, 1) := by decide +kernel
theorem dX7_bits_17 : decode cX7_bits 17 = .ok (.ladd, 1) := by decide +kernel
theorem dX7_bits_18 : decode cX7_bits 18 = .ok (.lload_n 3, 1) := by decide +kernel
theorem dX7_bits_19 : decode cX7_bits 19 = .ok (.lmul, 1) := by decide +kernel
theorem dX7_bits_20 : decode cX7_bits 20 = .ok (.aload_n 0, 1) := by decide +kernel
theorem dX7_bits_21 : decode cX7_bits 21 = .ok (.getfield 224, 3) := by decide +kernel
theorem dX7_bits_24 : decode cX7_bits 24 = .ok (.ladd, 1) := by decide +kernel
theorem dX7_bits_25 : decode cX7_bits 25 = .ok (.lload_n 3, 1) := by decide +kernel
theorem dX7_bits_26 : decode cX7_bits 26 = .ok (.lsub, 1) := by decide +kernel
theorem dX7_bits_27 : decode cX7_bits 27 = .ok (.lreturn, 1) := by decide +kernel
theorem dX7_mean_0 : decode cX7_mean 0 = .ok (.aload_n 0, 1) := by decide +kernel
theorem dX7_mean_1 : decode cX7_mean 1 = .ok (.invokevirtual 215, 3) := by decide +kernel
theorem dX7_mean_4 : decode cX7_mean 4 = .ok (.aload_n 0, 1) := by decide +kernel
theorem dX7_mean_5 : decode cX7_mean 5 = .ok (.getfield 200, 3) := by decide +kernel
theorem dX7_mean_8 : decode cX7_mean 8 = .ok (.ifCond .ne 7, 3) := by decide +kernel
theorem dX7_mean_11 : decode cX7_mean 11 = .ok (.ldc2_w 84, 3) := by decide +kernel
theorem dX7_mean_14 : decode cX7_mean 14 = .ok (.lreturn, 1) := by decide +kernel
theorem dX7_mean_15 : decode cX7_mean 15 = .ok (.aload_n 0, 1) := by decide +kernel
theorem dX7_mean_16 : decode cX7_mean 16 = .ok (.invokevirtual 209, 3) := by decide +kernel
theorem dX7_mean_19 : decode cX7_mean 19 = .ok (.ifCond .ne 5, 3) := by decide +kernel
theorem dX7_mean_22 : decode cX7_mean 22 = .ok (.lconst 0, 1) := by decide +kernel
theorem dX7_mean_23 : decode cX7_mean 23 = .ok (.lreturn, 1) := by decide +kernel
theorem dX7_mean_24 : decode cX7_mean 24 = .ok (.aload_n 0, 1) := by decide +kernel
theorem dX7_mean_25 : decode cX7_mean 25 = .ok (.aload_n 0, 1) := by decide +kernel
theorem dX7_mean_26 : decode cX7_mean 26 = .ok (.invokevirtual 209, 3) := by decide +kernel
theorem dX7_mean_29 : decode cX7_mean 29 = .ok (.aload_n 0, 1) := by decide +kernel
theorem dX7_mean_30 : decode cX7_mean 30 = .ok (.getfield 200, 3) := by decide +kernel
theorem dX7_mean_33 : decode cX7_mean 33 = .ok (.bipush 53, 2) := by decide +kernel
theorem dX7_mean_35 : decode cX7_mean 35 = .ok (.invokevirtual 228, 3) := by decide +kernel
theorem dX7_mean_38 : decode cX7_mean 38 = .ok (.aload_n 0, 1) := by decide +kernel
theorem dX7_mean_39 : decode cX7_mean 39 = .ok (.bipush 53, 2) := by decide +kernel
theorem dX7_mean_41 : decode cX7_mean 41 = .ok (.sipush 1023, 3) := by decide +kernel
theorem dX7_mean_44 : decode cX7_mean 44 = .ok (.invokevirtual 231, 3) := by decide +kernel
theorem dX7_mean_47 : decode cX7_mean 47 = .ok (.lreturn, 1) := by decide +kernel
theorem dX7_rest_0 : decode cX7_rest 0 = .ok (.aload_n 0, 1) := by decide +kernel
theorem dX7_rest_1 : decode cX7_rest 1 = .ok (.invokevirtual 215, 3) := by decide +kernel
theorem dX7_rest_4 : decode cX7_rest 4 = .ok (.aload_n 0, 1) := by decide +kernel
theorem dX7_rest_5 : decode cX7_rest 5 = .ok (.getfield 200, 3) := by decide +kernel
theorem dX7_rest_8 : decode cX7_rest 8 = .ok (.ifCond .ne 7, 3) := by decide +kernel
theorem dX7_rest_11 : decode cX7_rest 11 = .ok (.ldc2_w 84, 3) := by decide +kernel
theorem dX7_rest_14 : decode cX7_rest 14 = .ok (.lreturn, 1) := by decide +kernel
theorem dX7_rest_15 : decode cX7_rest 15 = .ok (.aload_n 0, 1) := by decide +kernel
theorem dX7_rest_16 : decode cX7_rest 16 = .ok (.invokevirtual 209, 3) := by decide +kernel
theorem dX7_rest_19 : decode cX7_rest 19 = .ok (.ifCond .ne 5, 3) := by decide +kernel
theorem dX7_rest_22 : decode cX7_rest 22 = .ok (.lconst 0, 1) := by decide +kernel
theorem dX7_rest_23 : decode cX7_rest 23 = .ok (.lreturn, 1) := by decide +kernel
theorem dX7_rest_24 : decode cX7_rest 24 = .ok (.aload_n 0, 1) := by decide +kernel
theorem dX7_rest_25 : decode cX7_rest 25 = .ok (.aload_n 0, 1) := by decide +kernel
theorem dX7_rest_26 : decode cX7_rest 26 = .ok (.invokevirtual 209, 3) := by decide +kernel
theorem dX7_rest_29 : decode cX7_rest 29 = .ok (.aload_n 0, 1) := by decide +kernel
theorem dX7_rest_30 : decode cX7_rest 30 = .ok (.getfield 200, 3) := by decide +kernel
theorem dX7_rest_33 : decode cX7_rest 33 = .ok (.bipush 53, 2) := by decide +kernel
theorem dX7_rest_35 : decode cX7_rest 35 = .ok (.invokevirtual 228, 3) := by decide +kernel
theorem dX7_rest_38 : decode cX7_rest 38 = .ok (.aload_n 0, 1) := by decide +kernel
theorem dX7_rest_39 : decode cX7_rest 39 = .ok (.dup, 1) := by decide +kernel
theorem dX7_rest_40 : decode cX7_rest 40 = .ok (.getfield 224, 3) := by decide +kernel
theorem dX7_rest_43 : decode cX7_rest 43 = .ok (.lconst 1, 1) := by decide +kernel
theorem dX7_rest_44 : decode cX7_rest 44 = .ok (.aload_n 0, 1) := by decide +kernel
theorem dX7_rest_45 : decode cX7_rest 45 = .ok (.getfield 221, 3) := by decide +kernel
theorem dX7_rest_48 : decode cX7_rest 48 = .ok (.ineg, 1) := by decide +kernel
theorem dX7_rest_49 : decode cX7_rest 49 = .ok (.lshl, 1) := by decide +kernel
theorem dX7_rest_50 : decode cX7_rest 50 = .ok (.lrem, 1) := by decide +kernel
theorem dX7_rest_51 : decode cX7_rest 51 = .ok (.putfield 224, 3) := by decide +kernel
theorem dX7_rest_54 : decode cX7_rest 54 = .ok (.aload_n 0, 1) := by decide +kernel
theorem dX7_rest_55 : decode cX7_rest 55 = .ok (.getfield 224, 3) := by decide +kernel
theorem dX7_rest_58 : decode cX7_rest 58 = .ok (.lconst 0, 1) := by decide +kernel
theorem dX7_rest_59 : decode cX7_rest 59 = .ok (.lcmp, 1) := by decide +kernel
theorem dX7_rest_60 : decode cX7_rest 60 = .ok (.ifCond .ne 5, 3) := by decide +kernel
theorem dX7_rest_63 : decode cX7_rest 63 = .ok (.lconst 0, 1) := by decide +kernel
theorem dX7_rest_64 : decode cX7_rest 64 = .ok (.lreturn, 1) := by decide +kernel
theorem dX7_rest_65 : decode cX7_rest 65 = .ok (.aload_n 0, 1) := by decide +kernel
theorem dX7_rest_66 : decode cX7_rest 66 = .ok (.getfield 224, 3) := by decide +kernel
theorem dX7_rest_69 : decode cX7_rest 69 = .ok (.ldc2_w 235, 3) := by decide +kernel
theorem dX7_rest_72 : decode cX7_rest 72 = .ok (.lcmp, 1) := by decide +kernel
theorem dX7_rest_73 : decode cX7_rest 73 = .ok (.ifCond .ge 28, 3) := by decide +kernel
theorem dX7_rest_76 : decode cX7_rest 76 = .ok (.aload_n 0, 1) := by decide +kernel
theorem dX7_rest_77 : decode cX7_rest 77 = .ok (.dup, 1) := by decide +kernel
theorem dX7_rest_78 : decode cX7_rest 78 = .ok (.getfield 224, 3) := by decide +kernel
theorem dX7_rest_81 : decode cX7_rest 81 = .ok (.ldc2_w 86, 3) := by decide +kernel
theorem dX7_rest_84 : decode cX7_rest 84 = .ok (.lmul, 1) := by decide +kernel
theorem dX7_rest_85 : decode cX7_rest 85 = .ok (.putfield 224, 3) := by decide +kernel
theorem dX7_rest_88 : decode cX7_rest 88 = .ok (.aload_n 0, 1) := by decide +kernel
theorem dX7_rest_89 : decode cX7_rest 89 = .ok (.dup, 1) := by decide +kernel
theorem dX7_rest_90 : decode cX7_rest 90 = .ok (.getfield 221, 3) := by decide +kernel
theorem dX7_rest_93 : decode cX7_rest 93 = .ok (.iconst 1, 1) := by decide +kernel
theorem dX7_rest_94 : decode cX7_rest 94 = .ok (.isub, 1) := by decide +kernel
theorem dX7_rest_95 : decode cX7_rest 95 = .ok (.putfield 221, 3) := by decide +kernel
theorem dX7_rest_98 : decode cX7_rest 98 = .ok (.goto (-33), 3) := by decide +kernel
theorem dX7_rest_101 : decode cX7_rest 101 = .ok (.aload_n 0, 1) := by decide +kernel
theorem dX7_rest_102 : decode cX7_rest 102 = .ok (.bipush 53, 2) := by decide +kernel
theorem dX7_rest_104 : decode cX7_rest 104 = .ok (.sipush 1023, 3) := by decide +kernel
theorem dX7_rest_107 : decode cX7_rest 107 = .ok (.invokevirtual 231, 3) := by decide +kernel
theorem dX7_rest_110 : decode cX7_rest 110 = .ok (.lreturn, 1) := by decide +kernel
theorem dX7_slope_0 : decode cX7_slope 0 = .ok (.aload_n 0, 1) := by decide +kernel
theorem dX7_slope_1 : decode cX7_slope 1 = .ok (.invokevirtual 215, 3) := by decide +kernel
theorem dX7_slope_4 : decode cX7_slope 4 = .ok (.aload_n 0, 1) := by decide +kernel
theorem dX7_slope_5 : decode cX7_slope 5 = .ok (.getfield 200, 3) := by decide +kernel
theorem dX7_slope_8 : decode cX7_slope 8 = .ok (.iconst 2, 1) := by decide +kernel
theorem dX7_slope_9 : decode cX7_slope 9 = .ok (.if_icmp .ge 6, 3) := by decide +kernel
theorem dX7_slope_12 : decode cX7_slope 12 = .ok (.bipush (-3), 2) := by decide +kernel
theorem dX7_slope_14 : decode cX7_slope 14 = .ok (.ireturn, 1) := by decide +kernel
theorem dX7_slope_15 : decode cX7_slope 15 = .ok (.aload_n 0, 1) := by decide +kernel
theorem dX7_slope_16 : decode cX7_slope 16 = .ok (.getfield 200, 3) := by decide +kernel
theorem dX7_slope_19 : decode cX7_slope 19 = .ok (.istore_n 1, 1) := by decide +kernel
theorem dX7_slope_20 : decode cX7_slope 20 = .ok (.iconst 0, 1) := by decide +kernel
theorem dX7_slope_21 : decode cX7_slope 21 = .ok (.istore_n 2, 1) := by decide +kernel
theorem dX7_slope_22 : decode cX7_slope 22 = .ok (.iconst 0, 1) := by decide +kernel
theorem dX7_slope_23 : decode cX7_slope 23 = .ok (.istore_n 3, 1) := by decide +kernel
theorem dX7_slope_24 : decode cX7_slope 24 = .ok (.iconst 0, 1) := by decide +kernel
theorem dX7_slope_25 : decode cX7_slope 25 = .ok (.istore 4, 2) := by decide +kernel
theorem dX7_slope_27 : decode cX7_slope 27 = .ok (.iconst 0, 1) := by decide +kernel
theorem dX7_slope_28 : decode cX7_slope 28 = .ok (.istore 5, 2) := by decide +kernel
theorem dX7_slope_30 : decode cX7_slope 30 = .ok (.iload 5, 2) := by decide +kernel
theorem dX7_slope_32 : decode cX7_slope 32 = .ok (.iload_n 1, 1) := by decide +kernel
theorem dX7_slope_33 : decode cX7_slope 33 = .ok (.if_icmp .ge 46, 3) := by decide +kernel
theorem dX7_slope_36 : decode cX7_slope 36 = .ok (.aload_n 0, 1) := by decide +kernel
theorem dX7_slope_37 : decode cX7_slope 37 = .ok (.getfield 203, 3) := by decide +kernel
theorem dX7_slope_40 : decode cX7_slope 40 = .ok (.iload 5, 2) := by decide +kernel
theorem dX7_slope_42 : decode cX7_slope 42 = .ok (.iadd, 1) := by decide +kernel
theorem dX7_slope_43 : decode cX7_slope 43 = .ok (.istore 6, 2) := by decide +kernel
theorem dX7_slope_45 : decode cX7_slope 45 = .ok (.iload_n 2, 1) := by decide +kernel
theorem dX7_slope_46 : decode cX7_slope 46 = .ok (.iload 6, 2) := by decide +kernel
theorem dX7_slope_48 : decode cX7_slope 48 = .ok (.iadd, 1) := by decide +kernel
theorem dX7_slope_49 : decode cX7_slope 49 = .ok (.istore_n 2, 1) := by decide +kernel
theorem dX7_slope_50 : decode cX7_slope 50 = .ok (.iload_n 3, 1) := by decide +kernel
theorem dX7_slope_51 : decode cX7_slope 51 = .ok (.iload 6, 2) := by decide +kernel
theorem dX7_slope_53 : decode cX7_slope 53 = .ok (.aload_n 0, 1) := by decide +kernel
theorem dX7_slope_54 : decode cX7_slope 54 = .ok (.getfield 57, 3) := by decide +kernel
theorem dX7_slope_57 : decode cX7_slope 57 = .ok (.iload 6, 2) := by decide +kernel
theorem dX7_slope_59 : decode cX7_slope 59 = .ok (.iaload, 1) := by decide +kernel
theorem dX7_slope_60 : decode cX7_slope 60 = .ok (.imul, 1) := by decide +kernel
theorem dX7_slope_61 : decode cX7_slope 61 = .ok (.iadd, 1) := by decide +kernel
theorem dX7_slope_62 : decode cX7_slope 62 = .ok (.istore_n 3, 1) := by decide +kernel
theorem dX7_slope_63 : decode cX7_slope 63 = .ok (.iload 4, 2) := by decide +kernel
theorem dX7_slope_65 : decode cX7_slope 65 = .ok (.iload 6, 2) := by decide +kernel
theorem dX7_slope_67 : decode cX7_slope 67 = .ok (.iload 6, 2) := by decide +kernel
theorem dX7_slope_69 : decode cX7_slope 69 = .ok (.imul, 1) := by decide +kernel
theorem dX7_slope_70 : decode cX7_slope 70 = .ok (.iadd, 1) := by decide +kernel
theorem dX7_slope_71 : decode cX7_slope 71 = .ok (.istore 4, 2) := by decide +kernel
theorem dX7_slope_73 : decode cX7_slope 73 = .ok (.iinc 5 1, 3) := by decide +kernel
theorem dX7_slope_76 : decode cX7_slope 76 = .ok (.goto (-46), 3) := by decide +kernel
theorem dX7_slope_79 : decode cX7_slope 79 = .ok (.iload_n 1, 1) := by decide +kernel
theorem dX7_slope_80 : decode cX7_slope 80 = .ok (.iload_n 3, 1) := by decide +kernel
theorem dX7_slope_81 : decode cX7_slope 81 = .ok (.imul, 1) := by decide +kernel
theorem dX7_slope_82 : decode cX7_slope 82 = .ok (.iload_n 2, 1) := by decide +kernel
theorem dX7_slope_83 : decode cX7_slope 83 = .ok (.aload_n 0, 1) := by decide +kernel
theorem dX7_slope_84 : decode cX7_slope 84 = .ok (.invokevirtual 209, 3) := by decide +kernel
theorem dX7_slope_87 : decode cX7_slope 87 = .ok (.imul, 1) := by decide +kernel
theorem dX7_slope_88 : decode cX7_slope 88 = .ok (.isub, 1) := by decide +kernel
theorem dX7_slope_89 : decode cX7_slope 89 = .ok (.istore 5, 2) := by decide +kernel
theorem dX7_slope_91 : decode cX7_slope 91 = .ok (.iload_n 1, 1) := by decide +kernel
theorem dX7_slope_92 : decode cX7_slope 92 = .ok (.iload 4, 2) := by decide +kernel
theorem dX7_slope_94 : decode cX7_slope 94 = .ok (.imul, 1) := by decide +kernel
theorem dX7_slope_95 : decode cX7_slope 95 = .ok (.iload_n 2, 1) := by decide +kernel
theorem dX7_slope_96 : decode cX7_slope 96 = .ok (.iload_n 2, 1) := by decide +kernel
theorem dX7_slope_97 : decode cX7_slope 97 = .ok (.imul, 1) := by decide +kernel
theorem dX7_slope_98 : decode cX7_slope 98 = .ok (.isub, 1) := by decide +kernel
theorem dX7_slope_99 : decode cX7_slope 99 = .ok (.istore 6, 2) := by decide +kernel
theorem dX7_slope_101 : decode cX7_slope 101 = .ok (.iload 5, 2) := by decide +kernel
theorem dX7_slope_103 : decode cX7_slope 103 = .ok (.ifCond .ne 5, 3) := by decide +kernel
theorem dX7_slope_106 : decode cX7_slope 106 = .ok (.iconst 0, 1) := by decide +kernel
theorem dX7_slope_107 : decode cX7_slope 107 = .ok (.ireturn, 1) := by decide +kernel
theorem dX7_slope_108 : decode cX7_slope 108 = .ok (.aload_n 0, 1) := by decide +kernel
theorem dX7_slope_109 : decode cX7_slope 109 = .ok (.iload 5, 2) := by decide +kernel
theorem dX7_slope_111 : decode cX7_slope 111 = .ok (.ifCond .ge 9, 3) := by decide +kernel
theorem dX7_slope_114 : decode cX7_slope 114 = .ok (.iload 5, 2) := by decide +kernel
theorem dX7_slope_116 : decode cX7_slope 116 = .ok (.ineg, 1) := by decide +kernel
theorem dX7_slope_117 : decode cX7_slope 117 = .ok (.goto 5, 3) := by decide +kernel
theorem dX7_slope_120 : decode cX7_slope 120 = .ok (.iload 5, 2) := by decide +kernel
theorem dX7_slope_122 : decode cX7_slope 122 = .ok (.iload 6, 2) := by decide +kernel
theorem dX7_slope_124 : decode cX7_slope 124 = .ok (.bipush 24, 2) := by decide +kernel
theorem dX7_slope_126 : decode cX7_slope 126 = .ok (.invokevirtual 228, 3) := by decide +kernel
theorem dX7_slope_129 : decode cX7_slope 129 = .ok (.aload_n 0, 1) := by decide +kernel
theorem dX7_slope_130 : decode cX7_slope 130 = .ok (.bipush 24, 2) := by decide +kernel
theorem dX7_slope_132 : decode cX7_slope 132 = .ok (.bipush 127, 2) := by decide +kernel
theorem dX7_slope_134 : decode cX7_slope 134 = .ok (.invokevirtual 231, 3) := by decide +kernel
theorem dX7_slope_137 : decode cX7_slope 137 = .ok (.l2i, 1) := by decide +kernel
theorem dX7_slope_138 : decode cX7_slope 138 = .ok (.istore 7, 2) := by decide +kernel
theorem dX7_slope_140 : decode cX7_slope 140 = .ok (.iload 5, 2) := by decide +kernel
theorem dX7_slope_142 : decode cX7_slope 142 = .ok (.ifCond .ge 11, 3) := by decide +kernel
theorem dX7_slope_145 : decode cX7_slope 145 = .ok (.iload 7, 2) := by decide +kernel
theorem dX7_slope_147 : decode cX7_slope 147 = .ok (.ldc 237, 2) := by decide +kernel
theorem dX7_slope_149 : decode cX7_slope 149 = .ok (.ior, 1) := by decide +kernel
theorem dX7_slope_150 : decode cX7_slope 150 = .ok (.goto 5, 3) := by decide +kernel
theorem dX7_slope_153 : decode cX7_slope 153 = .ok (.iload 7, 2) := by decide +kernel
theorem dX7_slope_155 : decode cX7_slope 155 = .ok (.ireturn, 1) := by decide +kernel
theorem dX7_fault_0 : decode cX7_fault 0 = .ok (.aload_n 0, 1) := by decide +kernel
theorem dX7_fault_1 : decode cX7_fault 1 = .ok (.getfield 63, 3) := by decide +kernel
theorem dX7_fault_4 : decode cX7_fault 4 = .ok (.ireturn, 1) := by decide +kernel
theorem dX7_feet_0 : decode cX7_feet 0 = .ok (.iconst 0, 1) := by decide +kernel
theorem dX7_feet_1 : decode cX7_feet 1 = .ok (.istore_n 1, 1) := by decide +kernel
theorem dX7_feet_2 : decode cX7_feet 2 = .ok (.iconst 0, 1) := by decide +kernel
theorem dX7_feet_3 : decode cX7_feet 3 = .ok (.istore_n 2, 1) := by decide +kernel
theorem dX7_feet_4 : decode cX7_feet 4 = .ok (.iload_n 2, 1) := by decide +kernel
theorem dX7_feet_5 : decode cX7_feet 5 = .ok (.aload_n 0, 1) := by decide +kernel
theorem dX7_feet_6 : decode cX7_feet 6 = .ok (.getfield 7, 3) := by decide +kernel
theorem dX7_feet_9 : decode cX7_feet 9 = .ok (.if_icmp .ge 40, 3) := by decide +kernel
theorem dX7_feet_12 : decode cX7_feet 12 = .ok (.iconst 0, 1) := by decide +kernel
theorem dX7_feet_13 : decode cX7_feet 13 = .ok (.istore_n 3, 1) := by decide +kernel
theorem dX7_feet_14 : decode cX7_feet 14 = .ok (.iload_n 3, 1) := by decide +kernel
theorem dX7_feet_15 : decode cX7_feet 15 = .ok (.bipush 32, 2) := by decide +kernel
theorem dX7_feet_17 : decode cX7_feet 17 = .ok (.if_icmp .ge 26, 3) := by decide +kernel
theorem dX7_feet_20 : decode cX7_feet 20 = .ok (.iload_n 1, 1) := by decide +kernel
theorem dX7_feet_21 : decode cX7_feet 21 = .ok (.aload_n 0, 1) := by decide +kernel
theorem dX7_feet_22 : decode cX7_feet 22 = .ok (.iload_n 2, 1) := by decide +kernel
theorem dX7_feet_23 : decode cX7_feet 23 = .ok (.iload_n 3, 1) := by decide +kernel
theorem dX7_feet_24 : decode cX7_feet 24 = .ok (.invokevirtual 194, 3) := by decide +kernel
theorem dX7_feet_27 : decode cX7_feet 27 = .ok (.ifCond .eq 7, 3) := by decide +kernel
theorem dX7_feet_30 : decode cX7_feet 30 = .ok (.iconst 1, 1) := by decide +kernel
theorem dX7_feet_31 : decode cX7_feet 31 = .ok (.goto 4, 3) := by decide +kernel
theorem dX7_feet_34 : decode cX7_feet 34 = .ok (.iconst 0, 1) := by decide +kernel
theorem dX7_feet_35 : decode cX7_feet 35 = .ok (.iadd, 1) := by decide +kernel
theorem dX7_feet_36 : decode cX7_feet 36 = .ok (.istore_n 1, 1) := by decide +kernel
theorem dX7_feet_37 : decode cX7_feet 37 = .ok (.iinc 3 1, 3) := by decide +kernel
theorem dX7_feet_40 : decode cX7_feet 40 = .ok (.goto (-26), 3) := by decide +kernel
theorem dX7_feet_43 : decode cX7_feet 43 = .ok (.iinc 2 1, 3) := by decide +kernel
theorem dX7_feet_46 : decode cX7_feet 46 = .ok (.goto (-42), 3) := by decide +kernel
theorem dX7_feet_49 : decode cX7_feet 49 = .ok (.iload_n 1, 1) := by decide +kernel
theorem dX7_feet_50 : decode cX7_feet 50 = .ok (.ireturn, 1) := by decide +kernel
theorem dX7_many_0 : decode cX7_many 0 = .ok (.iconst 0, 1) := by decide +kernel
theorem dX7_many_1 : decode cX7_many 1 = .ok (.istore_n 2, 1) := by decide +kernel
theorem dX7_many_2 : decode cX7_many 2 = .ok (.iload_n 1, 1) := by decide +kernel
theorem dX7_many_3 : decode cX7_many 3 = .ok (.tableswitch 113 0 6 #[41, 46, 51, 60, 69, 74, 79], 41) := by decide +kernel
theorem dX7_many_44 : decode cX7_many 44 = .ok (.aload_n 0, 1) := by decide +kernel
theorem dX7_many_45 : decode cX7_many 45 = .ok (.getfield 7, 3) := by decide +kernel
theorem dX7_many_48 : decode cX7_many 48 = .ok (.ireturn, 1) := by decide +kernel
theorem dX7_many_49 : decode cX7_many 49 = .ok (.aload_n 0, 1) := by decide +kernel
theorem dX7_many_50 : decode cX7_many 50 = .ok (.invokevirtual 77, 3) := by decide +kernel
theorem dX7_many_53 : decode cX7_many 53 = .ok (.ireturn, 1) := by decide +kernel
theorem dX7_many_54 : decode cX7_many 54 = .ok (.aload_n 0, 1) := by decide +kernel
theorem dX7_many_55 : decode cX7_many 55 = .ok (.invokevirtual 179, 3) := by decide +kernel
theorem dX7_many_58 : decode cX7_many 58 = .ok (.aload_n 0, 1) := by decide +kernel
theorem dX7_many_59 : decode cX7_many 59 = .ok (.getfield 173, 3) := by decide +kernel
theorem dX7_many_62 : decode cX7_many 62 = .ok (.ireturn, 1) := by decide +kernel
theorem dX7_many_63 : decode cX7_many 63 = .ok (.aload_n 0, 1) := by decide +kernel
theorem dX7_many_64 : decode cX7_many 64 = .ok (.invokevirtual 188, 3) := by decide +kernel
theorem dX7_many_67 : decode cX7_many 67 = .ok (.aload_n 0, 1) := by decide +kernel
theorem dX7_many_68 : decode cX7_many 68 = .ok (.getfield 182, 3) := by decide +kernel
theorem dX7_many_71 : decode cX7_many 71 = .ok (.ireturn, 1) := by decide +kernel
theorem dX7_many_72 : decode cX7_many 72 = .ok (.aload_n 0, 1) := by decide +kernel
theorem dX7_many_73 : decode cX7_many 73 = .ok (.invokevirtual 238, 3) := by decide +kernel
theorem dX7_many_76 : decode cX7_many 76 = .ok (.ireturn, 1) := by decide +kernel
theorem dX7_many_77 : decode cX7_many 77 = .ok (.aload_n 0, 1) := by decide +kernel
theorem dX7_many_78 : decode cX7_many 78 = .ok (.getfield 81, 3) := by decide +kernel
theorem dX7_many_81 : decode cX7_many 81 = .ok (.ireturn, 1) := by decide +kernel
theorem dX7_many_82 : decode cX7_many 82 = .ok (.iconst 0, 1) := by decide +kernel
theorem dX7_many_83 : decode cX7_many 83 = .ok (.istore_n 3, 1) := by decide +kernel
theorem dX7_many_84 : decode cX7_many 84 = .ok (.iload_n 3, 1) := by decide +kernel
theorem dX7_many_85 : decode cX7_many 85 = .ok (.iconst 4, 1) := by decide +kernel
theorem dX7_many_86 : decode cX7_many 86 = .ok (.if_icmp .ge 28, 3) := by decide +kernel
theorem dX7_many_89 : decode cX7_many 89 = .ok (.iload_n 2, 1) := by decide +kernel
theorem dX7_many_90 : decode cX7_many 90 = .ok (.aload_n 0, 1) := by decide +kernel
theorem dX7_many_91 : decode cX7_many 91 = .ok (.getfield 17, 3) := by decide +kernel
theorem dX7_many_94 : decode cX7_many 94 = .ok (.iload_n 3, 1) := by decide +kernel
theorem dX7_many_95 : decode cX7_many 95 = .ok (.iaload, 1) := by decide +kernel
theorem dX7_many_96 : decode cX7_many 96 = .ok (.bipush (-9), 2) := by decide +kernel
theorem dX7_many_98 : decode cX7_many 98 = .ok (.if_icmp .ne 7, 3) := by decide +kernel
theorem dX7_many_101 : decode cX7_many 101 = .ok (.iconst 0, 1) := by decide +kernel
theorem dX7_many_102 : decode cX7_many 102 = .ok (.goto 4, 3) := by decide +kernel
theorem dX7_many_105 : decode cX7_many 105 = .ok (.iconst 1, 1) := by decide +kernel
theorem dX7_many_106 : decode cX7_many 106 = .ok (.iadd, 1) := by decide +kernel
theorem dX7_many_107 : decode cX7_many 107 = .ok (.istore_n 2, 1) := by decide +kernel
theorem dX7_many_108 : decode cX7_many 108 = .ok (.iinc 3 1, 3) := by decide +kernel
theorem dX7_many_111 : decode cX7_many 111 = .ok (.goto (-27), 3) := by decide +kernel
theorem dX7_many_114 : decode cX7_many 114 = .ok (.iload_n 2, 1) := by decide +kernel
theorem dX7_many_115 : decode cX7_many 115 = .ok (.ireturn, 1) := by decide +kernel
theorem dX7_many_116 : decode cX7_many 116 = .ok (.bipush (-2), 2) := by decide +kernel
theorem dX7_many_118 : decode cX7_many 118 = .ok (.ireturn, 1) := by decide +kernel
theorem dJ6_bitCount_0f7a4_0 : decode cJ6_bitCount_0f7a4 0 = .ok (.iload_n 0, 1) := by decide +kernel
theorem dJ6_bitCount_0f7a4_1 : decode cJ6_bitCount_0f7a4 1 = .ok (.iload_n 0, 1) := by decide +kernel
theorem dJ6_bitCount_0f7a4_2 : decode cJ6_bitCount_0f7a4 2 = .ok (.iconst 1, 1) := by decide +kernel
theorem dJ6_bitCount_0f7a4_3 : decode cJ6_bitCount_0f7a4 3 = .ok (.iushr, 1) := by decide +kernel
theorem dJ6_bitCount_0f7a4_4 : decode cJ6_bitCount_0f7a4 4 = .ok (.ldc_w 265, 3) := by decide +kernel
theorem dJ6_bitCount_0f7a4_7 : decode cJ6_bitCount_0f7a4 7 = .ok (.iand, 1) := by decide +kernel
theorem dJ6_bitCount_0f7a4_8 : decode cJ6_bitCount_0f7a4 8 = .ok (.isub, 1) := by decide +kernel
theorem dJ6_bitCount_0f7a4_9 : decode cJ6_bitCount_0f7a4 9 = .ok (.istore_n 0, 1) := by decide +kernel
theorem dJ6_bitCount_0f7a4_10 : decode cJ6_bitCount_0f7a4 10 = .ok (.iload_n 0, 1) := by decide +kernel
theorem dJ6_bitCount_0f7a4_11 : decode cJ6_bitCount_0f7a4 11 = .ok (.ldc_w 266, 3) := by decide +kernel
theorem dJ6_bitCount_0f7a4_14 : decode cJ6_bitCount_0f7a4 14 = .ok (.iand, 1) := by decide +kernel
theorem dJ6_bitCount_0f7a4_15 : decode cJ6_bitCount_0f7a4 15 = .ok (.iload_n 0, 1) := by decide +kernel
theorem dJ6_bitCount_0f7a4_16 : decode cJ6_bitCount_0f7a4 16 = .ok (.iconst 2, 1) := by decide +kernel
theorem dJ6_bitCount_0f7a4_17 : decode cJ6_bitCount_0f7a4 17 = .ok (.iushr, 1) := by decide +kernel
theorem dJ6_bitCount_0f7a4_18 : decode cJ6_bitCount_0f7a4 18 = .ok (.ldc_w 266, 3) := by decide +kernel
theorem dJ6_bitCount_0f7a4_21 : decode cJ6_bitCount_0f7a4 21 = .ok (.iand, 1) := by decide +kernel
theorem dJ6_bitCount_0f7a4_22 : decode cJ6_bitCount_0f7a4 22 = .ok (.iadd, 1) := by decide +kernel
theorem dJ6_bitCount_0f7a4_23 : decode cJ6_bitCount_0f7a4 23 = .ok (.istore_n 0, 1) := by decide +kernel
theorem dJ6_bitCount_0f7a4_24 : decode cJ6_bitCount_0f7a4 24 = .ok (.iload_n 0, 1) := by decide +kernel
theorem dJ6_bitCount_0f7a4_25 : decode cJ6_bitCount_0f7a4 25 = .ok (.iload_n 0, 1) := by decide +kernel
theorem dJ6_bitCount_0f7a4_26 : decode cJ6_bitCount_0f7a4 26 = .ok (.iconst 4, 1) := by decide +kernel
theorem dJ6_bitCount_0f7a4_27 : decode cJ6_bitCount_0f7a4 27 = .ok (.iushr, 1) := by decide +kernel
theorem dJ6_bitCount_0f7a4_28 : decode cJ6_bitCount_0f7a4 28 = .ok (.iadd, 1) := by decide +kernel
theorem dJ6_bitCount_0f7a4_29 : decode cJ6_bitCount_0f7a4 29 = .ok (.ldc_w 267, 3) := by decide +kernel
theorem dJ6_bitCount_0f7a4_32 : decode cJ6_bitCount_0f7a4 32 = .ok (.iand, 1) := by decide +kernel
theorem dJ6_bitCount_0f7a4_33 : decode cJ6_bitCount_0f7a4 33 = .ok (.istore_n 0, 1) := by decide +kernel
theorem dJ6_bitCount_0f7a4_34 : decode cJ6_bitCount_0f7a4 34 = .ok (.iload_n 0, 1) := by decide +kernel
theorem dJ6_bitCount_0f7a4_35 : decode cJ6_bitCount_0f7a4 35 = .ok (.iload_n 0, 1) := by decide +kernel
theorem dJ6_bitCount_0f7a4_36 : decode cJ6_bitCount_0f7a4 36 = .ok (.bipush 8, 2) := by decide +kernel
theorem dJ6_bitCount_0f7a4_38 : decode cJ6_bitCount_0f7a4 38 = .ok (.iushr, 1) := by decide +kernel
theorem dJ6_bitCount_0f7a4_39 : decode cJ6_bitCount_0f7a4 39 = .ok (.iadd, 1) := by decide +kernel
theorem dJ6_bitCount_0f7a4_40 : decode cJ6_bitCount_0f7a4 40 = .ok (.istore_n 0, 1) := by decide +kernel
theorem dJ6_bitCount_0f7a4_41 : decode cJ6_bitCount_0f7a4 41 = .ok (.iload_n 0, 1) := by decide +kernel
theorem dJ6_bitCount_0f7a4_42 : decode cJ6_bitCount_0f7a4 42 = .ok (.iload_n 0, 1) := by decide +kernel
theorem dJ6_bitCount_0f7a4_43 : decode cJ6_bitCount_0f7a4 43 = .ok (.bipush 16, 2) := by decide +kernel
theorem dJ6_bitCount_0f7a4_45 : decode cJ6_bitCount_0f7a4 45 = .ok (.iushr, 1) := by decide +kernel
theorem dJ6_bitCount_0f7a4_46 : decode cJ6_bitCount_0f7a4 46 = .ok (.iadd, 1) := by decide +kernel
theorem dJ6_bitCount_0f7a4_47 : decode cJ6_bitCount_0f7a4 47 = .ok (.istore_n 0, 1) := by decide +kernel
theorem dJ6_bitCount_0f7a4_48 : decode cJ6_bitCount_0f7a4 48 = .ok (.iload_n 0, 1) := by decide +kernel
theorem dJ6_bitCount_0f7a4_49 : decode cJ6_bitCount_0f7a4 49 = .ok (.bipush 63, 2) := by decide +kernel
theorem dJ6_bitCount_0f7a4_51 : decode cJ6_bitCount_0f7a4 51 = .ok (.iand, 1) := by decide +kernel
theorem dJ6_bitCount_0f7a4_52 : decode cJ6_bitCount_0f7a4 52 = .ok (.ireturn, 1) := by decide +kernel
theorem dJ9_floorDiv_7cf53_0 : decode cJ9_floorDiv_7cf53 0 = .ok (.iload_n 0, 1) := by decide +kernel
theorem dJ9_floorDiv_7cf53_1 : decode cJ9_floorDiv_7cf53 1 = .ok (.iload_n 1, 1) := by decide +kernel
theorem dJ9_floorDiv_7cf53_2 : decode cJ9_floorDiv_7cf53 2 = .ok (.idiv, 1) := by decide +kernel
theorem dJ9_floorDiv_7cf53_3 : decode cJ9_floorDiv_7cf53 3 = .ok (.istore_n 2, 1) := by decide +kernel
theorem dJ9_floorDiv_7cf53_4 : decode cJ9_floorDiv_7cf53 4 = .ok (.iload_n 0, 1) := by decide +kernel
theorem dJ9_floorDiv_7cf53_5 : decode cJ9_floorDiv_7cf53 5 = .ok (.iload_n 1, 1) := by decide +kernel
theorem dJ9_floorDiv_7cf53_6 : decode cJ9_floorDiv_7cf53 6 = .ok (.ixor, 1) := by decide +kernel
theorem dJ9_floorDiv_7cf53_7 : decode cJ9_floorDiv_7cf53 7 = .ok (.ifCond .ge 14, 3) := by decide +kernel
theorem dJ9_floorDiv_7cf53_10 : decode cJ9_floorDiv_7cf53 10 = .ok (.iload_n 2, 1) := by decide +kernel
theorem dJ9_floorDiv_7cf53_11 : decode cJ9_floorDiv_7cf53 11 = .ok (.iload_n 1, 1) := by decide +kernel
theorem dJ9_floorDiv_7cf53_12 : decode cJ9_floorDiv_7cf53 12 = .ok (.imul, 1) := by decide +kernel
theorem dJ9_floorDiv_7cf53_13 : decode cJ9_floorDiv_7cf53 13 = .ok (.iload_n 0, 1) := by decide +kernel
theorem dJ9_floorDiv_7cf53_14 : decode cJ9_floorDiv_7cf53 14 = .ok (.if_icmp .eq 7, 3) := by decide +kernel
theorem dJ9_floorDiv_7cf53_17 : decode cJ9_floorDiv_7cf53 17 = .ok (.iload_n 2, 1) := by decide +kernel
theorem dJ9_floorDiv_7cf53_18 : decode cJ9_floorDiv_7cf53 18 = .ok (.iconst 1, 1) := by decide +kernel
theorem dJ9_floorDiv_7cf53_19 : decode cJ9_floorDiv_7cf53 19 = .ok (.isub, 1) := by decide +kernel
theorem dJ9_floorDiv_7cf53_20 : decode cJ9_floorDiv_7cf53 20 = .ok (.ireturn, 1) := by decide +kernel
theorem dJ9_floorDiv_7cf53_21 : decode cJ9_floorDiv_7cf53 21 = .ok (.iload_n 2, 1) := by decide +kernel
theorem dJ9_floorDiv_7cf53_22 : decode cJ9_floorDiv_7cf53 22 = .ok (.ireturn, 1) := by decide +kernel
theorem dJ9_abs_0f7a4_0 : decode cJ9_abs_0f7a4 0 = .ok (.iload_n 0, 1) := by decide +kernel
theorem dJ9_abs_0f7a4_1 : decode cJ9_abs_0f7a4 1 = .ok (.ifCond .ge 8, 3) := by decide +kernel
theorem dJ9_abs_0f7a4_4 : decode cJ9_abs_0f7a4 4 = .ok (.iload_n 0, 1) := by decide +kernel
theorem dJ9_abs_0f7a4_5 : decode cJ9_abs_0f7a4 5 = .ok (.ineg, 1) := by decide +kernel
theorem dJ9_abs_0f7a4_6 : decode cJ9_abs_0f7a4 6 = .ok (.goto 4, 3) := by decide +kernel
theorem dJ9_abs_0f7a4_9 : decode cJ9_abs_0f7a4 9 = .ok (.iload_n 0, 1) := by decide +kernel
theorem dJ9_abs_0f7a4_10 : decode cJ9_abs_0f7a4 10 = .ok (.ireturn, 1) := by decide +kernel
theorem dJ9_abs_067f4_0 : decode cJ9_abs_067f4 0 = .ok (.lload_n 0, 1) := by decide +kernel
theorem dJ9_abs_067f4_1 : decode cJ9_abs_067f4 1 = .ok (.lconst 0, 1) := by decide +kernel
theorem dJ9_abs_067f4_2 : decode cJ9_abs_067f4 2 = .ok (.lcmp, 1) := by decide +kernel
theorem dJ9_abs_067f4_3 : decode cJ9_abs_067f4 3 = .ok (.ifCond .ge 8, 3) := by decide +kernel
theorem dJ9_abs_067f4_6 : decode cJ9_abs_067f4 6 = .ok (.lload_n 0, 1) := by decide +kernel
theorem dJ9_abs_067f4_7 : decode cJ9_abs_067f4 7 = .ok (.lneg, 1) := by decide +kernel
theorem dJ9_abs_067f4_8 : decode cJ9_abs_067f4 8 = .ok (.goto 4, 3) := by decide +kernel
theorem dJ9_abs_067f4_11 : decode cJ9_abs_067f4 11 = .ok (.lload_n 0, 1) := by decide +kernel
theorem dJ9_abs_067f4_12 : decode cJ9_abs_067f4 12 = .ok (.lreturn, 1) := by decide +kernel
theorem dJ9_max_7cf53_0 : decode cJ9_max_7cf53 0 = .ok (.iload_n 0, 1) := by decide +kernel
theorem dJ9_max_7cf53_1 : decode cJ9_max_7cf53 1 = .ok (.iload_n 1, 1) := by decide +kernel
theorem dJ9_max_7cf53_2 : decode cJ9_max_7cf53 2 = .ok (.if_icmp .lt 7, 3) := by decide +kernel
theorem dJ9_max_7cf53_5 : decode cJ9_max_7cf53 5 = .ok (.iload_n 0, 1) := by decide +kernel
theorem dJ9_max_7cf53_6 : decode cJ9_max_7cf53 6 = .ok (.goto 4, 3) := by decide +kernel
theorem dJ9_max_7cf53_9 : decode cJ9_max_7cf53 9 = .ok (.iload_n 1, 1) := by decide +kernel
theorem dJ9_max_7cf53_10 : decode cJ9_max_7cf53 10 = .ok (.ireturn, 1) := by decide +kernel
theorem dJ9_min_7cf53_0 : decode cJ9_min_7cf53 0 = .ok (.iload_n 0, 1) := by decide +kernel
theorem dJ9_min_7cf53_1 : decode cJ9_min_7cf53 1 = .ok (.iload_n 1, 1) := by decide +kernel
theorem dJ9_min_7cf53_2 : decode cJ9_min_7cf53 2 = .ok (.if_icmp .gt 7, 3) := by decide +kernel
theorem dJ9_min_7cf53_5 : decode cJ9_min_7cf53 5 = .ok (.iload_n 0, 1) := by decide +kernel
theorem dJ9_min_7cf53_6 : decode cJ9_min_7cf53 6 = .ok (.goto 4, 3) := by decide +kernel
theorem dJ9_min_7cf53_9 : decode cJ9_min_7cf53 9 = .ok (.iload_n 1, 1) := by decide +kernel
theorem dJ9_min_7cf53_10 : decode cJ9_min_7cf53 10 = .ok (.ireturn, 1) := by decide +kernel
theorem dJ7_fill_53178_0 : decode cJ7_fill_53178 0 = .ok (.iconst 0, 1) := by decide +kernel
theorem dJ7_fill_53178_1 : decode cJ7_fill_53178 1 = .ok (.istore_n 2, 1) := by decide +kernel
theorem dJ7_fill_53178_2 : decode cJ7_fill_53178 2 = .ok (.aload_n 0, 1) := by decide +kernel
theorem dJ7_fill_53178_3 : decode cJ7_fill_53178 3 = .ok (.arraylength, 1) := by decide +kernel
theorem dJ7_fill_53178_4 : decode cJ7_fill_53178 4 = .ok (.istore_n 3, 1) := by decide +kernel
theorem dJ7_fill_53178_5 : decode cJ7_fill_53178 5 = .ok (.iload_n 2, 1) := by decide +kernel
theorem dJ7_fill_53178_6 : decode cJ7_fill_53178 6 = .ok (.iload_n 3, 1) := by decide +kernel
theorem dJ7_fill_53178_7 : decode cJ7_fill_53178 7 = .ok (.if_icmp .ge 13, 3) := by decide +kernel
theorem dJ7_fill_53178_10 : decode cJ7_fill_53178 10 = .ok (.aload_n 0, 1) := by decide +kernel
theorem dJ7_fill_53178_11 : decode cJ7_fill_53178 11 = .ok (.iload_n 2, 1) := by decide +kernel
theorem dJ7_fill_53178_12 : decode cJ7_fill_53178 12 = .ok (.iload_n 1, 1) := by decide +kernel
theorem dJ7_fill_53178_13 : decode cJ7_fill_53178 13 = .ok (.iastore, 1) := by decide +kernel
theorem dJ7_fill_53178_14 : decode cJ7_fill_53178 14 = .ok (.iinc 2 1, 3) := by decide +kernel
theorem dJ7_fill_53178_17 : decode cJ7_fill_53178 17 = .ok (.goto (-12), 3) := by decide +kernel
theorem dJ7_fill_53178_20 : decode cJ7_fill_53178 20 = .ok (.return_, 1) := by decide +kernel
theorem dL_law_0 : decode cL_law 0 = .ok (.new 7, 3) := by decide +kernel
theorem dL_law_3 : decode cL_law 3 = .ok (.dup, 1) := by decide +kernel
theorem dL_law_4 : decode cL_law 4 = .ok (.invokespecial 9, 3) := by decide +kernel
theorem dL_law_7 : decode cL_law 7 = .ok (.astore_n 1, 1) := by decide +kernel
theorem dL_law_8 : decode cL_law 8 = .ok (.new 10, 3) := by decide +kernel
theorem dL_law_11 : decode cL_law 11 = .ok (.dup, 1) := by decide +kernel
theorem dL_law_12 : decode cL_law 12 = .ok (.invokespecial 12, 3) := by decide +kernel
theorem dL_law_15 : decode cL_law 15 = .ok (.astore_n 2, 1) := by decide +kernel
theorem dL_law_16 : decode cL_law 16 = .ok (.iconst 0, 1) := by decide +kernel
theorem dL_law_17 : decode cL_law 17 = .ok (.istore_n 3, 1) := by decide +kernel
theorem dL_law_18 : decode cL_law 18 = .ok (.iload_n 3, 1) := by decide +kernel
theorem dL_law_19 : decode cL_law 19 = .ok (.aload_n 0, 1) := by decide +kernel
theorem dL_law_20 : decode cL_law 20 = .ok (.arraylength, 1) := by decide +kernel
theorem dL_law_21 : decode cL_law 21 = .ok (.bipush 6, 2) := by decide +kernel
theorem dL_law_23 : decode cL_law 23 = .ok (.isub, 1) := by decide +kernel
theorem dL_law_24 : decode cL_law 24 = .ok (.if_icmp .gt 977, 3) := by decide +kernel
theorem dL_law_27 : decode cL_law 27 = .ok (.aload_n 0, 1) := by decide +kernel
theorem dL_law_28 : decode cL_law 28 = .ok (.iload_n 3, 1) := by decide +kernel
theorem dL_law_29 : decode cL_law 29 = .ok (.iaload, 1) := by decide +kernel
theorem dL_law_30 : decode cL_law 30 = .ok (.bipush 31, 2) := by decide +kernel
theorem dL_law_32 : decode cL_law 32 = .ok (.iand, 1) := by decide +kernel
theorem dL_law_33 : decode cL_law 33 = .ok (.tableswitch 962 0 28 #[131, 154, 197, 221, 254, 287, 330, 373, 407, 470, 493, 536, 579, 612, 635, 658, 691, 724, 757, 790, 813, 836, 859, 873, 887, 900, 913, 926, 939], 131) := by decide +kernel
theorem dL_law_164 : decode cL_law 164 = .ok (.aload_n 1, 1) := by decide +kernel
theorem dL_law_165 : decode cL_law 165 = .ok (.aload_n 0, 1) := by decide +kernel
theorem dL_law_166 : decode cL_law 166 = .ok (.iload_n 3, 1) := by decide +kernel
theorem dL_law_167 : decode cL_law 167 = .ok (.iconst 1, 1) := by decide +kernel
theorem dL_law_168 : decode cL_law 168 = .ok (.iadd, 1) := by decide +kernel
theorem dL_law_169 : decode cL_law 169 = .ok (.iaload, 1) := by decide +kernel
theorem dL_law_170 : decode cL_law 170 = .ok (.invokevirtual 13, 3) := by decide +kernel
theorem dL_law_173 : decode cL_law 173 = .ok (.aload_n 2, 1) := by decide +kernel
theorem dL_law_174 : decode cL_law 174 = .ok (.aload_n 0, 1) := by decide +kernel
theorem dL_law_175 : decode cL_law 175 = .ok (.iload_n 3, 1) := by decide +kernel
theorem dL_law_176 : decode cL_law 176 = .ok (.iconst 1, 1) := by decide +kernel
theorem dL_law_177 : decode cL_law 177 = .ok (.iadd, 1) := by decide +kernel
theorem dL_law_178 : decode cL_law 178 = .ok (.iaload, 1) := by decide +kernel
theorem dL_law_179 : decode cL_law 179 = .ok (.invokevirtual 17, 3) := by decide +kernel
theorem dL_law_182 : decode cL_law 182 = .ok (.if_icmp .eq 813, 3) := by decide +kernel
theorem dL_law_185 : decode cL_law 185 = .ok (.iconst 0, 1) := by decide +kernel
theorem dL_law_186 : decode cL_law 186 = .ok (.ireturn, 1) := by decide +kernel
theorem dL_law_187 : decode cL_law 187 = .ok (.aload_n 1, 1) := by decide +kernel
theorem dL_law_188 : decode cL_law 188 = .ok (.aload_n 0, 1) := by decide +kernel
theorem dL_law_189 : decode cL_law 189 = .ok (.iload_n 3, 1) := by decide +kernel
theorem dL_law_190 : decode cL_law 190 = .ok (.iconst 1, 1) := by decide +kernel
theorem dL_law_191 : decode cL_law 191 = .ok (.iadd, 1) := by decide +kernel
theorem dL_law_192 : decode cL_law 192 = .ok (.iaload, 1) := by decide +kernel
theorem dL_law_193 : decode cL_law 193 = .ok (.aload_n 0, 1) := by decide +kernel
theorem dL_law_194 : decode cL_law 194 = .ok (.iload_n 3, 1) := by decide +kernel
theorem dL_law_195 : decode cL_law 195 = .ok (.iconst 2, 1) := by decide +kernel
theorem dL_law_196 : decode cL_law 196 = .ok (.iadd, 1) := by decide +kernel
theorem dL_law_197 : decode cL_law 197 = .ok (.iaload, 1) := by decide +kernel
theorem dL_law_198 : decode cL_law 198 = .ok (.aload_n 0, 1) := by decide +kernel
theorem dL_law_199 : decode cL_law 199 = .ok (.iload_n 3, 1) := by decide +kernel
theorem dL_law_200 : decode cL_law 200 = .ok (.iconst 3, 1) := by decide +kernel
theorem dL_law_201 : decode cL_law 201 = .ok (.iadd, 1) := by decide +kernel
theorem dL_law_202 : decode cL_law 202 = .ok (.iaload, 1) := by decide +kernel
theorem dL_law_203 : decode cL_law 203 = .ok (.invokevirtual 18, 3) := by decide +kernel
theorem dL_law_206 : decode cL_law 206 = .ok (.aload_n 2, 1) := by decide +kernel
theorem dL_law_207 : decode cL_law 207 = .ok (.aload_n 0, 1) := by decide +kernel
theorem dL_law_208 : decode cL_law 208 = .ok (.iload_n 3, 1) := by decide +kernel
theorem dL_law_209 : decode cL_law 209 = .ok (.iconst 1, 1) := by decide +kernel
theorem dL_law_210 : decode cL_law 210 = .ok (.iadd, 1) := by decide +kernel
theorem dL_law_211 : decode cL_law 211 = .ok (.iaload, 1) := by decide +kernel
theorem dL_law_212 : decode cL_law 212 = .ok (.aload_n 0, 1) := by decide +kernel
theorem dL_law_213 : decode cL_law 213 = .ok (.iload_n 3, 1) := by decide +kernel
theorem dL_law_214 : decode cL_law 214 = .ok (.iconst 2, 1) := by decide +kernel
theorem dL_law_215 : decode cL_law 215 = .ok (.iadd, 1) := by decide +kernel
theorem dL_law_216 : decode cL_law 216 = .ok (.iaload, 1) := by decide +kernel
theorem dL_law_217 : decode cL_law 217 = .ok (.aload_n 0, 1) := by decide +kernel
theorem dL_law_218 : decode cL_law 218 = .ok (.iload_n 3, 1) := by decide +kernel
theorem dL_law_219 : decode cL_law 219 = .ok (.iconst 3, 1) := by decide +kernel
theorem dL_law_220 : decode cL_law 220 = .ok (.iadd, 1) := by decide +kernel
theorem dL_law_221 : decode cL_law 221 = .ok (.iaload, 1) := by decide +kernel
theorem dL_law_222 : decode cL_law 222 = .ok (.invokevirtual 22, 3) := by decide +kernel
theorem dL_law_225 : decode cL_law 225 = .ok (.if_icmp .eq 770, 3) := by decide +kernel
theorem dL_law_228 : decode cL_law 228 = .ok (.iconst 0, 1) := by decide +kernel
theorem dL_law_229 : decode cL_law 229 = .ok (.ireturn, 1) := by decide +kernel
theorem dL_law_230 : decode cL_law 230 = .ok (.aload_n 1, 1) := by decide +kernel
theorem dL_law_231 : decode cL_law 231 = .ok (.aload_n 0, 1) := by decide +kernel
theorem dL_law_232 : decode cL_law 232 = .ok (.iload_n 3, 1) := by decide +kernel
theorem dL_law_233 : decode cL_law 233 = .ok (.iconst 1, 1) := by decide +kernel
theorem dL_law_234 : decode cL_law 234 = .ok (.iadd, 1) := by decide +kernel
theorem dL_law_235 : decode cL_law 235 = .ok (.iaload, 1) := by decide +kernel
theorem dL_law_236 : decode cL_law 236 = .ok (.invokevirtual 23, 3) := by decide +kernel
theorem dL_law_239 : decode cL_law 239 = .ok (.aload_n 2, 1) := by decide +kernel
theorem dL_law_240 : decode cL_law 240 = .ok (.aload_n 0, 1) := by decide +kernel
theorem dL_law_241 : decode cL_law 241 = .ok (.iload_n 3, 1) := by decide +kernel
theorem dL_law_242 : decode cL_law 242 = .ok (.iconst 1, 1) := by decide +kernel
theorem dL_law_243 : decode cL_law 243 = .ok (.iadd, 1) := by decide +kernel
theorem dL_law_244 : decode cL_law 244 = .ok (.iaload, 1) := by decide +kernel
theorem dL_law_245 : decode cL_law 245 = .ok (.invokevirtual 27, 3) := by decide +kernel
theorem dL_law_248 : decode cL_law 248 = .ok (.lcmp, 1) := by decide +kernel
theorem dL_law_249 : decode cL_law 249 = .ok (.ifCond .eq 746, 3) := by decide +kernel
theorem dL_law_252 : decode cL_law 252 = .ok (.iconst 0, 1) := by decide +kernel
theorem dL_law_253 : decode cL_law 253 = .ok (.ireturn, 1) := by decide +kernel
theorem dL_law_254 : decode cL_law 254 = .ok (.aload_n 1, 1) := by decide +kernel
theorem dL_law_255 : decode cL_law 255 = .ok (.aload_n 0, 1) := by decide +kernel
theorem dL_law_256 : decode cL_law 256 = .ok (.iload_n 3, 1) := by decide +kernel
theorem dL_law_257 : decode cL_law 257 = .ok (.iconst 1, 1) := by decide +kernel
theorem dL_law_258 : decode cL_law 258 = .ok (.iadd, 1) := by decide +kernel
theorem dL_law_259 : decode cL_law 259 = .ok (.iaload, 1) := by decide +kernel
theorem dL_law_260 : decode cL_law 260 = .ok (.aload_n 0, 1) := by decide +kernel
theorem dL_law_261 : decode cL_law 261 = .ok (.iload_n 3, 1) := by decide +kernel
theorem dL_law_262 : decode cL_law 262 = .ok (.iconst 2, 1) := by decide +kernel
theorem dL_law_263 : decode cL_law 263 = .ok (.iadd, 1) := by decide +kernel
theorem dL_law_264 : decode cL_law 264 = .ok (.iaload, 1) := by decide +kernel
theorem dL_law_265 : decode cL_law 265 = .ok (.invokevirtual 28, 3) := by decide +kernel
theorem dL_law_268 : decode cL_law 268 = .ok (.aload_n 2, 1) := by decide +kernel
theorem dL_law_269 : decode cL_law 269 = .ok (.aload_n 0, 1) := by decide +kernel
theorem dL_law_270 : decode cL_law 270 = .ok (.iload_n 3, 1) := by decide +kernel
theorem dL_law_271 : decode cL_law 271 = .ok (.iconst 1, 1) := by decide +kernel
theorem dL_law_272 : decode cL_law 272 = .ok (.iadd, 1) := by decide +kernel
theorem dL_law_273 : decode cL_law 273 = .ok (.iaload, 1) := by decide +kernel
theorem dL_law_274 : decode cL_law 274 = .ok (.aload_n 0, 1) := by decide +kernel
theorem dL_law_275 : decode cL_law 275 = .ok (.iload_n 3, 1) := by decide +kernel
theorem dL_law_276 : decode cL_law 276 = .ok (.iconst 2, 1) := by decide +kernel
theorem dL_law_277 : decode cL_law 277 = .ok (.iadd, 1) := by decide +kernel
theorem dL_law_278 : decode cL_law 278 = .ok (.iaload, 1) := by decide +kernel
theorem dL_law_279 : decode cL_law 279 = .ok (.invokevirtual 32, 3) := by decide +kernel
theorem dL_law_282 : decode cL_law 282 = .ok (.if_icmp .eq 713, 3) := by decide +kernel
theorem dL_law_285 : decode cL_law 285 = .ok (.iconst 0, 1) := by decide +kernel
theorem dL_law_286 : decode cL_law 286 = .ok (.ireturn, 1) := by decide +kernel
theorem dL_law_287 : decode cL_law 287 = .ok (.aload_n 1, 1) := by decide +kernel
theorem dL_law_288 : decode cL_law 288 = .ok (.aload_n 0, 1) := by decide +kernel
theorem dL_law_289 : decode cL_law 289 = .ok (.iload_n 3, 1) := by decide +kernel
theorem dL_law_290 : decode cL_law 290 = .ok (.iconst 1, 1) := by decide +kernel
theorem dL_law_291 : decode cL_law 291 = .ok (.iadd, 1) := by decide +kernel
theorem dL_law_292 : decode cL_law 292 = .ok (.iaload, 1) := by decide +kernel
theorem dL_law_293 : decode cL_law 293 = .ok (.aload_n 0, 1) := by decide +kernel
theorem dL_law_294 : decode cL_law 294 = .ok (.iload_n 3, 1) := by decide +kernel
theorem dL_law_295 : decode cL_law 295 = .ok (.iconst 2, 1) := by decide +kernel
theorem dL_law_296 : decode cL_law 296 = .ok (.iadd, 1) := by decide +kernel
theorem dL_law_297 : decode cL_law 297 = .ok (.iaload, 1) := by decide +kernel
theorem dL_law_298 : decode cL_law 298 = .ok (.invokevirtual 33, 3) := by decide +kernel
theorem dL_law_301 : decode cL_law 301 = .ok (.aload_n 2, 1) := by decide +kernel
theorem dL_law_302 : decode cL_law 302 = .ok (.aload_n 0, 1) := by decide +kernel
theorem dL_law_303 : decode cL_law 303 = .ok (.iload_n 3, 1) := by decide +kernel
theorem dL_law_304 : decode cL_law 304 = .ok (.iconst 1, 1) := by decide +kernel
theorem dL_law_305 : decode cL_law 305 = .ok (.iadd, 1) := by decide +kernel
theorem dL_law_306 : decode cL_law 306 = .ok (.iaload, 1) := by decide +kernel
theorem dL_law_307 : decode cL_law 307 = .ok (.aload_n 0, 1) := by decide +kernel
theorem dL_law_308 : decode cL_law 308 = .ok (.iload_n 3, 1) := by decide +kernel
theorem dL_law_309 : decode cL_law 309 = .ok (.iconst 2, 1) := by decide +kernel
theorem dL_law_310 : decode cL_law 310 = .ok (.iadd, 1) := by decide +kernel
theorem dL_law_311 : decode cL_law 311 = .ok (.iaload, 1) := by decide +kernel
theorem dL_law_312 : decode cL_law 312 = .ok (.invokevirtual 36, 3) := by decide +kernel
theorem dL_law_315 : decode cL_law 315 = .ok (.if_icmp .eq 680, 3) := by decide +kernel
theorem dL_law_318 : decode cL_law 318 = .ok (.iconst 0, 1) := by decide +kernel
theorem dL_law_319 : decode cL_law 319 = .ok (.ireturn, 1) := by decide +kernel
theorem dL_law_320 : decode cL_law 320 = .ok (.aload_n 1, 1) := by decide +kernel
theorem dL_law_321 : decode cL_law 321 = .ok (.aload_n 0, 1) := by decide +kernel
theorem dL_law_322 : decode cL_law 322 = .ok (.iload_n 3, 1) := by decide +kernel
theorem dL_law_323 : decode cL_law 323 = .ok (.iconst 1, 1) := by decide +kernel
theorem dL_law_324 : decode cL_law 324 = .ok (.iadd, 1) := by decide +kernel
theorem dL_law_325 : decode cL_law 325 = .ok (.iaload, 1) := by decide +kernel
theorem dL_law_326 : decode cL_law 326 = .ok (.aload_n 0, 1) := by decide +kernel
theorem dL_law_327 : decode cL_law 327 = .ok (.iload_n 3, 1) := by decide +kernel
theorem dL_law_328 : decode cL_law 328 = .ok (.iconst 2, 1) := by decide +kernel
theorem dL_law_329 : decode cL_law 329 = .ok (.iadd, 1) := by decide +kernel
theorem dL_law_330 : decode cL_law 330 = .ok (.iaload, 1) := by decide +kernel
theorem dL_law_331 : decode cL_law 331 = .ok (.aload_n 0, 1) := by decide +kernel
theorem dL_law_332 : decode cL_law 332 = .ok (.iload_n 3, 1) := by decide +kernel
theorem dL_law_333 : decode cL_law 333 = .ok (.iconst 3, 1) := by decide +kernel
theorem dL_law_334 : decode cL_law 334 = .ok (.iadd, 1) := by decide +kernel
theorem dL_law_335 : decode cL_law 335 = .ok (.iaload, 1) := by decide +kernel
theorem dL_law_336 : decode cL_law 336 = .ok (.invokevirtual 37, 3) := by decide +kernel
theorem dL_law_339 : decode cL_law 339 = .ok (.aload_n 2, 1) := by decide +kernel
theorem dL_law_340 : decode cL_law 340 = .ok (.aload_n 0, 1) := by decide +kernel
theorem dL_law_341 : decode cL_law 341 = .ok (.iload_n 3, 1) := by decide +kernel
theorem dL_law_342 : decode cL_law 342 = .ok (.iconst 1, 1) := by decide +kernel
theorem dL_law_343 : decode cL_law 343 = .ok (.iadd, 1) := by decide +kernel
theorem dL_law_344 : decode cL_law 344 = .ok (.iaload, 1) := by decide +kernel
theorem dL_law_345 : decode cL_law 345 = .ok (.aload_n 0, 1) := by decide +kernel
theorem dL_law_346 : decode cL_law 346 = .ok (.iload_n 3, 1) := by decide +kernel
theorem dL_law_347 : decode cL_law 347 = .ok (.iconst 2, 1) := by decide +kernel
theorem dL_law_348 : decode cL_law 348 = .ok (.iadd, 1) := by decide +kernel
theorem dL_law_349 : decode cL_law 349 = .ok (.iaload, 1) := by decide +kernel
theorem dL_law_350 : decode cL_law 350 = .ok (.aload_n 0, 1) := by decide +kernel
theorem dL_law_351 : decode cL_law 351 = .ok (.iload_n 3, 1) := by decide +kernel
theorem dL_law_352 : decode cL_law 352 = .ok (.iconst 3, 1) := by decide +kernel
theorem dL_law_353 : decode cL_law 353 = .ok (.iadd, 1) := by decide +kernel
theorem dL_law_354 : decode cL_law 354 = .ok (.iaload, 1) := by decide +kernel
theorem dL_law_355 : decode cL_law 355 = .ok (.invokevirtual 40, 3) := by decide +kernel
theorem dL_law_358 : decode cL_law 358 = .ok (.if_icmp .eq 637, 3) := by decide +kernel
theorem dL_law_361 : decode cL_law 361 = .ok (.iconst 0, 1) := by decide +kernel
theorem dL_law_362 : decode cL_law 362 = .ok (.ireturn, 1) := by decide +kernel
theorem dL_law_363 : decode cL_law 363 = .ok (.aload_n 1, 1) := by decide +kernel
theorem dL_law_364 : decode cL_law 364 = .ok (.aload_n 0, 1) := by decide +kernel
theorem dL_law_365 : decode cL_law 365 = .ok (.iload_n 3, 1) := by decide +kernel
theorem dL_law_366 : decode cL_law 366 = .ok (.iconst 1, 1) := by decide +kernel
theorem dL_law_367 : decode cL_law 367 = .ok (.iadd, 1) := by decide +kernel
theorem dL_law_368 : decode cL_law 368 = .ok (.iaload, 1) := by decide +kernel
theorem dL_law_369 : decode cL_law 369 = .ok (.aload_n 0, 1) := by decide +kernel
theorem dL_law_370 : decode cL_law 370 = .ok (.iload_n 3, 1) := by decide +kernel
theorem dL_law_371 : decode cL_law 371 = .ok (.iconst 2, 1) := by decide +kernel
theorem dL_law_372 : decode cL_law 372 = .ok (.iadd, 1) := by decide +kernel
theorem dL_law_373 : decode cL_law 373 = .ok (.iaload, 1) := by decide +kernel
theorem dL_law_374 : decode cL_law 374 = .ok (.aload_n 0, 1) := by decide +kernel
theorem dL_law_375 : decode cL_law 375 = .ok (.iload_n 3, 1) := by decide +kernel
theorem dL_law_376 : decode cL_law 376 = .ok (.iconst 3, 1) := by decide +kernel
theorem dL_law_377 : decode cL_law 377 = .ok (.iadd, 1) := by decide +kernel
theorem dL_law_378 : decode cL_law 378 = .ok (.iaload, 1) := by decide +kernel
theorem dL_law_379 : decode cL_law 379 = .ok (.invokevirtual 41, 3) := by decide +kernel
theorem dL_law_382 : decode cL_law 382 = .ok (.aload_n 2, 1) := by decide +kernel
theorem dL_law_383 : decode cL_law 383 = .ok (.aload_n 0, 1) := by decide +kernel
theorem dL_law_384 : decode cL_law 384 = .ok (.iload_n 3, 1) := by decide +kernel
theorem dL_law_385 : decode cL_law 385 = .ok (.iconst 1, 1) := by decide +kernel
theorem dL_law_386 : decode cL_law 386 = .ok (.iadd, 1) := by decide +kernel
theorem dL_law_387 : decode cL_law 387 = .ok (.iaload, 1) := by decide +kernel
theorem dL_law_388 : decode cL_law 388 = .ok (.aload_n 0, 1) := by decide +kernel
theorem dL_law_389 : decode cL_law 389 = .ok (.iload_n 3, 1) := by decide +kernel
theorem dL_law_390 : decode cL_law 390 = .ok (.iconst 2, 1) := by decide +kernel
theorem dL_law_391 : decode cL_law 391 = .ok (.iadd, 1) := by decide +kernel
theorem dL_law_392 : decode cL_law 392 = .ok (.iaload, 1) := by decide +kernel
theorem dL_law_393 : decode cL_law 393 = .ok (.aload_n 0, 1) := by decide +kernel
theorem dL_law_394 : decode cL_law 394 = .ok (.iload_n 3, 1) := by decide +kernel
theorem dL_law_395 : decode cL_law 395 = .ok (.iconst 3, 1) := by decide +kernel
theorem dL_law_396 : decode cL_law 396 = .ok (.iadd, 1) := by decide +kernel
theorem dL_law_397 : decode cL_law 397 = .ok (.iaload, 1) := by decide +kernel
theorem dL_law_398 : decode cL_law 398 = .ok (.invokevirtual 44, 3) := by decide +kernel
theorem dL_law_401 : decode cL_law 401 = .ok (.if_icmp .eq 594, 3) := by decide +kernel
theorem dL_law_404 : decode cL_law 404 = .ok (.iconst 0, 1) := by decide +kernel
theorem dL_law_405 : decode cL_law 405 = .ok (.ireturn, 1) := by decide +kernel
theorem dL_law_406 : decode cL_law 406 = .ok (.aload_n 1, 1) := by decide +kernel
theorem dL_law_407 : decode cL_law 407 = .ok (.aload_n 0, 1) := by decide +kernel
theorem dL_law_408 : decode cL_law 408 = .ok (.iload_n 3, 1) := by decide +kernel
theorem dL_law_409 : decode cL_law 409 = .ok (.iconst 1, 1) := by decide +kernel
theorem dL_law_410 : decode cL_law 410 = .ok (.iadd, 1) := by decide +kernel
theorem dL_law_411 : decode cL_law 411 = .ok (.iaload, 1) := by decide +kernel
theorem dL_law_412 : decode cL_law 412 = .ok (.aload_n 0, 1) := by decide +kernel
theorem dL_law_413 : decode cL_law 413 = .ok (.iload_n 3, 1) := by decide +kernel
theorem dL_law_414 : decode cL_law 414 = .ok (.iconst 2, 1) := by decide +kernel
theorem dL_law_415 : decode cL_law 415 = .ok (.iadd, 1) := by decide +kernel
theorem dL_law_416 : decode cL_law 416 = .ok (.iaload, 1) := by decide +kernel
theorem dL_law_417 : decode cL_law 417 = .ok (.invokevirtual 45, 3) := by decide +kernel
theorem dL_law_420 : decode cL_law 420 = .ok (.aload_n 2, 1) := by decide +kernel
theorem dL_law_421 : decode cL_law 421 = .ok (.aload_n 0, 1) := by decide +kernel
theorem dL_law_422 : decode cL_law 422 = .ok (.iload_n 3, 1) := by decide +kernel
theorem dL_law_423 : decode cL_law 423 = .ok (.iconst 1, 1) := by decide +kernel
theorem dL_law_424 : decode cL_law 424 = .ok (.iadd, 1) := by decide +kernel
theorem dL_law_425 : decode cL_law 425 = .ok (.iaload, 1) := by decide +kernel
theorem dL_law_426 : decode cL_law 426 = .ok (.aload_n 0, 1) := by decide +kernel
theorem dL_law_427 : decode cL_law 427 = .ok (.iload_n 3, 1) := by decide +kernel
theorem dL_law_428 : decode cL_law 428 = .ok (.iconst 2, 1) := by decide +kernel
theorem dL_law_429 : decode cL_law 429 = .ok (.iadd, 1) := by decide +kernel
theorem dL_law_430 : decode cL_law 430 = .ok (.iaload, 1) := by decide +kernel
theorem dL_law_431 : decode cL_law 431 = .ok (.invokevirtual 49, 3) := by decide +kernel
theorem dL_law_434 : decode cL_law 434 = .ok (.lcmp, 1) := by decide +kernel
theorem dL_law_435 : decode cL_law 435 = .ok (.ifCond .eq 560, 3) := by decide +kernel
theorem dL_law_438 : decode cL_law 438 = .ok (.iconst 0, 1) := by decide +kernel
theorem dL_law_439 : decode cL_law 439 = .ok (.ireturn, 1) := by decide +kernel
theorem dL_law_440 : decode cL_law 440 = .ok (.aload_n 1, 1) := by decide +kernel
theorem dL_law_441 : decode cL_law 441 = .ok (.aload_n 0, 1) := by decide +kernel
theorem dL_law_442 : decode cL_law 442 = .ok (.iload_n 3, 1) := by decide +kernel
theorem dL_law_443 : decode cL_law 443 = .ok (.iconst 1, 1) := by decide +kernel
theorem dL_law_444 : decode cL_law 444 = .ok (.iadd, 1) := by decide +kernel
theorem dL_law_445 : decode cL_law 445 = .ok (.iaload, 1) := by decide +kernel
theorem dL_law_446 : decode cL_law 446 = .ok (.aload_n 0, 1) := by decide +kernel
theorem dL_law_447 : decode cL_law 447 = .ok (.iload_n 3, 1) := by decide +kernel
theorem dL_law_448 : decode cL_law 448 = .ok (.iconst 2, 1) := by decide +kernel
theorem dL_law_449 : decode cL_law 449 = .ok (.iadd, 1) := by decide +kernel
theorem dL_law_450 : decode cL_law 450 = .ok (.iaload, 1) := by decide +kernel
theorem dL_law_451 : decode cL_law 451 = .ok (.aload_n 0, 1) := by decide +kernel
theorem dL_law_452 : decode cL_law 452 = .ok (.iload_n 3, 1) := by decide +kernel
theorem dL_law_453 : decode cL_law 453 = .ok (.iconst 3, 1) := by decide +kernel
theorem dL_law_454 : decode cL_law 454 = .ok (.iadd, 1) := by decide +kernel
theorem dL_law_455 : decode cL_law 455 = .ok (.iaload, 1) := by decide +kernel
theorem dL_law_456 : decode cL_law 456 = .ok (.aload_n 0, 1) := by decide +kernel
theorem dL_law_457 : decode cL_law 457 = .ok (.iload_n 3, 1) := by decide +kernel
theorem dL_law_458 : decode cL_law 458 = .ok (.iconst 4, 1) := by decide +kernel
theorem dL_law_459 : decode cL_law 459 = .ok (.iadd, 1) := by decide +kernel
theorem dL_law_460 : decode cL_law 460 = .ok (.iaload, 1) := by decide +kernel
theorem dL_law_461 : decode cL_law 461 = .ok (.aload_n 0, 1) := by decide +kernel
theorem dL_law_462 : decode cL_law 462 = .ok (.iload_n 3, 1) := by decide +kernel
theorem dL_law_463 : decode cL_law 463 = .ok (.iconst 5, 1) := by decide +kernel
theorem dL_law_464 : decode cL_law 464 = .ok (.iadd, 1) := by decide +kernel
theorem dL_law_465 : decode cL_law 465 = .ok (.iaload, 1) := by decide +kernel
theorem dL_law_466 : decode cL_law 466 = .ok (.invokevirtual 50, 3) := by decide +kernel
theorem dL_law_469 : decode cL_law 469 = .ok (.aload_n 2, 1) := by decide +kernel
theorem dL_law_470 : decode cL_law 470 = .ok (.aload_n 0, 1) := by decide +kernel
theorem dL_law_471 : decode cL_law 471 = .ok (.iload_n 3, 1) := by decide +kernel
theorem dL_law_472 : decode cL_law 472 = .ok (.iconst 1, 1) := by decide +kernel
theorem dL_law_473 : decode cL_law 473 = .ok (.iadd, 1) := by decide +kernel
theorem dL_law_474 : decode cL_law 474 = .ok (.iaload, 1) := by decide +kernel
theorem dL_law_475 : decode cL_law 475 = .ok (.aload_n 0, 1) := by decide +kernel
theorem dL_law_476 : decode cL_law 476 = .ok (.iload_n 3, 1) := by decide +kernel
theorem dL_law_477 : decode cL_law 477 = .ok (.iconst 2, 1) := by decide +kernel
theorem dL_law_478 : decode cL_law 478 = .ok (.iadd, 1) := by decide +kernel
theorem dL_law_479 : decode cL_law 479 = .ok (.iaload, 1) := by decide +kernel
theorem dL_law_480 : decode cL_law 480 = .ok (.aload_n 0, 1) := by decide +kernel
theorem dL_law_481 : decode cL_law 481 = .ok (.iload_n 3, 1) := by decide +kernel
theorem dL_law_482 : decode cL_law 482 = .ok (.iconst 3, 1) := by decide +kernel
theorem dL_law_483 : decode cL_law 483 = .ok (.iadd, 1) := by decide +kernel
theorem dL_law_484 : decode cL_law 484 = .ok (.iaload, 1) := by decide +kernel
theorem dL_law_485 : decode cL_law 485 = .ok (.aload_n 0, 1) := by decide +kernel
theorem dL_law_486 : decode cL_law 486 = .ok (.iload_n 3, 1) := by decide +kernel
theorem dL_law_487 : decode cL_law 487 = .ok (.iconst 4, 1) := by decide +kernel
theorem dL_law_488 : decode cL_law 488 = .ok (.iadd, 1) := by decide +kernel
theorem dL_law_489 : decode cL_law 489 = .ok (.iaload, 1) := by decide +kernel
theorem dL_law_490 : decode cL_law 490 = .ok (.aload_n 0, 1) := by decide +kernel
theorem dL_law_491 : decode cL_law 491 = .ok (.iload_n 3, 1) := by decide +kernel
theorem dL_law_492 : decode cL_law 492 = .ok (.iconst 5, 1) := by decide +kernel
theorem dL_law_493 : decode cL_law 493 = .ok (.iadd, 1) := by decide +kernel
theorem dL_law_494 : decode cL_law 494 = .ok (.iaload, 1) := by decide +kernel
theorem dL_law_495 : decode cL_law 495 = .ok (.invokevirtual 54, 3) := by decide +kernel
theorem dL_law_498 : decode cL_law 498 = .ok (.if_icmp .eq 497, 3) := by decide +kernel
theorem dL_law_501 : decode cL_law 501 = .ok (.iconst 0, 1) := by decide +kernel
theorem dL_law_502 : decode cL_law 502 = .ok (.ireturn, 1) := by decide +kernel
theorem dL_law_503 : decode cL_law 503 = .ok (.aload_n 1, 1) := by decide +kernel
theorem dL_law_504 : decode cL_law 504 = .ok (.aload_n 0, 1) := by decide +kernel
theorem dL_law_505 : decode cL_law 505 = .ok (.iload_n 3, 1) := by decide +kernel
theorem dL_law_506 : decode cL_law 506 = .ok (.iconst 1, 1) := by decide +kernel
theorem dL_law_507 : decode cL_law 507 = .ok (.iadd, 1) := by decide +kernel
theorem dL_law_508 : decode cL_law 508 = .ok (.iaload, 1) := by decide +kernel
theorem dL_law_509 : decode cL_law 509 = .ok (.invokevirtual 55, 3) := by decide +kernel
theorem dL_law_512 : decode cL_law 512 = .ok (.aload_n 2, 1) := by decide +kernel
theorem dL_law_513 : decode cL_law 513 = .ok (.aload_n 0, 1) := by decide +kernel
theorem dL_law_514 : decode cL_law 514 = .ok (.iload_n 3, 1) := by decide +kernel
theorem dL_law_515 : decode cL_law 515 = .ok (.iconst 1, 1) := by decide +kernel
theorem dL_law_516 : decode cL_law 516 = .ok (.iadd, 1) := by decide +kernel
theorem dL_law_517 : decode cL_law 517 = .ok (.iaload, 1) := by decide +kernel
theorem dL_law_518 : decode cL_law 518 = .ok (.invokevirtual 58, 3) := by decide +kernel
theorem dL_law_521 : decode cL_law 521 = .ok (.if_icmp .eq 474, 3) := by decide +kernel
theorem dL_law_524 : decode cL_law 524 = .ok (.iconst 0, 1) := by decide +kernel
theorem dL_law_525 : decode cL_law 525 = .ok (.ireturn, 1) := by decide +kernel
theorem dL_law_526 : decode cL_law 526 = .ok (.aload_n 1, 1) := by decide +kernel
theorem dL_law_527 : decode cL_law 527 = .ok (.aload_n 0, 1) := by decide +kernel
theorem dL_law_528 : decode cL_law 528 = .ok (.iload_n 3, 1) := by decide +kernel
theorem dL_law_529 : decode cL_law 529 = .ok (.iconst 1, 1) := by decide +kernel
theorem dL_law_530 : decode cL_law 530 = .ok (.iadd, 1) := by decide +kernel
theorem dL_law_531 : decode cL_law 531 = .ok (.iaload, 1) := by decide +kernel
theorem dL_law_532 : decode cL_law 532 = .ok (.aload_n 0, 1) := by decide +kernel
theorem dL_law_533 : decode cL_law 533 = .ok (.iload_n 3, 1) := by decide +kernel
theorem dL_law_534 : decode cL_law 534 = .ok (.iconst 2, 1) := by decide +kernel
theorem dL_law_535 : decode cL_law 535 = .ok (.iadd, 1) := by decide +kernel
theorem dL_law_536 : decode cL_law 536 = .ok (.iaload, 1) := by decide +kernel
theorem dL_law_537 : decode cL_law 537 = .ok (.aload_n 0, 1) := by decide +kernel
theorem dL_law_538 : decode cL_law 538 = .ok (.iload_n 3, 1) := by decide +kernel
theorem dL_law_539 : decode cL_law 539 = .ok (.iconst 3, 1) := by decide +kernel
theorem dL_law_540 : decode cL_law 540 = .ok (.iadd, 1) := by decide +kernel
theorem dL_law_541 : decode cL_law 541 = .ok (.iaload, 1) := by decide +kernel
theorem dL_law_542 : decode cL_law 542 = .ok (.invokevirtual 59, 3) := by decide +kernel
theorem dL_law_545 : decode cL_law 545 = .ok (.aload_n 2, 1) := by decide +kernel
theorem dL_law_546 : decode cL_law 546 = .ok (.aload_n 0, 1) := by decide +kernel
theorem dL_law_547 : decode cL_law 547 = .ok (.iload_n 3, 1) := by decide +kernel
theorem dL_law_548 : decode cL_law 548 = .ok (.iconst 1, 1) := by decide +kernel
theorem dL_law_549 : decode cL_law 549 = .ok (.iadd, 1) := by decide +kernel
theorem dL_law_550 : decode cL_law 550 = .ok (.iaload, 1) := by decide +kernel
theorem dL_law_551 : decode cL_law 551 = .ok (.aload_n 0, 1) := by decide +kernel
theorem dL_law_552 : decode cL_law 552 = .ok (.iload_n 3, 1) := by decide +kernel
theorem dL_law_553 : decode cL_law 553 = .ok (.iconst 2, 1) := by decide +kernel
theorem dL_law_554 : decode cL_law 554 = .ok (.iadd, 1) := by decide +kernel
theorem dL_law_555 : decode cL_law 555 = .ok (.iaload, 1) := by decide +kernel
theorem dL_law_556 : decode cL_law 556 = .ok (.aload_n 0, 1) := by decide +kernel
theorem dL_law_557 : decode cL_law 557 = .ok (.iload_n 3, 1) := by decide +kernel
theorem dL_law_558 : decode cL_law 558 = .ok (.iconst 3, 1) := by decide +kernel
theorem dL_law_559 : decode cL_law 559 = .ok (.iadd, 1) := by decide +kernel
theorem dL_law_560 : decode cL_law 560 = .ok (.iaload, 1) := by decide +kernel
theorem dL_law_561 : decode cL_law 561 = .ok (.invokevirtual 62, 3) := by decide +kernel
theorem dL_law_564 : decode cL_law 564 = .ok (.if_icmp .eq 431, 3) := by decide +kernel
theorem dL_law_567 : decode cL_law 567 = .ok (.iconst 0, 1) := by decide +kernel
theorem dL_law_568 : decode cL_law 568 = .ok (.ireturn, 1) := by decide +kernel
theorem dL_law_569 : decode cL_law 569 = .ok (.aload_n 1, 1) := by decide +kernel
theorem dL_law_570 : decode cL_law 570 = .ok (.aload_n 0, 1) := by decide +kernel
theorem dL_law_571 : decode cL_law 571 = .ok (.iload_n 3, 1) := by decide +kernel
theorem dL_law_572 : decode cL_law 572 = .ok (.iconst 1, 1) := by decide +kernel
theorem dL_law_573 : decode cL_law 573 = .ok (.iadd, 1) := by decide +kernel
theorem dL_law_574 : decode cL_law 574 = .ok (.iaload, 1) := by decide +kernel
theorem dL_law_575 : decode cL_law 575 = .ok (.aload_n 0, 1) := by decide +kernel
theorem dL_law_576 : decode cL_law 576 = .ok (.iload_n 3, 1) := by decide +kernel
theorem dL_law_577 : decode cL_law 577 = .ok (.iconst 2, 1) := by decide +kernel
theorem dL_law_578 : decode cL_law 578 = .ok (.iadd, 1) := by decide +kernel
theorem dL_law_579 : decode cL_law 579 = .ok (.iaload, 1) := by decide +kernel
theorem dL_law_580 : decode cL_law 580 = .ok (.aload_n 0, 1) := by decide +kernel
theorem dL_law_581 : decode cL_law 581 = .ok (.iload_n 3, 1) := by decide +kernel
theorem dL_law_582 : decode cL_law 582 = .ok (.iconst 3, 1) := by decide +kernel
theorem dL_law_583 : decode cL_law 583 = .ok (.iadd, 1) := by decide +kernel
theorem dL_law_584 : decode cL_law 584 = .ok (.iaload, 1) := by decide +kernel
theorem dL_law_585 : decode cL_law 585 = .ok (.invokevirtual 63, 3) := by decide +kernel
theorem dL_law_588 : decode cL_law 588 = .ok (.aload_n 2, 1) := by decide +kernel
theorem dL_law_589 : decode cL_law 589 = .ok (.aload_n 0, 1) := by decide +kernel
theorem dL_law_590 : decode cL_law 590 = .ok (.iload_n 3, 1) := by decide +kernel
theorem dL_law_591 : decode cL_law 591 = .ok (.iconst 1, 1) := by decide +kernel
theorem dL_law_592 : decode cL_law 592 = .ok (.iadd, 1) := by decide +kernel
theorem dL_law_593 : decode cL_law 593 = .ok (.iaload, 1) := by decide +kernel
theorem dL_law_594 : decode cL_law 594 = .ok (.aload_n 0, 1) := by decide +kernel
theorem dL_law_595 : decode cL_law 595 = .ok (.iload_n 3, 1) := by decide +kernel
theorem dL_law_596 : decode cL_law 596 = .ok (.iconst 2, 1) := by decide +kernel
theorem dL_law_597 : decode cL_law 597 = .ok (.iadd, 1) := by decide +kernel
theorem dL_law_598 : decode cL_law 598 = .ok (.iaload, 1) := by decide +kernel
theorem dL_law_599 : decode cL_law 599 = .ok (.aload_n 0, 1) := by decide +kernel
theorem dL_law_600 : decode cL_law 600 = .ok (.iload_n 3, 1) := by decide +kernel
theorem dL_law_601 : decode cL_law 601 = .ok (.iconst 3, 1) := by decide +kernel
theorem dL_law_602 : decode cL_law 602 = .ok (.iadd, 1) := by decide +kernel
theorem dL_law_603 : decode cL_law 603 = .ok (.iaload, 1) := by decide +kernel
theorem dL_law_604 : decode cL_law 604 = .ok (.invokevirtual 66, 3) := by decide +kernel
theorem dL_law_607 : decode cL_law 607 = .ok (.if_icmp .eq 388, 3) := by decide +kernel
theorem dL_law_610 : decode cL_law 610 = .ok (.iconst 0, 1) := by decide +kernel
theorem dL_law_611 : decode cL_law 611 = .ok (.ireturn, 1) := by decide +kernel
theorem dL_law_612 : decode cL_law 612 = .ok (.aload_n 1, 1) := by decide +kernel
theorem dL_law_613 : decode cL_law 613 = .ok (.aload_n 0, 1) := by decide +kernel
theorem dL_law_614 : decode cL_law 614 = .ok (.iload_n 3, 1) := by decide +kernel
theorem dL_law_615 : decode cL_law 615 = .ok (.iconst 1, 1) := by decide +kernel
theorem dL_law_616 : decode cL_law 616 = .ok (.iadd, 1) := by decide +kernel
theorem dL_law_617 : decode cL_law 617 = .ok (.iaload, 1) := by decide +kernel
theorem dL_law_618 : decode cL_law 618 = .ok (.aload_n 0, 1) := by decide +kernel
theorem dL_law_619 : decode cL_law 619 = .ok (.iload_n 3, 1) := by decide +kernel
theorem dL_law_620 : decode cL_law 620 = .ok (.iconst 2, 1) := by decide +kernel
theorem dL_law_621 : decode cL_law 621 = .ok (.iadd, 1) := by decide +kernel
theorem dL_law_622 : decode cL_law 622 = .ok (.iaload, 1) := by decide +kernel
theorem dL_law_623 : decode cL_law 623 = .ok (.invokevirtual 67, 3) := by decide +kernel
theorem dL_law_626 : decode cL_law 626 = .ok (.aload_n 2, 1) := by decide +kernel
theorem dL_law_627 : decode cL_law 627 = .ok (.aload_n 0, 1) := by decide +kernel
theorem dL_law_628 : decode cL_law 628 = .ok (.iload_n 3, 1) := by decide +kernel
theorem dL_law_629 : decode cL_law 629 = .ok (.iconst 1, 1) := by decide +kernel
theorem dL_law_630 : decode cL_law 630 = .ok (.iadd, 1) := by decide +kernel
theorem dL_law_631 : decode cL_law 631 = .ok (.iaload, 1) := by decide +kernel
theorem dL_law_632 : decode cL_law 632 = .ok (.aload_n 0, 1) := by decide +kernel
theorem dL_law_633 : decode cL_law 633 = .ok (.iload_n 3, 1) := by decide +kernel
theorem dL_law_634 : decode cL_law 634 = .ok (.iconst 2, 1) := by decide +kernel
theorem dL_law_635 : decode cL_law 635 = .ok (.iadd, 1) := by decide +kernel
theorem dL_law_636 : decode cL_law 636 = .ok (.iaload, 1) := by decide +kernel
theorem dL_law_637 : decode cL_law 637 = .ok (.invokevirtual 70, 3) := by decide +kernel
theorem dL_law_640 : decode cL_law 640 = .ok (.if_icmp .eq 355, 3) := by decide +kernel
theorem dL_law_643 : decode cL_law 643 = .ok (.iconst 0, 1) := by decide +kernel
theorem dL_law_644 : decode cL_law 644 = .ok (.ireturn, 1) := by decide +kernel
theorem dL_law_645 : decode cL_law 645 = .ok (.aload_n 1, 1) := by decide +kernel
theorem dL_law_646 : decode cL_law 646 = .ok (.aload_n 0, 1) := by decide +kernel
theorem dL_law_647 : decode cL_law 647 = .ok (.iload_n 3, 1) := by decide +kernel
theorem dL_law_648 : decode cL_law 648 = .ok (.iconst 1, 1) := by decide +kernel
theorem dL_law_649 : decode cL_law 649 = .ok (.iadd, 1) := by decide +kernel
theorem dL_law_650 : decode cL_law 650 = .ok (.iaload, 1) := by decide +kernel
theorem dL_law_651 : decode cL_law 651 = .ok (.invokevirtual 71, 3) := by decide +kernel
theorem dL_law_654 : decode cL_law 654 = .ok (.aload_n 2, 1) := by decide +kernel
theorem dL_law_655 : decode cL_law 655 = .ok (.aload_n 0, 1) := by decide +kernel
theorem dL_law_656 : decode cL_law 656 = .ok (.iload_n 3, 1) := by decide +kernel
theorem dL_law_657 : decode cL_law 657 = .ok (.iconst 1, 1) := by decide +kernel
theorem dL_law_658 : decode cL_law 658 = .ok (.iadd, 1) := by decide +kernel
theorem dL_law_659 : decode cL_law 659 = .ok (.iaload, 1) := by decide +kernel
theorem dL_law_660 : decode cL_law 660 = .ok (.invokevirtual 74, 3) := by decide +kernel
theorem dL_law_663 : decode cL_law 663 = .ok (.if_icmp .eq 332, 3) := by decide +kernel
theorem dL_law_666 : decode cL_law 666 = .ok (.iconst 0, 1) := by decide +kernel
theorem dL_law_667 : decode cL_law 667 = .ok (.ireturn, 1) := by decide +kernel
theorem dL_law_668 : decode cL_law 668 = .ok (.aload_n 1, 1) := by decide +kernel
theorem dL_law_669 : decode cL_law 669 = .ok (.aload_n 0, 1) := by decide +kernel
theorem dL_law_670 : decode cL_law 670 = .ok (.iload_n 3, 1) := by decide +kernel
theorem dL_law_671 : decode cL_law 671 = .ok (.iconst 1, 1) := by decide +kernel
theorem dL_law_672 : decode cL_law 672 = .ok (.iadd, 1) := by decide +kernel
theorem dL_law_673 : decode cL_law 673 = .ok (.iaload, 1) := by decide +kernel
theorem dL_law_674 : decode cL_law 674 = .ok (.invokevirtual 75, 3) := by decide +kernel
theorem dL_law_677 : decode cL_law 677 = .ok (.aload_n 2, 1) := by decide +kernel
theorem dL_law_678 : decode cL_law 678 = .ok (.aload_n 0, 1) := by decide +kernel
theorem dL_law_679 : decode cL_law 679 = .ok (.iload_n 3, 1) := by decide +kernel
theorem dL_law_680 : decode cL_law 680 = .ok (.iconst 1, 1) := by decide +kernel
theorem dL_law_681 : decode cL_law 681 = .ok (.iadd, 1) := by decide +kernel
theorem dL_law_682 : decode cL_law 682 = .ok (.iaload, 1) := by decide +kernel
theorem dL_law_683 : decode cL_law 683 = .ok (.invokevirtual 78, 3) := by decide +kernel
theorem dL_law_686 : decode cL_law 686 = .ok (.if_icmp .eq 309, 3) := by decide +kernel
theorem dL_law_689 : decode cL_law 689 = .ok (.iconst 0, 1) := by decide +kernel
theorem dL_law_690 : decode cL_law 690 = .ok (.ireturn, 1) := by decide +kernel
theorem dL_law_691 : decode cL_law 691 = .ok (.aload_n 1, 1) := by decide +kernel
theorem dL_law_692 : decode cL_law 692 = .ok (.aload_n 0, 1) := by decide +kernel
theorem dL_law_693 : decode cL_law 693 = .ok (.iload_n 3, 1) := by decide +kernel
theorem dL_law_694 : decode cL_law 694 = .ok (.iconst 1, 1) := by decide +kernel
theorem dL_law_695 : decode cL_law 695 = .ok (.iadd, 1) := by decide +kernel
theorem dL_law_696 : decode cL_law 696 = .ok (.iaload, 1) := by decide +kernel
theorem dL_law_697 : decode cL_law 697 = .ok (.aload_n 0, 1) := by decide +kernel
theorem dL_law_698 : decode cL_law 698 = .ok (.iload_n 3, 1) := by decide +kernel
theorem dL_law_699 : decode cL_law 699 = .ok (.iconst 2, 1) := by decide +kernel
theorem dL_law_700 : decode cL_law 700 = .ok (.iadd, 1) := by decide +kernel
theorem dL_law_701 : decode cL_law 701 = .ok (.iaload, 1) := by decide +kernel
theorem dL_law_702 : decode cL_law 702 = .ok (.invokevirtual 79, 3) := by decide +kernel
theorem dL_law_705 : decode cL_law 705 = .ok (.aload_n 2, 1) := by decide +kernel
theorem dL_law_706 : decode cL_law 706 = .ok (.aload_n 0, 1) := by decide +kernel
theorem dL_law_707 : decode cL_law 707 = .ok (.iload_n 3, 1) := by decide +kernel
theorem dL_law_708 : decode cL_law 708 = .ok (.iconst 1, 1) := by decide +kernel
theorem dL_law_709 : decode cL_law 709 = .ok (.iadd, 1) := by decide +kernel
theorem dL_law_710 : decode cL_law 710 = .ok (.iaload, 1) := by decide +kernel
theorem dL_law_711 : decode cL_law 711 = .ok (.aload_n 0, 1) := by decide +kernel
theorem dL_law_712 : decode cL_law 712 = .ok (.iload_n 3, 1) := by decide +kernel
theorem dL_law_713 : decode cL_law 713 = .ok (.iconst 2, 1) := by decide +kernel
theorem dL_law_714 : decode cL_law 714 = .ok (.iadd, 1) := by decide +kernel
theorem dL_law_715 : decode cL_law 715 = .ok (.iaload, 1) := by decide +kernel
theorem dL_law_716 : decode cL_law 716 = .ok (.invokevirtual 82, 3) := by decide +kernel
theorem dL_law_719 : decode cL_law 719 = .ok (.if_icmp .eq 276, 3) := by decide +kernel
theorem dL_law_722 : decode cL_law 722 = .ok (.iconst 0, 1) := by decide +kernel
theorem dL_law_723 : decode cL_law 723 = .ok (.ireturn, 1) := by decide +kernel
theorem dL_law_724 : decode cL_law 724 = .ok (.aload_n 1, 1) := by decide +kernel
theorem dL_law_725 : decode cL_law 725 = .ok (.aload_n 0, 1) := by decide +kernel
theorem dL_law_726 : decode cL_law 726 = .ok (.iload_n 3, 1) := by decide +kernel
theorem dL_law_727 : decode cL_law 727 = .ok (.iconst 1, 1) := by decide +kernel
theorem dL_law_728 : decode cL_law 728 = .ok (.iadd, 1) := by decide +kernel
theorem dL_law_729 : decode cL_law 729 = .ok (.iaload, 1) := by decide +kernel
theorem dL_law_730 : decode cL_law 730 = .ok (.aload_n 0, 1) := by decide +kernel
theorem dL_law_731 : decode cL_law 731 = .ok (.iload_n 3, 1) := by decide +kernel
theorem dL_law_732 : decode cL_law 732 = .ok (.iconst 2, 1) := by decide +kernel
theorem dL_law_733 : decode cL_law 733 = .ok (.iadd, 1) := by decide +kernel
theorem dL_law_734 : decode cL_law 734 = .ok (.iaload, 1) := by decide +kernel
theorem dL_law_735 : decode cL_law 735 = .ok (.invokevirtual 83, 3) := by decide +kernel
theorem dL_law_738 : decode cL_law 738 = .ok (.aload_n 2, 1) := by decide +kernel
theorem dL_law_739 : decode cL_law 739 = .ok (.aload_n 0, 1) := by decide +kernel
theorem dL_law_740 : decode cL_law 740 = .ok (.iload_n 3, 1) := by decide +kernel
theorem dL_law_741 : decode cL_law 741 = .ok (.iconst 1, 1) := by decide +kernel
theorem dL_law_742 : decode cL_law 742 = .ok (.iadd, 1) := by decide +kernel
theorem dL_law_743 : decode cL_law 743 = .ok (.iaload, 1) := by decide +kernel
theorem dL_law_744 : decode cL_law 744 = .ok (.aload_n 0, 1) := by decide +kernel
theorem dL_law_745 : decode cL_law 745 = .ok (.iload_n 3, 1) := by decide +kernel
theorem dL_law_746 : decode cL_law 746 = .ok (.iconst 2, 1) := by decide +kernel
theorem dL_law_747 : decode cL_law 747 = .ok (.iadd, 1) := by decide +kernel
theorem dL_law_748 : decode cL_law 748 = .ok (.iaload, 1) := by decide +kernel
theorem dL_law_749 : decode cL_law 749 = .ok (.invokevirtual 86, 3) := by decide +kernel
theorem dL_law_752 : decode cL_law 752 = .ok (.if_icmp .eq 243, 3) := by decide +kernel
theorem dL_law_755 : decode cL_law 755 = .ok (.iconst 0, 1) := by decide +kernel
theorem dL_law_756 : decode cL_law 756 = .ok (.ireturn, 1) := by decide +kernel
theorem dL_law_757 : decode cL_law 757 = .ok (.aload_n 1, 1) := by decide +kernel
theorem dL_law_758 : decode cL_law 758 = .ok (.aload_n 0, 1) := by decide +kernel
theorem dL_law_759 : decode cL_law 759 = .ok (.iload_n 3, 1) := by decide +kernel
theorem dL_law_760 : decode cL_law 760 = .ok (.iconst 1, 1) := by decide +kernel
theorem dL_law_761 : decode cL_law 761 = .ok (.iadd, 1) := by decide +kernel
theorem dL_law_762 : decode cL_law 762 = .ok (.iaload, 1) := by decide +kernel
theorem dL_law_763 : decode cL_law 763 = .ok (.aload_n 0, 1) := by decide +kernel
theorem dL_law_764 : decode cL_law 764 = .ok (.iload_n 3, 1) := by decide +kernel
theorem dL_law_765 : decode cL_law 765 = .ok (.iconst 2, 1) := by decide +kernel
theorem dL_law_766 : decode cL_law 766 = .ok (.iadd, 1) := by decide +kernel
theorem dL_law_767 : decode cL_law 767 = .ok (.iaload, 1) := by decide +kernel
theorem dL_law_768 : decode cL_law 768 = .ok (.invokevirtual 87, 3) := by decide +kernel
theorem dL_law_771 : decode cL_law 771 = .ok (.aload_n 2, 1) := by decide +kernel
theorem dL_law_772 : decode cL_law 772 = .ok (.aload_n 0, 1) := by decide +kernel
theorem dL_law_773 : decode cL_law 773 = .ok (.iload_n 3, 1) := by decide +kernel
theorem dL_law_774 : decode cL_law 774 = .ok (.iconst 1, 1) := by decide +kernel
theorem dL_law_775 : decode cL_law 775 = .ok (.iadd, 1) := by decide +kernel
theorem dL_law_776 : decode cL_law 776 = .ok (.iaload, 1) := by decide +kernel
theorem dL_law_777 : decode cL_law 777 = .ok (.aload_n 0, 1) := by decide +kernel
theorem dL_law_778 : decode cL_law 778 = .ok (.iload_n 3, 1) := by decide +kernel
theorem dL_law_779 : decode cL_law 779 = .ok (.iconst 2, 1) := by decide +kernel
theorem dL_law_780 : decode cL_law 780 = .ok (.iadd, 1) := by decide +kernel
theorem dL_law_781 : decode cL_law 781 = .ok (.iaload, 1) := by decide +kernel
theorem dL_law_782 : decode cL_law 782 = .ok (.invokevirtual 90, 3) := by decide +kernel
theorem dL_law_785 : decode cL_law 785 = .ok (.if_icmp .eq 210, 3) := by decide +kernel
theorem dL_law_788 : decode cL_law 788 = .ok (.iconst 0, 1) := by decide +kernel
theorem dL_law_789 : decode cL_law 789 = .ok (.ireturn, 1) := by decide +kernel
theorem dL_law_790 : decode cL_law 790 = .ok (.aload_n 1, 1) := by decide +kernel
theorem dL_law_791 : decode cL_law 791 = .ok (.aload_n 0, 1) := by decide +kernel
theorem dL_law_792 : decode cL_law 792 = .ok (.iload_n 3, 1) := by decide +kernel
theorem dL_law_793 : decode cL_law 793 = .ok (.iconst 1, 1) := by decide +kernel
theorem dL_law_794 : decode cL_law 794 = .ok (.iadd, 1) := by decide +kernel
theorem dL_law_795 : decode cL_law 795 = .ok (.iaload, 1) := by decide +kernel
theorem dL_law_796 : decode cL_law 796 = .ok (.aload_n 0, 1) := by decide +kernel
theorem dL_law_797 : decode cL_law 797 = .ok (.iload_n 3, 1) := by decide +kernel
theorem dL_law_798 : decode cL_law 798 = .ok (.iconst 2, 1) := by decide +kernel
theorem dL_law_799 : decode cL_law 799 = .ok (.iadd, 1) := by decide +kernel
theorem dL_law_800 : decode cL_law 800 = .ok (.iaload, 1) := by decide +kernel
theorem dL_law_801 : decode cL_law 801 = .ok (.invokevirtual 91, 3) := by decide +kernel
theorem dL_law_804 : decode cL_law 804 = .ok (.aload_n 2, 1) := by decide +kernel
theorem dL_law_805 : decode cL_law 805 = .ok (.aload_n 0, 1) := by decide +kernel
theorem dL_law_806 : decode cL_law 806 = .ok (.iload_n 3, 1) := by decide +kernel
theorem dL_law_807 : decode cL_law 807 = .ok (.iconst 1, 1) := by decide +kernel
theorem dL_law_808 : decode cL_law 808 = .ok (.iadd, 1) := by decide +kernel
theorem dL_law_809 : decode cL_law 809 = .ok (.iaload, 1) := by decide +kernel
theorem dL_law_810 : decode cL_law 810 = .ok (.aload_n 0, 1) := by decide +kernel
theorem dL_law_811 : decode cL_law 811 = .ok (.iload_n 3, 1) := by decide +kernel
theorem dL_law_812 : decode cL_law 812 = .ok (.iconst 2, 1) := by decide +kernel
theorem dL_law_813 : decode cL_law 813 = .ok (.iadd, 1) := by decide +kernel
theorem dL_law_814 : decode cL_law 814 = .ok (.iaload, 1) := by decide +kernel
theorem dL_law_815 : decode cL_law 815 = .ok (.invokevirtual 94, 3) := by decide +kernel
theorem dL_law_818 : decode cL_law 818 = .ok (.if_icmp .eq 177, 3) := by decide +kernel
theorem dL_law_821 : decode cL_law 821 = .ok (.iconst 0, 1) := by decide +kernel
theorem dL_law_822 : decode cL_law 822 = .ok (.ireturn, 1) := by decide +kernel
theorem dL_law_823 : decode cL_law 823 = .ok (.aload_n 1, 1) := by decide +kernel
theorem dL_law_824 : decode cL_law 824 = .ok (.aload_n 0, 1) := by decide +kernel
theorem dL_law_825 : decode cL_law 825 = .ok (.iload_n 3, 1) := by decide +kernel
theorem dL_law_826 : decode cL_law 826 = .ok (.iconst 1, 1) := by decide +kernel
theorem dL_law_827 : decode cL_law 827 = .ok (.iadd, 1) := by decide +kernel
theorem dL_law_828 : decode cL_law 828 = .ok (.iaload, 1) := by decide +kernel
theorem dL_law_829 : decode cL_law 829 = .ok (.invokevirtual 95, 3) := by decide +kernel
theorem dL_law_832 : decode cL_law 832 = .ok (.aload_n 2, 1) := by decide +kernel
theorem dL_law_833 : decode cL_law 833 = .ok (.aload_n 0, 1) := by decide +kernel
theorem dL_law_834 : decode cL_law 834 = .ok (.iload_n 3, 1) := by decide +kernel
theorem dL_law_835 : decode cL_law 835 = .ok (.iconst 1, 1) := by decide +kernel
theorem dL_law_836 : decode cL_law 836 = .ok (.iadd, 1) := by decide +kernel
theorem dL_law_837 : decode cL_law 837 = .ok (.iaload, 1) := by decide +kernel
theorem dL_law_838 : decode cL_law 838 = .ok (.invokevirtual 98, 3) := by decide +kernel
theorem dL_law_841 : decode cL_law 841 = .ok (.if_icmp .eq 154, 3) := by decide +kernel
theorem dL_law_844 : decode cL_law 844 = .ok (.iconst 0, 1) := by decide +kernel
theorem dL_law_845 : decode cL_law 845 = .ok (.ireturn, 1) := by decide +kernel
theorem dL_law_846 : decode cL_law 846 = .ok (.aload_n 1, 1) := by decide +kernel
theorem dL_law_847 : decode cL_law 847 = .ok (.aload_n 0, 1) := by decide +kernel
theorem dL_law_848 : decode cL_law 848 = .ok (.iload_n 3, 1) := by decide +kernel
theorem dL_law_849 : decode cL_law 849 = .ok (.iconst 1, 1) := by decide +kernel
theorem dL_law_850 : decode cL_law 850 = .ok (.iadd, 1) := by decide +kernel
theorem dL_law_851 : decode cL_law 851 = .ok (.iaload, 1) := by decide +kernel
theorem dL_law_852 : decode cL_law 852 = .ok (.invokevirtual 99, 3) := by decide +kernel
theorem dL_law_855 : decode cL_law 855 = .ok (.aload_n 2, 1) := by decide +kernel
theorem dL_law_856 : decode cL_law 856 = .ok (.aload_n 0, 1) := by decide +kernel
theorem dL_law_857 : decode cL_law 857 = .ok (.iload_n 3, 1) := by decide +kernel
theorem dL_law_858 : decode cL_law 858 = .ok (.iconst 1, 1) := by decide +kernel
theorem dL_law_859 : decode cL_law 859 = .ok (.iadd, 1) := by decide +kernel
theorem dL_law_860 : decode cL_law 860 = .ok (.iaload, 1) := by decide +kernel
theorem dL_law_861 : decode cL_law 861 = .ok (.invokevirtual 102, 3) := by decide +kernel
theorem dL_law_864 : decode cL_law 864 = .ok (.if_icmp .eq 131, 3) := by decide +kernel
theorem dL_law_867 : decode cL_law 867 = .ok (.iconst 0, 1) := by decide +kernel
theorem dL_law_868 : decode cL_law 868 = .ok (.ireturn, 1) := by decide +kernel
theorem dL_law_869 : decode cL_law 869 = .ok (.aload_n 1, 1) := by decide +kernel
theorem dL_law_870 : decode cL_law 870 = .ok (.aload_n 0, 1) := by decide +kernel
theorem dL_law_871 : decode cL_law 871 = .ok (.iload_n 3, 1) := by decide +kernel
theorem dL_law_872 : decode cL_law 872 = .ok (.iconst 1, 1) := by decide +kernel
theorem dL_law_873 : decode cL_law 873 = .ok (.iadd, 1) := by decide +kernel
theorem dL_law_874 : decode cL_law 874 = .ok (.iaload, 1) := by decide +kernel
theorem dL_law_875 : decode cL_law 875 = .ok (.invokevirtual 103, 3) := by decide +kernel
theorem dL_law_878 : decode cL_law 878 = .ok (.aload_n 2, 1) := by decide +kernel
theorem dL_law_879 : decode cL_law 879 = .ok (.aload_n 0, 1) := by decide +kernel
theorem dL_law_880 : decode cL_law 880 = .ok (.iload_n 3, 1) := by decide +kernel
theorem dL_law_881 : decode cL_law 881 = .ok (.iconst 1, 1) := by decide +kernel
theorem dL_law_882 : decode cL_law 882 = .ok (.iadd, 1) := by decide +kernel
theorem dL_law_883 : decode cL_law 883 = .ok (.iaload, 1) := by decide +kernel
theorem dL_law_884 : decode cL_law 884 = .ok (.invokevirtual 106, 3) := by decide +kernel
theorem dL_law_887 : decode cL_law 887 = .ok (.if_icmp .eq 108, 3) := by decide +kernel
theorem dL_law_890 : decode cL_law 890 = .ok (.iconst 0, 1) := by decide +kernel
theorem dL_law_891 : decode cL_law 891 = .ok (.ireturn, 1) := by decide +kernel
theorem dL_law_892 : decode cL_law 892 = .ok (.aload_n 1, 1) := by decide +kernel
theorem dL_law_893 : decode cL_law 893 = .ok (.invokevirtual 107, 3) := by decide +kernel
theorem dL_law_896 : decode cL_law 896 = .ok (.aload_n 2, 1) := by decide +kernel
theorem dL_law_897 : decode cL_law 897 = .ok (.invokevirtual 111, 3) := by decide +kernel
theorem dL_law_900 : decode cL_law 900 = .ok (.lcmp, 1) := by decide +kernel
theorem dL_law_901 : decode cL_law 901 = .ok (.ifCond .eq 94, 3) := by decide +kernel
theorem dL_law_904 : decode cL_law 904 = .ok (.iconst 0, 1) := by decide +kernel
theorem dL_law_905 : decode cL_law 905 = .ok (.ireturn, 1) := by decide +kernel
theorem dL_law_906 : decode cL_law 906 = .ok (.aload_n 1, 1) := by decide +kernel
theorem dL_law_907 : decode cL_law 907 = .ok (.invokevirtual 112, 3) := by decide +kernel
theorem dL_law_910 : decode cL_law 910 = .ok (.aload_n 2, 1) := by decide +kernel
theorem dL_law_911 : decode cL_law 911 = .ok (.invokevirtual 115, 3) := by decide +kernel
theorem dL_law_914 : decode cL_law 914 = .ok (.lcmp, 1) := by decide +kernel
theorem dL_law_915 : decode cL_law 915 = .ok (.ifCond .eq 80, 3) := by decide +kernel
theorem dL_law_918 : decode cL_law 918 = .ok (.iconst 0, 1) := by decide +kernel
theorem dL_law_919 : decode cL_law 919 = .ok (.ireturn, 1) := by decide +kernel
theorem dL_law_920 : decode cL_law 920 = .ok (.aload_n 1, 1) := by decide +kernel
theorem dL_law_921 : decode cL_law 921 = .ok (.invokevirtual 116, 3) := by decide +kernel
theorem dL_law_924 : decode cL_law 924 = .ok (.aload_n 2, 1) := by decide +kernel
theorem dL_law_925 : decode cL_law 925 = .ok (.invokevirtual 120, 3) := by decide +kernel
theorem dL_law_928 : decode cL_law 928 = .ok (.if_icmp .eq 67, 3) := by decide +kernel
theorem dL_law_931 : decode cL_law 931 = .ok (.iconst 0, 1) := by decide +kernel
theorem dL_law_932 : decode cL_law 932 = .ok (.ireturn, 1) := by decide +kernel
theorem dL_law_933 : decode cL_law 933 = .ok (.aload_n 1, 1) := by decide +kernel
theorem dL_law_934 : decode cL_law 934 = .ok (.invokevirtual 121, 3) := by decide +kernel
theorem dL_law_937 : decode cL_law 937 = .ok (.aload_n 2, 1) := by decide +kernel
theorem dL_law_938 : decode cL_law 938 = .ok (.invokevirtual 124, 3) := by decide +kernel
theorem dL_law_941 : decode cL_law 941 = .ok (.if_icmp .eq 54, 3) := by decide +kernel
theorem dL_law_944 : decode cL_law 944 = .ok (.iconst 0, 1) := by decide +kernel
theorem dL_law_945 : decode cL_law 945 = .ok (.ireturn, 1) := by decide +kernel
theorem dL_law_946 : decode cL_law 946 = .ok (.aload_n 1, 1) := by decide +kernel
theorem dL_law_947 : decode cL_law 947 = .ok (.invokevirtual 125, 3) := by decide +kernel
theorem dL_law_950 : decode cL_law 950 = .ok (.aload_n 2, 1) := by decide +kernel
theorem dL_law_951 : decode cL_law 951 = .ok (.invokevirtual 128, 3) := by decide +kernel
theorem dL_law_954 : decode cL_law 954 = .ok (.if_icmp .eq 41, 3) := by decide +kernel
theorem dL_law_957 : decode cL_law 957 = .ok (.iconst 0, 1) := by decide +kernel
theorem dL_law_958 : decode cL_law 958 = .ok (.ireturn, 1) := by decide +kernel
theorem dL_law_959 : decode cL_law 959 = .ok (.aload_n 1, 1) := by decide +kernel
theorem dL_law_960 : decode cL_law 960 = .ok (.invokevirtual 129, 3) := by decide +kernel
theorem dL_law_963 : decode cL_law 963 = .ok (.aload_n 2, 1) := by decide +kernel
theorem dL_law_964 : decode cL_law 964 = .ok (.invokevirtual 132, 3) := by decide +kernel
theorem dL_law_967 : decode cL_law 967 = .ok (.if_icmp .eq 28, 3) := by decide +kernel
theorem dL_law_970 : decode cL_law 970 = .ok (.iconst 0, 1) := by decide +kernel
theorem dL_law_971 : decode cL_law 971 = .ok (.ireturn, 1) := by decide +kernel
theorem dL_law_972 : decode cL_law 972 = .ok (.aload_n 1, 1) := by decide +kernel
theorem dL_law_973 : decode cL_law 973 = .ok (.aload_n 0, 1) := by decide +kernel
theorem dL_law_974 : decode cL_law 974 = .ok (.iload_n 3, 1) := by decide +kernel
theorem dL_law_975 : decode cL_law 975 = .ok (.iconst 1, 1) := by decide +kernel
theorem dL_law_976 : decode cL_law 976 = .ok (.iadd, 1) := by decide +kernel
theorem dL_law_977 : decode cL_law 977 = .ok (.iaload, 1) := by decide +kernel
theorem dL_law_978 : decode cL_law 978 = .ok (.invokevirtual 133, 3) := by decide +kernel
theorem dL_law_981 : decode cL_law 981 = .ok (.aload_n 2, 1) := by decide +kernel
theorem dL_law_982 : decode cL_law 982 = .ok (.aload_n 0, 1) := by decide +kernel
theorem dL_law_983 : decode cL_law 983 = .ok (.iload_n 3, 1) := by decide +kernel
theorem dL_law_984 : decode cL_law 984 = .ok (.iconst 1, 1) := by decide +kernel
theorem dL_law_985 : decode cL_law 985 = .ok (.iadd, 1) := by decide +kernel
theorem dL_law_986 : decode cL_law 986 = .ok (.iaload, 1) := by decide +kernel
theorem dL_law_987 : decode cL_law 987 = .ok (.invokevirtual 136, 3) := by decide +kernel
theorem dL_law_990 : decode cL_law 990 = .ok (.if_icmp .eq 5, 3) := by decide +kernel
theorem dL_law_993 : decode cL_law 993 = .ok (.iconst 0, 1) := by decide +kernel
theorem dL_law_994 : decode cL_law 994 = .ok (.ireturn, 1) := by decide +kernel
theorem dL_law_995 : decode cL_law 995 = .ok (.iinc 3 6, 3) := by decide +kernel
theorem dL_law_998 : decode cL_law 998 = .ok (.goto (-980), 3) := by decide +kernel
theorem dL_law_1001 : decode cL_law 1001 = .ok (.iconst 1, 1) := by decide +kernel
theorem dL_law_1002 : decode cL_law 1002 = .ok (.ireturn, 1) := by decide +kernel
end
section
theorem zz_try : 1 + 1 = 2 := rfl
end
