section
-- ===== PART A: goes FIRST, ahead of the names: the tables' words, and 'selects' of the private methods out of them =====
/-- a private method of a class that the tables say can be made, by its rows of tables_1 -/
noncomputable def lw_okq (q : MethodName × Nat) : Prop := (q.1.cls ≠ "java/lang/invoke/MethodHandle" ∧ q.1.cls ≠ "java/lang/invoke/VarHandle") ∧ Cond.instantiable q.1.cls q.2 ∈ tables_1 ∧ Cond.privateMethod q.1 ∈ tables_1 ∧ Cond.instanceMethod q.1 ∈ tables_1
theorem lw_p0 : lw_okq (⟨"NobodyBeenAft$Ship", "addPost", "(II)V"⟩, 5) := ⟨⟨by decide +kernel, by decide +kernel⟩, List.mem_of_getElem? (i := 82) (by decide +kernel), List.mem_of_getElem? (i := 406) (by decide +kernel), List.mem_of_getElem? (i := 407) (by decide +kernel)⟩
theorem lw_p1 : lw_okq (⟨"NobodyBeenAft", "readMesses", "()I"⟩, 17) := ⟨⟨by decide +kernel, by decide +kernel⟩, List.mem_of_getElem? (i := 26) (by decide +kernel), List.mem_of_getElem? (i := 431) (by decide +kernel), List.mem_of_getElem? (i := 432) (by decide +kernel)⟩
theorem lw_p2 : lw_okq (⟨"NobodyBeenAft$RuleReader", "takeThing", "(LNobodyBeenAft$Text;LNobodyBeenAft$Rule;)Z"⟩, 5) := ⟨⟨by decide +kernel, by decide +kernel⟩, List.mem_of_getElem? (i := 134) (by decide +kernel), List.mem_of_getElem? (i := 452) (by decide +kernel), List.mem_of_getElem? (i := 453) (by decide +kernel)⟩
theorem lw_p3 : lw_okq (⟨"NobodyBeenAft$RuleReader", "hold", "(I)V"⟩, 5) := ⟨⟨by decide +kernel, by decide +kernel⟩, List.mem_of_getElem? (i := 134) (by decide +kernel), List.mem_of_getElem? (i := 463) (by decide +kernel), List.mem_of_getElem? (i := 464) (by decide +kernel)⟩
theorem lw_p4 : lw_okq (⟨"NobodyBeenAft$RuleReader", "takeOperator", "(LNobodyBeenAft$Text;LNobodyBeenAft$Rule;)Z"⟩, 5) := ⟨⟨by decide +kernel, by decide +kernel⟩, List.mem_of_getElem? (i := 134) (by decide +kernel), List.mem_of_getElem? (i := 467) (by decide +kernel), List.mem_of_getElem? (i := 468) (by decide +kernel)⟩
theorem lw_p5 : lw_okq (⟨"NobodyBeenAft$RuleReader", "release", "(ILNobodyBeenAft$Rule;)V"⟩, 5) := ⟨⟨by decide +kernel, by decide +kernel⟩, List.mem_of_getElem? (i := 134) (by decide +kernel), List.mem_of_getElem? (i := 474) (by decide +kernel), List.mem_of_getElem? (i := 475) (by decide +kernel)⟩
theorem lw_p6 : lw_okq (⟨"NobodyBeenAft", "delayAt", "(I)I"⟩, 17) := ⟨⟨by decide +kernel, by decide +kernel⟩, List.mem_of_getElem? (i := 26) (by decide +kernel), List.mem_of_getElem? (i := 497) (by decide +kernel), List.mem_of_getElem? (i := 498) (by decide +kernel)⟩
theorem lw_p7 : lw_okq (⟨"NobodyBeenAft$Rule", "push", "(I)V"⟩, 4) := ⟨⟨by decide +kernel, by decide +kernel⟩, List.mem_of_getElem? (i := 113) (by decide +kernel), List.mem_of_getElem? (i := 505) (by decide +kernel), List.mem_of_getElem? (i := 506) (by decide +kernel)⟩
theorem lw_p8 : lw_okq (⟨"NobodyBeenAft$Rule", "pop", "()I"⟩, 4) := ⟨⟨by decide +kernel, by decide +kernel⟩, List.mem_of_getElem? (i := 113) (by decide +kernel), List.mem_of_getElem? (i := 509) (by decide +kernel), List.mem_of_getElem? (i := 510) (by decide +kernel)⟩
theorem lw_p9 : lw_okq (⟨"NobodyBeenAft", "orderRefusal", "()I"⟩, 17) := ⟨⟨by decide +kernel, by decide +kernel⟩, List.mem_of_getElem? (i := 26) (by decide +kernel), List.mem_of_getElem? (i := 524) (by decide +kernel), List.mem_of_getElem? (i := 525) (by decide +kernel)⟩
theorem lw_p10 : lw_okq (⟨"NobodyBeenAft", "giveOrder", "(I)I"⟩, 17) := ⟨⟨by decide +kernel, by decide +kernel⟩, List.mem_of_getElem? (i := 26) (by decide +kernel), List.mem_of_getElem? (i := 543) (by decide +kernel), List.mem_of_getElem? (i := 544) (by decide +kernel)⟩
theorem lw_p11 : lw_okq (⟨"NobodyBeenAft", "passRefusal", "(III)I"⟩, 17) := ⟨⟨by decide +kernel, by decide +kernel⟩, List.mem_of_getElem? (i := 26) (by decide +kernel), List.mem_of_getElem? (i := 555) (by decide +kernel), List.mem_of_getElem? (i := 556) (by decide +kernel)⟩
theorem lw_p12 : lw_okq (⟨"NobodyBeenAft", "moveFood", "(III)V"⟩, 17) := ⟨⟨by decide +kernel, by decide +kernel⟩, List.mem_of_getElem? (i := 26) (by decide +kernel), List.mem_of_getElem? (i := 559) (by decide +kernel), List.mem_of_getElem? (i := 560) (by decide +kernel)⟩
theorem lw_p13 : lw_okq (⟨"NobodyBeenAft", "goStep", "()I"⟩, 17) := ⟨⟨by decide +kernel, by decide +kernel⟩, List.mem_of_getElem? (i := 26) (by decide +kernel), List.mem_of_getElem? (i := 571) (by decide +kernel), List.mem_of_getElem? (i := 572) (by decide +kernel)⟩
theorem lw_p14 : lw_okq (⟨"NobodyBeenAft", "voyageFault", "()I"⟩, 17) := ⟨⟨by decide +kernel, by decide +kernel⟩, List.mem_of_getElem? (i := 26) (by decide +kernel), List.mem_of_getElem? (i := 602) (by decide +kernel), List.mem_of_getElem? (i := 603) (by decide +kernel)⟩
theorem lw_p15 : lw_okq (⟨"NobodyBeenAft", "doVoyageSign", "()Z"⟩, 17) := ⟨⟨by decide +kernel, by decide +kernel⟩, List.mem_of_getElem? (i := 26) (by decide +kernel), List.mem_of_getElem? (i := 609) (by decide +kernel), List.mem_of_getElem? (i := 610) (by decide +kernel)⟩
noncomputable def lw_privs_1 : List (MethodName × Nat) := [(⟨"NobodyBeenAft$Ship", "addPost", "(II)V"⟩, 5), (⟨"NobodyBeenAft", "readMesses", "()I"⟩, 17), (⟨"NobodyBeenAft$RuleReader", "takeThing", "(LNobodyBeenAft$Text;LNobodyBeenAft$Rule;)Z"⟩, 5), (⟨"NobodyBeenAft$RuleReader", "hold", "(I)V"⟩, 5), (⟨"NobodyBeenAft$RuleReader", "takeOperator", "(LNobodyBeenAft$Text;LNobodyBeenAft$Rule;)Z"⟩, 5), (⟨"NobodyBeenAft$RuleReader", "release", "(ILNobodyBeenAft$Rule;)V"⟩, 5), (⟨"NobodyBeenAft", "delayAt", "(I)I"⟩, 17), (⟨"NobodyBeenAft$Rule", "push", "(I)V"⟩, 4), (⟨"NobodyBeenAft$Rule", "pop", "()I"⟩, 4), (⟨"NobodyBeenAft", "orderRefusal", "()I"⟩, 17), (⟨"NobodyBeenAft", "giveOrder", "(I)I"⟩, 17), (⟨"NobodyBeenAft", "passRefusal", "(III)I"⟩, 17), (⟨"NobodyBeenAft", "moveFood", "(III)V"⟩, 17), (⟨"NobodyBeenAft", "goStep", "()I"⟩, 17), (⟨"NobodyBeenAft", "voyageFault", "()I"⟩, 17), (⟨"NobodyBeenAft", "doVoyageSign", "()Z"⟩, 17)]
theorem lw_r1 : ∀ q ∈ lw_privs_1, lw_okq q := List.forall_mem_cons.mpr ⟨lw_p0, List.forall_mem_cons.mpr ⟨lw_p1, List.forall_mem_cons.mpr ⟨lw_p2, List.forall_mem_cons.mpr ⟨lw_p3, List.forall_mem_cons.mpr ⟨lw_p4, List.forall_mem_cons.mpr ⟨lw_p5, List.forall_mem_cons.mpr ⟨lw_p6, List.forall_mem_cons.mpr ⟨lw_p7, List.forall_mem_cons.mpr ⟨lw_p8, List.forall_mem_cons.mpr ⟨lw_p9, List.forall_mem_cons.mpr ⟨lw_p10, List.forall_mem_cons.mpr ⟨lw_p11, List.forall_mem_cons.mpr ⟨lw_p12, List.forall_mem_cons.mpr ⟨lw_p13, List.forall_mem_cons.mpr ⟨lw_p14, List.forall_mem_cons.mpr ⟨lw_p15, fun _ h => absurd h List.not_mem_nil⟩⟩⟩⟩⟩⟩⟩⟩⟩⟩⟩⟩⟩⟩⟩⟩
theorem lw_p16 : lw_okq (⟨"NobodyBeenAft", "lookAhead", "()V"⟩, 17) := ⟨⟨by decide +kernel, by decide +kernel⟩, List.mem_of_getElem? (i := 26) (by decide +kernel), List.mem_of_getElem? (i := 641) (by decide +kernel), List.mem_of_getElem? (i := 642) (by decide +kernel)⟩
theorem lw_p17 : lw_okq (⟨"NobodyBeenAft", "firstFree", "()I"⟩, 17) := ⟨⟨by decide +kernel, by decide +kernel⟩, List.mem_of_getElem? (i := 26) (by decide +kernel), List.mem_of_getElem? (i := 646) (by decide +kernel), List.mem_of_getElem? (i := 647) (by decide +kernel)⟩
theorem lw_p18 : lw_okq (⟨"NobodyBeenAft$Outlook", "moveCosts", "(I)V"⟩, 6) := ⟨⟨by decide +kernel, by decide +kernel⟩, List.mem_of_getElem? (i := 251) (by decide +kernel), List.mem_of_getElem? (i := 674) (by decide +kernel), List.mem_of_getElem? (i := 675) (by decide +kernel)⟩
theorem lw_p19 : lw_okq (⟨"NobodyBeenAft$Outlook", "doChosen", "(I)V"⟩, 6) := ⟨⟨by decide +kernel, by decide +kernel⟩, List.mem_of_getElem? (i := 251) (by decide +kernel), List.mem_of_getElem? (i := 680) (by decide +kernel), List.mem_of_getElem? (i := 681) (by decide +kernel)⟩
theorem lw_p20 : lw_okq (⟨"NobodyBeenAft$Outlook", "leastChoice", "(LNobodyBeenAft$State;III)I"⟩, 6) := ⟨⟨by decide +kernel, by decide +kernel⟩, List.mem_of_getElem? (i := 251) (by decide +kernel), List.mem_of_getElem? (i := 688) (by decide +kernel), List.mem_of_getElem? (i := 689) (by decide +kernel)⟩
theorem lw_p21 : lw_okq (⟨"NobodyBeenAft", "rocksInLane", "(II)I"⟩, 17) := ⟨⟨by decide +kernel, by decide +kernel⟩, List.mem_of_getElem? (i := 26) (by decide +kernel), List.mem_of_getElem? (i := 713) (by decide +kernel), List.mem_of_getElem? (i := 714) (by decide +kernel)⟩
theorem lw_p22 : lw_okq (⟨"NobodyBeenAft", "apart", "(I)I"⟩, 17) := ⟨⟨by decide +kernel, by decide +kernel⟩, List.mem_of_getElem? (i := 26) (by decide +kernel), List.mem_of_getElem? (i := 717) (by decide +kernel), List.mem_of_getElem? (i := 718) (by decide +kernel)⟩
theorem lw_p23 : lw_okq (⟨"NobodyBeenAft", "lastsFor", "(II)I"⟩, 17) := ⟨⟨by decide +kernel, by decide +kernel⟩, List.mem_of_getElem? (i := 26) (by decide +kernel), List.mem_of_getElem? (i := 770) (by decide +kernel), List.mem_of_getElem? (i := 771) (by decide +kernel)⟩
theorem lw_p24 : lw_okq (⟨"NobodyBeenAft", "weighPassing", "()V"⟩, 17) := ⟨⟨by decide +kernel, by decide +kernel⟩, List.mem_of_getElem? (i := 26) (by decide +kernel), List.mem_of_getElem? (i := 778) (by decide +kernel), List.mem_of_getElem? (i := 779) (by decide +kernel)⟩
theorem lw_p25 : lw_okq (⟨"NobodyBeenAft", "leastPassing", "(II)I"⟩, 17) := ⟨⟨by decide +kernel, by decide +kernel⟩, List.mem_of_getElem? (i := 26) (by decide +kernel), List.mem_of_getElem? (i := 782) (by decide +kernel), List.mem_of_getElem? (i := 783) (by decide +kernel)⟩
theorem lw_p26 : lw_okq (⟨"NobodyBeenAft", "choosePassing", "()I"⟩, 17) := ⟨⟨by decide +kernel, by decide +kernel⟩, List.mem_of_getElem? (i := 26) (by decide +kernel), List.mem_of_getElem? (i := 787) (by decide +kernel), List.mem_of_getElem? (i := 788) (by decide +kernel)⟩
theorem lw_p27 : lw_okq (⟨"NobodyBeenAft", "foodLeft", "(II)I"⟩, 17) := ⟨⟨by decide +kernel, by decide +kernel⟩, List.mem_of_getElem? (i := 26) (by decide +kernel), List.mem_of_getElem? (i := 795) (by decide +kernel), List.mem_of_getElem? (i := 796) (by decide +kernel)⟩
theorem lw_p28 : lw_okq (⟨"NobodyBeenAft$Sightings", "waysBehind", "(II)J"⟩, 3) := ⟨⟨by decide +kernel, by decide +kernel⟩, List.mem_of_getElem? (i := 281) (by decide +kernel), List.mem_of_getElem? (i := 823) (by decide +kernel), List.mem_of_getElem? (i := 824) (by decide +kernel)⟩
theorem lw_p29 : lw_okq (⟨"NobodyBeenAft", "lap", "()I"⟩, 17) := ⟨⟨by decide +kernel, by decide +kernel⟩, List.mem_of_getElem? (i := 26) (by decide +kernel), List.mem_of_getElem? (i := 847) (by decide +kernel), List.mem_of_getElem? (i := 848) (by decide +kernel)⟩
theorem lw_p30 : lw_okq (⟨"NobodyBeenAft", "cellAfter", "(I)I"⟩, 17) := ⟨⟨by decide +kernel, by decide +kernel⟩, List.mem_of_getElem? (i := 26) (by decide +kernel), List.mem_of_getElem? (i := 852) (by decide +kernel), List.mem_of_getElem? (i := 853) (by decide +kernel)⟩
theorem lw_p31 : lw_okq (⟨"java/lang/Throwable", "fillInStackTrace", "(I)Ljava/lang/Throwable;"⟩, 6) := ⟨⟨by decide +kernel, by decide +kernel⟩, List.mem_of_getElem? (i := 939) (by decide +kernel), List.mem_of_getElem? (i := 937) (by decide +kernel), List.mem_of_getElem? (i := 938) (by decide +kernel)⟩
noncomputable def lw_privs_2 : List (MethodName × Nat) := [(⟨"NobodyBeenAft", "lookAhead", "()V"⟩, 17), (⟨"NobodyBeenAft", "firstFree", "()I"⟩, 17), (⟨"NobodyBeenAft$Outlook", "moveCosts", "(I)V"⟩, 6), (⟨"NobodyBeenAft$Outlook", "doChosen", "(I)V"⟩, 6), (⟨"NobodyBeenAft$Outlook", "leastChoice", "(LNobodyBeenAft$State;III)I"⟩, 6), (⟨"NobodyBeenAft", "rocksInLane", "(II)I"⟩, 17), (⟨"NobodyBeenAft", "apart", "(I)I"⟩, 17), (⟨"NobodyBeenAft", "lastsFor", "(II)I"⟩, 17), (⟨"NobodyBeenAft", "weighPassing", "()V"⟩, 17), (⟨"NobodyBeenAft", "leastPassing", "(II)I"⟩, 17), (⟨"NobodyBeenAft", "choosePassing", "()I"⟩, 17), (⟨"NobodyBeenAft", "foodLeft", "(II)I"⟩, 17), (⟨"NobodyBeenAft$Sightings", "waysBehind", "(II)J"⟩, 3), (⟨"NobodyBeenAft", "lap", "()I"⟩, 17), (⟨"NobodyBeenAft", "cellAfter", "(I)I"⟩, 17), (⟨"java/lang/Throwable", "fillInStackTrace", "(I)Ljava/lang/Throwable;"⟩, 6)]
theorem lw_r2 : ∀ q ∈ lw_privs_2, lw_okq q := List.forall_mem_cons.mpr ⟨lw_p16, List.forall_mem_cons.mpr ⟨lw_p17, List.forall_mem_cons.mpr ⟨lw_p18, List.forall_mem_cons.mpr ⟨lw_p19, List.forall_mem_cons.mpr ⟨lw_p20, List.forall_mem_cons.mpr ⟨lw_p21, List.forall_mem_cons.mpr ⟨lw_p22, List.forall_mem_cons.mpr ⟨lw_p23, List.forall_mem_cons.mpr ⟨lw_p24, List.forall_mem_cons.mpr ⟨lw_p25, List.forall_mem_cons.mpr ⟨lw_p26, List.forall_mem_cons.mpr ⟨lw_p27, List.forall_mem_cons.mpr ⟨lw_p28, List.forall_mem_cons.mpr ⟨lw_p29, List.forall_mem_cons.mpr ⟨lw_p30, List.forall_mem_cons.mpr ⟨lw_p31, fun _ h => absurd h List.not_mem_nil⟩⟩⟩⟩⟩⟩⟩⟩⟩⟩⟩⟩⟩⟩⟩⟩
theorem lw_p32 : lw_okq (⟨"NobodyBeenAftModel", "begins", "(I)I"⟩, 53) := ⟨⟨by decide +kernel, by decide +kernel⟩, List.mem_of_getElem? (i := 992) (by decide +kernel), List.mem_of_getElem? (i := 1177) (by decide +kernel), List.mem_of_getElem? (i := 1178) (by decide +kernel)⟩
theorem lw_p33 : lw_okq (⟨"NobodyBeenAftModel", "numberIn", "(III)I"⟩, 53) := ⟨⟨by decide +kernel, by decide +kernel⟩, List.mem_of_getElem? (i := 992) (by decide +kernel), List.mem_of_getElem? (i := 1182) (by decide +kernel), List.mem_of_getElem? (i := 1183) (by decide +kernel)⟩
theorem lw_p34 : lw_okq (⟨"NobodyBeenAftModel", "number", "(I)I"⟩, 53) := ⟨⟨by decide +kernel, by decide +kernel⟩, List.mem_of_getElem? (i := 992) (by decide +kernel), List.mem_of_getElem? (i := 1186) (by decide +kernel), List.mem_of_getElem? (i := 1187) (by decide +kernel)⟩
theorem lw_p35 : lw_okq (⟨"NobodyBeenAftModel", "isDigit", "()Z"⟩, 53) := ⟨⟨by decide +kernel, by decide +kernel⟩, List.mem_of_getElem? (i := 992) (by decide +kernel), List.mem_of_getElem? (i := 1190) (by decide +kernel), List.mem_of_getElem? (i := 1191) (by decide +kernel)⟩
theorem lw_p36 : lw_okq (⟨"NobodyBeenAftModel", "takes", "(I)Z"⟩, 53) := ⟨⟨by decide +kernel, by decide +kernel⟩, List.mem_of_getElem? (i := 992) (by decide +kernel), List.mem_of_getElem? (i := 1196) (by decide +kernel), List.mem_of_getElem? (i := 1197) (by decide +kernel)⟩
theorem lw_p37 : lw_okq (⟨"NobodyBeenAftModel", "faultOf", "(IIZ)I"⟩, 53) := ⟨⟨by decide +kernel, by decide +kernel⟩, List.mem_of_getElem? (i := 992) (by decide +kernel), List.mem_of_getElem? (i := 1203) (by decide +kernel), List.mem_of_getElem? (i := 1204) (by decide +kernel)⟩
theorem lw_p38 : lw_okq (⟨"NobodyBeenAftModel", "readsRock", "()Z"⟩, 53) := ⟨⟨by decide +kernel, by decide +kernel⟩, List.mem_of_getElem? (i := 992) (by decide +kernel), List.mem_of_getElem? (i := 1211) (by decide +kernel), List.mem_of_getElem? (i := 1212) (by decide +kernel)⟩
theorem lw_p39 : lw_okq (⟨"NobodyBeenAftModel", "takesOf", "(Ljava/lang/String;)I"⟩, 53) := ⟨⟨by decide +kernel, by decide +kernel⟩, List.mem_of_getElem? (i := 992) (by decide +kernel), List.mem_of_getElem? (i := 1216) (by decide +kernel), List.mem_of_getElem? (i := 1217) (by decide +kernel)⟩
theorem lw_p40 : lw_okq (⟨"NobodyBeenAftModel", "among", "(Ljava/lang/String;)I"⟩, 53) := ⟨⟨by decide +kernel, by decide +kernel⟩, List.mem_of_getElem? (i := 992) (by decide +kernel), List.mem_of_getElem? (i := 1220) (by decide +kernel), List.mem_of_getElem? (i := 1221) (by decide +kernel)⟩
theorem lw_p41 : lw_okq (⟨"NobodyBeenAftModel", "readsMess", "()Z"⟩, 53) := ⟨⟨by decide +kernel, by decide +kernel⟩, List.mem_of_getElem? (i := 992) (by decide +kernel), List.mem_of_getElem? (i := 1277) (by decide +kernel), List.mem_of_getElem? (i := 1278) (by decide +kernel)⟩
theorem lw_p42 : lw_okq (⟨"NobodyBeenAftModel", "readsRank", "(I)Z"⟩, 53) := ⟨⟨by decide +kernel, by decide +kernel⟩, List.mem_of_getElem? (i := 992) (by decide +kernel), List.mem_of_getElem? (i := 1285) (by decide +kernel), List.mem_of_getElem? (i := 1286) (by decide +kernel)⟩
theorem lw_p43 : lw_okq (⟨"NobodyBeenAftModel", "readsThing", "()Z"⟩, 53) := ⟨⟨by decide +kernel, by decide +kernel⟩, List.mem_of_getElem? (i := 992) (by decide +kernel), List.mem_of_getElem? (i := 1289) (by decide +kernel), List.mem_of_getElem? (i := 1290) (by decide +kernel)⟩
theorem lw_p44 : lw_okq (⟨"NobodyBeenAftModel", "codes", "(I)V"⟩, 53) := ⟨⟨by decide +kernel, by decide +kernel⟩, List.mem_of_getElem? (i := 992) (by decide +kernel), List.mem_of_getElem? (i := 1293) (by decide +kernel), List.mem_of_getElem? (i := 1294) (by decide +kernel)⟩
theorem lw_p45 : lw_okq (⟨"NobodyBeenAftModel", "refuse", "()I"⟩, 53) := ⟨⟨by decide +kernel, by decide +kernel⟩, List.mem_of_getElem? (i := 992) (by decide +kernel), List.mem_of_getElem? (i := 1305) (by decide +kernel), List.mem_of_getElem? (i := 1306) (by decide +kernel)⟩
theorem lw_p46 : lw_okq (⟨"NobodyBeenAftModel", "isMess", "(I)Z"⟩, 53) := ⟨⟨by decide +kernel, by decide +kernel⟩, List.mem_of_getElem? (i := 992) (by decide +kernel), List.mem_of_getElem? (i := 1317) (by decide +kernel), List.mem_of_getElem? (i := 1318) (by decide +kernel)⟩
theorem lw_p47 : lw_okq (⟨"NobodyBeenAftModel", "isAhead", "(II)Z"⟩, 53) := ⟨⟨by decide +kernel, by decide +kernel⟩, List.mem_of_getElem? (i := 992) (by decide +kernel), List.mem_of_getElem? (i := 1326) (by decide +kernel), List.mem_of_getElem? (i := 1327) (by decide +kernel)⟩
noncomputable def lw_privs_3 : List (MethodName × Nat) := [(⟨"NobodyBeenAftModel", "begins", "(I)I"⟩, 53), (⟨"NobodyBeenAftModel", "numberIn", "(III)I"⟩, 53), (⟨"NobodyBeenAftModel", "number", "(I)I"⟩, 53), (⟨"NobodyBeenAftModel", "isDigit", "()Z"⟩, 53), (⟨"NobodyBeenAftModel", "takes", "(I)Z"⟩, 53), (⟨"NobodyBeenAftModel", "faultOf", "(IIZ)I"⟩, 53), (⟨"NobodyBeenAftModel", "readsRock", "()Z"⟩, 53), (⟨"NobodyBeenAftModel", "takesOf", "(Ljava/lang/String;)I"⟩, 53), (⟨"NobodyBeenAftModel", "among", "(Ljava/lang/String;)I"⟩, 53), (⟨"NobodyBeenAftModel", "readsMess", "()Z"⟩, 53), (⟨"NobodyBeenAftModel", "readsRank", "(I)Z"⟩, 53), (⟨"NobodyBeenAftModel", "readsThing", "()Z"⟩, 53), (⟨"NobodyBeenAftModel", "codes", "(I)V"⟩, 53), (⟨"NobodyBeenAftModel", "refuse", "()I"⟩, 53), (⟨"NobodyBeenAftModel", "isMess", "(I)Z"⟩, 53), (⟨"NobodyBeenAftModel", "isAhead", "(II)Z"⟩, 53)]
theorem lw_r3 : ∀ q ∈ lw_privs_3, lw_okq q := List.forall_mem_cons.mpr ⟨lw_p32, List.forall_mem_cons.mpr ⟨lw_p33, List.forall_mem_cons.mpr ⟨lw_p34, List.forall_mem_cons.mpr ⟨lw_p35, List.forall_mem_cons.mpr ⟨lw_p36, List.forall_mem_cons.mpr ⟨lw_p37, List.forall_mem_cons.mpr ⟨lw_p38, List.forall_mem_cons.mpr ⟨lw_p39, List.forall_mem_cons.mpr ⟨lw_p40, List.forall_mem_cons.mpr ⟨lw_p41, List.forall_mem_cons.mpr ⟨lw_p42, List.forall_mem_cons.mpr ⟨lw_p43, List.forall_mem_cons.mpr ⟨lw_p44, List.forall_mem_cons.mpr ⟨lw_p45, List.forall_mem_cons.mpr ⟨lw_p46, List.forall_mem_cons.mpr ⟨lw_p47, fun _ h => absurd h List.not_mem_nil⟩⟩⟩⟩⟩⟩⟩⟩⟩⟩⟩⟩⟩⟩⟩⟩
theorem lw_p48 : lw_okq (⟨"NobodyBeenAftModel", "delayAt", "(I)I"⟩, 53) := ⟨⟨by decide +kernel, by decide +kernel⟩, List.mem_of_getElem? (i := 992) (by decide +kernel), List.mem_of_getElem? (i := 1344) (by decide +kernel), List.mem_of_getElem? (i := 1345) (by decide +kernel)⟩
theorem lw_p49 : lw_okq (⟨"NobodyBeenAftModel", "ruled", "()I"⟩, 53) := ⟨⟨by decide +kernel, by decide +kernel⟩, List.mem_of_getElem? (i := 992) (by decide +kernel), List.mem_of_getElem? (i := 1348) (by decide +kernel), List.mem_of_getElem? (i := 1349) (by decide +kernel)⟩
theorem lw_p50 : lw_okq (⟨"NobodyBeenAftModel", "putsBy", "()V"⟩, 53) := ⟨⟨by decide +kernel, by decide +kernel⟩, List.mem_of_getElem? (i := 992) (by decide +kernel), List.mem_of_getElem? (i := 1359) (by decide +kernel), List.mem_of_getElem? (i := 1360) (by decide +kernel)⟩
theorem lw_p51 : lw_okq (⟨"NobodyBeenAftModel", "gives", "([II)I"⟩, 53) := ⟨⟨by decide +kernel, by decide +kernel⟩, List.mem_of_getElem? (i := 992) (by decide +kernel), List.mem_of_getElem? (i := 1363) (by decide +kernel), List.mem_of_getElem? (i := 1364) (by decide +kernel)⟩
theorem lw_p52 : lw_okq (⟨"NobodyBeenAftModel", "turned", "(I)I"⟩, 53) := ⟨⟨by decide +kernel, by decide +kernel⟩, List.mem_of_getElem? (i := 992) (by decide +kernel), List.mem_of_getElem? (i := 1368) (by decide +kernel), List.mem_of_getElem? (i := 1369) (by decide +kernel)⟩
theorem lw_p53 : lw_okq (⟨"NobodyBeenAftModel", "counts", "(I)I"⟩, 53) := ⟨⟨by decide +kernel, by decide +kernel⟩, List.mem_of_getElem? (i := 992) (by decide +kernel), List.mem_of_getElem? (i := 1372) (by decide +kernel), List.mem_of_getElem? (i := 1373) (by decide +kernel)⟩
theorem lw_p54 : lw_okq (⟨"NobodyBeenAftModel", "adds", "(I)I"⟩, 53) := ⟨⟨by decide +kernel, by decide +kernel⟩, List.mem_of_getElem? (i := 992) (by decide +kernel), List.mem_of_getElem? (i := 1376) (by decide +kernel), List.mem_of_getElem? (i := 1377) (by decide +kernel)⟩
theorem lw_p55 : lw_okq (⟨"NobodyBeenAftModel", "passes", "(III)I"⟩, 53) := ⟨⟨by decide +kernel, by decide +kernel⟩, List.mem_of_getElem? (i := 992) (by decide +kernel), List.mem_of_getElem? (i := 1384) (by decide +kernel), List.mem_of_getElem? (i := 1385) (by decide +kernel)⟩
theorem lw_p56 : lw_okq (⟨"NobodyBeenAftModel", "cooks", "(II)I"⟩, 53) := ⟨⟨by decide +kernel, by decide +kernel⟩, List.mem_of_getElem? (i := 992) (by decide +kernel), List.mem_of_getElem? (i := 1393) (by decide +kernel), List.mem_of_getElem? (i := 1394) (by decide +kernel)⟩
theorem lw_p57 : lw_okq (⟨"NobodyBeenAftModel", "startsCounting", "()V"⟩, 53) := ⟨⟨by decide +kernel, by decide +kernel⟩, List.mem_of_getElem? (i := 992) (by decide +kernel), List.mem_of_getElem? (i := 1402) (by decide +kernel), List.mem_of_getElem? (i := 1403) (by decide +kernel)⟩
theorem lw_p58 : lw_okq (⟨"NobodyBeenAftModel", "stepGoes", "([I)V"⟩, 53) := ⟨⟨by decide +kernel, by decide +kernel⟩, List.mem_of_getElem? (i := 992) (by decide +kernel), List.mem_of_getElem? (i := 1406) (by decide +kernel), List.mem_of_getElem? (i := 1407) (by decide +kernel)⟩
theorem lw_p59 : lw_okq (⟨"NobodyBeenAftModel", "hitsAt", "(II)I"⟩, 53) := ⟨⟨by decide +kernel, by decide +kernel⟩, List.mem_of_getElem? (i := 992) (by decide +kernel), List.mem_of_getElem? (i := 1416) (by decide +kernel), List.mem_of_getElem? (i := 1417) (by decide +kernel)⟩
theorem lw_p60 : lw_okq (⟨"NobodyBeenAftModel", "enters", "(J)V"⟩, 53) := ⟨⟨by decide +kernel, by decide +kernel⟩, List.mem_of_getElem? (i := 992) (by decide +kernel), List.mem_of_getElem? (i := 1420) (by decide +kernel), List.mem_of_getElem? (i := 1421) (by decide +kernel)⟩
theorem lw_p61 : lw_okq (⟨"NobodyBeenAftModel", "readsAct", "()Z"⟩, 53) := ⟨⟨by decide +kernel, by decide +kernel⟩, List.mem_of_getElem? (i := 992) (by decide +kernel), List.mem_of_getElem? (i := 1428) (by decide +kernel), List.mem_of_getElem? (i := 1429) (by decide +kernel)⟩
theorem lw_p62 : lw_okq (⟨"NobodyBeenAftModel", "does", "(I)Z"⟩, 53) := ⟨⟨by decide +kernel, by decide +kernel⟩, List.mem_of_getElem? (i := 992) (by decide +kernel), List.mem_of_getElem? (i := 1433) (by decide +kernel), List.mem_of_getElem? (i := 1434) (by decide +kernel)⟩
theorem lw_p63 : lw_okq (⟨"NobodyBeenAftModel", "puts", "()V"⟩, 53) := ⟨⟨by decide +kernel, by decide +kernel⟩, List.mem_of_getElem? (i := 992) (by decide +kernel), List.mem_of_getElem? (i := 1441) (by decide +kernel), List.mem_of_getElem? (i := 1442) (by decide +kernel)⟩
noncomputable def lw_privs_4 : List (MethodName × Nat) := [(⟨"NobodyBeenAftModel", "delayAt", "(I)I"⟩, 53), (⟨"NobodyBeenAftModel", "ruled", "()I"⟩, 53), (⟨"NobodyBeenAftModel", "putsBy", "()V"⟩, 53), (⟨"NobodyBeenAftModel", "gives", "([II)I"⟩, 53), (⟨"NobodyBeenAftModel", "turned", "(I)I"⟩, 53), (⟨"NobodyBeenAftModel", "counts", "(I)I"⟩, 53), (⟨"NobodyBeenAftModel", "adds", "(I)I"⟩, 53), (⟨"NobodyBeenAftModel", "passes", "(III)I"⟩, 53), (⟨"NobodyBeenAftModel", "cooks", "(II)I"⟩, 53), (⟨"NobodyBeenAftModel", "startsCounting", "()V"⟩, 53), (⟨"NobodyBeenAftModel", "stepGoes", "([I)V"⟩, 53), (⟨"NobodyBeenAftModel", "hitsAt", "(II)I"⟩, 53), (⟨"NobodyBeenAftModel", "enters", "(J)V"⟩, 53), (⟨"NobodyBeenAftModel", "readsAct", "()Z"⟩, 53), (⟨"NobodyBeenAftModel", "does", "(I)Z"⟩, 53), (⟨"NobodyBeenAftModel", "puts", "()V"⟩, 53)]
theorem lw_r4 : ∀ q ∈ lw_privs_4, lw_okq q := List.forall_mem_cons.mpr ⟨lw_p48, List.forall_mem_cons.mpr ⟨lw_p49, List.forall_mem_cons.mpr ⟨lw_p50, List.forall_mem_cons.mpr ⟨lw_p51, List.forall_mem_cons.mpr ⟨lw_p52, List.forall_mem_cons.mpr ⟨lw_p53, List.forall_mem_cons.mpr ⟨lw_p54, List.forall_mem_cons.mpr ⟨lw_p55, List.forall_mem_cons.mpr ⟨lw_p56, List.forall_mem_cons.mpr ⟨lw_p57, List.forall_mem_cons.mpr ⟨lw_p58, List.forall_mem_cons.mpr ⟨lw_p59, List.forall_mem_cons.mpr ⟨lw_p60, List.forall_mem_cons.mpr ⟨lw_p61, List.forall_mem_cons.mpr ⟨lw_p62, List.forall_mem_cons.mpr ⟨lw_p63, fun _ h => absurd h List.not_mem_nil⟩⟩⟩⟩⟩⟩⟩⟩⟩⟩⟩⟩⟩⟩⟩⟩
theorem lw_p64 : lw_okq (⟨"NobodyBeenAftModel", "movedByDue", "(II)I"⟩, 53) := ⟨⟨by decide +kernel, by decide +kernel⟩, List.mem_of_getElem? (i := 992) (by decide +kernel), List.mem_of_getElem? (i := 1453) (by decide +kernel), List.mem_of_getElem? (i := 1454) (by decide +kernel)⟩
theorem lw_p65 : lw_okq (⟨"NobodyBeenAftModel", "comesAt", "(II)Z"⟩, 53) := ⟨⟨by decide +kernel, by decide +kernel⟩, List.mem_of_getElem? (i := 992) (by decide +kernel), List.mem_of_getElem? (i := 1463) (by decide +kernel), List.mem_of_getElem? (i := 1464) (by decide +kernel)⟩
theorem lw_p66 : lw_okq (⟨"NobodyBeenAftModel", "mayGive", "(I)Z"⟩, 53) := ⟨⟨by decide +kernel, by decide +kernel⟩, List.mem_of_getElem? (i := 992) (by decide +kernel), List.mem_of_getElem? (i := 1467) (by decide +kernel), List.mem_of_getElem? (i := 1468) (by decide +kernel)⟩
theorem lw_p67 : lw_okq (⟨"NobodyBeenAftModel", "choosesAny", "(I)V"⟩, 53) := ⟨⟨by decide +kernel, by decide +kernel⟩, List.mem_of_getElem? (i := 992) (by decide +kernel), List.mem_of_getElem? (i := 1476) (by decide +kernel), List.mem_of_getElem? (i := 1477) (by decide +kernel)⟩
theorem lw_p68 : lw_okq (⟨"NobodyBeenAftModel", "fewestOrders", "(I)I"⟩, 53) := ⟨⟨by decide +kernel, by decide +kernel⟩, List.mem_of_getElem? (i := 992) (by decide +kernel), List.mem_of_getElem? (i := 1480) (by decide +kernel), List.mem_of_getElem? (i := 1481) (by decide +kernel)⟩
theorem lw_p69 : lw_okq (⟨"NobodyBeenAftModel", "laysLeast", "(I)V"⟩, 53) := ⟨⟨by decide +kernel, by decide +kernel⟩, List.mem_of_getElem? (i := 992) (by decide +kernel), List.mem_of_getElem? (i := 1484) (by decide +kernel), List.mem_of_getElem? (i := 1485) (by decide +kernel)⟩
theorem lw_p70 : lw_okq (⟨"NobodyBeenAftModel", "goesBy", "(IZ)V"⟩, 53) := ⟨⟨by decide +kernel, by decide +kernel⟩, List.mem_of_getElem? (i := 992) (by decide +kernel), List.mem_of_getElem? (i := 1488) (by decide +kernel), List.mem_of_getElem? (i := 1489) (by decide +kernel)⟩
theorem lw_p71 : lw_okq (⟨"NobodyBeenAftModel", "rocksIn", "(II)I"⟩, 53) := ⟨⟨by decide +kernel, by decide +kernel⟩, List.mem_of_getElem? (i := 992) (by decide +kernel), List.mem_of_getElem? (i := 1506) (by decide +kernel), List.mem_of_getElem? (i := 1507) (by decide +kernel)⟩
theorem lw_p72 : lw_okq (⟨"NobodyBeenAftModel", "postsFor", "(I)I"⟩, 53) := ⟨⟨by decide +kernel, by decide +kernel⟩, List.mem_of_getElem? (i := 992) (by decide +kernel), List.mem_of_getElem? (i := 1525) (by decide +kernel), List.mem_of_getElem? (i := 1526) (by decide +kernel)⟩
theorem lw_p73 : lw_okq (⟨"NobodyBeenAftModel", "bets", "(II)V"⟩, 53) := ⟨⟨by decide +kernel, by decide +kernel⟩, List.mem_of_getElem? (i := 992) (by decide +kernel), List.mem_of_getElem? (i := 1539) (by decide +kernel), List.mem_of_getElem? (i := 1540) (by decide +kernel)⟩
theorem lw_p74 : lw_okq (⟨"NobodyBeenAftModel", "tellsFraction", "(JJ)V"⟩, 53) := ⟨⟨by decide +kernel, by decide +kernel⟩, List.mem_of_getElem? (i := 992) (by decide +kernel), List.mem_of_getElem? (i := 1543) (by decide +kernel), List.mem_of_getElem? (i := 1544) (by decide +kernel)⟩
theorem lw_p75 : lw_okq (⟨"NobodyBeenAftModel", "lastsFor", "(II)I"⟩, 53) := ⟨⟨by decide +kernel, by decide +kernel⟩, List.mem_of_getElem? (i := 992) (by decide +kernel), List.mem_of_getElem? (i := 1559) (by decide +kernel), List.mem_of_getElem? (i := 1560) (by decide +kernel)⟩
theorem lw_p76 : lw_okq (⟨"NobodyBeenAftModel", "spare", "(II)I"⟩, 53) := ⟨⟨by decide +kernel, by decide +kernel⟩, List.mem_of_getElem? (i := 992) (by decide +kernel), List.mem_of_getElem? (i := 1568) (by decide +kernel), List.mem_of_getElem? (i := 1569) (by decide +kernel)⟩
theorem lw_p77 : lw_okq (⟨"NobodyBeenAftModel", "laysFlows", "(I)V"⟩, 53) := ⟨⟨by decide +kernel, by decide +kernel⟩, List.mem_of_getElem? (i := 992) (by decide +kernel), List.mem_of_getElem? (i := 1572) (by decide +kernel), List.mem_of_getElem? (i := 1573) (by decide +kernel)⟩
theorem lw_p78 : lw_okq (⟨"NobodyBeenAftModel", "flow", "(II)I"⟩, 53) := ⟨⟨by decide +kernel, by decide +kernel⟩, List.mem_of_getElem? (i := 992) (by decide +kernel), List.mem_of_getElem? (i := 1577) (by decide +kernel), List.mem_of_getElem? (i := 1578) (by decide +kernel)⟩
theorem lw_p79 : lw_okq (⟨"NobodyBeenAftModel", "seenIn", "(I)I"⟩, 53) := ⟨⟨by decide +kernel, by decide +kernel⟩, List.mem_of_getElem? (i := 992) (by decide +kernel), List.mem_of_getElem? (i := 1591) (by decide +kernel), List.mem_of_getElem? (i := 1592) (by decide +kernel)⟩
noncomputable def lw_privs_5 : List (MethodName × Nat) := [(⟨"NobodyBeenAftModel", "movedByDue", "(II)I"⟩, 53), (⟨"NobodyBeenAftModel", "comesAt", "(II)Z"⟩, 53), (⟨"NobodyBeenAftModel", "mayGive", "(I)Z"⟩, 53), (⟨"NobodyBeenAftModel", "choosesAny", "(I)V"⟩, 53), (⟨"NobodyBeenAftModel", "fewestOrders", "(I)I"⟩, 53), (⟨"NobodyBeenAftModel", "laysLeast", "(I)V"⟩, 53), (⟨"NobodyBeenAftModel", "goesBy", "(IZ)V"⟩, 53), (⟨"NobodyBeenAftModel", "rocksIn", "(II)I"⟩, 53), (⟨"NobodyBeenAftModel", "postsFor", "(I)I"⟩, 53), (⟨"NobodyBeenAftModel", "bets", "(II)V"⟩, 53), (⟨"NobodyBeenAftModel", "tellsFraction", "(JJ)V"⟩, 53), (⟨"NobodyBeenAftModel", "lastsFor", "(II)I"⟩, 53), (⟨"NobodyBeenAftModel", "spare", "(II)I"⟩, 53), (⟨"NobodyBeenAftModel", "laysFlows", "(I)V"⟩, 53), (⟨"NobodyBeenAftModel", "flow", "(II)I"⟩, 53), (⟨"NobodyBeenAftModel", "seenIn", "(I)I"⟩, 53)]
theorem lw_r5 : ∀ q ∈ lw_privs_5, lw_okq q := List.forall_mem_cons.mpr ⟨lw_p64, List.forall_mem_cons.mpr ⟨lw_p65, List.forall_mem_cons.mpr ⟨lw_p66, List.forall_mem_cons.mpr ⟨lw_p67, List.forall_mem_cons.mpr ⟨lw_p68, List.forall_mem_cons.mpr ⟨lw_p69, List.forall_mem_cons.mpr ⟨lw_p70, List.forall_mem_cons.mpr ⟨lw_p71, List.forall_mem_cons.mpr ⟨lw_p72, List.forall_mem_cons.mpr ⟨lw_p73, List.forall_mem_cons.mpr ⟨lw_p74, List.forall_mem_cons.mpr ⟨lw_p75, List.forall_mem_cons.mpr ⟨lw_p76, List.forall_mem_cons.mpr ⟨lw_p77, List.forall_mem_cons.mpr ⟨lw_p78, List.forall_mem_cons.mpr ⟨lw_p79, fun _ h => absurd h List.not_mem_nil⟩⟩⟩⟩⟩⟩⟩⟩⟩⟩⟩⟩⟩⟩⟩⟩
theorem lw_p80 : lw_okq (⟨"NobodyBeenAftModel", "lastSeen", "()I"⟩, 53) := ⟨⟨by decide +kernel, by decide +kernel⟩, List.mem_of_getElem? (i := 992) (by decide +kernel), List.mem_of_getElem? (i := 1603) (by decide +kernel), List.mem_of_getElem? (i := 1604) (by decide +kernel)⟩
theorem lw_p81 : lw_okq (⟨"NobodyBeenAftModel", "laysSeen", "(I)V"⟩, 53) := ⟨⟨by decide +kernel, by decide +kernel⟩, List.mem_of_getElem? (i := 992) (by decide +kernel), List.mem_of_getElem? (i := 1607) (by decide +kernel), List.mem_of_getElem? (i := 1608) (by decide +kernel)⟩
theorem lw_p82 : lw_okq (⟨"NobodyBeenAftModel", "isFine", "(II)Z"⟩, 53) := ⟨⟨by decide +kernel, by decide +kernel⟩, List.mem_of_getElem? (i := 992) (by decide +kernel), List.mem_of_getElem? (i := 1611) (by decide +kernel), List.mem_of_getElem? (i := 1612) (by decide +kernel)⟩
theorem lw_p83 : lw_okq (⟨"NobodyBeenAftModel", "boyBegins", "(II)V"⟩, 53) := ⟨⟨by decide +kernel, by decide +kernel⟩, List.mem_of_getElem? (i := 992) (by decide +kernel), List.mem_of_getElem? (i := 1628) (by decide +kernel), List.mem_of_getElem? (i := 1629) (by decide +kernel)⟩
theorem lw_p84 : lw_okq (⟨"NobodyBeenAftModel", "boyGoes", "()V"⟩, 53) := ⟨⟨by decide +kernel, by decide +kernel⟩, List.mem_of_getElem? (i := 992) (by decide +kernel), List.mem_of_getElem? (i := 1632) (by decide +kernel), List.mem_of_getElem? (i := 1633) (by decide +kernel)⟩
noncomputable def lw_privs_6 : List (MethodName × Nat) := [(⟨"NobodyBeenAftModel", "lastSeen", "()I"⟩, 53), (⟨"NobodyBeenAftModel", "laysSeen", "(I)V"⟩, 53), (⟨"NobodyBeenAftModel", "isFine", "(II)Z"⟩, 53), (⟨"NobodyBeenAftModel", "boyBegins", "(II)V"⟩, 53), (⟨"NobodyBeenAftModel", "boyGoes", "()V"⟩, 53)]
theorem lw_r6 : ∀ q ∈ lw_privs_6, lw_okq q := List.forall_mem_cons.mpr ⟨lw_p80, List.forall_mem_cons.mpr ⟨lw_p81, List.forall_mem_cons.mpr ⟨lw_p82, List.forall_mem_cons.mpr ⟨lw_p83, List.forall_mem_cons.mpr ⟨lw_p84, fun _ h => absurd h List.not_mem_nil⟩⟩⟩⟩⟩
noncomputable def lw_privs : List (MethodName × Nat) := lw_privs_1 ++ (lw_privs_2 ++ (lw_privs_3 ++ (lw_privs_4 ++ (lw_privs_5 ++ (lw_privs_6)))))
noncomputable def lw_tbl : List Cond := k2_sels lw_privs ++ tables_1
theorem lw_privs_ok : ∀ q ∈ lw_privs, lw_okq q := by
  show ∀ q ∈ lw_privs_1 ++ (lw_privs_2 ++ (lw_privs_3 ++ (lw_privs_4 ++ (lw_privs_5 ++ (lw_privs_6))))), lw_okq q
  exact List.forall_mem_append.mpr ⟨lw_r1, List.forall_mem_append.mpr ⟨lw_r2, List.forall_mem_append.mpr ⟨lw_r3, List.forall_mem_append.mpr ⟨lw_r4, List.forall_mem_append.mpr ⟨lw_r5, lw_r6⟩⟩⟩⟩⟩
end
section
noncomputable def RX0 : String := "NobodyBeenAft$Outlook"
noncomputable def TX0 : u_T := fun k => match k with
  | 0 => ("NobodyBeenAft$Outlook", "doneIn", "[I", true)
  | 1 => ("NobodyBeenAft$Outlook", "rocksIn", "[I", true)
  | 2 => ("NobodyBeenAft$Outlook", "reached", "[I", true)
  | 3 => ("NobodyBeenAft$Outlook", "chosen", "[I", true)
  | 4 => ("NobodyBeenAft$Outlook", "cost", "[I", true)
  | _ => ("NobodyBeenAft$Outlook", "turned", "Z", false)
noncomputable def tyX0 : Nat → FieldType := fun k => match k with
  | 0 => .array .int
  | 1 => .array .int
  | 2 => .array .int
  | 3 => .array .int
  | 4 => .array .int
  | _ => .boolean
theorem nmX0 : ∀ a, a < 6 → ∀ b, b < 6 → a ≠ b → (TX0 a).2.1 ≠ (TX0 b).2.1 := by decide +kernel
theorem tyX0_ok : ∀ k, k < 6 → parseFieldDescriptor (TX0 k).2.2.1 = some (tyX0 k) := by decide +kernel
noncomputable abbrev cX0_init : ByteArray := prog_2_method_1_code
noncomputable def yX0_init : MethodName := ⟨RX0, "<init>", "()V"⟩
noncomputable abbrev cX0_isOvertaken : ByteArray := prog_2_method_2_code
noncomputable def yX0_isOvertaken : MethodName := ⟨RX0, "isOvertaken", "(II)Z"⟩
noncomputable abbrev cX0_reach : ByteArray := prog_2_method_3_code
noncomputable def yX0_reach : MethodName := ⟨RX0, "reach", "(LNobodyBeenAft$State;IIZ)V"⟩
noncomputable abbrev cX0_moved : ByteArray := prog_2_method_4_code
noncomputable def yX0_moved : MethodName := ⟨RX0, "moved", "(II)I"⟩
noncomputable abbrev cX0_freeOrders : ByteArray := prog_2_method_5_code
noncomputable def yX0_freeOrders : MethodName := ⟨RX0, "freeOrders", "(II)V"⟩
noncomputable abbrev cX0_fewestOrders : ByteArray := prog_2_method_6_code
noncomputable def yX0_fewestOrders : MethodName := ⟨RX0, "fewestOrders", "(LNobodyBeenAft$State;I)I"⟩
noncomputable abbrev cX0_doChosen : ByteArray := prog_2_method_7_code
noncomputable def yX0_doChosen : MethodName := ⟨RX0, "doChosen", "(I)V"⟩
noncomputable abbrev cX0_moveCosts : ByteArray := prog_2_method_8_code
noncomputable def yX0_moveCosts : MethodName := ⟨RX0, "moveCosts", "(I)V"⟩
noncomputable abbrev cX0_chooseLeastRow : ByteArray := prog_2_method_9_code
noncomputable def yX0_chooseLeastRow : MethodName := ⟨RX0, "chooseLeastRow", "(LNobodyBeenAft$State;II)V"⟩
noncomputable abbrev cX0_leastChoice : ByteArray := prog_2_method_10_code
noncomputable def yX0_leastChoice : MethodName := ⟨RX0, "leastChoice", "(LNobodyBeenAft$State;III)I"⟩
noncomputable def RX1 : String := "NobodyBeenAft$Past"
noncomputable def TX1 : u_T := fun k => match k with
  | 0 => ("NobodyBeenAft$Past", "ring", "[LNobodyBeenAft$State;", true)
  | 1 => ("NobodyBeenAft$Past", "first", "I", false)
  | 2 => ("NobodyBeenAft$Past", "size", "I", false)
  | 3 => ("NobodyBeenAft$Past", "kept", "[LNobodyBeenAft$State;", true)
  | _ => ("NobodyBeenAft$Past", "isKept", "[Z", true)
noncomputable def tyX1 : Nat → FieldType := fun k => match k with
  | 0 => .array (.object "NobodyBeenAft$State")
  | 1 => .int
  | 2 => .int
  | 3 => .array (.object "NobodyBeenAft$State")
  | _ => .array .boolean
theorem nmX1 : ∀ a, a < 5 → ∀ b, b < 5 → a ≠ b → (TX1 a).2.1 ≠ (TX1 b).2.1 := by decide +kernel
theorem tyX1_ok : ∀ k, k < 5 → parseFieldDescriptor (TX1 k).2.2.1 = some (tyX1 k) := by decide +kernel
noncomputable abbrev cX1_init : ByteArray := prog_3_method_1_code
noncomputable def yX1_init : MethodName := ⟨RX1, "<init>", "()V"⟩
noncomputable abbrev cX1_remember : ByteArray := prog_3_method_2_code
noncomputable def yX1_remember : MethodName := ⟨RX1, "remember", "(LNobodyBeenAft$State;)V"⟩
noncomputable abbrev cX1_bringBack : ByteArray := prog_3_method_3_code
noncomputable def yX1_bringBack : MethodName := ⟨RX1, "bringBack", "(LNobodyBeenAft$State;)Z"⟩
noncomputable abbrev cX1_forgetAll : ByteArray := prog_3_method_4_code
noncomputable def yX1_forgetAll : MethodName := ⟨RX1, "forgetAll", "()V"⟩
noncomputable def RX2 : String := "NobodyBeenAft$Reefs"
noncomputable def TX2 : u_T := fun k => match k with
  | 0 => ("NobodyBeenAft$Reefs", "count", "I", false)
  | 1 => ("NobodyBeenAft$Reefs", "miles", "[I", true)
  | _ => ("NobodyBeenAft$Reefs", "lanesOf", "[I", true)
noncomputable def tyX2 : Nat → FieldType := fun k => match k with
  | 0 => .int
  | 1 => .array .int
  | _ => .array .int
theorem nmX2 : ∀ a, a < 3 → ∀ b, b < 3 → a ≠ b → (TX2 a).2.1 ≠ (TX2 b).2.1 := by decide +kernel
theorem tyX2_ok : ∀ k, k < 3 → parseFieldDescriptor (TX2 k).2.2.1 = some (tyX2 k) := by decide +kernel
noncomputable abbrev cX2_init : ByteArray := prog_4_method_1_code
noncomputable def yX2_init : MethodName := ⟨RX2, "<init>", "()V"⟩
noncomputable abbrev cX2_readFrom : ByteArray := prog_4_method_2_code
noncomputable def yX2_readFrom : MethodName := ⟨RX2, "readFrom", "(LNobodyBeenAft$Text;)I"⟩
noncomputable def RX3 : String := "NobodyBeenAft$Row"
noncomputable def TX3 : u_T := fun k => match k with
  | 0 => ("NobodyBeenAft$Row", "numbers", "[J", true)
  | _ => ("NobodyBeenAft$Row", "size", "I", false)
noncomputable def tyX3 : Nat → FieldType := fun k => match k with
  | 0 => .array .long
  | _ => .int
theorem nmX3 : ∀ a, a < 2 → ∀ b, b < 2 → a ≠ b → (TX3 a).2.1 ≠ (TX3 b).2.1 := by decide +kernel
theorem tyX3_ok : ∀ k, k < 2 → parseFieldDescriptor (TX3 k).2.2.1 = some (tyX3 k) := by decide +kernel
noncomputable abbrev cX3_init : ByteArray := prog_5_method_1_code
noncomputable def yX3_init : MethodName := ⟨RX3, "<init>", "()V"⟩
noncomputable abbrev cX3_clear : ByteArray := prog_5_method_2_code
noncomputable def yX3_clear : MethodName := ⟨RX3, "clear", "()V"⟩
noncomputable abbrev cX3_add : ByteArray := prog_5_method_3_code
noncomputable def yX3_add : MethodName := ⟨RX3, "add", "(J)V"⟩
noncomputable abbrev cX3_tellOne : ByteArray := prog_5_method_4_code
noncomputable def yX3_tellOne : MethodName := ⟨RX3, "tellOne", "(J)V"⟩
noncomputable abbrev cX3_tellTwo : ByteArray := prog_5_method_5_code
noncomputable def yX3_tellTwo : MethodName := ⟨RX3, "tellTwo", "(JJ)V"⟩
noncomputable abbrev cX3_tellFraction : ByteArray := prog_5_method_6_code
noncomputable def yX3_tellFraction : MethodName := ⟨RX3, "tellFraction", "(JJ)V"⟩
noncomputable def RX4 : String := "NobodyBeenAft$Rule"
noncomputable def TX4 : u_T := fun k => match k with
  | 0 => ("NobodyBeenAft$Rule", "code", "[I", true)
  | 1 => ("NobodyBeenAft$Rule", "size", "I", false)
  | 2 => ("NobodyBeenAft$Rule", "values", "[I", true)
  | _ => ("NobodyBeenAft$Rule", "top", "I", false)
noncomputable def tyX4 : Nat → FieldType := fun k => match k with
  | 0 => .array .int
  | 1 => .int
  | 2 => .array .int
  | _ => .int
theorem nmX4 : ∀ a, a < 4 → ∀ b, b < 4 → a ≠ b → (TX4 a).2.1 ≠ (TX4 b).2.1 := by decide +kernel
theorem tyX4_ok : ∀ k, k < 4 → parseFieldDescriptor (TX4 k).2.2.1 = some (tyX4 k) := by decide +kernel
noncomputable abbrev cX4_init : ByteArray := prog_6_method_1_code
noncomputable def yX4_init : MethodName := ⟨RX4, "<init>", "()V"⟩
noncomputable abbrev cX4_add : ByteArray := prog_6_method_2_code
noncomputable def yX4_add : MethodName := ⟨RX4, "add", "(I)V"⟩
noncomputable abbrev cX4_work : ByteArray := prog_6_method_3_code
noncomputable def yX4_work : MethodName := ⟨RX4, "work", "(LNobodyBeenAft$Ship;I)I"⟩
noncomputable abbrev cX4_push : ByteArray := prog_6_method_4_code
noncomputable def yX4_push : MethodName := ⟨RX4, "push", "(I)V"⟩
noncomputable abbrev cX4_pop : ByteArray := prog_6_method_5_code
noncomputable def yX4_pop : MethodName := ⟨RX4, "pop", "()I"⟩
noncomputable abbrev cX4_valueOf : ByteArray := prog_6_method_6_code
noncomputable def yX4_valueOf : MethodName := ⟨RX4, "valueOf", "(ILNobodyBeenAft$Ship;I)I"⟩
noncomputable abbrev cX4_apply : ByteArray := prog_6_method_7_code
noncomputable def yX4_apply : MethodName := ⟨RX4, "apply", "(III)I"⟩
noncomputable def RX5 : String := "NobodyBeenAft$RuleReader"
noncomputable def TX5 : u_T := fun k => match k with
  | 0 => ("NobodyBeenAft$RuleReader", "waiting", "[I", true)
  | 1 => ("NobodyBeenAft$RuleReader", "waits", "I", false)
  | 2 => ("NobodyBeenAft$RuleReader", "depth", "I", false)
  | 3 => ("NobodyBeenAft$RuleReader", "compared", "I", false)
  | _ => ("NobodyBeenAft$RuleReader", "wantsThing", "Z", false)
noncomputable def tyX5 : Nat → FieldType := fun k => match k with
  | 0 => .array .int
  | 1 => .int
  | 2 => .int
  | 3 => .int
  | _ => .boolean
theorem nmX5 : ∀ a, a < 5 → ∀ b, b < 5 → a ≠ b → (TX5 a).2.1 ≠ (TX5 b).2.1 := by decide +kernel
theorem tyX5_ok : ∀ k, k < 5 → parseFieldDescriptor (TX5 k).2.2.1 = some (tyX5 k) := by decide +kernel
noncomputable abbrev cX5_init : ByteArray := prog_7_method_1_code
noncomputable def yX5_init : MethodName := ⟨RX5, "<init>", "()V"⟩
noncomputable abbrev cX5_readFrom : ByteArray := prog_7_method_2_code
noncomputable def yX5_readFrom : MethodName := ⟨RX5, "readFrom", "(LNobodyBeenAft$Text;LNobodyBeenAft$Rule;)I"⟩
noncomputable abbrev cX5_takeThing : ByteArray := prog_7_method_3_code
noncomputable def yX5_takeThing : MethodName := ⟨RX5, "takeThing", "(LNobodyBeenAft$Text;LNobodyBeenAft$Rule;)Z"⟩
noncomputable abbrev cX5_takeOperator : ByteArray := prog_7_method_4_code
noncomputable def yX5_takeOperator : MethodName := ⟨RX5, "takeOperator", "(LNobodyBeenAft$Text;LNobodyBeenAft$Rule;)Z"⟩
noncomputable abbrev cX5_hold : ByteArray := prog_7_method_5_code
noncomputable def yX5_hold : MethodName := ⟨RX5, "hold", "(I)V"⟩
noncomputable abbrev cX5_release : ByteArray := prog_7_method_6_code
noncomputable def yX5_release : MethodName := ⟨RX5, "release", "(ILNobodyBeenAft$Rule;)V"⟩
noncomputable abbrev cX5_rank : ByteArray := prog_7_method_7_code
noncomputable def yX5_rank : MethodName := ⟨RX5, "rank", "(I)I"⟩
noncomputable def RX6 : String := "NobodyBeenAft$Ship"
noncomputable def TX6 : u_T := fun k => match k with
  | 0 => ("NobodyBeenAft$Ship", "length", "I", false)
  | 1 => ("NobodyBeenAft$Ship", "posts", "I", false)
  | 2 => ("NobodyBeenAft$Ship", "liars", "I", false)
  | 3 => ("NobodyBeenAft$Ship", "cells", "[I", true)
  | _ => ("NobodyBeenAft$Ship", "lies", "[I", true)
noncomputable def tyX6 : Nat → FieldType := fun k => match k with
  | 0 => .int
  | 1 => .int
  | 2 => .int
  | 3 => .array .int
  | _ => .array .int
theorem nmX6 : ∀ a, a < 5 → ∀ b, b < 5 → a ≠ b → (TX6 a).2.1 ≠ (TX6 b).2.1 := by decide +kernel
theorem tyX6_ok : ∀ k, k < 5 → parseFieldDescriptor (TX6 k).2.2.1 = some (tyX6 k) := by decide +kernel
noncomputable abbrev cX6_init : ByteArray := prog_8_method_1_code
noncomputable def yX6_init : MethodName := ⟨RX6, "<init>", "()V"⟩
noncomputable abbrev cX6_readFrom : ByteArray := prog_8_method_2_code
noncomputable def yX6_readFrom : MethodName := ⟨RX6, "readFrom", "(LNobodyBeenAft$Text;)I"⟩
noncomputable abbrev cX6_addPost : ByteArray := prog_8_method_3_code
noncomputable def yX6_addPost : MethodName := ⟨RX6, "addPost", "(II)V"⟩
noncomputable def RX7 : String := "NobodyBeenAft$Sightings"
noncomputable def TX7 : u_T := fun k => match k with
  | 0 => ("NobodyBeenAft$Sightings", "count", "I", false)
  | 1 => ("NobodyBeenAft$Sightings", "laneAt", "[I", true)
  | _ => ("NobodyBeenAft$Sightings", "ways", "[[J", true)
noncomputable def tyX7 : Nat → FieldType := fun k => match k with
  | 0 => .int
  | 1 => .array .int
  | _ => .array (.array .long)
theorem nmX7 : ∀ a, a < 3 → ∀ b, b < 3 → a ≠ b → (TX7 a).2.1 ≠ (TX7 b).2.1 := by decide +kernel
theorem tyX7_ok : ∀ k, k < 3 → parseFieldDescriptor (TX7 k).2.2.1 = some (tyX7 k) := by decide +kernel
noncomputable abbrev cX7_init : ByteArray := prog_9_method_1_code
noncomputable def yX7_init : MethodName := ⟨RX7, "<init>", "()V"⟩
noncomputable abbrev cX7_forgetAll : ByteArray := prog_9_method_2_code
noncomputable def yX7_forgetAll : MethodName := ⟨RX7, "forgetAll", "()V"⟩
noncomputable abbrev cX7_lastStep : ByteArray := prog_9_method_3_code
noncomputable def yX7_lastStep : MethodName := ⟨RX7, "lastStep", "()I"⟩
noncomputable abbrev cX7_countWays : ByteArray := prog_9_method_4_code
noncomputable def yX7_countWays : MethodName := ⟨RX7, "countWays", "(I)V"⟩
noncomputable abbrev cX7_waysBehind : ByteArray := prog_9_method_5_code
noncomputable def yX7_waysBehind : MethodName := ⟨RX7, "waysBehind", "(II)J"⟩
noncomputable abbrev cX7_leastOrder : ByteArray := prog_9_method_6_code
noncomputable def yX7_leastOrder : MethodName := ⟨RX7, "leastOrder", "(II)I"⟩
noncomputable abbrev cX7_possible : ByteArray := prog_9_method_7_code
noncomputable def yX7_possible : MethodName := ⟨RX7, "possible", "(I)I"⟩
noncomputable def RX8 : String := "NobodyBeenAft$State"
noncomputable def TX8 : u_T := fun k => match k with
  | 0 => ("NobodyBeenAft$State", "now", "I", false)
  | 1 => ("NobodyBeenAft$State", "lane", "I", false)
  | 2 => ("NobodyBeenAft$State", "hits", "I", false)
  | 3 => ("NobodyBeenAft$State", "lastGiven", "I", false)
  | 4 => ("NobodyBeenAft$State", "orders", "I", false)
  | 5 => ("NobodyBeenAft$State", "due", "[I", true)
  | 6 => ("NobodyBeenAft$State", "helm", "[I", true)
  | 7 => ("NobodyBeenAft$State", "food", "[I", true)
  | _ => ("NobodyBeenAft$State", "hungry", "[I", true)
noncomputable def tyX8 : Nat → FieldType := fun k => match k with
  | 0 => .int
  | 1 => .int
  | 2 => .int
  | 3 => .int
  | 4 => .int
  | 5 => .array .int
  | 6 => .array .int
  | 7 => .array .int
  | _ => .array .int
theorem nmX8 : ∀ a, a < 9 → ∀ b, b < 9 → a ≠ b → (TX8 a).2.1 ≠ (TX8 b).2.1 := by decide +kernel
theorem tyX8_ok : ∀ k, k < 9 → parseFieldDescriptor (TX8 k).2.2.1 = some (tyX8 k) := by decide +kernel
noncomputable abbrev cX8_init : ByteArray := prog_10_method_1_code
noncomputable def yX8_init : MethodName := ⟨RX8, "<init>", "()V"⟩
noncomputable abbrev cX8_copyFrom : ByteArray := prog_10_method_2_code
noncomputable def yX8_copyFrom : MethodName := ⟨RX8, "copyFrom", "(LNobodyBeenAft$State;)V"⟩
noncomputable abbrev cX8_gaveNow : ByteArray := prog_10_method_3_code
noncomputable def yX8_gaveNow : MethodName := ⟨RX8, "gaveNow", "()Z"⟩
noncomputable abbrev cX8_addOrder : ByteArray := prog_10_method_4_code
noncomputable def yX8_addOrder : MethodName := ⟨RX8, "addOrder", "(II)V"⟩
noncomputable abbrev cX8_doDueOrders : ByteArray := prog_10_method_5_code
noncomputable def yX8_doDueOrders : MethodName := ⟨RX8, "doDueOrders", "()V"⟩
noncomputable abbrev cX8_laneIn : ByteArray := prog_10_method_6_code
noncomputable def yX8_laneIn : MethodName := ⟨RX8, "laneIn", "(I)I"⟩
noncomputable abbrev cX8_eat : ByteArray := prog_10_method_7_code
noncomputable def yX8_eat : MethodName := ⟨RX8, "eat", "(II)Z"⟩
noncomputable def RX9 : String := "NobodyBeenAft$Text"
noncomputable def TX9 : u_T := fun k => match k with
  | 0 => ("NobodyBeenAft$Text", "signs", "[C", true)
  | 1 => ("NobodyBeenAft$Text", "size", "I", false)
  | 2 => ("NobodyBeenAft$Text", "at", "I", false)
  | 3 => ("NobodyBeenAft$Text", "stop", "I", false)
  | 4 => ("NobodyBeenAft$Text", "more", "Z", false)
  | _ => ("NobodyBeenAft$Text", "cutShort", "Z", false)
noncomputable def tyX9 : Nat → FieldType := fun k => match k with
  | 0 => .array .char
  | 1 => .int
  | 2 => .int
  | 3 => .int
  | 4 => .boolean
  | _ => .boolean
theorem nmX9 : ∀ a, a < 6 → ∀ b, b < 6 → a ≠ b → (TX9 a).2.1 ≠ (TX9 b).2.1 := by decide +kernel
theorem tyX9_ok : ∀ k, k < 6 → parseFieldDescriptor (TX9 k).2.2.1 = some (tyX9 k) := by decide +kernel
noncomputable abbrev cX9_init : ByteArray := prog_11_method_1_code
noncomputable def yX9_init : MethodName := ⟨RX9, "<init>", "()V"⟩
noncomputable abbrev cX9_append : ByteArray := prog_11_method_2_code
noncomputable def yX9_append : MethodName := ⟨RX9, "append", "(C)V"⟩
noncomputable abbrev cX9_open : ByteArray := prog_11_method_3_code
noncomputable def yX9_open : MethodName := ⟨RX9, "open", "(I)V"⟩
noncomputable abbrev cX9_ended : ByteArray := prog_11_method_4_code
noncomputable def yX9_ended : MethodName := ⟨RX9, "ended", "()Z"⟩
noncomputable abbrev cX9_next : ByteArray := prog_11_method_5_code
noncomputable def yX9_next : MethodName := ⟨RX9, "next", "()I"⟩
noncomputable abbrev cX9_take : ByteArray := prog_11_method_6_code
noncomputable def yX9_take : MethodName := ⟨RX9, "take", "(C)Z"⟩
noncomputable abbrev cX9_takeNumber : ByteArray := prog_11_method_7_code
noncomputable def yX9_takeNumber : MethodName := ⟨RX9, "takeNumber", "(I)I"⟩
noncomputable abbrev cX9_faultAtEnd : ByteArray := prog_11_method_8_code
noncomputable def yX9_faultAtEnd : MethodName := ⟨RX9, "faultAtEnd", "()I"⟩
noncomputable def RX10 : String := "NobodyBeenAft"
noncomputable def TX10 : u_T := fun k => match k with
  | 0 => ("NobodyBeenAft", "text", "LNobodyBeenAft$Text;", true)
  | 1 => ("NobodyBeenAft", "told", "LNobodyBeenAft$Row;", true)
  | 2 => ("NobodyBeenAft", "ship", "LNobodyBeenAft$Ship;", false)
  | 3 => ("NobodyBeenAft", "otherShip", "LNobodyBeenAft$Ship;", false)
  | 4 => ("NobodyBeenAft", "law", "LNobodyBeenAft$Rule;", false)
  | 5 => ("NobodyBeenAft", "otherLaw", "LNobodyBeenAft$Rule;", false)
  | 6 => ("NobodyBeenAft", "ruleReader", "LNobodyBeenAft$RuleReader;", true)
  | 7 => ("NobodyBeenAft", "reefs", "LNobodyBeenAft$Reefs;", true)
  | 8 => ("NobodyBeenAft", "eats", "[I", true)
  | 9 => ("NobodyBeenAft", "messCount", "I", false)
  | 10 => ("NobodyBeenAft", "state", "LNobodyBeenAft$State;", true)
  | 11 => ("NobodyBeenAft", "spare", "LNobodyBeenAft$State;", true)
  | 12 => ("NobodyBeenAft", "past", "LNobodyBeenAft$Past;", true)
  | 13 => ("NobodyBeenAft", "outlook", "LNobodyBeenAft$Outlook;", true)
  | 14 => ("NobodyBeenAft", "sightings", "LNobodyBeenAft$Sightings;", true)
  | 15 => ("NobodyBeenAft", "left", "[I", true)
  | _ => ("NobodyBeenAft", "passing", "[[I", true)
noncomputable def tyX10 : Nat → FieldType := fun k => match k with
  | 0 => .object "NobodyBeenAft$Text"
  | 1 => .object "NobodyBeenAft$Row"
  | 2 => .object "NobodyBeenAft$Ship"
  | 3 => .object "NobodyBeenAft$Ship"
  | 4 => .object "NobodyBeenAft$Rule"
  | 5 => .object "NobodyBeenAft$Rule"
  | 6 => .object "NobodyBeenAft$RuleReader"
  | 7 => .object "NobodyBeenAft$Reefs"
  | 8 => .array .int
  | 9 => .int
  | 10 => .object "NobodyBeenAft$State"
  | 11 => .object "NobodyBeenAft$State"
  | 12 => .object "NobodyBeenAft$Past"
  | 13 => .object "NobodyBeenAft$Outlook"
  | 14 => .object "NobodyBeenAft$Sightings"
  | 15 => .array .int
  | _ => .array (.array .int)
theorem nmX10 : ∀ a, a < 17 → ∀ b, b < 17 → a ≠ b → (TX10 a).2.1 ≠ (TX10 b).2.1 := by decide +kernel
theorem tyX10_ok : ∀ k, k < 17 → parseFieldDescriptor (TX10 k).2.2.1 = some (tyX10 k) := by decide +kernel
noncomputable abbrev cX10_init : ByteArray := prog_1_method_1_code
noncomputable def yX10_init : MethodName := ⟨RX10, "<init>", "()V"⟩
noncomputable abbrev cX10_sign : ByteArray := prog_1_method_2_code
noncomputable def yX10_sign : MethodName := ⟨RX10, "sign", "(I)I"⟩
noncomputable abbrev cX10_end : ByteArray := prog_1_method_3_code
noncomputable def yX10_end : MethodName := ⟨RX10, "end", "(I)Z"⟩
noncomputable abbrev cX10_ship : ByteArray := prog_1_method_4_code
noncomputable def yX10_ship : MethodName := ⟨RX10, "ship", "()I"⟩
noncomputable abbrev cX10_rocks : ByteArray := prog_1_method_5_code
noncomputable def yX10_rocks : MethodName := ⟨RX10, "rocks", "()I"⟩
noncomputable abbrev cX10_messes : ByteArray := prog_1_method_6_code
noncomputable def yX10_messes : MethodName := ⟨RX10, "messes", "()I"⟩
noncomputable abbrev cX10_rule : ByteArray := prog_1_method_7_code
noncomputable def yX10_rule : MethodName := ⟨RX10, "rule", "()I"⟩
noncomputable abbrev cX10_post : ByteArray := prog_1_method_8_code
noncomputable def yX10_post : MethodName := ⟨RX10, "post", "(II)I"⟩
noncomputable abbrev cX10_rock : ByteArray := prog_1_method_9_code
noncomputable def yX10_rock : MethodName := ⟨RX10, "rock", "(II)I"⟩
noncomputable abbrev cX10_mess : ByteArray := prog_1_method_10_code
noncomputable def yX10_mess : MethodName := ⟨RX10, "mess", "(II)I"⟩
noncomputable abbrev cX10_way : ByteArray := prog_1_method_11_code
noncomputable def yX10_way : MethodName := ⟨RX10, "way", "(II)I"⟩
noncomputable abbrev cX10_sheet : ByteArray := prog_1_method_12_code
noncomputable def yX10_sheet : MethodName := ⟨RX10, "sheet", "(IIII)I"⟩
noncomputable abbrev cX10_delay : ByteArray := prog_1_method_13_code
noncomputable def yX10_delay : MethodName := ⟨RX10, "delay", "()I"⟩
noncomputable abbrev cX10_order : ByteArray := prog_1_method_14_code
noncomputable def yX10_order : MethodName := ⟨RX10, "order", "(I)I"⟩
noncomputable abbrev cX10_pass : ByteArray := prog_1_method_15_code
noncomputable def yX10_pass : MethodName := ⟨RX10, "pass", "(III)I"⟩
noncomputable abbrev cX10_cook : ByteArray := prog_1_method_16_code
noncomputable def yX10_cook : MethodName := ⟨RX10, "cook", "(II)I"⟩
noncomputable abbrev cX10_steps : ByteArray := prog_1_method_17_code
noncomputable def yX10_steps : MethodName := ⟨RX10, "steps", "(I)I"⟩
noncomputable abbrev cX10_voyage : ByteArray := prog_1_method_18_code
noncomputable def yX10_voyage : MethodName := ⟨RX10, "voyage", "()I"⟩
noncomputable abbrev cX10_undo : ByteArray := prog_1_method_19_code
noncomputable def yX10_undo : MethodName := ⟨RX10, "undo", "()I"⟩
noncomputable abbrev cX10_lane : ByteArray := prog_1_method_20_code
noncomputable def yX10_lane : MethodName := ⟨RX10, "lane", "(I)I"⟩
noncomputable abbrev cX10_strikes : ByteArray := prog_1_method_21_code
noncomputable def yX10_strikes : MethodName := ⟨RX10, "strikes", "()I"⟩
noncomputable abbrev cX10_clears : ByteArray := prog_1_method_22_code
noncomputable def yX10_clears : MethodName := ⟨RX10, "clears", "()I"⟩
noncomputable abbrev cX10_plan : ByteArray := prog_1_method_23_code
noncomputable def yX10_plan : MethodName := ⟨RX10, "plan", "(I)I"⟩
noncomputable abbrev cX10_latest : ByteArray := prog_1_method_24_code
noncomputable def yX10_latest : MethodName := ⟨RX10, "latest", "(I)I"⟩
noncomputable abbrev cX10_lanes : ByteArray := prog_1_method_25_code
noncomputable def yX10_lanes : MethodName := ⟨RX10, "lanes", "(I)I"⟩
noncomputable abbrev cX10_safest : ByteArray := prog_1_method_26_code
noncomputable def yX10_safest : MethodName := ⟨RX10, "safest", "(I)I"⟩
noncomputable abbrev cX10_late : ByteArray := prog_1_method_27_code
noncomputable def yX10_late : MethodName := ⟨RX10, "late", "(I)I"⟩
noncomputable abbrev cX10_comes : ByteArray := prog_1_method_28_code
noncomputable def yX10_comes : MethodName := ⟨RX10, "comes", "(I)I"⟩
noncomputable abbrev cX10_relay : ByteArray := prog_1_method_29_code
noncomputable def yX10_relay : MethodName := ⟨RX10, "relay", "(I)I"⟩
noncomputable abbrev cX10_fewest : ByteArray := prog_1_method_30_code
noncomputable def yX10_fewest : MethodName := ⟨RX10, "fewest", "(I)I"⟩
noncomputable abbrev cX10_word : ByteArray := prog_1_method_31_code
noncomputable def yX10_word : MethodName := ⟨RX10, "word", "(II)I"⟩
noncomputable abbrev cX10_survives : ByteArray := prog_1_method_32_code
noncomputable def yX10_survives : MethodName := ⟨RX10, "survives", "(II)I"⟩
noncomputable abbrev cX10_lives : ByteArray := prog_1_method_33_code
noncomputable def yX10_lives : MethodName := ⟨RX10, "lives", "(I)I"⟩
noncomputable abbrev cX10_shares : ByteArray := prog_1_method_34_code
noncomputable def yX10_shares : MethodName := ⟨RX10, "shares", "(I)I"⟩
noncomputable abbrev cX10_fast : ByteArray := prog_1_method_35_code
noncomputable def yX10_fast : MethodName := ⟨RX10, "fast", "(I)I"⟩
noncomputable abbrev cX10_seen : ByteArray := prog_1_method_36_code
noncomputable def yX10_seen : MethodName := ⟨RX10, "seen", "(II)I"⟩
noncomputable abbrev cX10_forget : ByteArray := prog_1_method_37_code
noncomputable def yX10_forget : MethodName := ⟨RX10, "forget", "()I"⟩
noncomputable abbrev cX10_ordered : ByteArray := prog_1_method_38_code
noncomputable def yX10_ordered : MethodName := ⟨RX10, "ordered", "()I"⟩
noncomputable abbrev cX10_unsure : ByteArray := prog_1_method_39_code
noncomputable def yX10_unsure : MethodName := ⟨RX10, "unsure", "()I"⟩
noncomputable abbrev cX10_boy : ByteArray := prog_1_method_40_code
noncomputable def yX10_boy : MethodName := ⟨RX10, "boy", "(II)I"⟩
noncomputable abbrev cX10_meets : ByteArray := prog_1_method_41_code
noncomputable def yX10_meets : MethodName := ⟨RX10, "meets", "(I)I"⟩
noncomputable abbrev cX10_knows : ByteArray := prog_1_method_42_code
noncomputable def yX10_knows : MethodName := ⟨RX10, "knows", "(II)I"⟩
noncomputable abbrev cX10_mutiny : ByteArray := prog_1_method_43_code
noncomputable def yX10_mutiny : MethodName := ⟨RX10, "mutiny", "(III)I"⟩
noncomputable abbrev cX10_chance : ByteArray := prog_1_method_44_code
noncomputable def yX10_chance : MethodName := ⟨RX10, "chance", "(III)I"⟩
noncomputable abbrev cX10_voyages : ByteArray := prog_1_method_45_code
noncomputable def yX10_voyages : MethodName := ⟨RX10, "voyages", "(II)I"⟩
noncomputable abbrev cX10_keep : ByteArray := prog_1_method_46_code
noncomputable def yX10_keep : MethodName := ⟨RX10, "keep", "(I)Z"⟩
noncomputable abbrev cX10_again : ByteArray := prog_1_method_47_code
noncomputable def yX10_again : MethodName := ⟨RX10, "again", "(I)Z"⟩
noncomputable abbrev cX10_count : ByteArray := prog_1_method_48_code
noncomputable def yX10_count : MethodName := ⟨RX10, "count", "(I)I"⟩
noncomputable abbrev cX10_row : ByteArray := prog_1_method_49_code
noncomputable def yX10_row : MethodName := ⟨RX10, "row", "(I)J"⟩
noncomputable abbrev cX10_isDigit : ByteArray := prog_1_method_50_code
noncomputable def yX10_isDigit : MethodName := ⟨RX10, "isDigit", "(I)Z"⟩
noncomputable abbrev cX10_readMesses : ByteArray := prog_1_method_51_code
noncomputable def yX10_readMesses : MethodName := ⟨RX10, "readMesses", "()I"⟩
noncomputable abbrev cX10_voyageFault : ByteArray := prog_1_method_52_code
noncomputable def yX10_voyageFault : MethodName := ⟨RX10, "voyageFault", "()I"⟩
noncomputable abbrev cX10_doVoyageSign : ByteArray := prog_1_method_53_code
noncomputable def yX10_doVoyageSign : MethodName := ⟨RX10, "doVoyageSign", "()Z"⟩
noncomputable abbrev cX10_put : ByteArray := prog_1_method_54_code
noncomputable def yX10_put : MethodName := ⟨RX10, "put", "(III)I"⟩
noncomputable abbrev cX10_entry : ByteArray := prog_1_method_55_code
noncomputable def yX10_entry : MethodName := ⟨RX10, "entry", "(II)I"⟩
noncomputable abbrev cX10_keepOnSea : ByteArray := prog_1_method_56_code
noncomputable def yX10_keepOnSea : MethodName := ⟨RX10, "keepOnSea", "(I)I"⟩
noncomputable abbrev cX10_delayAt : ByteArray := prog_1_method_57_code
noncomputable def yX10_delayAt : MethodName := ⟨RX10, "delayAt", "(I)I"⟩
noncomputable abbrev cX10_orderRefusal : ByteArray := prog_1_method_58_code
noncomputable def yX10_orderRefusal : MethodName := ⟨RX10, "orderRefusal", "()I"⟩
noncomputable abbrev cX10_giveOrder : ByteArray := prog_1_method_59_code
noncomputable def yX10_giveOrder : MethodName := ⟨RX10, "giveOrder", "(I)I"⟩
noncomputable abbrev cX10_passRefusal : ByteArray := prog_1_method_60_code
noncomputable def yX10_passRefusal : MethodName := ⟨RX10, "passRefusal", "(III)I"⟩
noncomputable abbrev cX10_moveFood : ByteArray := prog_1_method_61_code
noncomputable def yX10_moveFood : MethodName := ⟨RX10, "moveFood", "(III)V"⟩
noncomputable abbrev cX10_goStep : ByteArray := prog_1_method_62_code
noncomputable def yX10_goStep : MethodName := ⟨RX10, "goStep", "()I"⟩
noncomputable abbrev cX10_firstFree : ByteArray := prog_1_method_63_code
noncomputable def yX10_firstFree : MethodName := ⟨RX10, "firstFree", "()I"⟩
noncomputable abbrev cX10_lookAhead : ByteArray := prog_1_method_64_code
noncomputable def yX10_lookAhead : MethodName := ⟨RX10, "lookAhead", "()V"⟩
noncomputable abbrev cX10_rocksInLane : ByteArray := prog_1_method_65_code
noncomputable def yX10_rocksInLane : MethodName := ⟨RX10, "rocksInLane", "(II)I"⟩
noncomputable abbrev cX10_apart : ByteArray := prog_1_method_66_code
noncomputable def yX10_apart : MethodName := ⟨RX10, "apart", "(I)I"⟩
noncomputable abbrev cX10_widened : ByteArray := prog_1_method_67_code
noncomputable def yX10_widened : MethodName := ⟨RX10, "widened", "(I)I"⟩
noncomputable abbrev cX10_power : ByteArray := prog_1_method_68_code
noncomputable def yX10_power : MethodName := ⟨RX10, "power", "(JI)J"⟩
noncomputable abbrev cX10_likelyWord : ByteArray := prog_1_method_69_code
noncomputable def yX10_likelyWord : MethodName := ⟨RX10, "likelyWord", "(II)J"⟩
noncomputable abbrev cX10_lastsFor : ByteArray := prog_1_method_70_code
noncomputable def yX10_lastsFor : MethodName := ⟨RX10, "lastsFor", "(II)I"⟩
noncomputable abbrev cX10_foodLeft : ByteArray := prog_1_method_71_code
noncomputable def yX10_foodLeft : MethodName := ⟨RX10, "foodLeft", "(II)I"⟩
noncomputable abbrev cX10_weighPassing : ByteArray := prog_1_method_72_code
noncomputable def yX10_weighPassing : MethodName := ⟨RX10, "weighPassing", "()V"⟩
noncomputable abbrev cX10_leastPassing : ByteArray := prog_1_method_73_code
noncomputable def yX10_leastPassing : MethodName := ⟨RX10, "leastPassing", "(II)I"⟩
noncomputable abbrev cX10_choosePassing : ByteArray := prog_1_method_74_code
noncomputable def yX10_choosePassing : MethodName := ⟨RX10, "choosePassing", "()I"⟩
noncomputable abbrev cX10_lap : ByteArray := prog_1_method_75_code
noncomputable def yX10_lap : MethodName := ⟨RX10, "lap", "()I"⟩
noncomputable abbrev cX10_cellAfter : ByteArray := prog_1_method_76_code
noncomputable def yX10_cellAfter : MethodName := ⟨RX10, "cellAfter", "(I)I"⟩
noncomputable abbrev cX10_holdsThen : ByteArray := prog_1_method_77_code
noncomputable def yX10_holdsThen : MethodName := ⟨RX10, "holdsThen", "(IIII)I"⟩
noncomputable abbrev cX10_wantsAnother : ByteArray := prog_1_method_78_code
noncomputable def yX10_wantsAnother : MethodName := ⟨RX10, "wantsAnother", "(IIII)Z"⟩
noncomputable def RX11 : String := "NobodyBeenAftModel"
noncomputable def TX11 : u_T := fun k => match k with
  | 0 => ("NobodyBeenAftModel", "thrown", "I", false)
  | 1 => ("NobodyBeenAftModel", "rows", "I", false)
  | 2 => ("NobodyBeenAftModel", "row", "[J", true)
  | 3 => ("NobodyBeenAftModel", "cells", "I", false)
  | 4 => ("NobodyBeenAftModel", "posts", "I", false)
  | 5 => ("NobodyBeenAftModel", "liars", "I", false)
  | 6 => ("NobodyBeenAftModel", "rocks", "I", false)
  | 7 => ("NobodyBeenAftModel", "messes", "I", false)
  | 8 => ("NobodyBeenAftModel", "changes", "I", false)
  | 9 => ("NobodyBeenAftModel", "postCell", "[I", true)
  | 10 => ("NobodyBeenAftModel", "lies", "[Z", true)
  | 11 => ("NobodyBeenAftModel", "rockMile", "[I", true)
  | 12 => ("NobodyBeenAftModel", "rockLane", "[I", true)
  | 13 => ("NobodyBeenAftModel", "eats", "[I", true)
  | 14 => ("NobodyBeenAftModel", "now", "[I", true)
  | 15 => ("NobodyBeenAftModel", "then", "[I", true)
  | 16 => ("NobodyBeenAftModel", "tape", "[I", true)
  | 17 => ("NobodyBeenAftModel", "taped", "I", false)
  | 18 => ("NobodyBeenAftModel", "at", "I", false)
  | 19 => ("NobodyBeenAftModel", "to", "I", false)
  | 20 => ("NobodyBeenAftModel", "nest", "I", false)
  | 21 => ("NobodyBeenAftModel", "read", "[I", true)
  | 22 => ("NobodyBeenAftModel", "readMany", "I", false)
  | 23 => ("NobodyBeenAftModel", "code", "[I", true)
  | 24 => ("NobodyBeenAftModel", "readCode", "[I", true)
  | 25 => ("NobodyBeenAftModel", "codeLong", "I", false)
  | 26 => ("NobodyBeenAftModel", "readLong", "I", false)
  | 27 => ("NobodyBeenAftModel", "stack", "[I", true)
  | 28 => ("NobodyBeenAftModel", "asked", "[I", true)
  | 29 => ("NobodyBeenAftModel", "undos", "I", false)
  | 30 => ("NobodyBeenAftModel", "undone", "[I", true)
  | 31 => ("NobodyBeenAftModel", "hitMany", "I", false)
  | 32 => ("NobodyBeenAftModel", "hungryMany", "I", false)
  | 33 => ("NobodyBeenAftModel", "actSign", "[I", true)
  | 34 => ("NobodyBeenAftModel", "actOne", "[I", true)
  | 35 => ("NobodyBeenAftModel", "acts", "I", false)
  | 36 => ("NobodyBeenAftModel", "choice", "[I", true)
  | 37 => ("NobodyBeenAftModel", "least", "[I", true)
  | 38 => ("NobodyBeenAftModel", "leastNext", "[I", true)
  | 39 => ("NobodyBeenAftModel", "up", "J", false)
  | 40 => ("NobodyBeenAftModel", "down", "J", false)
  | 41 => ("NobodyBeenAftModel", "yet", "[I", true)
  | 42 => ("NobodyBeenAftModel", "sights", "I", false)
  | 43 => ("NobodyBeenAftModel", "sightStep", "[I", true)
  | 44 => ("NobodyBeenAftModel", "sightLane", "[I", true)
  | 45 => ("NobodyBeenAftModel", "many", "[I", true)
  | 46 => ("NobodyBeenAftModel", "any", "[Z", true)
  | 47 => ("NobodyBeenAftModel", "reached", "[Z", true)
  | 48 => ("NobodyBeenAftModel", "boyAt", "I", false)
  | 49 => ("NobodyBeenAftModel", "boyWay", "I", false)
  | 50 => ("NobodyBeenAftModel", "isKept", "[Z", true)
  | 51 => ("NobodyBeenAftModel", "keptChanges", "[I", true)
  | _ => ("NobodyBeenAftModel", "kept", "[I", true)
noncomputable def tyX11 : Nat → FieldType := fun k => match k with
  | 0 => .int
  | 1 => .int
  | 2 => .array .long
  | 3 => .int
  | 4 => .int
  | 5 => .int
  | 6 => .int
  | 7 => .int
  | 8 => .int
  | 9 => .array .int
  | 10 => .array .boolean
  | 11 => .array .int
  | 12 => .array .int
  | 13 => .array .int
  | 14 => .array .int
  | 15 => .array .int
  | 16 => .array .int
  | 17 => .int
  | 18 => .int
  | 19 => .int
  | 20 => .int
  | 21 => .array .int
  | 22 => .int
  | 23 => .array .int
  | 24 => .array .int
  | 25 => .int
  | 26 => .int
  | 27 => .array .int
  | 28 => .array .int
  | 29 => .int
  | 30 => .array .int
  | 31 => .int
  | 32 => .int
  | 33 => .array .int
  | 34 => .array .int
  | 35 => .int
  | 36 => .array .int
  | 37 => .array .int
  | 38 => .array .int
  | 39 => .long
  | 40 => .long
  | 41 => .array .int
  | 42 => .int
  | 43 => .array .int
  | 44 => .array .int
  | 45 => .array .int
  | 46 => .array .boolean
  | 47 => .array .boolean
  | 48 => .int
  | 49 => .int
  | 50 => .array .boolean
  | 51 => .array .int
  | _ => .array .int
theorem nmX11 : ∀ a, a < 53 → ∀ b, b < 53 → a ≠ b → (TX11 a).2.1 ≠ (TX11 b).2.1 := by decide +kernel
theorem tyX11_ok : ∀ k, k < 53 → parseFieldDescriptor (TX11 k).2.2.1 = some (tyX11 k) := by decide +kernel
noncomputable abbrev cX11_init : ByteArray := prog_13_method_1_code
noncomputable def yX11_init : MethodName := ⟨RX11, "<init>", "()V"⟩
noncomputable abbrev cX11_thrown : ByteArray := prog_13_method_2_code
noncomputable def yX11_thrown : MethodName := ⟨RX11, "thrown", "()I"⟩
noncomputable abbrev cX11_refuse : ByteArray := prog_13_method_3_code
noncomputable def yX11_refuse : MethodName := ⟨RX11, "refuse", "()I"⟩
noncomputable abbrev cX11_in : ByteArray := prog_13_method_4_code
noncomputable def yX11_in : MethodName := ⟨RX11, "in", "(JJJ)Z"⟩
noncomputable abbrev cX11_has : ByteArray := prog_13_method_5_code
noncomputable def yX11_has : MethodName := ⟨RX11, "has", "(II)Z"⟩
noncomputable abbrev cX11_flag : ByteArray := prog_13_method_6_code
noncomputable def yX11_flag : MethodName := ⟨RX11, "flag", "(Z)I"⟩
noncomputable abbrev cX11_common : ByteArray := prog_13_method_7_code
noncomputable def yX11_common : MethodName := ⟨RX11, "common", "(JJ)J"⟩
noncomputable abbrev cX11_enters : ByteArray := prog_13_method_8_code
noncomputable def yX11_enters : MethodName := ⟨RX11, "enters", "(J)V"⟩
noncomputable abbrev cX11_tellsFraction : ByteArray := prog_13_method_9_code
noncomputable def yX11_tellsFraction : MethodName := ⟨RX11, "tellsFraction", "(JJ)V"⟩
noncomputable abbrev cX11_isMess : ByteArray := prog_13_method_10_code
noncomputable def yX11_isMess : MethodName := ⟨RX11, "isMess", "(I)Z"⟩
noncomputable abbrev cX11_sign : ByteArray := prog_13_method_11_code
noncomputable def yX11_sign : MethodName := ⟨RX11, "sign", "(I)I"⟩
noncomputable abbrev cX11_end : ByteArray := prog_13_method_12_code
noncomputable def yX11_end : MethodName := ⟨RX11, "end", "(I)Z"⟩
noncomputable abbrev cX11_begins : ByteArray := prog_13_method_13_code
noncomputable def yX11_begins : MethodName := ⟨RX11, "begins", "(I)I"⟩
noncomputable abbrev cX11_takes : ByteArray := prog_13_method_14_code
noncomputable def yX11_takes : MethodName := ⟨RX11, "takes", "(I)Z"⟩
noncomputable abbrev cX11_isDigit : ByteArray := prog_13_method_15_code
noncomputable def yX11_isDigit : MethodName := ⟨RX11, "isDigit", "()Z"⟩
noncomputable abbrev cX11_among : ByteArray := prog_13_method_16_code
noncomputable def yX11_among : MethodName := ⟨RX11, "among", "(Ljava/lang/String;)I"⟩
noncomputable abbrev cX11_takesOf : ByteArray := prog_13_method_17_code
noncomputable def yX11_takesOf : MethodName := ⟨RX11, "takesOf", "(Ljava/lang/String;)I"⟩
noncomputable abbrev cX11_number : ByteArray := prog_13_method_18_code
noncomputable def yX11_number : MethodName := ⟨RX11, "number", "(I)I"⟩
noncomputable abbrev cX11_numberIn : ByteArray := prog_13_method_19_code
noncomputable def yX11_numberIn : MethodName := ⟨RX11, "numberIn", "(III)I"⟩
noncomputable abbrev cX11_faultOf : ByteArray := prog_13_method_20_code
noncomputable def yX11_faultOf : MethodName := ⟨RX11, "faultOf", "(IIZ)I"⟩
noncomputable abbrev cX11_ship : ByteArray := prog_13_method_21_code
noncomputable def yX11_ship : MethodName := ⟨RX11, "ship", "()I"⟩
noncomputable abbrev cX11_readsRock : ByteArray := prog_13_method_22_code
noncomputable def yX11_readsRock : MethodName := ⟨RX11, "readsRock", "()Z"⟩
noncomputable abbrev cX11_readsMess : ByteArray := prog_13_method_23_code
noncomputable def yX11_readsMess : MethodName := ⟨RX11, "readsMess", "()Z"⟩
noncomputable abbrev cX11_rocks : ByteArray := prog_13_method_24_code
noncomputable def yX11_rocks : MethodName := ⟨RX11, "rocks", "()I"⟩
noncomputable abbrev cX11_messes : ByteArray := prog_13_method_25_code
noncomputable def yX11_messes : MethodName := ⟨RX11, "messes", "()I"⟩
noncomputable abbrev cX11_codes : ByteArray := prog_13_method_26_code
noncomputable def yX11_codes : MethodName := ⟨RX11, "codes", "(I)V"⟩
noncomputable abbrev cX11_readsThing : ByteArray := prog_13_method_27_code
noncomputable def yX11_readsThing : MethodName := ⟨RX11, "readsThing", "()Z"⟩
noncomputable abbrev cX11_readsRank : ByteArray := prog_13_method_28_code
noncomputable def yX11_readsRank : MethodName := ⟨RX11, "readsRank", "(I)Z"⟩
noncomputable abbrev cX11_rule : ByteArray := prog_13_method_29_code
noncomputable def yX11_rule : MethodName := ⟨RX11, "rule", "()I"⟩
noncomputable abbrev cX11_worked : ByteArray := prog_13_method_30_code
noncomputable def yX11_worked : MethodName := ⟨RX11, "worked", "(III)I"⟩
noncomputable abbrev cX11_ruled : ByteArray := prog_13_method_31_code
noncomputable def yX11_ruled : MethodName := ⟨RX11, "ruled", "()I"⟩
noncomputable abbrev cX11_delayAt : ByteArray := prog_13_method_32_code
noncomputable def yX11_delayAt : MethodName := ⟨RX11, "delayAt", "(I)I"⟩
noncomputable abbrev cX11_turned : ByteArray := prog_13_method_33_code
noncomputable def yX11_turned : MethodName := ⟨RX11, "turned", "(I)I"⟩
noncomputable abbrev cX11_post : ByteArray := prog_13_method_34_code
noncomputable def yX11_post : MethodName := ⟨RX11, "post", "(II)I"⟩
noncomputable abbrev cX11_rock : ByteArray := prog_13_method_35_code
noncomputable def yX11_rock : MethodName := ⟨RX11, "rock", "(II)I"⟩
noncomputable abbrev cX11_mess : ByteArray := prog_13_method_36_code
noncomputable def yX11_mess : MethodName := ⟨RX11, "mess", "(II)I"⟩
noncomputable abbrev cX11_isAhead : ByteArray := prog_13_method_37_code
noncomputable def yX11_isAhead : MethodName := ⟨RX11, "isAhead", "(II)Z"⟩
noncomputable abbrev cX11_way : ByteArray := prog_13_method_38_code
noncomputable def yX11_way : MethodName := ⟨RX11, "way", "(II)I"⟩
noncomputable abbrev cX11_sheet : ByteArray := prog_13_method_39_code
noncomputable def yX11_sheet : MethodName := ⟨RX11, "sheet", "(IIII)I"⟩
noncomputable abbrev cX11_putsBy : ByteArray := prog_13_method_40_code
noncomputable def yX11_putsBy : MethodName := ⟨RX11, "putsBy", "()V"⟩
noncomputable abbrev cX11_adds : ByteArray := prog_13_method_41_code
noncomputable def yX11_adds : MethodName := ⟨RX11, "adds", "(I)I"⟩
noncomputable abbrev cX11_counts : ByteArray := prog_13_method_42_code
noncomputable def yX11_counts : MethodName := ⟨RX11, "counts", "(I)I"⟩
noncomputable abbrev cX11_undo : ByteArray := prog_13_method_43_code
noncomputable def yX11_undo : MethodName := ⟨RX11, "undo", "()I"⟩
noncomputable abbrev cX11_put : ByteArray := prog_13_method_44_code
noncomputable def yX11_put : MethodName := ⟨RX11, "put", "(I)I"⟩
noncomputable abbrev cX11_doesDue : ByteArray := prog_13_method_45_code
noncomputable def yX11_doesDue : MethodName := ⟨RX11, "doesDue", "([I)V"⟩
noncomputable abbrev cX11_hitsAt : ByteArray := prog_13_method_46_code
noncomputable def yX11_hitsAt : MethodName := ⟨RX11, "hitsAt", "(II)I"⟩
noncomputable abbrev cX11_stepGoes : ByteArray := prog_13_method_47_code
noncomputable def yX11_stepGoes : MethodName := ⟨RX11, "stepGoes", "([I)V"⟩
noncomputable abbrev cX11_gives : ByteArray := prog_13_method_48_code
noncomputable def yX11_gives : MethodName := ⟨RX11, "gives", "([II)I"⟩
noncomputable abbrev cX11_passes : ByteArray := prog_13_method_49_code
noncomputable def yX11_passes : MethodName := ⟨RX11, "passes", "(III)I"⟩
noncomputable abbrev cX11_cooks : ByteArray := prog_13_method_50_code
noncomputable def yX11_cooks : MethodName := ⟨RX11, "cooks", "(II)I"⟩
noncomputable abbrev cX11_delay : ByteArray := prog_13_method_51_code
noncomputable def yX11_delay : MethodName := ⟨RX11, "delay", "()I"⟩
noncomputable abbrev cX11_order : ByteArray := prog_13_method_52_code
noncomputable def yX11_order : MethodName := ⟨RX11, "order", "(I)I"⟩
noncomputable abbrev cX11_pass : ByteArray := prog_13_method_53_code
noncomputable def yX11_pass : MethodName := ⟨RX11, "pass", "(III)I"⟩
noncomputable abbrev cX11_cook : ByteArray := prog_13_method_54_code
noncomputable def yX11_cook : MethodName := ⟨RX11, "cook", "(II)I"⟩
noncomputable abbrev cX11_startsCounting : ByteArray := prog_13_method_55_code
noncomputable def yX11_startsCounting : MethodName := ⟨RX11, "startsCounting", "()V"⟩
noncomputable abbrev cX11_steps : ByteArray := prog_13_method_56_code
noncomputable def yX11_steps : MethodName := ⟨RX11, "steps", "(I)I"⟩
noncomputable abbrev cX11_readsAct : ByteArray := prog_13_method_57_code
noncomputable def yX11_readsAct : MethodName := ⟨RX11, "readsAct", "()Z"⟩
noncomputable abbrev cX11_does : ByteArray := prog_13_method_58_code
noncomputable def yX11_does : MethodName := ⟨RX11, "does", "(I)Z"⟩
noncomputable abbrev cX11_voyage : ByteArray := prog_13_method_59_code
noncomputable def yX11_voyage : MethodName := ⟨RX11, "voyage", "()I"⟩
noncomputable abbrev cX11_puts : ByteArray := prog_13_method_60_code
noncomputable def yX11_puts : MethodName := ⟨RX11, "puts", "()V"⟩
noncomputable abbrev cX11_lane : ByteArray := prog_13_method_61_code
noncomputable def yX11_lane : MethodName := ⟨RX11, "lane", "(I)I"⟩
noncomputable abbrev cX11_strikes : ByteArray := prog_13_method_62_code
noncomputable def yX11_strikes : MethodName := ⟨RX11, "strikes", "()I"⟩
noncomputable abbrev cX11_moved : ByteArray := prog_13_method_63_code
noncomputable def yX11_moved : MethodName := ⟨RX11, "moved", "(II)I"⟩
noncomputable abbrev cX11_movedByDue : ByteArray := prog_13_method_64_code
noncomputable def yX11_movedByDue : MethodName := ⟨RX11, "movedByDue", "(II)I"⟩
noncomputable abbrev cX11_mayGive : ByteArray := prog_13_method_65_code
noncomputable def yX11_mayGive : MethodName := ⟨RX11, "mayGive", "(I)Z"⟩
noncomputable abbrev cX11_comesAt : ByteArray := prog_13_method_66_code
noncomputable def yX11_comesAt : MethodName := ⟨RX11, "comesAt", "(II)Z"⟩
noncomputable abbrev cX11_clears : ByteArray := prog_13_method_67_code
noncomputable def yX11_clears : MethodName := ⟨RX11, "clears", "()I"⟩
noncomputable abbrev cX11_goesBy : ByteArray := prog_13_method_68_code
noncomputable def yX11_goesBy : MethodName := ⟨RX11, "goesBy", "(IZ)V"⟩
noncomputable abbrev cX11_laysLeast : ByteArray := prog_13_method_69_code
noncomputable def yX11_laysLeast : MethodName := ⟨RX11, "laysLeast", "(I)V"⟩
noncomputable abbrev cX11_fewestOrders : ByteArray := prog_13_method_70_code
noncomputable def yX11_fewestOrders : MethodName := ⟨RX11, "fewestOrders", "(I)I"⟩
noncomputable abbrev cX11_choosesAny : ByteArray := prog_13_method_71_code
noncomputable def yX11_choosesAny : MethodName := ⟨RX11, "choosesAny", "(I)V"⟩
noncomputable abbrev cX11_plan : ByteArray := prog_13_method_72_code
noncomputable def yX11_plan : MethodName := ⟨RX11, "plan", "(I)I"⟩
noncomputable abbrev cX11_latest : ByteArray := prog_13_method_73_code
noncomputable def yX11_latest : MethodName := ⟨RX11, "latest", "(I)I"⟩
noncomputable abbrev cX11_lanes : ByteArray := prog_13_method_74_code
noncomputable def yX11_lanes : MethodName := ⟨RX11, "lanes", "(I)I"⟩
noncomputable abbrev cX11_rocksIn : ByteArray := prog_13_method_75_code
noncomputable def yX11_rocksIn : MethodName := ⟨RX11, "rocksIn", "(II)I"⟩
noncomputable abbrev cX11_safest : ByteArray := prog_13_method_76_code
noncomputable def yX11_safest : MethodName := ⟨RX11, "safest", "(I)I"⟩
noncomputable abbrev cX11_late : ByteArray := prog_13_method_77_code
noncomputable def yX11_late : MethodName := ⟨RX11, "late", "(I)I"⟩
noncomputable abbrev cX11_comes : ByteArray := prog_13_method_78_code
noncomputable def yX11_comes : MethodName := ⟨RX11, "comes", "(I)I"⟩
noncomputable abbrev cX11_postsFor : ByteArray := prog_13_method_79_code
noncomputable def yX11_postsFor : MethodName := ⟨RX11, "postsFor", "(I)I"⟩
noncomputable abbrev cX11_relay : ByteArray := prog_13_method_80_code
noncomputable def yX11_relay : MethodName := ⟨RX11, "relay", "(I)I"⟩
noncomputable abbrev cX11_fewest : ByteArray := prog_13_method_81_code
noncomputable def yX11_fewest : MethodName := ⟨RX11, "fewest", "(I)I"⟩
noncomputable abbrev cX11_bets : ByteArray := prog_13_method_82_code
noncomputable def yX11_bets : MethodName := ⟨RX11, "bets", "(II)V"⟩
noncomputable abbrev cX11_word : ByteArray := prog_13_method_83_code
noncomputable def yX11_word : MethodName := ⟨RX11, "word", "(II)I"⟩
noncomputable abbrev cX11_survives : ByteArray := prog_13_method_84_code
noncomputable def yX11_survives : MethodName := ⟨RX11, "survives", "(II)I"⟩
noncomputable abbrev cX11_lastsFor : ByteArray := prog_13_method_85_code
noncomputable def yX11_lastsFor : MethodName := ⟨RX11, "lastsFor", "(II)I"⟩
noncomputable abbrev cX11_lives : ByteArray := prog_13_method_86_code
noncomputable def yX11_lives : MethodName := ⟨RX11, "lives", "(I)I"⟩
noncomputable abbrev cX11_spare : ByteArray := prog_13_method_87_code
noncomputable def yX11_spare : MethodName := ⟨RX11, "spare", "(II)I"⟩
noncomputable abbrev cX11_laysFlows : ByteArray := prog_13_method_88_code
noncomputable def yX11_laysFlows : MethodName := ⟨RX11, "laysFlows", "(I)V"⟩
noncomputable abbrev cX11_flow : ByteArray := prog_13_method_89_code
noncomputable def yX11_flow : MethodName := ⟨RX11, "flow", "(II)I"⟩
noncomputable abbrev cX11_shares : ByteArray := prog_13_method_90_code
noncomputable def yX11_shares : MethodName := ⟨RX11, "shares", "(I)I"⟩
noncomputable abbrev cX11_fast : ByteArray := prog_13_method_91_code
noncomputable def yX11_fast : MethodName := ⟨RX11, "fast", "(I)I"⟩
noncomputable abbrev cX11_seenIn : ByteArray := prog_13_method_92_code
noncomputable def yX11_seenIn : MethodName := ⟨RX11, "seenIn", "(I)I"⟩
noncomputable abbrev cX11_seen : ByteArray := prog_13_method_93_code
noncomputable def yX11_seen : MethodName := ⟨RX11, "seen", "(II)I"⟩
noncomputable abbrev cX11_forget : ByteArray := prog_13_method_94_code
noncomputable def yX11_forget : MethodName := ⟨RX11, "forget", "()I"⟩
noncomputable abbrev cX11_lastSeen : ByteArray := prog_13_method_95_code
noncomputable def yX11_lastSeen : MethodName := ⟨RX11, "lastSeen", "()I"⟩
noncomputable abbrev cX11_isFine : ByteArray := prog_13_method_96_code
noncomputable def yX11_isFine : MethodName := ⟨RX11, "isFine", "(II)Z"⟩
noncomputable abbrev cX11_laysSeen : ByteArray := prog_13_method_97_code
noncomputable def yX11_laysSeen : MethodName := ⟨RX11, "laysSeen", "(I)V"⟩
noncomputable abbrev cX11_ordered : ByteArray := prog_13_method_98_code
noncomputable def yX11_ordered : MethodName := ⟨RX11, "ordered", "()I"⟩
noncomputable abbrev cX11_unsure : ByteArray := prog_13_method_99_code
noncomputable def yX11_unsure : MethodName := ⟨RX11, "unsure", "()I"⟩
noncomputable abbrev cX11_boyBegins : ByteArray := prog_13_method_100_code
noncomputable def yX11_boyBegins : MethodName := ⟨RX11, "boyBegins", "(II)V"⟩
noncomputable abbrev cX11_boyGoes : ByteArray := prog_13_method_101_code
noncomputable def yX11_boyGoes : MethodName := ⟨RX11, "boyGoes", "()V"⟩
noncomputable abbrev cX11_canRest : ByteArray := prog_13_method_102_code
noncomputable def yX11_canRest : MethodName := ⟨RX11, "canRest", "(I)Z"⟩
noncomputable abbrev cX11_boy : ByteArray := prog_13_method_103_code
noncomputable def yX11_boy : MethodName := ⟨RX11, "boy", "(II)I"⟩
noncomputable abbrev cX11_meets : ByteArray := prog_13_method_104_code
noncomputable def yX11_meets : MethodName := ⟨RX11, "meets", "(I)I"⟩
noncomputable abbrev cX11_knows : ByteArray := prog_13_method_105_code
noncomputable def yX11_knows : MethodName := ⟨RX11, "knows", "(II)I"⟩
noncomputable abbrev cX11_keeps : ByteArray := prog_13_method_106_code
noncomputable def yX11_keeps : MethodName := ⟨RX11, "keeps", "(IIII)I"⟩
noncomputable abbrev cX11_isRest : ByteArray := prog_13_method_107_code
noncomputable def yX11_isRest : MethodName := ⟨RX11, "isRest", "(IIII)Z"⟩
noncomputable abbrev cX11_mutiny : ByteArray := prog_13_method_108_code
noncomputable def yX11_mutiny : MethodName := ⟨RX11, "mutiny", "(III)I"⟩
noncomputable abbrev cX11_chance : ByteArray := prog_13_method_109_code
noncomputable def yX11_chance : MethodName := ⟨RX11, "chance", "(III)I"⟩
noncomputable abbrev cX11_voyages : ByteArray := prog_13_method_110_code
noncomputable def yX11_voyages : MethodName := ⟨RX11, "voyages", "(II)I"⟩
noncomputable abbrev cX11_keep : ByteArray := prog_13_method_111_code
noncomputable def yX11_keep : MethodName := ⟨RX11, "keep", "(I)Z"⟩
noncomputable abbrev cX11_again : ByteArray := prog_13_method_112_code
noncomputable def yX11_again : MethodName := ⟨RX11, "again", "(I)Z"⟩
noncomputable abbrev cX11_count : ByteArray := prog_13_method_113_code
noncomputable def yX11_count : MethodName := ⟨RX11, "count", "(I)I"⟩
noncomputable abbrev cX11_row : ByteArray := prog_13_method_114_code
noncomputable def yX11_row : MethodName := ⟨RX11, "row", "(I)J"⟩
noncomputable def RJ6 : String := "java/lang/Integer"
noncomputable abbrev cJ6_bitCount_0f7a4 : ByteArray := prog_18_method_49_code
noncomputable def yJ6_bitCount_0f7a4 : MethodName := ⟨RJ6, "bitCount", "(I)I"⟩
noncomputable def RJ0 : String := "java/lang/String"
noncomputable abbrev cJ0_length_8abf5 : ByteArray := prog_21_method_54_code
noncomputable def yJ0_length_8abf5 : MethodName := ⟨RJ0, "length", "()I"⟩
noncomputable abbrev cJ0_charAt_5068e : ByteArray := prog_21_method_56_code
noncomputable def yJ0_charAt_5068e : MethodName := ⟨RJ0, "charAt", "(I)C"⟩
noncomputable abbrev cJ0_coder_7d493 : ByteArray := prog_21_method_152_code
noncomputable def yJ0_coder_7d493 : MethodName := ⟨RJ0, "coder", "()B"⟩
noncomputable abbrev cJ0_isLatin1_aae02 : ByteArray := prog_21_method_154_code
noncomputable def yJ0_isLatin1_aae02 : MethodName := ⟨RJ0, "isLatin1", "()Z"⟩
noncomputable abbrev cJ0_checkIndex_df160 : ByteArray := prog_21_method_155_code
noncomputable def yJ0_checkIndex_df160 : MethodName := ⟨RJ0, "checkIndex", "(II)V"⟩
noncomputable def RJ1 : String := "java/lang/StringLatin1"
noncomputable abbrev cJ1_charAt_3b067 : ByteArray := prog_22_method_2_code
noncomputable def yJ1_charAt_3b067 : MethodName := ⟨RJ1, "charAt", "([BI)C"⟩
noncomputable def RJ7 : String := "java/util/Arrays"
noncomputable abbrev cJ7_fill_53178 : ByteArray := prog_28_method_103_code
noncomputable def yJ7_fill_53178 : MethodName := ⟨RJ7, "fill", "([II)V"⟩
noncomputable def RJ3 : String := "jdk/internal/util/Preconditions"
noncomputable abbrev cJ3_checkIndex_8e157 : ByteArray := prog_30_method_11_code
noncomputable def yJ3_checkIndex_8e157 : MethodName := ⟨RJ3, "checkIndex", "(IILjava/util/function/BiFunction;)I"⟩
noncomputable def RL : String := "NobodyBeenAftLaw"
noncomputable abbrev cL_post : ByteArray := method_3_code
noncomputable def yL_post : MethodName := ⟨RL, "post", "(LNobodyBeenAft;II[J)I"⟩
noncomputable abbrev cL_rock : ByteArray := method_4_code
noncomputable def yL_rock : MethodName := ⟨RL, "rock", "(LNobodyBeenAft;II[J)I"⟩
noncomputable abbrev cL_mess : ByteArray := method_5_code
noncomputable def yL_mess : MethodName := ⟨RL, "mess", "(LNobodyBeenAft;II[J)I"⟩
noncomputable abbrev cL_way : ByteArray := method_6_code
noncomputable def yL_way : MethodName := ⟨RL, "way", "(LNobodyBeenAft;II[J)I"⟩
noncomputable abbrev cL_row : ByteArray := method_7_code
noncomputable def yL_row : MethodName := ⟨RL, "row", "(LNobodyBeenAft;I[J)I"⟩
noncomputable abbrev vwCl : List vw_C := [(RX0, TX0, 6), (RX1, TX1, 5), (RX2, TX2, 3), (RX3, TX3, 2), (RX4, TX4, 4), (RX5, TX5, 5), (RX6, TX6, 5), (RX7, TX7, 3), (RX8, TX8, 9), (RX9, TX9, 6), (RX10, TX10, 17), (RX11, TX11, 53)]
end
