section
-- ===== PART A: goes FIRST, ahead of the names: the tables' words, and 'selects' of the private methods out of them =====
/-- a private method of a class that the tables say can be made, by its rows of tables_1 -/
def lw_okq (q : MethodName × Nat) : Prop := (q.1.cls ≠ "java/lang/invoke/MethodHandle" ∧ q.1.cls ≠ "java/lang/invoke/VarHandle") ∧ Cond.instantiable q.1.cls q.2 ∈ tables_1 ∧ Cond.privateMethod q.1 ∈ tables_1 ∧ Cond.instanceMethod q.1 ∈ tables_1
theorem lw_p0 : lw_okq (⟨"NobodyBeenAft$Ship", "addPost", "(II)V"⟩, 5) := ⟨⟨by decide +kernel, by decide +kernel⟩, List.mem_of_getElem? (i := 82) (by decide +kernel), List.mem_of_getElem? (i := 406) (by decide +kernel), List.mem_of_getElem? (i := 407) (by decide +kernel)⟩
theorem lw_p1 : lw_okq (⟨"NobodyBeenAft", "readMesses", "()I"⟩, 17) := ⟨⟨by decide +kernel, by decide +kernel⟩, List.mem_of_getElem? (i := 26) (by decide +kernel), List.mem_of_getElem? (i := 431) (by decide +kernel), List.mem_of_getElem? (i := 432) (by decide +kernel)⟩
theorem lw_p2 : lw_okq (⟨"NobodyBeenAft$RuleReader", "takeThing", "(LNobodyBeenAft$Text;LNobodyBeenAft$Rule;)Z"⟩, 5) := ⟨⟨by decide +kernel, by decide +kernel⟩, List.mem_of_getElem? (i := 134) (by decide +kernel), List.mem_of_getElem? (i := 452) (by decide +kernel), List.mem_of_getElem? (i := 453) (by decide +kernel)⟩
theorem lw_p3 : lw_okq (⟨"NobodyBeenAft$RuleReader", "hold", "(I)V"⟩, 5) := ⟨⟨by decide +kernel, by decide +kernel⟩, List.mem_of_getElem? (i := 134) (by decide +kernel), List.mem_of_getElem? (i := 463) (by decide +kernel), List.mem_of_getElem? (i := 464) (by decide +kernel)⟩
theorem lw_p4 : lw_okq (⟨"NobodyBeenAft$RuleReader", "takeOperator", "(LNobodyBeenAft$Text;LNobodyBeenAft$Rule;)Z"⟩, 5) := ⟨⟨by decide +kernel, by decide +kernel⟩, List.mem_of_getElem? (i := 134) (by decide +kernel), List.mem_of_getElem? (i := 467) (by decide +kernel), List.mem_of_getElem? (i := 468) (by decide +kernel)⟩
theorem lw_p5 : lw_okq (⟨"NobodyBeenAft$RuleReader", "release", "(ILNobodyBeenAft$Rule;)V"⟩, 5) := ⟨⟨by decide +kernel, by decide +kernel⟩, List.mem_of_getElem? (i := 134) (by decide +kernel), List.mem_of_getElem? (i := 474) (by decide +kernel), List.mem_of_getElem? (i := 475) (by decide +kernel)⟩
theorem lw_p6 : lw_okq (⟨"NobodyBeenAft", "delayAt", "(I)I"⟩, 17) := ⟨⟨by decide +kernel, by decide +kernel⟩, List.mem_of_getElem? (i := 26) (by decide +kernel), List.mem_of_getElem? (i := 497) (by decide +kernel), List.mem_of_getElem? (i := 498) (by decide +kernel)⟩
theorem lw_p7 : lw_okq (⟨"NobodyBeenAft$Rule", "push", "(I)V"⟩, 4) := ⟨⟨by decide +kernel, by decide +kernel⟩, List.mem_of_getElem? (i := 113) (by decide +kernel), List.mem_of_getElem? (i := 505) (by decide +kernel), List.mem_of_getElem? (i := 506) (by decide +kernel)⟩
theorem lw_p8 : lw_okq (⟨"NobodyBeenAft$Rule", "pop", "()I"⟩, 4) := ⟨⟨by decide +kernel, by decide +kernel⟩, List.mem_of_getElem? (i := 113) (by decide +kernel), List.mem_of_getElem? (i := 509) (by decide +kernel), List.mem_of_getElem? (i := 510) (by decide +kernel)⟩
theorem lw_p9 : lw_okq (⟨"NobodyBeenAft", "orderRefusal", "()I"⟩, 17) := ⟨⟨by decide +kernel, by decide +kernel⟩, List.mem_of_getElem? (i := 26) (by decide +kernel), List.mem_of_getElem? (i := 524) (by decide +kernel), List.mem_of_getElem? (i := 525) (by decide +kernel)⟩
theorem lw_p10 : lw_okq (⟨"NobodyBeenAft", "giveOrder", "(I)I"⟩, 17) := ⟨⟨by decide +kernel, by decide +kernel⟩, List.mem_of_getElem? (i := 26) (by decide +kernel), List.mem_of_getElem? (i := 543) (by decide +kernel), List.mem_of_getElem? (i := 544) (by decide +kernel)⟩
theorem lw_p11 : lw_okq (⟨"NobodyBeenAft", "passRefusal", "(III)I"⟩, 17) := ⟨⟨by decide +kernel, by decide +kernel⟩, List.mem_of_getElem? (i := 26) (by decide +kernel), List.mem_of_getElem? (i := 555) (by decide +kernel), List.mem_of_getElem? (i := 556) (by decide +kernel)⟩
theorem lw_p12 : lw_okq (⟨"NobodyBeenAft", "moveFood", "(III)V"⟩, 17) := ⟨⟨by decide +kernel, by decide +kernel⟩, List.mem_of_getElem? (i := 26) (by decide +kernel), List.mem_of_getElem? (i := 559) (by decide +kernel), List.mem_of_getElem? (i := 560) (by decide +kernel)⟩
theorem lw_p13 : lw_okq (⟨"NobodyBeenAft", "goStep", "()I"⟩, 17) := ⟨⟨by decide +kernel, by decide +kernel⟩, List.mem_of_getElem? (i := 26) (by decide +kernel), List.mem_of_getElem? (i := 571) (by decide +kernel), List.mem_of_getElem? (i := 572) (by decide +kernel)⟩
theorem lw_p14 : lw_okq (⟨"NobodyBeenAft", "voyageFault", "()I"⟩, 17) := ⟨⟨by decide +kernel, by decide +kernel⟩, List.mem_of_getElem? (i := 26) (by decide +kernel), List.mem_of_getElem? (i := 602) (by decide +kernel), List.mem_of_getElem? (i := 603) (by decide +kernel)⟩
theorem lw_p15 : lw_okq (⟨"NobodyBeenAft", "doVoyageSign", "()Z"⟩, 17) := ⟨⟨by decide +kernel, by decide +kernel⟩, List.mem_of_getElem? (i := 26) (by decide +kernel), List.mem_of_getElem? (i := 609) (by decide +kernel), List.mem_of_getElem? (i := 610) (by decide +kernel)⟩
def lw_privs_1 : List (MethodName × Nat) := [(⟨"NobodyBeenAft$Ship", "addPost", "(II)V"⟩, 5), (⟨"NobodyBeenAft", "readMesses", "()I"⟩, 17), (⟨"NobodyBeenAft$RuleReader", "takeThing", "(LNobodyBeenAft$Text;LNobodyBeenAft$Rule;)Z"⟩, 5), (⟨"NobodyBeenAft$RuleReader", "hold", "(I)V"⟩, 5), (⟨"NobodyBeenAft$RuleReader", "takeOperator", "(LNobodyBeenAft$Text;LNobodyBeenAft$Rule;)Z"⟩, 5), (⟨"NobodyBeenAft$RuleReader", "release", "(ILNobodyBeenAft$Rule;)V"⟩, 5), (⟨"NobodyBeenAft", "delayAt", "(I)I"⟩, 17), (⟨"NobodyBeenAft$Rule", "push", "(I)V"⟩, 4), (⟨"NobodyBeenAft$Rule", "pop", "()I"⟩, 4), (⟨"NobodyBeenAft", "orderRefusal", "()I"⟩, 17), (⟨"NobodyBeenAft", "giveOrder", "(I)I"⟩, 17), (⟨"NobodyBeenAft", "passRefusal", "(III)I"⟩, 17), (⟨"NobodyBeenAft", "moveFood", "(III)V"⟩, 17), (⟨"NobodyBeenAft", "goStep", "()I"⟩, 17), (⟨"NobodyBeenAft", "voyageFault", "()I"⟩, 17), (⟨"NobodyBeenAft", "doVoyageSign", "()Z"⟩, 17)]
theorem lw_r1 : ∀ q ∈ lw_privs_1, lw_okq q := List.forall_mem_cons.mpr ⟨lw_p0, List.forall_mem_cons.mpr ⟨lw_p1, List.forall_mem_cons.mpr ⟨lw_p2, List.forall_mem_cons.mpr ⟨lw_p3, List.forall_mem_cons.mpr ⟨lw_p4, List.forall_mem_cons.mpr ⟨lw_p5, List.forall_mem_cons.mpr ⟨lw_p6, List.forall_mem_cons.mpr ⟨lw_p7, List.forall_mem_cons.mpr ⟨lw_p8, List.forall_mem_cons.mpr ⟨lw_p9, List.forall_mem_cons.mpr ⟨lw_p10, List.forall_mem_cons.mpr ⟨lw_p11, List.forall_mem_cons.mpr ⟨lw_p12, List.forall_mem_cons.mpr ⟨lw_p13, List.forall_mem_cons.mpr ⟨lw_p14, List.forall_mem_cons.mpr ⟨lw_p15, fun _ h => absurd h List.not_mem_nil⟩⟩⟩⟩⟩⟩⟩⟩⟩⟩⟩⟩⟩⟩⟩⟩
theorem lw_p16 : lw_okq (⟨"NobodyBeenAft", "lookAhead", "()V"⟩, 17) := ⟨⟨by decide +kernel, by decide +kernel⟩, List.mem_of_getElem? (i := 26) (by decide +kernel), List.mem_of_getElem? (i := 641) (by decide +kernel), List.mem_of_getElem? (i := 642) (by decide +kernel)⟩
theorem lw_p17 : lw_okq (⟨"NobodyBeenAft", "firstFree", "()I"⟩, 17) := ⟨⟨by decide +kernel, by decide +kernel⟩, List.mem_of_getElem? (i := 26) (by decide +kernel), List.mem_of_getElem? (i := 646) (by decide +kernel), List.mem_of_getElem? (i := 647) (by decide +kernel)⟩
theorem lw_p18 : lw_okq (⟨"NobodyBeenAft$Outlook", "moveCosts", "(I)V"⟩, 6) := ⟨⟨by decide +kernel, by decide +kernel⟩, List.mem_of_getElem? (i := 251) (by decide +kernel), List.mem_of_getElem? (i := 674) (by decide +kernel), List.mem_of_getElem? (i := 675) (by decide +kernel)⟩
theorem lw_p19 : lw_okq (⟨"NobodyBeenAft$Outlook", "doChosen", "(I)V"⟩, 6) := ⟨⟨by decide +kernel, by decide +kernel⟩, List.mem_of_getElem? (i := 251) (by decide +kernel), List.mem_of_getElem? (i := 680) (by decide +kernel), List.mem_of_getElem? (i := 681) (by decide +kernel)⟩
theorem lw_p20 : lw_okq (⟨"NobodyBeenAft$Outlook", "leastChoice", "(LNobodyBeenAft$State;III)I"⟩, 6) := ⟨⟨by decide +kernel, by decide +kernel⟩, List.mem_of_getElem? (i := 251) (by decide +kernel), List.mem_of_getElem? (i := 688) (by decide +kernel), List.mem_of_getElem? (i := 689) (by decide +kernel)⟩
theorem lw_p21 : lw_okq (⟨"NobodyBeenAft", "rocksInLane", "(II)I"⟩, 17) := ⟨⟨by decide +kernel, by decide +kernel⟩, List.mem_of_getElem? (i := 26) (by decide +kernel), List.mem_of_getElem? (i := 713) (by decide +kernel), List.mem_of_getElem? (i := 714) (by decide +kernel)⟩
theorem lw_p22 : lw_okq (⟨"NobodyBeenAft", "apart", "(I)I"⟩, 17) := ⟨⟨by decide +kernel, by decide +kernel⟩, List.mem_of_getElem? (i := 26) (by decide +kernel), List.mem_of_getElem? (i := 717) (by decide +kernel), List.mem_of_getElem? (i := 718) (by decide +kernel)⟩
theorem lw_p23 : lw_okq (⟨"NobodyBeenAft", "lastsFor", "(II)I"⟩, 17) := ⟨⟨by decide +kernel, by decide +kernel⟩, List.mem_of_getElem? (i := 26) (by decide +kernel), List.mem_of_getElem? (i := 770) (by decide +kernel), List.mem_of_getElem? (i := 771) (by decide +kernel)⟩
theorem lw_p24 : lw_okq (⟨"NobodyBeenAft", "weighPassing", "()V"⟩, 17) := ⟨⟨by decide +kernel, by decide +kernel⟩, List.mem_of_getElem? (i := 26) (by decide +kernel), List.mem_of_getElem? (i := 778) (by decide +kernel), List.mem_of_getElem? (i := 779) (by decide +kernel)⟩
theorem lw_p25 : lw_okq (⟨"NobodyBeenAft", "leastPassing", "(II)I"⟩, 17) := ⟨⟨by decide +kernel, by decide +kernel⟩, List.mem_of_getElem? (i := 26) (by decide +kernel), List.mem_of_getElem? (i := 782) (by decide +kernel), List.mem_of_getElem? (i := 783) (by decide +kernel)⟩
theorem lw_p26 : lw_okq (⟨"NobodyBeenAft", "choosePassing", "()I"⟩, 17) := ⟨⟨by decide +kernel, by decide +kernel⟩, List.mem_of_getElem? (i := 26) (by decide +kernel), List.mem_of_getElem? (i := 787) (by decide +kernel), List.mem_of_getElem? (i := 788) (by decide +kernel)⟩
theorem lw_p27 : lw_okq (⟨"NobodyBeenAft", "foodLeft", "(II)I"⟩, 17) := ⟨⟨by decide +kernel, by decide +kernel⟩, List.mem_of_getElem? (i := 26) (by decide +kernel), List.mem_of_getElem? (i := 795) (by decide +kernel), List.mem_of_getElem? (i := 796) (by decide +kernel)⟩
theorem lw_p28 : lw_okq (⟨"NobodyBeenAft$Sightings", "waysBehind", "(II)J"⟩, 3) := ⟨⟨by decide +kernel, by decide +kernel⟩, List.mem_of_getElem? (i := 281) (by decide +kernel), List.mem_of_getElem? (i := 823) (by decide +kernel), List.mem_of_getElem? (i := 824) (by decide +kernel)⟩
theorem lw_p29 : lw_okq (⟨"NobodyBeenAft", "lap", "()I"⟩, 17) := ⟨⟨by decide +kernel, by decide +kernel⟩, List.mem_of_getElem? (i := 26) (by decide +kernel), List.mem_of_getElem? (i := 847) (by decide +kernel), List.mem_of_getElem? (i := 848) (by decide +kernel)⟩
theorem lw_p30 : lw_okq (⟨"NobodyBeenAft", "cellAfter", "(I)I"⟩, 17) := ⟨⟨by decide +kernel, by decide +kernel⟩, List.mem_of_getElem? (i := 26) (by decide +kernel), List.mem_of_getElem? (i := 852) (by decide +kernel), List.mem_of_getElem? (i := 853) (by decide +kernel)⟩
theorem lw_p31 : lw_okq (⟨"java/lang/Throwable", "fillInStackTrace", "(I)Ljava/lang/Throwable;"⟩, 6) := ⟨⟨by decide +kernel, by decide +kernel⟩, List.mem_of_getElem? (i := 939) (by decide +kernel), List.mem_of_getElem? (i := 937) (by decide +kernel), List.mem_of_getElem? (i := 938) (by decide +kernel)⟩
def lw_privs_2 : List (MethodName × Nat) := [(⟨"NobodyBeenAft", "lookAhead", "()V"⟩, 17), (⟨"NobodyBeenAft", "firstFree", "()I"⟩, 17), (⟨"NobodyBeenAft$Outlook", "moveCosts", "(I)V"⟩, 6), (⟨"NobodyBeenAft$Outlook", "doChosen", "(I)V"⟩, 6), (⟨"NobodyBeenAft$Outlook", "leastChoice", "(LNobodyBeenAft$State;III)I"⟩, 6), (⟨"NobodyBeenAft", "rocksInLane", "(II)I"⟩, 17), (⟨"NobodyBeenAft", "apart", "(I)I"⟩, 17), (⟨"NobodyBeenAft", "lastsFor", "(II)I"⟩, 17), (⟨"NobodyBeenAft", "weighPassing", "()V"⟩, 17), (⟨"NobodyBeenAft", "leastPassing", "(II)I"⟩, 17), (⟨"NobodyBeenAft", "choosePassing", "()I"⟩, 17), (⟨"NobodyBeenAft", "foodLeft", "(II)I"⟩, 17), (⟨"NobodyBeenAft$Sightings", "waysBehind", "(II)J"⟩, 3), (⟨"NobodyBeenAft", "lap", "()I"⟩, 17), (⟨"NobodyBeenAft", "cellAfter", "(I)I"⟩, 17), (⟨"java/lang/Throwable", "fillInStackTrace", "(I)Ljava/lang/Throwable;"⟩, 6)]
theorem lw_r2 : ∀ q ∈ lw_privs_2, lw_okq q := List.forall_mem_cons.mpr ⟨lw_p16, List.forall_mem_cons.mpr ⟨lw_p17, List.forall_mem_cons.mpr ⟨lw_p18, List.forall_mem_cons.mpr ⟨lw_p19, List.forall_mem_cons.mpr ⟨lw_p20, List.forall_mem_cons.mpr ⟨lw_p21, List.forall_mem_cons.mpr ⟨lw_p22, List.forall_mem_cons.mpr ⟨lw_p23, List.forall_mem_cons.mpr ⟨lw_p24, List.forall_mem_cons.mpr ⟨lw_p25, List.forall_mem_cons.mpr ⟨lw_p26, List.forall_mem_cons.mpr ⟨lw_p27, List.forall_mem_cons.mpr ⟨lw_p28, List.forall_mem_cons.mpr ⟨lw_p29, List.forall_mem_cons.mpr ⟨lw_p30, List.forall_mem_cons.mpr ⟨lw_p31, fun _ h => absurd h List.not_mem_nil⟩⟩⟩⟩⟩⟩⟩⟩⟩⟩⟩⟩⟩⟩⟩⟩
theorem lw_p32 : lw_okq (⟨"NobodyBeenAftModel", "begins", "(I)I"⟩, 53) := ⟨⟨by decide +kernel, by decide +kernel⟩, List.mem_of_getElem? (i := 992) (by decide +kernel), List.mem_of_getElem? (i := 1173) (by decide +kernel), List.mem_of_getElem? (i := 1174) (by decide +kernel)⟩
theorem lw_p33 : lw_okq (⟨"NobodyBeenAftModel", "numberIn", "(III)I"⟩, 53) := ⟨⟨by decide +kernel, by decide +kernel⟩, List.mem_of_getElem? (i := 992) (by decide +kernel), List.mem_of_getElem? (i := 1178) (by decide +kernel), List.mem_of_getElem? (i := 1179) (by decide +kernel)⟩
theorem lw_p34 : lw_okq (⟨"NobodyBeenAftModel", "number", "(I)I"⟩, 53) := ⟨⟨by decide +kernel, by decide +kernel⟩, List.mem_of_getElem? (i := 992) (by decide +kernel), List.mem_of_getElem? (i := 1182) (by decide +kernel), List.mem_of_getElem? (i := 1183) (by decide +kernel)⟩
theorem lw_p35 : lw_okq (⟨"NobodyBeenAftModel", "isDigit", "()Z"⟩, 53) := ⟨⟨by decide +kernel, by decide +kernel⟩, List.mem_of_getElem? (i := 992) (by decide +kernel), List.mem_of_getElem? (i := 1186) (by decide +kernel), List.mem_of_getElem? (i := 1187) (by decide +kernel)⟩
theorem lw_p36 : lw_okq (⟨"NobodyBeenAftModel", "takes", "(I)Z"⟩, 53) := ⟨⟨by decide +kernel, by decide +kernel⟩, List.mem_of_getElem? (i := 992) (by decide +kernel), List.mem_of_getElem? (i := 1192) (by decide +kernel), List.mem_of_getElem? (i := 1193) (by decide +kernel)⟩
theorem lw_p37 : lw_okq (⟨"NobodyBeenAftModel", "faultOf", "(IIZ)I"⟩, 53) := ⟨⟨by decide +kernel, by decide +kernel⟩, List.mem_of_getElem? (i := 992) (by decide +kernel), List.mem_of_getElem? (i := 1199) (by decide +kernel), List.mem_of_getElem? (i := 1200) (by decide +kernel)⟩
theorem lw_p38 : lw_okq (⟨"NobodyBeenAftModel", "readsRock", "()Z"⟩, 53) := ⟨⟨by decide +kernel, by decide +kernel⟩, List.mem_of_getElem? (i := 992) (by decide +kernel), List.mem_of_getElem? (i := 1207) (by decide +kernel), List.mem_of_getElem? (i := 1208) (by decide +kernel)⟩
theorem lw_p39 : lw_okq (⟨"NobodyBeenAftModel", "takesOf", "(Ljava/lang/String;)I"⟩, 53) := ⟨⟨by decide +kernel, by decide +kernel⟩, List.mem_of_getElem? (i := 992) (by decide +kernel), List.mem_of_getElem? (i := 1212) (by decide +kernel), List.mem_of_getElem? (i := 1213) (by decide +kernel)⟩
theorem lw_p40 : lw_okq (⟨"NobodyBeenAftModel", "among", "(Ljava/lang/String;)I"⟩, 53) := ⟨⟨by decide +kernel, by decide +kernel⟩, List.mem_of_getElem? (i := 992) (by decide +kernel), List.mem_of_getElem? (i := 1216) (by decide +kernel), List.mem_of_getElem? (i := 1217) (by decide +kernel)⟩
theorem lw_p41 : lw_okq (⟨"NobodyBeenAftModel", "readsMess", "()Z"⟩, 53) := ⟨⟨by decide +kernel, by decide +kernel⟩, List.mem_of_getElem? (i := 992) (by decide +kernel), List.mem_of_getElem? (i := 1273) (by decide +kernel), List.mem_of_getElem? (i := 1274) (by decide +kernel)⟩
theorem lw_p42 : lw_okq (⟨"NobodyBeenAftModel", "readsRank", "(I)Z"⟩, 53) := ⟨⟨by decide +kernel, by decide +kernel⟩, List.mem_of_getElem? (i := 992) (by decide +kernel), List.mem_of_getElem? (i := 1281) (by decide +kernel), List.mem_of_getElem? (i := 1282) (by decide +kernel)⟩
theorem lw_p43 : lw_okq (⟨"NobodyBeenAftModel", "readsThing", "()Z"⟩, 53) := ⟨⟨by decide +kernel, by decide +kernel⟩, List.mem_of_getElem? (i := 992) (by decide +kernel), List.mem_of_getElem? (i := 1285) (by decide +kernel), List.mem_of_getElem? (i := 1286) (by decide +kernel)⟩
theorem lw_p44 : lw_okq (⟨"NobodyBeenAftModel", "codes", "(I)V"⟩, 53) := ⟨⟨by decide +kernel, by decide +kernel⟩, List.mem_of_getElem? (i := 992) (by decide +kernel), List.mem_of_getElem? (i := 1289) (by decide +kernel), List.mem_of_getElem? (i := 1290) (by decide +kernel)⟩
theorem lw_p45 : lw_okq (⟨"NobodyBeenAftModel", "refuse", "()I"⟩, 53) := ⟨⟨by decide +kernel, by decide +kernel⟩, List.mem_of_getElem? (i := 992) (by decide +kernel), List.mem_of_getElem? (i := 1301) (by decide +kernel), List.mem_of_getElem? (i := 1302) (by decide +kernel)⟩
theorem lw_p46 : lw_okq (⟨"NobodyBeenAftModel", "isMess", "(I)Z"⟩, 53) := ⟨⟨by decide +kernel, by decide +kernel⟩, List.mem_of_getElem? (i := 992) (by decide +kernel), List.mem_of_getElem? (i := 1313) (by decide +kernel), List.mem_of_getElem? (i := 1314) (by decide +kernel)⟩
theorem lw_p47 : lw_okq (⟨"NobodyBeenAftModel", "isAhead", "(II)Z"⟩, 53) := ⟨⟨by decide +kernel, by decide +kernel⟩, List.mem_of_getElem? (i := 992) (by decide +kernel), List.mem_of_getElem? (i := 1322) (by decide +kernel), List.mem_of_getElem? (i := 1323) (by decide +kernel)⟩
def lw_privs_3 : List (MethodName × Nat) := [(⟨"NobodyBeenAftModel", "begins", "(I)I"⟩, 53), (⟨"NobodyBeenAftModel", "numberIn", "(III)I"⟩, 53), (⟨"NobodyBeenAftModel", "number", "(I)I"⟩, 53), (⟨"NobodyBeenAftModel", "isDigit", "()Z"⟩, 53), (⟨"NobodyBeenAftModel", "takes", "(I)Z"⟩, 53), (⟨"NobodyBeenAftModel", "faultOf", "(IIZ)I"⟩, 53), (⟨"NobodyBeenAftModel", "readsRock", "()Z"⟩, 53), (⟨"NobodyBeenAftModel", "takesOf", "(Ljava/lang/String;)I"⟩, 53), (⟨"NobodyBeenAftModel", "among", "(Ljava/lang/String;)I"⟩, 53), (⟨"NobodyBeenAftModel", "readsMess", "()Z"⟩, 53), (⟨"NobodyBeenAftModel", "readsRank", "(I)Z"⟩, 53), (⟨"NobodyBeenAftModel", "readsThing", "()Z"⟩, 53), (⟨"NobodyBeenAftModel", "codes", "(I)V"⟩, 53), (⟨"NobodyBeenAftModel", "refuse", "()I"⟩, 53), (⟨"NobodyBeenAftModel", "isMess", "(I)Z"⟩, 53), (⟨"NobodyBeenAftModel", "isAhead", "(II)Z"⟩, 53)]
theorem lw_r3 : ∀ q ∈ lw_privs_3, lw_okq q := List.forall_mem_cons.mpr ⟨lw_p32, List.forall_mem_cons.mpr ⟨lw_p33, List.forall_mem_cons.mpr ⟨lw_p34, List.forall_mem_cons.mpr ⟨lw_p35, List.forall_mem_cons.mpr ⟨lw_p36, List.forall_mem_cons.mpr ⟨lw_p37, List.forall_mem_cons.mpr ⟨lw_p38, List.forall_mem_cons.mpr ⟨lw_p39, List.forall_mem_cons.mpr ⟨lw_p40, List.forall_mem_cons.mpr ⟨lw_p41, List.forall_mem_cons.mpr ⟨lw_p42, List.forall_mem_cons.mpr ⟨lw_p43, List.forall_mem_cons.mpr ⟨lw_p44, List.forall_mem_cons.mpr ⟨lw_p45, List.forall_mem_cons.mpr ⟨lw_p46, List.forall_mem_cons.mpr ⟨lw_p47, fun _ h => absurd h List.not_mem_nil⟩⟩⟩⟩⟩⟩⟩⟩⟩⟩⟩⟩⟩⟩⟩⟩
theorem lw_p48 : lw_okq (⟨"NobodyBeenAftModel", "delayAt", "(I)I"⟩, 53) := ⟨⟨by decide +kernel, by decide +kernel⟩, List.mem_of_getElem? (i := 992) (by decide +kernel), List.mem_of_getElem? (i := 1340) (by decide +kernel), List.mem_of_getElem? (i := 1341) (by decide +kernel)⟩
theorem lw_p49 : lw_okq (⟨"NobodyBeenAftModel", "ruled", "()I"⟩, 53) := ⟨⟨by decide +kernel, by decide +kernel⟩, List.mem_of_getElem? (i := 992) (by decide +kernel), List.mem_of_getElem? (i := 1344) (by decide +kernel), List.mem_of_getElem? (i := 1345) (by decide +kernel)⟩
theorem lw_p50 : lw_okq (⟨"NobodyBeenAftModel", "putsBy", "()V"⟩, 53) := ⟨⟨by decide +kernel, by decide +kernel⟩, List.mem_of_getElem? (i := 992) (by decide +kernel), List.mem_of_getElem? (i := 1355) (by decide +kernel), List.mem_of_getElem? (i := 1356) (by decide +kernel)⟩
theorem lw_p51 : lw_okq (⟨"NobodyBeenAftModel", "gives", "([II)I"⟩, 53) := ⟨⟨by decide +kernel, by decide +kernel⟩, List.mem_of_getElem? (i := 992) (by decide +kernel), List.mem_of_getElem? (i := 1359) (by decide +kernel), List.mem_of_getElem? (i := 1360) (by decide +kernel)⟩
theorem lw_p52 : lw_okq (⟨"NobodyBeenAftModel", "turned", "(I)I"⟩, 53) := ⟨⟨by decide +kernel, by decide +kernel⟩, List.mem_of_getElem? (i := 992) (by decide +kernel), List.mem_of_getElem? (i := 1364) (by decide +kernel), List.mem_of_getElem? (i := 1365) (by decide +kernel)⟩
theorem lw_p53 : lw_okq (⟨"NobodyBeenAftModel", "counts", "(I)I"⟩, 53) := ⟨⟨by decide +kernel, by decide +kernel⟩, List.mem_of_getElem? (i := 992) (by decide +kernel), List.mem_of_getElem? (i := 1368) (by decide +kernel), List.mem_of_getElem? (i := 1369) (by decide +kernel)⟩
theorem lw_p54 : lw_okq (⟨"NobodyBeenAftModel", "adds", "(I)I"⟩, 53) := ⟨⟨by decide +kernel, by decide +kernel⟩, List.mem_of_getElem? (i := 992) (by decide +kernel), List.mem_of_getElem? (i := 1372) (by decide +kernel), List.mem_of_getElem? (i := 1373) (by decide +kernel)⟩
theorem lw_p55 : lw_okq (⟨"NobodyBeenAftModel", "passes", "(III)I"⟩, 53) := ⟨⟨by decide +kernel, by decide +kernel⟩, List.mem_of_getElem? (i := 992) (by decide +kernel), List.mem_of_getElem? (i := 1380) (by decide +kernel), List.mem_of_getElem? (i := 1381) (by decide +kernel)⟩
theorem lw_p56 : lw_okq (⟨"NobodyBeenAftModel", "cooks", "(II)I"⟩, 53) := ⟨⟨by decide +kernel, by decide +kernel⟩, List.mem_of_getElem? (i := 992) (by decide +kernel), List.mem_of_getElem? (i := 1389) (by decide +kernel), List.mem_of_getElem? (i := 1390) (by decide +kernel)⟩
theorem lw_p57 : lw_okq (⟨"NobodyBeenAftModel", "startsCounting", "()V"⟩, 53) := ⟨⟨by decide +kernel, by decide +kernel⟩, List.mem_of_getElem? (i := 992) (by decide +kernel), List.mem_of_getElem? (i := 1398) (by decide +kernel), List.mem_of_getElem? (i := 1399) (by decide +kernel)⟩
theorem lw_p58 : lw_okq (⟨"NobodyBeenAftModel", "stepGoes", "([I)V"⟩, 53) := ⟨⟨by decide +kernel, by decide +kernel⟩, List.mem_of_getElem? (i := 992) (by decide +kernel), List.mem_of_getElem? (i := 1402) (by decide +kernel), List.mem_of_getElem? (i := 1403) (by decide +kernel)⟩
theorem lw_p59 : lw_okq (⟨"NobodyBeenAftModel", "hitsAt", "(II)I"⟩, 53) := ⟨⟨by decide +kernel, by decide +kernel⟩, List.mem_of_getElem? (i := 992) (by decide +kernel), List.mem_of_getElem? (i := 1412) (by decide +kernel), List.mem_of_getElem? (i := 1413) (by decide +kernel)⟩
theorem lw_p60 : lw_okq (⟨"NobodyBeenAftModel", "enters", "(J)V"⟩, 53) := ⟨⟨by decide +kernel, by decide +kernel⟩, List.mem_of_getElem? (i := 992) (by decide +kernel), List.mem_of_getElem? (i := 1416) (by decide +kernel), List.mem_of_getElem? (i := 1417) (by decide +kernel)⟩
theorem lw_p61 : lw_okq (⟨"NobodyBeenAftModel", "readsAct", "()Z"⟩, 53) := ⟨⟨by decide +kernel, by decide +kernel⟩, List.mem_of_getElem? (i := 992) (by decide +kernel), List.mem_of_getElem? (i := 1424) (by decide +kernel), List.mem_of_getElem? (i := 1425) (by decide +kernel)⟩
theorem lw_p62 : lw_okq (⟨"NobodyBeenAftModel", "does", "(I)Z"⟩, 53) := ⟨⟨by decide +kernel, by decide +kernel⟩, List.mem_of_getElem? (i := 992) (by decide +kernel), List.mem_of_getElem? (i := 1429) (by decide +kernel), List.mem_of_getElem? (i := 1430) (by decide +kernel)⟩
theorem lw_p63 : lw_okq (⟨"NobodyBeenAftModel", "puts", "()V"⟩, 53) := ⟨⟨by decide +kernel, by decide +kernel⟩, List.mem_of_getElem? (i := 992) (by decide +kernel), List.mem_of_getElem? (i := 1437) (by decide +kernel), List.mem_of_getElem? (i := 1438) (by decide +kernel)⟩
def lw_privs_4 : List (MethodName × Nat) := [(⟨"NobodyBeenAftModel", "delayAt", "(I)I"⟩, 53), (⟨"NobodyBeenAftModel", "ruled", "()I"⟩, 53), (⟨"NobodyBeenAftModel", "putsBy", "()V"⟩, 53), (⟨"NobodyBeenAftModel", "gives", "([II)I"⟩, 53), (⟨"NobodyBeenAftModel", "turned", "(I)I"⟩, 53), (⟨"NobodyBeenAftModel", "counts", "(I)I"⟩, 53), (⟨"NobodyBeenAftModel", "adds", "(I)I"⟩, 53), (⟨"NobodyBeenAftModel", "passes", "(III)I"⟩, 53), (⟨"NobodyBeenAftModel", "cooks", "(II)I"⟩, 53), (⟨"NobodyBeenAftModel", "startsCounting", "()V"⟩, 53), (⟨"NobodyBeenAftModel", "stepGoes", "([I)V"⟩, 53), (⟨"NobodyBeenAftModel", "hitsAt", "(II)I"⟩, 53), (⟨"NobodyBeenAftModel", "enters", "(J)V"⟩, 53), (⟨"NobodyBeenAftModel", "readsAct", "()Z"⟩, 53), (⟨"NobodyBeenAftModel", "does", "(I)Z"⟩, 53), (⟨"NobodyBeenAftModel", "puts", "()V"⟩, 53)]
theorem lw_r4 : ∀ q ∈ lw_privs_4, lw_okq q := List.forall_mem_cons.mpr ⟨lw_p48, List.forall_mem_cons.mpr ⟨lw_p49, List.forall_mem_cons.mpr ⟨lw_p50, List.forall_mem_cons.mpr ⟨lw_p51, List.forall_mem_cons.mpr ⟨lw_p52, List.forall_mem_cons.mpr ⟨lw_p53, List.forall_mem_cons.mpr ⟨lw_p54, List.forall_mem_cons.mpr ⟨lw_p55, List.forall_mem_cons.mpr ⟨lw_p56, List.forall_mem_cons.mpr ⟨lw_p57, List.forall_mem_cons.mpr ⟨lw_p58, List.forall_mem_cons.mpr ⟨lw_p59, List.forall_mem_cons.mpr ⟨lw_p60, List.forall_mem_cons.mpr ⟨lw_p61, List.forall_mem_cons.mpr ⟨lw_p62, List.forall_mem_cons.mpr ⟨lw_p63, fun _ h => absurd h List.not_mem_nil⟩⟩⟩⟩⟩⟩⟩⟩⟩⟩⟩⟩⟩⟩⟩⟩
theorem lw_p64 : lw_okq (⟨"NobodyBeenAftModel", "movedByDue", "(II)I"⟩, 53) := ⟨⟨by decide +kernel, by decide +kernel⟩, List.mem_of_getElem? (i := 992) (by decide +kernel), List.mem_of_getElem? (i := 1449) (by decide +kernel), List.mem_of_getElem? (i := 1450) (by decide +kernel)⟩
theorem lw_p65 : lw_okq (⟨"NobodyBeenAftModel", "comesAt", "(II)Z"⟩, 53) := ⟨⟨by decide +kernel, by decide +kernel⟩, List.mem_of_getElem? (i := 992) (by decide +kernel), List.mem_of_getElem? (i := 1459) (by decide +kernel), List.mem_of_getElem? (i := 1460) (by decide +kernel)⟩
theorem lw_p66 : lw_okq (⟨"NobodyBeenAftModel", "mayGive", "(I)Z"⟩, 53) := ⟨⟨by decide +kernel, by decide +kernel⟩, List.mem_of_getElem? (i := 992) (by decide +kernel), List.mem_of_getElem? (i := 1463) (by decide +kernel), List.mem_of_getElem? (i := 1464) (by decide +kernel)⟩
theorem lw_p67 : lw_okq (⟨"NobodyBeenAftModel", "choosesAny", "(I)V"⟩, 53) := ⟨⟨by decide +kernel, by decide +kernel⟩, List.mem_of_getElem? (i := 992) (by decide +kernel), List.mem_of_getElem? (i := 1472) (by decide +kernel), List.mem_of_getElem? (i := 1473) (by decide +kernel)⟩
theorem lw_p68 : lw_okq (⟨"NobodyBeenAftModel", "fewestOrders", "(I)I"⟩, 53) := ⟨⟨by decide +kernel, by decide +kernel⟩, List.mem_of_getElem? (i := 992) (by decide +kernel), List.mem_of_getElem? (i := 1476) (by decide +kernel), List.mem_of_getElem? (i := 1477) (by decide +kernel)⟩
theorem lw_p69 : lw_okq (⟨"NobodyBeenAftModel", "laysLeast", "(I)V"⟩, 53) := ⟨⟨by decide +kernel, by decide +kernel⟩, List.mem_of_getElem? (i := 992) (by decide +kernel), List.mem_of_getElem? (i := 1480) (by decide +kernel), List.mem_of_getElem? (i := 1481) (by decide +kernel)⟩
theorem lw_p70 : lw_okq (⟨"NobodyBeenAftModel", "goesBy", "(IZ)V"⟩, 53) := ⟨⟨by decide +kernel, by decide +kernel⟩, List.mem_of_getElem? (i := 992) (by decide +kernel), List.mem_of_getElem? (i := 1484) (by decide +kernel), List.mem_of_getElem? (i := 1485) (by decide +kernel)⟩
theorem lw_p71 : lw_okq (⟨"NobodyBeenAftModel", "rocksIn", "(II)I"⟩, 53) := ⟨⟨by decide +kernel, by decide +kernel⟩, List.mem_of_getElem? (i := 992) (by decide +kernel), List.mem_of_getElem? (i := 1502) (by decide +kernel), List.mem_of_getElem? (i := 1503) (by decide +kernel)⟩
theorem lw_p72 : lw_okq (⟨"NobodyBeenAftModel", "postsFor", "(I)I"⟩, 53) := ⟨⟨by decide +kernel, by decide +kernel⟩, List.mem_of_getElem? (i := 992) (by decide +kernel), List.mem_of_getElem? (i := 1521) (by decide +kernel), List.mem_of_getElem? (i := 1522) (by decide +kernel)⟩
theorem lw_p73 : lw_okq (⟨"NobodyBeenAftModel", "bets", "(II)V"⟩, 53) := ⟨⟨by decide +kernel, by decide +kernel⟩, List.mem_of_getElem? (i := 992) (by decide +kernel), List.mem_of_getElem? (i := 1535) (by decide +kernel), List.mem_of_getElem? (i := 1536) (by decide +kernel)⟩
theorem lw_p74 : lw_okq (⟨"NobodyBeenAftModel", "tellsFraction", "(JJ)V"⟩, 53) := ⟨⟨by decide +kernel, by decide +kernel⟩, List.mem_of_getElem? (i := 992) (by decide +kernel), List.mem_of_getElem? (i := 1539) (by decide +kernel), List.mem_of_getElem? (i := 1540) (by decide +kernel)⟩
theorem lw_p75 : lw_okq (⟨"NobodyBeenAftModel", "lastsFor", "(II)I"⟩, 53) := ⟨⟨by decide +kernel, by decide +kernel⟩, List.mem_of_getElem? (i := 992) (by decide +kernel), List.mem_of_getElem? (i := 1555) (by decide +kernel), List.mem_of_getElem? (i := 1556) (by decide +kernel)⟩
theorem lw_p76 : lw_okq (⟨"NobodyBeenAftModel", "spare", "(II)I"⟩, 53) := ⟨⟨by decide +kernel, by decide +kernel⟩, List.mem_of_getElem? (i := 992) (by decide +kernel), List.mem_of_getElem? (i := 1564) (by decide +kernel), List.mem_of_getElem? (i := 1565) (by decide +kernel)⟩
theorem lw_p77 : lw_okq (⟨"NobodyBeenAftModel", "laysFlows", "(I)V"⟩, 53) := ⟨⟨by decide +kernel, by decide +kernel⟩, List.mem_of_getElem? (i := 992) (by decide +kernel), List.mem_of_getElem? (i := 1568) (by decide +kernel), List.mem_of_getElem? (i := 1569) (by decide +kernel)⟩
theorem lw_p78 : lw_okq (⟨"NobodyBeenAftModel", "flow", "(II)I"⟩, 53) := ⟨⟨by decide +kernel, by decide +kernel⟩, List.mem_of_getElem? (i := 992) (by decide +kernel), List.mem_of_getElem? (i := 1573) (by decide +kernel), List.mem_of_getElem? (i := 1574) (by decide +kernel)⟩
theorem lw_p79 : lw_okq (⟨"NobodyBeenAftModel", "seenIn", "(I)I"⟩, 53) := ⟨⟨by decide +kernel, by decide +kernel⟩, List.mem_of_getElem? (i := 992) (by decide +kernel), List.mem_of_getElem? (i := 1587) (by decide +kernel), List.mem_of_getElem? (i := 1588) (by decide +kernel)⟩
def lw_privs_5 : List (MethodName × Nat) := [(⟨"NobodyBeenAftModel", "movedByDue", "(II)I"⟩, 53), (⟨"NobodyBeenAftModel", "comesAt", "(II)Z"⟩, 53), (⟨"NobodyBeenAftModel", "mayGive", "(I)Z"⟩, 53), (⟨"NobodyBeenAftModel", "choosesAny", "(I)V"⟩, 53), (⟨"NobodyBeenAftModel", "fewestOrders", "(I)I"⟩, 53), (⟨"NobodyBeenAftModel", "laysLeast", "(I)V"⟩, 53), (⟨"NobodyBeenAftModel", "goesBy", "(IZ)V"⟩, 53), (⟨"NobodyBeenAftModel", "rocksIn", "(II)I"⟩, 53), (⟨"NobodyBeenAftModel", "postsFor", "(I)I"⟩, 53), (⟨"NobodyBeenAftModel", "bets", "(II)V"⟩, 53), (⟨"NobodyBeenAftModel", "tellsFraction", "(JJ)V"⟩, 53), (⟨"NobodyBeenAftModel", "lastsFor", "(II)I"⟩, 53), (⟨"NobodyBeenAftModel", "spare", "(II)I"⟩, 53), (⟨"NobodyBeenAftModel", "laysFlows", "(I)V"⟩, 53), (⟨"NobodyBeenAftModel", "flow", "(II)I"⟩, 53), (⟨"NobodyBeenAftModel", "seenIn", "(I)I"⟩, 53)]
theorem lw_r5 : ∀ q ∈ lw_privs_5, lw_okq q := List.forall_mem_cons.mpr ⟨lw_p64, List.forall_mem_cons.mpr ⟨lw_p65, List.forall_mem_cons.mpr ⟨lw_p66, List.forall_mem_cons.mpr ⟨lw_p67, List.forall_mem_cons.mpr ⟨lw_p68, List.forall_mem_cons.mpr ⟨lw_p69, List.forall_mem_cons.mpr ⟨lw_p70, List.forall_mem_cons.mpr ⟨lw_p71, List.forall_mem_cons.mpr ⟨lw_p72, List.forall_mem_cons.mpr ⟨lw_p73, List.forall_mem_cons.mpr ⟨lw_p74, List.forall_mem_cons.mpr ⟨lw_p75, List.forall_mem_cons.mpr ⟨lw_p76, List.forall_mem_cons.mpr ⟨lw_p77, List.forall_mem_cons.mpr ⟨lw_p78, List.forall_mem_cons.mpr ⟨lw_p79, fun _ h => absurd h List.not_mem_nil⟩⟩⟩⟩⟩⟩⟩⟩⟩⟩⟩⟩⟩⟩⟩⟩
theorem lw_p80 : lw_okq (⟨"NobodyBeenAftModel", "lastSeen", "()I"⟩, 53) := ⟨⟨by decide +kernel, by decide +kernel⟩, List.mem_of_getElem? (i := 992) (by decide +kernel), List.mem_of_getElem? (i := 1599) (by decide +kernel), List.mem_of_getElem? (i := 1600) (by decide +kernel)⟩
theorem lw_p81 : lw_okq (⟨"NobodyBeenAftModel", "laysSeen", "(I)V"⟩, 53) := ⟨⟨by decide +kernel, by decide +kernel⟩, List.mem_of_getElem? (i := 992) (by decide +kernel), List.mem_of_getElem? (i := 1603) (by decide +kernel), List.mem_of_getElem? (i := 1604) (by decide +kernel)⟩
theorem lw_p82 : lw_okq (⟨"NobodyBeenAftModel", "isFine", "(II)Z"⟩, 53) := ⟨⟨by decide +kernel, by decide +kernel⟩, List.mem_of_getElem? (i := 992) (by decide +kernel), List.mem_of_getElem? (i := 1607) (by decide +kernel), List.mem_of_getElem? (i := 1608) (by decide +kernel)⟩
theorem lw_p83 : lw_okq (⟨"NobodyBeenAftModel", "boyBegins", "(II)V"⟩, 53) := ⟨⟨by decide +kernel, by decide +kernel⟩, List.mem_of_getElem? (i := 992) (by decide +kernel), List.mem_of_getElem? (i := 1624) (by decide +kernel), List.mem_of_getElem? (i := 1625) (by decide +kernel)⟩
theorem lw_p84 : lw_okq (⟨"NobodyBeenAftModel", "boyGoes", "()V"⟩, 53) := ⟨⟨by decide +kernel, by decide +kernel⟩, List.mem_of_getElem? (i := 992) (by decide +kernel), List.mem_of_getElem? (i := 1628) (by decide +kernel), List.mem_of_getElem? (i := 1629) (by decide +kernel)⟩
def lw_privs_6 : List (MethodName × Nat) := [(⟨"NobodyBeenAftModel", "lastSeen", "()I"⟩, 53), (⟨"NobodyBeenAftModel", "laysSeen", "(I)V"⟩, 53), (⟨"NobodyBeenAftModel", "isFine", "(II)Z"⟩, 53), (⟨"NobodyBeenAftModel", "boyBegins", "(II)V"⟩, 53), (⟨"NobodyBeenAftModel", "boyGoes", "()V"⟩, 53)]
theorem lw_r6 : ∀ q ∈ lw_privs_6, lw_okq q := List.forall_mem_cons.mpr ⟨lw_p80, List.forall_mem_cons.mpr ⟨lw_p81, List.forall_mem_cons.mpr ⟨lw_p82, List.forall_mem_cons.mpr ⟨lw_p83, List.forall_mem_cons.mpr ⟨lw_p84, fun _ h => absurd h List.not_mem_nil⟩⟩⟩⟩⟩
def lw_privs : List (MethodName × Nat) := lw_privs_1 ++ (lw_privs_2 ++ (lw_privs_3 ++ (lw_privs_4 ++ (lw_privs_5 ++ (lw_privs_6)))))
def lw_tbl : List Cond := k2_sels lw_privs ++ tables_1
theorem lw_privs_ok : ∀ q ∈ lw_privs, lw_okq q := by
  show ∀ q ∈ lw_privs_1 ++ (lw_privs_2 ++ (lw_privs_3 ++ (lw_privs_4 ++ (lw_privs_5 ++ (lw_privs_6))))), lw_okq q
  exact List.forall_mem_append.mpr ⟨lw_r1, List.forall_mem_append.mpr ⟨lw_r2, List.forall_mem_append.mpr ⟨lw_r3, List.forall_mem_append.mpr ⟨lw_r4, List.forall_mem_append.mpr ⟨lw_r5, lw_r6⟩⟩⟩⟩⟩
end
section
def RX0 : String := "NobodyBeenAft$Outlook"
def TX0 : u_T := fun k => match k with
  | 0 => ("NobodyBeenAft$Outlook", "doneIn", "[I", true)
  | 1 => ("NobodyBeenAft$Outlook", "rocksIn", "[I", true)
  | 2 => ("NobodyBeenAft$Outlook", "reached", "[I", true)
  | 3 => ("NobodyBeenAft$Outlook", "chosen", "[I", true)
  | 4 => ("NobodyBeenAft$Outlook", "cost", "[I", true)
  | _ => ("NobodyBeenAft$Outlook", "turned", "Z", false)
def tyX0 : Nat → FieldType := fun k => match k with
  | 0 => .array .int
  | 1 => .array .int
  | 2 => .array .int
  | 3 => .array .int
  | 4 => .array .int
  | _ => .boolean
abbrev wsX00 : List Cond := u_ws RX0 TX0 6
theorem nmX0 : ∀ a, a < 6 → ∀ b, b < 6 → a ≠ b → (TX0 a).2.1 ≠ (TX0 b).2.1 := by decide +kernel
theorem tyX0_ok : ∀ k, k < 6 → parseFieldDescriptor (TX0 k).2.2.1 = some (tyX0 k) := by decide +kernel
abbrev cX0_init : ByteArray := prog_2_method_1_code
def yX0_init : MethodName := ⟨RX0, "<init>", "()V"⟩
abbrev cX0_isOvertaken : ByteArray := prog_2_method_2_code
def yX0_isOvertaken : MethodName := ⟨RX0, "isOvertaken", "(II)Z"⟩
abbrev cX0_reach : ByteArray := prog_2_method_3_code
def yX0_reach : MethodName := ⟨RX0, "reach", "(LNobodyBeenAft$State;IIZ)V"⟩
abbrev cX0_moved : ByteArray := prog_2_method_4_code
def yX0_moved : MethodName := ⟨RX0, "moved", "(II)I"⟩
abbrev cX0_freeOrders : ByteArray := prog_2_method_5_code
def yX0_freeOrders : MethodName := ⟨RX0, "freeOrders", "(II)V"⟩
abbrev cX0_fewestOrders : ByteArray := prog_2_method_6_code
def yX0_fewestOrders : MethodName := ⟨RX0, "fewestOrders", "(LNobodyBeenAft$State;I)I"⟩
abbrev cX0_doChosen : ByteArray := prog_2_method_7_code
def yX0_doChosen : MethodName := ⟨RX0, "doChosen", "(I)V"⟩
abbrev cX0_moveCosts : ByteArray := prog_2_method_8_code
def yX0_moveCosts : MethodName := ⟨RX0, "moveCosts", "(I)V"⟩
abbrev cX0_chooseLeastRow : ByteArray := prog_2_method_9_code
def yX0_chooseLeastRow : MethodName := ⟨RX0, "chooseLeastRow", "(LNobodyBeenAft$State;II)V"⟩
abbrev cX0_leastChoice : ByteArray := prog_2_method_10_code
def yX0_leastChoice : MethodName := ⟨RX0, "leastChoice", "(LNobodyBeenAft$State;III)I"⟩
def RX1 : String := "NobodyBeenAft$Past"
def TX1 : u_T := fun k => match k with
  | 0 => ("NobodyBeenAft$Past", "ring", "[LNobodyBeenAft$State;", true)
  | 1 => ("NobodyBeenAft$Past", "first", "I", false)
  | 2 => ("NobodyBeenAft$Past", "size", "I", false)
  | 3 => ("NobodyBeenAft$Past", "kept", "[LNobodyBeenAft$State;", true)
  | _ => ("NobodyBeenAft$Past", "isKept", "[Z", true)
def tyX1 : Nat → FieldType := fun k => match k with
  | 0 => .array (.object "NobodyBeenAft$State")
  | 1 => .int
  | 2 => .int
  | 3 => .array (.object "NobodyBeenAft$State")
  | _ => .array .boolean
abbrev wsX10 : List Cond := u_ws RX1 TX1 5
theorem nmX1 : ∀ a, a < 5 → ∀ b, b < 5 → a ≠ b → (TX1 a).2.1 ≠ (TX1 b).2.1 := by decide +kernel
theorem tyX1_ok : ∀ k, k < 5 → parseFieldDescriptor (TX1 k).2.2.1 = some (tyX1 k) := by decide +kernel
abbrev cX1_init : ByteArray := prog_3_method_1_code
def yX1_init : MethodName := ⟨RX1, "<init>", "()V"⟩
abbrev cX1_remember : ByteArray := prog_3_method_2_code
def yX1_remember : MethodName := ⟨RX1, "remember", "(LNobodyBeenAft$State;)V"⟩
abbrev cX1_bringBack : ByteArray := prog_3_method_3_code
def yX1_bringBack : MethodName := ⟨RX1, "bringBack", "(LNobodyBeenAft$State;)Z"⟩
abbrev cX1_forgetAll : ByteArray := prog_3_method_4_code
def yX1_forgetAll : MethodName := ⟨RX1, "forgetAll", "()V"⟩
def RX2 : String := "NobodyBeenAft$Reefs"
def TX2 : u_T := fun k => match k with
  | 0 => ("NobodyBeenAft$Reefs", "count", "I", false)
  | 1 => ("NobodyBeenAft$Reefs", "miles", "[I", true)
  | _ => ("NobodyBeenAft$Reefs", "lanesOf", "[I", true)
def tyX2 : Nat → FieldType := fun k => match k with
  | 0 => .int
  | 1 => .array .int
  | _ => .array .int
abbrev wsX20 : List Cond := u_ws RX2 TX2 3
theorem nmX2 : ∀ a, a < 3 → ∀ b, b < 3 → a ≠ b → (TX2 a).2.1 ≠ (TX2 b).2.1 := by decide +kernel
theorem tyX2_ok : ∀ k, k < 3 → parseFieldDescriptor (TX2 k).2.2.1 = some (tyX2 k) := by decide +kernel
abbrev cX2_init : ByteArray := prog_4_method_1_code
def yX2_init : MethodName := ⟨RX2, "<init>", "()V"⟩
abbrev cX2_readFrom : ByteArray := prog_4_method_2_code
def yX2_readFrom : MethodName := ⟨RX2, "readFrom", "(LNobodyBeenAft$Text;)I"⟩
def RX3 : String := "NobodyBeenAft$Row"
def TX3 : u_T := fun k => match k with
  | 0 => ("NobodyBeenAft$Row", "numbers", "[J", true)
  | _ => ("NobodyBeenAft$Row", "size", "I", false)
def tyX3 : Nat → FieldType := fun k => match k with
  | 0 => .array .long
  | _ => .int
abbrev wsX30 : List Cond := u_ws RX3 TX3 2
theorem nmX3 : ∀ a, a < 2 → ∀ b, b < 2 → a ≠ b → (TX3 a).2.1 ≠ (TX3 b).2.1 := by decide +kernel
theorem tyX3_ok : ∀ k, k < 2 → parseFieldDescriptor (TX3 k).2.2.1 = some (tyX3 k) := by decide +kernel
abbrev cX3_init : ByteArray := prog_5_method_1_code
def yX3_init : MethodName := ⟨RX3, "<init>", "()V"⟩
abbrev cX3_clear : ByteArray := prog_5_method_2_code
def yX3_clear : MethodName := ⟨RX3, "clear", "()V"⟩
abbrev cX3_add : ByteArray := prog_5_method_3_code
def yX3_add : MethodName := ⟨RX3, "add", "(J)V"⟩
abbrev cX3_tellOne : ByteArray := prog_5_method_4_code
def yX3_tellOne : MethodName := ⟨RX3, "tellOne", "(J)V"⟩
abbrev cX3_tellTwo : ByteArray := prog_5_method_5_code
def yX3_tellTwo : MethodName := ⟨RX3, "tellTwo", "(JJ)V"⟩
abbrev cX3_tellFraction : ByteArray := prog_5_method_6_code
def yX3_tellFraction : MethodName := ⟨RX3, "tellFraction", "(JJ)V"⟩
def RX4 : String := "NobodyBeenAft$Rule"
def TX4 : u_T := fun k => match k with
  | 0 => ("NobodyBeenAft$Rule", "code", "[I", true)
  | 1 => ("NobodyBeenAft$Rule", "size", "I", false)
  | 2 => ("NobodyBeenAft$Rule", "values", "[I", true)
  | _ => ("NobodyBeenAft$Rule", "top", "I", false)
def tyX4 : Nat → FieldType := fun k => match k with
  | 0 => .array .int
  | 1 => .int
  | 2 => .array .int
  | _ => .int
abbrev wsX40 : List Cond := u_ws RX4 TX4 4
theorem nmX4 : ∀ a, a < 4 → ∀ b, b < 4 → a ≠ b → (TX4 a).2.1 ≠ (TX4 b).2.1 := by decide +kernel
theorem tyX4_ok : ∀ k, k < 4 → parseFieldDescriptor (TX4 k).2.2.1 = some (tyX4 k) := by decide +kernel
abbrev cX4_init : ByteArray := prog_6_method_1_code
def yX4_init : MethodName := ⟨RX4, "<init>", "()V"⟩
abbrev cX4_add : ByteArray := prog_6_method_2_code
def yX4_add : MethodName := ⟨RX4, "add", "(I)V"⟩
abbrev cX4_work : ByteArray := prog_6_method_3_code
def yX4_work : MethodName := ⟨RX4, "work", "(LNobodyBeenAft$Ship;I)I"⟩
abbrev cX4_push : ByteArray := prog_6_method_4_code
def yX4_push : MethodName := ⟨RX4, "push", "(I)V"⟩
abbrev cX4_pop : ByteArray := prog_6_method_5_code
def yX4_pop : MethodName := ⟨RX4, "pop", "()I"⟩
abbrev cX4_valueOf : ByteArray := prog_6_method_6_code
def yX4_valueOf : MethodName := ⟨RX4, "valueOf", "(ILNobodyBeenAft$Ship;I)I"⟩
abbrev cX4_apply : ByteArray := prog_6_method_7_code
def yX4_apply : MethodName := ⟨RX4, "apply", "(III)I"⟩
def RX5 : String := "NobodyBeenAft$RuleReader"
def TX5 : u_T := fun k => match k with
  | 0 => ("NobodyBeenAft$RuleReader", "waiting", "[I", true)
  | 1 => ("NobodyBeenAft$RuleReader", "waits", "I", false)
  | 2 => ("NobodyBeenAft$RuleReader", "depth", "I", false)
  | 3 => ("NobodyBeenAft$RuleReader", "compared", "I", false)
  | _ => ("NobodyBeenAft$RuleReader", "wantsThing", "Z", false)
def tyX5 : Nat → FieldType := fun k => match k with
  | 0 => .array .int
  | 1 => .int
  | 2 => .int
  | 3 => .int
  | _ => .boolean
abbrev wsX50 : List Cond := u_ws RX5 TX5 5
theorem nmX5 : ∀ a, a < 5 → ∀ b, b < 5 → a ≠ b → (TX5 a).2.1 ≠ (TX5 b).2.1 := by decide +kernel
theorem tyX5_ok : ∀ k, k < 5 → parseFieldDescriptor (TX5 k).2.2.1 = some (tyX5 k) := by decide +kernel
abbrev cX5_init : ByteArray := prog_7_method_1_code
def yX5_init : MethodName := ⟨RX5, "<init>", "()V"⟩
abbrev cX5_readFrom : ByteArray := prog_7_method_2_code
def yX5_readFrom : MethodName := ⟨RX5, "readFrom", "(LNobodyBeenAft$Text;LNobodyBeenAft$Rule;)I"⟩
abbrev cX5_takeThing : ByteArray := prog_7_method_3_code
def yX5_takeThing : MethodName := ⟨RX5, "takeThing", "(LNobodyBeenAft$Text;LNobodyBeenAft$Rule;)Z"⟩
abbrev cX5_takeOperator : ByteArray := prog_7_method_4_code
def yX5_takeOperator : MethodName := ⟨RX5, "takeOperator", "(LNobodyBeenAft$Text;LNobodyBeenAft$Rule;)Z"⟩
abbrev cX5_hold : ByteArray := prog_7_method_5_code
def yX5_hold : MethodName := ⟨RX5, "hold", "(I)V"⟩
abbrev cX5_release : ByteArray := prog_7_method_6_code
def yX5_release : MethodName := ⟨RX5, "release", "(ILNobodyBeenAft$Rule;)V"⟩
abbrev cX5_rank : ByteArray := prog_7_method_7_code
def yX5_rank : MethodName := ⟨RX5, "rank", "(I)I"⟩
def RX6 : String := "NobodyBeenAft$Ship"
def TX6 : u_T := fun k => match k with
  | 0 => ("NobodyBeenAft$Ship", "length", "I", false)
  | 1 => ("NobodyBeenAft$Ship", "posts", "I", false)
  | 2 => ("NobodyBeenAft$Ship", "liars", "I", false)
  | 3 => ("NobodyBeenAft$Ship", "cells", "[I", true)
  | _ => ("NobodyBeenAft$Ship", "lies", "[I", true)
def tyX6 : Nat → FieldType := fun k => match k with
  | 0 => .int
  | 1 => .int
  | 2 => .int
  | 3 => .array .int
  | _ => .array .int
abbrev wsX60 : List Cond := u_ws RX6 TX6 5
theorem nmX6 : ∀ a, a < 5 → ∀ b, b < 5 → a ≠ b → (TX6 a).2.1 ≠ (TX6 b).2.1 := by decide +kernel
theorem tyX6_ok : ∀ k, k < 5 → parseFieldDescriptor (TX6 k).2.2.1 = some (tyX6 k) := by decide +kernel
abbrev cX6_init : ByteArray := prog_8_method_1_code
def yX6_init : MethodName := ⟨RX6, "<init>", "()V"⟩
abbrev cX6_readFrom : ByteArray := prog_8_method_2_code
def yX6_readFrom : MethodName := ⟨RX6, "readFrom", "(LNobodyBeenAft$Text;)I"⟩
abbrev cX6_addPost : ByteArray := prog_8_method_3_code
def yX6_addPost : MethodName := ⟨RX6, "addPost", "(II)V"⟩
def RX7 : String := "NobodyBeenAft$Sightings"
def TX7 : u_T := fun k => match k with
  | 0 => ("NobodyBeenAft$Sightings", "count", "I", false)
  | 1 => ("NobodyBeenAft$Sightings", "laneAt", "[I", true)
  | _ => ("NobodyBeenAft$Sightings", "ways", "[[J", true)
def tyX7 : Nat → FieldType := fun k => match k with
  | 0 => .int
  | 1 => .array .int
  | _ => .array (.array .long)
abbrev wsX70 : List Cond := u_ws RX7 TX7 3
theorem nmX7 : ∀ a, a < 3 → ∀ b, b < 3 → a ≠ b → (TX7 a).2.1 ≠ (TX7 b).2.1 := by decide +kernel
theorem tyX7_ok : ∀ k, k < 3 → parseFieldDescriptor (TX7 k).2.2.1 = some (tyX7 k) := by decide +kernel
abbrev cX7_init : ByteArray := prog_9_method_1_code
def yX7_init : MethodName := ⟨RX7, "<init>", "()V"⟩
abbrev cX7_forgetAll : ByteArray := prog_9_method_2_code
def yX7_forgetAll : MethodName := ⟨RX7, "forgetAll", "()V"⟩
abbrev cX7_lastStep : ByteArray := prog_9_method_3_code
def yX7_lastStep : MethodName := ⟨RX7, "lastStep", "()I"⟩
abbrev cX7_countWays : ByteArray := prog_9_method_4_code
def yX7_countWays : MethodName := ⟨RX7, "countWays", "(I)V"⟩
abbrev cX7_waysBehind : ByteArray := prog_9_method_5_code
def yX7_waysBehind : MethodName := ⟨RX7, "waysBehind", "(II)J"⟩
abbrev cX7_leastOrder : ByteArray := prog_9_method_6_code
def yX7_leastOrder : MethodName := ⟨RX7, "leastOrder", "(II)I"⟩
abbrev cX7_possible : ByteArray := prog_9_method_7_code
def yX7_possible : MethodName := ⟨RX7, "possible", "(I)I"⟩
def RX8 : String := "NobodyBeenAft$State"
def TX8 : u_T := fun k => match k with
  | 0 => ("NobodyBeenAft$State", "now", "I", false)
  | 1 => ("NobodyBeenAft$State", "lane", "I", false)
  | 2 => ("NobodyBeenAft$State", "hits", "I", false)
  | 3 => ("NobodyBeenAft$State", "lastGiven", "I", false)
  | 4 => ("NobodyBeenAft$State", "orders", "I", false)
  | 5 => ("NobodyBeenAft$State", "due", "[I", true)
  | 6 => ("NobodyBeenAft$State", "helm", "[I", true)
  | 7 => ("NobodyBeenAft$State", "food", "[I", true)
  | _ => ("NobodyBeenAft$State", "hungry", "[I", true)
def tyX8 : Nat → FieldType := fun k => match k with
  | 0 => .int
  | 1 => .int
  | 2 => .int
  | 3 => .int
  | 4 => .int
  | 5 => .array .int
  | 6 => .array .int
  | 7 => .array .int
  | _ => .array .int
abbrev wsX80 : List Cond := u_ws RX8 TX8 9
theorem nmX8 : ∀ a, a < 9 → ∀ b, b < 9 → a ≠ b → (TX8 a).2.1 ≠ (TX8 b).2.1 := by decide +kernel
theorem tyX8_ok : ∀ k, k < 9 → parseFieldDescriptor (TX8 k).2.2.1 = some (tyX8 k) := by decide +kernel
abbrev cX8_init : ByteArray := prog_10_method_1_code
def yX8_init : MethodName := ⟨RX8, "<init>", "()V"⟩
abbrev cX8_copyFrom : ByteArray := prog_10_method_2_code
def yX8_copyFrom : MethodName := ⟨RX8, "copyFrom", "(LNobodyBeenAft$State;)V"⟩
abbrev cX8_gaveNow : ByteArray := prog_10_method_3_code
def yX8_gaveNow : MethodName := ⟨RX8, "gaveNow", "()Z"⟩
abbrev cX8_addOrder : ByteArray := prog_10_method_4_code
def yX8_addOrder : MethodName := ⟨RX8, "addOrder", "(II)V"⟩
abbrev cX8_doDueOrders : ByteArray := prog_10_method_5_code
def yX8_doDueOrders : MethodName := ⟨RX8, "doDueOrders", "()V"⟩
abbrev cX8_laneIn : ByteArray := prog_10_method_6_code
def yX8_laneIn : MethodName := ⟨RX8, "laneIn", "(I)I"⟩
abbrev cX8_eat : ByteArray := prog_10_method_7_code
def yX8_eat : MethodName := ⟨RX8, "eat", "(II)Z"⟩
def RX9 : String := "NobodyBeenAft$Text"
def TX9 : u_T := fun k => match k with
  | 0 => ("NobodyBeenAft$Text", "signs", "[C", true)
  | 1 => ("NobodyBeenAft$Text", "size", "I", false)
  | 2 => ("NobodyBeenAft$Text", "at", "I", false)
  | 3 => ("NobodyBeenAft$Text", "stop", "I", false)
  | 4 => ("NobodyBeenAft$Text", "more", "Z", false)
  | _ => ("NobodyBeenAft$Text", "cutShort", "Z", false)
def tyX9 : Nat → FieldType := fun k => match k with
  | 0 => .array .char
  | 1 => .int
  | 2 => .int
  | 3 => .int
  | 4 => .boolean
  | _ => .boolean
abbrev wsX90 : List Cond := u_ws RX9 TX9 6
theorem nmX9 : ∀ a, a < 6 → ∀ b, b < 6 → a ≠ b → (TX9 a).2.1 ≠ (TX9 b).2.1 := by decide +kernel
theorem tyX9_ok : ∀ k, k < 6 → parseFieldDescriptor (TX9 k).2.2.1 = some (tyX9 k) := by decide +kernel
abbrev cX9_init : ByteArray := prog_11_method_1_code
def yX9_init : MethodName := ⟨RX9, "<init>", "()V"⟩
abbrev cX9_append : ByteArray := prog_11_method_2_code
def yX9_append : MethodName := ⟨RX9, "append", "(C)V"⟩
abbrev cX9_open : ByteArray := prog_11_method_3_code
def yX9_open : MethodName := ⟨RX9, "open", "(I)V"⟩
abbrev cX9_ended : ByteArray := prog_11_method_4_code
def yX9_ended : MethodName := ⟨RX9, "ended", "()Z"⟩
abbrev cX9_next : ByteArray := prog_11_method_5_code
def yX9_next : MethodName := ⟨RX9, "next", "()I"⟩
abbrev cX9_take : ByteArray := prog_11_method_6_code
def yX9_take : MethodName := ⟨RX9, "take", "(C)Z"⟩
abbrev cX9_takeNumber : ByteArray := prog_11_method_7_code
def yX9_takeNumber : MethodName := ⟨RX9, "takeNumber", "(I)I"⟩
abbrev cX9_faultAtEnd : ByteArray := prog_11_method_8_code
def yX9_faultAtEnd : MethodName := ⟨RX9, "faultAtEnd", "()I"⟩
def RX10 : String := "NobodyBeenAft"
def TX10 : u_T := fun k => match k with
  | 0 => ("NobodyBeenAft", "text", "LNobodyBeenAft$Text;", true)
  | 1 => ("NobodyBeenAft", "told", "LNobodyBeenAft$Row;", true)
  | 2 => ("NobodyBeenAft", "ship", "LNobodyBeenAft$Ship;", false)
  | 3 => ("NobodyBeenAft", "otherShip", "LNobodyBeenAft$Ship;", false)
  | 4 => ("NobodyBeenAft", "law", "LNobodyBeenAft$Rule;", false)
  | 5 => ("NobodyBeenAft", "otherLaw", "LNobodyBeenAft$Rule;", false)
  | 6 => ("NobodyBeenAft", "ruleReader", "LNobodyBeenAft$RuleReader;", true)
  | 7 => ("NobodyBeenAft", "reefs", "LNobodyBeenAft$Reefs;", true)
  | 8 => ("NobodyBeenAft", "eats", "[I", true)
  | 9 => ("NobodyBeenAft", "messCount", "I", false)
  | 10 => ("NobodyBeenAft", "state", "LNobodyBeenAft$State;", true)
  | 11 => ("NobodyBeenAft", "spare", "LNobodyBeenAft$State;", true)
  | 12 => ("NobodyBeenAft", "past", "LNobodyBeenAft$Past;", true)
  | 13 => ("NobodyBeenAft", "outlook", "LNobodyBeenAft$Outlook;", true)
  | 14 => ("NobodyBeenAft", "sightings", "LNobodyBeenAft$Sightings;", true)
  | 15 => ("NobodyBeenAft", "left", "[I", true)
  | _ => ("NobodyBeenAft", "passing", "[[I", true)
def tyX10 : Nat → FieldType := fun k => match k with
  | 0 => .object "NobodyBeenAft$Text"
  | 1 => .object "NobodyBeenAft$Row"
  | 2 => .object "NobodyBeenAft$Ship"
  | 3 => .object "NobodyBeenAft$Ship"
  | 4 => .object "NobodyBeenAft$Rule"
  | 5 => .object "NobodyBeenAft$Rule"
  | 6 => .object "NobodyBeenAft$RuleReader"
  | 7 => .object "NobodyBeenAft$Reefs"
  | 8 => .array .int
  | 9 => .int
  | 10 => .object "NobodyBeenAft$State"
  | 11 => .object "NobodyBeenAft$State"
  | 12 => .object "NobodyBeenAft$Past"
  | 13 => .object "NobodyBeenAft$Outlook"
  | 14 => .object "NobodyBeenAft$Sightings"
  | 15 => .array .int
  | _ => .array (.array .int)
abbrev wsX100 : List Cond := u_ws RX10 TX10 17
theorem nmX10 : ∀ a, a < 17 → ∀ b, b < 17 → a ≠ b → (TX10 a).2.1 ≠ (TX10 b).2.1 := by decide +kernel
theorem tyX10_ok : ∀ k, k < 17 → parseFieldDescriptor (TX10 k).2.2.1 = some (tyX10 k) := by decide +kernel
abbrev cX10_init : ByteArray := prog_1_method_1_code
def yX10_init : MethodName := ⟨RX10, "<init>", "()V"⟩
abbrev cX10_sign : ByteArray := prog_1_method_2_code
def yX10_sign : MethodName := ⟨RX10, "sign", "(I)I"⟩
abbrev cX10_end : ByteArray := prog_1_method_3_code
def yX10_end : MethodName := ⟨RX10, "end", "(I)Z"⟩
abbrev cX10_ship : ByteArray := prog_1_method_4_code
def yX10_ship : MethodName := ⟨RX10, "ship", "()I"⟩
abbrev cX10_rocks : ByteArray := prog_1_method_5_code
def yX10_rocks : MethodName := ⟨RX10, "rocks", "()I"⟩
abbrev cX10_messes : ByteArray := prog_1_method_6_code
def yX10_messes : MethodName := ⟨RX10, "messes", "()I"⟩
abbrev cX10_rule : ByteArray := prog_1_method_7_code
def yX10_rule : MethodName := ⟨RX10, "rule", "()I"⟩
abbrev cX10_post : ByteArray := prog_1_method_8_code
def yX10_post : MethodName := ⟨RX10, "post", "(II)I"⟩
abbrev cX10_rock : ByteArray := prog_1_method_9_code
def yX10_rock : MethodName := ⟨RX10, "rock", "(II)I"⟩
abbrev cX10_mess : ByteArray := prog_1_method_10_code
def yX10_mess : MethodName := ⟨RX10, "mess", "(II)I"⟩
abbrev cX10_way : ByteArray := prog_1_method_11_code
def yX10_way : MethodName := ⟨RX10, "way", "(II)I"⟩
abbrev cX10_sheet : ByteArray := prog_1_method_12_code
def yX10_sheet : MethodName := ⟨RX10, "sheet", "(IIII)I"⟩
abbrev cX10_delay : ByteArray := prog_1_method_13_code
def yX10_delay : MethodName := ⟨RX10, "delay", "()I"⟩
abbrev cX10_order : ByteArray := prog_1_method_14_code
def yX10_order : MethodName := ⟨RX10, "order", "(I)I"⟩
abbrev cX10_pass : ByteArray := prog_1_method_15_code
def yX10_pass : MethodName := ⟨RX10, "pass", "(III)I"⟩
abbrev cX10_cook : ByteArray := prog_1_method_16_code
def yX10_cook : MethodName := ⟨RX10, "cook", "(II)I"⟩
abbrev cX10_steps : ByteArray := prog_1_method_17_code
def yX10_steps : MethodName := ⟨RX10, "steps", "(I)I"⟩
abbrev cX10_voyage : ByteArray := prog_1_method_18_code
def yX10_voyage : MethodName := ⟨RX10, "voyage", "()I"⟩
abbrev cX10_undo : ByteArray := prog_1_method_19_code
def yX10_undo : MethodName := ⟨RX10, "undo", "()I"⟩
abbrev cX10_lane : ByteArray := prog_1_method_20_code
def yX10_lane : MethodName := ⟨RX10, "lane", "(I)I"⟩
abbrev cX10_strikes : ByteArray := prog_1_method_21_code
def yX10_strikes : MethodName := ⟨RX10, "strikes", "()I"⟩
abbrev cX10_clears : ByteArray := prog_1_method_22_code
def yX10_clears : MethodName := ⟨RX10, "clears", "()I"⟩
abbrev cX10_plan : ByteArray := prog_1_method_23_code
def yX10_plan : MethodName := ⟨RX10, "plan", "(I)I"⟩
abbrev cX10_latest : ByteArray := prog_1_method_24_code
def yX10_latest : MethodName := ⟨RX10, "latest", "(I)I"⟩
abbrev cX10_lanes : ByteArray := prog_1_method_25_code
def yX10_lanes : MethodName := ⟨RX10, "lanes", "(I)I"⟩
abbrev cX10_safest : ByteArray := prog_1_method_26_code
def yX10_safest : MethodName := ⟨RX10, "safest", "(I)I"⟩
abbrev cX10_late : ByteArray := prog_1_method_27_code
def yX10_late : MethodName := ⟨RX10, "late", "(I)I"⟩
abbrev cX10_comes : ByteArray := prog_1_method_28_code
def yX10_comes : MethodName := ⟨RX10, "comes", "(I)I"⟩
abbrev cX10_relay : ByteArray := prog_1_method_29_code
def yX10_relay : MethodName := ⟨RX10, "relay", "(I)I"⟩
abbrev cX10_fewest : ByteArray := prog_1_method_30_code
def yX10_fewest : MethodName := ⟨RX10, "fewest", "(I)I"⟩
abbrev cX10_word : ByteArray := prog_1_method_31_code
def yX10_word : MethodName := ⟨RX10, "word", "(II)I"⟩
abbrev cX10_survives : ByteArray := prog_1_method_32_code
def yX10_survives : MethodName := ⟨RX10, "survives", "(II)I"⟩
abbrev cX10_lives : ByteArray := prog_1_method_33_code
def yX10_lives : MethodName := ⟨RX10, "lives", "(I)I"⟩
abbrev cX10_shares : ByteArray := prog_1_method_34_code
def yX10_shares : MethodName := ⟨RX10, "shares", "(I)I"⟩
abbrev cX10_fast : ByteArray := prog_1_method_35_code
def yX10_fast : MethodName := ⟨RX10, "fast", "(I)I"⟩
abbrev cX10_seen : ByteArray := prog_1_method_36_code
def yX10_seen : MethodName := ⟨RX10, "seen", "(II)I"⟩
abbrev cX10_forget : ByteArray := prog_1_method_37_code
def yX10_forget : MethodName := ⟨RX10, "forget", "()I"⟩
abbrev cX10_ordered : ByteArray := prog_1_method_38_code
def yX10_ordered : MethodName := ⟨RX10, "ordered", "()I"⟩
abbrev cX10_unsure : ByteArray := prog_1_method_39_code
def yX10_unsure : MethodName := ⟨RX10, "unsure", "()I"⟩
abbrev cX10_boy : ByteArray := prog_1_method_40_code
def yX10_boy : MethodName := ⟨RX10, "boy", "(II)I"⟩
abbrev cX10_meets : ByteArray := prog_1_method_41_code
def yX10_meets : MethodName := ⟨RX10, "meets", "(I)I"⟩
abbrev cX10_knows : ByteArray := prog_1_method_42_code
def yX10_knows : MethodName := ⟨RX10, "knows", "(II)I"⟩
abbrev cX10_mutiny : ByteArray := prog_1_method_43_code
def yX10_mutiny : MethodName := ⟨RX10, "mutiny", "(III)I"⟩
abbrev cX10_chance : ByteArray := prog_1_method_44_code
def yX10_chance : MethodName := ⟨RX10, "chance", "(III)I"⟩
abbrev cX10_voyages : ByteArray := prog_1_method_45_code
def yX10_voyages : MethodName := ⟨RX10, "voyages", "(II)I"⟩
abbrev cX10_keep : ByteArray := prog_1_method_46_code
def yX10_keep : MethodName := ⟨RX10, "keep", "(I)Z"⟩
abbrev cX10_again : ByteArray := prog_1_method_47_code
def yX10_again : MethodName := ⟨RX10, "again", "(I)Z"⟩
abbrev cX10_count : ByteArray := prog_1_method_48_code
def yX10_count : MethodName := ⟨RX10, "count", "(I)I"⟩
abbrev cX10_row : ByteArray := prog_1_method_49_code
def yX10_row : MethodName := ⟨RX10, "row", "(I)J"⟩
abbrev cX10_isDigit : ByteArray := prog_1_method_50_code
def yX10_isDigit : MethodName := ⟨RX10, "isDigit", "(I)Z"⟩
abbrev cX10_readMesses : ByteArray := prog_1_method_51_code
def yX10_readMesses : MethodName := ⟨RX10, "readMesses", "()I"⟩
abbrev cX10_voyageFault : ByteArray := prog_1_method_52_code
def yX10_voyageFault : MethodName := ⟨RX10, "voyageFault", "()I"⟩
abbrev cX10_doVoyageSign : ByteArray := prog_1_method_53_code
def yX10_doVoyageSign : MethodName := ⟨RX10, "doVoyageSign", "()Z"⟩
abbrev cX10_put : ByteArray := prog_1_method_54_code
def yX10_put : MethodName := ⟨RX10, "put", "(III)I"⟩
abbrev cX10_entry : ByteArray := prog_1_method_55_code
def yX10_entry : MethodName := ⟨RX10, "entry", "(II)I"⟩
abbrev cX10_keepOnSea : ByteArray := prog_1_method_56_code
def yX10_keepOnSea : MethodName := ⟨RX10, "keepOnSea", "(I)I"⟩
abbrev cX10_delayAt : ByteArray := prog_1_method_57_code
def yX10_delayAt : MethodName := ⟨RX10, "delayAt", "(I)I"⟩
abbrev cX10_orderRefusal : ByteArray := prog_1_method_58_code
def yX10_orderRefusal : MethodName := ⟨RX10, "orderRefusal", "()I"⟩
abbrev cX10_giveOrder : ByteArray := prog_1_method_59_code
def yX10_giveOrder : MethodName := ⟨RX10, "giveOrder", "(I)I"⟩
abbrev cX10_passRefusal : ByteArray := prog_1_method_60_code
def yX10_passRefusal : MethodName := ⟨RX10, "passRefusal", "(III)I"⟩
abbrev cX10_moveFood : ByteArray := prog_1_method_61_code
def yX10_moveFood : MethodName := ⟨RX10, "moveFood", "(III)V"⟩
abbrev cX10_goStep : ByteArray := prog_1_method_62_code
def yX10_goStep : MethodName := ⟨RX10, "goStep", "()I"⟩
abbrev cX10_firstFree : ByteArray := prog_1_method_63_code
def yX10_firstFree : MethodName := ⟨RX10, "firstFree", "()I"⟩
abbrev cX10_lookAhead : ByteArray := prog_1_method_64_code
def yX10_lookAhead : MethodName := ⟨RX10, "lookAhead", "()V"⟩
abbrev cX10_rocksInLane : ByteArray := prog_1_method_65_code
def yX10_rocksInLane : MethodName := ⟨RX10, "rocksInLane", "(II)I"⟩
abbrev cX10_apart : ByteArray := prog_1_method_66_code
def yX10_apart : MethodName := ⟨RX10, "apart", "(I)I"⟩
abbrev cX10_widened : ByteArray := prog_1_method_67_code
def yX10_widened : MethodName := ⟨RX10, "widened", "(I)I"⟩
abbrev cX10_power : ByteArray := prog_1_method_68_code
def yX10_power : MethodName := ⟨RX10, "power", "(JI)J"⟩
abbrev cX10_likelyWord : ByteArray := prog_1_method_69_code
def yX10_likelyWord : MethodName := ⟨RX10, "likelyWord", "(II)J"⟩
abbrev cX10_lastsFor : ByteArray := prog_1_method_70_code
def yX10_lastsFor : MethodName := ⟨RX10, "lastsFor", "(II)I"⟩
abbrev cX10_foodLeft : ByteArray := prog_1_method_71_code
def yX10_foodLeft : MethodName := ⟨RX10, "foodLeft", "(II)I"⟩
abbrev cX10_weighPassing : ByteArray := prog_1_method_72_code
def yX10_weighPassing : MethodName := ⟨RX10, "weighPassing", "()V"⟩
abbrev cX10_leastPassing : ByteArray := prog_1_method_73_code
def yX10_leastPassing : MethodName := ⟨RX10, "leastPassing", "(II)I"⟩
abbrev cX10_choosePassing : ByteArray := prog_1_method_74_code
def yX10_choosePassing : MethodName := ⟨RX10, "choosePassing", "()I"⟩
abbrev cX10_lap : ByteArray := prog_1_method_75_code
def yX10_lap : MethodName := ⟨RX10, "lap", "()I"⟩
abbrev cX10_cellAfter : ByteArray := prog_1_method_76_code
def yX10_cellAfter : MethodName := ⟨RX10, "cellAfter", "(I)I"⟩
abbrev cX10_holdsThen : ByteArray := prog_1_method_77_code
def yX10_holdsThen : MethodName := ⟨RX10, "holdsThen", "(IIII)I"⟩
abbrev cX10_wantsAnother : ByteArray := prog_1_method_78_code
def yX10_wantsAnother : MethodName := ⟨RX10, "wantsAnother", "(IIII)Z"⟩
def RX11 : String := "NobodyBeenAftModel"
def TX11 : u_T := fun k => match k with
  | 0 => ("NobodyBeenAftModel", "thrown", "I", false)
  | 1 => ("NobodyBeenAftModel", "rows", "I", false)
  | 2 => ("NobodyBeenAftModel", "row", "[J", true)
  | 3 => ("NobodyBeenAftModel", "cells", "I", false)
  | 4 => ("NobodyBeenAftModel", "posts", "I", false)
  | 5 => ("NobodyBeenAftModel", "liars", "I", false)
  | 6 => ("NobodyBeenAftModel", "rocks", "I", false)
  | 7 => ("NobodyBeenAftModel", "messes", "I", false)
  | 8 => ("NobodyBeenAftModel", "changes", "I", false)
  | 9 => ("NobodyBeenAftModel", "postCell", "[I", true)
  | 10 => ("NobodyBeenAftModel", "lies", "[Z", true)
  | 11 => ("NobodyBeenAftModel", "rockMile", "[I", true)
  | 12 => ("NobodyBeenAftModel", "rockLane", "[I", true)
  | 13 => ("NobodyBeenAftModel", "eats", "[I", true)
  | 14 => ("NobodyBeenAftModel", "now", "[I", true)
  | 15 => ("NobodyBeenAftModel", "then", "[I", true)
  | 16 => ("NobodyBeenAftModel", "tape", "[I", true)
  | 17 => ("NobodyBeenAftModel", "taped", "I", false)
  | 18 => ("NobodyBeenAftModel", "at", "I", false)
  | 19 => ("NobodyBeenAftModel", "to", "I", false)
  | 20 => ("NobodyBeenAftModel", "nest", "I", false)
  | 21 => ("NobodyBeenAftModel", "read", "[I", true)
  | 22 => ("NobodyBeenAftModel", "readMany", "I", false)
  | 23 => ("NobodyBeenAftModel", "code", "[I", true)
  | 24 => ("NobodyBeenAftModel", "readCode", "[I", true)
  | 25 => ("NobodyBeenAftModel", "codeLong", "I", false)
  | 26 => ("NobodyBeenAftModel", "readLong", "I", false)
  | 27 => ("NobodyBeenAftModel", "stack", "[I", true)
  | 28 => ("NobodyBeenAftModel", "asked", "[I", true)
  | 29 => ("NobodyBeenAftModel", "undos", "I", false)
  | 30 => ("NobodyBeenAftModel", "undone", "[I", true)
  | 31 => ("NobodyBeenAftModel", "hitMany", "I", false)
  | 32 => ("NobodyBeenAftModel", "hungryMany", "I", false)
  | 33 => ("NobodyBeenAftModel", "actSign", "[I", true)
  | 34 => ("NobodyBeenAftModel", "actOne", "[I", true)
  | 35 => ("NobodyBeenAftModel", "acts", "I", false)
  | 36 => ("NobodyBeenAftModel", "choice", "[I", true)
  | 37 => ("NobodyBeenAftModel", "least", "[I", true)
  | 38 => ("NobodyBeenAftModel", "leastNext", "[I", true)
  | 39 => ("NobodyBeenAftModel", "up", "J", false)
  | 40 => ("NobodyBeenAftModel", "down", "J", false)
  | 41 => ("NobodyBeenAftModel", "yet", "[I", true)
  | 42 => ("NobodyBeenAftModel", "sights", "I", false)
  | 43 => ("NobodyBeenAftModel", "sightStep", "[I", true)
  | 44 => ("NobodyBeenAftModel", "sightLane", "[I", true)
  | 45 => ("NobodyBeenAftModel", "many", "[I", true)
  | 46 => ("NobodyBeenAftModel", "any", "[Z", true)
  | 47 => ("NobodyBeenAftModel", "reached", "[Z", true)
  | 48 => ("NobodyBeenAftModel", "boyAt", "I", false)
  | 49 => ("NobodyBeenAftModel", "boyWay", "I", false)
  | 50 => ("NobodyBeenAftModel", "isKept", "[Z", true)
  | 51 => ("NobodyBeenAftModel", "keptChanges", "[I", true)
  | _ => ("NobodyBeenAftModel", "kept", "[I", true)
def tyX11 : Nat → FieldType := fun k => match k with
  | 0 => .int
  | 1 => .int
  | 2 => .array .long
  | 3 => .int
  | 4 => .int
  | 5 => .int
  | 6 => .int
  | 7 => .int
  | 8 => .int
  | 9 => .array .int
  | 10 => .array .boolean
  | 11 => .array .int
  | 12 => .array .int
  | 13 => .array .int
  | 14 => .array .int
  | 15 => .array .int
  | 16 => .array .int
  | 17 => .int
  | 18 => .int
  | 19 => .int
  | 20 => .int
  | 21 => .array .int
  | 22 => .int
  | 23 => .array .int
  | 24 => .array .int
  | 25 => .int
  | 26 => .int
  | 27 => .array .int
  | 28 => .array .int
  | 29 => .int
  | 30 => .array .int
  | 31 => .int
  | 32 => .int
  | 33 => .array .int
  | 34 => .array .int
  | 35 => .int
  | 36 => .array .int
  | 37 => .array .int
  | 38 => .array .int
  | 39 => .long
  | 40 => .long
  | 41 => .array .int
  | 42 => .int
  | 43 => .array .int
  | 44 => .array .int
  | 45 => .array .int
  | 46 => .array .boolean
  | 47 => .array .boolean
  | 48 => .int
  | 49 => .int
  | 50 => .array .boolean
  | 51 => .array .int
  | _ => .array .int
abbrev wsX110 : List Cond := u_ws RX11 TX11 53
theorem nmX11 : ∀ a, a < 53 → ∀ b, b < 53 → a ≠ b → (TX11 a).2.1 ≠ (TX11 b).2.1 := by decide +kernel
theorem tyX11_ok : ∀ k, k < 53 → parseFieldDescriptor (TX11 k).2.2.1 = some (tyX11 k) := by decide +kernel
abbrev cX11_init : ByteArray := prog_13_method_1_code
def yX11_init : MethodName := ⟨RX11, "<init>", "()V"⟩
abbrev cX11_refuse : ByteArray := prog_13_method_3_code
def yX11_refuse : MethodName := ⟨RX11, "refuse", "()I"⟩
abbrev cX11_in : ByteArray := prog_13_method_4_code
def yX11_in : MethodName := ⟨RX11, "in", "(JJJ)Z"⟩
abbrev cX11_has : ByteArray := prog_13_method_5_code
def yX11_has : MethodName := ⟨RX11, "has", "(II)Z"⟩
abbrev cX11_flag : ByteArray := prog_13_method_6_code
def yX11_flag : MethodName := ⟨RX11, "flag", "(Z)I"⟩
abbrev cX11_common : ByteArray := prog_13_method_7_code
def yX11_common : MethodName := ⟨RX11, "common", "(JJ)J"⟩
abbrev cX11_enters : ByteArray := prog_13_method_8_code
def yX11_enters : MethodName := ⟨RX11, "enters", "(J)V"⟩
abbrev cX11_tellsFraction : ByteArray := prog_13_method_9_code
def yX11_tellsFraction : MethodName := ⟨RX11, "tellsFraction", "(JJ)V"⟩
abbrev cX11_isMess : ByteArray := prog_13_method_10_code
def yX11_isMess : MethodName := ⟨RX11, "isMess", "(I)Z"⟩
abbrev cX11_sign : ByteArray := prog_13_method_11_code
def yX11_sign : MethodName := ⟨RX11, "sign", "(I)I"⟩
abbrev cX11_end : ByteArray := prog_13_method_12_code
def yX11_end : MethodName := ⟨RX11, "end", "(I)Z"⟩
abbrev cX11_begins : ByteArray := prog_13_method_13_code
def yX11_begins : MethodName := ⟨RX11, "begins", "(I)I"⟩
abbrev cX11_takes : ByteArray := prog_13_method_14_code
def yX11_takes : MethodName := ⟨RX11, "takes", "(I)Z"⟩
abbrev cX11_isDigit : ByteArray := prog_13_method_15_code
def yX11_isDigit : MethodName := ⟨RX11, "isDigit", "()Z"⟩
abbrev cX11_among : ByteArray := prog_13_method_16_code
def yX11_among : MethodName := ⟨RX11, "among", "(Ljava/lang/String;)I"⟩
abbrev cX11_takesOf : ByteArray := prog_13_method_17_code
def yX11_takesOf : MethodName := ⟨RX11, "takesOf", "(Ljava/lang/String;)I"⟩
abbrev cX11_number : ByteArray := prog_13_method_18_code
def yX11_number : MethodName := ⟨RX11, "number", "(I)I"⟩
abbrev cX11_numberIn : ByteArray := prog_13_method_19_code
def yX11_numberIn : MethodName := ⟨RX11, "numberIn", "(III)I"⟩
abbrev cX11_faultOf : ByteArray := prog_13_method_20_code
def yX11_faultOf : MethodName := ⟨RX11, "faultOf", "(IIZ)I"⟩
abbrev cX11_ship : ByteArray := prog_13_method_21_code
def yX11_ship : MethodName := ⟨RX11, "ship", "()I"⟩
abbrev cX11_readsRock : ByteArray := prog_13_method_22_code
def yX11_readsRock : MethodName := ⟨RX11, "readsRock", "()Z"⟩
abbrev cX11_readsMess : ByteArray := prog_13_method_23_code
def yX11_readsMess : MethodName := ⟨RX11, "readsMess", "()Z"⟩
abbrev cX11_rocks : ByteArray := prog_13_method_24_code
def yX11_rocks : MethodName := ⟨RX11, "rocks", "()I"⟩
abbrev cX11_messes : ByteArray := prog_13_method_25_code
def yX11_messes : MethodName := ⟨RX11, "messes", "()I"⟩
abbrev cX11_codes : ByteArray := prog_13_method_26_code
def yX11_codes : MethodName := ⟨RX11, "codes", "(I)V"⟩
abbrev cX11_readsThing : ByteArray := prog_13_method_27_code
def yX11_readsThing : MethodName := ⟨RX11, "readsThing", "()Z"⟩
abbrev cX11_readsRank : ByteArray := prog_13_method_28_code
def yX11_readsRank : MethodName := ⟨RX11, "readsRank", "(I)Z"⟩
abbrev cX11_rule : ByteArray := prog_13_method_29_code
def yX11_rule : MethodName := ⟨RX11, "rule", "()I"⟩
abbrev cX11_worked : ByteArray := prog_13_method_30_code
def yX11_worked : MethodName := ⟨RX11, "worked", "(III)I"⟩
abbrev cX11_ruled : ByteArray := prog_13_method_31_code
def yX11_ruled : MethodName := ⟨RX11, "ruled", "()I"⟩
abbrev cX11_delayAt : ByteArray := prog_13_method_32_code
def yX11_delayAt : MethodName := ⟨RX11, "delayAt", "(I)I"⟩
abbrev cX11_turned : ByteArray := prog_13_method_33_code
def yX11_turned : MethodName := ⟨RX11, "turned", "(I)I"⟩
abbrev cX11_post : ByteArray := prog_13_method_34_code
def yX11_post : MethodName := ⟨RX11, "post", "(II)I"⟩
abbrev cX11_rock : ByteArray := prog_13_method_35_code
def yX11_rock : MethodName := ⟨RX11, "rock", "(II)I"⟩
abbrev cX11_mess : ByteArray := prog_13_method_36_code
def yX11_mess : MethodName := ⟨RX11, "mess", "(II)I"⟩
abbrev cX11_isAhead : ByteArray := prog_13_method_37_code
def yX11_isAhead : MethodName := ⟨RX11, "isAhead", "(II)Z"⟩
abbrev cX11_way : ByteArray := prog_13_method_38_code
def yX11_way : MethodName := ⟨RX11, "way", "(II)I"⟩
abbrev cX11_sheet : ByteArray := prog_13_method_39_code
def yX11_sheet : MethodName := ⟨RX11, "sheet", "(IIII)I"⟩
abbrev cX11_putsBy : ByteArray := prog_13_method_40_code
def yX11_putsBy : MethodName := ⟨RX11, "putsBy", "()V"⟩
abbrev cX11_adds : ByteArray := prog_13_method_41_code
def yX11_adds : MethodName := ⟨RX11, "adds", "(I)I"⟩
abbrev cX11_counts : ByteArray := prog_13_method_42_code
def yX11_counts : MethodName := ⟨RX11, "counts", "(I)I"⟩
abbrev cX11_undo : ByteArray := prog_13_method_43_code
def yX11_undo : MethodName := ⟨RX11, "undo", "()I"⟩
abbrev cX11_put : ByteArray := prog_13_method_44_code
def yX11_put : MethodName := ⟨RX11, "put", "(I)I"⟩
abbrev cX11_doesDue : ByteArray := prog_13_method_45_code
def yX11_doesDue : MethodName := ⟨RX11, "doesDue", "([I)V"⟩
abbrev cX11_hitsAt : ByteArray := prog_13_method_46_code
def yX11_hitsAt : MethodName := ⟨RX11, "hitsAt", "(II)I"⟩
abbrev cX11_stepGoes : ByteArray := prog_13_method_47_code
def yX11_stepGoes : MethodName := ⟨RX11, "stepGoes", "([I)V"⟩
abbrev cX11_gives : ByteArray := prog_13_method_48_code
def yX11_gives : MethodName := ⟨RX11, "gives", "([II)I"⟩
abbrev cX11_passes : ByteArray := prog_13_method_49_code
def yX11_passes : MethodName := ⟨RX11, "passes", "(III)I"⟩
abbrev cX11_cooks : ByteArray := prog_13_method_50_code
def yX11_cooks : MethodName := ⟨RX11, "cooks", "(II)I"⟩
abbrev cX11_delay : ByteArray := prog_13_method_51_code
def yX11_delay : MethodName := ⟨RX11, "delay", "()I"⟩
abbrev cX11_order : ByteArray := prog_13_method_52_code
def yX11_order : MethodName := ⟨RX11, "order", "(I)I"⟩
abbrev cX11_pass : ByteArray := prog_13_method_53_code
def yX11_pass : MethodName := ⟨RX11, "pass", "(III)I"⟩
abbrev cX11_cook : ByteArray := prog_13_method_54_code
def yX11_cook : MethodName := ⟨RX11, "cook", "(II)I"⟩
abbrev cX11_startsCounting : ByteArray := prog_13_method_55_code
def yX11_startsCounting : MethodName := ⟨RX11, "startsCounting", "()V"⟩
abbrev cX11_steps : ByteArray := prog_13_method_56_code
def yX11_steps : MethodName := ⟨RX11, "steps", "(I)I"⟩
abbrev cX11_readsAct : ByteArray := prog_13_method_57_code
def yX11_readsAct : MethodName := ⟨RX11, "readsAct", "()Z"⟩
abbrev cX11_does : ByteArray := prog_13_method_58_code
def yX11_does : MethodName := ⟨RX11, "does", "(I)Z"⟩
abbrev cX11_voyage : ByteArray := prog_13_method_59_code
def yX11_voyage : MethodName := ⟨RX11, "voyage", "()I"⟩
abbrev cX11_puts : ByteArray := prog_13_method_60_code
def yX11_puts : MethodName := ⟨RX11, "puts", "()V"⟩
abbrev cX11_lane : ByteArray := prog_13_method_61_code
def yX11_lane : MethodName := ⟨RX11, "lane", "(I)I"⟩
abbrev cX11_strikes : ByteArray := prog_13_method_62_code
def yX11_strikes : MethodName := ⟨RX11, "strikes", "()I"⟩
abbrev cX11_moved : ByteArray := prog_13_method_63_code
def yX11_moved : MethodName := ⟨RX11, "moved", "(II)I"⟩
abbrev cX11_movedByDue : ByteArray := prog_13_method_64_code
def yX11_movedByDue : MethodName := ⟨RX11, "movedByDue", "(II)I"⟩
abbrev cX11_mayGive : ByteArray := prog_13_method_65_code
def yX11_mayGive : MethodName := ⟨RX11, "mayGive", "(I)Z"⟩
abbrev cX11_comesAt : ByteArray := prog_13_method_66_code
def yX11_comesAt : MethodName := ⟨RX11, "comesAt", "(II)Z"⟩
abbrev cX11_clears : ByteArray := prog_13_method_67_code
def yX11_clears : MethodName := ⟨RX11, "clears", "()I"⟩
abbrev cX11_goesBy : ByteArray := prog_13_method_68_code
def yX11_goesBy : MethodName := ⟨RX11, "goesBy", "(IZ)V"⟩
abbrev cX11_laysLeast : ByteArray := prog_13_method_69_code
def yX11_laysLeast : MethodName := ⟨RX11, "laysLeast", "(I)V"⟩
abbrev cX11_fewestOrders : ByteArray := prog_13_method_70_code
def yX11_fewestOrders : MethodName := ⟨RX11, "fewestOrders", "(I)I"⟩
abbrev cX11_choosesAny : ByteArray := prog_13_method_71_code
def yX11_choosesAny : MethodName := ⟨RX11, "choosesAny", "(I)V"⟩
abbrev cX11_plan : ByteArray := prog_13_method_72_code
def yX11_plan : MethodName := ⟨RX11, "plan", "(I)I"⟩
abbrev cX11_latest : ByteArray := prog_13_method_73_code
def yX11_latest : MethodName := ⟨RX11, "latest", "(I)I"⟩
abbrev cX11_lanes : ByteArray := prog_13_method_74_code
def yX11_lanes : MethodName := ⟨RX11, "lanes", "(I)I"⟩
abbrev cX11_rocksIn : ByteArray := prog_13_method_75_code
def yX11_rocksIn : MethodName := ⟨RX11, "rocksIn", "(II)I"⟩
abbrev cX11_safest : ByteArray := prog_13_method_76_code
def yX11_safest : MethodName := ⟨RX11, "safest", "(I)I"⟩
abbrev cX11_late : ByteArray := prog_13_method_77_code
def yX11_late : MethodName := ⟨RX11, "late", "(I)I"⟩
abbrev cX11_comes : ByteArray := prog_13_method_78_code
def yX11_comes : MethodName := ⟨RX11, "comes", "(I)I"⟩
abbrev cX11_postsFor : ByteArray := prog_13_method_79_code
def yX11_postsFor : MethodName := ⟨RX11, "postsFor", "(I)I"⟩
abbrev cX11_relay : ByteArray := prog_13_method_80_code
def yX11_relay : MethodName := ⟨RX11, "relay", "(I)I"⟩
abbrev cX11_fewest : ByteArray := prog_13_method_81_code
def yX11_fewest : MethodName := ⟨RX11, "fewest", "(I)I"⟩
abbrev cX11_bets : ByteArray := prog_13_method_82_code
def yX11_bets : MethodName := ⟨RX11, "bets", "(II)V"⟩
abbrev cX11_word : ByteArray := prog_13_method_83_code
def yX11_word : MethodName := ⟨RX11, "word", "(II)I"⟩
abbrev cX11_survives : ByteArray := prog_13_method_84_code
def yX11_survives : MethodName := ⟨RX11, "survives", "(II)I"⟩
abbrev cX11_lastsFor : ByteArray := prog_13_method_85_code
def yX11_lastsFor : MethodName := ⟨RX11, "lastsFor", "(II)I"⟩
abbrev cX11_lives : ByteArray := prog_13_method_86_code
def yX11_lives : MethodName := ⟨RX11, "lives", "(I)I"⟩
abbrev cX11_spare : ByteArray := prog_13_method_87_code
def yX11_spare : MethodName := ⟨RX11, "spare", "(II)I"⟩
abbrev cX11_laysFlows : ByteArray := prog_13_method_88_code
def yX11_laysFlows : MethodName := ⟨RX11, "laysFlows", "(I)V"⟩
abbrev cX11_flow : ByteArray := prog_13_method_89_code
def yX11_flow : MethodName := ⟨RX11, "flow", "(II)I"⟩
abbrev cX11_shares : ByteArray := prog_13_method_90_code
def yX11_shares : MethodName := ⟨RX11, "shares", "(I)I"⟩
abbrev cX11_fast : ByteArray := prog_13_method_91_code
def yX11_fast : MethodName := ⟨RX11, "fast", "(I)I"⟩
abbrev cX11_seenIn : ByteArray := prog_13_method_92_code
def yX11_seenIn : MethodName := ⟨RX11, "seenIn", "(I)I"⟩
abbrev cX11_seen : ByteArray := prog_13_method_93_code
def yX11_seen : MethodName := ⟨RX11, "seen", "(II)I"⟩
abbrev cX11_forget : ByteArray := prog_13_method_94_code
def yX11_forget : MethodName := ⟨RX11, "forget", "()I"⟩
abbrev cX11_lastSeen : ByteArray := prog_13_method_95_code
def yX11_lastSeen : MethodName := ⟨RX11, "lastSeen", "()I"⟩
abbrev cX11_isFine : ByteArray := prog_13_method_96_code
def yX11_isFine : MethodName := ⟨RX11, "isFine", "(II)Z"⟩
abbrev cX11_laysSeen : ByteArray := prog_13_method_97_code
def yX11_laysSeen : MethodName := ⟨RX11, "laysSeen", "(I)V"⟩
abbrev cX11_ordered : ByteArray := prog_13_method_98_code
def yX11_ordered : MethodName := ⟨RX11, "ordered", "()I"⟩
abbrev cX11_unsure : ByteArray := prog_13_method_99_code
def yX11_unsure : MethodName := ⟨RX11, "unsure", "()I"⟩
abbrev cX11_boyBegins : ByteArray := prog_13_method_100_code
def yX11_boyBegins : MethodName := ⟨RX11, "boyBegins", "(II)V"⟩
abbrev cX11_boyGoes : ByteArray := prog_13_method_101_code
def yX11_boyGoes : MethodName := ⟨RX11, "boyGoes", "()V"⟩
abbrev cX11_canRest : ByteArray := prog_13_method_102_code
def yX11_canRest : MethodName := ⟨RX11, "canRest", "(I)Z"⟩
abbrev cX11_boy : ByteArray := prog_13_method_103_code
def yX11_boy : MethodName := ⟨RX11, "boy", "(II)I"⟩
abbrev cX11_meets : ByteArray := prog_13_method_104_code
def yX11_meets : MethodName := ⟨RX11, "meets", "(I)I"⟩
abbrev cX11_knows : ByteArray := prog_13_method_105_code
def yX11_knows : MethodName := ⟨RX11, "knows", "(II)I"⟩
abbrev cX11_keeps : ByteArray := prog_13_method_106_code
def yX11_keeps : MethodName := ⟨RX11, "keeps", "(IIII)I"⟩
abbrev cX11_isRest : ByteArray := prog_13_method_107_code
def yX11_isRest : MethodName := ⟨RX11, "isRest", "(IIII)Z"⟩
abbrev cX11_mutiny : ByteArray := prog_13_method_108_code
def yX11_mutiny : MethodName := ⟨RX11, "mutiny", "(III)I"⟩
abbrev cX11_chance : ByteArray := prog_13_method_109_code
def yX11_chance : MethodName := ⟨RX11, "chance", "(III)I"⟩
abbrev cX11_voyages : ByteArray := prog_13_method_110_code
def yX11_voyages : MethodName := ⟨RX11, "voyages", "(II)I"⟩
abbrev cX11_keep : ByteArray := prog_13_method_111_code
def yX11_keep : MethodName := ⟨RX11, "keep", "(I)Z"⟩
abbrev cX11_again : ByteArray := prog_13_method_112_code
def yX11_again : MethodName := ⟨RX11, "again", "(I)Z"⟩
abbrev cX11_count : ByteArray := prog_13_method_113_code
def yX11_count : MethodName := ⟨RX11, "count", "(I)I"⟩
abbrev cX11_row : ByteArray := prog_13_method_114_code
def yX11_row : MethodName := ⟨RX11, "row", "(I)J"⟩
def RJx145de : String := "java/io/Serializable"
def RJx9f9b0 : String := "java/lang/CharSequence"
def RJxb160c : String := "java/lang/Comparable"
def RJ6 : String := "java/lang/Integer"
abbrev cJ6_bitCount_0f7a4 : ByteArray := prog_18_method_49_code
def yJ6_bitCount_0f7a4 : MethodName := ⟨RJ6, "bitCount", "(I)I"⟩
def RJ9 : String := "java/lang/Math"
abbrev cJ9_abs_0f7a4 : ByteArray := prog_19_method_59_code
def yJ9_abs_0f7a4 : MethodName := ⟨RJ9, "abs", "(I)I"⟩
abbrev cJ9_max_7cf53 : ByteArray := prog_19_method_65_code
def yJ9_max_7cf53 : MethodName := ⟨RJ9, "max", "(II)I"⟩
abbrev cJ9_min_7cf53 : ByteArray := prog_19_method_69_code
def yJ9_min_7cf53 : MethodName := ⟨RJ9, "min", "(II)I"⟩
def RJ0 : String := "java/lang/String"
abbrev cJ0_length_8abf5 : ByteArray := prog_21_method_54_code
def yJ0_length_8abf5 : MethodName := ⟨RJ0, "length", "()I"⟩
abbrev cJ0_charAt_5068e : ByteArray := prog_21_method_56_code
def yJ0_charAt_5068e : MethodName := ⟨RJ0, "charAt", "(I)C"⟩
abbrev cJ0_coder_7d493 : ByteArray := prog_21_method_152_code
def yJ0_coder_7d493 : MethodName := ⟨RJ0, "coder", "()B"⟩
abbrev cJ0_isLatin1_aae02 : ByteArray := prog_21_method_154_code
def yJ0_isLatin1_aae02 : MethodName := ⟨RJ0, "isLatin1", "()Z"⟩
abbrev cJ0_checkIndex_df160 : ByteArray := prog_21_method_155_code
def yJ0_checkIndex_df160 : MethodName := ⟨RJ0, "checkIndex", "(II)V"⟩
def RJ1 : String := "java/lang/StringLatin1"
abbrev cJ1_charAt_3b067 : ByteArray := prog_22_method_2_code
def yJ1_charAt_3b067 : MethodName := ⟨RJ1, "charAt", "([BI)C"⟩
def RJ2 : String := "java/lang/StringUTF16"
abbrev cJ2_getChar_3b067 : ByteArray := prog_23_method_5_code
def yJ2_getChar_3b067 : MethodName := ⟨RJ2, "getChar", "([BI)C"⟩
abbrev cJ2_length_9d52b : ByteArray := prog_23_method_6_code
def yJ2_length_9d52b : MethodName := ⟨RJ2, "length", "([B)I"⟩
abbrev cJ2_charAt_3b067 : ByteArray := prog_23_method_83_code
def yJ2_charAt_3b067 : MethodName := ⟨RJ2, "charAt", "([BI)C"⟩
abbrev cJ2_checkIndex_2214a : ByteArray := prog_23_method_91_code
def yJ2_checkIndex_2214a : MethodName := ⟨RJ2, "checkIndex", "(I[B)V"⟩
def RJ10 : String := "java/lang/System"
def RJxfd54e : String := "java/lang/constant/Constable"
def RJx3cf43 : String := "java/lang/constant/ConstantDesc"
def RJ7 : String := "java/util/Arrays"
abbrev cJ7_fill_53178 : ByteArray := prog_28_method_103_code
def yJ7_fill_53178 : MethodName := ⟨RJ7, "fill", "([II)V"⟩
def RJ3 : String := "jdk/internal/util/Preconditions"
abbrev cJ3_checkIndex_8e157 : ByteArray := prog_30_method_11_code
def yJ3_checkIndex_8e157 : MethodName := ⟨RJ3, "checkIndex", "(IILjava/util/function/BiFunction;)I"⟩
def RL : String := "NobodyBeenAftLaw"
abbrev cL_post : ByteArray := method_3_code
def yL_post : MethodName := ⟨RL, "post", "(LNobodyBeenAft;II[J)I"⟩
abbrev cL_rock : ByteArray := method_4_code
def yL_rock : MethodName := ⟨RL, "rock", "(LNobodyBeenAft;II[J)I"⟩
abbrev cL_mess : ByteArray := method_5_code
def yL_mess : MethodName := ⟨RL, "mess", "(LNobodyBeenAft;II[J)I"⟩
abbrev cL_way : ByteArray := method_6_code
def yL_way : MethodName := ⟨RL, "way", "(LNobodyBeenAft;II[J)I"⟩
abbrev cL_row : ByteArray := method_7_code
def yL_row : MethodName := ⟨RL, "row", "(LNobodyBeenAft;I[J)I"⟩
abbrev cL_law : ByteArray := code
def yL_law : MethodName := ⟨RL, "law", "([I)Z"⟩
abbrev vwCl : List vw_C := [(RX0, TX0, 6), (RX1, TX1, 5), (RX2, TX2, 3), (RX3, TX3, 2), (RX4, TX4, 4), (RX5, TX5, 5), (RX6, TX6, 5), (RX7, TX7, 3), (RX8, TX8, 9), (RX9, TX9, 6), (RX10, TX10, 17), (RX11, TX11, 53)]
end
section
/-! ABSTRACT HEAPS, and a fuel-bounded weakest precondition over decoded instructions -/
/-- shapes (k < 100: an array of type k and its length; k ≥ 100: an object of class k - 100 and how many fields), ints, longs, references -/
abbrev aH : Type := List (Nat × Nat) × (Nat → Nat → Int32) × (Nat → Nat → Int64) × (Nat → Nat → Option Nat)
def aI (h : aH) : Nat → Nat → Int32 := h.2.1
def aJ (h : aH) : Nat → Nat → Int64 := h.2.2.1
def aR (h : aH) : Nat → Nat → Option Nat := h.2.2.2
def a_up {α : Type} (f : Nat → α) (k : Nat) (v : α) : Nat → α := fun j => if j = k then v else f j
def sI (h : aH) (a k : Nat) (v : Int32) : aH := (h.1, a_up h.2.1 a (upd (h.2.1 a) k v), h.2.2.1, h.2.2.2)
def sJ (h : aH) (a k : Nat) (v : Int64) : aH := (h.1, h.2.1, a_up h.2.2.1 a (vp_updL (h.2.2.1 a) k v), h.2.2.2)
def sR (h : aH) (a k : Nat) (v : Option Nat) : aH := (h.1, h.2.1, h.2.2.1, a_up h.2.2.2 a (va_up (h.2.2.2 a) k v))
def sC (h : aH) (a0 sp a1 dp n : Nat) : aH := (h.1, a_up h.2.1 a1 (va_cpy (h.2.1 a0) (h.2.1 a1) sp dp n), h.2.2.1, h.2.2.2)
/-- one cell more -/
def nO (h : aH) (s : Nat × Nat) : aH := (h.1 ++ [s], a_up h.2.1 h.1.length (fun _ => 0), a_up h.2.2.1 h.1.length (fun _ => 0), a_up h.2.2.2 h.1.length (fun _ => none))
/-- new T[n][m]: the outer array, then its rows -/
def nOs (h : aH) (s : Nat × Nat) : Nat → aH
  | 0 => h
  | i + 1 => nO (nOs h s i) s
def nM (h : aH) (t0 t1 n m : Nat) : aH :=
  let g := nOs (nO h (t0, n)) (t1, m) n
  (g.1, g.2.1, g.2.2.1, a_up g.2.2.2 h.1.length (fun i => if i < n then some (h.1.length + 1 + i) else none))
def cv (ad : Nat → Nat) (v : Value) : Value := match v with
  | .ref a => .ref (ad a)
  | v => v
/-- a value that names a cell that is there -/
def okv (h : aH) (v : Value) : Bool := match v with
  | .ref a => decide (a < h.1.length) || decide (1000000 ≤ a)
  | _ => true
def lk (ls : List (Nat × Value)) (i : Nat) : Option Value := match ls with
  | [] => none
  | q :: r => if q.1 = i then some q.2 else lk r i
def so1 (ls : List (Nat × Value)) (i : Nat) (v : Value) : List (Nat × Value) := (i, v) :: ls.filter (fun q => !(q.1 == i) && !(q.1 + 1 == i && q.2.category == 2))
def so2 (ls : List (Nat × Value)) (i : Nat) (v : Value) : List (Nat × Value) := (i, v) :: ls.filter (fun q => !(q.1 == i) && (!(q.1 == i + 1) && !(q.1 + 1 == i && q.2.category == 2)))
/-- the kinds of the fields: 0 int, 1 long, 2 reference, 3 boolean -/
def fv (h : aH) (a k t : Nat) : Value := match t with
  | 1 => .long (aJ h a k)
  | 2 => va_rf (aR h a k)
  | _ => .int (aI h a k)
abbrev KT : Type := Nat → List (Nat × Value) → List Value → aH → Nat → Nat → Prop
abbrev QT : Type := Option Value → aH → Prop
abbrev CT : Type := Nat → List Value → aH → Nat → Nat → QT → Prop
def p_i (st : List Value) (f : Int32 → List Value → Prop) : Prop := match st with
  | .int x :: r => f x r
  | _ => False
def p_ii (st : List Value) (f : Int32 → Int32 → List Value → Prop) : Prop := match st with
  | .int y :: .int x :: r => f x y r
  | _ => False
def p_l (st : List Value) (f : Int64 → List Value → Prop) : Prop := match st with
  | .long x :: r => f x r
  | _ => False
def p_ll (st : List Value) (f : Int64 → Int64 → List Value → Prop) : Prop := match st with
  | .long y :: .long x :: r => f x y r
  | _ => False
def p_r (st : List Value) (f : Nat → List Value → Prop) : Prop := match st with
  | .ref a :: r => f a r
  | _ => False
def p_ir (st : List Value) (f : Nat → Int32 → List Value → Prop) : Prop := match st with
  | .int i :: .ref a :: r => f a i r
  | _ => False
def p_iir (st : List Value) (f : Nat → Int32 → Int32 → List Value → Prop) : Prop := match st with
  | .int x :: .int i :: .ref a :: r => f a i x r
  | _ => False
def p_lir (st : List Value) (f : Nat → Int32 → Int64 → List Value → Prop) : Prop := match st with
  | .long x :: .int i :: .ref a :: r => f a i x r
  | _ => False
def p_rir (st : List Value) (f : Nat → Int32 → Nat → List Value → Prop) : Prop := match st with
  | .ref x :: .int i :: .ref a :: r => f a i x r
  | _ => False
def p_lr (st : List Value) (f : Nat → Int64 → List Value → Prop) : Prop := match st with
  | .long x :: .ref a :: r => f a x r
  | _ => False
def p_rr (st : List Value) (f : Nat → Nat → List Value → Prop) : Prop := match st with
  | .ref x :: .ref a :: r => f a x r
  | _ => False
def p_v (st : List Value) (f : Value → List Value → Prop) : Prop := match st with
  | v :: r => f v r
  | _ => False
def p_vv (st : List Value) (f : Value → Value → List Value → Prop) : Prop := match st with
  | v :: w :: r => f v w r
  | _ => False
def p_cp (st : List Value) (f : Nat → Int32 → Nat → Int32 → Int32 → List Value → Prop) : Prop := match st with
  | .int n :: .int dp :: .ref a1 :: .int sp :: .ref a0 :: r => f a0 sp a1 dp n r
  | _ => False
def l_i (v : Option Value) (f : Int32 → Prop) : Prop := match v with
  | some (.int x) => f x
  | _ => False
def l_l (v : Option Value) (f : Int64 → Prop) : Prop := match v with
  | some (.long x) => f x
  | _ => False
def l_r (v : Option Value) (f : Nat → Prop) : Prop := match v with
  | some (.ref x) => f x
  | _ => False
/-- a branch -/
def br (c : Prop) (x y : Prop) : Prop := (c → x) ∧ (¬ c → y)
def tg (pc : Nat) (off : Int) : Nat := ((pc : Int) + off).toNat
def icd (cd : ClassFile.Cond) (x y : Int32) : Prop := match cd with
  | .eq => x = y
  | .ne => ¬ x = y
  | .lt => x < y
  | .ge => y ≤ x
  | .gt => y < x
  | .le => x ≤ y
def swo (dflt lo : Int) (offs : List Int) (x : Int32) : Int := if x.toInt < lo then dflt else (offs[(x.toInt - lo).toNat]?).getD dflt
/-- a row of a method's code: its place, the instruction, what its pool entry means -/
abbrev AC : Type := List (Nat × Instr × Nat × Nat × Int)
def catsum (st : List Value) : Nat := (st.map fun v => v.category).sum
/-- how a call's answer goes on the stack -/
def psh (v : Option Value) (st : List Value) : List Value := v.toList ++ st
def argc (n : Nat) (st : List Value) : List Value := (st.take n).reverse
/-- how many fields a class has -/
def nfl : List Nat := [6, 5, 3, 2, 4, 5, 5, 3, 9, 6, 17, 53]
def nf (ci : Nat) : Nat := nfl.getD ci 0
/-- the receiver of a call, by its kind: 0 of a class, 2 and 4 a constructor's, 5 a text's -/
def rcv (r2 ci : Nat) (as : List Value) (h : aH) : Prop := match r2 with
  | 0 => ∃ b rs, as = .ref b :: rs ∧ h.1[b]? = some (100 + ci, nf ci)
  | 2 => ∃ b rs, as = .ref b :: rs
  | 4 => ∃ b rs, as = .ref b :: rs
  | 5 => ∃ b rs, as = .ref (1000000 + b) :: rs ∧ b < 6
  | _ => True
/-- the calls: r1 the method (or what is built in), r2 the kind, r3 how many arguments -/
def s_call (CL : CT) (K : KT) (r1 r2 : Nat) (r3 : Int) (pc : Nat) (ls : List (Nat × Value)) (st : List Value) (h : aH) (bc bs : Nat) : Prop :=
  match r2 with
  | 10 => p_ii st fun x y r => catsum r ≤ 8 ∧ K (pc + 3) ls (.int (if x < y then y else x) :: r) h bc bs
  | 11 => p_ii st fun x y r => catsum r ≤ 8 ∧ K (pc + 3) ls (.int (if y < x then y else x) :: r) h bc bs
  | 12 => p_i st fun x r => catsum r ≤ 8 ∧ K (pc + 3) ls (.int (if 0 ≤ x then x else 0 - x) :: r) h bc bs
  | 13 => p_cp st fun a0 sp a1 dp n r => catsum r ≤ 8 ∧ (∃ n0 n1, h.1[a0]? = some (0, n0) ∧ h.1[a1]? = some (0, n1) ∧ ¬ sp < 0 ∧ ¬ dp < 0 ∧ ¬ n < 0 ∧ sp.toNatClampNeg + n.toNatClampNeg ≤ n0 ∧ dp.toNatClampNeg + n.toNatClampNeg ≤ n1) ∧
      K (pc + 3) ls r (sC h a0 sp.toNatClampNeg a1 dp.toNatClampNeg n.toNatClampNeg) bc bs
  | 14 => p_r st fun _ r => catsum r ≤ 8 ∧ K (pc + 3) ls r h bc bs
  | _ => catsum (st.drop (r3 % 100).toNat) ≤ 8 ∧ (r3 % 100).toNat ≤ st.length ∧ rcv r2 (r3 / 100).toNat (argc (r3 % 100).toNat st) h ∧ ∃ mc ms, mc ≤ bc ∧ ms ≤ bs ∧ (mc = 0 ∨ ((ls.all fun q => okv h q.2) = true ∧ ((st.drop (r3 % 100).toNat).all fun v => okv h v) = true)) ∧
      CL r1 (argc (r3 % 100).toNat st) h mc ms (fun v h' => K (pc + 3) ls (psh v (st.drop (r3 % 100).toNat)) h' (bc - mc) (bs - ms))
def stp (CL : CT) (ret : Option FieldType) (Q : QT) (K : KT) (i : Instr) (r1 r2 : Nat) (r3 : Int) (pc : Nat) (ls : List (Nat × Value)) (st : List Value) (h : aH) (bc bs : Nat) : Prop :=
  match i with
  | .iconst n => K (pc + 1) ls (.int (Int32.ofInt n) :: st) h bc bs
  | .bipush n => K (pc + 2) ls (.int (Int8.ofInt n).toInt32 :: st) h bc bs
  | .sipush n => K (pc + 3) ls (.int (Int16.ofInt n).toInt32 :: st) h bc bs
  | .lconst n => K (pc + 1) ls (.long (Int64.ofNat (n : Nat)) :: st) h bc bs
  | .ldc _ => match r1 with
    | 0 => K (pc + 2) ls (.int (Int32.ofInt r3) :: st) h bc bs
    | _ => K (pc + 2) ls (.ref (1000000 + r2) :: st) h bc bs
  | .ldc_w _ => match r1 with
    | 0 => K (pc + 3) ls (.int (Int32.ofInt r3) :: st) h bc bs
    | _ => K (pc + 3) ls (.ref (1000000 + r2) :: st) h bc bs
  | .ldc2_w _ => K (pc + 3) ls (.long (Int64.ofInt r3) :: st) h bc bs
  | .iload_n k => l_i (lk ls (k : Nat)) fun x => K (pc + 1) ls (.int x :: st) h bc bs
  | .iload k => l_i (lk ls k) fun x => K (pc + 2) ls (.int x :: st) h bc bs
  | .lload_n k => l_l (lk ls (k : Nat)) fun x => K (pc + 1) ls (.long x :: st) h bc bs
  | .lload k => l_l (lk ls k) fun x => K (pc + 2) ls (.long x :: st) h bc bs
  | .aload_n k => l_r (lk ls (k : Nat)) fun x => K (pc + 1) ls (.ref x :: st) h bc bs
  | .aload k => l_r (lk ls k) fun x => K (pc + 2) ls (.ref x :: st) h bc bs
  | .istore_n k => p_i st fun x r => K (pc + 1) (so1 ls (k : Nat) (.int x)) r h bc bs
  | .istore k => p_i st fun x r => K (pc + 2) (so1 ls k (.int x)) r h bc bs
  | .lstore_n k => p_l st fun x r => K (pc + 1) (so2 ls (k : Nat) (.long x)) r h bc bs
  | .lstore k => p_l st fun x r => K (pc + 2) (so2 ls k (.long x)) r h bc bs
  | .astore_n k => p_r st fun x r => K (pc + 1) (so1 ls (k : Nat) (.ref x)) r h bc bs
  | .astore k => p_r st fun x r => K (pc + 2) (so1 ls k (.ref x)) r h bc bs
  | .iinc k n => l_i (lk ls k) fun x => K (pc + 3) (so1 ls k (.int (x + Int32.ofInt n))) st h bc bs
  | .iadd => p_ii st fun x y r => K (pc + 1) ls (.int (x + y) :: r) h bc bs
  | .isub => p_ii st fun x y r => K (pc + 1) ls (.int (x - y) :: r) h bc bs
  | .imul => p_ii st fun x y r => K (pc + 1) ls (.int (x * y) :: r) h bc bs
  | .idiv => p_ii st fun x y r => ¬ y = 0 ∧ K (pc + 1) ls (.int (x / y) :: r) h bc bs
  | .irem => p_ii st fun x y r => ¬ y = 0 ∧ K (pc + 1) ls (.int (x - x / y * y) :: r) h bc bs
  | .ineg => p_i st fun x r => K (pc + 1) ls (.int (-x) :: r) h bc bs
  | .iand => p_ii st fun x y r => K (pc + 1) ls (.int (x &&& y) :: r) h bc bs
  | .ior => p_ii st fun x y r => K (pc + 1) ls (.int (x ||| y) :: r) h bc bs
  | .ixor => p_ii st fun x y r => K (pc + 1) ls (.int (x ^^^ y) :: r) h bc bs
  | .ishl => p_ii st fun x y r => K (pc + 1) ls (.int (x <<< (y &&& 31)) :: r) h bc bs
  | .ishr => p_ii st fun x y r => K (pc + 1) ls (.int (x >>> (y &&& 31)) :: r) h bc bs
  | .iushr => p_ii st fun x y r => K (pc + 1) ls (.int (x.toUInt32 >>> (y.toUInt32 &&& Int32.toUInt32 31)).toInt32 :: r) h bc bs
  | .ladd => p_ll st fun x y r => K (pc + 1) ls (.long (x + y) :: r) h bc bs
  | .lsub => p_ll st fun x y r => K (pc + 1) ls (.long (x - y) :: r) h bc bs
  | .lmul => p_ll st fun x y r => K (pc + 1) ls (.long (x * y) :: r) h bc bs
  | .ldiv => p_ll st fun x y r => ¬ y = 0 ∧ K (pc + 1) ls (.long (x / y) :: r) h bc bs
  | .lrem => p_ll st fun x y r => ¬ y = 0 ∧ K (pc + 1) ls (.long (x - x / y * y) :: r) h bc bs
  | .lcmp => p_ll st fun x y r => K (pc + 1) ls (.int (lg_cmp x y) :: r) h bc bs
  | .i2l => p_i st fun x r => K (pc + 1) ls (.long x.toInt64 :: r) h bc bs
  | .l2i => p_l st fun x r => K (pc + 1) ls (.int x.toInt32 :: r) h bc bs
  | .i2b => p_i st fun x r => K (pc + 1) ls (.int x.toInt8.toInt32 :: r) h bc bs
  | .i2s => p_i st fun x r => K (pc + 1) ls (.int x.toInt16.toInt32 :: r) h bc bs
  | .i2c => p_i st fun x r => K (pc + 1) ls (.int (x.toUInt32 % 65536).toInt32 :: r) h bc bs
  | .dup => p_v st fun v r => v.category = 1 ∧ K (pc + 1) ls (v :: v :: r) h bc bs
  | .pop => p_v st fun v r => v.category = 1 ∧ K (pc + 1) ls r h bc bs
  | .dup2 => p_vv st fun v w r => v.category = 1 ∧ w.category = 1 ∧ K (pc + 1) ls (v :: w :: v :: w :: r) h bc bs
  | .ifCond cd off => p_i st fun x r => br (icd cd x 0) (K (tg pc off) ls r h bc bs) (K (pc + 3) ls r h bc bs)
  | .if_icmp cd off => p_ii st fun x y r => br (icd cd x y) (K (tg pc off) ls r h bc bs) (K (pc + 3) ls r h bc bs)
  | .goto off => K (tg pc off) ls st h bc bs
  | .tableswitch dflt lo _ offs => p_i st fun x r => K (tg pc (swo dflt lo offs.toList x)) ls r h bc bs
  | .lookupswitch dflt ps => p_i st fun x r => K (tg pc (Op.lookupswitch.offset ps.toList dflt x.toInt)) ls r h bc bs
  | .getfield _ => p_r st fun a r => h.1[a]? = some (100 + r1, nf r1) ∧ K (pc + 3) ls (fv h a r2 r3.toNat :: r) h bc bs
  | .putfield _ => match r3 with
    | 0 => p_ir st fun a x r => h.1[a]? = some (100 + r1, nf r1) ∧ K (pc + 3) ls r (sI h a r2 x) bc bs
    | 3 => p_ir st fun a x r => h.1[a]? = some (100 + r1, nf r1) ∧ (x = 0 ∨ x = 1) ∧ K (pc + 3) ls r (sI h a r2 x) bc bs
    | 1 => p_lr st fun a x r => h.1[a]? = some (100 + r1, nf r1) ∧ K (pc + 3) ls r (sJ h a r2 x) bc bs
    | _ => p_rr st fun a x r => h.1[a]? = some (100 + r1, nf r1) ∧ x < h.1.length ∧ K (pc + 3) ls r (sR h a r2 (some x)) bc bs
  | .iaload => p_ir st fun a x r => (∃ n, h.1[a]? = some (0, n) ∧ vp_in x n) ∧ K (pc + 1) ls (.int (aI h a x.toNatClampNeg) :: r) h bc bs
  | .caload => p_ir st fun a x r => (∃ n, h.1[a]? = some (2, n) ∧ vp_in x n) ∧ K (pc + 1) ls (.int (aI h a x.toNatClampNeg) :: r) h bc bs
  | .baload => p_ir st fun a x r => (∃ n, h.1[a]? = some (3, n) ∧ vp_in x n) ∧ K (pc + 1) ls (.int (aI h a x.toNatClampNeg) :: r) h bc bs
  | .laload => p_ir st fun a x r => (∃ n, h.1[a]? = some (1, n) ∧ vp_in x n) ∧ K (pc + 1) ls (.long (aJ h a x.toNatClampNeg) :: r) h bc bs
  | .aaload => p_ir st fun a x r => (∃ t n, h.1[a]? = some (t, n) ∧ 4 ≤ t ∧ t ≤ 6 ∧ vp_in x n) ∧ K (pc + 1) ls (va_rf (aR h a x.toNatClampNeg) :: r) h bc bs
  | .iastore => p_iir st fun a x v r => (∃ n, h.1[a]? = some (0, n) ∧ vp_in x n) ∧ K (pc + 1) ls r (sI h a x.toNatClampNeg v) bc bs
  | .castore => p_iir st fun a x v r => (∃ n, h.1[a]? = some (2, n) ∧ vp_in x n) ∧ K (pc + 1) ls r (sI h a x.toNatClampNeg (vp_nar .char v)) bc bs
  | .bastore => p_iir st fun a x v r => (∃ n, h.1[a]? = some (3, n) ∧ vp_in x n) ∧ K (pc + 1) ls r (sI h a x.toNatClampNeg (vp_nar .boolean v)) bc bs
  | .lastore => p_lir st fun a x v r => (∃ n, h.1[a]? = some (1, n) ∧ vp_in x n) ∧ K (pc + 1) ls r (sJ h a x.toNatClampNeg v) bc bs
  | .aastore => p_rir st fun a x v r => (∃ n, h.1[a]? = some (4, n) ∧ vp_in x n) ∧ h.1[v]? = some (108, nf 8) ∧ K (pc + 1) ls r (sR h a x.toNatClampNeg (some v)) bc bs
  | .arraylength => p_r st fun a r => ∃ t n, h.1[a]? = some (t, n) ∧ t < 7 ∧ K (pc + 1) ls (.int (Int32.ofNat n) :: r) h bc bs
  | .new _ => h.1.length < 5000 ∧ 1 ≤ bc ∧ nf r1 ≤ bs ∧ r1 < 12 ∧ (ls.all fun q => okv h q.2) = true ∧ (st.all fun v => okv h v) = true ∧ K (pc + 3) ls (.ref h.1.length :: st) (nO h (100 + r1, nf r1)) (bc - 1) (bs - nf r1)
  | .newarray _ => p_i st fun x r => h.1.length < 5000 ∧ ¬ x < 0 ∧ x.toNatClampNeg ≤ 100000 ∧ 1 ≤ bc ∧ x.toNatClampNeg ≤ bs ∧ (ls.all fun q => okv h q.2) = true ∧ (r.all fun v => okv h v) = true ∧ K (pc + 2) ls (.ref h.1.length :: r) (nO h (r1, x.toNatClampNeg)) (bc - 1) (bs - x.toNatClampNeg)
  | .anewarray _ => p_i st fun x r => h.1.length < 5000 ∧ ¬ x < 0 ∧ x.toNatClampNeg ≤ 100000 ∧ 1 ≤ bc ∧ x.toNatClampNeg ≤ bs ∧ (ls.all fun q => okv h q.2) = true ∧ (r.all fun v => okv h v) = true ∧ K (pc + 3) ls (.ref h.1.length :: r) (nO h (4, x.toNatClampNeg)) (bc - 1) (bs - x.toNatClampNeg)
  | .multianewarray _ _ => p_ii st fun x y r => h.1.length < 5000 ∧ ¬ x < 0 ∧ ¬ y < 0 ∧ x.toNatClampNeg ≤ 1000 ∧ y.toNatClampNeg ≤ 1000 ∧ 1 + x.toNatClampNeg ≤ bc ∧ x.toNatClampNeg + x.toNatClampNeg * y.toNatClampNeg ≤ bs ∧ (ls.all fun q => okv h q.2) = true ∧ (r.all fun v => okv h v) = true ∧
      K (pc + 4) ls (.ref h.1.length :: r) (nM h r1 (r1 - 5) x.toNatClampNeg y.toNatClampNeg) (bc - (1 + x.toNatClampNeg)) (bs - (x.toNatClampNeg + x.toNatClampNeg * y.toNatClampNeg))
  | .invokevirtual _ => s_call CL K r1 r2 r3 pc ls st h bc bs
  | .invokespecial _ => s_call CL K r1 r2 r3 pc ls st h bc bs
  | .invokestatic _ => s_call CL K r1 r2 r3 pc ls st h bc bs
  | .ireturn => p_i st fun x r => r = [] ∧ (∃ ty, ret = some ty ∧ narrow ty (.int x) = .int x) ∧ Q (some (.int x)) h
  | .lreturn => p_l st fun x r => r = [] ∧ ret = some .long ∧ Q (some (.long x)) h
  | .return_ => st = [] ∧ ret = none ∧ Q none h
  | _ => False
/-- a method of the tables: its name, bytes, locals, answer's type, code, class, arguments with the receiver -/
abbrev MI : Type := MethodName × ByteArray × Nat × Option FieldType × AC × Nat × Nat
end
section
/-! THE ABSTRACT HEAP AS A WORLD OF THE KIT -/
def wv (ad : Nat → Nat) (h : aH) (a k t : Nat) : Value := match t with
  | 1 => .long (aJ h a k)
  | 2 => va_rf ((aR h a k).map ad)
  | _ => .int (aI h a k)
/-- the fields' kinds -/
def fkt : List (List Nat) := [[2,2,2,2,2,3], [2,0,0,2,2], [0,2,2], [2,0], [2,0,2,0], [2,0,0,0,3], [0,0,0,2,2], [0,2,2], [0,0,0,0,0,2,2,2,2], [2,0,0,0,3,3], [2,2,2,2,2,2,2,2,2,0,2,2,2,2,2,2,2], [0,0,2,0,0,0,0,0,0,2,2,2,2,2,2,2,2,0,0,0,0,2,0,2,2,0,0,2,2,0,2,0,0,2,2,0,2,2,2,1,1,2,0,2,2,2,2,2,0,0,2,2,2]]
def fkd (ci k : Nat) : Nat := (fkt.getD ci []).getD k 0
def arc (ad : Nat → Nat) (h : aH) (i t : Nat) : ((Nat → Int32) ⊕ (Nat → Int64) ⊕ (Nat → UInt32) ⊕ (Nat → UInt64) ⊕ (Nat → Option Nat)) :=
  if t = 1 then .inr (.inl (aJ h i)) else if 4 ≤ t then .inr (.inr (.inr (.inr (fun k => (aR h i k).map ad)))) else .inl (aI h i)
def enS (cy : Nat → ClassId) (ad : Nat → Nat) (h : aH) (i : Nat) (s : Nat × Nat) : va_E :=
  if s.1 < 100 then .inl (cy s.1, s.2, arc ad h i s.1) else .inr (s.1 - 100, (List.range s.2).map (fun k => wv ad h i k (fkd (s.1 - 100) k)))
def wd (cy : Nat → ClassId) (ad : Nat → Nat) (h : aH) : va_W := (List.range h.1.length).map (fun i => (ad i, enS cy ad h i (h.1.getD i (0, 0))))
theorem wd_get {cy : Nat → ClassId} {ad : Nat → Nat} {h : aH} {i : Nat} {s : Nat × Nat} (hs : h.1[i]? = some s) : (wd cy ad h)[i]? = some (ad i, enS cy ad h i s) := by
  have hi : i < h.1.length := (List.getElem?_eq_some_iff.mp hs).1
  unfold wd
  rw [List.getElem?_map, List.getElem?_range hi]
  simp [List.getD_eq_getElem?_getD, hs]
theorem wd_len (cy : Nat → ClassId) (ad : Nat → Nat) (h : aH) : (wd cy ad h).length = h.1.length := by simp [wd]
theorem wd_inv {cy : Nat → ClassId} {ad : Nat → Nat} {h : aH} {i : Nat} {q : Nat × va_E} (hq : (wd cy ad h)[i]? = some q) : ∃ s, h.1[i]? = some s ∧ q = (ad i, enS cy ad h i s) := by
  have hi : i < h.1.length := by
    have := (List.getElem?_eq_some_iff.mp hq).1
    rwa [wd_len] at this
  have hs : h.1[i]? = some h.1[i] := List.getElem?_eq_getElem hi
  exact ⟨_, hs, by have := wd_get (cy := cy) (ad := ad) hs; rw [hq] at this; exact Option.some.inj this⟩
/-- one entry anew -/
theorem wd_set {cy : Nat → ClassId} {ad : Nat → Nat} {h h' : aH} {a : Nat} {s : Nat × Nat} {e : va_E} (hs : h.1[a]? = some s) (h1 : h'.1 = h.1) (he : enS cy ad h' a s = e) (ho : ∀ i s', i ≠ a → enS cy ad h' i s' = enS cy ad h i s') :
    (wd cy ad h).set a (ad a, e) = wd cy ad h' := by
  have ha : a < h.1.length := (List.getElem?_eq_some_iff.mp hs).1
  apply List.ext_getElem?
  intro j
  by_cases hj : j < h.1.length
  · have hsj : h.1[j]? = some h.1[j] := List.getElem?_eq_getElem hj
    have hsj' : h'.1[j]? = some h.1[j] := by rw [h1]; exact hsj
    rw [wd_get hsj']
    by_cases e2 : a = j
    · subst e2
      rw [List.getElem?_set_self (by rw [wd_len]; exact ha)]
      have : h.1[a] = s := by rw [hsj] at hs; exact Option.some.inj hs
      rw [this, he]
    · rw [List.getElem?_set_ne e2, wd_get hsj, ho j _ (fun q => e2 q.symm)]
  · rw [List.getElem?_eq_none (by rw [List.length_set, wd_len]; omega), List.getElem?_eq_none (by rw [wd_len, h1]; omega)]
theorem up_s {α : Type} {f : Nat → α} {k : Nat} {v : α} : a_up f k v k = v := if_pos rfl
theorem up_n {α : Type} {f : Nat → α} {k j : Nat} {v : α} (h : j ≠ k) : a_up f k v j = f j := if_neg h
/-- entries depend on their own rows alone -/
theorem enS_congr {cy : Nat → ClassId} {ad : Nat → Nat} {h h' : aH} {i : Nat} {s : Nat × Nat} (hI : aI h' i = aI h i) (hJ : aJ h' i = aJ h i) (hR : aR h' i = aR h i) : enS cy ad h' i s = enS cy ad h i s := by
  unfold enS arc wv
  simp only [hI, hJ, hR]
/-- references are of cells that are there -/
def RV (h : aH) : Prop := ∀ a k b, aR h a k = some b → b < h.1.length
theorem enS_ad {cy : Nat → ClassId} {ad ad' : Nat → Nat} {h : aH} {i : Nat} {s : Nat × Nat} (hv : RV h) (hd : ∀ j, j < h.1.length → ad' j = ad j) : enS cy ad' h i s = enS cy ad h i s := by
  have e : ∀ k, (aR h i k).map ad' = (aR h i k).map ad := fun k => by
    cases hk : aR h i k with
    | none => rfl
    | some b => simp [hd b (hv i k b hk)]
  unfold enS arc wv
  simp only [e]
theorem wd_ad {cy : Nat → ClassId} {ad ad' : Nat → Nat} {h : aH} (hv : RV h) (hd : ∀ j, j < h.1.length → ad' j = ad j) : wd cy ad' h = wd cy ad h := by
  unfold wd
  apply List.map_congr_left
  intro i hi
  rw [List.mem_range] at hi
  rw [hd i hi, enS_ad hv hd]
theorem nO_len (h : aH) (s : Nat × Nat) : (nO h s).1.length = h.1.length + 1 := by simp [nO]
theorem nO_RV {h : aH} {s : Nat × Nat} (hv : RV h) : RV (nO h s) := by
  intro a k b hb
  rw [nO_len]
  by_cases e : a = h.1.length
  · subst e
    simp [aR, nO, up_s] at hb
  · have : aR (nO h s) a k = aR h a k := by simp [aR, nO, up_n e]
    rw [this] at hb
    have := hv a k b hb
    omega
def dfv (t : Nat) : Value := match t with
  | 1 => .long 0
  | 2 => .null
  | _ => .int 0
/-- what a new cell is -/
def enN (cy : Nat → ClassId) (s : Nat × Nat) : va_E :=
  if s.1 < 100 then .inl (cy s.1, s.2, if s.1 = 1 then .inr (.inl (fun _ => 0)) else if 4 ≤ s.1 then .inr (.inr (.inr (.inr (fun _ => none)))) else .inl (fun _ => 0)) else .inr (s.1 - 100, (List.range s.2).map (fun k => dfv (fkd (s.1 - 100) k)))
theorem wd_nO {cy : Nat → ClassId} {ad : Nat → Nat} {h : aH} {s : Nat × Nat} (hv : RV h) (q : Nat) : wd cy (a_up ad h.1.length q) (nO h s) = wd cy ad h ++ [(q, enN cy s)] := by
  have hs : ∀ i, i < h.1.length → (nO h s).1.getD i (0, 0) = h.1.getD i (0, 0) := fun i hi => by
    simp [nO, List.getD_eq_getElem?_getD, List.getElem?_append_left hi]
  have e1 : wd cy (a_up ad h.1.length q) (nO h s) = (List.range (h.1.length + 1)).map (fun i => (a_up ad h.1.length q i, enS cy (a_up ad h.1.length q) (nO h s) i ((nO h s).1.getD i (0, 0)))) := by
    unfold wd
    rw [nO_len]
  rw [e1, List.range_succ, List.map_append]
  congr 1
  · unfold wd
    apply List.map_congr_left
    intro i hi
    rw [List.mem_range] at hi
    rw [hs i hi, up_n (Nat.ne_of_lt hi), enS_congr (h := h), enS_ad hv]
    · intro j hj
      exact up_n (Nat.ne_of_lt hj)
    · simp [aI, nO, up_n (Nat.ne_of_lt hi)]
    · simp [aJ, nO, up_n (Nat.ne_of_lt hi)]
    · simp [aR, nO, up_n (Nat.ne_of_lt hi)]
  · have hg : (nO h s).1.getD h.1.length (0, 0) = s := by simp [nO, List.getD_eq_getElem?_getD]
    simp only [List.map_cons, List.map_nil, hg, up_s]
    have eI : aI (nO h s) h.1.length = fun _ => 0 := by simp [aI, nO, up_s]
    have eJ : aJ (nO h s) h.1.length = fun _ => 0 := by simp [aJ, nO, up_s]
    have eR : aR (nO h s) h.1.length = fun _ => none := by simp [aR, nO, up_s]
    congr 2
    unfold enS enN arc wv
    simp only [eI, eJ, eR, Option.map_none, va_rf]
    rfl
theorem wv_cv (ad : Nat → Nat) (h : aH) (a k t : Nat) : wv ad h a k t = cv ad (fv h a k t) := by
  unfold wv fv
  match t with
  | 0 => rfl
  | 1 => rfl
  | 2 => show va_rf _ = cv ad (va_rf _); cases aR h a k <;> rfl
  | t + 3 => rfl
theorem cv_rf (ad : Nat → Nat) (r : Option Nat) : cv ad (va_rf r) = va_rf (r.map ad) := by cases r <;> rfl
theorem cv_cat (ad : Nat → Nat) (v : Value) : (cv ad v).category = v.category := by cases v <;> rfl
theorem cv_ok {ad ad' : Nat → Nat} {h : aH} {v : Value} (hv : okv h v = true) (hd : ∀ j, j < h.1.length ∨ 1000000 ≤ j → ad' j = ad j) : cv ad' v = cv ad v := by
  cases v with
  | ref a =>
    simp only [okv, Bool.or_eq_true, decide_eq_true_eq] at hv
    exact congrArg Value.ref (hd a hv)
  | _ => rfl
theorem cvs_ok {ad ad' : Nat → Nat} {h : aH} {st : List Value} (hv : (st.all fun v => okv h v) = true) (hd : ∀ j, j < h.1.length ∨ 1000000 ≤ j → ad' j = ad j) : st.map (cv ad') = st.map (cv ad) :=
  List.map_congr_left fun v h9 => cv_ok (List.all_eq_true.mp hv v h9) hd
def cvl (ad : Nat → Nat) (ls : List (Nat × Value)) : List (Nat × Value) := ls.map fun q => (q.1, cv ad q.2)
theorem cvl_ok {ad ad' : Nat → Nat} {h : aH} {ls : List (Nat × Value)} (hv : (ls.all fun q => okv h q.2) = true) (hd : ∀ j, j < h.1.length ∨ 1000000 ≤ j → ad' j = ad j) : cvl ad' ls = cvl ad ls :=
  List.map_congr_left fun q h9 => by rw [cv_ok (List.all_eq_true.mp hv q h9) hd]
theorem cvl_filter (ad : Nat → Nat) (f : Nat → Nat → Bool) (ls : List (Nat × Value)) : (cvl ad ls).filter (fun q => f q.1 q.2.category) = cvl ad (ls.filter (fun q => f q.1 q.2.category)) := by
  unfold cvl
  rw [List.filter_map]
  congr 1
  apply List.filter_congr
  intro q _
  simp [cv_cat]
theorem cvl_so1 (ad : Nat → Nat) (ls : List (Nat × Value)) (i : Nat) (v : Value) : (i, cv ad v) :: (cvl ad ls).filter (fun q => !(q.1 == i) && !(q.1 + 1 == i && q.2.category == 2)) = cvl ad (so1 ls i v) :=
  congrArg (fun l => (i, cv ad v) :: l) (cvl_filter ad (fun a b => !(a == i) && !(a + 1 == i && b == 2)) ls)
theorem cvl_so2 (ad : Nat → Nat) (ls : List (Nat × Value)) (i : Nat) (v : Value) : (i, cv ad v) :: (cvl ad ls).filter (fun q => !(q.1 == i) && (!(q.1 == i + 1) && !(q.1 + 1 == i && q.2.category == 2))) = cvl ad (so2 ls i v) :=
  congrArg (fun l => (i, cv ad v) :: l) (cvl_filter ad (fun a b => !(a == i) && (!(a == i + 1) && !(a + 1 == i && b == 2))) ls)
theorem lk_at {ad : Nat → Nat} : ∀ {ls : List (Nat × Value)} {i : Nat} {v : Value}, lk ls i = some v → ∃ k : Nat, (cvl ad ls)[k]? = some (i, cv ad v) := by
  intro ls
  induction ls with
  | nil => intro i v h; cases h
  | cons q r ih =>
    intro i v h
    unfold lk at h
    by_cases e : q.1 = i
    · rw [if_pos e] at h
      cases h
      exact ⟨0, by simp [cvl, ← e]⟩
    · rw [if_neg e] at h
      obtain ⟨k, hk⟩ := ih h
      exact ⟨k + 1, by simpa [cvl] using hk⟩
theorem catsum_cv (ad : Nat → Nat) (st : List Value) : catsum (st.map (cv ad)) = catsum st := by
  unfold catsum
  rw [List.map_map]
  congr 1
  apply List.map_congr_left
  intro v _
  exact cv_cat ad v
end
section
/-! ONE STEP OF THE RUN IS THE MACHINE'S -/
def GW : List Jvm.Cond := lw_tbl.filter goodWord
def fty (t : Nat) : FieldType := match t with
  | 0 => .int
  | 1 => .long
  | 2 => .char
  | 3 => .boolean
  | 4 => .object RX8
  | 5 => .array .int
  | 6 => .array .long
  | _ => .int
def tysF (cy : Nat → ClassId) : List (ClassId × FieldType) := [(cy 0, .int), (cy 1, .long), (cy 2, .char), (cy 3, .boolean), (cy 4, .object RX8), (cy 5, .array .int), (cy 6, .array .long)]
theorem tys_at (cy : Nat → ClassId) {t : Nat} (h : t < 7) : (tysF cy)[t]? = some (cy t, fty t) := by
  rcases (show t = 0 ∨ t = 1 ∨ t = 2 ∨ t = 3 ∨ t = 4 ∨ t = 5 ∨ t = 6 by omega) with rfl | rfl | rfl | rfl | rfl | rfl | rfl <;> rfl
def Std (cy : Nat → ClassId) (dC : Nat → ClassId) (dI : Nat → Nat → Nat) (A : Nat → Prop) (H0 : Heap) (ad : Nat → Nat) (h : aH) (H : Heap) (locs : List Loc) : Prop :=
  va_P (dC, dI) vwCl (wd cy ad h) H ∧ va_D A (wd cy ad h) ∧ va_S A H0 H locs ∧ RV h
theorem pi_inv {st : List Value} {f : Int32 → List Value → Prop} (h : p_i st f) : ∃ x r, st = .int x :: r ∧ f x r := by
  unfold p_i at h; split at h; exact ⟨_, _, rfl, h⟩; exact h.elim
theorem pii_inv {st : List Value} {f : Int32 → Int32 → List Value → Prop} (h : p_ii st f) : ∃ x y r, st = .int y :: .int x :: r ∧ f x y r := by
  unfold p_ii at h; split at h; exact ⟨_, _, _, rfl, h⟩; exact h.elim
theorem pl_inv {st : List Value} {f : Int64 → List Value → Prop} (h : p_l st f) : ∃ x r, st = .long x :: r ∧ f x r := by
  unfold p_l at h; split at h; exact ⟨_, _, rfl, h⟩; exact h.elim
theorem pll_inv {st : List Value} {f : Int64 → Int64 → List Value → Prop} (h : p_ll st f) : ∃ x y r, st = .long y :: .long x :: r ∧ f x y r := by
  unfold p_ll at h; split at h; exact ⟨_, _, _, rfl, h⟩; exact h.elim
theorem pr_inv {st : List Value} {f : Nat → List Value → Prop} (h : p_r st f) : ∃ x r, st = .ref x :: r ∧ f x r := by
  unfold p_r at h; split at h; exact ⟨_, _, rfl, h⟩; exact h.elim
theorem pir_inv {st : List Value} {f : Nat → Int32 → List Value → Prop} (h : p_ir st f) : ∃ a x r, st = .int x :: .ref a :: r ∧ f a x r := by
  unfold p_ir at h; split at h; exact ⟨_, _, _, rfl, h⟩; exact h.elim
theorem piir_inv {st : List Value} {f : Nat → Int32 → Int32 → List Value → Prop} (h : p_iir st f) : ∃ a i x r, st = .int x :: .int i :: .ref a :: r ∧ f a i x r := by
  unfold p_iir at h; split at h; exact ⟨_, _, _, _, rfl, h⟩; exact h.elim
theorem plir_inv {st : List Value} {f : Nat → Int32 → Int64 → List Value → Prop} (h : p_lir st f) : ∃ a i x r, st = .long x :: .int i :: .ref a :: r ∧ f a i x r := by
  unfold p_lir at h; split at h; exact ⟨_, _, _, _, rfl, h⟩; exact h.elim
theorem prir_inv {st : List Value} {f : Nat → Int32 → Nat → List Value → Prop} (h : p_rir st f) : ∃ a i x r, st = .ref x :: .int i :: .ref a :: r ∧ f a i x r := by
  unfold p_rir at h; split at h; exact ⟨_, _, _, _, rfl, h⟩; exact h.elim
theorem plr_inv {st : List Value} {f : Nat → Int64 → List Value → Prop} (h : p_lr st f) : ∃ a x r, st = .long x :: .ref a :: r ∧ f a x r := by
  unfold p_lr at h; split at h; exact ⟨_, _, _, rfl, h⟩; exact h.elim
theorem prr_inv {st : List Value} {f : Nat → Nat → List Value → Prop} (h : p_rr st f) : ∃ a x r, st = .ref x :: .ref a :: r ∧ f a x r := by
  unfold p_rr at h; split at h; exact ⟨_, _, _, rfl, h⟩; exact h.elim
theorem pv_inv {st : List Value} {f : Value → List Value → Prop} (h : p_v st f) : ∃ x r, st = x :: r ∧ f x r := by
  unfold p_v at h; split at h; exact ⟨_, _, rfl, h⟩; exact h.elim
theorem pvv_inv {st : List Value} {f : Value → Value → List Value → Prop} (h : p_vv st f) : ∃ x y r, st = x :: y :: r ∧ f x y r := by
  unfold p_vv at h; split at h; exact ⟨_, _, _, rfl, h⟩; exact h.elim
theorem pcp_inv {st : List Value} {f : Nat → Int32 → Nat → Int32 → Int32 → List Value → Prop} (h : p_cp st f) : ∃ a0 sp a1 dp n r, st = .int n :: .int dp :: .ref a1 :: .int sp :: .ref a0 :: r ∧ f a0 sp a1 dp n r := by
  unfold p_cp at h; split at h; exact ⟨_, _, _, _, _, _, rfl, h⟩; exact h.elim
theorem li_inv {v : Option Value} {f : Int32 → Prop} (h : l_i v f) : ∃ x, v = some (.int x) ∧ f x := by
  unfold l_i at h; split at h; exact ⟨_, rfl, h⟩; exact h.elim
theorem ll_inv {v : Option Value} {f : Int64 → Prop} (h : l_l v f) : ∃ x, v = some (.long x) ∧ f x := by
  unfold l_l at h; split at h; exact ⟨_, rfl, h⟩; exact h.elim
theorem lr_inv {v : Option Value} {f : Nat → Prop} (h : l_r v f) : ∃ x, v = some (.ref x) ∧ f x := by
  unfold l_r at h; split at h; exact ⟨_, rfl, h⟩; exact h.elim
/-- ldc_w of a text: ldc's own proof (the library's ldcString), for the wide form -/
theorem va_ldcwS {p : Program} {l : Launch} {e : Env} {R : Room} {s : State} {m : MethodId} {args : Array Value} {below : List Frame} {meth : Method} {c : Code} {H : Heap} {locs : List Loc} {cells slots : Nat} {Q : State → Prop} {cc : ByteArray} {pc : Nat} {ls : Array Slot} {rest : List Value}
    (hexec : p.tables.exec = Jvm.exec) (hb : c.code = cc) {own tx : String} {index q : Nat} (hown : s.vm.findClass own = some m.cls) (hZ : vk_R own index tx q s) (hdg : decode cc pc = .ok (.ldc_w index, 3))
    (k : W p l e R s m args below meth c H locs cells slots Q (F0 m (pc + 3) ls (.ref q :: rest))) : W p l e R s m args below meth c H locs cells slots Q (F0 m pc ls rest) := by
  intro T hT X
  obtain ⟨t, a1, b1⟩ := k T hT X
  refine ⟨t, ?_, b1⟩
  obtain ⟨k9, cf, i, a', hk, hcf, hcp, -, hr, hev'⟩ := Cond.stringRef_spec hown hZ.1
  cases hZ.2.symm.trans hev'
  obtain ⟨k', hk', he⟩ := X.warmed.alike.2.2 _ _ hk
  have hr' : k'.resolved[index]? = some (some (.string q)) := by
    rcases X.warmed.entry hk hk' index with h | ⟨h, -⟩
    · rw [h]; exact hr
    · rw [hr] at h; cases h
  have hdg' : decode c.code (F0 m pc ls rest).pc = .ok (.ldc_w index, 3) := by rw [hb]; exact hdg
  jvm_step X.here [hexec, hdg', ldc_w.wp_string (e := e) (s := T) (f := F0 m pc ls rest) X.here.top hk' (by rw [he]; exact hcf) hcp hr']
  exact a1
/-- what the tables say of a row of code -/
def wdC (ci k : Nat) : String × String × String × Bool := match vwCl[ci]? with
  | some q => q.2.1 k
  | none => ("", "", "", false)
def wdN (ci : Nat) : String := match vwCl[ci]? with
  | some q => q.1
  | none => ""
def lenI (i : Instr) : Nat := match i with
  | .bipush _ => 2
  | .sipush _ => 3
  | .ldc _ => 2
  | .ldc_w _ => 3
  | .ldc2_w _ => 3
  | .iload _ => 2
  | .lload _ => 2
  | .aload _ => 2
  | .istore _ => 2
  | .lstore _ => 2
  | .astore _ => 2
  | .iinc _ _ => 3
  | .ifCond _ _ => 3
  | .if_icmp _ _ => 3
  | .goto _ => 3
  | .getfield _ => 3
  | .putfield _ => 3
  | .new _ => 3
  | .newarray _ => 2
  | .anewarray _ => 3
  | .multianewarray _ _ => 4
  | .invokevirtual _ => 3
  | .invokespecial _ => 3
  | .invokestatic _ => 3
  | _ => 1
def isSw (i : Instr) : Bool := match i with
  | .tableswitch _ _ _ _ => true
  | .lookupswitch _ _ => true
  | _ => false
/-- the string constants: their pool numbers and texts -/
def sidx : List Nat := [199, 226, 231, 233, 235, 319]
def stxt : List String := ["012345678", "lpxn", "<>=", "+-", "*/", "<=>p123456789"]
def cfx (own : String) (isI : Bool) (pc : Nat) (i : Instr) (r1 r2 : Nat) (r3 : Int) : Prop := match i with
  | .getfield idx => r1 < 12 ∧ r2 < nf r1 ∧ r3 = (fkd r1 r2 : Int) ∧ Jvm.Cond.fieldLink own idx (wdC r1 r2).1 (wdC r1 r2).2.1 (wdC r1 r2).2.2.1 ∈ GW
  | .putfield idx => r1 < 12 ∧ r2 < nf r1 ∧ r3 = (fkd r1 r2 : Int) ∧ Jvm.Cond.fieldLink own idx (wdC r1 r2).1 (wdC r1 r2).2.1 (wdC r1 r2).2.2.1 ∈ GW ∧ ((wdC r1 r2).2.2.2 = false ∨ (isI = true ∧ (wdC r1 r2).1 = own))
  | .ldc idx => (r1 = 0 ∧ Jvm.Cond.constant own idx (Int32.ofInt r3) ∈ GW) ∨ (r1 = 1 ∧ r2 < 6 ∧ own = RX11 ∧ sidx.getD r2 0 = idx)
  | .ldc_w idx => (r1 = 0 ∧ Jvm.Cond.constant own idx (Int32.ofInt r3) ∈ GW) ∨ (r1 = 1 ∧ r2 < 6 ∧ own = RX11 ∧ sidx.getD r2 0 = idx)
  | .ldc2_w idx => Jvm.Cond.constantLong own idx (Int64.ofInt r3) ∈ GW
  | .new idx => Jvm.Cond.classLink own idx (wdN r1) ∈ GW ∧ Jvm.Cond.instantiable (wdN r1) (nf r1) ∈ GW ∧ Jvm.Cond.initialized (wdN r1) ∈ GW
  | .newarray at_ => r1 < 4 ∧ fty r1 = newarray.typeOf at_ ∧ Jvm.Cond.arrayClass (newarray.typeOf at_) ∈ GW
  | .anewarray idx => Jvm.Cond.classLink own idx RX8 ∈ GW
  | .multianewarray idx d => d = 2 ∧ (r1 = 5 ∨ r1 = 6) ∧ Jvm.Cond.classLink own idx ("[" ++ (FieldType.array (fty (r1 - 5))).toString) ∈ GW ∧ Jvm.Cond.arrayClass (fty (r1 - 5)) ∈ GW
  | .ifCond _ off => 0 ≤ (pc : Int) + off
  | .if_icmp _ off => 0 ≤ (pc : Int) + off
  | .goto off => 0 ≤ (pc : Int) + off
  | .tableswitch dflt lo hi offs => hi = lo + offs.size - 1 ∧ 0 ≤ (pc : Int) + dflt ∧ ∀ o ∈ offs.toList, 0 ≤ (pc : Int) + o
  | .lookupswitch dflt ps => (ps.toList.zip (ps.toList.drop 1)).all (fun (a, next) => a.1 < next.1) = true ∧ 0 ≤ (pc : Int) + dflt ∧ ∀ o ∈ ps.toList, 0 ≤ (pc : Int) + o.2
  | _ => True
def pln (i : Instr) : Bool := match i with
  | .getfield _ => false
  | .putfield _ => false
  | .iaload => false
  | .caload => false
  | .baload => false
  | .laload => false
  | .aaload => false
  | .iastore => false
  | .castore => false
  | .bastore => false
  | .lastore => false
  | .aastore => false
  | .arraylength => false
  | .new _ => false
  | .newarray _ => false
  | .anewarray _ => false
  | .multianewarray _ _ => false
  | .invokevirtual _ => false
  | .invokespecial _ => false
  | .invokestatic _ => false
  | .ireturn => false
  | .lreturn => false
  | .return_ => false
  | .ldc _ => false
  | .ldc_w _ => false
  | _ => true
theorem tg_eq {pc : Nat} {off : Int} (h : 0 ≤ (pc : Int) + off) : (pc : Int) + off = (tg pc off : Int) := (Int.toNat_of_nonneg h).symm
section SND
variable {p : Program} {l : Launch} {e : Env} {R : Room} {s : State} {m : MethodId} {args : Array Value} {below : List Frame} {meth : Method} {c : Code} {Z : State → Prop}
variable {cc : ByteArray} {nL : Nat} {own : String} {isI : Bool} {ret : Option FieldType}
variable {cy : Nat → ClassId} {dC : Nat → ClassId} {dI : Nat → Nat → Nat} {A : Nat → Prop} {ad0 : Nat → Nat} {bz n0 C S : Nat}
/-- the places of what was there stay; and all places, where nothing can be made -/
def HAD (bz n0 : Nat) (ad0 ad : Nat → Nat) (bc : Nat) : Prop := (∀ j, j < n0 ∨ 1000000 ≤ j → ad j = ad0 j) ∧ bc ≤ bz ∧ (bz = 0 → ad = ad0)
/-- where the run goes on, the machine goes on -/
def GO (p : Program) (l : Launch) (e : Env) (R : Room) (s : State) (m : MethodId) (args : Array Value) (below : List Frame) (meth : Method) (c : Code) (Z : State → Prop) (nL : Nat) (cy : Nat → ClassId) (dC : Nat → ClassId) (dI : Nat → Nat → Nat) (A : Nat → Prop) (ad0 : Nat → Nat) (bz n0 C S : Nat) (K : KT) : Prop :=
  ∀ (pc : Nat) (ls : List (Nat × Value)) (st : List Value) (h : aH) (bc bs : Nat), K pc ls st h bc bs → ∀ (ad : Nat → Nat) (arr : Array Slot) (H : Heap) (locs : List Loc) (cells slots : Nat),
    HAD bz n0 ad0 ad bc → n0 ≤ h.1.length → h.1.length < 1000000 → Std cy dC dI A s.heap ad h H locs → lv_has arr nL (cvl ad ls) → cells + bc ≤ C → slots + bs ≤ S →
    W p l e R s m args below meth c H locs cells slots Z (F0 m pc arr (st.map (cv ad)))

set_option maxHeartbeats 2000000 in
theorem snd_plain {CL : CT} {Q : QT} {K : KT} (hx : p.tables.exec = Jvm.exec) (hb : c.code = cc) (hown : s.vm.findClass own = some m.cls) (hts : ∀ w ∈ GW, w.before args s = true) (hK : GO p l e R s m args below meth c Z nL cy dC dI A ad0 bz n0 C S K)
    {i : Instr} {r1 r2 : Nat} {r3 : Int} {pc : Nat} {ls : List (Nat × Value)} {st : List Value} {h : aH} {bc bs : Nat} {len : Nat} (hd : decode cc pc = .ok (i, len)) (hlen : isSw i = true ∨ len = lenI i) (hcf : cfx own isI pc i r1 r2 r3) (hst : stp CL ret Q K i r1 r2 r3 pc ls st h bc bs)
    {ad : Nat → Nat} {arr : Array Slot} {H : Heap} {locs : List Loc} {cells slots : Nat} (had : HAD bz n0 ad0 ad bc) (hn0 : n0 ≤ h.1.length) (hsm : h.1.length < 1000000) (hS : Std cy dC dI A s.heap ad h H locs) (hl : lv_has arr nL (cvl ad ls)) (hc : cells + bc ≤ C) (hs : slots + bs ≤ S)
    (hnL : ∀ (k : Nat), (i = .istore k ∨ i = .astore k ∨ (∃ z, i = .iinc k z)) ∨ (∃ f : Fin 4, (f : Nat) = k ∧ (i = .istore_n f ∨ i = .astore_n f)) → k < nL) (hnL2 : ∀ (k : Nat), i = .lstore k ∨ (∃ f : Fin 4, (f : Nat) = k ∧ i = .lstore_n f) → k + 1 < nL)
    (hpl : pln i = true) :
    W p l e R s m args below meth c H locs cells slots Z (F0 m pc arr (st.map (cv ad))) := by
  have go : ∀ {pc' : Nat} {ls' : List (Nat × Value)} {st' : List Value}, K pc' ls' st' h bc bs → ∀ {arr' : Array Slot}, lv_has arr' nL (cvl ad ls') → W p l e R s m args below meth c H locs cells slots Z (F0 m pc' arr' (st'.map (cv ad))) := fun k _ hl' => hK _ _ _ _ _ _ k ad _ H locs cells slots had hn0 hsm hS hl' hc hs
  cases i
  case iconst n =>
    obtain rfl : len = 1 := by simpa [isSw, lenI] using hlen
    exact lv_iconst hx hb hd rfl (go hst hl)
  case bipush n =>
    obtain rfl : len = 2 := by simpa [isSw, lenI] using hlen
    exact lv_bipush hx hb hd rfl (go hst hl)
  case sipush n =>
    obtain rfl : len = 3 := by simpa [isSw, lenI] using hlen
    exact lv_sipush hx hb hd rfl (go hst hl)
  case lconst n =>
    obtain rfl : len = 1 := by simpa [isSw, lenI] using hlen
    exact lv_lconst hx hb hd rfl (go hst hl)
  case ldc2_w n =>
    obtain rfl : len = 3 := by simpa [isSw, lenI] using hlen
    exact lv_ldc2 hx hb hown (hts _ hcf) hd (go hst hl)
  case iadd =>
    obtain rfl : len = 1 := by simpa [isSw, lenI] using hlen
    obtain ⟨x, y, r, rfl, k⟩ := pii_inv hst
    exact lv_iadd hx hb hd (go k hl)
  case isub =>
    obtain rfl : len = 1 := by simpa [isSw, lenI] using hlen
    obtain ⟨x, y, r, rfl, k⟩ := pii_inv hst
    exact lv_isub hx hb hd (go k hl)
  case imul =>
    obtain rfl : len = 1 := by simpa [isSw, lenI] using hlen
    obtain ⟨x, y, r, rfl, k⟩ := pii_inv hst
    exact lv_imul hx hb hd (go k hl)
  case iand =>
    obtain rfl : len = 1 := by simpa [isSw, lenI] using hlen
    obtain ⟨x, y, r, rfl, k⟩ := pii_inv hst
    exact lv_iand hx hb hd (go k hl)
  case ior =>
    obtain rfl : len = 1 := by simpa [isSw, lenI] using hlen
    obtain ⟨x, y, r, rfl, k⟩ := pii_inv hst
    exact lv_ior hx hb hd (go k hl)
  case ixor =>
    obtain rfl : len = 1 := by simpa [isSw, lenI] using hlen
    obtain ⟨x, y, r, rfl, k⟩ := pii_inv hst
    exact lv_ixor hx hb hd (go k hl)
  case ishl =>
    obtain rfl : len = 1 := by simpa [isSw, lenI] using hlen
    obtain ⟨x, y, r, rfl, k⟩ := pii_inv hst
    exact lv_ishl hx hb hd (go k hl)
  case ishr =>
    obtain rfl : len = 1 := by simpa [isSw, lenI] using hlen
    obtain ⟨x, y, r, rfl, k⟩ := pii_inv hst
    exact lv_ishr hx hb hd (go k hl)
  case iushr =>
    obtain rfl : len = 1 := by simpa [isSw, lenI] using hlen
    obtain ⟨x, y, r, rfl, k⟩ := pii_inv hst
    exact lv_iushr hx hb hd rfl (go k hl)
  case idiv =>
    obtain rfl : len = 1 := by simpa [isSw, lenI] using hlen
    obtain ⟨x, y, r, rfl, k⟩ := pii_inv hst
    exact lv_idiv hx hb hd k.1 (go k.2 hl)
  case irem =>
    obtain rfl : len = 1 := by simpa [isSw, lenI] using hlen
    obtain ⟨x, y, r, rfl, k⟩ := pii_inv hst
    exact lv_irem hx hb hd k.1 (go k.2 hl)
  case ineg =>
    obtain rfl : len = 1 := by simpa [isSw, lenI] using hlen
    obtain ⟨x, r, rfl, k⟩ := pi_inv hst
    exact lv_ineg hx hb hd (go k hl)
  case ladd =>
    obtain rfl : len = 1 := by simpa [isSw, lenI] using hlen
    obtain ⟨x, y, r, rfl, k⟩ := pll_inv hst
    exact lv_ladd hx hb hd (go k hl)
  case lsub =>
    obtain rfl : len = 1 := by simpa [isSw, lenI] using hlen
    obtain ⟨x, y, r, rfl, k⟩ := pll_inv hst
    exact lv_lsub hx hb hd (go k hl)
  case lmul =>
    obtain rfl : len = 1 := by simpa [isSw, lenI] using hlen
    obtain ⟨x, y, r, rfl, k⟩ := pll_inv hst
    exact lv_lmul hx hb hd (go k hl)
  case ldiv =>
    obtain rfl : len = 1 := by simpa [isSw, lenI] using hlen
    obtain ⟨x, y, r, rfl, k⟩ := pll_inv hst
    exact lv_ldiv hx hb hd k.1 (go k.2 hl)
  case lrem =>
    obtain rfl : len = 1 := by simpa [isSw, lenI] using hlen
    obtain ⟨x, y, r, rfl, k⟩ := pll_inv hst
    exact lv_lrem hx hb hd k.1 (go k.2 hl)
  case lcmp =>
    obtain rfl : len = 1 := by simpa [isSw, lenI] using hlen
    obtain ⟨x, y, r, rfl, k⟩ := pll_inv hst
    exact W.lcmp hx hb hd (go k hl)
  case i2l =>
    obtain rfl : len = 1 := by simpa [isSw, lenI] using hlen
    obtain ⟨x, r, rfl, k⟩ := pi_inv hst
    exact lv_i2l hx hb hd rfl (go k hl)
  case i2b =>
    obtain rfl : len = 1 := by simpa [isSw, lenI] using hlen
    obtain ⟨x, r, rfl, k⟩ := pi_inv hst
    exact lv_i2b hx hb hd rfl (go k hl)
  case i2s =>
    obtain rfl : len = 1 := by simpa [isSw, lenI] using hlen
    obtain ⟨x, r, rfl, k⟩ := pi_inv hst
    exact lv_i2s hx hb hd rfl (go k hl)
  case i2c =>
    obtain rfl : len = 1 := by simpa [isSw, lenI] using hlen
    obtain ⟨x, r, rfl, k⟩ := pi_inv hst
    exact lv_i2c hx hb hd rfl (go k hl)
  case l2i =>
    obtain rfl : len = 1 := by simpa [isSw, lenI] using hlen
    obtain ⟨x, r, rfl, k⟩ := pl_inv hst
    exact lv_l2i hx hb hd rfl (go k hl)
  case dup =>
    obtain rfl : len = 1 := by simpa [isSw, lenI] using hlen
    obtain ⟨v, r, rfl, k⟩ := pv_inv hst
    exact lv_dup hx hb hd (by rw [cv_cat]; exact k.1) (go k.2 hl)
  case pop =>
    obtain rfl : len = 1 := by simpa [isSw, lenI] using hlen
    obtain ⟨v, r, rfl, k⟩ := pv_inv hst
    exact lv_pop hx hb hd (by rw [cv_cat]; exact k.1) (go k.2 hl)
  case dup2 =>
    obtain rfl : len = 1 := by simpa [isSw, lenI] using hlen
    obtain ⟨v, w, r, rfl, k⟩ := pvv_inv hst
    exact lv_dup2_11 hx hb hd (by rw [cv_cat]; exact k.1) (by rw [cv_cat]; exact k.2.1) (go k.2.2 hl)
  case iload j =>
    obtain rfl : len = 2 := by simpa [isSw, lenI] using hlen
    obtain ⟨x, hlk, k⟩ := li_inv hst
    obtain ⟨q, hq⟩ := lk_at (ad := ad) hlk
    exact lv_iload hx hb hd (lv_at hl q hq) (go k hl)
  case iload_n j =>
    obtain rfl : len = 1 := by simpa [isSw, lenI] using hlen
    obtain ⟨x, hlk, k⟩ := li_inv hst
    obtain ⟨q, hq⟩ := lk_at (ad := ad) hlk
    exact lv_iload_n hx hb hd rfl (lv_at hl q hq) (go k hl)
  case lload j =>
    obtain rfl : len = 2 := by simpa [isSw, lenI] using hlen
    obtain ⟨x, hlk, k⟩ := ll_inv hst
    obtain ⟨q, hq⟩ := lk_at (ad := ad) hlk
    exact lv_lload hx hb hd (lv_at hl q hq) (go k hl)
  case lload_n j =>
    obtain rfl : len = 1 := by simpa [isSw, lenI] using hlen
    obtain ⟨x, hlk, k⟩ := ll_inv hst
    obtain ⟨q, hq⟩ := lk_at (ad := ad) hlk
    exact lv_lload_n hx hb hd rfl (lv_at hl q hq) (go k hl)
  case aload j =>
    obtain rfl : len = 2 := by simpa [isSw, lenI] using hlen
    obtain ⟨x, hlk, k⟩ := lr_inv hst
    obtain ⟨q, hq⟩ := lk_at (ad := ad) hlk
    exact lv_aload hx hb hd (lv_at hl q hq) (go k hl)
  case aload_n j =>
    obtain rfl : len = 1 := by simpa [isSw, lenI] using hlen
    obtain ⟨x, hlk, k⟩ := lr_inv hst
    obtain ⟨q, hq⟩ := lk_at (ad := ad) hlk
    exact lv_aload_n hx hb hd rfl (lv_at hl q hq) (go k hl)
  case istore j =>
    obtain rfl : len = 2 := by simpa [isSw, lenI] using hlen
    obtain ⟨x, r, rfl, k⟩ := pi_inv hst
    exact lv_istore hx hb hd hl (hnL j (Or.inl (Or.inl rfl))) (cvl_so1 ad ls j (.int x)) (fun _ hl' => go k hl')
  case istore_n j =>
    obtain rfl : len = 1 := by simpa [isSw, lenI] using hlen
    obtain ⟨x, r, rfl, k⟩ := pi_inv hst
    exact lv_istore_n hx hb hd rfl hl (hnL (j : Nat) (Or.inr ⟨j, rfl, Or.inl rfl⟩)) (cvl_so1 ad ls j (.int x)) (fun _ hl' => go k hl')
  case astore j =>
    obtain rfl : len = 2 := by simpa [isSw, lenI] using hlen
    obtain ⟨x, r, rfl, k⟩ := pr_inv hst
    exact lv_astore hx hb hd hl (hnL j (Or.inl (Or.inr (Or.inl rfl)))) (cvl_so1 ad ls j (.ref x)) (fun _ hl' => go k hl')
  case astore_n j =>
    obtain rfl : len = 1 := by simpa [isSw, lenI] using hlen
    obtain ⟨x, r, rfl, k⟩ := pr_inv hst
    exact lv_astore_n hx hb hd rfl hl (hnL (j : Nat) (Or.inr ⟨j, rfl, Or.inr rfl⟩)) (cvl_so1 ad ls j (.ref x)) (fun _ hl' => go k hl')
  case lstore j =>
    obtain rfl : len = 2 := by simpa [isSw, lenI] using hlen
    obtain ⟨x, r, rfl, k⟩ := pl_inv hst
    exact lv_lstore hx hb hd hl (hnL2 j (Or.inl rfl)) (cvl_so2 ad ls j (.long x)) (fun _ hl' => go k hl')
  case lstore_n j =>
    obtain rfl : len = 1 := by simpa [isSw, lenI] using hlen
    obtain ⟨x, r, rfl, k⟩ := pl_inv hst
    exact lv_lstore_n hx hb hd rfl hl (hnL2 (j : Nat) (Or.inr ⟨j, rfl, rfl⟩)) (cvl_so2 ad ls j (.long x)) (fun _ hl' => go k hl')
  case iinc j z =>
    obtain rfl : len = 3 := by simpa [isSw, lenI] using hlen
    obtain ⟨x, hlk, k⟩ := li_inv hst
    obtain ⟨q, hq⟩ := lk_at (ad := ad) hlk
    exact lv_iinc hx hb hd hl hq rfl (hnL j (Or.inl (Or.inr (Or.inr ⟨z, rfl⟩)))) (cvl_so1 ad ls j (.int (x + Int32.ofInt z))) (fun _ hl' => go k hl')
  case goto off =>
    obtain rfl : len = 3 := by simpa [isSw, lenI] using hlen
    exact lv_goto hx hb hd (tg_eq hcf) (go hst hl)
  case ifCond cd off =>
    obtain rfl : len = 3 := by simpa [isSw, lenI] using hlen
    obtain ⟨x, r, rfl, k⟩ := pi_inv hst
    cases cd
    · exact lv_if_eq hx hb hd (tg_eq hcf) (fun q => go (k.1 q) hl) (fun q => go (k.2 q) hl)
    · exact lv_if_ne hx hb hd (tg_eq hcf) (fun q => go (k.1 q) hl) (fun q => go (k.2 (not_not_intro q)) hl)
    · exact lv_if_lt hx hb hd (tg_eq hcf) (fun q => go (k.1 q) hl) (fun q => go (k.2 q) hl)
    · exact lv_if_ge hx hb hd (tg_eq hcf) (fun q => go (k.1 q) hl) (fun q => go (k.2 q) hl)
    · exact lv_if_gt hx hb hd (tg_eq hcf) (fun q => go (k.1 q) hl) (fun q => go (k.2 q) hl)
    · exact lv_if_le hx hb hd (tg_eq hcf) (fun q => go (k.1 q) hl) (fun q => go (k.2 q) hl)
  case if_icmp cd off =>
    obtain rfl : len = 3 := by simpa [isSw, lenI] using hlen
    obtain ⟨x, y, r, rfl, k⟩ := pii_inv hst
    cases cd
    · exact lv_icmp_eq hx hb hd (tg_eq hcf) (fun q => go (k.1 q) hl) (fun q => go (k.2 q) hl)
    · exact lv_icmp_ne hx hb hd (tg_eq hcf) (fun q => go (k.1 q) hl) (fun q => go (k.2 (not_not_intro q)) hl)
    · exact lv_icmp_lt hx hb hd (tg_eq hcf) (fun q => go (k.1 q) hl) (fun q => go (k.2 q) hl)
    · exact lv_icmp_ge hx hb hd (tg_eq hcf) (fun q => go (k.1 q) hl) (fun q => go (k.2 q) hl)
    · exact lv_icmp_gt hx hb hd (tg_eq hcf) (fun q => go (k.1 q) hl) (fun q => go (k.2 q) hl)
    · exact lv_icmp_le hx hb hd (tg_eq hcf) (fun q => go (k.1 q) hl) (fun q => go (k.2 q) hl)
  case tableswitch dflt lo hi offs =>
    obtain ⟨x, r, rfl, k⟩ := pi_inv hst
    obtain ⟨h1, h2, h3⟩ := hcf
    by_cases hlo : x.toInt < lo
    · have e : swo dflt lo offs.toList x = dflt := if_pos hlo
      rw [e] at k
      exact lv_tableOut hx hb hd (Or.inl hlo) (tg_eq h2) (go k hl)
    · by_cases hhi : hi < x.toInt
      · have e : swo dflt lo offs.toList x = dflt := by
          unfold swo
          rw [if_neg hlo, List.getElem?_eq_none (by rw [Array.length_toList]; omega)]
          rfl
        rw [e] at k
        exact lv_tableOut hx hb hd (Or.inr hhi) (tg_eq h2) (go k hl)
      · have hlt : (x.toInt - lo).toNat < offs.toList.length := by rw [Array.length_toList]; omega
        have e0 : offs.toList[(x.toInt - lo).toNat]? = some offs.toList[(x.toInt - lo).toNat] := List.getElem?_eq_getElem hlt
        have e : swo dflt lo offs.toList x = offs.toList[(x.toInt - lo).toNat] := by
          unfold swo
          rw [if_neg hlo, e0]
          rfl
        rw [e] at k
        exact lv_tableIn hx hb hd hlo hhi (by rw [← Array.getElem?_toList]; exact e0) (tg_eq (h3 _ (List.getElem_mem hlt))) (go k hl)
  case lookupswitch dflt ps =>
    obtain ⟨x, r, rfl, k⟩ := pi_inv hst
    obtain ⟨h1, h2, h3⟩ := hcf
    refine lv_lookup hx hb hd h1 rfl (tg_eq ?_) (go k hl)
    have : ∀ (l : List (Int × Int)) (d z : Int), 0 ≤ (pc : Int) + d → (∀ o ∈ l, 0 ≤ (pc : Int) + o.2) → 0 ≤ (pc : Int) + Op.lookupswitch.offset l d z := by
      intro l
      induction l with
      | nil => intro d z hd _; exact hd
      | cons q r ih =>
        intro d z hd hl
        obtain ⟨a, o⟩ := q
        unfold Op.lookupswitch.offset
        split
        · exact hl _ List.mem_cons_self
        · exact ih d z hd (fun o ho => hl o (List.mem_cons_of_mem _ ho))
    exact this _ _ _ h2 h3
  all_goals first | exact False.elim hst | exact absurd hpl Bool.false_ne_true
end SND
end
section
/-! THE CELLS OF THE WORLD, one store at a time -/
theorem enS_obj (cy : Nat → ClassId) (ad : Nat → Nat) (h : aH) (a ci n : Nat) : enS cy ad h a (100 + ci, n) = .inr (ci, (List.range n).map (fun k => wv ad h a k (fkd ci k))) := by
  unfold enS
  rw [if_neg (by show ¬ 100 + ci < 100; omega)]
  simp only [Nat.add_sub_cancel_left]
theorem enS_arr (cy : Nat → ClassId) (ad : Nat → Nat) (h : aH) (a : Nat) {t n : Nat} (ht : t < 100) : enS cy ad h a (t, n) = .inl (cy t, n, arc ad h a t) := if_pos ht
theorem rng_get {α : Type} (f : Nat → α) {n k : Nat} (h : k < n) : ((List.range n).map f)[k]? = some (f k) := by rw [List.getElem?_map, List.getElem?_range h]; rfl
theorem rng_set {α : Type} {f g : Nat → α} {n k : Nat} {x : α} (hk : g k = x) (ho : ∀ j, j ≠ k → g j = f j) : ((List.range n).map f).set k x = (List.range n).map g := by
  apply List.ext_getElem?
  intro j
  by_cases hj : j < n
  · rw [rng_get g hj]
    by_cases e : k = j
    · subst e
      rw [List.getElem?_set_self (by simpa using hj), hk]
    · rw [List.getElem?_set_ne e, rng_get f hj, ho j (fun q => e q.symm)]
  · rw [List.getElem?_eq_none (by simp; omega), List.getElem?_eq_none (by simp; omega)]
theorem wd_sI_obj {cy : Nat → ClassId} {ad : Nat → Nat} {h : aH} {a ci n k : Nat} {v : Int32} (hs : h.1[a]? = some (100 + ci, n)) (hk : fkd ci k ≠ 1 ∧ fkd ci k ≠ 2) :
    (wd cy ad h).set a (ad a, .inr (ci, ((List.range n).map (fun k => wv ad h a k (fkd ci k))).set k (.int v))) = wd cy ad (sI h a k v) := by
  refine wd_set hs rfl ?_ (fun i s' hi => enS_congr (up_n hi) rfl rfl)
  rw [enS_obj, rng_set (g := fun k' => wv ad (sI h a k v) a k' (fkd ci k'))]
  · unfold wv
    have e : aI (sI h a k v) a k = v := by simp [aI, sI, up_s, upd]
    split
    · rename_i q; exact absurd q hk.1
    · rename_i q; exact absurd q hk.2
    · rw [e]
  · intro j hj
    have e : aI (sI h a k v) a j = aI h a j := by simp [aI, sI, up_s, upd, hj]
    unfold wv
    rw [e]
    rfl
theorem wd_sJ_obj {cy : Nat → ClassId} {ad : Nat → Nat} {h : aH} {a ci n k : Nat} {v : Int64} (hs : h.1[a]? = some (100 + ci, n)) (hk : fkd ci k = 1) :
    (wd cy ad h).set a (ad a, .inr (ci, ((List.range n).map (fun k => wv ad h a k (fkd ci k))).set k (.long v))) = wd cy ad (sJ h a k v) := by
  refine wd_set hs rfl ?_ (fun i s' hi => enS_congr rfl (up_n hi) rfl)
  rw [enS_obj, rng_set (g := fun k' => wv ad (sJ h a k v) a k' (fkd ci k'))]
  · have e : aJ (sJ h a k v) a k = v := by simp [aJ, sJ, up_s, vp_updL]
    rw [hk]
    show Value.long _ = _
    rw [e]
  · intro j hj
    have e : aJ (sJ h a k v) a j = aJ h a j := by simp [aJ, sJ, up_s, vp_updL, hj]
    unfold wv
    rw [e]
    rfl
theorem wd_sR_obj {cy : Nat → ClassId} {ad : Nat → Nat} {h : aH} {a ci n k : Nat} {v : Nat} (hs : h.1[a]? = some (100 + ci, n)) (hk : fkd ci k = 2) :
    (wd cy ad h).set a (ad a, .inr (ci, ((List.range n).map (fun k => wv ad h a k (fkd ci k))).set k (.ref (ad v)))) = wd cy ad (sR h a k (some v)) := by
  refine wd_set hs rfl ?_ (fun i s' hi => enS_congr rfl rfl (up_n hi))
  rw [enS_obj, rng_set (g := fun k' => wv ad (sR h a k (some v)) a k' (fkd ci k'))]
  · have e : aR (sR h a k (some v)) a k = some v := by simp [aR, sR, up_s, va_up]
    rw [hk]
    show va_rf _ = _
    rw [e]
    rfl
  · intro j hj
    have e : aR (sR h a k (some v)) a j = aR h a j := by simp [aR, sR, up_s, va_up, hj]
    unfold wv
    rw [e]
    rfl
theorem wd_sI_arr {cy : Nat → ClassId} {ad : Nat → Nat} {h : aH} {a t n k : Nat} {v : Int32} (hs : h.1[a]? = some (t, n)) (ht : t = 0 ∨ t = 2 ∨ t = 3) :
    (wd cy ad h).set a (ad a, .inl (cy t, n, .inl (upd (aI h a) k v))) = wd cy ad (sI h a k v) := by
  refine wd_set hs rfl ?_ (fun i s' hi => enS_congr (up_n hi) rfl rfl)
  rw [enS_arr _ _ _ _ (by omega)]
  have e : aI (sI h a k v) a = upd (aI h a) k v := up_s
  rcases ht with rfl | rfl | rfl <;> simp [arc, e]
theorem wd_sJ_arr {cy : Nat → ClassId} {ad : Nat → Nat} {h : aH} {a n k : Nat} {v : Int64} (hs : h.1[a]? = some (1, n)) :
    (wd cy ad h).set a (ad a, .inl (cy 1, n, .inr (.inl (vp_updL (aJ h a) k v)))) = wd cy ad (sJ h a k v) := by
  refine wd_set hs rfl ?_ (fun i s' hi => enS_congr rfl (up_n hi) rfl)
  rw [enS_arr _ _ _ _ (by omega)]
  have e : aJ (sJ h a k v) a = vp_updL (aJ h a) k v := up_s
  simp [arc, e]
theorem wd_sR_arr {cy : Nat → ClassId} {ad : Nat → Nat} {h : aH} {a n k v : Nat} (hs : h.1[a]? = some (4, n)) :
    (wd cy ad h).set a (ad a, .inl (cy 4, n, .inr (.inr (.inr (.inr (va_up (fun k => (aR h a k).map ad) k (some (ad v)))))))) = wd cy ad (sR h a k (some v)) := by
  refine wd_set hs rfl ?_ (fun i s' hi => enS_congr rfl rfl (up_n hi))
  rw [enS_arr _ _ _ _ (by omega)]
  have e : aR (sR h a k (some v)) a = va_up (aR h a) k (some v) := up_s
  simp only [arc, e, if_neg (show ¬ (4 : Nat) = 1 by decide), if_pos (Nat.le_refl 4)]
  congr 7
  funext j
  by_cases hj : j = k
  · subst hj; simp [va_up]
  · simp [va_up, hj]
theorem wd_sC {cy : Nat → ClassId} {ad : Nat → Nat} {h : aH} {a0 a n sp dp z : Nat} (hs : h.1[a]? = some (0, n)) :
    (wd cy ad h).set a (ad a, .inl (cy 0, n, .inl (va_cpy (aI h a0) (aI h a) sp dp z))) = wd cy ad (sC h a0 sp a dp z) := by
  refine wd_set hs rfl ?_ (fun i s' hi => enS_congr (up_n hi) rfl rfl)
  rw [enS_arr _ _ _ _ (by omega)]
  have e : aI (sC h a0 sp a dp z) a = va_cpy (aI h a0) (aI h a) sp dp z := up_s
  simp [arc, e]
theorem RV_sI {h : aH} {a k : Nat} {v : Int32} (hv : RV h) : RV (sI h a k v) := hv
theorem RV_sJ {h : aH} {a k : Nat} {v : Int64} (hv : RV h) : RV (sJ h a k v) := hv
theorem RV_sC {h : aH} {a0 a sp dp z : Nat} (hv : RV h) : RV (sC h a0 sp a dp z) := hv
theorem RV_sR {h : aH} {a k v : Nat} (hv : RV h) (hlt : v < h.1.length) : RV (sR h a k (some v)) := by
  intro b j x hx
  show x < h.1.length
  by_cases e : b = a
  · subst e
    by_cases e2 : j = k
    · subst e2
      simp [aR, sR, up_s, va_up] at hx
      omega
    · have : aR h b j = some x := by simpa [aR, sR, up_s, va_up, e2] using hx
      exact hv b j x this
  · have : aR h b j = some x := by simpa [aR, sR, up_n e] using hx
    exact hv b j x this
/-- array classes of arrays that are there -/
def va_AOA (t : FieldType) (U : State) : Prop := (Jvm.Cond.arrayOver (.array t)).before #[] U = true
theorem va_AOA.use {t : FieldType} {A : Array Value} {U : State} (h : va_AOA t U) : (Jvm.Cond.arrayOver (.array t)).before A U = true := h
theorem va_AOA.of {t : FieldType} {A : Array Value} {U : State} (h : (Jvm.Cond.arrayOver (.array t)).before A U = true) : va_AOA t U := h
theorem va_AOA.moved {t : FieldType} {u U : State} (hvm : u.vm.Alike U.vm) (h : va_AOA t u) : va_AOA t U :=
  (Cond.arrayOver_setVmC (args := #[]) (s := u) hvm (.array t)).trans h
end
section
/-! THE CLASSES' TABLES, out of lw_tbl by places -/
theorem gw_of {w : Jvm.Cond} {i : Nat} (h : lw_tbl[i]? = some w) (g : goodWord w = true) : w ∈ GW := List.mem_filter.mpr ⟨List.mem_of_getElem? h, g⟩
def atT (i : Nat) (w : Jvm.Cond) : Bool := decide (lw_tbl[i]? = some w) && goodWord w
theorem atT_gw {i : Nat} {w : Jvm.Cond} (h : atT i w = true) : w ∈ GW := by
  unfold atT at h
  rw [Bool.and_eq_true, decide_eq_true_eq] at h
  exact gw_of h.1 h.2
def kdt (t : Nat) (ty : FieldType) : Prop := match t with
  | 0 => ty = .int
  | 1 => ty = .long
  | 3 => ty = .boolean
  | 2 => ty.isReference = true
  | _ => False
theorem lay_gw {C : String} {T : u_T} {N : Nat} (hs : List Nat) (h : (List.range N).all (fun k => atT (hs.getD k 0) (u_lay C T k)) = true) : ∀ w ∈ u_ws C T N, w ∈ GW := by
  intro w hw
  obtain ⟨k, hk, rfl⟩ := List.mem_map.mp hw
  exact atT_gw (List.all_eq_true.mp h k hk)
def ClsOk (ci : Nat) (C : String) (T : u_T) (N : Nat) (ty : Nat → FieldType) : Prop := vwCl[ci]? = some (C, T, N) ∧ (∀ w ∈ u_ws C T N, w ∈ GW) ∧ (∀ a, a < N → ∀ b, b < N → a ≠ b → (T a).2.1 ≠ (T b).2.1) ∧ (∀ k, k < N → parseFieldDescriptor (T k).2.2.1 = some (ty k)) ∧ (∀ k, k < N → kdt (fkd ci k) (ty k)) ∧ N = nf ci ∧ C = wdN ci ∧ ∀ k, wdC ci k = T k
set_option maxRecDepth 100000 in
theorem lay0 : ∀ w ∈ u_ws RX0 TX0 6, w ∈ GW := lay_gw [352, 354, 356, 358, 360, 362] (by decide +kernel)
theorem kd0 : ∀ k, k < 6 → kdt (fkd 0 k) (tyX0 k) := by
  intro k hk
  rcases (show k = 0 ∨ k = 1 ∨ k = 2 ∨ k = 3 ∨ k = 4 ∨ k = 5 by omega) with rfl | rfl | rfl | rfl | rfl | rfl <;> rfl
theorem cls0 : ClsOk 0 RX0 TX0 6 tyX0 := ⟨rfl, lay0, nmX0, tyX0_ok, kd0, rfl, rfl, fun _ => rfl⟩
set_option maxRecDepth 100000 in
theorem lay1 : ∀ w ∈ u_ws RX1 TX1 5, w ∈ GW := lay_gw [323, 325, 327, 329, 331] (by decide +kernel)
theorem kd1 : ∀ k, k < 5 → kdt (fkd 1 k) (tyX1 k) := by
  intro k hk
  rcases (show k = 0 ∨ k = 1 ∨ k = 2 ∨ k = 3 ∨ k = 4 by omega) with rfl | rfl | rfl | rfl | rfl <;> rfl
theorem cls1 : ClsOk 1 RX1 TX1 5 tyX1 := ⟨rfl, lay1, nmX1, tyX1_ok, kd1, rfl, rfl, fun _ => rfl⟩
set_option maxRecDepth 100000 in
theorem lay2 : ∀ w ∈ u_ws RX2 TX2 3, w ∈ GW := lay_gw [252, 254, 256] (by decide +kernel)
theorem kd2 : ∀ k, k < 3 → kdt (fkd 2 k) (tyX2 k) := by
  intro k hk
  rcases (show k = 0 ∨ k = 1 ∨ k = 2 by omega) with rfl | rfl | rfl <;> rfl
theorem cls2 : ClsOk 2 RX2 TX2 3 tyX2 := ⟨rfl, lay2, nmX2, tyX2_ok, kd2, rfl, rfl, fun _ => rfl⟩
set_option maxRecDepth 100000 in
theorem lay3 : ∀ w ∈ u_ws RX3 TX3 2, w ∈ GW := lay_gw [160, 162] (by decide +kernel)
theorem kd3 : ∀ k, k < 2 → kdt (fkd 3 k) (tyX3 k) := by
  intro k hk
  rcases (show k = 0 ∨ k = 1 by omega) with rfl | rfl <;> rfl
theorem cls3 : ClsOk 3 RX3 TX3 2 tyX3 := ⟨rfl, lay3, nmX3, tyX3_ok, kd3, rfl, rfl, fun _ => rfl⟩
set_option maxRecDepth 100000 in
theorem lay4 : ∀ w ∈ u_ws RX4 TX4 4, w ∈ GW := lay_gw [209, 211, 213, 215] (by decide +kernel)
theorem kd4 : ∀ k, k < 4 → kdt (fkd 4 k) (tyX4 k) := by
  intro k hk
  rcases (show k = 0 ∨ k = 1 ∨ k = 2 ∨ k = 3 by omega) with rfl | rfl | rfl | rfl <;> rfl
theorem cls4 : ClsOk 4 RX4 TX4 4 tyX4 := ⟨rfl, lay4, nmX4, tyX4_ok, kd4, rfl, rfl, fun _ => rfl⟩
set_option maxRecDepth 100000 in
theorem lay5 : ∀ w ∈ u_ws RX5 TX5 5, w ∈ GW := lay_gw [229, 231, 233, 235, 237] (by decide +kernel)
theorem kd5 : ∀ k, k < 5 → kdt (fkd 5 k) (tyX5 k) := by
  intro k hk
  rcases (show k = 0 ∨ k = 1 ∨ k = 2 ∨ k = 3 ∨ k = 4 by omega) with rfl | rfl | rfl | rfl | rfl <;> rfl
theorem cls5 : ClsOk 5 RX5 TX5 5 tyX5 := ⟨rfl, lay5, nmX5, tyX5_ok, kd5, rfl, rfl, fun _ => rfl⟩
set_option maxRecDepth 100000 in
theorem lay6 : ∀ w ∈ u_ws RX6 TX6 5, w ∈ GW := lay_gw [185, 187, 189, 191, 193] (by decide +kernel)
theorem kd6 : ∀ k, k < 5 → kdt (fkd 6 k) (tyX6 k) := by
  intro k hk
  rcases (show k = 0 ∨ k = 1 ∨ k = 2 ∨ k = 3 ∨ k = 4 by omega) with rfl | rfl | rfl | rfl | rfl <;> rfl
theorem cls6 : ClsOk 6 RX6 TX6 5 tyX6 := ⟨rfl, lay6, nmX6, tyX6_ok, kd6, rfl, rfl, fun _ => rfl⟩
set_option maxRecDepth 100000 in
theorem lay7 : ∀ w ∈ u_ws RX7 TX7 3, w ∈ GW := lay_gw [382, 384, 386] (by decide +kernel)
theorem kd7 : ∀ k, k < 3 → kdt (fkd 7 k) (tyX7 k) := by
  intro k hk
  rcases (show k = 0 ∨ k = 1 ∨ k = 2 by omega) with rfl | rfl | rfl <;> rfl
theorem cls7 : ClsOk 7 RX7 TX7 3 tyX7 := ⟨rfl, lay7, nmX7, tyX7_ok, kd7, rfl, rfl, fun _ => rfl⟩
set_option maxRecDepth 100000 in
theorem lay8 : ∀ w ∈ u_ws RX8 TX8 9, w ∈ GW := lay_gw [287, 289, 291, 293, 295, 297, 299, 301, 303] (by decide +kernel)
theorem kd8 : ∀ k, k < 9 → kdt (fkd 8 k) (tyX8 k) := by
  intro k hk
  rcases (show k = 0 ∨ k = 1 ∨ k = 2 ∨ k = 3 ∨ k = 4 ∨ k = 5 ∨ k = 6 ∨ k = 7 ∨ k = 8 by omega) with rfl | rfl | rfl | rfl | rfl | rfl | rfl | rfl | rfl <;> rfl
theorem cls8 : ClsOk 8 RX8 TX8 9 tyX8 := ⟨rfl, lay8, nmX8, tyX8_ok, kd8, rfl, rfl, fun _ => rfl⟩
set_option maxRecDepth 100000 in
theorem lay9 : ∀ w ∈ u_ws RX9 TX9 6, w ∈ GW := lay_gw [136, 138, 140, 142, 144, 146] (by decide +kernel)
theorem kd9 : ∀ k, k < 6 → kdt (fkd 9 k) (tyX9 k) := by
  intro k hk
  rcases (show k = 0 ∨ k = 1 ∨ k = 2 ∨ k = 3 ∨ k = 4 ∨ k = 5 by omega) with rfl | rfl | rfl | rfl | rfl | rfl <;> rfl
theorem cls9 : ClsOk 9 RX9 TX9 6 tyX9 := ⟨rfl, lay9, nmX9, tyX9_ok, kd9, rfl, rfl, fun _ => rfl⟩
set_option maxRecDepth 100000 in
theorem lay10 : ∀ w ∈ u_ws RX10 TX10 17, w ∈ GW := lay_gw [408, 410, 412, 414, 416, 418, 420, 422, 424, 426, 428, 430, 432, 434, 436, 438, 440] (by decide +kernel)
theorem kd10 : ∀ k, k < 17 → kdt (fkd 10 k) (tyX10 k) := by
  intro k hk
  rcases (show k = 0 ∨ k = 1 ∨ k = 2 ∨ k = 3 ∨ k = 4 ∨ k = 5 ∨ k = 6 ∨ k = 7 ∨ k = 8 ∨ k = 9 ∨ k = 10 ∨ k = 11 ∨ k = 12 ∨ k = 13 ∨ k = 14 ∨ k = 15 ∨ k = 16 by omega) with rfl | rfl | rfl | rfl | rfl | rfl | rfl | rfl | rfl | rfl | rfl | rfl | rfl | rfl | rfl | rfl | rfl <;> rfl
theorem cls10 : ClsOk 10 RX10 TX10 17 tyX10 := ⟨rfl, lay10, nmX10, tyX10_ok, kd10, rfl, rfl, fun _ => rfl⟩
set_option maxRecDepth 100000 in
theorem lay11 : ∀ w ∈ u_ws RX11 TX11 53, w ∈ GW := lay_gw [1135, 1137, 1139, 1141, 1143, 1145, 1147, 1149, 1151, 1153, 1155, 1157, 1159, 1161, 1163, 1165, 1167, 1169, 1171, 1173, 1175, 1177, 1179, 1181, 1183, 1185, 1187, 1189, 1191, 1193, 1195, 1197, 1199, 1201, 1203, 1205, 1207, 1209, 1211, 1213, 1215, 1217, 1219, 1221, 1223, 1225, 1227, 1229, 1231, 1233, 1235, 1237, 1239] (by decide +kernel)
theorem kd11 : ∀ k, k < 53 → kdt (fkd 11 k) (tyX11 k) := by
  intro k hk
  rcases (show k = 0 ∨ k = 1 ∨ k = 2 ∨ k = 3 ∨ k = 4 ∨ k = 5 ∨ k = 6 ∨ k = 7 ∨ k = 8 ∨ k = 9 ∨ k = 10 ∨ k = 11 ∨ k = 12 ∨ k = 13 ∨ k = 14 ∨ k = 15 ∨ k = 16 ∨ k = 17 ∨ k = 18 ∨ k = 19 ∨ k = 20 ∨ k = 21 ∨ k = 22 ∨ k = 23 ∨ k = 24 ∨ k = 25 ∨ k = 26 ∨ k = 27 ∨ k = 28 ∨ k = 29 ∨ k = 30 ∨ k = 31 ∨ k = 32 ∨ k = 33 ∨ k = 34 ∨ k = 35 ∨ k = 36 ∨ k = 37 ∨ k = 38 ∨ k = 39 ∨ k = 40 ∨ k = 41 ∨ k = 42 ∨ k = 43 ∨ k = 44 ∨ k = 45 ∨ k = 46 ∨ k = 47 ∨ k = 48 ∨ k = 49 ∨ k = 50 ∨ k = 51 ∨ k = 52 by omega) with rfl | rfl | rfl | rfl | rfl | rfl | rfl | rfl | rfl | rfl | rfl | rfl | rfl | rfl | rfl | rfl | rfl | rfl | rfl | rfl | rfl | rfl | rfl | rfl | rfl | rfl | rfl | rfl | rfl | rfl | rfl | rfl | rfl | rfl | rfl | rfl | rfl | rfl | rfl | rfl | rfl | rfl | rfl | rfl | rfl | rfl | rfl | rfl | rfl | rfl | rfl | rfl | rfl <;> rfl
theorem cls11 : ClsOk 11 RX11 TX11 53 tyX11 := ⟨rfl, lay11, nmX11, tyX11_ok, kd11, rfl, rfl, fun _ => rfl⟩
theorem cls_ok {ci : Nat} (h : ci < 12) : ∃ (C : String) (T : u_T) (N : Nat) (ty : Nat → FieldType), ClsOk ci C T N ty := by
  rcases (show ci = 0 ∨ ci = 1 ∨ ci = 2 ∨ ci = 3 ∨ ci = 4 ∨ ci = 5 ∨ ci = 6 ∨ ci = 7 ∨ ci = 8 ∨ ci = 9 ∨ ci = 10 ∨ ci = 11 by omega) with rfl | rfl | rfl | rfl | rfl | rfl | rfl | rfl | rfl | rfl | rfl | rfl
  · exact ⟨_, _, _, _, cls0⟩
  · exact ⟨_, _, _, _, cls1⟩
  · exact ⟨_, _, _, _, cls2⟩
  · exact ⟨_, _, _, _, cls3⟩
  · exact ⟨_, _, _, _, cls4⟩
  · exact ⟨_, _, _, _, cls5⟩
  · exact ⟨_, _, _, _, cls6⟩
  · exact ⟨_, _, _, _, cls7⟩
  · exact ⟨_, _, _, _, cls8⟩
  · exact ⟨_, _, _, _, cls9⟩
  · exact ⟨_, _, _, _, cls10⟩
  · exact ⟨_, _, _, _, cls11⟩
end
section
/-! ===== BEGIN new T[n][m]: the outer array a place, the inner ones among the pooled ===== -/
/-- f, but v at every address of l -/
def vr_up {α : Type} (f : Nat → α) (l : List Nat) (v : α) : Nat → α := fun a => if a ∈ l then v else f a
theorem vr_up_in {α : Type} {f : Nat → α} {l : List Nat} {v : α} {a : Nat} (h : a ∈ l) : vr_up f l v a = v := if_pos h
theorem vr_up_ne {α : Type} {f : Nat → α} {l : List Nat} {v : α} {a : Nat} (h : a ∉ l) : vr_up f l v a = f a := if_neg h
theorem vr_rows {L l : List Nat} {f : Nat → va_E} {e : va_E} (h : ∀ a, a ∈ l → a ∉ L) : va_pl L f ++ l.map (fun a => (a, e)) = va_pl (L ++ l) (vr_up f l e) := by
  unfold va_pl
  rw [List.map_append]
  congr 1
  · apply List.map_congr_left
    intro a ha
    rw [vr_up_ne (fun q => h a q ha)]
  · apply List.map_congr_left
    intro a ha
    rw [vr_up_in ha]
theorem vr_lay {X rows : va_W} {x : Nat × va_E} {pl : va_W} {D : va_G} {cl : List vw_C} {H : Heap} (hP : va_P D cl (((X ++ pl) ++ [x]) ++ rows) H) : va_P D cl ((X ++ [x]) ++ (pl ++ rows)) H := by
  rw [List.append_assoc (X ++ pl)] at hP
  have h := va_P.swap hP
  rw [← List.append_assoc X] at h
  have h2 := va_P.swap h
  rw [List.append_assoc (X ++ [x])] at h2
  exact h2
theorem vr_layD {X rows : va_W} {x : Nat × va_E} {pl : va_W} {A : Nat → Prop} (hD : va_D A (((X ++ pl) ++ [x]) ++ rows)) : va_D A ((X ++ [x]) ++ (pl ++ rows)) := by
  rw [List.append_assoc (X ++ pl)] at hD
  have h := va_D.swap hD
  rw [← List.append_assoc X] at h
  have h2 := va_D.swap h
  rw [List.append_assoc (X ++ [x])] at h2
  exact h2
theorem vr_outer (c : ClassId) (N h0 : Nat) : ∀ i : Nat, Jvm.Free.Multi.outerC c N h0 i = arrV c N (fun j => va_rf (if j < i then some (h0 + 1 + j) else none))
  | 0 => by
    show ({ cls := c, slots := Array.replicate N .null, vm := .none } : Cell) = _
    rw [arrV_new]
    refine congrArg (arrV c N) (funext fun j => ?_)
    simp [va_rf]
  | i + 1 => by
    show (Jvm.Free.Multi.outerC c N h0 i).setSlot i (.ref (h0 + 1 + i)) = _
    rw [vr_outer c N h0 i, arrV_store]
    refine congrArg (arrV c N) (funext fun j => ?_)
    by_cases e : j = i
    · subst e
      simp [updV, va_rf]
    · by_cases h : j < i
      · simp [updV, e, h, Nat.lt_succ_of_lt h]
      · simp [updV, e, h, show ¬ j < i + 1 by omega]
section VGM
variable {p : Program} {l : Launch} {e : Env} {R : Room} {s : State} {m : MethodId} {args : Array Value} {below : List Frame} {meth : Method} {c : Code} {H : Heap} {locs : List Loc} {cells slots : Nat} {Q : State → Prop}
variable {cc : ByteArray} {pc : Nat} {ls : Array Slot} {rest : List Value} {D : va_G} {cl : List vw_C} {A : Nat → Prop} {a : Nat} {tys : List (ClassId × FieldType)} {ws : va_W} {H0 : Heap}
theorem va_mna {X : va_W} {L : List Nat} {f : Nat → va_E} {cc : ByteArray} (hexec : p.tables.exec = Jvm.exec) (hb : c.code = cc) {own : String} {index : Nat} {ty : FieldType} {cy : ClassId} (hown : s.vm.findClass own = some m.cls) (hclink : (Cond.classLink own index ("[" ++ (FieldType.array ty).toString)).before args s = true) (hover : va_AOA ty s) (harr : (Cond.arrayClass ty).before args s = true) (hcy : s.vm.findClass (FieldType.array ty).toString = some cy)
    (hK : va_K D cl tys s) (hP : va_P D cl (X ++ va_pl L f) H) (hD : va_D A (X ++ va_pl L f)) (hS : va_S A H0 H locs) (hA : ∀ q, H0.size ≤ q → A q) {n k : Int32} {N' K' : Nat} {z : vp_A} (hn : ¬ n < 0) (hk : ¬ k < 0) (hN : n.toNatClampNeg = N') (hM : k.toNatClampNeg = K')
    (hb1 : N' * 4 ≤ 536870912) (hb2 : K' * componentBytes ty ≤ 536870912) (hb3 : K' ≤ 536870912) (hdf : fits ty (defaultValue ty) = true) (hdd : (defaultValue ty).isDefault = true) (hcells : cells + (1 + N') ≤ R.cells) (hslots : slots + (N' + N' * K') ≤ R.slots) (hz : ∀ c : ClassId, Jvm.Free.Multi.innerC c K' (defaultValue ty) = vp_cell c z) (hdg : decode cc pc = .ok (.multianewarray index 2, 4))
    (kk : ∀ (q : Nat) (r : Nat → Nat) (cA : ClassId) (H1 : Heap), (∀ i j : Nat, i < N' → j < N' → r i = r j → i = j) → (∀ i : Nat, i < N' → r i ∉ L) → va_K D cl (tys ++ [(cA, .array ty)]) s →
      va_P D cl ((X ++ [(q, .inl (cA, N', .inr (.inr (.inr (.inr (fun i => if i < N' then some (r i) else none))))))]) ++ va_pl (L ++ (List.range N').map r) (vr_up f ((List.range N').map r) (.inl (cy, z)))) H1 → va_D A ((X ++ [(q, .inl (cA, N', .inr (.inr (.inr (.inr (fun i => if i < N' then some (r i) else none))))))]) ++ va_pl (L ++ (List.range N').map r) (vr_up f ((List.range N').map r) (.inl (cy, z)))) → va_S A H0 H1 locs →
      W p l e R s m args below meth c H1 locs (cells + 1 + N') (slots + N' + N' * K') Q (F0 m (pc + 4) ls (.ref q :: rest))) : W p l e R s m args below meth c H locs cells slots Q (F0 m pc ls (.int k :: .int n :: rest)) := by
  subst hN
  subst hM
  intro T hT Xs
  obtain ⟨vm₁, cA, comp, -, fA, fC, hO, -, X', step⟩ := Xs.multianewarray2F hexec hown hclink (va_AOA.use hover) harr (g := F0 m pc ls (.int k :: .int n :: rest)) rfl (by rw [hb]; exact hdg) rfl hn hk hb1 hb2 hb3 hdf hdd hcells hslots
  have ec : some cy = some comp := hcy.symm.trans fC
  cases ec
  generalize hF : Jvm.Free.Multi.fill (T.setVm vm₁) cA cy n.toNatClampNeg k.toNatClampNeg (defaultValue ty) n.toNatClampNeg = F at X' step
  have hTh : (T.setVm vm₁).heap = H := hT
  obtain ⟨f1, f2, -, -⟩ := Jvm.Free.Multi.fill_facts (T.setVm vm₁) cA cy n.toNatClampNeg k.toNatClampNeg (defaultValue ty) n.toNatClampNeg
  rw [hF, hTh] at f1 f2
  have hold : ∀ x : Nat, x < H.size → F.heap[x]? = H[x]? := fun x hx => by
    have := Jvm.Free.Multi.fill_old (T.setVm vm₁) cA cy n.toNatClampNeg k.toNatClampNeg (defaultValue ty) (a := x) (by rw [hTh]; exact hx) n.toNatClampNeg
    rw [hF, hTh] at this
    exact this
  have hrow : ∀ j : Nat, j < n.toNatClampNeg → F.heap[H.size + 1 + j]? = some (vp_cell cy z) := fun j hj => by
    have := Jvm.Free.Multi.fill_inner (T.setVm vm₁) cA cy n.toNatClampNeg k.toNatClampNeg (defaultValue ty) n.toNatClampNeg j hj
    rw [hF, hTh, hz] at this
    exact this
  have hout : Jvm.Free.Multi.outerC cA n.toNatClampNeg H.size n.toNatClampNeg = vp_cell cA (n.toNatClampNeg, .inr (.inr (.inr (.inr (fun i => if i < n.toNatClampNeg then some (H.size + 1 + i) else none))))) := by
    rw [vp_cell_q]
    exact vr_outer cA n.toNatClampNeg H.size n.toNatClampNeg
  rw [hout] at f2
  have hlt : ∀ a, a ∈ L → a < H.size := fun a ha => by
    obtain ⟨k9, hk9⟩ := va_pl_get (X := X) (f := f) ha
    exact (hP k9 _ hk9).lt
  have hnl : ∀ i : Nat, i < n.toNatClampNeg → H.size + 1 + i ∉ L := fun i _ h => by
    have := hlt _ h
    omega
  have hnm : ∀ a, a ∈ (List.range n.toNatClampNeg).map (fun i => H.size + 1 + i) → a ∉ L := fun a ha h => by
    obtain ⟨i, -, rfl⟩ := List.mem_map.mp ha
    have := hlt _ h
    omega
  have hP0 : va_P D cl (X ++ va_pl L f) F.heap := hP.kept (fun k9 x hx => hold x.1 ((hP k9 x hx).lt))
  have hP1 : va_P D cl ((X ++ va_pl L f) ++ [(H.size, .inl (cA, n.toNatClampNeg, .inr (.inr (.inr (.inr (fun i => if i < n.toNatClampNeg then some (H.size + 1 + i) else none))))))]) F.heap := hP0.app (fun k9 x hx => by
    have h0 : k9 < 1 := (List.getElem?_eq_some_iff.mp hx).1
    rw [show k9 = 0 by omega] at hx
    cases hx
    exact f2)
  have hP2 : va_P D cl (((X ++ va_pl L f) ++ [(H.size, .inl (cA, n.toNatClampNeg, .inr (.inr (.inr (.inr (fun i => if i < n.toNatClampNeg then some (H.size + 1 + i) else none))))))]) ++ ((List.range n.toNatClampNeg).map (fun i => H.size + 1 + i)).map (fun a => (a, .inl (cy, z)))) F.heap := hP1.app (fun k9 x hx => by
    obtain ⟨a, ha, rfl⟩ := List.mem_map.mp (List.mem_of_getElem? hx)
    obtain ⟨i, hi, rfl⟩ := List.mem_map.mp ha
    exact hrow i (List.mem_range.mp hi))
  have hD2 : va_D A (((X ++ va_pl L f) ++ [(H.size, .inl (cA, n.toNatClampNeg, .inr (.inr (.inr (.inr (fun i => if i < n.toNatClampNeg then some (H.size + 1 + i) else none))))))]) ++ ((List.range n.toNatClampNeg).map (fun i => H.size + 1 + i)).map (fun a => (a, .inl (cy, z)))) := by
    have hD1 := hD.push (e := .inl (cA, n.toNatClampNeg, .inr (.inr (.inr (.inr (fun i => if i < n.toNatClampNeg then some (H.size + 1 + i) else none)))))) hP rfl (hA _ hS.1)
    generalize hW1 : (X ++ va_pl L f) ++ [(H.size, .inl (cA, n.toNatClampNeg, .inr (.inr (.inr (.inr (fun i => if i < n.toNatClampNeg then some (H.size + 1 + i) else none))))))] = W1 at hD1 hP1 ⊢
    have hle : ∀ (k9 : Nat) (x : Nat × va_E), W1[k9]? = some x → x.1 ≤ H.size := fun k9 x hx => by
      rw [← hW1] at hx
      by_cases hl : k9 < (X ++ va_pl L f).length
      · rw [List.getElem?_append_left hl] at hx
        exact Nat.le_of_lt ((hP k9 x hx).lt)
      · rw [List.getElem?_append_right (by omega)] at hx
        have h0 : k9 - (X ++ va_pl L f).length < 1 := (List.getElem?_eq_some_iff.mp hx).1
        rw [show k9 - (X ++ va_pl L f).length = 0 by omega] at hx
        cases hx
        exact Nat.le_refl _
    have hr : ∀ (k9 : Nat) (x : Nat × va_E), (((List.range n.toNatClampNeg).map (fun i => H.size + 1 + i)).map (fun a => ((a, .inl (cy, z)) : Nat × va_E)))[k9]? = some x → x.1 = H.size + 1 + k9 := fun k9 x hx => by
      rw [List.getElem?_map, List.getElem?_map] at hx
      by_cases h9 : k9 < n.toNatClampNeg
      · rw [List.getElem?_range h9] at hx
        cases hx
        rfl
      · have hn0 : (List.range n.toNatClampNeg)[k9]? = none := List.getElem?_eq_none (by rw [List.length_range]; omega)
        rw [hn0] at hx
        cases hx
    refine ⟨fun i j x y hi hj hxy => ?_, fun k9 x hx => ?_⟩
    · by_cases h1 : i < W1.length <;> by_cases h2 : j < W1.length
      · rw [List.getElem?_append_left h1] at hi
        rw [List.getElem?_append_left h2] at hj
        exact hD1.1 i j x y hi hj hxy
      · rw [List.getElem?_append_left h1] at hi
        rw [List.getElem?_append_right (by omega)] at hj
        have := hle _ _ hi
        have := hr _ _ hj
        omega
      · rw [List.getElem?_append_right (by omega)] at hi
        rw [List.getElem?_append_left h2] at hj
        have := hle _ _ hj
        have := hr _ _ hi
        omega
      · rw [List.getElem?_append_right (by omega)] at hi hj
        have := hr _ _ hi
        have := hr _ _ hj
        omega
    · by_cases h1 : k9 < W1.length
      · rw [List.getElem?_append_left h1] at hx
        exact hD1.2 k9 x hx
      · rw [List.getElem?_append_right (by omega)] at hx
        have := hr _ _ hx
        exact hA _ (by have := hS.1; omega)
  have hAr : ArrOfT s cA (.array ty) := fun N9 z9 => by
    obtain ⟨-, k9, hk9, cm9, hkk9⟩ := (hO 0 0 0).1
    exact ⟨(fun q hq => by cases hq), k9, hk9, cm9, hkk9⟩
  have hK2 : va_K D cl (tys ++ [(cA, .array ty)]) s := ⟨hK.1, fun k9 x hx => by
    by_cases hl : k9 < tys.length
    · rw [List.getElem?_append_left hl] at hx
      exact hK.2 k9 x hx
    · rw [List.getElem?_append_right (by omega)] at hx
      have h0 : k9 - tys.length < 1 := (List.getElem?_eq_some_iff.mp hx).1
      rw [show k9 - tys.length = 0 by omega] at hx
      cases hx
      exact ⟨hAr, fA⟩⟩
  obtain ⟨t, a1, b1⟩ := kk H.size (fun i => H.size + 1 + i) cA F.heap (fun i j _ _ h => by have h9 : H.size + 1 + i = H.size + 1 + j := h; omega) hnl hK2 (by rw [← vr_rows hnm]; exact vr_lay hP2) (by rw [← vr_rows hnm]; exact vr_layD hD2) ⟨by rw [f1]; have := hS.1; omega, fun x h1 h2 => (hold x (Nat.lt_of_lt_of_le h1 hS.1)).trans (hS.2.1 x h1 h2), hS.2.2⟩ F rfl X'
  refine ⟨t, step t ?_, b1⟩
  have e : T.heap.size = H.size := by rw [hT]
  rw [e]
  exact a1
end VGM
/-! ===== END ===== -/
end
section
/-! ===== BEGIN exceptions that leave a method, and their catching by the caller (launches without stack traces) ===== -/
section VXA
/-! The laws vx_back, vx_callV, vx_callS, vx_callSW, vx_throw0, vx_throwS follow proofs of the library, with one case more: JvmDerived/Free/Laws.lean (Back.of_free), Shelf42/LK1.lean (callV, callS), Shelf/KitTraced.lean (throwNew0V, throwNewS). -/
/-- where a method has thrown q: the class by its name, the cell, what was written, the world -/
def vx_T (XC : String → State → State → Prop) (st : State) (q : Addr) (t : State) (mc ms : Nat) (free : Addr → Prop) : Prop :=
  ∃ (E : String) (ce : Cell) (L : List Loc), XC E st t ∧ t.heap[q]? = some ce ∧ ce.vm = .none ∧ st.vm.findClass E = some ce.cls ∧ st.WarmedH t.vm ∧ st.sameButNew ({ t with vm := st.vm } : State) L mc ms ∧ ∀ z ∈ L, free z.base
def vx_Q (Qc : Array Value → State → Outcome → State → Prop) (XC : String → State → State → Prop) (mc ms : Nat) (free : Addr → Prop) : Array Value → State → Outcome → State → Prop := fun a st o t =>
  (Qc a st o t ∧ ∃ L, FrameEnd st o t L mc ms ∧ ∀ q ∈ L, free q.base) ∨ ∃ q, o = .threw q ∧ vx_T XC st q t mc ms free
/-- a callee that returns or throws -/
def vx_Met (l : Launch) (y : MethodName) (ws : List Cond) (rm : Room) (Pc : Array Value → State → Prop) (Qc : Array Value → State → Outcome → State → Prop) (XC : String → State → State → Prop) (mc ms : Nat) (free : Addr → Prop) : Prop :=
  MetFree l y (headSpec ws rm) Pc (fun _ _ _ _ _ => True) (vx_Q Qc XC mc ms free)
def vx_Post (XC : String → State → State → Prop) (mc ms : Nat) (free : Addr → Prop) : Pt → Array Value → Addr → Pt → Prop := fun A a q B =>
  ∃ (g : JFrame) (mk : MethodId) (t : State) (L : List Loc) (E : String) (ce : Cell), B.U.heap = t.heap ∧ B.U.vm = t.vm ∧ XC E (A.U.calling g mk a) t ∧ t.heap[q]? = some ce ∧ ce.vm = .none ∧ A.U.vm.findClass E = some ce.cls ∧ B.locs = A.locs ++ L ∧ (∀ z ∈ L, free z.base) ∧ B.cells = A.cells + mc ∧ B.slots = A.slots + ms
def vx_Back (l : Launch) (R : Room) (p : Program) (e : Env) (below : List Frame) (s : State) (sargs : Array Value) (y : MethodName) (len W9 : Nat)
    (Pre : Pt → Array Value → Prop) (Post : Pt → Array Value → Option Value → Pt → Prop) (PostX : Pt → Array Value → Addr → Pt → Prop) : Prop :=
  ∀ (m : MethodId) (meth : Method) (c : Code) (A : Pt) (g : JFrame) (ig : Instr) (mk : MethodId) (a : Array Value),
    Stand p l e R s m sargs below meth c A.U A.locs A.cells A.slots → g.method = m → g.locals.size = c.maxLocals → decode c.code g.pc = .ok (ig, len) →
    2 * g.monitorRoom + (g.stack.map fun v => v.category).sum ≤ W9 → A.U.methodNamed? y = some mk → Pre A a →
    (∃ (v : Option Value) (B : Pt), Stand p l e R s m sargs below meth c B.U B.locs B.cells B.slots ∧ Post A a v B ∧
      Steps p.tables e below (doInvoke e (A.U.setTop g) [] mk a).1 (B.U.setTop { g with pc := g.pc + len, stack := v.toList ++ g.stack })) ∨
    (∃ (q : Addr) (B : Pt), Stand p l e R s m sargs below meth c B.U B.locs B.cells B.slots ∧ PostX A a q B ∧
      Steps p.tables e below (doInvoke e (A.U.setTop g) [] mk a).1 ((B.U.setTop g).pushFrame (.throwing q)))
section Payer
variable {l : Launch} {R : Room} {p : Program} {e : Env} {below : List Frame} {s : State} {sargs : Array Value} {y : MethodName} {len W9 : Nat}
theorem vx_back {ws : List Cond} {rm : Room} {Pc : Array Value → State → Prop} {Qc : Array Value → State → Outcome → State → Prop} {XC : String → State → State → Prop} {mc ms : Nat} {free : Addr → Prop} {bytes : ByteArray} {maxL : Nat} {ret : Option FieldType}
    (hM : vx_Met l y ws rm Pc Qc XC mc ms free) (hblind : FrameBlind Pc) (hrc : rm.cells = mc) (hrs : rm.slots = ms)
    (hframes : rm.frames + 1 ≤ R.frames) (hlocals : W9 + (maxL + 11) + rm.locals ≤ R.locals)
    (hws : ∀ w ∈ ws, ∀ a' U, s.WarmedH U.vm → w.before a' U = true) (hcode : Cond.code y bytes maxL ret ∈ ws) (hinit : ∀ a' U, s.WarmedH U.vm → (Cond.initialized y.cls).before a' U = true) :
    vx_Back l R p e below s sargs y len W9 (PreOf R mc ms Pc) (PostOf Qc mc ms free) (vx_Post XC mc ms free) := by
  intro m meth c A g ig mk a X hg hsize hdg hW hn hp
  have h1 : (headSpec ws rm).pre.before a A.U = true := atoms_intro fun w hw => hws w hw _ _ X.warmed
  have h2 : (Cond.code y bytes maxL ret).before a A.U = true := hws _ hcode _ _ X.warmed
  have h3 : (Cond.initialized y.cls).before a A.U = true := hinit _ _ X.warmed
  have h4 : A.cells + (headSpec ws rm).room.cells ≤ R.cells := by rw [show (headSpec ws rm).room.cells = mc from hrc]; exact hp.1
  have h5 : A.slots + (headSpec ws rm).room.slots ≤ R.slots := by rw [show (headSpec ws rm).room.slots = ms from hrs]; exact hp.2.1
  have hPc : Pc a (A.U.calling g mk a) := hblind _ _ _ _ hp.2.2
  obtain ⟨U, Ls, c0, s0⟩ := A
  dsimp only [Pt.U, Pt.locs, Pt.cells, Pt.slots] at h1 h2 h3 h4 h5 X hn hPc ⊢
  obtain ⟨methY, cY, hmY, hcY, -, hlY, -, -, -, -⟩ := Cond.code_spec hn h2
  obtain ⟨kY, hkY, -⟩ := className_of_methodNamed hn
  have hinitY : kY.init = .initialized := Cond.initialized_spec (findClass_of_methodNamed hn) hkY h3
  have h : At U g.method c below := by rw [hg]; exact X.here
  have hlocals9 : W9 + (maxL + 11) + (headSpec ws rm).room.locals ≤ R.locals := hlocals
  have happ : (headSpec ws rm).appliesLoose y e.platform (U.calling g mk a) = true :=
    Spec.appliesLoose_calling (g := g) h hdg hn hkY hinitY
      (X.room_calling (g := g) (R' := (headSpec ws rm).room) hsize hmY hcY hframes (by rw [hlY]; omega) h4 h5) h1
  obtain ⟨mid, hmid⟩ := h.above
  have hfr : (U.setTop g).frames = (.java g :: mid) ++ below := by rw [State.frames_setTop' g h.top, hmid]; rfl
  obtain ⟨o, s₂, hsteps, -, hend, hq⟩ := Steps.callFree hM p X.admits X.cas X.clock (acts := []) hfr happ hPc trivial
  have hq' : vx_Q Qc XC mc ms free a (U.calling g mk a) o s₂ := hq
  rw [State.frames_setTop' g h.top] at hend
  obtain ⟨g₀, hg0⟩ := Option.isSome_iff_exists.mp h.top
  obtain ⟨r, hr⟩ := State.topJava?_eq_some.mp hg0
  have hr' : (({ U with heap := s₂.heap, slotsUsed := s₂.slotsUsed } : State).setVm s₂.vm).frames = .java g₀ :: r := hr
  rcases hq' with ⟨hqc, L, hfe, hL⟩ | ⟨q, rfl, E, ce, L, hx, hce, hcv, hcl, hW₂, hsm, hL⟩
  · obtain ⟨⟨v, rfl⟩, hW₂, e2, q2, q3, q4, q5, q6⟩ := id hfe
    have e3 : s₂ = ({ (U.calling g mk a).setFrames s₂.frames with heap := s₂.heap, slotsUsed := s₂.slotsUsed } : State).setVm s₂.vm := by
      have : s₂ = ({ s₂ with vm := (U.calling g mk a).vm } : State).setVm s₂.vm := rfl
      rw [e2] at this
      exact this
    obtain ⟨c₂, i₂, len₂, hc₂, hd₂, hf₂⟩ := hend
    have hW' : U.WarmedH s₂.vm := hW₂
    have hcc : c₂ = c := by
      have h1 : s₂.code? g.method = U.code? g.method := by
        rw [State.code?_eq, State.code?_eq, hW'.alike.method?]
      exact Option.some.inj (hc₂.symm.trans (h1.trans h.code))
    subst hcc
    have hlen : len₂ = len := by rw [hdg] at hd₂; cases hd₂; rfl
    subst hlen
    have hs₂ : s₂ = (({ U with heap := s₂.heap, slotsUsed := s₂.slotsUsed } : State).setVm s₂.vm).setTop { g with pc := g.pc + len₂, stack := v.toList ++ g.stack } := by
      refine e3.trans ?_
      rw [hf₂, State.calling_eq h.top, State.setFrames_setFrames, State.setTop_of_frames _ hr', hr]
      rfl
    have hsame : U.sameButNew ({ U with heap := s₂.heap, slotsUsed := s₂.slotsUsed } : State) L mc ms := by
      refine ⟨?_, q2, q3, q4, q5, q6⟩
      obtain ⟨t, ht, -⟩ := State.frames_cons hr
      show ({ U with heap := s₂.heap, slotsUsed := s₂.slotsUsed } : State) = { U.setFrames U.frames with heap := s₂.heap, slotsUsed := s₂.slotsUsed }
      rw [State.setFrames_self ht]
    subst hg
    refine Or.inl ⟨v, ⟨(({ U with heap := s₂.heap, slotsUsed := s₂.slotsUsed } : State).setVm s₂.vm), Ls ++ L, c0 + mc, s0 + ms⟩,
      ⟨X.admits, X.cas, X.clock, X.frames, X.room, X.hears, X.method, X.code, (X.here.setHeapUsed s₂.heap s₂.slotsUsed).setVm hW'.alike, X.tail, State.WarmedH.trans X.warmed hW', X.limits, X.bytes, X.same.trans (hsame.setVm s.vm)⟩,
      ⟨g, mk, s₂, L, rfl, rfl, hqc, rfl, hL, rfl, rfl⟩, ?_⟩
    show Steps p.tables e below _ ((({ U with heap := s₂.heap, slotsUsed := s₂.slotsUsed } : State).setVm s₂.vm).setTop { g with pc := g.pc + len₂, stack := v.toList ++ g.stack })
    rw [← hs₂]
    exact hsteps
  · obtain ⟨e2, q2, q3, q4, q5, q6⟩ := id hsm
    have e3 : s₂ = ({ (U.calling g mk a).setFrames s₂.frames with heap := s₂.heap, slotsUsed := s₂.slotsUsed } : State).setVm s₂.vm := by
      have : s₂ = ({ s₂ with vm := (U.calling g mk a).vm } : State).setVm s₂.vm := rfl
      rw [e2] at this
      exact this
    have hf₂ : s₂.frames = .throwing q :: .java g :: U.frames.tail := hend
    have hW' : U.WarmedH s₂.vm := hW₂
    have hs₂ : s₂ = ((({ U with heap := s₂.heap, slotsUsed := s₂.slotsUsed } : State).setVm s₂.vm).setTop g).pushFrame (.throwing q) := by
      refine e3.trans ?_
      rw [hf₂, State.calling_eq h.top, State.setFrames_setFrames, State.pushFrame, State.frames_setTop _ hr', State.setTop_of_frames _ hr', State.setFrames_setFrames, hr]
      rfl
    have hsame : U.sameButNew ({ U with heap := s₂.heap, slotsUsed := s₂.slotsUsed } : State) L mc ms := by
      refine ⟨?_, q2, q3, q4, q5, q6⟩
      obtain ⟨t, ht, -⟩ := State.frames_cons hr
      show ({ U with heap := s₂.heap, slotsUsed := s₂.slotsUsed } : State) = { U.setFrames U.frames with heap := s₂.heap, slotsUsed := s₂.slotsUsed }
      rw [State.setFrames_self ht]
    subst hg
    refine Or.inr ⟨q, ⟨(({ U with heap := s₂.heap, slotsUsed := s₂.slotsUsed } : State).setVm s₂.vm), Ls ++ L, c0 + mc, s0 + ms⟩,
      ⟨X.admits, X.cas, X.clock, X.frames, X.room, X.hears, X.method, X.code, (X.here.setHeapUsed s₂.heap s₂.slotsUsed).setVm hW'.alike, X.tail, State.WarmedH.trans X.warmed hW', X.limits, X.bytes, X.same.trans (hsame.setVm s.vm)⟩,
      ⟨g, mk, s₂, L, E, ce, rfl, rfl, hx, hce, hcv, hcl, rfl, hL, rfl, rfl⟩, ?_⟩
    show Steps p.tables e below _ (((({ U with heap := s₂.heap, slotsUsed := s₂.slotsUsed } : State).setVm s₂.vm).setTop g).pushFrame (.throwing q))
    rw [← hs₂]
    exact hsteps
end Payer
section Calls
variable {p : Program} {l : Launch} {e : Env} {R : Room} {s : State} {m : MethodId} {args : Array Value} {below : List Frame} {meth : Method} {c : Code} {T : State} {locs : List Loc} {cells slots : Nat}
theorem vx_callV (X : Stand p l e R s m args below meth c T locs cells slots) (hexec : p.tables.exec = Jvm.exec) {own C : String} {index : Nat} {y : MethodName} {bytes : ByteArray} {maxL : Nat} {ret : Option FieldType}
    (hown : s.vm.findClass own = some m.cls) (hlink : (Cond.methodLink own index y).before args s = true) (hinst : (Cond.instanceMethod y).before args s = true) (hsel : (Cond.selects C y y).before args s = true)
    (hcode : (Cond.code y bytes maxL ret).before args s = true) (hy : y.cls ≠ "java/lang/invoke/MethodHandle" ∧ y.cls ≠ "java/lang/invoke/VarHandle")
    {W9 : Nat} {Pre : Pt → Array Value → Prop} {Post : Pt → Array Value → Option Value → Pt → Prop} {PostX : Pt → Array Value → Addr → Pt → Prop} (hK : vx_Back l R p e below s args y 3 W9 Pre Post PostX)
    {b : Addr} {cellB : Cell} (hcell : T.heap[b]? = some cellB) (hobj : cellB.vm.isStatics = false) (hcls : s.vm.findClass C = some cellB.cls)
    {g : JFrame} (hg : g.method = m) (hsize : g.locals.size = c.maxLocals) {argsL rest : List Value} (hlen : ∀ sig, parseMethodDescriptor y.desc = some sig → argsL.length = sig.parameters.length)
    (hstack : g.stack = argsL.reverse ++ .ref b :: rest) (hW : 2 * g.monitorRoom + (rest.map fun v => v.category).sum ≤ W9) (hdg : decode c.code g.pc = .ok (.invokevirtual index, 3))
    (hpre : ∀ vm₁, s.WarmedH vm₁ → Pre ⟨T.setVm vm₁, locs, cells, slots⟩ (Value.ref b :: argsL).toArray) :
    (∃ (v : Option Value) (vm₁ : Vm) (B : Pt), s.WarmedH vm₁ ∧ Stand p l e R s m args below meth c B.U B.locs B.cells B.slots ∧ Post ⟨T.setVm vm₁, locs, cells, slots⟩ (Value.ref b :: argsL).toArray v B ∧
      ∀ target, Steps p.tables e below (B.U.setTop { g with pc := g.pc + 3, stack := v.toList ++ rest }) target → Steps p.tables e below (T.setTop g) target) ∨
    (∃ (q : Addr) (vm₁ : Vm) (B : Pt), s.WarmedH vm₁ ∧ Stand p l e R s m args below meth c B.U B.locs B.cells B.slots ∧ PostX ⟨T.setVm vm₁, locs, cells, slots⟩ (Value.ref b :: argsL).toArray q B ∧
      Steps p.tables e below (T.setTop g) ((B.U.setTop { g with stack := rest }).pushFrame (.throwing q))) := by
  obtain ⟨mk, methM, hnamed, hmethM, hstM, habM⟩ := Cond.instanceMethod_spec hinst
  obtain ⟨methM', cM, hmethM', -, -, -, -, -, -, hsigM⟩ := Cond.code_spec hnamed hcode
  cases hmethM.symm.trans hmethM'
  obtain ⟨c2, r2, m2, q1, q2, q3, q4, kP, hkP, hkPi⟩ := Cond.selects_spec hsel
  cases hcls.symm.trans q1
  cases (State.methodFound?_of_named hnamed hy).symm.trans q2
  cases hnamed.symm.trans q3
  have hselP : selectMethod e.platform s.vm cellB.cls mk = .method mk := by rw [Launch.admits_selectMethod X.admits]; exact q4
  obtain ⟨vm₁, X₁, hstep₁⟩ := X.invokevirtual hexec hown hlink hnamed hmethM hstM hkP hkPi hy (a := b) (cell := cellB) hcell
    (fun z h => by rw [h] at hobj; cases hobj) hselP hmethM habM hkP hkPi (g := g) hg (argsL := argsL) (rest := rest) (hlen _ hsigM) hstack hdg
  rcases hK m meth c ⟨T.setVm vm₁, locs, cells, slots⟩ { g with stack := rest } (.invokevirtual index) mk (Value.ref b :: argsL).toArray X₁ hg hsize hdg hW (X₁.named hnamed) (hpre vm₁ X₁.warmed) with ⟨v, B, X', hpost, hsteps⟩ | ⟨q, B, X', hpost, hsteps⟩
  · exact Or.inl ⟨v, vm₁, B, X₁.warmed, X', hpost, fun target h => hstep₁ _ fun acts => by rw [doInvoke_state]; exact hsteps.trans h⟩
  · exact Or.inr ⟨q, vm₁, B, X₁.warmed, X', hpost, hstep₁ _ fun acts => by rw [doInvoke_state]; exact hsteps⟩
theorem vx_callS (X : Stand p l e R s m args below meth c T locs cells slots) (hexec : p.tables.exec = Jvm.exec) {own : String} {index : Nat} {y : MethodName} {bytes : ByteArray} {maxL : Nat} {ret : Option FieldType}
    (hown : s.vm.findClass own = some m.cls) (hlink : (Cond.methodLink own index y).before args s = true) (hstat : (Cond.static y).before args s = true) (hinit : (Cond.initialized y.cls).before args s = true)
    (hcode : (Cond.code y bytes maxL ret).before args s = true) (hy : y.cls ≠ "java/lang/invoke/MethodHandle" ∧ y.cls ≠ "java/lang/invoke/VarHandle")
    {W9 : Nat} {Pre : Pt → Array Value → Prop} {Post : Pt → Array Value → Option Value → Pt → Prop} {PostX : Pt → Array Value → Addr → Pt → Prop} (hK : vx_Back l R p e below s args y 3 W9 Pre Post PostX)
    {g : JFrame} (hg : g.method = m) (hsize : g.locals.size = c.maxLocals) {argsL rest : List Value} (hlen : ∀ sig, parseMethodDescriptor y.desc = some sig → argsL.length = sig.parameters.length)
    (hstack : g.stack = argsL.reverse ++ rest) (hW : 2 * g.monitorRoom + (rest.map fun v => v.category).sum ≤ W9) (hdg : decode c.code g.pc = .ok (.invokestatic index, 3))
    (hpre : ∀ vm₁, s.WarmedH vm₁ → Pre ⟨T.setVm vm₁, locs, cells, slots⟩ argsL.toArray) :
    (∃ (v : Option Value) (vm₁ : Vm) (B : Pt), s.WarmedH vm₁ ∧ Stand p l e R s m args below meth c B.U B.locs B.cells B.slots ∧ Post ⟨T.setVm vm₁, locs, cells, slots⟩ argsL.toArray v B ∧
      ∀ target, Steps p.tables e below (B.U.setTop { g with pc := g.pc + 3, stack := v.toList ++ rest }) target → Steps p.tables e below (T.setTop g) target) ∨
    (∃ (q : Addr) (vm₁ : Vm) (B : Pt), s.WarmedH vm₁ ∧ Stand p l e R s m args below meth c B.U B.locs B.cells B.slots ∧ PostX ⟨T.setVm vm₁, locs, cells, slots⟩ argsL.toArray q B ∧
      Steps p.tables e below (T.setTop g) ((B.U.setTop { g with stack := rest }).pushFrame (.throwing q))) := by
  obtain ⟨mk, hnamed⟩ := Cond.code_named hcode
  obtain ⟨methM, cM, hmethM, -, -, -, -, -, -, hsigM⟩ := Cond.code_spec hnamed hcode
  have hstatic : methM.isStatic = true := Cond.static_spec hnamed hmethM hstat
  obtain ⟨kP, hkP, -⟩ := className_of_methodNamed hnamed
  have hinitP : kP.init = .initialized := Cond.initialized_spec (findClass_of_methodNamed hnamed) hkP hinit
  obtain ⟨vm₁, X₁, hstep₁⟩ := X.invokestatic hexec hown hlink hnamed hmethM hstatic hkP hinitP hy (g := g) hg (argsL := argsL) (rest := rest) (hlen _ hsigM) hstack hdg
  rcases hK m meth c ⟨T.setVm vm₁, locs, cells, slots⟩ { g with stack := rest } (.invokestatic index) mk argsL.toArray X₁ hg hsize hdg hW (X₁.named hnamed) (hpre vm₁ X₁.warmed) with ⟨v, B, X', hpost, hsteps⟩ | ⟨q, B, X', hpost, hsteps⟩
  · exact Or.inl ⟨v, vm₁, B, X₁.warmed, X', hpost, fun target h => hstep₁ _ fun acts => by rw [doInvoke_state]; exact hsteps.trans h⟩
  · exact Or.inr ⟨q, vm₁, B, X₁.warmed, X', hpost, hstep₁ _ fun acts => by rw [doInvoke_state]; exact hsteps⟩
end Calls
theorem vx_cls {s : State} {T : State} {vm₁ : Vm} {E : String} {k : ClassId} (hW : s.WarmedH vm₁) (h : (T.setVm vm₁).vm.findClass E = some k) : s.vm.findClass E = some k := by
  have h1 : vm₁.findClass E = some k := h
  rw [hW.alike.findClass] at h1
  exact h1
/-- the method's frame g, with q thrown over it -/
def vx_W (p : Program) (l : Launch) (e : Env) (R : Room) (s : State) (m : MethodId) (args : Array Value) (below : List Frame) (meth : Method) (c : Code) (H : Heap) (locs : List Loc) (cells slots : Nat) (Q : State → Prop) (g : JFrame) (q : Addr) : Prop :=
  ∀ T : State, T.heap = H → Stand p l e R s m args below meth c T locs cells slots → ∃ t, Steps p.tables e below ((T.setTop g).pushFrame (.throwing q)) t ∧ Q t
def vx_Run (p : Program) (l : Launch) (e : Env) (R : Room) (s : State) (m : MethodId) (args : Array Value) (below : List Frame) (meth : Method) (c : Code) (H : Heap) (locs : List Loc) (cells slots mc ms : Nat) (g : JFrame) (rest : List Value) (Qa : State → Outcome → State → Prop) (XC : String → State → State → Prop) (free : Addr → Prop) : Prop :=
  ∀ T : State, T.heap = H → Stand p l e R s m args below meth c T locs cells slots →
    (∃ (v : Option Value) (st₀ t T' : State) (L : List Loc), st₀.heap = H ∧ Stand p l e R s m args below meth c T' (locs ++ L) (cells + mc) (slots + ms) ∧ (∀ q ∈ L, free q.base) ∧ T'.heap = t.heap ∧ T'.vm = t.vm ∧ Qa st₀ (.returned v) t ∧
      Goes p e below T g T' { g with pc := g.pc + 3, stack := v.toList ++ rest }) ∨
    (∃ (q : Addr) (st₀ t T' : State) (L : List Loc) (E : String) (ce : Cell), st₀.heap = H ∧ Stand p l e R s m args below meth c T' (locs ++ L) (cells + mc) (slots + ms) ∧ (∀ z ∈ L, free z.base) ∧ T'.heap = t.heap ∧ T'.vm = t.vm ∧ XC E st₀ t ∧ t.heap[q]? = some ce ∧ ce.vm = .none ∧ s.vm.findClass E = some ce.cls ∧
      Steps p.tables e below (T.setTop g) ((T'.setTop { g with stack := rest }).pushFrame (.throwing q)))
def vx_X {S : Type} (px : S → Prop) (B : String → S → State → Prop) (A : Nat → Prop) : String → State → State → Prop := fun E st t => ∃ u : S, px u ∧ B E u t ∧ va_F A st t
section Runs
variable {p : Program} {l : Launch} {e : Env} {R : Room} {s : State} {m : MethodId} {args : Array Value} {below : List Frame} {meth : Method} {c : Code} {H : Heap} {locs : List Loc} {cells slots : Nat}
variable {y : MethodName} {bytes cc : ByteArray} {maxL nL mc ms n index : Nat} {ret : Option FieldType} {ws : List Cond} {rm : Room} {Pc : Array Value → State → Prop} {Qc : Array Value → State → Outcome → State → Prop} {XC : String → State → State → Prop} {free : Addr → Prop} {Ts : List Cond} {own C : String} {b : Addr} {As rest : List Value} {g : JFrame}
theorem vx_callBack (cb : CallB R s args own index y bytes maxL ret ws rm mc ms n) (hM : vx_Met l y ws rm Pc Qc XC mc ms free) (hbl : FrameBlind Pc) : vx_Back l R p e below s args y 3 8 (PreOf R mc ms Pc) (PostOf Qc mc ms free) (vx_Post XC mc ms free) := by
  obtain ⟨hrc, hrs, hfr, hlo, hws, hcw, -, hini, -⟩ := cb
  exact vx_back (bytes := bytes) (maxL := maxL) (ret := ret) hM hbl hrc hrs hfr hlo hws hcw (fun a' U hW => word_at hW (Or.inl (by first | rfl | simp [Cond.onTables, Cond.keeps, Cond.steady])) hini)
theorem vx_runV (S : CallFix p m c cc nL s args Ts own) (hM : vx_Met l y ws rm Pc Qc XC mc ms free) (cw : CallW R s args own C index y bytes maxL ret ws rm mc ms n) (hp : PreV s H C b Pc As)
    (hg : g.method = m) (hn : As.length = n) (hsize : g.locals.size = nL) (hstack : g.stack = As.reverse ++ .ref b :: rest) (hW : 2 * g.monitorRoom + (rest.map fun v => v.category).sum ≤ 8) (hdg : decode cc g.pc = .ok (.invokevirtual index, 3)) (hf : cells + mc ≤ R.cells ∧ slots + ms ≤ R.slots) :
    vx_Run p l e R s m args below meth c H locs cells slots mc ms g rest (Qc (Value.ref b :: As).toArray) XC free := by
  have hK : vx_Back l R p e below s args y 3 8 (PreOf R mc ms Pc) (PostOf Qc mc ms free) (vx_Post XC mc ms free) := vx_callBack cw.1 hM hp.1
  obtain ⟨⟨-, -, -, -, -, -, hcode, -, hy, hlen, hl⟩, hin, hse⟩ := cw
  obtain ⟨hx, hb, hml, ho, -⟩ := S
  obtain ⟨-, ⟨cellB, hcB, hoB, hclB⟩, hPc⟩ := hp
  intro T hT X
  rcases vx_callV X hx (C := C) (bytes := bytes) (maxL := maxL) (ret := ret) ho hl hin hse hcode hy hK (by rw [hT]; exact hcB) hoB hclB hg (hsize.trans hml.symm) (argsL := As) (rest := rest) (fun sig h => hn.trans (hlen sig h)) hstack hW (by rw [hb]; exact hdg)
    (fun vm₁ hW₁ => ⟨hf.1, hf.2, hPc (T.setVm vm₁) hT hW₁⟩) with ⟨v, vm₁, ⟨U', l2, c2, s2⟩, hW₁, X', ⟨g', mk, t, L, e1, e2, hq, h1, hL, h2, h3⟩, st⟩ | ⟨q, vm₁, ⟨U', l2, c2, s2⟩, hW₁, X', ⟨g', mk, t, L, E, ce, e1, e2, hq, hce, hcv, hcl, h1, hL, h2, h3⟩, st⟩
  · dsimp only [Pt.U, Pt.locs, Pt.cells, Pt.slots] at X' e1 e2 h1 h2 h3 st
    subst h1; subst h2; subst h3
    exact Or.inl ⟨v, (T.setVm vm₁).calling g' mk (Value.ref b :: As).toArray, t, U', L, hT, X', hL, e1, e2, hq, st⟩
  · dsimp only [Pt.U, Pt.locs, Pt.cells, Pt.slots] at X' e1 e2 h1 h2 h3 st hcl
    subst h1; subst h2; subst h3
    exact Or.inr ⟨q, (T.setVm vm₁).calling g' mk (Value.ref b :: As).toArray, t, U', L, E, ce, hT, X', hL, e1, e2, hq, hce, hcv, vx_cls hW₁ hcl, st⟩
theorem vx_runS (S : CallFix p m c cc nL s args Ts own) (hM : vx_Met l y ws rm Pc Qc XC mc ms free) (cw : CallB R s args own index y bytes maxL ret ws rm mc ms n ∧ (Cond.static y).before args s = true) (hp : PreS s H Pc As)
    (hg : g.method = m) (hn : As.length = n) (hsize : g.locals.size = nL) (hstack : g.stack = As.reverse ++ rest) (hW : 2 * g.monitorRoom + (rest.map fun v => v.category).sum ≤ 8) (hdg : decode cc g.pc = .ok (.invokestatic index, 3)) (hf : cells + mc ≤ R.cells ∧ slots + ms ≤ R.slots) :
    vx_Run p l e R s m args below meth c H locs cells slots mc ms g rest (Qc As.toArray) XC free := by
  have hK : vx_Back l R p e below s args y 3 8 (PreOf R mc ms Pc) (PostOf Qc mc ms free) (vx_Post XC mc ms free) := vx_callBack cw.1 hM hp.1
  obtain ⟨⟨-, -, -, -, -, -, hcode, hini, hy, hlen, hl⟩, hstt⟩ := cw
  obtain ⟨hx, hb, hml, ho, -⟩ := S
  intro T hT X
  rcases vx_callS X hx (bytes := bytes) (maxL := maxL) (ret := ret) ho hl hstt hini hcode hy hK hg (hsize.trans hml.symm) (argsL := As) (rest := rest) (fun sig h => hn.trans (hlen sig h)) hstack hW (by rw [hb]; exact hdg)
    (fun vm₁ hW₁ => ⟨hf.1, hf.2, hp.2 (T.setVm vm₁) hT hW₁⟩) with ⟨v, vm₁, ⟨U', l2, c2, s2⟩, hW₁, X', ⟨g', mk, t, L, e1, e2, hq, h1, hL, h2, h3⟩, st⟩ | ⟨q, vm₁, ⟨U', l2, c2, s2⟩, hW₁, X', ⟨g', mk, t, L, E, ce, e1, e2, hq, hce, hcv, hcl, h1, hL, h2, h3⟩, st⟩
  · dsimp only [Pt.U, Pt.locs, Pt.cells, Pt.slots] at X' e1 e2 h1 h2 h3 st
    subst h1; subst h2; subst h3
    exact Or.inl ⟨v, (T.setVm vm₁).calling g' mk As.toArray, t, U', L, hT, X', hL, e1, e2, hq, st⟩
  · dsimp only [Pt.U, Pt.locs, Pt.cells, Pt.slots] at X' e1 e2 h1 h2 h3 st hcl
    subst h1; subst h2; subst h3
    exact Or.inr ⟨q, (T.setVm vm₁).calling g' mk As.toArray, t, U', L, E, ce, hT, X', hL, e1, e2, hq, hce, hcv, vx_cls hW₁ hcl, st⟩
end Runs
section Rows
variable {p : Program} {l : Launch} {e : Env} {R : Room} {s : State} {m : MethodId} {args : Array Value} {below : List Frame} {meth : Method} {c : Code} {H : Heap} {locs : List Loc} {cells slots : Nat} {Q : State → Prop}
variable {mc ms : Nat} {free : Addr → Prop} {A0 A1 : Nat → Prop} {H0 : Heap} {a : Array Value} {pc : Nat} {ls : Array Slot} {st0 rest : List Value}
theorem vx_keep {st₀ t T' : State} {L : List Loc} (h0 : st₀.heap = H) (e1 : T'.heap = t.heap) (hS : va_S A0 H0 H locs) (hA : ∀ q, q < H.size → A1 q → A0 q) (hf : ∀ q, free q → A0 q) (hL : ∀ q ∈ L, free q.base) (hF : va_F A1 st₀ t) :
    H.size ≤ T'.heap.size ∧ (∀ q : Nat, q < H.size → ¬ A1 q → T'.heap[q]? = H[q]?) ∧ va_S A0 H0 T'.heap (locs ++ L) := by
  obtain ⟨hz, hk⟩ := hF
  rw [h0] at hz hk
  exact ⟨by rw [e1]; exact hz, fun q h1 h2 => by rw [e1]; exact hk q h1 h2,
    ⟨Nat.le_trans hS.1 (by rw [e1]; exact hz), fun q h1 h2 => by rw [e1, hk q (Nat.lt_of_lt_of_le h1 hS.1) (fun z => h2 (hA q (Nat.lt_of_lt_of_le h1 hS.1) z))]; exact hS.2.1 q h1 h2, fun q hq => by
      rcases List.mem_append.mp hq with h | h
      · exact hS.2.2 q h
      · exact hf _ (hL q h)⟩⟩
theorem vx_calli {S SX : Type} {post : Int32 → S → Prop} {px : SX → Prop} {B : S → State → Prop} {BX : String → SX → State → Prop} {AX : Nat → Prop} (hr : vx_Run p l e R s m args below meth c H locs cells slots mc ms (F0 m pc ls st0) rest (va_Qi post B A1 a) (vx_X px BX AX) free) (hS : va_S A0 H0 H locs) (hA : ∀ q, q < H.size → A1 q → A0 q) (hf : ∀ q, free q → A0 q) (hAX : ∀ q, q < H.size → AX q → A0 q)
    (kx : ∀ (E : String) (ce : Cell) (q9 : Addr) (u : SX) (t : State) (H1 : Heap) (locs1 : List Loc), t.heap = H1 → s.vm.Alike t.vm → px u → BX E u t → H.size ≤ H1.size → (∀ q : Nat, q < H.size → ¬ AX q → H1[q]? = H[q]?) → va_S A0 H0 H1 locs1 → H1[q9]? = some ce → ce.vm = .none → s.vm.findClass E = some ce.cls → vx_W p l e R s m args below meth c H1 locs1 (cells + mc) (slots + ms) Q (F0 m pc ls rest) q9)
    (kk : ∀ (r : Int32) (u : S) (t : State) (H1 : Heap) (locs1 : List Loc), t.heap = H1 → s.vm.Alike t.vm → post r u → B u t → H.size ≤ H1.size → (∀ q : Nat, q < H.size → ¬ A1 q → H1[q]? = H[q]?) → va_S A0 H0 H1 locs1 → W p l e R s m args below meth c H1 locs1 (cells + mc) (slots + ms) Q (F0 m (pc + 3) ls (.int r :: rest))) : W p l e R s m args below meth c H locs cells slots Q (F0 m pc ls st0) := by
  intro T hT X
  rcases hr T hT X with ⟨v, st₀, t, T', L, h0, X', hL, e1, e2, ⟨⟨r, u, hv, hp, hb⟩, hF⟩, st⟩ | ⟨q, st₀, t, T', L, E, ce, h0, X', hL, e1, e2, ⟨u, hp, hb, hF⟩, hce, hcv, hcl, st⟩
  · cases hv
    obtain ⟨k1, k2, k3⟩ := vx_keep h0 e1 hS hA hf hL hF
    obtain ⟨t2, a1, b1⟩ := kk r u t T'.heap (locs ++ L) e1.symm (by rw [← e2]; exact X'.warmed.alike) hp hb k1 k2 k3 T' rfl X'
    exact ⟨t2, st t2 a1, b1⟩
  · obtain ⟨k1, k2, k3⟩ := vx_keep h0 e1 hS hAX hf hL hF
    obtain ⟨t2, a1, b1⟩ := kx E ce q u t T'.heap (locs ++ L) e1.symm (by rw [← e2]; exact X'.warmed.alike) hp hb k1 k2 k3 (by rw [e1]; exact hce) hcv hcl T' rfl X'
    exact ⟨t2, st.trans a1, b1⟩
theorem vx_calll {S SX : Type} {post : Int64 → S → Prop} {px : SX → Prop} {B : S → State → Prop} {BX : String → SX → State → Prop} {AX : Nat → Prop} (hr : vx_Run p l e R s m args below meth c H locs cells slots mc ms (F0 m pc ls st0) rest (va_Ql post B A1 a) (vx_X px BX AX) free) (hS : va_S A0 H0 H locs) (hA : ∀ q, q < H.size → A1 q → A0 q) (hf : ∀ q, free q → A0 q) (hAX : ∀ q, q < H.size → AX q → A0 q)
    (kx : ∀ (E : String) (ce : Cell) (q9 : Addr) (u : SX) (t : State) (H1 : Heap) (locs1 : List Loc), t.heap = H1 → s.vm.Alike t.vm → px u → BX E u t → H.size ≤ H1.size → (∀ q : Nat, q < H.size → ¬ AX q → H1[q]? = H[q]?) → va_S A0 H0 H1 locs1 → H1[q9]? = some ce → ce.vm = .none → s.vm.findClass E = some ce.cls → vx_W p l e R s m args below meth c H1 locs1 (cells + mc) (slots + ms) Q (F0 m pc ls rest) q9)
    (kk : ∀ (r : Int64) (u : S) (t : State) (H1 : Heap) (locs1 : List Loc), t.heap = H1 → s.vm.Alike t.vm → post r u → B u t → H.size ≤ H1.size → (∀ q : Nat, q < H.size → ¬ A1 q → H1[q]? = H[q]?) → va_S A0 H0 H1 locs1 → W p l e R s m args below meth c H1 locs1 (cells + mc) (slots + ms) Q (F0 m (pc + 3) ls (.long r :: rest))) : W p l e R s m args below meth c H locs cells slots Q (F0 m pc ls st0) := by
  intro T hT X
  rcases hr T hT X with ⟨v, st₀, t, T', L, h0, X', hL, e1, e2, ⟨⟨r, u, hv, hp, hb⟩, hF⟩, st⟩ | ⟨q, st₀, t, T', L, E, ce, h0, X', hL, e1, e2, ⟨u, hp, hb, hF⟩, hce, hcv, hcl, st⟩
  · cases hv
    obtain ⟨k1, k2, k3⟩ := vx_keep h0 e1 hS hA hf hL hF
    obtain ⟨t2, a1, b1⟩ := kk r u t T'.heap (locs ++ L) e1.symm (by rw [← e2]; exact X'.warmed.alike) hp hb k1 k2 k3 T' rfl X'
    exact ⟨t2, st t2 a1, b1⟩
  · obtain ⟨k1, k2, k3⟩ := vx_keep h0 e1 hS hAX hf hL hF
    obtain ⟨t2, a1, b1⟩ := kx E ce q u t T'.heap (locs ++ L) e1.symm (by rw [← e2]; exact X'.warmed.alike) hp hb k1 k2 k3 (by rw [e1]; exact hce) hcv hcl T' rfl X'
    exact ⟨t2, st.trans a1, b1⟩
theorem vx_callf {S SX : Type} {post : UInt32 → S → Prop} {px : SX → Prop} {B : S → State → Prop} {BX : String → SX → State → Prop} {AX : Nat → Prop} (hr : vx_Run p l e R s m args below meth c H locs cells slots mc ms (F0 m pc ls st0) rest (va_Qf post B A1 a) (vx_X px BX AX) free) (hS : va_S A0 H0 H locs) (hA : ∀ q, q < H.size → A1 q → A0 q) (hf : ∀ q, free q → A0 q) (hAX : ∀ q, q < H.size → AX q → A0 q)
    (kx : ∀ (E : String) (ce : Cell) (q9 : Addr) (u : SX) (t : State) (H1 : Heap) (locs1 : List Loc), t.heap = H1 → s.vm.Alike t.vm → px u → BX E u t → H.size ≤ H1.size → (∀ q : Nat, q < H.size → ¬ AX q → H1[q]? = H[q]?) → va_S A0 H0 H1 locs1 → H1[q9]? = some ce → ce.vm = .none → s.vm.findClass E = some ce.cls → vx_W p l e R s m args below meth c H1 locs1 (cells + mc) (slots + ms) Q (F0 m pc ls rest) q9)
    (kk : ∀ (r : UInt32) (u : S) (t : State) (H1 : Heap) (locs1 : List Loc), t.heap = H1 → s.vm.Alike t.vm → post r u → B u t → H.size ≤ H1.size → (∀ q : Nat, q < H.size → ¬ A1 q → H1[q]? = H[q]?) → va_S A0 H0 H1 locs1 → W p l e R s m args below meth c H1 locs1 (cells + mc) (slots + ms) Q (F0 m (pc + 3) ls (.float r :: rest))) : W p l e R s m args below meth c H locs cells slots Q (F0 m pc ls st0) := by
  intro T hT X
  rcases hr T hT X with ⟨v, st₀, t, T', L, h0, X', hL, e1, e2, ⟨⟨r, u, hv, hp, hb⟩, hF⟩, st⟩ | ⟨q, st₀, t, T', L, E, ce, h0, X', hL, e1, e2, ⟨u, hp, hb, hF⟩, hce, hcv, hcl, st⟩
  · cases hv
    obtain ⟨k1, k2, k3⟩ := vx_keep h0 e1 hS hA hf hL hF
    obtain ⟨t2, a1, b1⟩ := kk r u t T'.heap (locs ++ L) e1.symm (by rw [← e2]; exact X'.warmed.alike) hp hb k1 k2 k3 T' rfl X'
    exact ⟨t2, st t2 a1, b1⟩
  · obtain ⟨k1, k2, k3⟩ := vx_keep h0 e1 hS hAX hf hL hF
    obtain ⟨t2, a1, b1⟩ := kx E ce q u t T'.heap (locs ++ L) e1.symm (by rw [← e2]; exact X'.warmed.alike) hp hb k1 k2 k3 (by rw [e1]; exact hce) hcv hcl T' rfl X'
    exact ⟨t2, st.trans a1, b1⟩
theorem vx_calld {S SX : Type} {post : UInt64 → S → Prop} {px : SX → Prop} {B : S → State → Prop} {BX : String → SX → State → Prop} {AX : Nat → Prop} (hr : vx_Run p l e R s m args below meth c H locs cells slots mc ms (F0 m pc ls st0) rest (va_Qd post B A1 a) (vx_X px BX AX) free) (hS : va_S A0 H0 H locs) (hA : ∀ q, q < H.size → A1 q → A0 q) (hf : ∀ q, free q → A0 q) (hAX : ∀ q, q < H.size → AX q → A0 q)
    (kx : ∀ (E : String) (ce : Cell) (q9 : Addr) (u : SX) (t : State) (H1 : Heap) (locs1 : List Loc), t.heap = H1 → s.vm.Alike t.vm → px u → BX E u t → H.size ≤ H1.size → (∀ q : Nat, q < H.size → ¬ AX q → H1[q]? = H[q]?) → va_S A0 H0 H1 locs1 → H1[q9]? = some ce → ce.vm = .none → s.vm.findClass E = some ce.cls → vx_W p l e R s m args below meth c H1 locs1 (cells + mc) (slots + ms) Q (F0 m pc ls rest) q9)
    (kk : ∀ (r : UInt64) (u : S) (t : State) (H1 : Heap) (locs1 : List Loc), t.heap = H1 → s.vm.Alike t.vm → post r u → B u t → H.size ≤ H1.size → (∀ q : Nat, q < H.size → ¬ A1 q → H1[q]? = H[q]?) → va_S A0 H0 H1 locs1 → W p l e R s m args below meth c H1 locs1 (cells + mc) (slots + ms) Q (F0 m (pc + 3) ls (.double r :: rest))) : W p l e R s m args below meth c H locs cells slots Q (F0 m pc ls st0) := by
  intro T hT X
  rcases hr T hT X with ⟨v, st₀, t, T', L, h0, X', hL, e1, e2, ⟨⟨r, u, hv, hp, hb⟩, hF⟩, st⟩ | ⟨q, st₀, t, T', L, E, ce, h0, X', hL, e1, e2, ⟨u, hp, hb, hF⟩, hce, hcv, hcl, st⟩
  · cases hv
    obtain ⟨k1, k2, k3⟩ := vx_keep h0 e1 hS hA hf hL hF
    obtain ⟨t2, a1, b1⟩ := kk r u t T'.heap (locs ++ L) e1.symm (by rw [← e2]; exact X'.warmed.alike) hp hb k1 k2 k3 T' rfl X'
    exact ⟨t2, st t2 a1, b1⟩
  · obtain ⟨k1, k2, k3⟩ := vx_keep h0 e1 hS hAX hf hL hF
    obtain ⟨t2, a1, b1⟩ := kx E ce q u t T'.heap (locs ++ L) e1.symm (by rw [← e2]; exact X'.warmed.alike) hp hb k1 k2 k3 (by rw [e1]; exact hce) hcv hcl T' rfl X'
    exact ⟨t2, st.trans a1, b1⟩
theorem vx_callv {S SX : Type} {post : S → Prop} {px : SX → Prop} {B : S → State → Prop} {BX : String → SX → State → Prop} {AX : Nat → Prop} (hr : vx_Run p l e R s m args below meth c H locs cells slots mc ms (F0 m pc ls st0) rest (va_Qv post B A1 a) (vx_X px BX AX) free) (hS : va_S A0 H0 H locs) (hA : ∀ q, q < H.size → A1 q → A0 q) (hf : ∀ q, free q → A0 q) (hAX : ∀ q, q < H.size → AX q → A0 q)
    (kx : ∀ (E : String) (ce : Cell) (q9 : Addr) (u : SX) (t : State) (H1 : Heap) (locs1 : List Loc), t.heap = H1 → s.vm.Alike t.vm → px u → BX E u t → H.size ≤ H1.size → (∀ q : Nat, q < H.size → ¬ AX q → H1[q]? = H[q]?) → va_S A0 H0 H1 locs1 → H1[q9]? = some ce → ce.vm = .none → s.vm.findClass E = some ce.cls → vx_W p l e R s m args below meth c H1 locs1 (cells + mc) (slots + ms) Q (F0 m pc ls rest) q9)
    (kk : ∀ (u : S) (t : State) (H1 : Heap) (locs1 : List Loc), t.heap = H1 → s.vm.Alike t.vm → post u → B u t → H.size ≤ H1.size → (∀ q : Nat, q < H.size → ¬ A1 q → H1[q]? = H[q]?) → va_S A0 H0 H1 locs1 → W p l e R s m args below meth c H1 locs1 (cells + mc) (slots + ms) Q (F0 m (pc + 3) ls (rest))) : W p l e R s m args below meth c H locs cells slots Q (F0 m pc ls st0) := by
  intro T hT X
  rcases hr T hT X with ⟨v, st₀, t, T', L, h0, X', hL, e1, e2, ⟨⟨u, hv, hp, hb⟩, hF⟩, st⟩ | ⟨q, st₀, t, T', L, E, ce, h0, X', hL, e1, e2, ⟨u, hp, hb, hF⟩, hce, hcv, hcl, st⟩
  · cases hv
    obtain ⟨k1, k2, k3⟩ := vx_keep h0 e1 hS hA hf hL hF
    obtain ⟨t2, a1, b1⟩ := kk u t T'.heap (locs ++ L) e1.symm (by rw [← e2]; exact X'.warmed.alike) hp hb k1 k2 k3 T' rfl X'
    exact ⟨t2, st t2 a1, b1⟩
  · obtain ⟨k1, k2, k3⟩ := vx_keep h0 e1 hS hAX hf hL hF
    obtain ⟨t2, a1, b1⟩ := kx E ce q u t T'.heap (locs ++ L) e1.symm (by rw [← e2]; exact X'.warmed.alike) hp hb k1 k2 k3 (by rw [e1]; exact hce) hcv hcl T' rfl X'
    exact ⟨t2, st.trans a1, b1⟩
/-- caught by the row x of this method's table; the rows ahead don't take it -/
theorem vx_catch {own name : String} {E : String} {ce : Cell} {q : Addr} (hown : s.vm.findClass own = some m.cls) (pre : List ExceptionTableEntry) (x : ExceptionTableEntry) (suf : List ExceptionTableEntry) (hsplit : c.exceptionTable.toList = pre ++ x :: suf)
    (hpass : ∀ z ∈ pre, covers z pc = false ∨ (z.catchType ≠ 0 ∧ ∃ nm : String, (Cond.classLink own z.catchType nm).before args s = true ∧ va_Nc E nm s)) (hx : covers x pc = true) (h0 : x.catchType ≠ 0)
    (hlink : (Cond.classLink own x.catchType name).before args s = true) (hcast : (Cond.castable E name).before args s = true) (hcell : H[q]? = some ce) (hv : ce.vm = .none) (hcl : s.vm.findClass E = some ce.cls)
    (kk : W p l e R s m args below meth c H locs cells slots Q (F0 m x.handlerPc ls [.ref q])) : vx_W p l e R s m args below meth c H locs cells slots Q (F0 m pc ls rest) q := by
  intro T hT X
  have hpl : e.platform.magicAccessors = ({} : Platform).magicAccessors := by rw [X.admits.platform]
  obtain ⟨c3, c4, hc3, hc4, hasg⟩ := Cond.castable_spec hcast
  cases Option.some.inj (hc3.symm.trans hcl)
  obtain ⟨c5, hc5, hcl5⟩ := Cond.classLink_spec hown hlink e.platform hpl
  cases Option.some.inj (hc4.symm.trans hc5)
  obtain ⟨vm', X', st⟩ := X.thenCaughtThrough q (g := F0 m pc ls rest) rfl (Steps.refl _) (by rw [hT]; exact hcell) (by rw [hv]; rfl) (by obtain ⟨k9, h9, -⟩ := Vm.findClass_spec hcl; exact ⟨k9, h9⟩) pre x suf hsplit
    (fun z hz => by
      rcases hpass z hz with h | ⟨hz0, nm, hl1, hn1⟩
      · exact Or.inl h
      · obtain ⟨c6, hc6, hcl6⟩ := Cond.classLink_spec hown hl1 e.platform hpl
        obtain ⟨a8, b8, h1, h2, h3⟩ := hn1
        cases Option.some.inj (h1.symm.trans hcl)
        cases Option.some.inj (h2.symm.trans hc6)
        exact Or.inr ⟨hz0, _, hcl6, h3⟩) hx (Or.inr ⟨h0, c4, hcl5, hasg⟩)
  obtain ⟨t, a1, b1⟩ := kk (T.setVm vm') hT X'
  exact ⟨t, st.trans a1, b1⟩
end Rows
section Ends
variable {p : Program} {l : Launch} {e : Env} {R : Room} {s : State} {m : MethodId} {args : Array Value} {below : List Frame} {meth : Method} {c : Code} {H : Heap} {locs : List Loc} {cells slots : Nat} {Q : State → Prop}
variable {mc ms : Nat} {free : Addr → Prop} {A0 A1 : Nat → Prop} {H0 : Heap} {a : Array Value} {ls : Array Slot} {st0 rest : List Value}
variable {Qc : Array Value → State → Outcome → State → Prop} {XC : String → State → State → Prop}
/-- what a body that may throw owes at its end -/
def vx_MQ (below : List Frame) (Qc : Array Value → State → Outcome → State → Prop) (XC : String → State → State → Prop) (a : Array Value) (s : State) (mc ms : Nat) (free : Addr → Prop) : State → Prop := fun t =>
  ∃ o, t.status = .running ∧ Ended t below o ∧ vx_Q Qc XC mc ms free a s o t
theorem vx_ret {g : JFrame} {mc ms : Nat} (k : W p l e R s m args below meth c H locs cells slots (MQ below Qc args s mc ms free) g) : W p l e R s m args below meth c H locs cells slots (vx_MQ below Qc XC args s mc ms free) g := by
  intro T hT X
  obtain ⟨t, a1, o, b1, b2, b3, b4⟩ := k T hT X
  exact ⟨t, a1, o, b1, b2, Or.inl ⟨b3, b4⟩⟩
/-- not caught here: it goes on to the caller -/
theorem vx_widen {g : JFrame} {q : Addr} {k n : Nat} (h1 : cells ≤ k) (h2 : slots ≤ n) (kk : vx_W p l e R s m args below meth c H locs k n Q g q) : vx_W p l e R s m args below meth c H locs cells slots Q g q := fun T hT X => kk T hT (stand_widen X h1 h2)
theorem vx_out {pc : Nat} {E : String} {ce : Cell} {q : Addr} {mc ms : Nat} (hout : ∀ x ∈ c.exceptionTable.toList, covers x pc = false) (hlocks : meth.locks = false) (hcell : H[q]? = some ce) (hv : ce.vm = .none) (hcl : s.vm.findClass E = some ce.cls)
    (hx : ∀ t : State, t.heap = H → s.vm.Alike t.vm → XC E s t) (hf : ∀ z ∈ locs, free z.base) (hc : cells ≤ mc) (hs : slots ≤ ms) :
    vx_W p l e R s m args below meth c H locs cells slots (vx_MQ below Qc XC args s mc ms free) (F0 m pc ls rest) q := by
  intro T hT X
  obtain ⟨st1, hrun, hend, hW, hsm⟩ := X.leaveThrown q (g := F0 m pc ls rest) rfl rfl rfl hout hlocks
  have hcell9 : (T.setFrames (.throwing q :: below)).heap[q]? = some ce := by
    show T.heap[q]? = some ce
    rw [hT]; exact hcell
  exact ⟨_, st1, .threw q, hrun, hend, Or.inr ⟨q, rfl, E, ce, locs, hx _ hT hW.alike, hcell9, hv, hcl, hW, hsm.mono hc hs, hf⟩⟩
theorem vx_frame {U : State} {k n : Nat} (h : s.sameButNew ({ U with vm := s.vm } : State) locs k n) : s.heap.size ≤ U.heap.size ∧ ∀ q : Nat, q < s.heap.size → (∀ z ∈ locs, z.base ≠ q) → U.heap[q]? = s.heap[q]? := by
  obtain ⟨-, h2, -, -, -, h6⟩ := h
  refine ⟨h2, fun q hq hz => ?_⟩
  obtain ⟨c9, e1, e2, e3, e4⟩ := h6 q _ (Array.getElem?_eq_getElem hq)
  have hs : c9.slots = (s.heap[q]).slots := Array.ext_getElem? fun i => e4 i fun hm => hz _ hm rfl
  have h9 : c9 = s.heap[q] := by
    rw [hs] at e2
    exact e2
  have e5 : U.heap[q]? = some c9 := e1
  rw [e5, h9, Array.getElem?_eq_getElem hq]
/-- the words of a throw but the four that speak of the heap -/
def vx_no (w : Cond) : Bool := decide (w ≠ .isRef (.static Bundle.tN "UNASSIGNED_STACK" Bundle.steD)) && decide (w ≠ .isRef (.static Bundle.tN "SUPPRESSED_SENTINEL" Bundle.listD)) && decide (w ≠ .laysStatic Bundle.tN "UNASSIGNED_STACK" Bundle.steD) && decide (w ≠ .laysStatic Bundle.tN "SUPPRESSED_SENTINEL" Bundle.listD)
def vx_at0 (own : String) (ic : Nat) (X : String) (names : List String) : List Cond := (Bundle.ownAtoms0 own ic X names).filter vx_no
def vx_atS (own : String) (ic : Nat) (X : String) (names : List String) : List Cond := (Bundle.ownAtoms own ic X names).filter vx_no
/-- a word that the tables alone decide, or a good one -/
def vx_ot (w : Cond) : Bool := w.onTables || goodWord w
theorem vx_ot_at {args a' : Array Value} {s U : State} {w : Cond} (hW : s.WarmedH U.vm) (hvm : s.vm = U.vm) (hg : vx_ot w = true) (h : w.before args s = true) : w.before a' U = true := by
  simp only [vx_ot, Bool.or_eq_true] at hg
  rcases hg with hg | hg
  · exact va_tabs hg hvm h
  · exact word_at hW (good_of_word hg) h
/-- a list's words: the good ones out of the method's own list, the others by premises of their own -/
theorem vx_hat {args : Array Value} {s : State} {L B : List Cond} (h1 : ∀ w ∈ L.filter goodWord, w.before args s = true) (h2 : ∀ w ∈ L.filter (fun w => !goodWord w), w ∈ B) (h3 : ∀ w ∈ B, w.before args s = true) : ∀ w ∈ L, w.before args s = true := by
  intro w hw
  by_cases g : goodWord w = true
  · exact h1 w (List.mem_filter.mpr ⟨hw, g⟩)
  · refine h3 w (h2 w (List.mem_filter.mpr ⟨hw, ?_⟩))
    show (!goodWord w) = true
    cases hgw : goodWord w
    · rfl
    · exact absurd hgw g
theorem vx_c {args : Array Value} {s : State} {w : Cond} {B : List Cond} (h : w.before args s = true) (t : ∀ w ∈ B, w.before args s = true) : ∀ w' ∈ w :: B, w'.before args s = true := fun w' h' => (List.mem_cons.mp h').elim (fun e => by rw [e]; exact h) (t w')
theorem vx_n {args : Array Value} {s : State} : ∀ w ∈ ([] : List Cond), w.before args s = true := fun _ h => nomatch h
theorem vx_own {args : Array Value} {s : State} {L : List Cond} (h1 : ∀ w ∈ L.filter vx_no, w.before args s = true)
    (hU : (Cond.isRef (.static Bundle.tN "UNASSIGNED_STACK" Bundle.steD)).before args s = true) (hN : (Cond.isRef (.static Bundle.tN "SUPPRESSED_SENTINEL" Bundle.listD)).before args s = true)
    (lU : (Cond.laysStatic Bundle.tN "UNASSIGNED_STACK" Bundle.steD).before args s = true) (lN : (Cond.laysStatic Bundle.tN "SUPPRESSED_SENTINEL" Bundle.listD).before args s = true) : ∀ w ∈ L, w.before args s = true := by
  intro w hw
  by_cases e1 : w = .isRef (.static Bundle.tN "UNASSIGNED_STACK" Bundle.steD)
  · rw [e1]; exact hU
  · by_cases e2 : w = .isRef (.static Bundle.tN "SUPPRESSED_SENTINEL" Bundle.listD)
    · rw [e2]; exact hN
    · by_cases e3 : w = .laysStatic Bundle.tN "UNASSIGNED_STACK" Bundle.steD
      · rw [e3]; exact lU
      · by_cases e4 : w = .laysStatic Bundle.tN "SUPPRESSED_SENTINEL" Bundle.listD
        · rw [e4]; exact lN
        · exact h1 w (List.mem_filter.mpr ⟨hw, by unfold vx_no; rw [decide_eq_true e1, decide_eq_true e2, decide_eq_true e3, decide_eq_true e4]; rfl⟩)
/-- where a static field lies, its class's statics cell in H -/
def vx_L (C n d : String) (A : Nat → Prop) (U : State) (H : Heap) : Prop := ∃ (c : ClassId) (k : Class) (i : Nat) (f : Field) (a : Nat) (cell : Cell), U.vm.findClass C = some c ∧ U.fieldFound? C n d = some (c, k, i, f) ∧ f.isStatic = true ∧ k.statics = some a ∧ H[a]? = some cell ∧ cell.vm.isStatics = true ∧ cell.cls = c ∧ f.slot < cell.slots.size ∧ k.staticTypes[f.slot]? = some f.type ∧ ¬ A a
theorem vx_L.moved {C n d : String} {A : Nat → Prop} {u U : State} {H : Heap} (hvm : u.vm.Alike U.vm) (h : vx_L C n d A u H) : vx_L C n d A U H := by
  obtain ⟨c, k, i, f, a, cell, h1, h2, h3, h4, h5, h6, h7, h8, h9, h10⟩ := h
  obtain ⟨k', hi', he⟩ := State.fieldFound?_setVm hvm h2
  exact ⟨c, k', i, f, a, cell, by rw [hvm.findClass]; exact h1, hi', h3, by rw [he]; exact h4, h5, h6, h7, h8, by rw [he]; exact h9, h10⟩
theorem vx_L.kept {C n d : String} {A : Nat → Prop} {U : State} {H H1 : Heap} (h : vx_L C n d A U H) (hq : ∀ a : Nat, a < H.size → ¬ A a → H1[a]? = H[a]?) : vx_L C n d A U H1 := by
  obtain ⟨c, k, i, f, a, cell, h1, h2, h3, h4, h5, h6, h7, h8, h9, h10⟩ := h
  exact ⟨c, k, i, f, a, cell, h1, h2, h3, h4, by rw [hq a (Array.getElem?_eq_some_iff.mp h5).1 h10]; exact h5, h6, h7, h8, h9, h10⟩
theorem vx_L.narrow {C n d : String} {A B : Nat → Prop} {U : State} {H : Heap} (h : vx_L C n d A U H) (hAB : ∀ q, B q → A q) : vx_L C n d B U H := by
  obtain ⟨c, k, i, f, a, cell, h1, h2, h3, h4, h5, h6, h7, h8, h9, h10⟩ := h
  exact ⟨c, k, i, f, a, cell, h1, h2, h3, h4, h5, h6, h7, h8, h9, fun z => h10 (hAB _ z)⟩
theorem vx_L.word {C n d : String} {A : Nat → Prop} {s : State} {args : Array Value} (h : vx_L C n d A s s.heap) : (Cond.laysStatic C n d).before args s = true := by
  obtain ⟨c, k, i, f, a, cell, h1, h2, h3, h4, h5, h6, h7, h8, h9, -⟩ := h
  show (Cond.laysStatic C n d).holds args s none s [] = true
  exact Cond.laysStatic_of h1 h2 h3 h4 h5 h6 h7 h8 h9
/-- .. and what it holds: null or some reference -/
def vx_Zq (C n d : String) (A : Nat → Prop) (U : State) (H : Heap) : Prop := va_Zq C n d A U H ∧ vx_L C n d A U H
theorem vx_Zq.moved {C n d : String} {A : Nat → Prop} {u U : State} {H : Heap} (hvm : u.vm.Alike U.vm) (h : vx_Zq C n d A u H) : vx_Zq C n d A U H := ⟨va_Zq.moved hvm h.1, vx_L.moved hvm h.2⟩
theorem vx_Zq.kept {C n d : String} {A : Nat → Prop} {U : State} {H H1 : Heap} (h : vx_Zq C n d A U H) (hq : ∀ a : Nat, a < H.size → ¬ A a → H1[a]? = H[a]?) : vx_Zq C n d A U H1 := ⟨va_Zq.kept h.1 hq, vx_L.kept h.2 hq⟩
theorem vx_Zq.narrow {C n d : String} {A B : Nat → Prop} {U : State} {H : Heap} (h : vx_Zq C n d A U H) (hAB : ∀ q, B q → A q) : vx_Zq C n d B U H := ⟨va_Zq.narrow h.1 hAB, vx_L.narrow h.2 hAB⟩
theorem vx_Zqof {args : Array Value} {s : State} {C n d : String} {A : Nat → Prop} (hl : (Cond.laysStatic C n d).before args s = true) (hini : (Cond.initialized C).before args s = true) (h : (Cond.isRef (.static C n d)).before args s = true) (hA : ∀ a : Nat, a < s.heap.size → ¬ A a) : vx_Zq C n d A s s.heap := by
  refine ⟨va_Zqof hl hini h hA, ?_⟩
  obtain ⟨c, k, i, f, a, cell, h1, h2, h3, h4, h5, h6, h7, h8, h9⟩ := Cond.laysStatic_spec hl
  exact ⟨c, k, i, f, a, cell, h1, h2, h3, h4, h5, h6, h7, h8, h9, hA a (Array.getElem?_eq_some_iff.mp h5).1⟩
theorem vx_isRef {C n d : String} {v : Value} {A : Nat → Prop} {s : State} {args : Array Value} (h : va_Z C n d v A s s.heap) (hv : v.isRef = true) : (Cond.isRef (.static C n d)).before args s = true := by
  obtain ⟨cf, kf, fi, f, a, cell, h1, h2, h3, h4, h5, h6, h7, -⟩ := h
  have he : (Term.static C n d).eval args s none [] s = some v := by
    simp [Term.eval, State.fieldNamed?, h1, h2, h4, h5, h6, h7]
  simp only [Cond.before, Cond.holds, Cond.value, he]
  cases v <;> simp_all [Value.isRef]
theorem vx_isRefq {C n d : String} {A : Nat → Prop} {s : State} {args : Array Value} (h : va_Zq C n d A s s.heap) : (Cond.isRef (.static C n d)).before args s = true := by
  rcases h with h | ⟨t, h⟩
  · exact vx_isRef h rfl
  · exact vx_isRef h rfl
/-- the same frame, seen from here: as if the method were called anew in this heap -/
theorem vx_rebase {T : State} (X : Stand p l e R s m args below meth c T locs cells slots) {R' : Room} (hf : R'.frames ≤ R.frames) (hl : R'.locals ≤ R.locals) (hc : cells + R'.cells ≤ R.cells) (hs : slots + R'.slots ≤ R.slots) :
    Stand p l e R' ((T.setVm s.vm).setFrames (.invoking m args :: below)) m args below meth c T [] 0 0 := by
  have htop : (T.setVm s.vm).topJava?.isSome := X.here.top
  have hF : ((T.setVm s.vm).setFrames (.invoking m args :: below)).frames = .invoking m args :: below := State.frames_setFrames _ (State.cur_lt_of_top htop)
  obtain ⟨g₀, hg0⟩ := Option.isSome_iff_exists.mp htop
  obtain ⟨r, hr⟩ := State.topJava?_eq_some.mp hg0
  have hl9 : e.platform.stackLimits (T.setVm s.vm).me = e.platform.stackLimits s.me := X.limits
  have hb9 : (T.setVm s.vm).me.stackBytes = s.me.stackBytes := X.bytes
  refine ⟨X.admits, X.cas, X.clock, hF, ?_, X.hears, X.method, X.code, X.here, X.tail, X.warmed, ?_, ?_, ?_⟩
  · have h := X.room
    have hU : ((T.setVm s.vm).setFrames (.invoking m args :: below)).localsInUse = s.localsInUse := by
      rw [State.localsInUse_invoking hF (meth := meth) (c := c) X.method X.code, State.localsInUse_invoking X.frames X.method X.code]
    simp only [State.hasRoom, Bool.and_eq_true, decide_eq_true_eq] at h ⊢
    obtain ⟨⟨⟨⟨h1, h2, h3, h4, h5, h6⟩, h7⟩, h8⟩, h9⟩ := h
    rw [X.frames, List.length_cons] at h2 h3
    have q1 := X.heapSize
    have q2 := X.used
    simp only [hF, hU, List.length_cons, State.stackLimits_setFrames, State.stackBytes_setFrames, hl9, hb9]
    refine ⟨⟨⟨⟨by omega, by omega, by omega, by omega, by omega, h6⟩, ?_⟩, ?_⟩, X.book⟩
    · show T.heap.size + R'.cells ≤ e.platform.maxCells
      omega
    · show T.slotsUsed + R'.slots ≤ e.platform.maxSlots
      omega
  · rw [State.stackLimits_setFrames]; rfl
  · rw [State.stackBytes_setFrames]; rfl
  · refine ⟨?_, Nat.le_refl _, Nat.le_refl _, ?_, ?_, fun a c9 h9 => ⟨c9, h9, rfl, rfl, fun _ _ => rfl⟩⟩
    · obtain ⟨t, ht, -⟩ := State.frames_cons hr
      show T.setVm s.vm = { ((T.setVm s.vm).setFrames (.invoking m args :: below)).setFrames (T.setVm s.vm).frames with heap := T.heap, slotsUsed := T.slotsUsed }
      rw [State.setFrames_setFrames, State.setFrames_self ht]
      rfl
    · show T.slotsUsed = T.slotsUsed + ((T.heap.toList.drop T.heap.size).map (·.slots.size)).sum
      rw [List.drop_eq_nil_of_le (Nat.le_of_eq Array.length_toList)]
      rfl
    · show ((T.heap.toList.drop T.heap.size).map (·.slots.size)).sum ≤ 0
      rw [List.drop_eq_nil_of_le (Nat.le_of_eq Array.length_toList)]
      exact Nat.le_refl _
/-- 'throw new E()': new; dup; invokespecial; athrow -/
theorem vx_throw0 {cc : ByteArray} {pc : Nat} (hexec : p.tables.exec = Jvm.exec) (hb : c.code = cc) (hl : l.stackTraces = false) {own cls : String} {names : List String} {ik ic mc ms : Nat} {A : Nat → Prop}
    (hown : s.vm.findClass own = some m.cls) (hcls : Bundle.fit cls = true) (hnames : ∀ n ∈ names, Bundle.fit n = true)
    (hk : (Cond.classLink own ik cls).before args s = true) (hini : (Cond.initialized cls).before args s = true) (hat : ∀ w ∈ vx_at0 own ic cls names, w.before args s = true)
    (hgood : ∀ w ∈ Cond.classLink own ik cls :: Cond.initialized cls :: vx_at0 own ic cls names, vx_ot w = true)
    (hU : vx_Zq Bundle.tN "UNASSIGNED_STACK" Bundle.steD A s s.heap) (hN : vx_Zq Bundle.tN "SUPPRESSED_SENTINEL" Bundle.listD A s s.heap) (hS : va_S A s.heap H locs) (hsize : ls.size = c.maxLocals)
    (d0 : decode cc pc = .ok (.new ik, 3)) (d3 : decode cc (pc + 3) = .ok (.dup, 1)) (d4 : decode cc (pc + 4) = .ok (.invokespecial ic, 3)) (d7 : decode cc (pc + 7) = .ok (.athrow, 1))
    (hout : ∀ x ∈ c.exceptionTable.toList, covers x (pc + 7) = false)
    (hRframes : names.length + 3 < R.frames) (hRlocals : (rest.map fun v => v.category).sum + (13 * (names.length + 1) + 42) ≤ R.locals) (hRcells : cells + 1 ≤ R.cells) (hRslots : slots + 6 ≤ R.slots) (hlocks : meth.locks = false)
    (hx : ∀ t : State, s.vm.Alike t.vm → H.size ≤ t.heap.size → (∀ q : Nat, q < H.size → t.heap[q]? = H[q]?) → XC cls s t)
    (hf : ∀ z ∈ locs, free z.base) (hc : cells + 1 ≤ mc) (hs : slots + 6 ≤ ms) :
    W p l e R s m args below meth c H locs cells slots (vx_MQ below Qc XC args s mc ms free) (F0 m pc ls rest) := by
  intro T hT X
  have htr : e.platform.stackTraces = false := (show e.platform.stackTraces = l.stackTraces by rw [X.admits.platform]).trans hl
  have Y := vx_rebase X (R' := { frames := R.frames, locals := R.locals, cells := 1, slots := 6 }) (Nat.le_refl _) (Nat.le_refl _) hRcells hRslots
  obtain ⟨s', hA⟩ : ∃ z, z = (T.setVm s.vm).setFrames (.invoking m args :: below) := ⟨_, rfl⟩
  rw [← hA] at Y
  have hvm : s'.vm = s.vm := by rw [hA]; rfl
  have hhp : s'.heap = H := by rw [hA]; exact hT
  have hW0 : s.WarmedH s'.vm := by rw [hvm]; exact State.WarmedH.refl s
  have hat' : ∀ w ∈ vx_at0 own ic cls names, w.before args s' = true := fun w hw => vx_ot_at hW0 hvm.symm (hgood w (List.mem_cons_of_mem _ (List.mem_cons_of_mem _ hw))) (hat w hw)
  have hk' : (Cond.classLink own ik cls).before args s' = true := vx_ot_at hW0 hvm.symm (hgood _ List.mem_cons_self) hk
  have hini' : (Cond.initialized cls).before args s' = true := vx_ot_at hW0 hvm.symm (hgood _ (List.mem_cons_of_mem _ List.mem_cons_self)) hini
  have hU' : vx_Zq Bundle.tN "UNASSIGNED_STACK" Bundle.steD A s' s'.heap := by rw [hhp]; exact vx_Zq.moved hW0.alike (hU.kept hS.2.1)
  have hN' : vx_Zq Bundle.tN "SUPPRESSED_SENTINEL" Bundle.listD A s' s'.heap := by rw [hhp]; exact vx_Zq.moved hW0.alike (hN.kept hS.2.1)
  have h : ∀ w ∈ Bundle.ownAtoms0 own ic cls names, w.before args s' = true := vx_own hat' (vx_isRefq hU'.1) (vx_isRefq hN'.1) hU'.2.word hN'.2.word
  have hown' : s'.vm.findClass own = some m.cls := by rw [hvm]; exact hown
  have hins : (Cond.instantiable cls 6).before args s' = true := h _ (by simp [Bundle.ownAtoms0])
  obtain ⟨vm₁, cX, kX, hfX, hkX, -, -, X₁, st1⟩ := Y.newCold hexec (own := own) (C := cls) (index := ik) (n := 6) hown' hk' hins hini'
    (g := F0 m pc ls rest) rfl (by rw [hb]; exact d0) (Nat.le_refl _) (Nat.le_refl _)
  generalize hT1 : (T.setVm vm₁).pushCell { cls := cX, slots := kX.instanceTypes.map defaultValue, vm := .none } = T1 at X₁ st1
  have hcat : (Value.ref T.heap.size).category = 1 := rfl
  have hcellA : T1.heap[T.heap.size]? = some (freshCell cX kX) := by rw [← hT1]; exact State.heap_pushCell_size _ _
  have d3' : decode c.code (pc + 3) = .ok (.dup, 1) := by rw [hb]; exact d3
  obtain ⟨U, hsteps, hrun, hend, hW, hsame, ce, hce, hO⟩ := X₁.ctorThrow0 hexec htr (own := own) (cls := cls) (names := names) (ic := ic) hown' hcls hnames h (fun x hx => nomatch hx) hfX hkX hcellA (by rw [hhp, hT]; exact Nat.le_refl _)
    (g := { method := m, pc := pc + 4, locals := ls, stack := .ref T.heap.size :: .ref T.heap.size :: rest, locked := none }) rfl hsize rfl rfl (rest := rest) rfl
    (by rw [hb]; exact d4) (by rw [hb]; exact d7) hout hRframes (by simp only [List.map_cons, List.sum_cons, hcat]; omega) hlocks
  obtain ⟨f1, f2⟩ := vx_frame hsame
  rw [hhp] at f1 f2
  have hWs : s.WarmedH U.vm := State.WarmedH.trans hW0 hW
  have hcl : s.vm.findClass cls = some ce.cls := by
    have h9 := hO.cls
    rw [hvm] at h9
    exact h9
  have hall : s.sameButNew ({ U with vm := s.vm } : State) locs mc ms := by
    subst hA
    obtain ⟨e1, e2⟩ := hsame
    rw [State.setFrames_setFrames] at e1
    have h2 : (T.setVm s.vm).sameButNew ({ U with vm := s.vm } : State) [] (0 + 1) (0 + 6) := ⟨e1, e2⟩
    have h3 := X.same.trans h2
    rw [List.append_nil] at h3
    exact h3.mono hc hs
  refine ⟨U, ?_, .threw T.heap.size, hrun, hend, Or.inr ⟨T.heap.size, rfl, cls, ce, locs, hx U hWs.alike f1 (fun q hq => f2 q hq (fun z hz => nomatch hz)), hce, hO.vm, hcl, hWs, hall, hf⟩⟩
  refine st1 _ ?_
  show Steps p.tables e below (T1.setTop { method := m, pc := pc + 3, locals := ls, stack := .ref T.heap.size :: rest, locked := none }) _
  jvm_step X₁.here [X₁.here.top, hexec, d3', Value.category]
  exact hsteps
/-- 'throw new E("text")': new; dup; ldc; invokespecial; athrow -/
theorem vx_throwS {cc : ByteArray} {pc : Nat} (hexec : p.tables.exec = Jvm.exec) (hb : c.code = cc) (hl : l.stackTraces = false) {own cls text : String} {names : List String} {ik is ic mc ms sa : Nat} {A : Nat → Prop}
    (hown : s.vm.findClass own = some m.cls) (hcls : Bundle.fit cls = true) (hnames : ∀ n ∈ names, Bundle.fit n = true)
    (hk : (Cond.classLink own ik cls).before args s = true) (hini : (Cond.initialized cls).before args s = true) (hstr : vk_R own is text sa s) (hat : ∀ w ∈ vx_atS own ic cls names, w.before args s = true)
    (hgood : ∀ w ∈ Cond.classLink own ik cls :: Cond.initialized cls :: vx_atS own ic cls names, vx_ot w = true)
    (hU : vx_Zq Bundle.tN "UNASSIGNED_STACK" Bundle.steD A s s.heap) (hN : vx_Zq Bundle.tN "SUPPRESSED_SENTINEL" Bundle.listD A s s.heap) (hS : va_S A s.heap H locs) (hsize : ls.size = c.maxLocals)
    (d0 : decode cc pc = .ok (.new ik, 3)) (d3 : decode cc (pc + 3) = .ok (.dup, 1)) (d4 : decode cc (pc + 4) = .ok (.ldc is, 2)) (d6 : decode cc (pc + 6) = .ok (.invokespecial ic, 3)) (d9 : decode cc (pc + 9) = .ok (.athrow, 1))
    (hout : ∀ x ∈ c.exceptionTable.toList, covers x (pc + 9) = false)
    (hRframes : names.length + 3 < R.frames) (hRlocals : (rest.map fun v => v.category).sum + (13 * (names.length + 1) + 43) ≤ R.locals) (hRcells : cells + 1 ≤ R.cells) (hRslots : slots + 6 ≤ R.slots) (hlocks : meth.locks = false)
    (hx : ∀ t : State, s.vm.Alike t.vm → H.size ≤ t.heap.size → (∀ q : Nat, q < H.size → t.heap[q]? = H[q]?) → XC cls s t)
    (hf : ∀ z ∈ locs, free z.base) (hc : cells + 1 ≤ mc) (hs : slots + 6 ≤ ms) :
    W p l e R s m args below meth c H locs cells slots (vx_MQ below Qc XC args s mc ms free) (F0 m pc ls rest) := by
  intro T hT X
  have htr : e.platform.stackTraces = false := (show e.platform.stackTraces = l.stackTraces by rw [X.admits.platform]).trans hl
  have Y := vx_rebase X (R' := { frames := R.frames, locals := R.locals, cells := 1, slots := 6 }) (Nat.le_refl _) (Nat.le_refl _) hRcells hRslots
  obtain ⟨s', hA⟩ : ∃ z, z = (T.setVm s.vm).setFrames (.invoking m args :: below) := ⟨_, rfl⟩
  rw [← hA] at Y
  have hvm : s'.vm = s.vm := by rw [hA]; rfl
  have hhp : s'.heap = H := by rw [hA]; exact hT
  have hW0 : s.WarmedH s'.vm := by rw [hvm]; exact State.WarmedH.refl s
  have hat' : ∀ w ∈ vx_atS own ic cls names, w.before args s' = true := fun w hw => vx_ot_at hW0 hvm.symm (hgood w (List.mem_cons_of_mem _ (List.mem_cons_of_mem _ hw))) (hat w hw)
  have hk' : (Cond.classLink own ik cls).before args s' = true := vx_ot_at hW0 hvm.symm (hgood _ List.mem_cons_self) hk
  have hini' : (Cond.initialized cls).before args s' = true := vx_ot_at hW0 hvm.symm (hgood _ (List.mem_cons_of_mem _ List.mem_cons_self)) hini
  have hU' : vx_Zq Bundle.tN "UNASSIGNED_STACK" Bundle.steD A s' s'.heap := by rw [hhp]; exact vx_Zq.moved hW0.alike (hU.kept hS.2.1)
  have hN' : vx_Zq Bundle.tN "SUPPRESSED_SENTINEL" Bundle.listD A s' s'.heap := by rw [hhp]; exact vx_Zq.moved hW0.alike (hN.kept hS.2.1)
  have h : ∀ w ∈ Bundle.ownAtoms own ic cls names, w.before args s' = true := vx_own hat' (vx_isRefq hU'.1) (vx_isRefq hN'.1) hU'.2.word hN'.2.word
  have hown' : s'.vm.findClass own = some m.cls := by rw [hvm]; exact hown
  have hins : (Cond.instantiable cls 6).before args s' = true := h _ (by simp [Bundle.ownAtoms])
  obtain ⟨vm₁, cX, kX, hfX, hkX, -, -, X₁, st1⟩ := Y.newCold hexec (own := own) (C := cls) (index := ik) (n := 6) hown' hk' hins hini'
    (g := F0 m pc ls rest) rfl (by rw [hb]; exact d0) (Nat.le_refl _) (Nat.le_refl _)
  generalize hT1 : (T.setVm vm₁).pushCell { cls := cX, slots := kX.instanceTypes.map defaultValue, vm := .none } = T1 at X₁ st1
  have hcat : (Value.ref T.heap.size).category = 1 := rfl
  have hcellA : T1.heap[T.heap.size]? = some (freshCell cX kX) := by rw [← hT1]; exact State.heap_pushCell_size _ _
  have d3' : decode c.code (pc + 3) = .ok (.dup, 1) := by rw [hb]; exact d3
  have d4' : decode c.code (pc + 4) = .ok (.ldc is, 2) := by rw [hb]; exact d4
  have hstr' : vk_R own is text sa s' := vk_R.warm hW0 hstr
  obtain ⟨U, hsteps, hrun, hend, hW, hsame, ce, hce, hO⟩ := X₁.ctorThrowS hexec htr (own := own) (cls := cls) (names := names) (ic := ic) hown' hcls hnames h (fun x hx => nomatch hx) hfX hkX hcellA (by rw [hhp, hT]; exact Nat.le_refl _) (msg := .ref sa) rfl
    (g := { method := m, pc := pc + 6, locals := ls, stack := .ref sa :: .ref T.heap.size :: .ref T.heap.size :: rest, locked := none }) rfl hsize rfl rfl (rest := rest) rfl
    (by rw [hb]; exact d6) (by rw [hb]; exact d9) hout hRframes (by simp only [List.map_cons, List.sum_cons, hcat]; omega) hlocks
  obtain ⟨f1, f2⟩ := vx_frame hsame
  rw [hhp] at f1 f2
  have hWs : s.WarmedH U.vm := State.WarmedH.trans hW0 hW
  have hcl : s.vm.findClass cls = some ce.cls := by
    have h9 := hO.cls
    rw [hvm] at h9
    exact h9
  have hall : s.sameButNew ({ U with vm := s.vm } : State) locs mc ms := by
    subst hA
    obtain ⟨e1, e2⟩ := hsame
    rw [State.setFrames_setFrames] at e1
    have h2 : (T.setVm s.vm).sameButNew ({ U with vm := s.vm } : State) [] (0 + 1) (0 + 6) := ⟨e1, e2⟩
    have h3 := X.same.trans h2
    rw [List.append_nil] at h3
    exact h3.mono hc hs
  refine ⟨U, ?_, .threw T.heap.size, hrun, hend, Or.inr ⟨T.heap.size, rfl, cls, ce, locs, hx U hWs.alike f1 (fun q hq => f2 q hq (fun z hz => nomatch hz)), hce, hO.vm, hcl, hWs, hall, hf⟩⟩
  refine st1 _ ?_
  show Steps p.tables e below (T1.setTop { method := m, pc := pc + 3, locals := ls, stack := .ref T.heap.size :: rest, locked := none }) _
  jvm_step X₁.here [X₁.here.top, hexec, d3', Value.category]
  exact X₁.ldcString hexec (own := own) (text := text) (index := is) (a := sa) hown' hstr'.1 hstr'.2
    (g := { method := m, pc := pc + 4, locals := ls, stack := .ref T.heap.size :: .ref T.heap.size :: rest, locked := none }) rfl d4' _ hsteps
/-- 'throw new E("text")', the text by a wide index -/
theorem vx_throwSW {cc : ByteArray} {pc : Nat} (hexec : p.tables.exec = Jvm.exec) (hb : c.code = cc) (hl : l.stackTraces = false) {own cls text : String} {names : List String} {ik is ic mc ms sa : Nat} {A : Nat → Prop}
    (hown : s.vm.findClass own = some m.cls) (hcls : Bundle.fit cls = true) (hnames : ∀ n ∈ names, Bundle.fit n = true)
    (hk : (Cond.classLink own ik cls).before args s = true) (hini : (Cond.initialized cls).before args s = true) (hstr : vk_R own is text sa s) (hat : ∀ w ∈ vx_atS own ic cls names, w.before args s = true)
    (hgood : ∀ w ∈ Cond.classLink own ik cls :: Cond.initialized cls :: vx_atS own ic cls names, vx_ot w = true)
    (hU : vx_Zq Bundle.tN "UNASSIGNED_STACK" Bundle.steD A s s.heap) (hN : vx_Zq Bundle.tN "SUPPRESSED_SENTINEL" Bundle.listD A s s.heap) (hS : va_S A s.heap H locs) (hsize : ls.size = c.maxLocals)
    (d0 : decode cc pc = .ok (.new ik, 3)) (d3 : decode cc (pc + 3) = .ok (.dup, 1)) (d4 : decode cc (pc + 4) = .ok (.ldc_w is, 3)) (d7 : decode cc (pc + 7) = .ok (.invokespecial ic, 3)) (d10 : decode cc (pc + 10) = .ok (.athrow, 1))
    (hout : ∀ x ∈ c.exceptionTable.toList, covers x (pc + 10) = false)
    (hRframes : names.length + 3 < R.frames) (hRlocals : (rest.map fun v => v.category).sum + (13 * (names.length + 1) + 43) ≤ R.locals) (hRcells : cells + 1 ≤ R.cells) (hRslots : slots + 6 ≤ R.slots) (hlocks : meth.locks = false)
    (hx : ∀ t : State, s.vm.Alike t.vm → H.size ≤ t.heap.size → (∀ q : Nat, q < H.size → t.heap[q]? = H[q]?) → XC cls s t)
    (hf : ∀ z ∈ locs, free z.base) (hc : cells + 1 ≤ mc) (hs : slots + 6 ≤ ms) :
    W p l e R s m args below meth c H locs cells slots (vx_MQ below Qc XC args s mc ms free) (F0 m pc ls rest) := by
  intro T hT X
  have htr : e.platform.stackTraces = false := (show e.platform.stackTraces = l.stackTraces by rw [X.admits.platform]).trans hl
  have Y := vx_rebase X (R' := { frames := R.frames, locals := R.locals, cells := 1, slots := 6 }) (Nat.le_refl _) (Nat.le_refl _) hRcells hRslots
  obtain ⟨s', hA⟩ : ∃ z, z = (T.setVm s.vm).setFrames (.invoking m args :: below) := ⟨_, rfl⟩
  rw [← hA] at Y
  have hvm : s'.vm = s.vm := by rw [hA]; rfl
  have hhp : s'.heap = H := by rw [hA]; exact hT
  have hW0 : s.WarmedH s'.vm := by rw [hvm]; exact State.WarmedH.refl s
  have hat' : ∀ w ∈ vx_atS own ic cls names, w.before args s' = true := fun w hw => vx_ot_at hW0 hvm.symm (hgood w (List.mem_cons_of_mem _ (List.mem_cons_of_mem _ hw))) (hat w hw)
  have hk' : (Cond.classLink own ik cls).before args s' = true := vx_ot_at hW0 hvm.symm (hgood _ List.mem_cons_self) hk
  have hini' : (Cond.initialized cls).before args s' = true := vx_ot_at hW0 hvm.symm (hgood _ (List.mem_cons_of_mem _ List.mem_cons_self)) hini
  have hU' : vx_Zq Bundle.tN "UNASSIGNED_STACK" Bundle.steD A s' s'.heap := by rw [hhp]; exact vx_Zq.moved hW0.alike (hU.kept hS.2.1)
  have hN' : vx_Zq Bundle.tN "SUPPRESSED_SENTINEL" Bundle.listD A s' s'.heap := by rw [hhp]; exact vx_Zq.moved hW0.alike (hN.kept hS.2.1)
  have h : ∀ w ∈ Bundle.ownAtoms own ic cls names, w.before args s' = true := vx_own hat' (vx_isRefq hU'.1) (vx_isRefq hN'.1) hU'.2.word hN'.2.word
  have hown' : s'.vm.findClass own = some m.cls := by rw [hvm]; exact hown
  have hins : (Cond.instantiable cls 6).before args s' = true := h _ (by simp [Bundle.ownAtoms])
  obtain ⟨vm₁, cX, kX, hfX, hkX, -, -, X₁, st1⟩ := Y.newCold hexec (own := own) (C := cls) (index := ik) (n := 6) hown' hk' hins hini'
    (g := F0 m pc ls rest) rfl (by rw [hb]; exact d0) (Nat.le_refl _) (Nat.le_refl _)
  generalize hT1 : (T.setVm vm₁).pushCell { cls := cX, slots := kX.instanceTypes.map defaultValue, vm := .none } = T1 at X₁ st1
  have hcat : (Value.ref T.heap.size).category = 1 := rfl
  have hcellA : T1.heap[T.heap.size]? = some (freshCell cX kX) := by rw [← hT1]; exact State.heap_pushCell_size _ _
  have d3' : decode c.code (pc + 3) = .ok (.dup, 1) := by rw [hb]; exact d3
  have d4' : decode c.code (pc + 4) = .ok (.ldc_w is, 3) := by rw [hb]; exact d4
  have hstr' : vk_R own is text sa s' := vk_R.warm hW0 hstr
  obtain ⟨U, hsteps, hrun, hend, hW, hsame, ce, hce, hO⟩ := X₁.ctorThrowS hexec htr (own := own) (cls := cls) (names := names) (ic := ic) hown' hcls hnames h (fun x hx => nomatch hx) hfX hkX hcellA (by rw [hhp, hT]; exact Nat.le_refl _) (msg := .ref sa) rfl
    (g := { method := m, pc := pc + 7, locals := ls, stack := .ref sa :: .ref T.heap.size :: .ref T.heap.size :: rest, locked := none }) rfl hsize rfl rfl (rest := rest) rfl
    (by rw [hb]; exact d7) (by rw [hb]; exact d10) hout hRframes (by simp only [List.map_cons, List.sum_cons, hcat]; omega) hlocks
  obtain ⟨f1, f2⟩ := vx_frame hsame
  rw [hhp] at f1 f2
  have hWs : s.WarmedH U.vm := State.WarmedH.trans hW0 hW
  have hcl : s.vm.findClass cls = some ce.cls := by
    have h9 := hO.cls
    rw [hvm] at h9
    exact h9
  have hall : s.sameButNew ({ U with vm := s.vm } : State) locs mc ms := by
    subst hA
    obtain ⟨e1, e2⟩ := hsame
    rw [State.setFrames_setFrames] at e1
    have h2 : (T.setVm s.vm).sameButNew ({ U with vm := s.vm } : State) [] (0 + 1) (0 + 6) := ⟨e1, e2⟩
    have h3 := X.same.trans h2
    rw [List.append_nil] at h3
    exact h3.mono hc hs
  refine ⟨U, ?_, .threw T.heap.size, hrun, hend, Or.inr ⟨T.heap.size, rfl, cls, ce, locs, hx U hWs.alike f1 (fun q hq => f2 q hq (fun z hz => nomatch hz)), hce, hO.vm, hcl, hWs, hall, hf⟩⟩
  refine st1 _ ?_
  show Steps p.tables e below (T1.setTop { method := m, pc := pc + 3, locals := ls, stack := .ref T.heap.size :: rest, locked := none }) _
  jvm_step X₁.here [X₁.here.top, hexec, d3', Value.category]
  exact X₁.ldcStringW hexec (own := own) (text := text) (index := is) (a := sa) hown' hstr'.1 hstr'.2
    (g := { method := m, pc := pc + 4, locals := ls, stack := .ref T.heap.size :: .ref T.heap.size :: rest, locked := none }) rfl d4' _ hsteps
end Ends
section Bodies
variable {l : Launch}
theorem vx_ofW {y : MethodName} {ws ws' : List Cond} {rm : Room} {Pc : Array Value → State → Prop} {Qc : Array Value → State → Outcome → State → Prop} {XC : String → State → State → Prop} {mc ms : Nat} {free : Addr → Prop} {cc : ByteArray} {maxL : Nat} {ret : Option FieldType}
    (hy : plainName y.cls = true) (hw : ws = Cond.code y cc maxL ret :: ws')
    (body : ∀ p e s m args below meth c s₁, BodyLoose p l y (headSpec ws rm) cc maxL ret e s m args below meth c s₁ → c.maxLocals = maxL → (∀ x ∈ c.exceptionTable.toList, False) → Pc args s →
      W p l e (headSpec ws rm).room s m args below meth c s.heap [] 0 0 (vx_MQ below Qc XC args s mc ms free) (entryFrame m args maxL)) : vx_Met l y ws rm Pc Qc XC mc ms free := by
  refine MetFree.of_bodyS (code := cc) (maxLocals := maxL) (ret := ret) hy ?_ ?_
  · intro args s m h hn
    obtain ⟨meth, c, h1, h2, h3, h4, h5, h6, -, -⟩ := Cond.code_spec hn (atoms_spec (ws := ws) h _ (by rw [hw]; exact List.mem_cons_self))
    exact ⟨meth, c, h1, h2, h3, h4, h5, h6⟩
  · intro p e s m args below meth c s₁ B hml hP _
    have hh0 : s₁.heap = s.heap := by rw [B.state]; rfl
    have ht : ∀ x ∈ c.exceptionTable.toList, False := by
      obtain ⟨meth9, c9, h1, h2, -, -, -, -, h7, -⟩ := Cond.code_spec B.named (atoms_spec (ws := ws) B.pre _ (by rw [hw]; exact List.mem_cons_self))
      cases Option.some.inj (h1.symm.trans B.method)
      cases Option.some.inj (h2.symm.trans (Stand.of_body B).code)
      intro x hx
      rw [Array.isEmpty_iff.mp h7] at hx
      cases hx
    obtain ⟨t, a1, o, b1, b2, b3⟩ := body p e s m args below meth c s₁ B hml ht hP s₁ hh0 (Stand.of_body B)
    exact ⟨t, o, a1, b1, b2, b3⟩
/-- the table of a body with handlers -/
theorem vx_table {p : Program} {x y : MethodName} {S : Spec} {cc bytes : ByteArray} {maxL maxL' : Nat} {ret ret' : Option FieldType} {e : Env} {s s₁ : State} {m : MethodId} {args : Array Value} {below : List Frame} {meth : Method} {c : Code} {hh : List (Nat × Nat × Nat × Nat)}
    (B : BodyLoose p l y S cc maxL ret e s m args below meth c s₁) (h : (Cond.codeWith y bytes maxL' ret' hh).before args s = true) : c.exceptionTable.toList = tableOf hh := by
  obtain ⟨m9, meth9, c9, hn9, h1, h2, -, -, h6, -⟩ := Cond.codeWith_spec h
  cases Option.some.inj (hn9.symm.trans B.named)
  cases Option.some.inj (h1.symm.trans B.method)
  cases Option.some.inj (h2.symm.trans (Stand.of_body B).code)
  rw [← h6, table_eq]
end Bodies
end VXA
/-! ===== END ===== -/
/-! ===== BEGIN a static call of a method with an exception table ===== -/
section VXS
variable {p : Program} {l : Launch} {e : Env} {R : Room} {s : State} {m : MethodId} {args : Array Value} {below : List Frame} {meth : Method} {c : Code} {T : State} {H : Heap} {locs : List Loc} {cells slots : Nat}
abbrev vx_CSW (R : Room) (s : State) (args : Array Value) (own : String) (index : Nat) (y : MethodName) (bytes : ByteArray) (maxL : Nat) (ret : Option FieldType) (hh : List (Nat × Nat × Nat × Nat)) (ws : List Cond) (rm : Room) (mc ms n : Nat) : Prop :=
  (rm.cells = mc ∧ rm.slots = ms ∧ rm.frames + 1 ≤ R.frames ∧ 8 + (maxL + 11) + rm.locals ≤ R.locals ∧ (∀ w ∈ ws, ∀ (a' : Array Value) (U : State), s.WarmedH U.vm → w.before a' U = true) ∧ Cond.codeWith y bytes maxL ret hh ∈ ws) ∧
  (Cond.codeWith y bytes maxL ret hh).before args s = true ∧ (Cond.initialized y.cls).before args s = true ∧ (y.cls ≠ "java/lang/invoke/MethodHandle" ∧ y.cls ≠ "java/lang/invoke/VarHandle") ∧
  (∀ sig, parseMethodDescriptor y.desc = some sig → n = sig.parameters.length) ∧ (Cond.methodLink own index y).before args s = true ∧ (Cond.static y).before args s = true
theorem vx_cwSW {own : String} {index maxL mc ms : Nat} {y : MethodName} {bytes : ByteArray} {ret : Option FieldType} {hh : List (Nat × Nat × Nat × Nat)} {Ts ws ws' : List Cond} {rm : Room} (n : Nat) (ht : ∀ w ∈ Ts, w.before args s = true) (hT : GoodIn Ts (va_wsS own index y ws)) (hw : ws = Cond.codeWith y bytes maxL ret hh :: ws') (hrc : rm.cells = mc) (hrs : rm.slots = ms)
    (hd : y.cls ≠ "java/lang/invoke/MethodHandle" ∧ y.cls ≠ "java/lang/invoke/VarHandle" ∧ (parseMethodDescriptor y.desc).map (fun d => d.parameters.length) = some n) (hR : rm.frames + 1 ≤ R.frames ∧ 8 + (maxL + 11) + rm.locals ≤ R.locals) :
    vx_CSW R s args own index y bytes maxL ret hh ws rm mc ms n := by
  have ok : ∀ w ∈ va_wsS own index y ws, w.before args s = true := fun w h => ht w (hT w h).1
  have hG : GoodIn Ts ws := fun w h => hT w (by unfold va_wsS; exact List.mem_append_right _ h)
  have hc : Cond.codeWith y bytes maxL ret hh ∈ ws := by rw [hw]; exact List.mem_cons_self
  refine ⟨⟨hrc, hrs, hR.1, hR.2, pay_in ht hG, hc⟩, ht _ (hG _ hc).1, ok _ (by simp [va_wsS]), ⟨hd.1, hd.2.1⟩, fun sig h => ?_, ok _ (by simp [va_wsS]), ok _ (by simp [va_wsS])⟩
  have h2 := hd.2.2
  rw [h] at h2
  exact (Option.some.inj h2).symm
theorem vx_callSW (X : Stand p l e R s m args below meth c T locs cells slots) (hexec : p.tables.exec = Jvm.exec) {own : String} {index : Nat} {y : MethodName} {bytes : ByteArray} {maxL : Nat} {ret : Option FieldType} {hh : List (Nat × Nat × Nat × Nat)}
    (hown : s.vm.findClass own = some m.cls) (hlink : (Cond.methodLink own index y).before args s = true) (hstat : (Cond.static y).before args s = true) (hinit : (Cond.initialized y.cls).before args s = true)
    (hcode : (Cond.codeWith y bytes maxL ret hh).before args s = true) (hy : y.cls ≠ "java/lang/invoke/MethodHandle" ∧ y.cls ≠ "java/lang/invoke/VarHandle")
    {W9 : Nat} {Pre : Pt → Array Value → Prop} {Post : Pt → Array Value → Option Value → Pt → Prop} (hK : Back l R p e below s args y 3 W9 Pre Post)
    {g : JFrame} (hg : g.method = m) (hsize : g.locals.size = c.maxLocals) {argsL rest : List Value} (hlen : ∀ sig, parseMethodDescriptor y.desc = some sig → argsL.length = sig.parameters.length)
    (hstack : g.stack = argsL.reverse ++ rest) (hW : 2 * g.monitorRoom + (rest.map fun v => v.category).sum ≤ W9) (hdg : decode c.code g.pc = .ok (.invokestatic index, 3))
    (hpre : ∀ vm₁, s.WarmedH vm₁ → Pre ⟨T.setVm vm₁, locs, cells, slots⟩ argsL.toArray) :
    ∃ (v : Option Value) (vm₁ : Vm) (B : Pt), s.WarmedH vm₁ ∧ Stand p l e R s m args below meth c B.U B.locs B.cells B.slots ∧ Post ⟨T.setVm vm₁, locs, cells, slots⟩ argsL.toArray v B ∧
      ∀ target, Steps p.tables e below (B.U.setTop { g with pc := g.pc + 3, stack := v.toList ++ rest }) target → Steps p.tables e below (T.setTop g) target := by
  obtain ⟨mk, methM, cM, hnamed, hmethM, -, -, -, -, -, -, hsigM⟩ := Cond.codeWith_spec hcode
  have hstatic : methM.isStatic = true := Cond.static_spec hnamed hmethM hstat
  obtain ⟨kP, hkP, -⟩ := className_of_methodNamed hnamed
  have hinitP : kP.init = .initialized := Cond.initialized_spec (findClass_of_methodNamed hnamed) hkP hinit
  obtain ⟨vm₁, X₁, hstep₁⟩ := X.invokestatic hexec hown hlink hnamed hmethM hstatic hkP hinitP hy (g := g) hg (argsL := argsL) (rest := rest) (hlen _ hsigM) hstack hdg
  obtain ⟨v, B, X', hpost, hsteps⟩ := hK m meth c ⟨T.setVm vm₁, locs, cells, slots⟩ { g with stack := rest } (.invokestatic index) mk argsL.toArray X₁ hg hsize hdg hW (X₁.named hnamed) (hpre vm₁ X₁.warmed)
  exact ⟨v, vm₁, B, X₁.warmed, X', hpost, fun target h => hstep₁ _ fun acts => by rw [doInvoke_state]; exact hsteps.trans h⟩
theorem vx_runSW {y : MethodName} {bytes cc : ByteArray} {maxL nL mc ms n index : Nat} {ret : Option FieldType} {hh : List (Nat × Nat × Nat × Nat)} {ws : List Cond} {rm : Room} {Pc : Array Value → State → Prop} {Qc : Array Value → State → Outcome → State → Prop} {free : Addr → Prop} {Ts : List Cond} {own : String} {As rest : List Value} {g : JFrame}
    (S : CallFix p m c cc nL s args Ts own) (hM : Met l y ws rm Pc Qc mc ms free) (cw : vx_CSW R s args own index y bytes maxL ret hh ws rm mc ms n) (hp : PreS s H Pc As)
    (hg : g.method = m) (hn : As.length = n) (hsize : g.locals.size = nL) (hstack : g.stack = As.reverse ++ rest) (hW : 2 * g.monitorRoom + (rest.map fun v => v.category).sum ≤ 8) (hdg : decode cc g.pc = .ok (.invokestatic index, 3)) (hf : cells + mc ≤ R.cells ∧ slots + ms ≤ R.slots) :
    va_Run p l e R s m args below meth c H locs cells slots mc ms g rest (Qc As.toArray) (free) := by
  obtain ⟨⟨hrc, hrs, hfr, hlo, hws, hcw⟩, hcode, hini, hy, hlen, hl, hstt⟩ := cw
  have hK : Back l R p e below s args y 3 8 (PreOf R mc ms Pc) (PostOf Qc mc ms free) := va_backW (hh := hh) (bytes := bytes) (maxL := maxL) (ret := ret) hM hp.1 hrc hrs hfr hlo hws hcw (fun a' U hW => word_at hW (Or.inl (by first | rfl | simp [Cond.onTables, Cond.keeps, Cond.steady])) hini)
  obtain ⟨hx, hb, hml, ho, -⟩ := S
  intro T hT X
  obtain ⟨v, vm₁, ⟨U', l2, c2, s2⟩, hW₁, X', ⟨g', mk, t, L, e1, e2, hq, h1, hL, h2, h3⟩, st⟩ := vx_callSW X hx (hh := hh) (bytes := bytes) (maxL := maxL) (ret := ret) ho hl hstt hini hcode hy hK hg (hsize.trans hml.symm) (argsL := As) (rest := rest) (fun sig h => hn.trans (hlen sig h)) hstack hW (by rw [hb]; exact hdg)
    (fun vm₁ hW₁ => ⟨hf.1, hf.2, hp.2 (T.setVm vm₁) hT hW₁⟩)
  dsimp only [Pt.U, Pt.locs, Pt.cells, Pt.slots] at X' e1 e2 h1 h2 h3 st
  subst h1; subst h2; subst h3
  exact ⟨v, (T.setVm vm₁).calling g' mk As.toArray, t, U', L, hT, X', hL, e1, e2, hq, st⟩
/-- not caught here, past rows that name other classes: it goes on to the caller -/
theorem vx_outP {p : Program} {l : Launch} {e : Env} {R : Room} {s : State} {m : MethodId} {args : Array Value} {below : List Frame} {meth : Method} {c : Code} {H : Heap} {locs : List Loc} {cells slots : Nat} {free : Addr → Prop} {ls : Array Slot} {rest : List Value} {Qc : Array Value → State → Outcome → State → Prop} {XC : String → State → State → Prop}
    {pc : Nat} {own E : String} {ce : Cell} {q : Addr} {mc ms : Nat} (hown : s.vm.findClass own = some m.cls) (hlocks : meth.locks = false)
    (hpass : ∀ z ∈ c.exceptionTable.toList, covers z pc = false ∨ (z.catchType ≠ 0 ∧ ∃ nm : String, (Cond.classLink own z.catchType nm).before args s = true ∧ va_Nc E nm s)) (hcell : H[q]? = some ce) (hv : ce.vm = .none) (hcl : s.vm.findClass E = some ce.cls)
    (hx : ∀ t : State, t.heap = H → s.vm.Alike t.vm → XC E s t) (hf : ∀ z ∈ locs, free z.base) (hc : cells ≤ mc) (hs : slots ≤ ms) :
    vx_W p l e R s m args below meth c H locs cells slots (vx_MQ below Qc XC args s mc ms free) (F0 m pc ls rest) q := by
  intro T hT X
  have hpl : e.platform.magicAccessors = ({} : Platform).magicAccessors := by rw [X.admits.platform]
  obtain ⟨vm', hW', X', st⟩ := X.outThrough hlocks q (g := F0 m pc ls rest) rfl rfl rfl (cell := ce) (by rw [hT]; exact hcell) (by rw [hv]; rfl)
    (by obtain ⟨k9, h9, -⟩ := Vm.findClass_spec hcl; exact ⟨k9, h9⟩) (fun z hz => by
      rcases hpass z hz with h | ⟨hz0, nm, hl1, hn1⟩
      · exact Or.inl h
      · obtain ⟨c6, hc6, hcl6⟩ := Cond.classLink_spec hown hl1 e.platform hpl
        obtain ⟨a8, b8, h1, h2, h3⟩ := hn1
        cases Option.some.inj (h1.symm.trans hcl)
        cases Option.some.inj (h2.symm.trans hc6)
        exact Or.inr ⟨hz0, _, hcl6, h3⟩)
  obtain ⟨g₀, hfr⟩ := X'.frames_eq
  have hcell9 : ((T.setVm vm').setFrames (.throwing q :: below)).heap[q]? = some ce := by
    show T.heap[q]? = some ce
    rw [hT]; exact hcell
  have hend : Ended ((T.setVm vm').setFrames (.throwing q :: below)) below (.threw q) := State.frames_setFrames _ (State.cur_lt_of_frames hfr)
  refine ⟨(T.setVm vm').setFrames (.throwing q :: below), ?_, .threw q, X'.here.running, hend, Or.inr ⟨q, rfl, E, ce, locs, hx _ hT (X'.ends _).1.alike, hcell9, hv, hcl, (X'.ends _).1, (X'.ends _).2.mono hc hs, hf⟩⟩
  rw [X.pushThrowing_eq]
  exact st
/-- a thing of a world lies in the heap -/
theorem vx_lt {D : va_G} {cl : List vw_C} {ws : va_W} {H1 : Heap} (h : va_P D cl ws H1) {k : Nat} {q : Nat × va_E} (hk : ws[k]? = some q) : q.1 < H1.size := (h k q hk).lt
end VXS
/-! ===== END ===== -/
/-! ===== BEGIN methods with a table of their own: called by a name, returning or throwing ===== -/
section VXH
/-! vx_backW, vx_callVX, vx_callSX, vx_callVW, vx_runVW, vx_runVX, vx_runSX, vx_ofWH follow the same proofs as their sisters above (Free/Laws.lean, Shelf42/LK1.lean); vx_outP calls Shelf42/NT130.lean (outThrough). -/
section
variable {l : Launch} {R : Room} {p : Program} {e : Env} {below : List Frame} {s : State} {sargs : Array Value} {y : MethodName} {len W9 : Nat}
theorem vx_backW {ws : List Cond} {rm : Room} {Pc : Array Value → State → Prop} {Qc : Array Value → State → Outcome → State → Prop} {XC : String → State → State → Prop} {mc ms : Nat} {free : Addr → Prop} {bytes : ByteArray} {maxL : Nat} {ret : Option FieldType} {hh : List (Nat × Nat × Nat × Nat)}
    (hM : vx_Met l y ws rm Pc Qc XC mc ms free) (hblind : FrameBlind Pc) (hrc : rm.cells = mc) (hrs : rm.slots = ms)
    (hframes : rm.frames + 1 ≤ R.frames) (hlocals : W9 + (maxL + 11) + rm.locals ≤ R.locals)
    (hws : ∀ w ∈ ws, ∀ a' U, s.WarmedH U.vm → w.before a' U = true) (hcode : Cond.codeWith y bytes maxL ret hh ∈ ws) (hinit : ∀ a' U, s.WarmedH U.vm → (Cond.initialized y.cls).before a' U = true) :
    vx_Back l R p e below s sargs y len W9 (PreOf R mc ms Pc) (PostOf Qc mc ms free) (vx_Post XC mc ms free) := by
  intro m meth c A g ig mk a X hg hsize hdg hW hn hp
  have h1 : (headSpec ws rm).pre.before a A.U = true := atoms_intro fun w hw => hws w hw _ _ X.warmed
  have h2 : (Cond.codeWith y bytes maxL ret hh).before a A.U = true := hws _ hcode _ _ X.warmed
  have h3 : (Cond.initialized y.cls).before a A.U = true := hinit _ _ X.warmed
  have h4 : A.cells + (headSpec ws rm).room.cells ≤ R.cells := by rw [show (headSpec ws rm).room.cells = mc from hrc]; exact hp.1
  have h5 : A.slots + (headSpec ws rm).room.slots ≤ R.slots := by rw [show (headSpec ws rm).room.slots = ms from hrs]; exact hp.2.1
  have hPc : Pc a (A.U.calling g mk a) := hblind _ _ _ _ hp.2.2
  obtain ⟨U, Ls, c0, s0⟩ := A
  dsimp only [Pt.U, Pt.locs, Pt.cells, Pt.slots] at h1 h2 h3 h4 h5 X hn hPc ⊢
  obtain ⟨m9, methY, cY, hn9, hmY, hcY, -, hlY, -⟩ := Cond.codeWith_spec h2
  cases Option.some.inj (hn9.symm.trans hn)
  obtain ⟨kY, hkY, -⟩ := className_of_methodNamed hn
  have hinitY : kY.init = .initialized := Cond.initialized_spec (findClass_of_methodNamed hn) hkY h3
  have h : At U g.method c below := by rw [hg]; exact X.here
  have hlocals9 : W9 + (maxL + 11) + (headSpec ws rm).room.locals ≤ R.locals := hlocals
  have happ : (headSpec ws rm).appliesLoose y e.platform (U.calling g mk a) = true :=
    Spec.appliesLoose_calling (g := g) h hdg hn hkY hinitY
      (X.room_calling (g := g) (R' := (headSpec ws rm).room) hsize hmY hcY hframes (by rw [hlY]; omega) h4 h5) h1
  obtain ⟨mid, hmid⟩ := h.above
  have hfr : (U.setTop g).frames = (.java g :: mid) ++ below := by rw [State.frames_setTop' g h.top, hmid]; rfl
  obtain ⟨o, s₂, hsteps, -, hend, hq⟩ := Steps.callFree hM p X.admits X.cas X.clock (acts := []) hfr happ hPc trivial
  have hq' : vx_Q Qc XC mc ms free a (U.calling g mk a) o s₂ := hq
  rw [State.frames_setTop' g h.top] at hend
  obtain ⟨g₀, hg0⟩ := Option.isSome_iff_exists.mp h.top
  obtain ⟨r, hr⟩ := State.topJava?_eq_some.mp hg0
  have hr' : (({ U with heap := s₂.heap, slotsUsed := s₂.slotsUsed } : State).setVm s₂.vm).frames = .java g₀ :: r := hr
  rcases hq' with ⟨hqc, L, hfe, hL⟩ | ⟨q, rfl, E, ce, L, hx, hce, hcv, hcl, hW₂, hsm, hL⟩
  · obtain ⟨⟨v, rfl⟩, hW₂, e2, q2, q3, q4, q5, q6⟩ := id hfe
    have e3 : s₂ = ({ (U.calling g mk a).setFrames s₂.frames with heap := s₂.heap, slotsUsed := s₂.slotsUsed } : State).setVm s₂.vm := by
      have : s₂ = ({ s₂ with vm := (U.calling g mk a).vm } : State).setVm s₂.vm := rfl
      rw [e2] at this
      exact this
    obtain ⟨c₂, i₂, len₂, hc₂, hd₂, hf₂⟩ := hend
    have hW' : U.WarmedH s₂.vm := hW₂
    have hcc : c₂ = c := by
      have h1 : s₂.code? g.method = U.code? g.method := by
        rw [State.code?_eq, State.code?_eq, hW'.alike.method?]
      exact Option.some.inj (hc₂.symm.trans (h1.trans h.code))
    subst hcc
    have hlen : len₂ = len := by rw [hdg] at hd₂; cases hd₂; rfl
    subst hlen
    have hs₂ : s₂ = (({ U with heap := s₂.heap, slotsUsed := s₂.slotsUsed } : State).setVm s₂.vm).setTop { g with pc := g.pc + len₂, stack := v.toList ++ g.stack } := by
      refine e3.trans ?_
      rw [hf₂, State.calling_eq h.top, State.setFrames_setFrames, State.setTop_of_frames _ hr', hr]
      rfl
    have hsame : U.sameButNew ({ U with heap := s₂.heap, slotsUsed := s₂.slotsUsed } : State) L mc ms := by
      refine ⟨?_, q2, q3, q4, q5, q6⟩
      obtain ⟨t, ht, -⟩ := State.frames_cons hr
      show ({ U with heap := s₂.heap, slotsUsed := s₂.slotsUsed } : State) = { U.setFrames U.frames with heap := s₂.heap, slotsUsed := s₂.slotsUsed }
      rw [State.setFrames_self ht]
    subst hg
    refine Or.inl ⟨v, ⟨(({ U with heap := s₂.heap, slotsUsed := s₂.slotsUsed } : State).setVm s₂.vm), Ls ++ L, c0 + mc, s0 + ms⟩,
      ⟨X.admits, X.cas, X.clock, X.frames, X.room, X.hears, X.method, X.code, (X.here.setHeapUsed s₂.heap s₂.slotsUsed).setVm hW'.alike, X.tail, State.WarmedH.trans X.warmed hW', X.limits, X.bytes, X.same.trans (hsame.setVm s.vm)⟩,
      ⟨g, mk, s₂, L, rfl, rfl, hqc, rfl, hL, rfl, rfl⟩, ?_⟩
    show Steps p.tables e below _ ((({ U with heap := s₂.heap, slotsUsed := s₂.slotsUsed } : State).setVm s₂.vm).setTop { g with pc := g.pc + len₂, stack := v.toList ++ g.stack })
    rw [← hs₂]
    exact hsteps
  · obtain ⟨e2, q2, q3, q4, q5, q6⟩ := id hsm
    have e3 : s₂ = ({ (U.calling g mk a).setFrames s₂.frames with heap := s₂.heap, slotsUsed := s₂.slotsUsed } : State).setVm s₂.vm := by
      have : s₂ = ({ s₂ with vm := (U.calling g mk a).vm } : State).setVm s₂.vm := rfl
      rw [e2] at this
      exact this
    have hf₂ : s₂.frames = .throwing q :: .java g :: U.frames.tail := hend
    have hW' : U.WarmedH s₂.vm := hW₂
    have hs₂ : s₂ = ((({ U with heap := s₂.heap, slotsUsed := s₂.slotsUsed } : State).setVm s₂.vm).setTop g).pushFrame (.throwing q) := by
      refine e3.trans ?_
      rw [hf₂, State.calling_eq h.top, State.setFrames_setFrames, State.pushFrame, State.frames_setTop _ hr', State.setTop_of_frames _ hr', State.setFrames_setFrames, hr]
      rfl
    have hsame : U.sameButNew ({ U with heap := s₂.heap, slotsUsed := s₂.slotsUsed } : State) L mc ms := by
      refine ⟨?_, q2, q3, q4, q5, q6⟩
      obtain ⟨t, ht, -⟩ := State.frames_cons hr
      show ({ U with heap := s₂.heap, slotsUsed := s₂.slotsUsed } : State) = { U.setFrames U.frames with heap := s₂.heap, slotsUsed := s₂.slotsUsed }
      rw [State.setFrames_self ht]
    subst hg
    refine Or.inr ⟨q, ⟨(({ U with heap := s₂.heap, slotsUsed := s₂.slotsUsed } : State).setVm s₂.vm), Ls ++ L, c0 + mc, s0 + ms⟩,
      ⟨X.admits, X.cas, X.clock, X.frames, X.room, X.hears, X.method, X.code, (X.here.setHeapUsed s₂.heap s₂.slotsUsed).setVm hW'.alike, X.tail, State.WarmedH.trans X.warmed hW', X.limits, X.bytes, X.same.trans (hsame.setVm s.vm)⟩,
      ⟨g, mk, s₂, L, E, ce, rfl, rfl, hx, hce, hcv, hcl, rfl, hL, rfl, rfl⟩, ?_⟩
    show Steps p.tables e below _ (((({ U with heap := s₂.heap, slotsUsed := s₂.slotsUsed } : State).setVm s₂.vm).setTop g).pushFrame (.throwing q))
    rw [← hs₂]
    exact hsteps
end
variable {p : Program} {l : Launch} {e : Env} {R : Room} {s : State} {m : MethodId} {args : Array Value} {below : List Frame} {meth : Method} {c : Code} {T : State} {H : Heap} {locs : List Loc} {cells slots : Nat}
theorem vx_callVX (X : Stand p l e R s m args below meth c T locs cells slots) (hexec : p.tables.exec = Jvm.exec) {own C : String} {index : Nat} {y : MethodName} {bytes : ByteArray} {maxL : Nat} {ret : Option FieldType} {hh : List (Nat × Nat × Nat × Nat)}
    (hown : s.vm.findClass own = some m.cls) (hlink : (Cond.methodLink own index y).before args s = true) (hinst : (Cond.instanceMethod y).before args s = true) (hsel : (Cond.selects C y y).before args s = true)
    (hcode : (Cond.codeWith y bytes maxL ret hh).before args s = true) (hy : y.cls ≠ "java/lang/invoke/MethodHandle" ∧ y.cls ≠ "java/lang/invoke/VarHandle")
    {W9 : Nat} {Pre : Pt → Array Value → Prop} {Post : Pt → Array Value → Option Value → Pt → Prop} {PostX : Pt → Array Value → Addr → Pt → Prop} (hK : vx_Back l R p e below s args y 3 W9 Pre Post PostX)
    {b : Addr} {cellB : Cell} (hcell : T.heap[b]? = some cellB) (hobj : cellB.vm.isStatics = false) (hcls : s.vm.findClass C = some cellB.cls)
    {g : JFrame} (hg : g.method = m) (hsize : g.locals.size = c.maxLocals) {argsL rest : List Value} (hlen : ∀ sig, parseMethodDescriptor y.desc = some sig → argsL.length = sig.parameters.length)
    (hstack : g.stack = argsL.reverse ++ .ref b :: rest) (hW : 2 * g.monitorRoom + (rest.map fun v => v.category).sum ≤ W9) (hdg : decode c.code g.pc = .ok (.invokevirtual index, 3))
    (hpre : ∀ vm₁, s.WarmedH vm₁ → Pre ⟨T.setVm vm₁, locs, cells, slots⟩ (Value.ref b :: argsL).toArray) :
    (∃ (v : Option Value) (vm₁ : Vm) (B : Pt), s.WarmedH vm₁ ∧ Stand p l e R s m args below meth c B.U B.locs B.cells B.slots ∧ Post ⟨T.setVm vm₁, locs, cells, slots⟩ (Value.ref b :: argsL).toArray v B ∧
      ∀ target, Steps p.tables e below (B.U.setTop { g with pc := g.pc + 3, stack := v.toList ++ rest }) target → Steps p.tables e below (T.setTop g) target) ∨
    (∃ (q : Addr) (vm₁ : Vm) (B : Pt), s.WarmedH vm₁ ∧ Stand p l e R s m args below meth c B.U B.locs B.cells B.slots ∧ PostX ⟨T.setVm vm₁, locs, cells, slots⟩ (Value.ref b :: argsL).toArray q B ∧
      Steps p.tables e below (T.setTop g) ((B.U.setTop { g with stack := rest }).pushFrame (.throwing q))) := by
  obtain ⟨mk, methM, hnamed, hmethM, hstM, habM⟩ := Cond.instanceMethod_spec hinst
  obtain ⟨m8, methM', cM, hn8, hmethM', -, -, -, -, -, -, hsigM⟩ := Cond.codeWith_spec hcode
  cases Option.some.inj (hn8.symm.trans hnamed)
  cases hmethM.symm.trans hmethM'
  obtain ⟨c2, r2, m2, q1, q2, q3, q4, kP, hkP, hkPi⟩ := Cond.selects_spec hsel
  cases hcls.symm.trans q1
  cases (State.methodFound?_of_named hnamed hy).symm.trans q2
  cases hnamed.symm.trans q3
  have hselP : selectMethod e.platform s.vm cellB.cls mk = .method mk := by rw [Launch.admits_selectMethod X.admits]; exact q4
  obtain ⟨vm₁, X₁, hstep₁⟩ := X.invokevirtual hexec hown hlink hnamed hmethM hstM hkP hkPi hy (a := b) (cell := cellB) hcell
    (fun z h => by rw [h] at hobj; cases hobj) hselP hmethM habM hkP hkPi (g := g) hg (argsL := argsL) (rest := rest) (hlen _ hsigM) hstack hdg
  rcases hK m meth c ⟨T.setVm vm₁, locs, cells, slots⟩ { g with stack := rest } (.invokevirtual index) mk (Value.ref b :: argsL).toArray X₁ hg hsize hdg hW (X₁.named hnamed) (hpre vm₁ X₁.warmed) with ⟨v, B, X', hpost, hsteps⟩ | ⟨q, B, X', hpost, hsteps⟩
  · exact Or.inl ⟨v, vm₁, B, X₁.warmed, X', hpost, fun target h => hstep₁ _ fun acts => by rw [doInvoke_state]; exact hsteps.trans h⟩
  · exact Or.inr ⟨q, vm₁, B, X₁.warmed, X', hpost, hstep₁ _ fun acts => by rw [doInvoke_state]; exact hsteps⟩
theorem vx_callSX (X : Stand p l e R s m args below meth c T locs cells slots) (hexec : p.tables.exec = Jvm.exec) {own : String} {index : Nat} {y : MethodName} {bytes : ByteArray} {maxL : Nat} {ret : Option FieldType} {hh : List (Nat × Nat × Nat × Nat)}
    (hown : s.vm.findClass own = some m.cls) (hlink : (Cond.methodLink own index y).before args s = true) (hstat : (Cond.static y).before args s = true) (hinit : (Cond.initialized y.cls).before args s = true)
    (hcode : (Cond.codeWith y bytes maxL ret hh).before args s = true) (hy : y.cls ≠ "java/lang/invoke/MethodHandle" ∧ y.cls ≠ "java/lang/invoke/VarHandle")
    {W9 : Nat} {Pre : Pt → Array Value → Prop} {Post : Pt → Array Value → Option Value → Pt → Prop} {PostX : Pt → Array Value → Addr → Pt → Prop} (hK : vx_Back l R p e below s args y 3 W9 Pre Post PostX)
    {g : JFrame} (hg : g.method = m) (hsize : g.locals.size = c.maxLocals) {argsL rest : List Value} (hlen : ∀ sig, parseMethodDescriptor y.desc = some sig → argsL.length = sig.parameters.length)
    (hstack : g.stack = argsL.reverse ++ rest) (hW : 2 * g.monitorRoom + (rest.map fun v => v.category).sum ≤ W9) (hdg : decode c.code g.pc = .ok (.invokestatic index, 3))
    (hpre : ∀ vm₁, s.WarmedH vm₁ → Pre ⟨T.setVm vm₁, locs, cells, slots⟩ argsL.toArray) :
    (∃ (v : Option Value) (vm₁ : Vm) (B : Pt), s.WarmedH vm₁ ∧ Stand p l e R s m args below meth c B.U B.locs B.cells B.slots ∧ Post ⟨T.setVm vm₁, locs, cells, slots⟩ argsL.toArray v B ∧
      ∀ target, Steps p.tables e below (B.U.setTop { g with pc := g.pc + 3, stack := v.toList ++ rest }) target → Steps p.tables e below (T.setTop g) target) ∨
    (∃ (q : Addr) (vm₁ : Vm) (B : Pt), s.WarmedH vm₁ ∧ Stand p l e R s m args below meth c B.U B.locs B.cells B.slots ∧ PostX ⟨T.setVm vm₁, locs, cells, slots⟩ argsL.toArray q B ∧
      Steps p.tables e below (T.setTop g) ((B.U.setTop { g with stack := rest }).pushFrame (.throwing q))) := by
  obtain ⟨mk, methM, cM, hnamed, hmethM, -, -, -, -, -, -, hsigM⟩ := Cond.codeWith_spec hcode
  have hstatic : methM.isStatic = true := Cond.static_spec hnamed hmethM hstat
  obtain ⟨kP, hkP, -⟩ := className_of_methodNamed hnamed
  have hinitP : kP.init = .initialized := Cond.initialized_spec (findClass_of_methodNamed hnamed) hkP hinit
  obtain ⟨vm₁, X₁, hstep₁⟩ := X.invokestatic hexec hown hlink hnamed hmethM hstatic hkP hinitP hy (g := g) hg (argsL := argsL) (rest := rest) (hlen _ hsigM) hstack hdg
  rcases hK m meth c ⟨T.setVm vm₁, locs, cells, slots⟩ { g with stack := rest } (.invokestatic index) mk argsL.toArray X₁ hg hsize hdg hW (X₁.named hnamed) (hpre vm₁ X₁.warmed) with ⟨v, B, X', hpost, hsteps⟩ | ⟨q, B, X', hpost, hsteps⟩
  · exact Or.inl ⟨v, vm₁, B, X₁.warmed, X', hpost, fun target h => hstep₁ _ fun acts => by rw [doInvoke_state]; exact hsteps.trans h⟩
  · exact Or.inr ⟨q, vm₁, B, X₁.warmed, X', hpost, hstep₁ _ fun acts => by rw [doInvoke_state]; exact hsteps⟩
theorem vx_callVW (X : Stand p l e R s m args below meth c T locs cells slots) (hexec : p.tables.exec = Jvm.exec) {own C : String} {index : Nat} {y : MethodName} {bytes : ByteArray} {maxL : Nat} {ret : Option FieldType} {hh : List (Nat × Nat × Nat × Nat)}
    (hown : s.vm.findClass own = some m.cls) (hlink : (Cond.methodLink own index y).before args s = true) (hinst : (Cond.instanceMethod y).before args s = true) (hsel : (Cond.selects C y y).before args s = true)
    (hcode : (Cond.codeWith y bytes maxL ret hh).before args s = true) (hy : y.cls ≠ "java/lang/invoke/MethodHandle" ∧ y.cls ≠ "java/lang/invoke/VarHandle")
    {W9 : Nat} {Pre : Pt → Array Value → Prop} {Post : Pt → Array Value → Option Value → Pt → Prop} (hK : Back l R p e below s args y 3 W9 Pre Post)
    {b : Addr} {cellB : Cell} (hcell : T.heap[b]? = some cellB) (hobj : cellB.vm.isStatics = false) (hcls : s.vm.findClass C = some cellB.cls)
    {g : JFrame} (hg : g.method = m) (hsize : g.locals.size = c.maxLocals) {argsL rest : List Value} (hlen : ∀ sig, parseMethodDescriptor y.desc = some sig → argsL.length = sig.parameters.length)
    (hstack : g.stack = argsL.reverse ++ .ref b :: rest) (hW : 2 * g.monitorRoom + (rest.map fun v => v.category).sum ≤ W9) (hdg : decode c.code g.pc = .ok (.invokevirtual index, 3))
    (hpre : ∀ vm₁, s.WarmedH vm₁ → Pre ⟨T.setVm vm₁, locs, cells, slots⟩ (Value.ref b :: argsL).toArray) :
    ∃ (v : Option Value) (vm₁ : Vm) (B : Pt), s.WarmedH vm₁ ∧ Stand p l e R s m args below meth c B.U B.locs B.cells B.slots ∧ Post ⟨T.setVm vm₁, locs, cells, slots⟩ (Value.ref b :: argsL).toArray v B ∧
      ∀ target, Steps p.tables e below (B.U.setTop { g with pc := g.pc + 3, stack := v.toList ++ rest }) target → Steps p.tables e below (T.setTop g) target := by
  obtain ⟨mk, methM, hnamed, hmethM, hstM, habM⟩ := Cond.instanceMethod_spec hinst
  obtain ⟨m8, methM', cM, hn8, hmethM', -, -, -, -, -, -, hsigM⟩ := Cond.codeWith_spec hcode
  cases Option.some.inj (hn8.symm.trans hnamed)
  cases hmethM.symm.trans hmethM'
  obtain ⟨c2, r2, m2, q1, q2, q3, q4, kP, hkP, hkPi⟩ := Cond.selects_spec hsel
  cases hcls.symm.trans q1
  cases (State.methodFound?_of_named hnamed hy).symm.trans q2
  cases hnamed.symm.trans q3
  have hselP : selectMethod e.platform s.vm cellB.cls mk = .method mk := by rw [Launch.admits_selectMethod X.admits]; exact q4
  obtain ⟨vm₁, X₁, hstep₁⟩ := X.invokevirtual hexec hown hlink hnamed hmethM hstM hkP hkPi hy (a := b) (cell := cellB) hcell
    (fun z h => by rw [h] at hobj; cases hobj) hselP hmethM habM hkP hkPi (g := g) hg (argsL := argsL) (rest := rest) (hlen _ hsigM) hstack hdg
  obtain ⟨v, B, X', hpost, hsteps⟩ := hK m meth c ⟨T.setVm vm₁, locs, cells, slots⟩ { g with stack := rest } (.invokevirtual index) mk (Value.ref b :: argsL).toArray X₁ hg hsize hdg hW (X₁.named hnamed) (hpre vm₁ X₁.warmed)
  exact ⟨v, vm₁, B, X₁.warmed, X', hpost, fun target h => hstep₁ _ fun acts => by rw [doInvoke_state]; exact hsteps.trans h⟩
abbrev vx_CVW (R : Room) (s : State) (args : Array Value) (own C : String) (index : Nat) (y : MethodName) (bytes : ByteArray) (maxL : Nat) (ret : Option FieldType) (hh : List (Nat × Nat × Nat × Nat)) (ws : List Cond) (rm : Room) (mc ms n : Nat) : Prop :=
  (rm.cells = mc ∧ rm.slots = ms ∧ rm.frames + 1 ≤ R.frames ∧ 8 + (maxL + 11) + rm.locals ≤ R.locals ∧ (∀ w ∈ ws, ∀ (a' : Array Value) (U : State), s.WarmedH U.vm → w.before a' U = true) ∧ Cond.codeWith y bytes maxL ret hh ∈ ws) ∧
  (Cond.codeWith y bytes maxL ret hh).before args s = true ∧ (Cond.initialized y.cls).before args s = true ∧ (y.cls ≠ "java/lang/invoke/MethodHandle" ∧ y.cls ≠ "java/lang/invoke/VarHandle") ∧
  (∀ sig, parseMethodDescriptor y.desc = some sig → n = sig.parameters.length) ∧ (Cond.methodLink own index y).before args s = true ∧ (Cond.instanceMethod y).before args s = true ∧ (Cond.selects C y y).before args s = true
theorem vx_cwVW {own C : String} {index maxL mc ms : Nat} {y : MethodName} {bytes : ByteArray} {ret : Option FieldType} {hh : List (Nat × Nat × Nat × Nat)} {Ts ws ws' : List Cond} {rm : Room} (n : Nat) (ht : ∀ w ∈ Ts, w.before args s = true) (hT : GoodIn Ts (wsV own index C y ws)) (hw : ws = Cond.codeWith y bytes maxL ret hh :: ws') (hrc : rm.cells = mc) (hrs : rm.slots = ms)
    (hd : y.cls = C ∧ y.cls ≠ "java/lang/invoke/MethodHandle" ∧ y.cls ≠ "java/lang/invoke/VarHandle" ∧ (parseMethodDescriptor y.desc).map (fun d => d.parameters.length) = some n) (hR : rm.frames + 1 ≤ R.frames ∧ 8 + (maxL + 11) + rm.locals ≤ R.locals) :
    vx_CVW R s args own C index y bytes maxL ret hh ws rm mc ms n := by
  obtain ⟨hC, hd⟩ := hd
  subst hC
  have ok : ∀ w ∈ wsV own index y.cls y ws, w.before args s = true := fun w h => ht w (hT w h).1
  have hG : GoodIn Ts ws := fun w h => hT w (by unfold wsV; exact List.mem_append_right _ h)
  have hc : Cond.codeWith y bytes maxL ret hh ∈ ws := by rw [hw]; exact List.mem_cons_self
  refine ⟨⟨hrc, hrs, hR.1, hR.2, pay_in ht hG, hc⟩, ht _ (hG _ hc).1, ok _ (by simp [wsV]), ⟨hd.1, hd.2.1⟩, fun sig h => ?_, ok _ (by simp [wsV]), ok _ (by simp [wsV]), ok _ (by simp [wsV])⟩
  have h2 := hd.2.2
  rw [h] at h2
  exact (Option.some.inj h2).symm
theorem vx_runVW {y : MethodName} {bytes cc : ByteArray} {maxL nL mc ms n index : Nat} {ret : Option FieldType} {hh : List (Nat × Nat × Nat × Nat)} {ws : List Cond} {rm : Room} {Pc : Array Value → State → Prop} {Qc : Array Value → State → Outcome → State → Prop} {free : Addr → Prop} {Ts : List Cond} {own C : String} {b : Addr} {As rest : List Value} {g : JFrame}
    (S : CallFix p m c cc nL s args Ts own) (hM : Met l y ws rm Pc Qc mc ms free) (cw : vx_CVW R s args own C index y bytes maxL ret hh ws rm mc ms n) (hp : PreV s H C b Pc As)
    (hg : g.method = m) (hn : As.length = n) (hsize : g.locals.size = nL) (hstack : g.stack = As.reverse ++ .ref b :: rest) (hW : 2 * g.monitorRoom + (rest.map fun v => v.category).sum ≤ 8) (hdg : decode cc g.pc = .ok (.invokevirtual index, 3)) (hf : cells + mc ≤ R.cells ∧ slots + ms ≤ R.slots) :
    va_Run p l e R s m args below meth c H locs cells slots mc ms g rest (Qc (Value.ref b :: As).toArray) free := by
  obtain ⟨⟨hrc, hrs, hfr, hlo, hws, hcw⟩, hcode, hini, hy, hlen, hl, hin, hse⟩ := cw
  have hK : Back l R p e below s args y 3 8 (PreOf R mc ms Pc) (PostOf Qc mc ms free) := va_backW (hh := hh) (bytes := bytes) (maxL := maxL) (ret := ret) hM hp.1 hrc hrs hfr hlo hws hcw (fun a' U hW => word_at hW (Or.inl (by first | rfl | simp [Cond.onTables, Cond.keeps, Cond.steady])) hini)
  obtain ⟨hx, hb, hml, ho, -⟩ := S
  obtain ⟨-, ⟨cellB, hcB, hoB, hclB⟩, hPc⟩ := hp
  intro T hT X
  obtain ⟨v, vm₁, ⟨U', l2, c2, s2⟩, hW₁, X', ⟨g', mk, t, L, e1, e2, hq, h1, hL, h2, h3⟩, st⟩ := vx_callVW X hx (C := C) (hh := hh) (bytes := bytes) (maxL := maxL) (ret := ret) ho hl hin hse hcode hy hK (by rw [hT]; exact hcB) hoB hclB hg (hsize.trans hml.symm) (argsL := As) (rest := rest) (fun sig h => hn.trans (hlen sig h)) hstack hW (by rw [hb]; exact hdg)
    (fun vm₁ hW₁ => ⟨hf.1, hf.2, hPc (T.setVm vm₁) hT hW₁⟩)
  dsimp only [Pt.U, Pt.locs, Pt.cells, Pt.slots] at X' e1 e2 h1 h2 h3 st
  subst h1; subst h2; subst h3
  exact ⟨v, (T.setVm vm₁).calling g' mk (Value.ref b :: As).toArray, t, U', L, hT, X', hL, e1, e2, hq, st⟩
section
variable {y : MethodName} {bytes cc : ByteArray} {maxL nL mc ms n index : Nat} {ret : Option FieldType} {ws : List Cond} {rm : Room} {Pc : Array Value → State → Prop} {Qc : Array Value → State → Outcome → State → Prop} {XC : String → State → State → Prop} {free : Addr → Prop} {Ts : List Cond} {own C : String} {b : Addr} {As rest : List Value} {g : JFrame}
theorem vx_runVX {hh : List (Nat × Nat × Nat × Nat)} (S : CallFix p m c cc nL s args Ts own) (hM : vx_Met l y ws rm Pc Qc XC mc ms free) (cw : vx_CVW R s args own C index y bytes maxL ret hh ws rm mc ms n) (hp : PreV s H C b Pc As)
    (hg : g.method = m) (hn : As.length = n) (hsize : g.locals.size = nL) (hstack : g.stack = As.reverse ++ .ref b :: rest) (hW : 2 * g.monitorRoom + (rest.map fun v => v.category).sum ≤ 8) (hdg : decode cc g.pc = .ok (.invokevirtual index, 3)) (hf : cells + mc ≤ R.cells ∧ slots + ms ≤ R.slots) :
    vx_Run p l e R s m args below meth c H locs cells slots mc ms g rest (Qc (Value.ref b :: As).toArray) XC free := by
  obtain ⟨⟨hrc, hrs, hfr, hlo, hws, hcw⟩, hcode, hini, hy, hlen, hl, hin, hse⟩ := cw
  have hK : vx_Back l R p e below s args y 3 8 (PreOf R mc ms Pc) (PostOf Qc mc ms free) (vx_Post XC mc ms free) := vx_backW (hh := hh) (bytes := bytes) (maxL := maxL) (ret := ret) hM hp.1 hrc hrs hfr hlo hws hcw (fun a' U hW => word_at hW (Or.inl (by first | rfl | simp [Cond.onTables, Cond.keeps, Cond.steady])) hini)
  obtain ⟨hx, hb, hml, ho, -⟩ := S
  obtain ⟨-, ⟨cellB, hcB, hoB, hclB⟩, hPc⟩ := hp
  intro T hT X
  rcases vx_callVX X hx (C := C) (hh := hh) (bytes := bytes) (maxL := maxL) (ret := ret) ho hl hin hse hcode hy hK (by rw [hT]; exact hcB) hoB hclB hg (hsize.trans hml.symm) (argsL := As) (rest := rest) (fun sig h => hn.trans (hlen sig h)) hstack hW (by rw [hb]; exact hdg)
    (fun vm₁ hW₁ => ⟨hf.1, hf.2, hPc (T.setVm vm₁) hT hW₁⟩) with ⟨v, vm₁, ⟨U', l2, c2, s2⟩, hW₁, X', ⟨g', mk, t, L, e1, e2, hq, h1, hL, h2, h3⟩, st⟩ | ⟨q, vm₁, ⟨U', l2, c2, s2⟩, hW₁, X', ⟨g', mk, t, L, E, ce, e1, e2, hq, hce, hcv, hcl, h1, hL, h2, h3⟩, st⟩
  · dsimp only [Pt.U, Pt.locs, Pt.cells, Pt.slots] at X' e1 e2 h1 h2 h3 st
    subst h1; subst h2; subst h3
    exact Or.inl ⟨v, (T.setVm vm₁).calling g' mk (Value.ref b :: As).toArray, t, U', L, hT, X', hL, e1, e2, hq, st⟩
  · dsimp only [Pt.U, Pt.locs, Pt.cells, Pt.slots] at X' e1 e2 h1 h2 h3 st hcl
    subst h1; subst h2; subst h3
    exact Or.inr ⟨q, (T.setVm vm₁).calling g' mk (Value.ref b :: As).toArray, t, U', L, E, ce, hT, X', hL, e1, e2, hq, hce, hcv, vx_cls hW₁ hcl, st⟩
theorem vx_runSX {hh : List (Nat × Nat × Nat × Nat)} (S : CallFix p m c cc nL s args Ts own) (hM : vx_Met l y ws rm Pc Qc XC mc ms free) (cw : vx_CSW R s args own index y bytes maxL ret hh ws rm mc ms n) (hp : PreS s H Pc As)
    (hg : g.method = m) (hn : As.length = n) (hsize : g.locals.size = nL) (hstack : g.stack = As.reverse ++ rest) (hW : 2 * g.monitorRoom + (rest.map fun v => v.category).sum ≤ 8) (hdg : decode cc g.pc = .ok (.invokestatic index, 3)) (hf : cells + mc ≤ R.cells ∧ slots + ms ≤ R.slots) :
    vx_Run p l e R s m args below meth c H locs cells slots mc ms g rest (Qc As.toArray) XC free := by
  obtain ⟨⟨hrc, hrs, hfr, hlo, hws, hcw⟩, hcode, hini, hy, hlen, hl, hstt⟩ := cw
  have hK : vx_Back l R p e below s args y 3 8 (PreOf R mc ms Pc) (PostOf Qc mc ms free) (vx_Post XC mc ms free) := vx_backW (hh := hh) (bytes := bytes) (maxL := maxL) (ret := ret) hM hp.1 hrc hrs hfr hlo hws hcw (fun a' U hW => word_at hW (Or.inl (by first | rfl | simp [Cond.onTables, Cond.keeps, Cond.steady])) hini)
  obtain ⟨hx, hb, hml, ho, -⟩ := S
  intro T hT X
  rcases vx_callSX X hx (hh := hh) (bytes := bytes) (maxL := maxL) (ret := ret) ho hl hstt hini hcode hy hK hg (hsize.trans hml.symm) (argsL := As) (rest := rest) (fun sig h => hn.trans (hlen sig h)) hstack hW (by rw [hb]; exact hdg)
    (fun vm₁ hW₁ => ⟨hf.1, hf.2, hp.2 (T.setVm vm₁) hT hW₁⟩) with ⟨v, vm₁, ⟨U', l2, c2, s2⟩, hW₁, X', ⟨g', mk, t, L, e1, e2, hq, h1, hL, h2, h3⟩, st⟩ | ⟨q, vm₁, ⟨U', l2, c2, s2⟩, hW₁, X', ⟨g', mk, t, L, E, ce, e1, e2, hq, hce, hcv, hcl, h1, hL, h2, h3⟩, st⟩
  · dsimp only [Pt.U, Pt.locs, Pt.cells, Pt.slots] at X' e1 e2 h1 h2 h3 st
    subst h1; subst h2; subst h3
    exact Or.inl ⟨v, (T.setVm vm₁).calling g' mk As.toArray, t, U', L, hT, X', hL, e1, e2, hq, st⟩
  · dsimp only [Pt.U, Pt.locs, Pt.cells, Pt.slots] at X' e1 e2 h1 h2 h3 st hcl
    subst h1; subst h2; subst h3
    exact Or.inr ⟨q, (T.setVm vm₁).calling g' mk As.toArray, t, U', L, E, ce, hT, X', hL, e1, e2, hq, hce, hcv, vx_cls hW₁ hcl, st⟩
end
end VXH
theorem vx_ofWH {l : Launch} {y : MethodName} {ws ws' : List Cond} {rm : Room} {Pc : Array Value → State → Prop} {Qc : Array Value → State → Outcome → State → Prop} {XC : String → State → State → Prop} {mc ms : Nat} {free : Addr → Prop} {cc : ByteArray} {maxL : Nat} {ret : Option FieldType} {hh : List (Nat × Nat × Nat × Nat)}
    (hy : plainName y.cls = true) (hw : ws = Cond.codeWith y cc maxL ret hh :: ws')
    (body : ∀ p e s m args below meth c s₁, BodyLoose p l y (headSpec ws rm) cc maxL ret e s m args below meth c s₁ → c.maxLocals = maxL → Pc args s →
      W p l e (headSpec ws rm).room s m args below meth c s.heap [] 0 0 (vx_MQ below Qc XC args s mc ms free) (entryFrame m args maxL)) : vx_Met l y ws rm Pc Qc XC mc ms free := by
  refine MetFree.of_bodyS (code := cc) (maxLocals := maxL) (ret := ret) hy ?_ ?_
  · intro args s m h hn
    obtain ⟨m9, meth, c, hn9, h1, h2, h3, h4, -, h5, h6, -⟩ := Cond.codeWith_spec (atoms_spec (ws := ws) h _ (by rw [hw]; exact List.mem_cons_self))
    cases hn.symm.trans hn9
    exact ⟨meth, c, h1, h2, h3, h4, h5, h6⟩
  · intro p e s m args below meth c s₁ B hml hP _
    have hh0 : s₁.heap = s.heap := by rw [B.state]; rfl
    obtain ⟨t, a1, o, b1, b2, b3⟩ := body p e s m args below meth c s₁ B hml hP s₁ hh0 (Stand.of_body B)
    exact ⟨t, o, a1, b1, b2, b3⟩
/-! ===== END ===== -/
end
section
/-! STEPS THAT READ OR WRITE CELLS -/
def nestW : List Jvm.Cond := [.methodLinkNest RX10 9 yX9_init RX10, .methodLinkNest RX10 18 yX3_init RX10, .methodLinkNest RX10 25 yX6_init RX10, .methodLinkNest RX10 35 yX4_init RX10, .methodLinkNest RX10 45 yX5_init RX10, .methodLinkNest RX10 52 yX2_init RX10, .methodLinkNest RX10 67 yX8_init RX10, .methodLinkNest RX1 24 yX8_init RX10, .methodLinkNest RX10 84 yX0_init RX10, .methodLinkNest RX9 42 yX10_isDigit RX10, .methodLinkNest RX5 61 yX10_isDigit RX10, .methodLinkNest RX8 46 yX10_keepOnSea RX10, .methodLinkNest RX0 54 yX10_widened RX10, .methodLinkNest RX7 34 yX10_keepOnSea RX10]
/-- what the tables alone say -/
def U1 (cy : Nat → ClassId) (dC : Nat → ClassId) (dI : Nat → Nat → Nat) (adK : Nat → Nat) (U : State) : Prop :=
  va_K (dC, dI) vwCl (tysF cy) U ∧ va_AO RX8 U ∧ va_AOA .int U ∧ va_AOA .long U ∧ (∀ w ∈ nestW, va_Nw w U) ∧ ∀ i, i < 6 → vk_R RX11 (sidx.getD i 0) (stxt.getD i "") (adK i) U
theorem nestW_link : ∀ w ∈ nestW, ∃ a i x h, w = Jvm.Cond.methodLinkNest a i x h := by
  intro w hw
  simp only [nestW, List.mem_cons, List.not_mem_nil, or_false] at hw
  rcases hw with h | h | h | h | h | h | h | h | h | h | h | h | h | h <;> exact ⟨_, _, _, _, h⟩
theorem U1.warm {cy : Nat → ClassId} {dC : Nat → ClassId} {dI : Nat → Nat → Nat} {adK : Nat → Nat} {s U : State} (hW : s.WarmedH U.vm) (h : U1 cy dC dI adK s) : U1 cy dC dI adK U := by
  obtain ⟨h1, h2, h3, h4, h5, h6⟩ := h
  refine ⟨va_K.moved hW.alike h1, va_AO.moved hW.alike h2, va_AOA.moved hW.alike h3, va_AOA.moved hW.alike h4, fun w hw => ?_, fun i hi => vk_R.warm hW (h6 i hi)⟩
  obtain ⟨a, i, x, q, rfl⟩ := nestW_link w hw
  exact va_Nw.warmM hW (h5 _ hw)
theorem U1.same {cy : Nat → ClassId} {dC : Nat → ClassId} {dI : Nat → Nat → Nat} {adK : Nat → Nat} {u U : State} (hv : U.vm = u.vm) (h : U1 cy dC dI adK u) : U1 cy dC dI adK U := by
  obtain ⟨h1, h2, h3, h4, h5, h6⟩ := h
  have ha : u.vm.Alike U.vm := by rw [hv]; exact Vm.Alike.refl _
  refine ⟨va_K.moved ha h1, va_AO.moved ha h2, va_AOA.moved ha h3, va_AOA.moved ha h4, fun w hw => ?_, fun i hi => vk_R.same hv (h6 i hi)⟩
  obtain ⟨a, i, x, q, rfl⟩ := nestW_link w hw
  exact va_Nw.same rfl hv.symm (h5 _ hw)
section SND2
variable {p : Program} {l : Launch} {e : Env} {R : Room} {s : State} {m : MethodId} {args : Array Value} {below : List Frame} {meth : Method} {c : Code} {Z : State → Prop}
variable {cc : ByteArray} {nL : Nat} {own : String} {isI : Bool} {ret : Option FieldType}
variable {cy : Nat → ClassId} {dC : Nat → ClassId} {dI : Nat → Nat → Nat} {A : Nat → Prop} {ad0 : Nat → Nat} {bz n0 C S : Nat} {adK : Nat → Nat}
theorem va_aldA {H : Heap} {locs : List Loc} {cells slots : Nat} {Q : State → Prop} {pc : Nat} {ls : Array Slot} {rest : List Value} {D : va_G} {cl : List vw_C} {a : Nat} {tys : List (ClassId × FieldType)} {ws : va_W} (hexec : p.tables.exec = Jvm.exec) (hb : c.code = cc) (hK : va_K D cl tys s) (hP : va_P D cl ws H) (q0 t0 : Nat) {cA : ClassId} {ty : FieldType} (hty : ty.isReference = true) {n : Nat} {f : Nat → Option Nat} (ha : ws[q0]? = some (a, .inl (cA, n, .inr (.inr (.inr (.inr f)))))) (ht : tys[t0]? = some (cA, ty)) {i : Int32} (hin : vp_in i n) (hdg : decode cc pc = .ok (.aaload, 1))
    (kk : W p l e R s m args below meth c H locs cells slots Q (F0 m (pc + 1) ls (va_rf (f i.toNatClampNeg) :: rest))) : W p l e R s m args below meth c H locs cells slots Q (F0 m pc ls (.int i :: .ref a :: rest)) := by
  have hlt : i.toNatClampNeg < n := Nat.not_le.mp fun q => hin (Or.inr q)
  exact W.aald (v := va_rf (f i.toNatClampNeg)) (ty := ty) hexec hb (hP q0 _ ha) ((hK.2 t0 _ ht).1 n (fun j => va_rf (f j))) hty (fun q => by cases q) (by show ¬ (i < 0 ∨ (arrV _ _ _).slots.size ≤ _); rw [arrV_size]; exact hin) (by show (arrV _ _ _).slots[_]? = _; rw [arrV_read _ _ hlt]) rfl rfl hdg kk
theorem cy_prim {t : Nat} {cA : ClassId} {ty : FieldType} (hK : va_K (dC, dI) vwCl (tysF cy ++ [(cA, ty)]) s) (ht : t < 7) (hty : fty t = ty) : cA = cy t := by
  have h1 := (hK.2 7 (cA, ty) rfl).2
  have h2 := (hK.2 t (cy t, fty t) (by
    have := tys_at cy ht
    rw [List.getElem?_append_left (by have := (List.getElem?_eq_some_iff.mp this).1; exact this)]
    exact this)).2
  rw [hty] at h2
  cases ty with
  | object C =>
    obtain ⟨_, _, _, _, _, g1⟩ := h1
    obtain ⟨_, _, _, _, _, g2⟩ := h2
    rw [g1] at g2
    exact Option.some.inj g2
  | _ =>
    have g1 : s.vm.findClass _ = some cA := h1
    have g2 : s.vm.findClass _ = some (cy t) := h2
    rw [g1] at g2
    exact Option.some.inj g2
/-- the places of new T[n][m]: the outer array, then its rows -/
def nMad (ad : Nat → Nat) (L q : Nat) (r : Nat → Nat) : Nat → Nat := fun j => if j < L ∨ 1000000 ≤ j then ad j else if j = L then q else r (j - L - 1)
theorem nOs_len (h : aH) (s' : Nat × Nat) : ∀ n, (nOs h s' n).1.length = h.1.length + n
  | 0 => rfl
  | n + 1 => by show (nO (nOs h s' n) s').1.length = _; rw [nO_len, nOs_len h s' n]; omega
theorem nOs_RV {h : aH} {s' : Nat × Nat} (hv : RV h) : ∀ n, RV (nOs h s' n)
  | 0 => hv
  | n + 1 => nO_RV (nOs_RV hv n)
theorem wd_nOs {cy : Nat → ClassId} {h : aH} {s' : Nat × Nat} (hv : RV h) : ∀ (n : Nat) (ad : Nat → Nat), wd cy ad (nOs h s' n) = wd cy ad h ++ (List.range n).map (fun i => (ad (h.1.length + i), enN cy s'))
  | 0, ad => by simp [nOs]
  | n + 1, ad => by
    have e := wd_nO (cy := cy) (ad := ad) (s := s') (nOs_RV (s' := s') hv n) (ad (h.1.length + n))
    have e2 : a_up ad (nOs h s' n).1.length (ad (h.1.length + n)) = ad := by
      funext j
      unfold a_up
      split
      · rename_i hj; rw [hj, nOs_len]
      · rfl
    rw [e2] at e
    show wd cy ad (nO (nOs h s' n) s') = _
    rw [e, wd_nOs hv n ad, List.range_succ, List.map_append, List.append_assoc]
    rfl
theorem nM_aR (h : aH) (t0 t1 n k : Nat) : aR (nM h t0 t1 n k) = a_up (aR (nOs (nO h (t0, n)) (t1, k) n)) h.1.length (fun i => if i < n then some (h.1.length + 1 + i) else none) := rfl
theorem wd_nM {cy : Nat → ClassId} {ad : Nat → Nat} {h : aH} {t0 t1 n k : Nat} (hv : RV h) (ht : 4 ≤ t0) (ht2 : t0 < 100) (q : Nat) (r : Nat → Nat) (hlt : h.1.length + 1 + n < 1000000) :
    wd cy (nMad ad h.1.length q r) (nM h t0 t1 n k) = (wd cy ad h ++ [(q, .inl (cy t0, n, .inr (.inr (.inr (.inr (fun i => if i < n then some (r i) else none))))))]) ++ (List.range n).map (fun i => (r i, enN cy (t1, k))) := by
  have e1 := wd_nOs (cy := cy) (h := nO h (t0, n)) (s' := (t1, k)) (nO_RV hv) n (nMad ad h.1.length q r)
  have hL : (nO h (t0, n)).1.length = h.1.length + 1 := nO_len _ _
  have en : ∀ i, i < n → nMad ad h.1.length q r (h.1.length + 1 + i) = r i := fun i hi => by
    unfold nMad
    rw [if_neg (by omega), if_neg (by omega)]
    congr 1; omega
  have eo : nMad ad h.1.length q r h.1.length = q := by
    unfold nMad
    rw [if_neg (by omega), if_pos rfl]
  have ead : a_up (nMad ad h.1.length q r) h.1.length q = nMad ad h.1.length q r := by
    funext j
    unfold a_up
    split
    · rename_i hj; rw [hj, eo]
    · rfl
  have e2 := wd_nO (cy := cy) (ad := nMad ad h.1.length q r) (s := (t0, n)) hv q
  rw [ead, wd_ad hv (ad := ad) (ad' := nMad ad h.1.length q r) (fun j hj => by unfold nMad; rw [if_pos (Or.inl hj)])] at e2
  rw [e2, hL] at e1
  have e3 : (List.range n).map (fun i => (nMad ad h.1.length q r (h.1.length + 1 + i), enN cy (t1, k))) = (List.range n).map (fun i => (r i, enN cy (t1, k))) := List.map_congr_left fun i hi => by rw [en i (List.mem_range.mp hi)]
  rw [e3] at e1
  -- the outer row, set
  have hsL : (nOs (nO h (t0, n)) (t1, k) n).1[h.1.length]? = some (t0, n) := by
    have : ∀ z, (nOs (nO h (t0, n)) (t1, k) z).1[h.1.length]? = some (t0, n) := by
      intro z
      induction z with
      | zero => simp [nOs, nO]
      | succ z ih =>
        show ((nOs (nO h (t0, n)) (t1, k) z).1 ++ [(t1, k)])[h.1.length]? = _
        rw [List.getElem?_append_left (by rw [nOs_len, hL]; omega)]
        exact ih
    exact this n
  have e4 := wd_set (cy := cy) (ad := nMad ad h.1.length q r) (h := nOs (nO h (t0, n)) (t1, k) n) (h' := nM h t0 t1 n k) (a := h.1.length) (s := (t0, n)) (e := .inl (cy t0, n, .inr (.inr (.inr (.inr (fun i => if i < n then some (r i) else none)))))) hsL rfl (by
    rw [enS_arr _ _ _ _ ht2]
    unfold arc
    rw [if_neg (by omega), if_pos ht]
    congr 7
    funext i
    have : aR (nM h t0 t1 n k) h.1.length i = if i < n then some (h.1.length + 1 + i) else none := by
      rw [nM_aR, up_s]
    rw [this]
    split
    · rename_i hi; show some _ = _; rw [en i hi]
    · rfl) (fun i s' hi => enS_congr rfl rfl (up_n hi))
  rw [← e4, e1, eo]
  have hlen : (wd cy ad h).length = h.1.length := wd_len _ _ _
  rw [List.append_assoc, List.set_append_right _ _ (by rw [hlen]; exact Nat.le_refl _), hlen, Nat.sub_self]
  simp
theorem nM_len (h : aH) (t0 t1 n k : Nat) : (nM h t0 t1 n k).1.length = h.1.length + 1 + n := by
  show (nOs (nO h (t0, n)) (t1, k) n).1.length = _
  rw [nOs_len, nO_len]
theorem nM_RV {h : aH} {t0 t1 n k : Nat} (hv : RV h) : RV (nM h t0 t1 n k) := by
  intro a j b hb
  rw [nM_len]
  by_cases e : a = h.1.length
  · subst e
    have : aR (nM h t0 t1 n k) h.1.length j = if j < n then some (h.1.length + 1 + j) else none := by
      rw [nM_aR, up_s]
    rw [this] at hb
    split at hb
    · cases hb; omega
    · cases hb
  · have : aR (nM h t0 t1 n k) a j = aR (nOs (nO h (t0, n)) (t1, k) n) a j := by
      rw [nM_aR, up_n e]
    rw [this] at hb
    have := nOs_RV (s' := (t1, k)) (nO_RV (s := (t0, n)) hv) n a j b hb
    rw [nOs_len, nO_len] at this
    exact this
theorem nO_I {h : aH} {s' : Nat × Nat} {a : Nat} (ha : a ≠ h.1.length) : aI (nO h s') a = aI h a := up_n ha
set_option maxHeartbeats 4000000 in
theorem snd_cell {CL : CT} {Q : QT} {K : KT} (hx : p.tables.exec = Jvm.exec) (hb : c.code = cc) (hown : s.vm.findClass own = some m.cls) (hts : ∀ w ∈ GW, w.before args s = true) (hini : isI = true → meth.name = "<init>") (hU : U1 cy dC dI adK s) (hA : ∀ q, s.heap.size ≤ q → A q) (hstr : ∀ i, i < 6 → ad0 (1000000 + i) = adK i) (hCR : C ≤ R.cells) (hSR : S ≤ R.slots) (hK : GO p l e R s m args below meth c Z nL cy dC dI A ad0 bz n0 C S K)
    {i : Instr} {r1 r2 : Nat} {r3 : Int} {pc : Nat} {ls : List (Nat × Value)} {st : List Value} {h : aH} {bc bs : Nat} {len : Nat} (hd : decode cc pc = .ok (i, len)) (hlen : isSw i = true ∨ len = lenI i) (hcf : cfx own isI pc i r1 r2 r3) (hst : stp CL ret Q K i r1 r2 r3 pc ls st h bc bs)
    {ad : Nat → Nat} {arr : Array Slot} {H : Heap} {locs : List Loc} {cells slots : Nat} (had : HAD bz n0 ad0 ad bc) (hn0 : n0 ≤ h.1.length) (hsm : h.1.length < 1000000) (hS : Std cy dC dI A s.heap ad h H locs) (hl : lv_has arr nL (cvl ad ls)) (hc : cells + bc ≤ C) (hs : slots + bs ≤ S)
    (hpl : pln i = false) (hni : (match i with
      | .invokevirtual _ => false
      | .invokespecial _ => false
      | .invokestatic _ => false
      | .ireturn => false
      | .lreturn => false
      | .return_ => false
      | _ => true) = true) :
    W p l e R s m args below meth c H locs cells slots Z (F0 m pc arr (st.map (cv ad))) := by
  have go : ∀ {pc' : Nat} {ls' : List (Nat × Value)} {st' : List Value}, K pc' ls' st' h bc bs → ∀ {arr' : Array Slot}, lv_has arr' nL (cvl ad ls') → W p l e R s m args below meth c H locs cells slots Z (F0 m pc' arr' (st'.map (cv ad))) := fun k _ hl' => hK _ _ _ _ _ _ k ad _ H locs cells slots had hn0 hsm hS hl' hc hs
  obtain ⟨hP, hD, hSS, hRV⟩ := hS
  obtain ⟨uK, uO, uA1, uA2, uN, uR⟩ := hU
  cases i
  case ldc n =>
    obtain rfl : len = 2 := by simpa [isSw, lenI] using hlen
    rcases hcf with ⟨rfl, hw⟩ | ⟨rfl, h2, rfl, h3⟩
    · exact lv_ldc hx hb hown (hts _ hw) hd (go hst hl)
    · have hk := go hst hl
      have e : ad (1000000 + r2) = adK r2 := by rw [had.1 _ (Or.inr (by omega)), hstr r2 h2]
      have hz := uR r2 h2
      rw [h3] at hz
      refine va_ldcS hx hb hown hz hd ?_
      rw [← e]
      exact hk
  case ldc_w n =>
    obtain rfl : len = 3 := by simpa [isSw, lenI] using hlen
    rcases hcf with ⟨rfl, hw⟩ | ⟨rfl, h2, rfl, h3⟩
    · exact lv_ldcw hx hb hown (hts _ hw) hd (go hst hl)
    · have hk := go hst hl
      have e : ad (1000000 + r2) = adK r2 := by rw [had.1 _ (Or.inr (by omega)), hstr r2 h2]
      have hz := uR r2 h2
      rw [h3] at hz
      refine va_ldcwS hx hb hown hz hd ?_
      rw [← e]
      exact hk
  case getfield n =>
    obtain rfl : len = 3 := by simpa [isSw, lenI] using hlen
    obtain ⟨a, r, rfl, hsh, k⟩ := pr_inv hst
    obtain ⟨h1, h2, h3, hw⟩ := hcf
    obtain ⟨C', T, N, ty, k1, k2, k3, k4, k5, k6, k7, k8⟩ := cls_ok h1
    have he := wd_get (cy := cy) (ad := ad) hsh
    rw [enS_obj] at he
    rw [k8] at hw
    refine va_get (D := (dC, dI)) (ci := r1) hx hb hts k2 hown uK hP a he k1 r2 (by rw [k6]; exact h2) (hts _ hw) (fun _ h9 => h9) (rng_get _ h2) hd ?_
    rw [wv_cv]
    have e3 : r3.toNat = fkd r1 r2 := by rw [h3]; rfl
    rw [← e3]
    exact go k hl
  case putfield n =>
    obtain rfl : len = 3 := by simpa [isSw, lenI] using hlen
    obtain ⟨h1, h2, h3, hw, hfin⟩ := hcf
    obtain ⟨C', T, N, ty, k1, k2, k3, k4, k5, k6, k7, k8⟩ := cls_ok h1
    rw [k8] at hw hfin
    have hkd := k5 r2 (by rw [k6]; exact h2)
    -- one store, whatever the kind
    have one : ∀ (a : Nat) (v : Value) (r : List Value) (h' : aH), h.1[a]? = some (100 + r1, nf r1) → narrow (ty r2) v = v → fits (ty r2) v = true →
        (wd cy ad h).set a (ad a, .inr (r1, ((List.range (nf r1)).map (fun k => wv ad h a k (fkd r1 k))).set r2 v)) = wd cy ad h' → RV h' → h'.1.length = h.1.length → K (pc + 3) ls r h' bc bs →
        W p l e R s m args below meth c H locs cells slots Z (F0 m pc arr (v :: .ref (ad a) :: r.map (cv ad))) := by
      intro a v r h' hsh hn hf hset hv' hl' k
      have he := wd_get (cy := cy) (ad := ad) hsh
      rw [enS_obj] at he
      rcases hfin with hfin | ⟨hfi, hdecl⟩
      · by_cases hff : (T r2).2.2.2 = true
        · exact absurd hff (by rw [hfin]; decide)
        · refine va_put (D := (dC, dI)) (ci := r1) hx hb hts k2 ty k4 k3 hown uK hP hD hSS a he k1 r2 (by rw [k6]; exact h2) (hts _ hw) (fun _ h9 => h9) hfin (k4 r2 (by rw [k6]; exact h2)) hn hf (by simpa using h2) hd (fun H1 locs1 hP1 hD1 hS1 => ?_)
          rw [hset] at hP1 hD1
          exact hK _ _ _ _ _ _ k ad _ H1 locs1 cells slots had (by rw [hl']; exact hn0) (by rw [hl']; exact hsm) ⟨hP1, hD1, hS1, hv'⟩ hl hc hs
      · by_cases hff : (T r2).2.2.2 = true
        · refine va_putF (D := (dC, dI)) (ci := r1) hx hb hts k2 ty k4 k3 hown uK hP hD hSS a he k1 r2 (by rw [k6]; exact h2) (hts _ hw) (fun _ h9 => h9) hff (hini hfi) hdecl (k4 r2 (by rw [k6]; exact h2)) hn hf (by simpa using h2) hd (fun H1 locs1 hP1 hD1 hS1 => ?_)
          rw [hset] at hP1 hD1
          exact hK _ _ _ _ _ _ k ad _ H1 locs1 cells slots had (by rw [hl']; exact hn0) (by rw [hl']; exact hsm) ⟨hP1, hD1, hS1, hv'⟩ hl hc hs
        · refine va_put (D := (dC, dI)) (ci := r1) hx hb hts k2 ty k4 k3 hown uK hP hD hSS a he k1 r2 (by rw [k6]; exact h2) (hts _ hw) (fun _ h9 => h9) (by simpa using hff) (k4 r2 (by rw [k6]; exact h2)) hn hf (by simpa using h2) hd (fun H1 locs1 hP1 hD1 hS1 => ?_)
          rw [hset] at hP1 hD1
          exact hK _ _ _ _ _ _ k ad _ H1 locs1 cells slots had (by rw [hl']; exact hn0) (by rw [hl']; exact hsm) ⟨hP1, hD1, hS1, hv'⟩ hl hc hs
    rcases (show fkd r1 r2 = 0 ∨ fkd r1 r2 = 1 ∨ fkd r1 r2 = 2 ∨ fkd r1 r2 = 3 by
      revert hkd
      generalize fkd r1 r2 = z
      intro hkd
      match z, hkd with
      | 0, _ => exact Or.inl rfl
      | 1, _ => exact Or.inr (Or.inl rfl)
      | 2, _ => exact Or.inr (Or.inr (Or.inl rfl))
      | 3, _ => exact Or.inr (Or.inr (Or.inr rfl))
      | z + 4, hkd => exact False.elim hkd) with hz | hz | hz | hz <;> rw [hz] at h3 hkd <;> subst h3
    · obtain ⟨a, x, r, rfl, hsh, k⟩ := pir_inv hst
      exact one a (.int x) r _ hsh (by rw [show ty r2 = .int from hkd]; rfl) (by rw [show ty r2 = .int from hkd]; rfl) (wd_sI_obj hsh (by rw [hz]; decide)) (RV_sI hRV) rfl k
    · obtain ⟨a, x, r, rfl, hsh, k⟩ := plr_inv hst
      exact one a (.long x) r _ hsh (by rw [show ty r2 = .long from hkd]; rfl) (by rw [show ty r2 = .long from hkd]; rfl) (wd_sJ_obj hsh hz) (RV_sJ hRV) rfl k
    · obtain ⟨a, x, r, rfl, hsh, hlt, k⟩ := prr_inv hst
      have hrf : (ty r2).isReference = true := hkd
      exact one a (.ref (ad x)) r _ hsh (by cases hq : ty r2 <;> rw [hq] at hrf <;> first | rfl | cases hrf) (by cases hq : ty r2 <;> rw [hq] at hrf <;> first | rfl | cases hrf) (wd_sR_obj hsh hz) (RV_sR hRV hlt) rfl k
    · obtain ⟨a, x, r, rfl, hsh, h01, k⟩ := pir_inv hst
      have hbo : ty r2 = .boolean := hkd
      exact one a (.int x) r _ hsh (by rw [hbo]; rcases h01 with rfl | rfl <;> rfl) (by rw [hbo]; rcases h01 with rfl | rfl <;> rfl) (wd_sI_obj hsh (by rw [hz]; decide)) (RV_sI hRV) rfl k
  case iaload =>
    obtain rfl : len = 1 := by simpa [isSw, lenI] using hlen
    obtain ⟨a, x, r, rfl, ⟨n, hsh, hin⟩, k⟩ := pir_inv hst
    have he := wd_get (cy := cy) (ad := ad) hsh
    rw [enS_arr _ _ _ _ (by omega)] at he
    exact va_iald hx hb uK hP a 0 he rfl hin hd (go k hl)
  case caload =>
    obtain rfl : len = 1 := by simpa [isSw, lenI] using hlen
    obtain ⟨a, x, r, rfl, ⟨n, hsh, hin⟩, k⟩ := pir_inv hst
    have he := wd_get (cy := cy) (ad := ad) hsh
    rw [enS_arr _ _ _ _ (by omega)] at he
    exact va_cald hx hb uK hP a 2 he rfl hin hd (go k hl)
  case baload =>
    obtain rfl : len = 1 := by simpa [isSw, lenI] using hlen
    obtain ⟨a, x, r, rfl, ⟨n, hsh, hin⟩, k⟩ := pir_inv hst
    have he := wd_get (cy := cy) (ad := ad) hsh
    rw [enS_arr _ _ _ _ (by omega)] at he
    exact va_zald hx hb uK hP a 3 he rfl hin hd (go k hl)
  case laload =>
    obtain rfl : len = 1 := by simpa [isSw, lenI] using hlen
    obtain ⟨a, x, r, rfl, ⟨n, hsh, hin⟩, k⟩ := pir_inv hst
    have he := wd_get (cy := cy) (ad := ad) hsh
    rw [enS_arr _ _ _ _ (by omega)] at he
    exact va_lald hx hb uK hP a 1 he rfl hin hd (go k hl)
  case aaload =>
    obtain rfl : len = 1 := by simpa [isSw, lenI] using hlen
    obtain ⟨a, x, r, rfl, ⟨t, n, hsh, h4, h6, hin⟩, k⟩ := pir_inv hst
    have he := wd_get (cy := cy) (ad := ad) hsh
    rw [enS_arr _ _ _ _ (by omega)] at he
    unfold arc at he
    rw [if_neg (by omega), if_pos h4] at he
    refine va_aldA hx hb uK hP a t (ty := fty t) ?_ he (tys_at cy (by omega)) hin hd ?_
    · rcases (show t = 4 ∨ t = 5 ∨ t = 6 by omega) with rfl | rfl | rfl <;> rfl
    · have := go k hl
      rw [List.map_cons, cv_rf] at this
      exact this
  case iastore =>
    obtain rfl : len = 1 := by simpa [isSw, lenI] using hlen
    obtain ⟨a, x, v, r, rfl, ⟨n, hsh, hin⟩, k⟩ := piir_inv hst
    have he := wd_get (cy := cy) (ad := ad) hsh
    rw [enS_arr _ _ _ _ (by omega)] at he
    refine va_iast hx hb uK hP hD hSS a 0 he rfl hin hd (fun H1 locs1 hP1 hD1 hS1 => ?_)
    rw [wd_sI_arr hsh (Or.inl rfl)] at hP1 hD1
    exact hK _ _ _ _ _ _ k ad _ H1 locs1 cells slots had hn0 hsm ⟨hP1, hD1, hS1, RV_sI hRV⟩ hl hc hs
  case castore =>
    obtain rfl : len = 1 := by simpa [isSw, lenI] using hlen
    obtain ⟨a, x, v, r, rfl, ⟨n, hsh, hin⟩, k⟩ := piir_inv hst
    have he := wd_get (cy := cy) (ad := ad) hsh
    rw [enS_arr _ _ _ _ (by omega)] at he
    refine va_cast hx hb uK hP hD hSS a 2 he rfl hin hd (fun H1 locs1 hP1 hD1 hS1 => ?_)
    rw [wd_sI_arr hsh (Or.inr (Or.inl rfl))] at hP1 hD1
    exact hK _ _ _ _ _ _ k ad _ H1 locs1 cells slots had hn0 hsm ⟨hP1, hD1, hS1, RV_sI hRV⟩ hl hc hs
  case bastore =>
    obtain rfl : len = 1 := by simpa [isSw, lenI] using hlen
    obtain ⟨a, x, v, r, rfl, ⟨n, hsh, hin⟩, k⟩ := piir_inv hst
    have he := wd_get (cy := cy) (ad := ad) hsh
    rw [enS_arr _ _ _ _ (by omega)] at he
    refine va_zast hx hb uK hP hD hSS a 3 he rfl hin hd (fun H1 locs1 hP1 hD1 hS1 => ?_)
    rw [wd_sI_arr hsh (Or.inr (Or.inr rfl))] at hP1 hD1
    exact hK _ _ _ _ _ _ k ad _ H1 locs1 cells slots had hn0 hsm ⟨hP1, hD1, hS1, RV_sI hRV⟩ hl hc hs
  case lastore =>
    obtain rfl : len = 1 := by simpa [isSw, lenI] using hlen
    obtain ⟨a, x, v, r, rfl, ⟨n, hsh, hin⟩, k⟩ := plir_inv hst
    have he := wd_get (cy := cy) (ad := ad) hsh
    rw [enS_arr _ _ _ _ (by omega)] at he
    refine va_last hx hb uK hP hD hSS a 1 he rfl hin hd (fun H1 locs1 hP1 hD1 hS1 => ?_)
    rw [wd_sJ_arr hsh] at hP1 hD1
    exact hK _ _ _ _ _ _ k ad _ H1 locs1 cells slots had hn0 hsm ⟨hP1, hD1, hS1, RV_sJ hRV⟩ hl hc hs
  case aastore =>
    obtain rfl : len = 1 := by simpa [isSw, lenI] using hlen
    obtain ⟨a, x, v, r, rfl, ⟨n, hsh, hin⟩, hv, k⟩ := prir_inv hst
    have he := wd_get (cy := cy) (ad := ad) hsh
    rw [enS_arr _ _ _ _ (by omega)] at he
    unfold arc at he
    rw [if_neg (by omega), if_pos (by omega)] at he
    have hev := wd_get (cy := cy) (ad := ad) hv
    rw [show (108 : Nat) = 100 + 8 from rfl, enS_obj] at hev
    refine va_astq (r := (RX8, TX8, 9)) hx hb uK hP hD hSS a 4 v 8 he rfl hev rfl hin hd (fun H1 locs1 hP1 hD1 hS1 => ?_)
    rw [wd_sR_arr hsh] at hP1 hD1
    exact hK _ _ _ _ _ _ k ad _ H1 locs1 cells slots had hn0 hsm ⟨hP1, hD1, hS1, RV_sR hRV (List.getElem?_eq_some_iff.mp hv).1⟩ hl hc hs
  case arraylength =>
    obtain rfl : len = 1 := by simpa [isSw, lenI] using hlen
    obtain ⟨a, r, rfl, t, n, hsh, ht, k⟩ := pr_inv hst
    have he := wd_get (cy := cy) (ad := ad) hsh
    rw [enS_arr _ _ _ _ (by omega)] at he
    exact va_alen hx hb uK hP a t he (tys_at cy ht) rfl hd (go k hl)
  case new n =>
    obtain rfl : len = 3 := by simpa [isSw, lenI] using hlen
    obtain ⟨h5, hbc, hbs, h1, hol, hos, k⟩ := hst
    obtain ⟨w1, w2, w3⟩ := hcf
    obtain ⟨C', T, N, ty, k1, k2, k3, k4, k5, k6, k7, k8⟩ := cls_ok h1
    subst k6; subst k7
    refine va_new (ci := r1) (C := wdN r1) (T := T) (N := nf r1) (fs := (List.range (nf r1)).map (fun k => dfv (fkd r1 k))) hx hb hts k2 ty k4 hown (hts _ w1) (hts _ w2) (hts _ w3) uK hP hD hSS hA k1 (fun j hj => ?_) (by omega) (by omega) hd (fun q H1 hP1 hD1 hS1 => ?_)
    · have hkd := k5 j hj
      unfold vp_V
      rw [List.getD_eq_getElem?_getD, rng_get _ hj]
      revert hkd
      generalize fkd r1 j = z
      intro hkd
      match z, hkd with
      | 0, hkd => rw [show ty j = .int from hkd]; rfl
      | 1, hkd => rw [show ty j = .long from hkd]; rfl
      | 2, hkd => have hrf : (ty j).isReference = true := hkd
                  cases hq : ty j <;> rw [hq] at hrf <;> first | rfl | cases hrf
      | 3, hkd => rw [show ty j = .boolean from hkd]; rfl
      | z + 4, hkd => exact False.elim hkd
    · have e := wd_nO (cy := cy) (ad := ad) (s := (100 + r1, nf r1)) hRV q
      have en : enN cy (100 + r1, nf r1) = .inr (r1, (List.range (nf r1)).map (fun k => dfv (fkd r1 k))) := by
        unfold enN
        rw [if_neg (by show ¬ 100 + r1 < 100; omega)]
        simp only [Nat.add_sub_cancel_left]
      rw [en] at e
      rw [← e] at hP1 hD1
      have hd' : ∀ j, j < h.1.length ∨ 1000000 ≤ j → a_up ad h.1.length q j = ad j := fun j hj => up_n (by omega)
      have := hK _ _ _ _ _ _ k (a_up ad h.1.length q) arr H1 locs (cells + 1) (slots + nf r1) ⟨fun j hj => by rw [hd' j (by omega)]; exact had.1 j hj, by have := had.2.1; omega, fun hz => by have := had.2.1; omega⟩ (by rw [nO_len]; omega) (by rw [nO_len]; omega) ⟨hP1, hD1, hS1, nO_RV hRV⟩ (by rw [cvl_ok hol hd']; exact hl) (by omega) (by omega)
      rw [List.map_cons, cvs_ok hos hd', show cv (a_up ad h.1.length q) (.ref h.1.length) = .ref q from congrArg Value.ref up_s] at this
      exact this
  case newarray at_ =>
    obtain rfl : len = 2 := by simpa [isSw, lenI] using hlen
    obtain ⟨x, r, rfl, h5, hx0, hx1, hbc, hbs, hol, hos, k⟩ := pi_inv hst
    obtain ⟨ht4, hty, hw⟩ := hcf
    refine va_newa (a0 := (x.toNatClampNeg, if r1 = 1 then .inr (.inl (fun _ => 0)) else .inl (fun _ => 0))) hx hb (hts _ hw) hty.symm uK hP hD hSS hA ?_ hx0 rfl ?_ (by omega) (by omega) hd (fun q cA H1 hK1 hP1 hD1 hS1 => ?_)
    · intro cA
      rcases (show r1 = 0 ∨ r1 = 1 ∨ r1 = 2 ∨ r1 = 3 by omega) with rfl | rfl | rfl | rfl <;> rfl
    · have : componentBytes (fty r1) ≤ 8 := by rcases (show r1 = 0 ∨ r1 = 1 ∨ r1 = 2 ∨ r1 = 3 by omega) with rfl | rfl | rfl | rfl <;> decide
      calc x.toNatClampNeg * componentBytes (fty r1) ≤ 100000 * 8 := Nat.mul_le_mul hx1 this
        _ ≤ 536870912 := by decide
    · have ec := cy_prim hK1 (t := r1) (by omega) rfl
      subst ec
      have e := wd_nO (cy := cy) (ad := ad) (s := (r1, x.toNatClampNeg)) hRV q
      have en : enN cy (r1, x.toNatClampNeg) = .inl (cy r1, x.toNatClampNeg, if r1 = 1 then .inr (.inl (fun _ => 0)) else .inl (fun _ => 0)) := by
        unfold enN
        rw [if_pos (by show r1 < 100; omega)]
        rcases (show r1 = 0 ∨ r1 = 1 ∨ r1 = 2 ∨ r1 = 3 by omega) with rfl | rfl | rfl | rfl <;> rfl
      rw [en] at e
      rw [← e] at hP1 hD1
      have hd' : ∀ j, j < h.1.length ∨ 1000000 ≤ j → a_up ad h.1.length q j = ad j := fun j hj => up_n (by omega)
      have := hK _ _ _ _ _ _ k (a_up ad h.1.length q) arr H1 locs (cells + 1) (slots + x.toNatClampNeg) ⟨fun j hj => by rw [hd' j (by omega)]; exact had.1 j hj, by have := had.2.1; omega, fun hz => by have := had.2.1; omega⟩ (by rw [nO_len]; omega) (by rw [nO_len]; omega) ⟨hP1, hD1, hS1, nO_RV hRV⟩ (by rw [cvl_ok hol hd']; exact hl) (by omega) (by omega)
      rw [List.map_cons, cvs_ok hos hd', show cv (a_up ad h.1.length q) (.ref h.1.length) = .ref q from congrArg Value.ref up_s] at this
      exact this
  case anewarray n =>
    obtain rfl : len = 3 := by simpa [isSw, lenI] using hlen
    obtain ⟨x, r, rfl, h5, hx0, hx1, hbc, hbs, hol, hos, k⟩ := pi_inv hst
    refine va_newq hx hb hown (hts _ hcf) uO uK hP hD hSS hA hx0 rfl (by omega) (by omega) (by omega) hd (fun q cA H1 hK1 hP1 hD1 hS1 => ?_)
    have ec := cy_prim hK1 (t := 4) (by omega) rfl
    subst ec
    have e := wd_nO (cy := cy) (ad := ad) (s := (4, x.toNatClampNeg)) hRV q
    have en : enN cy (4, x.toNatClampNeg) = .inl (cy 4, x.toNatClampNeg, .inr (.inr (.inr (.inr (fun _ => none))))) := rfl
    rw [en] at e
    rw [← e] at hP1 hD1
    have hd' : ∀ j, j < h.1.length ∨ 1000000 ≤ j → a_up ad h.1.length q j = ad j := fun j hj => up_n (by omega)
    have := hK _ _ _ _ _ _ k (a_up ad h.1.length q) arr H1 locs (cells + 1) (slots + x.toNatClampNeg) ⟨fun j hj => by rw [hd' j (by omega)]; exact had.1 j hj, by have := had.2.1; omega, fun hz => by have := had.2.1; omega⟩ (by rw [nO_len]; omega) (by rw [nO_len]; omega) ⟨hP1, hD1, hS1, nO_RV hRV⟩ (by rw [cvl_ok hol hd']; exact hl) (by omega) (by omega)
    rw [List.map_cons, cvs_ok hos hd', show cv (a_up ad h.1.length q) (.ref h.1.length) = .ref q from congrArg Value.ref up_s] at this
    exact this
  case multianewarray n d =>
    obtain rfl : len = 4 := by simpa [isSw, lenI] using hlen
    obtain ⟨x, y, r, rfl, h5, hx0, hy0, hx1, hy1, hbc, hbs, hol, hos, k⟩ := pii_inv hst
    obtain ⟨rfl, h56, hw1, hw2⟩ := hcf
    have hX : wd cy ad h ++ va_pl [] (fun _ => (.inr (0, []) : va_E)) = wd cy ad h := List.append_nil _
    have hcyn : s.vm.findClass (FieldType.array (fty (r1 - 5))).toString = some (cy (r1 - 5)) := by
      have h9 := (uK.2 (r1 - 5) _ (tys_at cy (by omega))).2
      rcases h56 with rfl | rfl <;> exact h9
    have hAO : va_AOA (fty (r1 - 5)) s := by rcases h56 with rfl | rfl; exact uA1; exact uA2
    have hcb : componentBytes (fty (r1 - 5)) ≤ 8 := by rcases h56 with rfl | rfl <;> decide
    refine va_mna (X := wd cy ad h) (L := []) (f := fun _ => (.inr (0, []) : va_E)) (ty := fty (r1 - 5)) (z := (y.toNatClampNeg, if r1 - 5 = 1 then .inr (.inl (fun _ => 0)) else .inl (fun _ => 0))) hx hb hown (hts _ hw1) hAO (hts _ hw2) hcyn uK (by rw [hX]; exact hP) (by rw [hX]; exact hD) hSS hA hx0 hy0 rfl rfl (by omega) ?_ (by omega) ?_ ?_ (by omega) (by omega) ?_ hd (fun q rr cA H1 hinj hnl hK1 hP1 hD1 hS1 => ?_)
    · calc y.toNatClampNeg * componentBytes (fty (r1 - 5)) ≤ 1000 * 8 := Nat.mul_le_mul hy1 hcb
        _ ≤ 536870912 := by decide
    · rcases h56 with rfl | rfl <;> rfl
    · rcases h56 with rfl | rfl <;> decide
    · intro c9
      rcases h56 with rfl | rfl
      · exact arrV_new c9 y.toNatClampNeg (.int 0)
      · exact arrV_new c9 y.toNatClampNeg (.long 0)
    · have ec := cy_prim hK1 (t := r1) (by omega) (by rcases h56 with rfl | rfl <;> rfl)
      subst ec
      have epl : va_pl ([] ++ (List.range x.toNatClampNeg).map rr) (vr_up (fun _ => (.inr (0, []) : va_E)) ((List.range x.toNatClampNeg).map rr) (.inl (cy (r1 - 5), y.toNatClampNeg, if r1 - 5 = 1 then .inr (.inl (fun _ => 0)) else .inl (fun _ => 0)))) = (List.range x.toNatClampNeg).map (fun i => (rr i, enN cy (r1 - 5, y.toNatClampNeg))) := by
        unfold va_pl
        rw [List.nil_append, List.map_map]
        apply List.map_congr_left
        intro i hi
        have hm : rr i ∈ (List.range x.toNatClampNeg).map rr := List.mem_map.mpr ⟨i, hi, rfl⟩
        show (rr i, vr_up _ _ _ (rr i)) = _
        rw [vr_up_in hm]
        congr 1
        rcases h56 with rfl | rfl <;> simp [enN]
      have e := wd_nM (cy := cy) (ad := ad) (t0 := r1) (t1 := r1 - 5) (n := x.toNatClampNeg) (k := y.toNatClampNeg) hRV (by omega) (by omega) q rr (by omega)
      rw [epl, ← e] at hP1 hD1
      have hd' : ∀ j, j < h.1.length ∨ 1000000 ≤ j → nMad ad h.1.length q rr j = ad j := fun j hj => by unfold nMad; rw [if_pos hj]
      have := hK _ _ _ _ _ _ k (nMad ad h.1.length q rr) arr H1 locs (cells + 1 + x.toNatClampNeg) (slots + x.toNatClampNeg + x.toNatClampNeg * y.toNatClampNeg) ⟨fun j hj => by rw [hd' j (by omega)]; exact had.1 j hj, by have := had.2.1; omega, fun hz => by have := had.2.1; omega⟩ (by rw [nM_len]; omega) (by rw [nM_len]; omega) ⟨hP1, hD1, hS1, nM_RV hRV⟩ (by rw [cvl_ok hol hd']; exact hl) (by omega) (by omega)
      rw [List.map_cons, cvs_ok hos hd', show cv (nMad ad h.1.length q rr) (.ref h.1.length) = .ref q from congrArg Value.ref (by unfold nMad; rw [if_neg (by omega), if_pos rfl])] at this
      exact this
  all_goals first | exact False.elim hst | exact absurd hpl (by decide) | exact absurd hni (by decide) | exact absurd hpl Bool.noConfusion | exact absurd hni Bool.noConfusion
end SND2
end
section
/-! THE CODE OF EVERY METHOD, row by row, with what each pool entry means; the table of methods -/
def acX0_init : AC := [(0, .aload_n 0, 0, 0, 0), (1, .invokespecial 3, 0, 14, 0), (4, .aload_n 0, 0, 0, 0), (5, .bipush 30, 0, 0, 0), (7, .newarray .int, 0, 0, 0), (9, .putfield 9, 0, 0, 2), (12, .aload_n 0, 0, 0, 0), (13, .bipush 31, 0, 0, 0), (15, .newarray .int, 0, 0, 0), (17, .putfield 15, 0, 1, 2), (20, .aload_n 0, 0, 0, 0), (21, .bipush 31, 0, 0, 0), (23, .newarray .int, 0, 0, 0), (25, .putfield 18, 0, 2, 2), (28, .aload_n 0, 0, 0, 0), (29, .bipush 30, 0, 0, 0), (31, .newarray .int, 0, 0, 0), (33, .putfield 21, 0, 3, 2), (36, .aload_n 0, 0, 0, 0), (37, .bipush 9, 0, 0, 0), (39, .newarray .int, 0, 0, 0), (41, .putfield 24, 0, 4, 2), (44, .return_, 0, 0, 0)]
def acX0_isOvertaken : AC := [(0, .iload_n 1, 0, 0, 0), (1, .iconst 1, 0, 0, 0), (2, .iadd, 0, 0, 0), (3, .istore_n 3, 0, 0, 0), (4, .iload_n 3, 0, 0, 0), (5, .iload_n 2, 0, 0, 0), (6, .if_icmp .ge 26, 0, 0, 0), (9, .aload_n 0, 0, 0, 0), (10, .getfield 9, 0, 0, 2), (13, .iload_n 3, 0, 0, 0), (14, .iaload, 0, 0, 0), (15, .aload_n 0, 0, 0, 0), (16, .getfield 9, 0, 0, 2), (19, .iload_n 1, 0, 0, 0), (20, .iaload, 0, 0, 0), (21, .if_icmp .ge 5, 0, 0, 0), (24, .iconst 1, 0, 0, 0), (25, .ireturn, 0, 0, 0), (26, .iinc 3 1, 0, 0, 0), (29, .goto (-25), 0, 0, 0), (32, .iconst 0, 0, 0, 0), (33, .ireturn, 0, 0, 0)]
def acX0_reach : AC := [(0, .aload_n 0, 0, 0, 0), (1, .getfield 18, 0, 2, 2), (4, .iconst 0, 0, 0, 0), (5, .iconst 1, 0, 0, 0), (6, .aload_n 1, 0, 0, 0), (7, .getfield 27, 8, 1, 0), (10, .ishl, 0, 0, 0), (11, .iastore, 0, 0, 0), (12, .iconst 0, 0, 0, 0), (13, .istore 5, 0, 0, 0), (15, .iconst 1, 0, 0, 0), (16, .istore 6, 0, 0, 0), (18, .iload 6, 0, 0, 0), (20, .iload_n 3, 0, 0, 0), (21, .if_icmp .gt 143, 0, 0, 0), (24, .aload_n 0, 0, 0, 0), (25, .getfield 18, 0, 2, 2), (28, .iload 6, 0, 0, 0), (30, .iconst 1, 0, 0, 0), (31, .isub, 0, 0, 0), (32, .iaload, 0, 0, 0), (33, .istore 7, 0, 0, 0), (35, .iload 5, 0, 0, 0), (37, .aload_n 1, 0, 0, 0), (38, .getfield 33, 8, 4, 0), (41, .if_icmp .ge 40, 0, 0, 0), (44, .aload_n 1, 0, 0, 0), (45, .getfield 36, 8, 5, 2), (48, .iload 5, 0, 0, 0), (50, .iaload, 0, 0, 0), (51, .aload_n 1, 0, 0, 0), (52, .getfield 39, 8, 0, 0), (55, .isub, 0, 0, 0), (56, .iload 6, 0, 0, 0), (58, .if_icmp .gt 23, 0, 0, 0), (61, .iload 7, 0, 0, 0), (63, .aload_n 1, 0, 0, 0), (64, .getfield 42, 8, 6, 2), (67, .iload 5, 0, 0, 0), (69, .iaload, 0, 0, 0), (70, .invokestatic 45, 3, 1, 2), (73, .istore 7, 0, 0, 0), (75, .iinc 5 1, 0, 0, 0), (78, .goto (-43), 0, 0, 0), (81, .iload_n 2, 0, 0, 0), (82, .iload 6, 0, 0, 0), (84, .bipush 12, 0, 0, 0), (86, .isub, 0, 0, 0), (87, .invokestatic 49, 0, 10, 0), (90, .istore 8, 0, 0, 0), (92, .iload 8, 0, 0, 0), (94, .iload 6, 0, 0, 0), (96, .if_icmp .ge 33, 0, 0, 0), (99, .aload_n 0, 0, 0, 0), (100, .getfield 9, 0, 0, 2), (103, .iload 8, 0, 0, 0), (105, .iaload, 0, 0, 0), (106, .iload 6, 0, 0, 0), (108, .if_icmp .ne 11, 0, 0, 0), (111, .iload 7, 0, 0, 0), (113, .invokestatic 54, 127, 3, 1), (116, .goto 5, 0, 0, 0), (119, .iload 7, 0, 0, 0), (121, .istore 7, 0, 0, 0), (123, .iinc 8 1, 0, 0, 0), (126, .goto (-34), 0, 0, 0), (129, .aload_n 0, 0, 0, 0), (130, .getfield 18, 0, 2, 2), (133, .iload 6, 0, 0, 0), (135, .iload 4, 0, 0, 0), (137, .ifCond .eq 18, 0, 0, 0), (140, .iload 7, 0, 0, 0), (142, .aload_n 0, 0, 0, 0), (143, .getfield 15, 0, 1, 2), (146, .iload 6, 0, 0, 0), (148, .iaload, 0, 0, 0), (149, .iconst (-1), 0, 0, 0), (150, .ixor, 0, 0, 0), (151, .iand, 0, 0, 0), (152, .goto 5, 0, 0, 0), (155, .iload 7, 0, 0, 0), (157, .iastore, 0, 0, 0), (158, .iinc 6 1, 0, 0, 0), (161, .goto (-143), 0, 0, 0), (164, .return_, 0, 0, 0)]
def acX0_moved : AC := [(0, .iload_n 1, 0, 0, 0), (1, .ifCond .ne 5, 0, 0, 0), (4, .iload_n 0, 0, 0, 0), (5, .ireturn, 0, 0, 0), (6, .iload_n 1, 0, 0, 0), (7, .ifCond .le 19, 0, 0, 0), (10, .iload_n 0, 0, 0, 0), (11, .iconst 1, 0, 0, 0), (12, .ishl, 0, 0, 0), (13, .iload_n 0, 0, 0, 0), (14, .sipush 256, 0, 0, 0), (17, .iand, 0, 0, 0), (18, .ior, 0, 0, 0), (19, .sipush 511, 0, 0, 0), (22, .iand, 0, 0, 0), (23, .goto 10, 0, 0, 0), (26, .iload_n 0, 0, 0, 0), (27, .iconst 1, 0, 0, 0), (28, .ishr, 0, 0, 0), (29, .iload_n 0, 0, 0, 0), (30, .iconst 1, 0, 0, 0), (31, .iand, 0, 0, 0), (32, .ior, 0, 0, 0), (33, .ireturn, 0, 0, 0)]
def acX0_freeOrders : AC := [(0, .iconst 0, 0, 0, 0), (1, .istore_n 3, 0, 0, 0), (2, .iload_n 3, 0, 0, 0), (3, .iload_n 2, 0, 0, 0), (4, .if_icmp .ge 35, 0, 0, 0), (7, .aload_n 0, 0, 0, 0), (8, .getfield 21, 0, 3, 2), (11, .iload_n 3, 0, 0, 0), (12, .iload_n 3, 0, 0, 0), (13, .iload_n 1, 0, 0, 0), (14, .if_icmp .lt 17, 0, 0, 0), (17, .aload_n 0, 0, 0, 0), (18, .getfield 9, 0, 0, 2), (21, .iload_n 3, 0, 0, 0), (22, .iaload, 0, 0, 0), (23, .iload_n 2, 0, 0, 0), (24, .if_icmp .gt 7, 0, 0, 0), (27, .iconst 2, 0, 0, 0), (28, .goto 4, 0, 0, 0), (31, .iconst 0, 0, 0, 0), (32, .iastore, 0, 0, 0), (33, .iinc 3 1, 0, 0, 0), (36, .goto (-34), 0, 0, 0), (39, .return_, 0, 0, 0)]
def acX0_fewestOrders : AC := [(0, .aload_n 0, 0, 0, 0), (1, .getfield 24, 0, 4, 2), (4, .sipush 1000, 0, 0, 0), (7, .invokestatic 58, 255, 1, 2), (10, .aload_n 0, 0, 0, 0), (11, .getfield 24, 0, 4, 2), (14, .aload_n 1, 0, 0, 0), (15, .getfield 27, 8, 1, 0), (18, .iconst 0, 0, 0, 0), (19, .iastore, 0, 0, 0), (20, .iconst 0, 0, 0, 0), (21, .istore_n 3, 0, 0, 0), (22, .iconst 1, 0, 0, 0), (23, .istore 4, 0, 0, 0), (25, .iload 4, 0, 0, 0), (27, .iload_n 2, 0, 0, 0), (28, .if_icmp .gt 148, 0, 0, 0), (31, .iload_n 3, 0, 0, 0), (32, .aload_n 1, 0, 0, 0), (33, .getfield 33, 8, 4, 0), (36, .if_icmp .ge 35, 0, 0, 0), (39, .aload_n 1, 0, 0, 0), (40, .getfield 36, 8, 5, 2), (43, .iload_n 3, 0, 0, 0), (44, .iaload, 0, 0, 0), (45, .aload_n 1, 0, 0, 0), (46, .getfield 39, 8, 0, 0), (49, .isub, 0, 0, 0), (50, .iload 4, 0, 0, 0), (52, .if_icmp .gt 19, 0, 0, 0), (55, .aload_n 0, 0, 0, 0), (56, .aload_n 1, 0, 0, 0), (57, .getfield 42, 8, 6, 2), (60, .iload_n 3, 0, 0, 0), (61, .iaload, 0, 0, 0), (62, .invokevirtual 64, 7, 0, 2), (65, .iinc 3 1, 0, 0, 0), (68, .goto (-37), 0, 0, 0), (71, .iconst 0, 0, 0, 0), (72, .iload 4, 0, 0, 0), (74, .bipush 12, 0, 0, 0), (76, .isub, 0, 0, 0), (77, .invokestatic 49, 0, 10, 0), (80, .istore 5, 0, 0, 0), (82, .iload 5, 0, 0, 0), (84, .iload 4, 0, 0, 0), (86, .if_icmp .ge 32, 0, 0, 0), (89, .aload_n 0, 0, 0, 0), (90, .getfield 9, 0, 0, 2), (93, .iload 5, 0, 0, 0), (95, .iaload, 0, 0, 0), (96, .iload 4, 0, 0, 0), (98, .if_icmp .ne 14, 0, 0, 0), (101, .aload_n 0, 0, 0, 0), (102, .aload_n 0, 0, 0, 0), (103, .getfield 21, 0, 3, 2), (106, .iload 5, 0, 0, 0), (108, .iaload, 0, 0, 0), (109, .invokevirtual 68, 6, 0, 2), (112, .iinc 5 1, 0, 0, 0), (115, .goto (-33), 0, 0, 0), (118, .iconst 0, 0, 0, 0), (119, .istore 5, 0, 0, 0), (121, .iload 5, 0, 0, 0), (123, .bipush 8, 0, 0, 0), (125, .if_icmp .gt 45, 0, 0, 0), (128, .aload_n 0, 0, 0, 0), (129, .getfield 24, 0, 4, 2), (132, .iload 5, 0, 0, 0), (134, .aload_n 0, 0, 0, 0), (135, .getfield 15, 0, 1, 2), (138, .iload 4, 0, 0, 0), (140, .iaload, 0, 0, 0), (141, .iload 5, 0, 0, 0), (143, .ishr, 0, 0, 0), (144, .iconst 1, 0, 0, 0), (145, .iand, 0, 0, 0), (146, .iconst 1, 0, 0, 0), (147, .if_icmp .ne 9, 0, 0, 0), (150, .sipush 1000, 0, 0, 0), (153, .goto 10, 0, 0, 0), (156, .aload_n 0, 0, 0, 0), (157, .getfield 24, 0, 4, 2), (160, .iload 5, 0, 0, 0), (162, .iaload, 0, 0, 0), (163, .iastore, 0, 0, 0), (164, .iinc 5 1, 0, 0, 0), (167, .goto (-46), 0, 0, 0), (170, .iinc 4 1, 0, 0, 0), (173, .goto (-148), 0, 0, 0), (176, .sipush 1000, 0, 0, 0), (179, .istore 4, 0, 0, 0), (181, .iconst 0, 0, 0, 0), (182, .istore 5, 0, 0, 0), (184, .iload 5, 0, 0, 0), (186, .bipush 8, 0, 0, 0), (188, .if_icmp .gt 23, 0, 0, 0), (191, .iload 4, 0, 0, 0), (193, .aload_n 0, 0, 0, 0), (194, .getfield 24, 0, 4, 2), (197, .iload 5, 0, 0, 0), (199, .iaload, 0, 0, 0), (200, .invokestatic 71, 0, 11, 0), (203, .istore 4, 0, 0, 0), (205, .iinc 5 1, 0, 0, 0), (208, .goto (-24), 0, 0, 0), (211, .iload 4, 0, 0, 0), (213, .ireturn, 0, 0, 0)]
def acX0_doChosen : AC := [(0, .iload_n 1, 0, 0, 0), (1, .iconst 2, 0, 0, 0), (2, .if_icmp .ne 76, 0, 0, 0), (5, .sipush 1000, 0, 0, 0), (8, .istore_n 2, 0, 0, 0), (9, .iconst 0, 0, 0, 0), (10, .istore_n 3, 0, 0, 0), (11, .iload_n 3, 0, 0, 0), (12, .bipush 8, 0, 0, 0), (14, .if_icmp .gt 61, 0, 0, 0), (17, .aload_n 0, 0, 0, 0), (18, .getfield 24, 0, 4, 2), (21, .iload_n 3, 0, 0, 0), (22, .iaload, 0, 0, 0), (23, .istore 4, 0, 0, 0), (25, .iload_n 3, 0, 0, 0), (26, .bipush 8, 0, 0, 0), (28, .if_icmp .ge 14, 0, 0, 0), (31, .aload_n 0, 0, 0, 0), (32, .getfield 24, 0, 4, 2), (35, .iload_n 3, 0, 0, 0), (36, .iconst 1, 0, 0, 0), (37, .iadd, 0, 0, 0), (38, .iaload, 0, 0, 0), (39, .goto 6, 0, 0, 0), (42, .sipush 1000, 0, 0, 0), (45, .istore 5, 0, 0, 0), (47, .aload_n 0, 0, 0, 0), (48, .getfield 24, 0, 4, 2), (51, .iload_n 3, 0, 0, 0), (52, .iload 4, 0, 0, 0), (54, .iconst 1, 0, 0, 0), (55, .iload_n 2, 0, 0, 0), (56, .iload 5, 0, 0, 0), (58, .invokestatic 71, 0, 11, 0), (61, .iadd, 0, 0, 0), (62, .invokestatic 71, 0, 11, 0), (65, .iastore, 0, 0, 0), (66, .iload 4, 0, 0, 0), (68, .istore_n 2, 0, 0, 0), (69, .iinc 3 1, 0, 0, 0), (72, .goto (-61), 0, 0, 0), (75, .goto 48, 0, 0, 0), (78, .iload_n 1, 0, 0, 0), (79, .ifCond .eq 44, 0, 0, 0), (82, .aload_n 0, 0, 0, 0), (83, .aload_n 0, 0, 0, 0), (84, .getfield 74, 0, 5, 3), (87, .ifCond .eq 8, 0, 0, 0), (90, .iload_n 1, 0, 0, 0), (91, .ineg, 0, 0, 0), (92, .goto 4, 0, 0, 0), (95, .iload_n 1, 0, 0, 0), (96, .invokevirtual 64, 7, 0, 2), (99, .iconst 0, 0, 0, 0), (100, .istore_n 2, 0, 0, 0), (101, .iload_n 2, 0, 0, 0), (102, .bipush 8, 0, 0, 0), (104, .if_icmp .gt 19, 0, 0, 0), (107, .aload_n 0, 0, 0, 0), (108, .getfield 24, 0, 4, 2), (111, .iload_n 2, 0, 0, 0), (112, .dup2, 0, 0, 0), (113, .iaload, 0, 0, 0), (114, .iconst 1, 0, 0, 0), (115, .iadd, 0, 0, 0), (116, .iastore, 0, 0, 0), (117, .iinc 2 1, 0, 0, 0), (120, .goto (-19), 0, 0, 0), (123, .return_, 0, 0, 0)]
def acX0_moveCosts : AC := [(0, .iload_n 1, 0, 0, 0), (1, .ifCond .le 54, 0, 0, 0), (4, .aload_n 0, 0, 0, 0), (5, .getfield 24, 0, 4, 2), (8, .bipush 8, 0, 0, 0), (10, .aload_n 0, 0, 0, 0), (11, .getfield 24, 0, 4, 2), (14, .bipush 8, 0, 0, 0), (16, .iaload, 0, 0, 0), (17, .aload_n 0, 0, 0, 0), (18, .getfield 24, 0, 4, 2), (21, .bipush 7, 0, 0, 0), (23, .iaload, 0, 0, 0), (24, .invokestatic 71, 0, 11, 0), (27, .iastore, 0, 0, 0), (28, .aload_n 0, 0, 0, 0), (29, .getfield 24, 0, 4, 2), (32, .iconst 0, 0, 0, 0), (33, .aload_n 0, 0, 0, 0), (34, .getfield 24, 0, 4, 2), (37, .iconst 1, 0, 0, 0), (38, .bipush 7, 0, 0, 0), (40, .invokestatic 78, 0, 13, 0), (43, .aload_n 0, 0, 0, 0), (44, .getfield 24, 0, 4, 2), (47, .iconst 0, 0, 0, 0), (48, .sipush 1000, 0, 0, 0), (51, .iastore, 0, 0, 0), (52, .goto 53, 0, 0, 0), (55, .iload_n 1, 0, 0, 0), (56, .ifCond .ge 49, 0, 0, 0), (59, .aload_n 0, 0, 0, 0), (60, .getfield 24, 0, 4, 2), (63, .iconst 0, 0, 0, 0), (64, .aload_n 0, 0, 0, 0), (65, .getfield 24, 0, 4, 2), (68, .iconst 0, 0, 0, 0), (69, .iaload, 0, 0, 0), (70, .aload_n 0, 0, 0, 0), (71, .getfield 24, 0, 4, 2), (74, .iconst 1, 0, 0, 0), (75, .iaload, 0, 0, 0), (76, .invokestatic 71, 0, 11, 0), (79, .iastore, 0, 0, 0), (80, .aload_n 0, 0, 0, 0), (81, .getfield 24, 0, 4, 2), (84, .iconst 2, 0, 0, 0), (85, .aload_n 0, 0, 0, 0), (86, .getfield 24, 0, 4, 2), (89, .iconst 1, 0, 0, 0), (90, .bipush 7, 0, 0, 0), (92, .invokestatic 78, 0, 13, 0), (95, .aload_n 0, 0, 0, 0), (96, .getfield 24, 0, 4, 2), (99, .bipush 8, 0, 0, 0), (101, .sipush 1000, 0, 0, 0), (104, .iastore, 0, 0, 0), (105, .return_, 0, 0, 0)]
def acX0_chooseLeastRow : AC := [(0, .iconst 0, 0, 0, 0), (1, .istore 4, 0, 0, 0), (3, .iconst 0, 0, 0, 0), (4, .istore 5, 0, 0, 0), (6, .iload 5, 0, 0, 0), (8, .iload_n 2, 0, 0, 0), (9, .if_icmp .ge 66, 0, 0, 0), (12, .aload_n 0, 0, 0, 0), (13, .getfield 21, 0, 3, 2), (16, .iload 5, 0, 0, 0), (18, .iaload, 0, 0, 0), (19, .iconst 2, 0, 0, 0), (20, .if_icmp .ne 49, 0, 0, 0), (23, .aload_n 0, 0, 0, 0), (24, .getfield 21, 0, 3, 2), (27, .iload 5, 0, 0, 0), (29, .iload 4, 0, 0, 0), (31, .iload_n 3, 0, 0, 0), (32, .if_icmp .ne 7, 0, 0, 0), (35, .iconst 0, 0, 0, 0), (36, .goto 12, 0, 0, 0), (39, .aload_n 0, 0, 0, 0), (40, .aload_n 1, 0, 0, 0), (41, .iload 5, 0, 0, 0), (43, .iload_n 2, 0, 0, 0), (44, .iload_n 3, 0, 0, 0), (45, .invokevirtual 84, 9, 0, 5), (48, .iastore, 0, 0, 0), (49, .iload 4, 0, 0, 0), (51, .aload_n 0, 0, 0, 0), (52, .getfield 21, 0, 3, 2), (55, .iload 5, 0, 0, 0), (57, .iaload, 0, 0, 0), (58, .ifCond .ne 7, 0, 0, 0), (61, .iconst 0, 0, 0, 0), (62, .goto 4, 0, 0, 0), (65, .iconst 1, 0, 0, 0), (66, .iadd, 0, 0, 0), (67, .istore 4, 0, 0, 0), (69, .iinc 5 1, 0, 0, 0), (72, .goto (-66), 0, 0, 0), (75, .return_, 0, 0, 0)]
def acX0_leastChoice : AC := [(0, .iconst (-1), 0, 0, 0), (1, .istore 5, 0, 0, 0), (3, .iload 5, 0, 0, 0), (5, .ifCond .gt 31, 0, 0, 0), (8, .aload_n 0, 0, 0, 0), (9, .getfield 21, 0, 3, 2), (12, .iload_n 2, 0, 0, 0), (13, .iload 5, 0, 0, 0), (15, .iastore, 0, 0, 0), (16, .aload_n 0, 0, 0, 0), (17, .aload_n 1, 0, 0, 0), (18, .iload_n 3, 0, 0, 0), (19, .invokevirtual 88, 5, 0, 3), (22, .iload 4, 0, 0, 0), (24, .if_icmp .ne 6, 0, 0, 0), (27, .iload 5, 0, 0, 0), (29, .ireturn, 0, 0, 0), (30, .iinc 5 1, 0, 0, 0), (33, .goto (-30), 0, 0, 0), (36, .iconst 1, 0, 0, 0), (37, .ireturn, 0, 0, 0)]
def acX1_init : AC := [(0, .aload_n 0, 0, 0, 0), (1, .invokespecial 3, 0, 14, 0), (4, .aload_n 0, 0, 0, 0), (5, .bipush 15, 0, 0, 0), (7, .anewarray 9, 4, 0, 0), (10, .putfield 11, 1, 0, 2), (13, .aload_n 0, 0, 0, 0), (14, .iconst 3, 0, 0, 0), (15, .anewarray 9, 4, 0, 0), (18, .putfield 17, 1, 3, 2), (21, .aload_n 0, 0, 0, 0), (22, .iconst 3, 0, 0, 0), (23, .newarray .boolean, 3, 0, 0), (25, .putfield 20, 1, 4, 2), (28, .iconst 0, 0, 0, 0), (29, .istore_n 1, 0, 0, 0), (30, .iload_n 1, 0, 0, 0), (31, .bipush 15, 0, 0, 0), (33, .if_icmp .ge 22, 0, 0, 0), (36, .aload_n 0, 0, 0, 0), (37, .getfield 11, 1, 0, 2), (40, .iload_n 1, 0, 0, 0), (41, .new 9, 8, 0, 0), (44, .dup, 0, 0, 0), (45, .invokespecial 24, 46, 4, 1), (48, .aastore, 0, 0, 0), (49, .iinc 1 1, 0, 0, 0), (52, .goto (-22), 0, 0, 0), (55, .iconst 0, 0, 0, 0), (56, .istore_n 1, 0, 0, 0), (57, .iload_n 1, 0, 0, 0), (58, .iconst 3, 0, 0, 0), (59, .if_icmp .ge 22, 0, 0, 0), (62, .aload_n 0, 0, 0, 0), (63, .getfield 17, 1, 3, 2), (66, .iload_n 1, 0, 0, 0), (67, .new 9, 8, 0, 0), (70, .dup, 0, 0, 0), (71, .invokespecial 24, 46, 4, 1), (74, .aastore, 0, 0, 0), (75, .iinc 1 1, 0, 0, 0), (78, .goto (-21), 0, 0, 0), (81, .return_, 0, 0, 0)]
def acX1_remember : AC := [(0, .aload_n 0, 0, 0, 0), (1, .getfield 11, 1, 0, 2), (4, .aload_n 0, 0, 0, 0), (5, .getfield 25, 1, 1, 0), (8, .aload_n 0, 0, 0, 0), (9, .getfield 29, 1, 2, 0), (12, .iadd, 0, 0, 0), (13, .bipush 15, 0, 0, 0), (15, .irem, 0, 0, 0), (16, .aaload, 0, 0, 0), (17, .aload_n 1, 0, 0, 0), (18, .invokevirtual 32, 47, 0, 802), (21, .aload_n 0, 0, 0, 0), (22, .getfield 29, 1, 2, 0), (25, .bipush 15, 0, 0, 0), (27, .if_icmp .ge 16, 0, 0, 0), (30, .aload_n 0, 0, 0, 0), (31, .dup, 0, 0, 0), (32, .getfield 29, 1, 2, 0), (35, .iconst 1, 0, 0, 0), (36, .iadd, 0, 0, 0), (37, .putfield 29, 1, 2, 0), (40, .goto 16, 0, 0, 0), (43, .aload_n 0, 0, 0, 0), (44, .aload_n 0, 0, 0, 0), (45, .getfield 25, 1, 1, 0), (48, .iconst 1, 0, 0, 0), (49, .iadd, 0, 0, 0), (50, .bipush 15, 0, 0, 0), (52, .irem, 0, 0, 0), (53, .putfield 25, 1, 1, 0), (56, .return_, 0, 0, 0)]
def acX1_bringBack : AC := [(0, .aload_n 0, 0, 0, 0), (1, .getfield 29, 1, 2, 0), (4, .ifCond .gt 5, 0, 0, 0), (7, .iconst 0, 0, 0, 0), (8, .ireturn, 0, 0, 0), (9, .aload_n 0, 0, 0, 0), (10, .dup, 0, 0, 0), (11, .getfield 29, 1, 2, 0), (14, .iconst 1, 0, 0, 0), (15, .isub, 0, 0, 0), (16, .putfield 29, 1, 2, 0), (19, .aload_n 1, 0, 0, 0), (20, .aload_n 0, 0, 0, 0), (21, .getfield 11, 1, 0, 2), (24, .aload_n 0, 0, 0, 0), (25, .getfield 25, 1, 1, 0), (28, .aload_n 0, 0, 0, 0), (29, .getfield 29, 1, 2, 0), (32, .iadd, 0, 0, 0), (33, .bipush 15, 0, 0, 0), (35, .irem, 0, 0, 0), (36, .aaload, 0, 0, 0), (37, .invokevirtual 32, 47, 0, 802), (40, .iconst 1, 0, 0, 0), (41, .ireturn, 0, 0, 0)]
def acX1_forgetAll : AC := [(0, .aload_n 0, 0, 0, 0), (1, .iconst 0, 0, 0, 0), (2, .putfield 29, 1, 2, 0), (5, .iconst 0, 0, 0, 0), (6, .istore_n 1, 0, 0, 0), (7, .iload_n 1, 0, 0, 0), (8, .iconst 3, 0, 0, 0), (9, .if_icmp .ge 16, 0, 0, 0), (12, .aload_n 0, 0, 0, 0), (13, .getfield 20, 1, 4, 2), (16, .iload_n 1, 0, 0, 0), (17, .iconst 0, 0, 0, 0), (18, .bastore, 0, 0, 0), (19, .iinc 1 1, 0, 0, 0), (22, .goto (-15), 0, 0, 0), (25, .return_, 0, 0, 0)]
def acX2_init : AC := [(0, .aload_n 0, 0, 0, 0), (1, .invokespecial 3, 0, 14, 0), (4, .aload_n 0, 0, 0, 0), (5, .bipush 16, 0, 0, 0), (7, .newarray .int, 0, 0, 0), (9, .putfield 9, 2, 1, 2), (12, .aload_n 0, 0, 0, 0), (13, .bipush 16, 0, 0, 0), (15, .newarray .int, 0, 0, 0), (17, .putfield 15, 2, 2, 2), (20, .return_, 0, 0, 0)]
def acX2_readFrom : AC := [(0, .aload_n 0, 0, 0, 0), (1, .getfield 18, 2, 0, 0), (4, .istore_n 2, 0, 0, 0), (5, .iconst 0, 0, 0, 0), (6, .istore_n 3, 0, 0, 0), (7, .iload_n 3, 0, 0, 0), (8, .bipush 16, 0, 0, 0), (10, .if_icmp .gt 145, 0, 0, 0), (13, .iload_n 2, 0, 0, 0), (14, .bipush 16, 0, 0, 0), (16, .if_icmp .lt 8, 0, 0, 0), (19, .aload_n 1, 0, 0, 0), (20, .getfield 22, 9, 2, 0), (23, .ireturn, 0, 0, 0), (24, .aload_n 1, 0, 0, 0), (25, .iconst 3, 0, 0, 0), (26, .invokevirtual 27, 59, 0, 902), (29, .istore 4, 0, 0, 0), (31, .iload 4, 0, 0, 0), (33, .ifCond .ne 17, 0, 0, 0), (36, .aload_n 1, 0, 0, 0), (37, .getfield 31, 9, 5, 3), (40, .ifCond .ne 10, 0, 0, 0), (43, .aload_n 1, 0, 0, 0), (44, .getfield 22, 9, 2, 0), (47, .iconst 1, 0, 0, 0), (48, .isub, 0, 0, 0), (49, .ireturn, 0, 0, 0), (50, .iload 4, 0, 0, 0), (52, .iconst (-1), 0, 0, 0), (53, .if_icmp .eq 12, 0, 0, 0), (56, .aload_n 1, 0, 0, 0), (57, .bipush 44, 0, 0, 0), (59, .invokevirtual 35, 58, 0, 902), (62, .ifCond .ne 8, 0, 0, 0), (65, .aload_n 1, 0, 0, 0), (66, .getfield 22, 9, 2, 0), (69, .ireturn, 0, 0, 0), (70, .aload_n 1, 0, 0, 0), (71, .invokevirtual 39, 57, 0, 901), (74, .bipush 48, 0, 0, 0), (76, .isub, 0, 0, 0), (77, .istore 5, 0, 0, 0), (79, .iload 5, 0, 0, 0), (81, .ifCond .lt 10, 0, 0, 0), (84, .iload 5, 0, 0, 0), (86, .bipush 8, 0, 0, 0), (88, .if_icmp .le 8, 0, 0, 0), (91, .aload_n 1, 0, 0, 0), (92, .getfield 22, 9, 2, 0), (95, .ireturn, 0, 0, 0), (96, .aload_n 1, 0, 0, 0), (97, .dup, 0, 0, 0), (98, .getfield 22, 9, 2, 0), (101, .iconst 1, 0, 0, 0), (102, .iadd, 0, 0, 0), (103, .putfield 22, 9, 2, 0), (106, .aload_n 0, 0, 0, 0), (107, .getfield 9, 2, 1, 2), (110, .iload_n 2, 0, 0, 0), (111, .iload 4, 0, 0, 0), (113, .iastore, 0, 0, 0), (114, .aload_n 0, 0, 0, 0), (115, .getfield 15, 2, 2, 2), (118, .iload_n 2, 0, 0, 0), (119, .iload 5, 0, 0, 0), (121, .iastore, 0, 0, 0), (122, .iinc 2 1, 0, 0, 0), (125, .aload_n 1, 0, 0, 0), (126, .invokevirtual 43, 56, 0, 901), (129, .ifCond .eq 6, 0, 0, 0), (132, .goto 23, 0, 0, 0), (135, .aload_n 1, 0, 0, 0), (136, .bipush 59, 0, 0, 0), (138, .invokevirtual 35, 58, 0, 902), (141, .ifCond .ne 8, 0, 0, 0), (144, .aload_n 1, 0, 0, 0), (145, .getfield 22, 9, 2, 0), (148, .ireturn, 0, 0, 0), (149, .iinc 3 1, 0, 0, 0), (152, .goto (-145), 0, 0, 0), (155, .aload_n 1, 0, 0, 0), (156, .invokevirtual 47, 60, 0, 901), (159, .istore_n 3, 0, 0, 0), (160, .aload_n 0, 0, 0, 0), (161, .iload_n 3, 0, 0, 0), (162, .iconst (-1), 0, 0, 0), (163, .if_icmp .ne 7, 0, 0, 0), (166, .iload_n 2, 0, 0, 0), (167, .goto 7, 0, 0, 0), (170, .aload_n 0, 0, 0, 0), (171, .getfield 18, 2, 0, 0), (174, .putfield 18, 2, 0, 0), (177, .iload_n 3, 0, 0, 0), (178, .ireturn, 0, 0, 0)]
def acX3_init : AC := [(0, .aload_n 0, 0, 0, 0), (1, .invokespecial 3, 0, 14, 0), (4, .aload_n 0, 0, 0, 0), (5, .bipush 30, 0, 0, 0), (7, .newarray .long, 1, 0, 0), (9, .putfield 9, 3, 0, 2), (12, .return_, 0, 0, 0)]
def acX3_clear : AC := [(0, .aload_n 0, 0, 0, 0), (1, .iconst 0, 0, 0, 0), (2, .putfield 15, 3, 1, 0), (5, .return_, 0, 0, 0)]
def acX3_add : AC := [(0, .aload_n 0, 0, 0, 0), (1, .getfield 15, 3, 1, 0), (4, .bipush 30, 0, 0, 0), (6, .if_icmp .ge 23, 0, 0, 0), (9, .aload_n 0, 0, 0, 0), (10, .getfield 9, 3, 0, 2), (13, .aload_n 0, 0, 0, 0), (14, .getfield 15, 3, 1, 0), (17, .lload_n 1, 0, 0, 0), (18, .lastore, 0, 0, 0), (19, .aload_n 0, 0, 0, 0), (20, .dup, 0, 0, 0), (21, .getfield 15, 3, 1, 0), (24, .iconst 1, 0, 0, 0), (25, .iadd, 0, 0, 0), (26, .putfield 15, 3, 1, 0), (29, .return_, 0, 0, 0)]
def acX3_tellOne : AC := [(0, .aload_n 0, 0, 0, 0), (1, .invokevirtual 19, 17, 0, 301), (4, .aload_n 0, 0, 0, 0), (5, .lload_n 1, 0, 0, 0), (6, .invokevirtual 22, 18, 0, 302), (9, .return_, 0, 0, 0)]
def acX3_tellTwo : AC := [(0, .aload_n 0, 0, 0, 0), (1, .invokevirtual 19, 17, 0, 301), (4, .aload_n 0, 0, 0, 0), (5, .lload_n 1, 0, 0, 0), (6, .invokevirtual 22, 18, 0, 302), (9, .aload_n 0, 0, 0, 0), (10, .lload_n 3, 0, 0, 0), (11, .invokevirtual 22, 18, 0, 302), (14, .return_, 0, 0, 0)]
def acX3_tellFraction : AC := [(0, .lload_n 1, 0, 0, 0), (1, .lstore 5, 0, 0, 0), (3, .lload_n 3, 0, 0, 0), (4, .lstore 7, 0, 0, 0), (6, .iconst 0, 0, 0, 0), (7, .istore 9, 0, 0, 0), (9, .iload 9, 0, 0, 0), (11, .bipush 100, 0, 0, 0), (13, .if_icmp .ge 31, 0, 0, 0), (16, .lload 7, 0, 0, 0), (18, .lconst 0, 0, 0, 0), (19, .lcmp, 0, 0, 0), (20, .ifCond .eq 24, 0, 0, 0), (23, .lload 5, 0, 0, 0), (25, .lload 7, 0, 0, 0), (27, .lrem, 0, 0, 0), (28, .lstore 10, 0, 0, 0), (30, .lload 7, 0, 0, 0), (32, .lstore 5, 0, 0, 0), (34, .lload 10, 0, 0, 0), (36, .lstore 7, 0, 0, 0), (38, .iinc 9 1, 0, 0, 0), (41, .goto (-32), 0, 0, 0), (44, .lload 5, 0, 0, 0), (46, .lconst 0, 0, 0, 0), (47, .lcmp, 0, 0, 0), (48, .ifCond .ne 7, 0, 0, 0), (51, .lconst 1, 0, 0, 0), (52, .goto 5, 0, 0, 0), (55, .lload 5, 0, 0, 0), (57, .lstore 9, 0, 0, 0), (59, .aload_n 0, 0, 0, 0), (60, .lload_n 1, 0, 0, 0), (61, .lload 9, 0, 0, 0), (63, .ldiv, 0, 0, 0), (64, .lload_n 3, 0, 0, 0), (65, .lload 9, 0, 0, 0), (67, .ldiv, 0, 0, 0), (68, .invokevirtual 26, 20, 0, 303), (71, .return_, 0, 0, 0)]
def acX4_init : AC := [(0, .aload_n 0, 0, 0, 0), (1, .invokespecial 3, 0, 14, 0), (4, .aload_n 0, 0, 0, 0), (5, .bipush 40, 0, 0, 0), (7, .newarray .int, 0, 0, 0), (9, .putfield 9, 4, 0, 2), (12, .aload_n 0, 0, 0, 0), (13, .bipush 40, 0, 0, 0), (15, .newarray .int, 0, 0, 0), (17, .putfield 15, 4, 2, 2), (20, .return_, 0, 0, 0)]
def acX4_add : AC := [(0, .aload_n 0, 0, 0, 0), (1, .getfield 18, 4, 1, 0), (4, .bipush 40, 0, 0, 0), (6, .if_icmp .ge 23, 0, 0, 0), (9, .aload_n 0, 0, 0, 0), (10, .getfield 9, 4, 0, 2), (13, .aload_n 0, 0, 0, 0), (14, .getfield 18, 4, 1, 0), (17, .iload_n 1, 0, 0, 0), (18, .iastore, 0, 0, 0), (19, .aload_n 0, 0, 0, 0), (20, .dup, 0, 0, 0), (21, .getfield 18, 4, 1, 0), (24, .iconst 1, 0, 0, 0), (25, .iadd, 0, 0, 0), (26, .putfield 18, 4, 1, 0), (29, .return_, 0, 0, 0)]
def acX4_work : AC := [(0, .aload_n 0, 0, 0, 0), (1, .iconst 0, 0, 0, 0), (2, .putfield 22, 4, 3, 0), (5, .iconst 0, 0, 0, 0), (6, .istore_n 3, 0, 0, 0), (7, .iload_n 3, 0, 0, 0), (8, .aload_n 0, 0, 0, 0), (9, .getfield 18, 4, 1, 0), (12, .if_icmp .ge 99, 0, 0, 0), (15, .aload_n 0, 0, 0, 0), (16, .getfield 9, 4, 0, 2), (19, .iload_n 3, 0, 0, 0), (20, .iaload, 0, 0, 0), (21, .ineg, 0, 0, 0), (22, .istore 4, 0, 0, 0), (24, .iload 4, 0, 0, 0), (26, .ifCond .gt 16, 0, 0, 0), (29, .aload_n 0, 0, 0, 0), (30, .aload_n 0, 0, 0, 0), (31, .getfield 9, 4, 0, 2), (34, .iload_n 3, 0, 0, 0), (35, .iaload, 0, 0, 0), (36, .invokevirtual 25, 25, 0, 402), (39, .goto 66, 0, 0, 0), (42, .iload 4, 0, 0, 0), (44, .sipush 256, 0, 0, 0), (47, .if_icmp .ne 15, 0, 0, 0), (50, .aload_n 0, 0, 0, 0), (51, .aload_n 0, 0, 0, 0), (52, .invokevirtual 29, 26, 0, 401), (55, .ineg, 0, 0, 0), (56, .invokevirtual 25, 25, 0, 402), (59, .goto 46, 0, 0, 0), (62, .iload 4, 0, 0, 0), (64, .invokestatic 33, 35, 1, 1), (67, .ifCond .le 27, 0, 0, 0), (70, .aload_n 0, 0, 0, 0), (71, .invokevirtual 29, 26, 0, 401), (74, .istore 5, 0, 0, 0), (76, .aload_n 0, 0, 0, 0), (77, .iload 4, 0, 0, 0), (79, .aload_n 0, 0, 0, 0), (80, .invokevirtual 29, 26, 0, 401), (83, .iload 5, 0, 0, 0), (85, .invokestatic 39, 28, 1, 3), (88, .invokevirtual 25, 25, 0, 402), (91, .goto 14, 0, 0, 0), (94, .aload_n 0, 0, 0, 0), (95, .iload 4, 0, 0, 0), (97, .aload_n 1, 0, 0, 0), (98, .iload_n 2, 0, 0, 0), (99, .invokestatic 43, 27, 1, 3), (102, .invokevirtual 25, 25, 0, 402), (105, .iinc 3 1, 0, 0, 0), (108, .goto (-101), 0, 0, 0), (111, .aload_n 0, 0, 0, 0), (112, .invokevirtual 29, 26, 0, 401), (115, .ireturn, 0, 0, 0)]
def acX4_push : AC := [(0, .aload_n 0, 0, 0, 0), (1, .getfield 22, 4, 3, 0), (4, .bipush 40, 0, 0, 0), (6, .if_icmp .ge 23, 0, 0, 0), (9, .aload_n 0, 0, 0, 0), (10, .getfield 15, 4, 2, 2), (13, .aload_n 0, 0, 0, 0), (14, .getfield 22, 4, 3, 0), (17, .iload_n 1, 0, 0, 0), (18, .iastore, 0, 0, 0), (19, .aload_n 0, 0, 0, 0), (20, .dup, 0, 0, 0), (21, .getfield 22, 4, 3, 0), (24, .iconst 1, 0, 0, 0), (25, .iadd, 0, 0, 0), (26, .putfield 22, 4, 3, 0), (29, .return_, 0, 0, 0)]
def acX4_pop : AC := [(0, .aload_n 0, 0, 0, 0), (1, .getfield 22, 4, 3, 0), (4, .ifCond .gt 5, 0, 0, 0), (7, .iconst 0, 0, 0, 0), (8, .ireturn, 0, 0, 0), (9, .aload_n 0, 0, 0, 0), (10, .dup, 0, 0, 0), (11, .getfield 22, 4, 3, 0), (14, .iconst 1, 0, 0, 0), (15, .isub, 0, 0, 0), (16, .putfield 22, 4, 3, 0), (19, .aload_n 0, 0, 0, 0), (20, .getfield 15, 4, 2, 2), (23, .aload_n 0, 0, 0, 0), (24, .getfield 22, 4, 3, 0), (27, .iaload, 0, 0, 0), (28, .ireturn, 0, 0, 0)]
def acX4_valueOf : AC := [(0, .iload_n 0, 0, 0, 0), (1, .lookupswitch 50 #[(108, 35), (112, 40), (120, 45)], 0, 0, 0), (36, .aload_n 1, 0, 0, 0), (37, .getfield 47, 6, 0, 0), (40, .ireturn, 0, 0, 0), (41, .aload_n 1, 0, 0, 0), (42, .getfield 52, 6, 1, 0), (45, .ireturn, 0, 0, 0), (46, .aload_n 1, 0, 0, 0), (47, .getfield 55, 6, 2, 0), (50, .ireturn, 0, 0, 0), (51, .iload_n 2, 0, 0, 0), (52, .ireturn, 0, 0, 0)]
def acX4_apply : AC := [(0, .iload_n 0, 0, 0, 0), (1, .lookupswitch 104 #[(42, 100), (43, 92), (45, 96), (60, 59), (61, 81), (62, 70)], 0, 0, 0), (60, .iload_n 1, 0, 0, 0), (61, .iload_n 2, 0, 0, 0), (62, .if_icmp .ge 7, 0, 0, 0), (65, .iconst 1, 0, 0, 0), (66, .goto 4, 0, 0, 0), (69, .iconst 0, 0, 0, 0), (70, .ireturn, 0, 0, 0), (71, .iload_n 1, 0, 0, 0), (72, .iload_n 2, 0, 0, 0), (73, .if_icmp .le 7, 0, 0, 0), (76, .iconst 1, 0, 0, 0), (77, .goto 4, 0, 0, 0), (80, .iconst 0, 0, 0, 0), (81, .ireturn, 0, 0, 0), (82, .iload_n 1, 0, 0, 0), (83, .iload_n 2, 0, 0, 0), (84, .if_icmp .ne 7, 0, 0, 0), (87, .iconst 1, 0, 0, 0), (88, .goto 4, 0, 0, 0), (91, .iconst 0, 0, 0, 0), (92, .ireturn, 0, 0, 0), (93, .iload_n 1, 0, 0, 0), (94, .iload_n 2, 0, 0, 0), (95, .iadd, 0, 0, 0), (96, .ireturn, 0, 0, 0), (97, .iload_n 1, 0, 0, 0), (98, .iload_n 2, 0, 0, 0), (99, .isub, 0, 0, 0), (100, .ireturn, 0, 0, 0), (101, .iload_n 1, 0, 0, 0), (102, .iload_n 2, 0, 0, 0), (103, .imul, 0, 0, 0), (104, .ireturn, 0, 0, 0), (105, .iload_n 2, 0, 0, 0), (106, .ifCond .ne 7, 0, 0, 0), (109, .iconst 0, 0, 0, 0), (110, .goto 6, 0, 0, 0), (113, .iload_n 1, 0, 0, 0), (114, .iload_n 2, 0, 0, 0), (115, .idiv, 0, 0, 0), (116, .ireturn, 0, 0, 0)]
def acX5_init : AC := [(0, .aload_n 0, 0, 0, 0), (1, .invokespecial 3, 0, 14, 0), (4, .aload_n 0, 0, 0, 0), (5, .bipush 40, 0, 0, 0), (7, .newarray .int, 0, 0, 0), (9, .putfield 9, 5, 0, 2), (12, .return_, 0, 0, 0)]
def acX5_readFrom : AC := [(0, .aload_n 2, 0, 0, 0), (1, .iconst 0, 0, 0, 0), (2, .putfield 15, 4, 1, 0), (5, .aload_n 0, 0, 0, 0), (6, .iconst 0, 0, 0, 0), (7, .putfield 21, 5, 1, 0), (10, .aload_n 0, 0, 0, 0), (11, .iconst 0, 0, 0, 0), (12, .putfield 24, 5, 2, 0), (15, .aload_n 0, 0, 0, 0), (16, .iconst 0, 0, 0, 0), (17, .putfield 27, 5, 3, 0), (20, .aload_n 0, 0, 0, 0), (21, .iconst 1, 0, 0, 0), (22, .putfield 30, 5, 4, 3), (25, .iconst 0, 0, 0, 0), (26, .istore_n 3, 0, 0, 0), (27, .iload_n 3, 0, 0, 0), (28, .bipush 40, 0, 0, 0), (30, .if_icmp .ge 50, 0, 0, 0), (33, .aload_n 1, 0, 0, 0), (34, .invokevirtual 34, 56, 0, 901), (37, .ifCond .ne 43, 0, 0, 0), (40, .aload_n 0, 0, 0, 0), (41, .getfield 30, 5, 4, 3), (44, .ifCond .eq 12, 0, 0, 0), (47, .aload_n 0, 0, 0, 0), (48, .aload_n 1, 0, 0, 0), (49, .aload_n 2, 0, 0, 0), (50, .invokevirtual 40, 31, 0, 503), (53, .goto 9, 0, 0, 0), (56, .aload_n 0, 0, 0, 0), (57, .aload_n 1, 0, 0, 0), (58, .aload_n 2, 0, 0, 0), (59, .invokevirtual 44, 32, 0, 503), (62, .istore 4, 0, 0, 0), (64, .iload 4, 0, 0, 0), (66, .ifCond .ne 8, 0, 0, 0), (69, .aload_n 1, 0, 0, 0), (70, .getfield 47, 9, 2, 0), (73, .ireturn, 0, 0, 0), (74, .iinc 3 1, 0, 0, 0), (77, .goto (-50), 0, 0, 0), (80, .aload_n 0, 0, 0, 0), (81, .getfield 30, 5, 4, 3), (84, .ifCond .ne 10, 0, 0, 0), (87, .aload_n 0, 0, 0, 0), (88, .getfield 24, 5, 2, 0), (91, .ifCond .le 8, 0, 0, 0), (94, .aload_n 1, 0, 0, 0), (95, .getfield 47, 9, 2, 0), (98, .ireturn, 0, 0, 0), (99, .aload_n 0, 0, 0, 0), (100, .iconst 1, 0, 0, 0), (101, .aload_n 2, 0, 0, 0), (102, .invokevirtual 50, 34, 0, 503), (105, .aload_n 1, 0, 0, 0), (106, .invokevirtual 54, 60, 0, 901), (109, .ireturn, 0, 0, 0)]
def acX5_takeThing : AC := [(0, .aload_n 1, 0, 0, 0), (1, .invokevirtual 58, 57, 0, 901), (4, .istore_n 3, 0, 0, 0), (5, .iload_n 3, 0, 0, 0), (6, .invokestatic 61, 110, 3, 1), (9, .ifCond .eq 19, 0, 0, 0), (12, .aload_n 2, 0, 0, 0), (13, .aload_n 1, 0, 0, 0), (14, .iconst 3, 0, 0, 0), (15, .invokevirtual 65, 59, 0, 902), (18, .invokevirtual 69, 23, 0, 402), (21, .aload_n 0, 0, 0, 0), (22, .iconst 0, 0, 0, 0), (23, .putfield 30, 5, 4, 3), (26, .iconst 1, 0, 0, 0), (27, .ireturn, 0, 0, 0), (28, .iload_n 3, 0, 0, 0), (29, .bipush 108, 0, 0, 0), (31, .if_icmp .eq 21, 0, 0, 0), (34, .iload_n 3, 0, 0, 0), (35, .bipush 112, 0, 0, 0), (37, .if_icmp .eq 15, 0, 0, 0), (40, .iload_n 3, 0, 0, 0), (41, .bipush 120, 0, 0, 0), (43, .if_icmp .eq 9, 0, 0, 0), (46, .iload_n 3, 0, 0, 0), (47, .bipush 110, 0, 0, 0), (49, .if_icmp .ne 17, 0, 0, 0), (52, .aload_n 2, 0, 0, 0), (53, .iload_n 3, 0, 0, 0), (54, .ineg, 0, 0, 0), (55, .invokevirtual 69, 23, 0, 402), (58, .aload_n 0, 0, 0, 0), (59, .iconst 0, 0, 0, 0), (60, .putfield 30, 5, 4, 3), (63, .goto 70, 0, 0, 0), (66, .iload_n 3, 0, 0, 0), (67, .bipush 45, 0, 0, 0), (69, .if_icmp .ne 13, 0, 0, 0), (72, .aload_n 0, 0, 0, 0), (73, .sipush 256, 0, 0, 0), (76, .invokevirtual 73, 33, 0, 502), (79, .goto 54, 0, 0, 0), (82, .iload_n 3, 0, 0, 0), (83, .bipush 40, 0, 0, 0), (85, .if_icmp .ne 46, 0, 0, 0), (88, .aload_n 0, 0, 0, 0), (89, .getfield 24, 5, 2, 0), (92, .iconst 4, 0, 0, 0), (93, .if_icmp .ge 38, 0, 0, 0), (96, .aload_n 0, 0, 0, 0), (97, .dup, 0, 0, 0), (98, .getfield 24, 5, 2, 0), (101, .iconst 1, 0, 0, 0), (102, .iadd, 0, 0, 0), (103, .putfield 24, 5, 2, 0), (106, .aload_n 0, 0, 0, 0), (107, .dup, 0, 0, 0), (108, .getfield 27, 5, 3, 0), (111, .iconst 1, 0, 0, 0), (112, .aload_n 0, 0, 0, 0), (113, .getfield 24, 5, 2, 0), (116, .ishl, 0, 0, 0), (117, .iconst (-1), 0, 0, 0), (118, .ixor, 0, 0, 0), (119, .iand, 0, 0, 0), (120, .putfield 27, 5, 3, 0), (123, .aload_n 0, 0, 0, 0), (124, .iload_n 3, 0, 0, 0), (125, .invokevirtual 73, 33, 0, 502), (128, .goto 5, 0, 0, 0), (131, .iconst 0, 0, 0, 0), (132, .ireturn, 0, 0, 0), (133, .aload_n 1, 0, 0, 0), (134, .dup, 0, 0, 0), (135, .getfield 47, 9, 2, 0), (138, .iconst 1, 0, 0, 0), (139, .iadd, 0, 0, 0), (140, .putfield 47, 9, 2, 0), (143, .iconst 1, 0, 0, 0), (144, .ireturn, 0, 0, 0)]
def acX5_takeOperator : AC := [(0, .aload_n 1, 0, 0, 0), (1, .invokevirtual 58, 57, 0, 901), (4, .istore_n 3, 0, 0, 0), (5, .iload_n 3, 0, 0, 0), (6, .invokestatic 76, 35, 1, 1), (9, .istore 4, 0, 0, 0), (11, .iload_n 3, 0, 0, 0), (12, .bipush 41, 0, 0, 0), (14, .if_icmp .ne 39, 0, 0, 0), (17, .aload_n 0, 0, 0, 0), (18, .getfield 24, 5, 2, 0), (21, .ifCond .le 32, 0, 0, 0), (24, .aload_n 0, 0, 0, 0), (25, .iconst 1, 0, 0, 0), (26, .aload_n 2, 0, 0, 0), (27, .invokevirtual 50, 34, 0, 503), (30, .aload_n 0, 0, 0, 0), (31, .dup, 0, 0, 0), (32, .getfield 21, 5, 1, 0), (35, .iconst 1, 0, 0, 0), (36, .isub, 0, 0, 0), (37, .putfield 21, 5, 1, 0), (40, .aload_n 0, 0, 0, 0), (41, .dup, 0, 0, 0), (42, .getfield 24, 5, 2, 0), (45, .iconst 1, 0, 0, 0), (46, .isub, 0, 0, 0), (47, .putfield 24, 5, 2, 0), (50, .goto 73, 0, 0, 0), (53, .iload 4, 0, 0, 0), (55, .ifCond .eq 24, 0, 0, 0), (58, .iload 4, 0, 0, 0), (60, .iconst 1, 0, 0, 0), (61, .if_icmp .ne 20, 0, 0, 0), (64, .aload_n 0, 0, 0, 0), (65, .getfield 27, 5, 3, 0), (68, .aload_n 0, 0, 0, 0), (69, .getfield 24, 5, 2, 0), (72, .ishr, 0, 0, 0), (73, .iconst 1, 0, 0, 0), (74, .iand, 0, 0, 0), (75, .iconst 1, 0, 0, 0), (76, .if_icmp .ne 5, 0, 0, 0), (79, .iconst 0, 0, 0, 0), (80, .ireturn, 0, 0, 0), (81, .aload_n 0, 0, 0, 0), (82, .dup, 0, 0, 0), (83, .getfield 27, 5, 3, 0), (86, .iload 4, 0, 0, 0), (88, .iconst 1, 0, 0, 0), (89, .if_icmp .ne 12, 0, 0, 0), (92, .iconst 1, 0, 0, 0), (93, .aload_n 0, 0, 0, 0), (94, .getfield 24, 5, 2, 0), (97, .ishl, 0, 0, 0), (98, .goto 4, 0, 0, 0), (101, .iconst 0, 0, 0, 0), (102, .ior, 0, 0, 0), (103, .putfield 27, 5, 3, 0), (106, .aload_n 0, 0, 0, 0), (107, .iload 4, 0, 0, 0), (109, .aload_n 2, 0, 0, 0), (110, .invokevirtual 50, 34, 0, 503), (113, .aload_n 0, 0, 0, 0), (114, .iload_n 3, 0, 0, 0), (115, .invokevirtual 73, 33, 0, 502), (118, .aload_n 0, 0, 0, 0), (119, .iconst 1, 0, 0, 0), (120, .putfield 30, 5, 4, 3), (123, .aload_n 1, 0, 0, 0), (124, .dup, 0, 0, 0), (125, .getfield 47, 9, 2, 0), (128, .iconst 1, 0, 0, 0), (129, .iadd, 0, 0, 0), (130, .putfield 47, 9, 2, 0), (133, .iconst 1, 0, 0, 0), (134, .ireturn, 0, 0, 0)]
def acX5_hold : AC := [(0, .aload_n 0, 0, 0, 0), (1, .getfield 21, 5, 1, 0), (4, .bipush 40, 0, 0, 0), (6, .if_icmp .ge 23, 0, 0, 0), (9, .aload_n 0, 0, 0, 0), (10, .getfield 9, 5, 0, 2), (13, .aload_n 0, 0, 0, 0), (14, .getfield 21, 5, 1, 0), (17, .iload_n 1, 0, 0, 0), (18, .iastore, 0, 0, 0), (19, .aload_n 0, 0, 0, 0), (20, .dup, 0, 0, 0), (21, .getfield 21, 5, 1, 0), (24, .iconst 1, 0, 0, 0), (25, .iadd, 0, 0, 0), (26, .putfield 21, 5, 1, 0), (29, .return_, 0, 0, 0)]
def acX5_release : AC := [(0, .aload_n 0, 0, 0, 0), (1, .getfield 21, 5, 1, 0), (4, .ifCond .le 48, 0, 0, 0), (7, .aload_n 0, 0, 0, 0), (8, .getfield 9, 5, 0, 2), (11, .aload_n 0, 0, 0, 0), (12, .getfield 21, 5, 1, 0), (15, .iconst 1, 0, 0, 0), (16, .isub, 0, 0, 0), (17, .iaload, 0, 0, 0), (18, .invokestatic 76, 35, 1, 1), (21, .iload_n 1, 0, 0, 0), (22, .if_icmp .lt 30, 0, 0, 0), (25, .aload_n 0, 0, 0, 0), (26, .dup, 0, 0, 0), (27, .getfield 21, 5, 1, 0), (30, .iconst 1, 0, 0, 0), (31, .isub, 0, 0, 0), (32, .putfield 21, 5, 1, 0), (35, .aload_n 2, 0, 0, 0), (36, .aload_n 0, 0, 0, 0), (37, .getfield 9, 5, 0, 2), (40, .aload_n 0, 0, 0, 0), (41, .getfield 21, 5, 1, 0), (44, .iaload, 0, 0, 0), (45, .ineg, 0, 0, 0), (46, .invokevirtual 69, 23, 0, 402), (49, .goto (-49), 0, 0, 0), (52, .return_, 0, 0, 0)]
def acX5_rank : AC := [(0, .iload_n 0, 0, 0, 0), (1, .lookupswitch 83 #[(42, 79), (43, 77), (45, 77), (47, 79), (60, 75), (61, 75), (62, 75), (256, 81)], 0, 0, 0), (76, .iconst 1, 0, 0, 0), (77, .ireturn, 0, 0, 0), (78, .iconst 2, 0, 0, 0), (79, .ireturn, 0, 0, 0), (80, .iconst 3, 0, 0, 0), (81, .ireturn, 0, 0, 0), (82, .iconst 4, 0, 0, 0), (83, .ireturn, 0, 0, 0), (84, .iconst 0, 0, 0, 0), (85, .ireturn, 0, 0, 0)]
def acX6_init : AC := [(0, .aload_n 0, 0, 0, 0), (1, .invokespecial 3, 0, 14, 0), (4, .aload_n 0, 0, 0, 0), (5, .iconst 2, 0, 0, 0), (6, .putfield 9, 6, 0, 0), (9, .aload_n 0, 0, 0, 0), (10, .bipush 10, 0, 0, 0), (12, .newarray .int, 0, 0, 0), (14, .putfield 15, 6, 3, 2), (17, .aload_n 0, 0, 0, 0), (18, .bipush 10, 0, 0, 0), (20, .newarray .int, 0, 0, 0), (22, .putfield 19, 6, 4, 2), (25, .return_, 0, 0, 0)]
def acX6_readFrom : AC := [(0, .aload_n 0, 0, 0, 0), (1, .iconst 0, 0, 0, 0), (2, .putfield 22, 6, 1, 0), (5, .aload_n 0, 0, 0, 0), (6, .iconst 0, 0, 0, 0), (7, .putfield 25, 6, 2, 0), (10, .aload_n 0, 0, 0, 0), (11, .aload_n 1, 0, 0, 0), (12, .iconst 2, 0, 0, 0), (13, .invokevirtual 28, 59, 0, 902), (16, .putfield 9, 6, 0, 0), (19, .aload_n 0, 0, 0, 0), (20, .getfield 9, 6, 0, 0), (23, .iconst (-1), 0, 0, 0), (24, .if_icmp .ne 8, 0, 0, 0), (27, .aload_n 1, 0, 0, 0), (28, .getfield 34, 9, 2, 0), (31, .ireturn, 0, 0, 0), (32, .aload_n 0, 0, 0, 0), (33, .getfield 9, 6, 0, 0), (36, .iconst 2, 0, 0, 0), (37, .if_icmp .lt 12, 0, 0, 0), (40, .aload_n 0, 0, 0, 0), (41, .getfield 9, 6, 0, 0), (44, .bipush 40, 0, 0, 0), (46, .if_icmp .le 10, 0, 0, 0), (49, .aload_n 1, 0, 0, 0), (50, .getfield 34, 9, 2, 0), (53, .iconst 1, 0, 0, 0), (54, .isub, 0, 0, 0), (55, .ireturn, 0, 0, 0), (56, .iconst (-1), 0, 0, 0), (57, .istore_n 2, 0, 0, 0), (58, .iconst 0, 0, 0, 0), (59, .istore_n 3, 0, 0, 0), (60, .iload_n 3, 0, 0, 0), (61, .bipush 10, 0, 0, 0), (63, .if_icmp .gt 99, 0, 0, 0), (66, .aload_n 1, 0, 0, 0), (67, .invokevirtual 37, 56, 0, 901), (70, .ifCond .ne 92, 0, 0, 0), (73, .iload_n 3, 0, 0, 0), (74, .bipush 10, 0, 0, 0), (76, .if_icmp .eq 12, 0, 0, 0), (79, .aload_n 1, 0, 0, 0), (80, .bipush 44, 0, 0, 0), (82, .invokevirtual 41, 58, 0, 902), (85, .ifCond .ne 8, 0, 0, 0), (88, .aload_n 1, 0, 0, 0), (89, .getfield 34, 9, 2, 0), (92, .ireturn, 0, 0, 0), (93, .aload_n 1, 0, 0, 0), (94, .iconst 2, 0, 0, 0), (95, .invokevirtual 28, 59, 0, 902), (98, .istore 4, 0, 0, 0), (100, .iload 4, 0, 0, 0), (102, .iconst (-1), 0, 0, 0), (103, .if_icmp .ne 8, 0, 0, 0), (106, .aload_n 1, 0, 0, 0), (107, .getfield 34, 9, 2, 0), (110, .ireturn, 0, 0, 0), (111, .iload 4, 0, 0, 0), (113, .iload_n 2, 0, 0, 0), (114, .if_icmp .le 12, 0, 0, 0), (117, .iload 4, 0, 0, 0), (119, .aload_n 0, 0, 0, 0), (120, .getfield 9, 6, 0, 0), (123, .if_icmp .lt 10, 0, 0, 0), (126, .aload_n 1, 0, 0, 0), (127, .getfield 34, 9, 2, 0), (130, .iconst 1, 0, 0, 0), (131, .isub, 0, 0, 0), (132, .ireturn, 0, 0, 0), (133, .iload 4, 0, 0, 0), (135, .istore_n 2, 0, 0, 0), (136, .aload_n 0, 0, 0, 0), (137, .iload 4, 0, 0, 0), (139, .aload_n 1, 0, 0, 0), (140, .bipush 42, 0, 0, 0), (142, .invokevirtual 41, 58, 0, 902), (145, .ifCond .eq 7, 0, 0, 0), (148, .iconst 1, 0, 0, 0), (149, .goto 4, 0, 0, 0), (152, .iconst 0, 0, 0, 0), (153, .invokevirtual 45, 38, 0, 603), (156, .iinc 3 1, 0, 0, 0), (159, .goto (-99), 0, 0, 0), (162, .aload_n 1, 0, 0, 0), (163, .invokevirtual 49, 60, 0, 901), (166, .ireturn, 0, 0, 0)]
def acX6_addPost : AC := [(0, .aload_n 0, 0, 0, 0), (1, .getfield 22, 6, 1, 0), (4, .bipush 10, 0, 0, 0), (6, .if_icmp .ge 43, 0, 0, 0), (9, .aload_n 0, 0, 0, 0), (10, .getfield 15, 6, 3, 2), (13, .aload_n 0, 0, 0, 0), (14, .getfield 22, 6, 1, 0), (17, .iload_n 1, 0, 0, 0), (18, .iastore, 0, 0, 0), (19, .aload_n 0, 0, 0, 0), (20, .getfield 19, 6, 4, 2), (23, .aload_n 0, 0, 0, 0), (24, .getfield 22, 6, 1, 0), (27, .iload_n 2, 0, 0, 0), (28, .iastore, 0, 0, 0), (29, .aload_n 0, 0, 0, 0), (30, .dup, 0, 0, 0), (31, .getfield 22, 6, 1, 0), (34, .iconst 1, 0, 0, 0), (35, .iadd, 0, 0, 0), (36, .putfield 22, 6, 1, 0), (39, .aload_n 0, 0, 0, 0), (40, .dup, 0, 0, 0), (41, .getfield 25, 6, 2, 0), (44, .iload_n 2, 0, 0, 0), (45, .iadd, 0, 0, 0), (46, .putfield 25, 6, 2, 0), (49, .return_, 0, 0, 0)]
def acX7_init : AC := [(0, .aload_n 0, 0, 0, 0), (1, .invokespecial 3, 0, 14, 0), (4, .aload_n 0, 0, 0, 0), (5, .bipush 25, 0, 0, 0), (7, .newarray .int, 0, 0, 0), (9, .putfield 9, 7, 1, 2), (12, .aload_n 0, 0, 0, 0), (13, .bipush 25, 0, 0, 0), (15, .bipush 9, 0, 0, 0), (17, .multianewarray 15 2, 6, 0, 0), (21, .putfield 17, 7, 2, 2), (24, .aload_n 0, 0, 0, 0), (25, .getfield 9, 7, 1, 2), (28, .iconst (-1), 0, 0, 0), (29, .invokestatic 20, 255, 1, 2), (32, .return_, 0, 0, 0)]
def acX7_forgetAll : AC := [(0, .aload_n 0, 0, 0, 0), (1, .iconst 0, 0, 0, 0), (2, .putfield 26, 7, 0, 0), (5, .aload_n 0, 0, 0, 0), (6, .getfield 9, 7, 1, 2), (9, .iconst (-1), 0, 0, 0), (10, .invokestatic 20, 255, 1, 2), (13, .return_, 0, 0, 0)]
def acX7_lastStep : AC := [(0, .bipush 24, 0, 0, 0), (2, .istore_n 1, 0, 0, 0), (3, .iload_n 1, 0, 0, 0), (4, .ifCond .le 19, 0, 0, 0), (7, .aload_n 0, 0, 0, 0), (8, .getfield 9, 7, 1, 2), (11, .iload_n 1, 0, 0, 0), (12, .iaload, 0, 0, 0), (13, .iconst (-1), 0, 0, 0), (14, .if_icmp .ne 9, 0, 0, 0), (17, .iinc 1 (-1), 0, 0, 0), (20, .goto (-17), 0, 0, 0), (23, .iload_n 1, 0, 0, 0), (24, .ireturn, 0, 0, 0)]
def acX7_countWays : AC := [(0, .iload_n 1, 0, 0, 0), (1, .istore_n 2, 0, 0, 0), (2, .iload_n 2, 0, 0, 0), (3, .ifCond .lt 82, 0, 0, 0), (6, .iconst 0, 0, 0, 0), (7, .istore_n 3, 0, 0, 0), (8, .iload_n 3, 0, 0, 0), (9, .bipush 8, 0, 0, 0), (11, .if_icmp .gt 68, 0, 0, 0), (14, .aload_n 0, 0, 0, 0), (15, .getfield 9, 7, 1, 2), (18, .iload_n 2, 0, 0, 0), (19, .iaload, 0, 0, 0), (20, .iconst (-1), 0, 0, 0), (21, .if_icmp .eq 13, 0, 0, 0), (24, .aload_n 0, 0, 0, 0), (25, .getfield 9, 7, 1, 2), (28, .iload_n 2, 0, 0, 0), (29, .iaload, 0, 0, 0), (30, .iload_n 3, 0, 0, 0), (31, .if_icmp .ne 7, 0, 0, 0), (34, .iconst 1, 0, 0, 0), (35, .goto 4, 0, 0, 0), (38, .iconst 0, 0, 0, 0), (39, .istore 4, 0, 0, 0), (41, .aload_n 0, 0, 0, 0), (42, .getfield 17, 7, 2, 2), (45, .iload_n 2, 0, 0, 0), (46, .aaload, 0, 0, 0), (47, .iload_n 3, 0, 0, 0), (48, .iload 4, 0, 0, 0), (50, .ifCond .ne 7, 0, 0, 0), (53, .lconst 0, 0, 0, 0), (54, .goto 18, 0, 0, 0), (57, .iload_n 2, 0, 0, 0), (58, .iload_n 1, 0, 0, 0), (59, .if_icmp .ne 7, 0, 0, 0), (62, .lconst 1, 0, 0, 0), (63, .goto 9, 0, 0, 0), (66, .aload_n 0, 0, 0, 0), (67, .iload_n 2, 0, 0, 0), (68, .iload_n 3, 0, 0, 0), (69, .invokevirtual 30, 43, 0, 703), (72, .lastore, 0, 0, 0), (73, .iinc 3 1, 0, 0, 0), (76, .goto (-68), 0, 0, 0), (79, .iinc 2 (-1), 0, 0, 0), (82, .goto (-80), 0, 0, 0), (85, .return_, 0, 0, 0)]
def acX7_waysBehind : AC := [(0, .lconst 0, 0, 0, 0), (1, .lstore_n 3, 0, 0, 0), (2, .iconst (-1), 0, 0, 0), (3, .istore 5, 0, 0, 0), (5, .iload 5, 0, 0, 0), (7, .iconst 1, 0, 0, 0), (8, .if_icmp .gt 28, 0, 0, 0), (11, .lload_n 3, 0, 0, 0), (12, .aload_n 0, 0, 0, 0), (13, .getfield 17, 7, 2, 2), (16, .iload_n 1, 0, 0, 0), (17, .iconst 1, 0, 0, 0), (18, .iadd, 0, 0, 0), (19, .aaload, 0, 0, 0), (20, .iload_n 2, 0, 0, 0), (21, .iload 5, 0, 0, 0), (23, .iadd, 0, 0, 0), (24, .invokestatic 34, 116, 3, 1), (27, .laload, 0, 0, 0), (28, .ladd, 0, 0, 0), (29, .lstore_n 3, 0, 0, 0), (30, .iinc 5 1, 0, 0, 0), (33, .goto (-28), 0, 0, 0), (36, .lload_n 3, 0, 0, 0), (37, .lreturn, 0, 0, 0)]
def acX7_leastOrder : AC := [(0, .iconst (-1), 0, 0, 0), (1, .istore_n 3, 0, 0, 0), (2, .iload_n 3, 0, 0, 0), (3, .iconst 1, 0, 0, 0), (4, .if_icmp .ge 27, 0, 0, 0), (7, .aload_n 0, 0, 0, 0), (8, .getfield 17, 7, 2, 2), (11, .iload_n 1, 0, 0, 0), (12, .aaload, 0, 0, 0), (13, .iload_n 2, 0, 0, 0), (14, .iload_n 3, 0, 0, 0), (15, .iadd, 0, 0, 0), (16, .invokestatic 34, 116, 3, 1), (19, .laload, 0, 0, 0), (20, .lconst 0, 0, 0, 0), (21, .lcmp, 0, 0, 0), (22, .ifCond .ne 9, 0, 0, 0), (25, .iinc 3 1, 0, 0, 0), (28, .goto (-26), 0, 0, 0), (31, .iload_n 3, 0, 0, 0), (32, .ireturn, 0, 0, 0)]
def acX7_possible : AC := [(0, .iconst 0, 0, 0, 0), (1, .istore_n 2, 0, 0, 0), (2, .iconst 0, 0, 0, 0), (3, .istore_n 3, 0, 0, 0), (4, .iload_n 3, 0, 0, 0), (5, .bipush 8, 0, 0, 0), (7, .if_icmp .gt 32, 0, 0, 0), (10, .iload_n 2, 0, 0, 0), (11, .aload_n 0, 0, 0, 0), (12, .getfield 17, 7, 2, 2), (15, .iload_n 1, 0, 0, 0), (16, .aaload, 0, 0, 0), (17, .iload_n 3, 0, 0, 0), (18, .laload, 0, 0, 0), (19, .lconst 0, 0, 0, 0), (20, .lcmp, 0, 0, 0), (21, .ifCond .le 9, 0, 0, 0), (24, .iconst 1, 0, 0, 0), (25, .iload_n 3, 0, 0, 0), (26, .ishl, 0, 0, 0), (27, .goto 4, 0, 0, 0), (30, .iconst 0, 0, 0, 0), (31, .ior, 0, 0, 0), (32, .istore_n 2, 0, 0, 0), (33, .iinc 3 1, 0, 0, 0), (36, .goto (-32), 0, 0, 0), (39, .iload_n 2, 0, 0, 0), (40, .ireturn, 0, 0, 0)]
def acX8_init : AC := [(0, .aload_n 0, 0, 0, 0), (1, .invokespecial 3, 0, 14, 0), (4, .aload_n 0, 0, 0, 0), (5, .iconst 4, 0, 0, 0), (6, .putfield 11, 8, 1, 0), (9, .aload_n 0, 0, 0, 0), (10, .iconst (-1), 0, 0, 0), (11, .putfield 15, 8, 3, 0), (14, .aload_n 0, 0, 0, 0), (15, .bipush 12, 0, 0, 0), (17, .newarray .int, 0, 0, 0), (19, .putfield 18, 8, 5, 2), (22, .aload_n 0, 0, 0, 0), (23, .bipush 12, 0, 0, 0), (25, .newarray .int, 0, 0, 0), (27, .putfield 22, 8, 6, 2), (30, .aload_n 0, 0, 0, 0), (31, .bipush 8, 0, 0, 0), (33, .newarray .int, 0, 0, 0), (35, .putfield 25, 8, 7, 2), (38, .aload_n 0, 0, 0, 0), (39, .bipush 8, 0, 0, 0), (41, .newarray .int, 0, 0, 0), (43, .putfield 28, 8, 8, 2), (46, .return_, 0, 0, 0)]
def acX8_copyFrom : AC := [(0, .aload_n 0, 0, 0, 0), (1, .aload_n 1, 0, 0, 0), (2, .getfield 31, 8, 0, 0), (5, .putfield 31, 8, 0, 0), (8, .aload_n 0, 0, 0, 0), (9, .aload_n 1, 0, 0, 0), (10, .getfield 11, 8, 1, 0), (13, .putfield 11, 8, 1, 0), (16, .aload_n 0, 0, 0, 0), (17, .aload_n 1, 0, 0, 0), (18, .getfield 34, 8, 2, 0), (21, .putfield 34, 8, 2, 0), (24, .aload_n 0, 0, 0, 0), (25, .aload_n 1, 0, 0, 0), (26, .getfield 15, 8, 3, 0), (29, .putfield 15, 8, 3, 0), (32, .aload_n 0, 0, 0, 0), (33, .aload_n 1, 0, 0, 0), (34, .getfield 37, 8, 4, 0), (37, .putfield 37, 8, 4, 0), (40, .aload_n 1, 0, 0, 0), (41, .getfield 18, 8, 5, 2), (44, .iconst 0, 0, 0, 0), (45, .aload_n 0, 0, 0, 0), (46, .getfield 18, 8, 5, 2), (49, .iconst 0, 0, 0, 0), (50, .bipush 12, 0, 0, 0), (52, .invokestatic 40, 0, 13, 0), (55, .aload_n 1, 0, 0, 0), (56, .getfield 22, 8, 6, 2), (59, .iconst 0, 0, 0, 0), (60, .aload_n 0, 0, 0, 0), (61, .getfield 22, 8, 6, 2), (64, .iconst 0, 0, 0, 0), (65, .bipush 12, 0, 0, 0), (67, .invokestatic 40, 0, 13, 0), (70, .aload_n 1, 0, 0, 0), (71, .getfield 25, 8, 7, 2), (74, .iconst 0, 0, 0, 0), (75, .aload_n 0, 0, 0, 0), (76, .getfield 25, 8, 7, 2), (79, .iconst 0, 0, 0, 0), (80, .bipush 8, 0, 0, 0), (82, .invokestatic 40, 0, 13, 0), (85, .aload_n 1, 0, 0, 0), (86, .getfield 28, 8, 8, 2), (89, .iconst 0, 0, 0, 0), (90, .aload_n 0, 0, 0, 0), (91, .getfield 28, 8, 8, 2), (94, .iconst 0, 0, 0, 0), (95, .bipush 8, 0, 0, 0), (97, .invokestatic 40, 0, 13, 0), (100, .return_, 0, 0, 0)]
def acX8_gaveNow : AC := [(0, .aload_n 0, 0, 0, 0), (1, .getfield 15, 8, 3, 0), (4, .aload_n 0, 0, 0, 0), (5, .getfield 31, 8, 0, 0), (8, .if_icmp .ne 7, 0, 0, 0), (11, .iconst 1, 0, 0, 0), (12, .goto 4, 0, 0, 0), (15, .iconst 0, 0, 0, 0), (16, .ireturn, 0, 0, 0)]
def acX8_addOrder : AC := [(0, .aload_n 0, 0, 0, 0), (1, .getfield 37, 8, 4, 0), (4, .bipush 12, 0, 0, 0), (6, .if_icmp .lt 4, 0, 0, 0), (9, .return_, 0, 0, 0), (10, .aload_n 0, 0, 0, 0), (11, .getfield 37, 8, 4, 0), (14, .istore_n 3, 0, 0, 0), (15, .iload_n 3, 0, 0, 0), (16, .ifCond .le 54, 0, 0, 0), (19, .aload_n 0, 0, 0, 0), (20, .getfield 18, 8, 5, 2), (23, .iload_n 3, 0, 0, 0), (24, .iconst 1, 0, 0, 0), (25, .isub, 0, 0, 0), (26, .iaload, 0, 0, 0), (27, .aload_n 0, 0, 0, 0), (28, .getfield 31, 8, 0, 0), (31, .iload_n 1, 0, 0, 0), (32, .iadd, 0, 0, 0), (33, .if_icmp .le 37, 0, 0, 0), (36, .aload_n 0, 0, 0, 0), (37, .getfield 18, 8, 5, 2), (40, .iload_n 3, 0, 0, 0), (41, .aload_n 0, 0, 0, 0), (42, .getfield 18, 8, 5, 2), (45, .iload_n 3, 0, 0, 0), (46, .iconst 1, 0, 0, 0), (47, .isub, 0, 0, 0), (48, .iaload, 0, 0, 0), (49, .iastore, 0, 0, 0), (50, .aload_n 0, 0, 0, 0), (51, .getfield 22, 8, 6, 2), (54, .iload_n 3, 0, 0, 0), (55, .aload_n 0, 0, 0, 0), (56, .getfield 22, 8, 6, 2), (59, .iload_n 3, 0, 0, 0), (60, .iconst 1, 0, 0, 0), (61, .isub, 0, 0, 0), (62, .iaload, 0, 0, 0), (63, .iastore, 0, 0, 0), (64, .iinc 3 (-1), 0, 0, 0), (67, .goto (-52), 0, 0, 0), (70, .aload_n 0, 0, 0, 0), (71, .getfield 18, 8, 5, 2), (74, .iload_n 3, 0, 0, 0), (75, .aload_n 0, 0, 0, 0), (76, .getfield 31, 8, 0, 0), (79, .iload_n 1, 0, 0, 0), (80, .iadd, 0, 0, 0), (81, .iastore, 0, 0, 0), (82, .aload_n 0, 0, 0, 0), (83, .getfield 22, 8, 6, 2), (86, .iload_n 3, 0, 0, 0), (87, .iload_n 2, 0, 0, 0), (88, .iastore, 0, 0, 0), (89, .aload_n 0, 0, 0, 0), (90, .dup, 0, 0, 0), (91, .getfield 37, 8, 4, 0), (94, .iconst 1, 0, 0, 0), (95, .iadd, 0, 0, 0), (96, .putfield 37, 8, 4, 0), (99, .aload_n 0, 0, 0, 0), (100, .aload_n 0, 0, 0, 0), (101, .getfield 31, 8, 0, 0), (104, .putfield 15, 8, 3, 0), (107, .return_, 0, 0, 0)]
def acX8_doDueOrders : AC := [(0, .iconst 0, 0, 0, 0), (1, .istore_n 1, 0, 0, 0), (2, .iload_n 1, 0, 0, 0), (3, .aload_n 0, 0, 0, 0), (4, .getfield 37, 8, 4, 0), (7, .if_icmp .ge 40, 0, 0, 0), (10, .aload_n 0, 0, 0, 0), (11, .getfield 18, 8, 5, 2), (14, .iload_n 1, 0, 0, 0), (15, .iaload, 0, 0, 0), (16, .aload_n 0, 0, 0, 0), (17, .getfield 31, 8, 0, 0), (20, .if_icmp .gt 27, 0, 0, 0), (23, .aload_n 0, 0, 0, 0), (24, .aload_n 0, 0, 0, 0), (25, .getfield 11, 8, 1, 0), (28, .aload_n 0, 0, 0, 0), (29, .getfield 22, 8, 6, 2), (32, .iload_n 1, 0, 0, 0), (33, .iaload, 0, 0, 0), (34, .iadd, 0, 0, 0), (35, .invokestatic 46, 116, 3, 1), (38, .putfield 11, 8, 1, 0), (41, .iinc 1 1, 0, 0, 0), (44, .goto (-42), 0, 0, 0), (47, .aload_n 0, 0, 0, 0), (48, .dup, 0, 0, 0), (49, .getfield 37, 8, 4, 0), (52, .iload_n 1, 0, 0, 0), (53, .isub, 0, 0, 0), (54, .putfield 37, 8, 4, 0), (57, .aload_n 0, 0, 0, 0), (58, .getfield 18, 8, 5, 2), (61, .iload_n 1, 0, 0, 0), (62, .aload_n 0, 0, 0, 0), (63, .getfield 18, 8, 5, 2), (66, .iconst 0, 0, 0, 0), (67, .aload_n 0, 0, 0, 0), (68, .getfield 37, 8, 4, 0), (71, .invokestatic 40, 0, 13, 0), (74, .aload_n 0, 0, 0, 0), (75, .getfield 22, 8, 6, 2), (78, .iload_n 1, 0, 0, 0), (79, .aload_n 0, 0, 0, 0), (80, .getfield 22, 8, 6, 2), (83, .iconst 0, 0, 0, 0), (84, .aload_n 0, 0, 0, 0), (85, .getfield 37, 8, 4, 0), (88, .invokestatic 40, 0, 13, 0), (91, .return_, 0, 0, 0)]
def acX8_laneIn : AC := [(0, .aload_n 0, 0, 0, 0), (1, .getfield 11, 8, 1, 0), (4, .istore_n 2, 0, 0, 0), (5, .iconst 0, 0, 0, 0), (6, .istore_n 3, 0, 0, 0), (7, .iload_n 3, 0, 0, 0), (8, .aload_n 0, 0, 0, 0), (9, .getfield 37, 8, 4, 0), (12, .if_icmp .ge 36, 0, 0, 0), (15, .aload_n 0, 0, 0, 0), (16, .getfield 18, 8, 5, 2), (19, .iload_n 3, 0, 0, 0), (20, .iaload, 0, 0, 0), (21, .aload_n 0, 0, 0, 0), (22, .getfield 31, 8, 0, 0), (25, .isub, 0, 0, 0), (26, .iload_n 1, 0, 0, 0), (27, .if_icmp .gt 21, 0, 0, 0), (30, .iload_n 2, 0, 0, 0), (31, .aload_n 0, 0, 0, 0), (32, .getfield 22, 8, 6, 2), (35, .iload_n 3, 0, 0, 0), (36, .iaload, 0, 0, 0), (37, .iadd, 0, 0, 0), (38, .invokestatic 46, 116, 3, 1), (41, .istore_n 2, 0, 0, 0), (42, .iinc 3 1, 0, 0, 0), (45, .goto (-38), 0, 0, 0), (48, .iload_n 2, 0, 0, 0), (49, .ireturn, 0, 0, 0)]
def acX8_eat : AC := [(0, .aload_n 0, 0, 0, 0), (1, .getfield 25, 8, 7, 2), (4, .iload_n 1, 0, 0, 0), (5, .iaload, 0, 0, 0), (6, .iload_n 2, 0, 0, 0), (7, .if_icmp .ge 22, 0, 0, 0), (10, .aload_n 0, 0, 0, 0), (11, .getfield 25, 8, 7, 2), (14, .iload_n 1, 0, 0, 0), (15, .iconst 0, 0, 0, 0), (16, .iastore, 0, 0, 0), (17, .aload_n 0, 0, 0, 0), (18, .getfield 28, 8, 8, 2), (21, .iload_n 1, 0, 0, 0), (22, .dup2, 0, 0, 0), (23, .iaload, 0, 0, 0), (24, .iconst 1, 0, 0, 0), (25, .iadd, 0, 0, 0), (26, .iastore, 0, 0, 0), (27, .iconst 0, 0, 0, 0), (28, .ireturn, 0, 0, 0), (29, .aload_n 0, 0, 0, 0), (30, .getfield 25, 8, 7, 2), (33, .iload_n 1, 0, 0, 0), (34, .dup2, 0, 0, 0), (35, .iaload, 0, 0, 0), (36, .iload_n 2, 0, 0, 0), (37, .isub, 0, 0, 0), (38, .iastore, 0, 0, 0), (39, .iconst 1, 0, 0, 0), (40, .ireturn, 0, 0, 0)]
def acX9_init : AC := [(0, .aload_n 0, 0, 0, 0), (1, .invokespecial 3, 0, 14, 0), (4, .aload_n 0, 0, 0, 0), (5, .bipush 80, 0, 0, 0), (7, .newarray .char, 2, 0, 0), (9, .putfield 9, 9, 0, 2), (12, .return_, 0, 0, 0)]
def acX9_append : AC := [(0, .aload_n 0, 0, 0, 0), (1, .getfield 15, 9, 1, 0), (4, .bipush 80, 0, 0, 0), (6, .if_icmp .ge 23, 0, 0, 0), (9, .aload_n 0, 0, 0, 0), (10, .getfield 9, 9, 0, 2), (13, .aload_n 0, 0, 0, 0), (14, .getfield 15, 9, 1, 0), (17, .iload_n 1, 0, 0, 0), (18, .castore, 0, 0, 0), (19, .aload_n 0, 0, 0, 0), (20, .dup, 0, 0, 0), (21, .getfield 15, 9, 1, 0), (24, .iconst 1, 0, 0, 0), (25, .iadd, 0, 0, 0), (26, .putfield 15, 9, 1, 0), (29, .return_, 0, 0, 0)]
def acX9_open : AC := [(0, .aload_n 0, 0, 0, 0), (1, .iconst 0, 0, 0, 0), (2, .putfield 19, 9, 2, 0), (5, .aload_n 0, 0, 0, 0), (6, .aload_n 0, 0, 0, 0), (7, .getfield 15, 9, 1, 0), (10, .iload_n 1, 0, 0, 0), (11, .invokestatic 22, 0, 11, 0), (14, .putfield 28, 9, 3, 0), (17, .aload_n 0, 0, 0, 0), (18, .aload_n 0, 0, 0, 0), (19, .getfield 15, 9, 1, 0), (22, .iload_n 1, 0, 0, 0), (23, .if_icmp .le 7, 0, 0, 0), (26, .iconst 1, 0, 0, 0), (27, .goto 4, 0, 0, 0), (30, .iconst 0, 0, 0, 0), (31, .putfield 31, 9, 4, 3), (34, .aload_n 0, 0, 0, 0), (35, .iconst 0, 0, 0, 0), (36, .putfield 35, 9, 5, 3), (39, .return_, 0, 0, 0)]
def acX9_ended : AC := [(0, .aload_n 0, 0, 0, 0), (1, .getfield 19, 9, 2, 0), (4, .aload_n 0, 0, 0, 0), (5, .getfield 28, 9, 3, 0), (8, .if_icmp .lt 7, 0, 0, 0), (11, .iconst 1, 0, 0, 0), (12, .goto 4, 0, 0, 0), (15, .iconst 0, 0, 0, 0), (16, .ireturn, 0, 0, 0)]
def acX9_next : AC := [(0, .aload_n 0, 0, 0, 0), (1, .getfield 19, 9, 2, 0), (4, .ifCond .lt 35, 0, 0, 0), (7, .aload_n 0, 0, 0, 0), (8, .getfield 19, 9, 2, 0), (11, .aload_n 0, 0, 0, 0), (12, .getfield 28, 9, 3, 0), (15, .if_icmp .ge 24, 0, 0, 0), (18, .aload_n 0, 0, 0, 0), (19, .getfield 19, 9, 2, 0), (22, .bipush 80, 0, 0, 0), (24, .if_icmp .ge 15, 0, 0, 0), (27, .aload_n 0, 0, 0, 0), (28, .getfield 9, 9, 0, 2), (31, .aload_n 0, 0, 0, 0), (32, .getfield 19, 9, 2, 0), (35, .caload, 0, 0, 0), (36, .goto 4, 0, 0, 0), (39, .iconst (-1), 0, 0, 0), (40, .ireturn, 0, 0, 0)]
def acX9_take : AC := [(0, .aload_n 0, 0, 0, 0), (1, .invokevirtual 38, 57, 0, 901), (4, .iload_n 1, 0, 0, 0), (5, .if_icmp .eq 5, 0, 0, 0), (8, .iconst 0, 0, 0, 0), (9, .ireturn, 0, 0, 0), (10, .aload_n 0, 0, 0, 0), (11, .dup, 0, 0, 0), (12, .getfield 19, 9, 2, 0), (15, .iconst 1, 0, 0, 0), (16, .iadd, 0, 0, 0), (17, .putfield 19, 9, 2, 0), (20, .iconst 1, 0, 0, 0), (21, .ireturn, 0, 0, 0)]
def acX9_takeNumber : AC := [(0, .iconst 0, 0, 0, 0), (1, .istore_n 2, 0, 0, 0), (2, .iconst 0, 0, 0, 0), (3, .istore_n 3, 0, 0, 0), (4, .iload_n 3, 0, 0, 0), (5, .iload_n 1, 0, 0, 0), (6, .if_icmp .ge 42, 0, 0, 0), (9, .aload_n 0, 0, 0, 0), (10, .invokevirtual 38, 57, 0, 901), (13, .invokestatic 42, 110, 3, 1), (16, .ifCond .eq 32, 0, 0, 0), (19, .iload_n 2, 0, 0, 0), (20, .bipush 10, 0, 0, 0), (22, .imul, 0, 0, 0), (23, .aload_n 0, 0, 0, 0), (24, .invokevirtual 38, 57, 0, 901), (27, .iadd, 0, 0, 0), (28, .bipush 48, 0, 0, 0), (30, .isub, 0, 0, 0), (31, .istore_n 2, 0, 0, 0), (32, .aload_n 0, 0, 0, 0), (33, .dup, 0, 0, 0), (34, .getfield 19, 9, 2, 0), (37, .iconst 1, 0, 0, 0), (38, .iadd, 0, 0, 0), (39, .putfield 19, 9, 2, 0), (42, .iinc 3 1, 0, 0, 0), (45, .goto (-41), 0, 0, 0), (48, .aload_n 0, 0, 0, 0), (49, .iload_n 3, 0, 0, 0), (50, .iload_n 1, 0, 0, 0), (51, .if_icmp .ge 21, 0, 0, 0), (54, .aload_n 0, 0, 0, 0), (55, .getfield 31, 9, 4, 3), (58, .ifCond .eq 14, 0, 0, 0), (61, .aload_n 0, 0, 0, 0), (62, .invokevirtual 46, 56, 0, 901), (65, .ifCond .eq 7, 0, 0, 0), (68, .iconst 1, 0, 0, 0), (69, .goto 4, 0, 0, 0), (72, .iconst 0, 0, 0, 0), (73, .putfield 35, 9, 5, 3), (76, .iload_n 3, 0, 0, 0), (77, .ifCond .ne 7, 0, 0, 0), (80, .iconst (-1), 0, 0, 0), (81, .goto 4, 0, 0, 0), (84, .iload_n 2, 0, 0, 0), (85, .ireturn, 0, 0, 0)]
def acX9_faultAtEnd : AC := [(0, .aload_n 0, 0, 0, 0), (1, .getfield 31, 9, 4, 3), (4, .ifCond .eq 10, 0, 0, 0), (7, .aload_n 0, 0, 0, 0), (8, .getfield 28, 9, 3, 0), (11, .goto 4, 0, 0, 0), (14, .iconst (-1), 0, 0, 0), (15, .ireturn, 0, 0, 0)]
def acX10_init : AC := [(0, .aload_n 0, 0, 0, 0), (1, .invokespecial 1, 0, 14, 0), (4, .aload_n 0, 0, 0, 0), (5, .new 7, 9, 0, 0), (8, .dup, 0, 0, 0), (9, .invokespecial 9, 53, 4, 1), (12, .putfield 10, 10, 0, 2), (15, .aload_n 0, 0, 0, 0), (16, .new 16, 3, 0, 0), (19, .dup, 0, 0, 0), (20, .invokespecial 18, 16, 4, 1), (23, .putfield 19, 10, 1, 2), (26, .aload_n 0, 0, 0, 0), (27, .new 23, 6, 0, 0), (30, .dup, 0, 0, 0), (31, .invokespecial 25, 36, 4, 1), (34, .putfield 26, 10, 2, 2), (37, .aload_n 0, 0, 0, 0), (38, .new 23, 6, 0, 0), (41, .dup, 0, 0, 0), (42, .invokespecial 25, 36, 4, 1), (45, .putfield 30, 10, 3, 2), (48, .aload_n 0, 0, 0, 0), (49, .new 33, 4, 0, 0), (52, .dup, 0, 0, 0), (53, .invokespecial 35, 22, 4, 1), (56, .putfield 36, 10, 4, 2), (59, .aload_n 0, 0, 0, 0), (60, .new 33, 4, 0, 0), (63, .dup, 0, 0, 0), (64, .invokespecial 35, 22, 4, 1), (67, .putfield 40, 10, 5, 2), (70, .aload_n 0, 0, 0, 0), (71, .new 43, 5, 0, 0), (74, .dup, 0, 0, 0), (75, .invokespecial 45, 29, 4, 1), (78, .putfield 46, 10, 6, 2), (81, .aload_n 0, 0, 0, 0), (82, .new 50, 2, 0, 0), (85, .dup, 0, 0, 0), (86, .invokespecial 52, 14, 4, 1), (89, .putfield 53, 10, 7, 2), (92, .aload_n 0, 0, 0, 0), (93, .bipush 8, 0, 0, 0), (95, .newarray .int, 0, 0, 0), (97, .putfield 57, 10, 8, 2), (100, .aload_n 0, 0, 0, 0), (101, .iconst 0, 0, 0, 0), (102, .putfield 61, 10, 9, 0), (105, .aload_n 0, 0, 0, 0), (106, .new 65, 8, 0, 0), (109, .dup, 0, 0, 0), (110, .invokespecial 67, 46, 4, 1), (113, .putfield 68, 10, 10, 2), (116, .aload_n 0, 0, 0, 0), (117, .new 65, 8, 0, 0), (120, .dup, 0, 0, 0), (121, .invokespecial 67, 46, 4, 1), (124, .putfield 72, 10, 11, 2), (127, .aload_n 0, 0, 0, 0), (128, .new 75, 1, 0, 0), (131, .dup, 0, 0, 0), (132, .invokespecial 77, 10, 2, 1), (135, .putfield 78, 10, 12, 2), (138, .aload_n 0, 0, 0, 0), (139, .new 82, 0, 0, 0), (142, .dup, 0, 0, 0), (143, .invokespecial 84, 0, 4, 1), (146, .putfield 85, 10, 13, 2), (149, .aload_n 0, 0, 0, 0), (150, .new 89, 7, 0, 0), (153, .dup, 0, 0, 0), (154, .invokespecial 91, 39, 2, 1), (157, .putfield 92, 10, 14, 2), (160, .aload_n 0, 0, 0, 0), (161, .bipush 9, 0, 0, 0), (163, .newarray .int, 0, 0, 0), (165, .putfield 96, 10, 15, 2), (168, .aload_n 0, 0, 0, 0), (169, .bipush 8, 0, 0, 0), (171, .bipush 9, 0, 0, 0), (173, .multianewarray 99 2, 5, 0, 0), (177, .putfield 101, 10, 16, 2), (180, .return_, 0, 0, 0)]
def acX10_sign : AC := [(0, .aload_n 0, 0, 0, 0), (1, .getfield 10, 10, 0, 2), (4, .getfield 104, 9, 1, 0), (7, .iconst 4, 0, 0, 0), (8, .iadd, 0, 0, 0), (9, .bipush 80, 0, 0, 0), (11, .if_icmp .le 5, 0, 0, 0), (14, .iconst (-1), 0, 0, 0), (15, .ireturn, 0, 0, 0), (16, .bipush 24, 0, 0, 0), (18, .istore_n 2, 0, 0, 0), (19, .iload_n 2, 0, 0, 0), (20, .ifCond .lt 24, 0, 0, 0), (23, .aload_n 0, 0, 0, 0), (24, .getfield 10, 10, 0, 2), (27, .iload_n 1, 0, 0, 0), (28, .iload_n 2, 0, 0, 0), (29, .iushr, 0, 0, 0), (30, .sipush 255, 0, 0, 0), (33, .iand, 0, 0, 0), (34, .i2c, 0, 0, 0), (35, .invokevirtual 107, 54, 0, 902), (38, .iinc 2 (-8), 0, 0, 0), (41, .goto (-22), 0, 0, 0), (44, .aload_n 0, 0, 0, 0), (45, .getfield 10, 10, 0, 2), (48, .getfield 104, 9, 1, 0), (51, .ireturn, 0, 0, 0)]
def acX10_end : AC := [(0, .iload_n 1, 0, 0, 0), (1, .ifCond .lt 14, 0, 0, 0), (4, .iload_n 1, 0, 0, 0), (5, .aload_n 0, 0, 0, 0), (6, .getfield 10, 10, 0, 2), (9, .getfield 104, 9, 1, 0), (12, .if_icmp .le 5, 0, 0, 0), (15, .iconst 0, 0, 0, 0), (16, .ireturn, 0, 0, 0), (17, .aload_n 0, 0, 0, 0), (18, .getfield 10, 10, 0, 2), (21, .iload_n 1, 0, 0, 0), (22, .putfield 104, 9, 1, 0), (25, .iconst 1, 0, 0, 0), (26, .ireturn, 0, 0, 0)]
def acX10_ship : AC := [(0, .aload_n 0, 0, 0, 0), (1, .getfield 10, 10, 0, 2), (4, .bipush 43, 0, 0, 0), (6, .invokevirtual 111, 55, 0, 902), (9, .aload_n 0, 0, 0, 0), (10, .getfield 30, 10, 3, 2), (13, .aload_n 0, 0, 0, 0), (14, .getfield 10, 10, 0, 2), (17, .invokevirtual 115, 37, 0, 602), (20, .istore_n 1, 0, 0, 0), (21, .aload_n 0, 0, 0, 0), (22, .getfield 10, 10, 0, 2), (25, .iconst 0, 0, 0, 0), (26, .putfield 104, 9, 1, 0), (29, .iload_n 1, 0, 0, 0), (30, .iconst (-1), 0, 0, 0), (31, .if_icmp .eq 7, 0, 0, 0), (34, .iconst (-1), 0, 0, 0), (35, .iload_n 1, 0, 0, 0), (36, .isub, 0, 0, 0), (37, .ireturn, 0, 0, 0), (38, .aload_n 0, 0, 0, 0), (39, .getfield 26, 10, 2, 2), (42, .astore_n 2, 0, 0, 0), (43, .aload_n 0, 0, 0, 0), (44, .aload_n 0, 0, 0, 0), (45, .getfield 30, 10, 3, 2), (48, .putfield 26, 10, 2, 2), (51, .aload_n 0, 0, 0, 0), (52, .aload_n 2, 0, 0, 0), (53, .putfield 30, 10, 3, 2), (56, .aload_n 0, 0, 0, 0), (57, .getfield 26, 10, 2, 2), (60, .getfield 119, 6, 1, 0), (63, .ireturn, 0, 0, 0)]
def acX10_rocks : AC := [(0, .aload_n 0, 0, 0, 0), (1, .getfield 10, 10, 0, 2), (4, .getfield 104, 9, 1, 0), (7, .ifCond .ne 5, 0, 0, 0), (10, .iconst 0, 0, 0, 0), (11, .ireturn, 0, 0, 0), (12, .aload_n 0, 0, 0, 0), (13, .getfield 10, 10, 0, 2), (16, .bipush 76, 0, 0, 0), (18, .invokevirtual 111, 55, 0, 902), (21, .aload_n 0, 0, 0, 0), (22, .getfield 53, 10, 7, 2), (25, .getfield 122, 2, 0, 0), (28, .istore_n 1, 0, 0, 0), (29, .aload_n 0, 0, 0, 0), (30, .getfield 53, 10, 7, 2), (33, .aload_n 0, 0, 0, 0), (34, .getfield 10, 10, 0, 2), (37, .invokevirtual 125, 15, 0, 202), (40, .istore_n 2, 0, 0, 0), (41, .aload_n 0, 0, 0, 0), (42, .getfield 10, 10, 0, 2), (45, .iconst 0, 0, 0, 0), (46, .putfield 104, 9, 1, 0), (49, .iload_n 2, 0, 0, 0), (50, .iconst (-1), 0, 0, 0), (51, .if_icmp .eq 7, 0, 0, 0), (54, .iconst (-1), 0, 0, 0), (55, .iload_n 2, 0, 0, 0), (56, .isub, 0, 0, 0), (57, .ireturn, 0, 0, 0), (58, .aload_n 0, 0, 0, 0), (59, .getfield 53, 10, 7, 2), (62, .getfield 122, 2, 0, 0), (65, .iload_n 1, 0, 0, 0), (66, .isub, 0, 0, 0), (67, .ireturn, 0, 0, 0)]
def acX10_messes : AC := [(0, .aload_n 0, 0, 0, 0), (1, .getfield 10, 10, 0, 2), (4, .getfield 104, 9, 1, 0), (7, .ifCond .ne 5, 0, 0, 0), (10, .iconst 0, 0, 0, 0), (11, .ireturn, 0, 0, 0), (12, .aload_n 0, 0, 0, 0), (13, .getfield 10, 10, 0, 2), (16, .bipush 39, 0, 0, 0), (18, .invokevirtual 111, 55, 0, 902), (21, .aload_n 0, 0, 0, 0), (22, .getfield 61, 10, 9, 0), (25, .istore_n 1, 0, 0, 0), (26, .aload_n 0, 0, 0, 0), (27, .invokevirtual 126, 111, 0, 1001), (30, .istore_n 2, 0, 0, 0), (31, .aload_n 0, 0, 0, 0), (32, .getfield 10, 10, 0, 2), (35, .iconst 0, 0, 0, 0), (36, .putfield 104, 9, 1, 0), (39, .iload_n 2, 0, 0, 0), (40, .iconst (-1), 0, 0, 0), (41, .if_icmp .eq 7, 0, 0, 0), (44, .iconst (-1), 0, 0, 0), (45, .iload_n 2, 0, 0, 0), (46, .isub, 0, 0, 0), (47, .ireturn, 0, 0, 0), (48, .aload_n 0, 0, 0, 0), (49, .getfield 78, 10, 12, 2), (52, .invokevirtual 130, 13, 0, 101), (55, .aload_n 0, 0, 0, 0), (56, .getfield 61, 10, 9, 0), (59, .iload_n 1, 0, 0, 0), (60, .isub, 0, 0, 0), (61, .ireturn, 0, 0, 0)]
def acX10_rule : AC := [(0, .aload_n 0, 0, 0, 0), (1, .getfield 10, 10, 0, 2), (4, .getfield 104, 9, 1, 0), (7, .ifCond .ne 13, 0, 0, 0), (10, .aload_n 0, 0, 0, 0), (11, .getfield 36, 10, 4, 2), (14, .iconst 0, 0, 0, 0), (15, .putfield 133, 4, 1, 0), (18, .iconst 0, 0, 0, 0), (19, .ireturn, 0, 0, 0), (20, .aload_n 0, 0, 0, 0), (21, .getfield 10, 10, 0, 2), (24, .bipush 40, 0, 0, 0), (26, .invokevirtual 111, 55, 0, 902), (29, .aload_n 0, 0, 0, 0), (30, .getfield 46, 10, 6, 2), (33, .aload_n 0, 0, 0, 0), (34, .getfield 10, 10, 0, 2), (37, .aload_n 0, 0, 0, 0), (38, .getfield 40, 10, 5, 2), (41, .invokevirtual 134, 30, 0, 503), (44, .istore_n 1, 0, 0, 0), (45, .aload_n 0, 0, 0, 0), (46, .getfield 10, 10, 0, 2), (49, .iconst 0, 0, 0, 0), (50, .putfield 104, 9, 1, 0), (53, .iload_n 1, 0, 0, 0), (54, .iconst (-1), 0, 0, 0), (55, .if_icmp .eq 7, 0, 0, 0), (58, .iconst (-1), 0, 0, 0), (59, .iload_n 1, 0, 0, 0), (60, .isub, 0, 0, 0), (61, .ireturn, 0, 0, 0), (62, .aload_n 0, 0, 0, 0), (63, .getfield 36, 10, 4, 2), (66, .astore_n 2, 0, 0, 0), (67, .aload_n 0, 0, 0, 0), (68, .aload_n 0, 0, 0, 0), (69, .getfield 40, 10, 5, 2), (72, .putfield 36, 10, 4, 2), (75, .aload_n 0, 0, 0, 0), (76, .aload_n 2, 0, 0, 0), (77, .putfield 40, 10, 5, 2), (80, .iconst 0, 0, 0, 0), (81, .ireturn, 0, 0, 0)]
def acX10_sheet : AC := [(0, .iload_n 1, 0, 0, 0), (1, .ifCond .lt 14, 0, 0, 0), (4, .iload_n 1, 0, 0, 0), (5, .iconst 3, 0, 0, 0), (6, .if_icmp .gt 9, 0, 0, 0), (9, .iload_n 2, 0, 0, 0), (10, .bipush 8, 0, 0, 0), (12, .if_icmp .le 5, 0, 0, 0), (15, .iconst (-1), 0, 0, 0), (16, .ireturn, 0, 0, 0), (17, .iload_n 1, 0, 0, 0), (18, .iconst 3, 0, 0, 0), (19, .if_icmp .ge 10, 0, 0, 0), (22, .iload_n 2, 0, 0, 0), (23, .ifCond .ge 6, 0, 0, 0), (26, .bipush (-2), 0, 0, 0), (28, .ireturn, 0, 0, 0), (29, .iload_n 1, 0, 0, 0), (30, .iconst 3, 0, 0, 0), (31, .if_icmp .ne 7, 0, 0, 0), (34, .iconst 0, 0, 0, 0), (35, .goto 4, 0, 0, 0), (38, .iload_n 2, 0, 0, 0), (39, .istore 5, 0, 0, 0), (41, .iconst 0, 0, 0, 0), (42, .istore 6, 0, 0, 0), (44, .iconst 0, 0, 0, 0), (45, .istore 7, 0, 0, 0), (47, .iload 7, 0, 0, 0), (49, .aload_n 0, 0, 0, 0), (50, .getfield 61, 10, 9, 0), (53, .if_icmp .ge 56, 0, 0, 0), (56, .aload_n 0, 0, 0, 0), (57, .getfield 57, 10, 8, 2), (60, .iload 7, 0, 0, 0), (62, .iload 7, 0, 0, 0), (64, .iload 5, 0, 0, 0), (66, .if_icmp .ge 23, 0, 0, 0), (69, .iload_n 1, 0, 0, 0), (70, .iload_n 3, 0, 0, 0), (71, .iload 7, 0, 0, 0), (73, .iload 4, 0, 0, 0), (75, .imul, 0, 0, 0), (76, .iadd, 0, 0, 0), (77, .invokestatic 170, 115, 1, 2), (80, .iconst 0, 0, 0, 0), (81, .bipush 9, 0, 0, 0), (83, .invokestatic 174, 114, 1, 3), (86, .goto 4, 0, 0, 0), (89, .iconst 0, 0, 0, 0), (90, .iastore, 0, 0, 0), (91, .iload 6, 0, 0, 0), (93, .aload_n 0, 0, 0, 0), (94, .getfield 57, 10, 8, 2), (97, .iload 7, 0, 0, 0), (99, .iaload, 0, 0, 0), (100, .iadd, 0, 0, 0), (101, .istore 6, 0, 0, 0), (103, .iinc 7 1, 0, 0, 0), (106, .goto (-59), 0, 0, 0), (109, .iload_n 1, 0, 0, 0), (110, .iconst 3, 0, 0, 0), (111, .if_icmp .ne 8, 0, 0, 0), (114, .bipush (-3), 0, 0, 0), (116, .goto 5, 0, 0, 0), (119, .iload 6, 0, 0, 0), (121, .ireturn, 0, 0, 0)]
def acX10_delay : AC := [(0, .aload_n 0, 0, 0, 0), (1, .aload_n 0, 0, 0, 0), (2, .getfield 68, 10, 10, 2), (5, .getfield 164, 8, 0, 0), (8, .invokevirtual 178, 117, 0, 1002), (11, .ireturn, 0, 0, 0)]
def acX10_order : AC := [(0, .iload_n 1, 0, 0, 0), (1, .iconst (-1), 0, 0, 0), (2, .if_icmp .lt 8, 0, 0, 0), (5, .iload_n 1, 0, 0, 0), (6, .iconst 1, 0, 0, 0), (7, .if_icmp .le 5, 0, 0, 0), (10, .iconst (-1), 0, 0, 0), (11, .ireturn, 0, 0, 0), (12, .aload_n 0, 0, 0, 0), (13, .invokevirtual 182, 118, 0, 1001), (16, .istore_n 2, 0, 0, 0), (17, .iload_n 2, 0, 0, 0), (18, .ifCond .eq 5, 0, 0, 0), (21, .iload_n 2, 0, 0, 0), (22, .ireturn, 0, 0, 0), (23, .aload_n 0, 0, 0, 0), (24, .getfield 78, 10, 12, 2), (27, .aload_n 0, 0, 0, 0), (28, .getfield 68, 10, 10, 2), (31, .invokevirtual 185, 11, 0, 102), (34, .aload_n 0, 0, 0, 0), (35, .iload_n 1, 0, 0, 0), (36, .invokevirtual 189, 119, 0, 1002), (39, .ireturn, 0, 0, 0)]
def acX10_pass : AC := [(0, .aload_n 0, 0, 0, 0), (1, .iload_n 1, 0, 0, 0), (2, .iload_n 2, 0, 0, 0), (3, .iload_n 3, 0, 0, 0), (4, .invokevirtual 192, 120, 0, 1004), (7, .istore 4, 0, 0, 0), (9, .iload 4, 0, 0, 0), (11, .ifCond .eq 6, 0, 0, 0), (14, .iload 4, 0, 0, 0), (16, .ireturn, 0, 0, 0), (17, .aload_n 0, 0, 0, 0), (18, .getfield 78, 10, 12, 2), (21, .aload_n 0, 0, 0, 0), (22, .getfield 68, 10, 10, 2), (25, .invokevirtual 185, 11, 0, 102), (28, .aload_n 0, 0, 0, 0), (29, .iload_n 1, 0, 0, 0), (30, .iload_n 2, 0, 0, 0), (31, .iload_n 3, 0, 0, 0), (32, .invokevirtual 195, 121, 0, 1004), (35, .aload_n 0, 0, 0, 0), (36, .getfield 68, 10, 10, 2), (39, .getfield 152, 8, 7, 2), (42, .iload_n 1, 0, 0, 0), (43, .iaload, 0, 0, 0), (44, .ireturn, 0, 0, 0)]
def acX10_cook : AC := [(0, .iload_n 1, 0, 0, 0), (1, .ifCond .lt 21, 0, 0, 0), (4, .iload_n 1, 0, 0, 0), (5, .aload_n 0, 0, 0, 0), (6, .getfield 61, 10, 9, 0), (9, .if_icmp .ge 13, 0, 0, 0), (12, .iload_n 2, 0, 0, 0), (13, .ifCond .lt 9, 0, 0, 0), (16, .iload_n 2, 0, 0, 0), (17, .bipush 99, 0, 0, 0), (19, .if_icmp .le 5, 0, 0, 0), (22, .iconst (-1), 0, 0, 0), (23, .ireturn, 0, 0, 0), (24, .aload_n 0, 0, 0, 0), (25, .getfield 78, 10, 12, 2), (28, .aload_n 0, 0, 0, 0), (29, .getfield 68, 10, 10, 2), (32, .invokevirtual 185, 11, 0, 102), (35, .aload_n 0, 0, 0, 0), (36, .getfield 68, 10, 10, 2), (39, .getfield 152, 8, 7, 2), (42, .iload_n 1, 0, 0, 0), (43, .iaload, 0, 0, 0), (44, .istore_n 3, 0, 0, 0), (45, .aload_n 0, 0, 0, 0), (46, .getfield 68, 10, 10, 2), (49, .getfield 152, 8, 7, 2), (52, .iload_n 1, 0, 0, 0), (53, .iload_n 2, 0, 0, 0), (54, .iastore, 0, 0, 0), (55, .iload_n 3, 0, 0, 0), (56, .ireturn, 0, 0, 0)]
def acX10_steps : AC := [(0, .iload_n 1, 0, 0, 0), (1, .ifCond .lt 9, 0, 0, 0), (4, .iload_n 1, 0, 0, 0), (5, .bipush 60, 0, 0, 0), (7, .if_icmp .le 5, 0, 0, 0), (10, .iconst (-1), 0, 0, 0), (11, .ireturn, 0, 0, 0), (12, .aload_n 0, 0, 0, 0), (13, .getfield 78, 10, 12, 2), (16, .aload_n 0, 0, 0, 0), (17, .getfield 68, 10, 10, 2), (20, .invokevirtual 185, 11, 0, 102), (23, .aload_n 0, 0, 0, 0), (24, .getfield 68, 10, 10, 2), (27, .getfield 199, 8, 2, 0), (30, .istore_n 2, 0, 0, 0), (31, .iconst 0, 0, 0, 0), (32, .istore_n 3, 0, 0, 0), (33, .iconst 0, 0, 0, 0), (34, .istore 4, 0, 0, 0), (36, .iload 4, 0, 0, 0), (38, .iload_n 1, 0, 0, 0), (39, .if_icmp .ge 16, 0, 0, 0), (42, .iload_n 3, 0, 0, 0), (43, .aload_n 0, 0, 0, 0), (44, .invokevirtual 202, 122, 0, 1001), (47, .iadd, 0, 0, 0), (48, .istore_n 3, 0, 0, 0), (49, .iinc 4 1, 0, 0, 0), (52, .goto (-16), 0, 0, 0), (55, .aload_n 0, 0, 0, 0), (56, .getfield 19, 10, 1, 2), (59, .aload_n 0, 0, 0, 0), (60, .getfield 68, 10, 10, 2), (63, .getfield 199, 8, 2, 0), (66, .iload_n 2, 0, 0, 0), (67, .isub, 0, 0, 0), (68, .i2l, 0, 0, 0), (69, .iload_n 3, 0, 0, 0), (70, .i2l, 0, 0, 0), (71, .invokevirtual 205, 20, 0, 303), (74, .aload_n 0, 0, 0, 0), (75, .getfield 68, 10, 10, 2), (78, .getfield 209, 8, 1, 0), (81, .ireturn, 0, 0, 0)]
def acX10_voyage : AC := [(0, .aload_n 0, 0, 0, 0), (1, .getfield 10, 10, 0, 2), (4, .bipush 60, 0, 0, 0), (6, .invokevirtual 111, 55, 0, 902), (9, .aload_n 0, 0, 0, 0), (10, .invokevirtual 212, 112, 0, 1001), (13, .istore_n 1, 0, 0, 0), (14, .iload_n 1, 0, 0, 0), (15, .iconst (-1), 0, 0, 0), (16, .if_icmp .eq 15, 0, 0, 0), (19, .aload_n 0, 0, 0, 0), (20, .getfield 10, 10, 0, 2), (23, .iconst 0, 0, 0, 0), (24, .putfield 104, 9, 1, 0), (27, .iconst (-1), 0, 0, 0), (28, .iload_n 1, 0, 0, 0), (29, .isub, 0, 0, 0), (30, .ireturn, 0, 0, 0), (31, .aload_n 0, 0, 0, 0), (32, .getfield 72, 10, 11, 2), (35, .aload_n 0, 0, 0, 0), (36, .getfield 68, 10, 10, 2), (39, .invokevirtual 215, 47, 0, 802), (42, .aload_n 0, 0, 0, 0), (43, .getfield 10, 10, 0, 2), (46, .bipush 60, 0, 0, 0), (48, .invokevirtual 111, 55, 0, 902), (51, .iconst 0, 0, 0, 0), (52, .istore_n 2, 0, 0, 0), (53, .iconst 0, 0, 0, 0), (54, .istore_n 3, 0, 0, 0), (55, .iconst 0, 0, 0, 0), (56, .istore 4, 0, 0, 0), (58, .iload 4, 0, 0, 0), (60, .bipush 60, 0, 0, 0), (62, .if_icmp .ge 48, 0, 0, 0), (65, .iload_n 3, 0, 0, 0), (66, .ifCond .ne 44, 0, 0, 0), (69, .aload_n 0, 0, 0, 0), (70, .getfield 10, 10, 0, 2), (73, .invokevirtual 218, 56, 0, 901), (76, .ifCond .ne 34, 0, 0, 0), (79, .aload_n 0, 0, 0, 0), (80, .invokevirtual 222, 113, 0, 1001), (83, .ifCond .ne 7, 0, 0, 0), (86, .iconst 1, 0, 0, 0), (87, .goto 4, 0, 0, 0), (90, .iconst 0, 0, 0, 0), (91, .istore_n 3, 0, 0, 0), (92, .iload_n 2, 0, 0, 0), (93, .iload_n 3, 0, 0, 0), (94, .ifCond .eq 7, 0, 0, 0), (97, .iconst 0, 0, 0, 0), (98, .goto 4, 0, 0, 0), (101, .iconst 1, 0, 0, 0), (102, .iadd, 0, 0, 0), (103, .istore_n 2, 0, 0, 0), (104, .iinc 4 1, 0, 0, 0), (107, .goto (-49), 0, 0, 0), (110, .aload_n 0, 0, 0, 0), (111, .getfield 10, 10, 0, 2), (114, .iconst 0, 0, 0, 0), (115, .putfield 104, 9, 1, 0), (118, .iload_n 2, 0, 0, 0), (119, .ifCond .le 14, 0, 0, 0), (122, .aload_n 0, 0, 0, 0), (123, .getfield 78, 10, 12, 2), (126, .aload_n 0, 0, 0, 0), (127, .getfield 72, 10, 11, 2), (130, .invokevirtual 185, 11, 0, 102), (133, .aload_n 0, 0, 0, 0), (134, .getfield 19, 10, 1, 2), (137, .iload_n 3, 0, 0, 0), (138, .ifCond .eq 7, 0, 0, 0), (141, .lconst 1, 0, 0, 0), (142, .goto 4, 0, 0, 0), (145, .lconst 0, 0, 0, 0), (146, .aload_n 0, 0, 0, 0), (147, .getfield 68, 10, 10, 2), (150, .getfield 199, 8, 2, 0), (153, .aload_n 0, 0, 0, 0), (154, .getfield 72, 10, 11, 2), (157, .getfield 199, 8, 2, 0), (160, .isub, 0, 0, 0), (161, .i2l, 0, 0, 0), (162, .invokevirtual 205, 20, 0, 303), (165, .iload_n 2, 0, 0, 0), (166, .ireturn, 0, 0, 0)]
def acX10_undo : AC := [(0, .aload_n 0, 0, 0, 0), (1, .getfield 78, 10, 12, 2), (4, .aload_n 0, 0, 0, 0), (5, .getfield 68, 10, 10, 2), (8, .invokevirtual 225, 12, 0, 102), (11, .ifCond .eq 13, 0, 0, 0), (14, .aload_n 0, 0, 0, 0), (15, .getfield 78, 10, 12, 2), (18, .getfield 229, 1, 2, 0), (21, .goto 4, 0, 0, 0), (24, .iconst (-1), 0, 0, 0), (25, .ireturn, 0, 0, 0)]
def acX10_lane : AC := [(0, .iload_n 1, 0, 0, 0), (1, .ifCond .lt 9, 0, 0, 0), (4, .iload_n 1, 0, 0, 0), (5, .bipush 60, 0, 0, 0), (7, .if_icmp .le 5, 0, 0, 0), (10, .iconst (-1), 0, 0, 0), (11, .ireturn, 0, 0, 0), (12, .iconst 0, 0, 0, 0), (13, .istore_n 2, 0, 0, 0), (14, .iconst 0, 0, 0, 0), (15, .istore_n 3, 0, 0, 0), (16, .iload_n 3, 0, 0, 0), (17, .aload_n 0, 0, 0, 0), (18, .getfield 53, 10, 7, 2), (21, .getfield 122, 2, 0, 0), (24, .if_icmp .ge 64, 0, 0, 0), (27, .aload_n 0, 0, 0, 0), (28, .getfield 53, 10, 7, 2), (31, .getfield 146, 2, 1, 2), (34, .iload_n 3, 0, 0, 0), (35, .iaload, 0, 0, 0), (36, .aload_n 0, 0, 0, 0), (37, .getfield 68, 10, 10, 2), (40, .getfield 164, 8, 0, 0), (43, .isub, 0, 0, 0), (44, .istore 4, 0, 0, 0), (46, .iload 4, 0, 0, 0), (48, .iconst 1, 0, 0, 0), (49, .if_icmp .lt 33, 0, 0, 0), (52, .iload 4, 0, 0, 0), (54, .iload_n 1, 0, 0, 0), (55, .if_icmp .gt 27, 0, 0, 0), (58, .aload_n 0, 0, 0, 0), (59, .getfield 68, 10, 10, 2), (62, .iload 4, 0, 0, 0), (64, .invokevirtual 230, 51, 0, 802), (67, .aload_n 0, 0, 0, 0), (68, .getfield 53, 10, 7, 2), (71, .getfield 149, 2, 2, 2), (74, .iload_n 3, 0, 0, 0), (75, .iaload, 0, 0, 0), (76, .if_icmp .ne 6, 0, 0, 0), (79, .iinc 2 1, 0, 0, 0), (82, .iinc 3 1, 0, 0, 0), (85, .goto (-69), 0, 0, 0), (88, .aload_n 0, 0, 0, 0), (89, .getfield 19, 10, 1, 2), (92, .iload_n 2, 0, 0, 0), (93, .i2l, 0, 0, 0), (94, .invokevirtual 233, 19, 0, 302), (97, .aload_n 0, 0, 0, 0), (98, .getfield 68, 10, 10, 2), (101, .iload_n 1, 0, 0, 0), (102, .invokevirtual 230, 51, 0, 802), (105, .ireturn, 0, 0, 0)]
def acX10_strikes : AC := [(0, .sipush 1000, 0, 0, 0), (3, .istore_n 1, 0, 0, 0), (4, .iconst (-1), 0, 0, 0), (5, .istore_n 2, 0, 0, 0), (6, .iconst 0, 0, 0, 0), (7, .istore_n 3, 0, 0, 0), (8, .iload_n 3, 0, 0, 0), (9, .aload_n 0, 0, 0, 0), (10, .getfield 53, 10, 7, 2), (13, .getfield 122, 2, 0, 0), (16, .if_icmp .ge 66, 0, 0, 0), (19, .aload_n 0, 0, 0, 0), (20, .getfield 53, 10, 7, 2), (23, .getfield 146, 2, 1, 2), (26, .iload_n 3, 0, 0, 0), (27, .iaload, 0, 0, 0), (28, .aload_n 0, 0, 0, 0), (29, .getfield 68, 10, 10, 2), (32, .getfield 164, 8, 0, 0), (35, .isub, 0, 0, 0), (36, .istore 4, 0, 0, 0), (38, .iload 4, 0, 0, 0), (40, .iconst 1, 0, 0, 0), (41, .if_icmp .lt 35, 0, 0, 0), (44, .iload 4, 0, 0, 0), (46, .iload_n 1, 0, 0, 0), (47, .if_icmp .ge 29, 0, 0, 0), (50, .aload_n 0, 0, 0, 0), (51, .getfield 68, 10, 10, 2), (54, .iload 4, 0, 0, 0), (56, .invokevirtual 230, 51, 0, 802), (59, .aload_n 0, 0, 0, 0), (60, .getfield 53, 10, 7, 2), (63, .getfield 149, 2, 2, 2), (66, .iload_n 3, 0, 0, 0), (67, .iaload, 0, 0, 0), (68, .if_icmp .ne 8, 0, 0, 0), (71, .iload 4, 0, 0, 0), (73, .istore_n 1, 0, 0, 0), (74, .iload_n 3, 0, 0, 0), (75, .istore_n 2, 0, 0, 0), (76, .iinc 3 1, 0, 0, 0), (79, .goto (-71), 0, 0, 0), (82, .iload_n 2, 0, 0, 0), (83, .iconst (-1), 0, 0, 0), (84, .if_icmp .ne 6, 0, 0, 0), (87, .bipush (-2), 0, 0, 0), (89, .ireturn, 0, 0, 0), (90, .aload_n 0, 0, 0, 0), (91, .getfield 19, 10, 1, 2), (94, .iload_n 2, 0, 0, 0), (95, .i2l, 0, 0, 0), (96, .invokevirtual 233, 19, 0, 302), (99, .iload_n 1, 0, 0, 0), (100, .ireturn, 0, 0, 0)]
def acX10_clears : AC := [(0, .aload_n 0, 0, 0, 0), (1, .invokevirtual 237, 124, 0, 1001), (4, .aload_n 0, 0, 0, 0), (5, .getfield 85, 10, 13, 2), (8, .aload_n 0, 0, 0, 0), (9, .getfield 68, 10, 10, 2), (12, .aload_n 0, 0, 0, 0), (13, .invokevirtual 240, 123, 0, 1001), (16, .bipush 30, 0, 0, 0), (18, .iconst 0, 0, 0, 0), (19, .invokevirtual 243, 2, 0, 5), (22, .iconst 0, 0, 0, 0), (23, .istore_n 1, 0, 0, 0), (24, .iconst 0, 0, 0, 0), (25, .istore_n 2, 0, 0, 0), (26, .iconst 0, 0, 0, 0), (27, .istore_n 3, 0, 0, 0), (28, .iload_n 3, 0, 0, 0), (29, .aload_n 0, 0, 0, 0), (30, .getfield 53, 10, 7, 2), (33, .getfield 122, 2, 0, 0), (36, .if_icmp .ge 107, 0, 0, 0), (39, .aload_n 0, 0, 0, 0), (40, .getfield 53, 10, 7, 2), (43, .getfield 146, 2, 1, 2), (46, .iload_n 3, 0, 0, 0), (47, .iaload, 0, 0, 0), (48, .aload_n 0, 0, 0, 0), (49, .getfield 68, 10, 10, 2), (52, .getfield 164, 8, 0, 0), (55, .isub, 0, 0, 0), (56, .istore 4, 0, 0, 0), (58, .iload 4, 0, 0, 0), (60, .iconst 1, 0, 0, 0), (61, .if_icmp .lt 76, 0, 0, 0), (64, .aload_n 0, 0, 0, 0), (65, .getfield 85, 10, 13, 2), (68, .getfield 247, 0, 2, 2), (71, .iload 4, 0, 0, 0), (73, .bipush 30, 0, 0, 0), (75, .invokestatic 250, 0, 11, 0), (78, .iaload, 0, 0, 0), (79, .istore 5, 0, 0, 0), (81, .iload 5, 0, 0, 0), (83, .iconst 1, 0, 0, 0), (84, .aload_n 0, 0, 0, 0), (85, .getfield 53, 10, 7, 2), (88, .getfield 149, 2, 2, 2), (91, .iload_n 3, 0, 0, 0), (92, .iaload, 0, 0, 0), (93, .ishl, 0, 0, 0), (94, .iconst (-1), 0, 0, 0), (95, .ixor, 0, 0, 0), (96, .iand, 0, 0, 0), (97, .ifCond .eq 7, 0, 0, 0), (100, .iconst 1, 0, 0, 0), (101, .goto 4, 0, 0, 0), (104, .iconst 0, 0, 0, 0), (105, .istore 6, 0, 0, 0), (107, .iload_n 1, 0, 0, 0), (108, .iload 6, 0, 0, 0), (110, .ifCond .eq 9, 0, 0, 0), (113, .iconst 1, 0, 0, 0), (114, .iload_n 3, 0, 0, 0), (115, .ishl, 0, 0, 0), (116, .goto 4, 0, 0, 0), (119, .iconst 0, 0, 0, 0), (120, .ior, 0, 0, 0), (121, .istore_n 1, 0, 0, 0), (122, .iload_n 2, 0, 0, 0), (123, .iload 6, 0, 0, 0), (125, .ifCond .eq 7, 0, 0, 0), (128, .iconst 0, 0, 0, 0), (129, .goto 6, 0, 0, 0), (132, .iconst 1, 0, 0, 0), (133, .iload_n 3, 0, 0, 0), (134, .ishl, 0, 0, 0), (135, .ior, 0, 0, 0), (136, .istore_n 2, 0, 0, 0), (137, .iinc 3 1, 0, 0, 0), (140, .goto (-112), 0, 0, 0), (143, .aload_n 0, 0, 0, 0), (144, .getfield 19, 10, 1, 2), (147, .iload_n 2, 0, 0, 0), (148, .i2l, 0, 0, 0), (149, .invokevirtual 233, 19, 0, 302), (152, .iload_n 1, 0, 0, 0), (153, .ireturn, 0, 0, 0)]
def acX10_plan : AC := [(0, .iload_n 1, 0, 0, 0), (1, .iconst 1, 0, 0, 0), (2, .if_icmp .lt 9, 0, 0, 0), (5, .iload_n 1, 0, 0, 0), (6, .bipush 30, 0, 0, 0), (8, .if_icmp .le 5, 0, 0, 0), (11, .iconst (-1), 0, 0, 0), (12, .ireturn, 0, 0, 0), (13, .aload_n 0, 0, 0, 0), (14, .invokevirtual 237, 124, 0, 1001), (17, .aload_n 0, 0, 0, 0), (18, .getfield 85, 10, 13, 2), (21, .aload_n 0, 0, 0, 0), (22, .invokevirtual 240, 123, 0, 1001), (25, .iload_n 1, 0, 0, 0), (26, .invokevirtual 255, 4, 0, 3), (29, .aload_n 0, 0, 0, 0), (30, .getfield 85, 10, 13, 2), (33, .aload_n 0, 0, 0, 0), (34, .getfield 68, 10, 10, 2), (37, .iload_n 1, 0, 0, 0), (38, .invokevirtual 259, 5, 0, 3), (41, .istore_n 2, 0, 0, 0), (42, .iload_n 2, 0, 0, 0), (43, .sipush 1000, 0, 0, 0), (46, .if_icmp .lt 6, 0, 0, 0), (49, .bipush (-2), 0, 0, 0), (51, .ireturn, 0, 0, 0), (52, .aload_n 0, 0, 0, 0), (53, .getfield 85, 10, 13, 2), (56, .aload_n 0, 0, 0, 0), (57, .getfield 68, 10, 10, 2), (60, .iload_n 1, 0, 0, 0), (61, .iload_n 2, 0, 0, 0), (62, .invokevirtual 263, 8, 0, 4), (65, .aload_n 0, 0, 0, 0), (66, .getfield 19, 10, 1, 2), (69, .invokevirtual 267, 17, 0, 301), (72, .iconst 0, 0, 0, 0), (73, .istore_n 3, 0, 0, 0), (74, .iload_n 3, 0, 0, 0), (75, .iload_n 1, 0, 0, 0), (76, .if_icmp .ge 26, 0, 0, 0), (79, .aload_n 0, 0, 0, 0), (80, .getfield 19, 10, 1, 2), (83, .aload_n 0, 0, 0, 0), (84, .getfield 85, 10, 13, 2), (87, .getfield 270, 0, 3, 2), (90, .iload_n 3, 0, 0, 0), (91, .iaload, 0, 0, 0), (92, .i2l, 0, 0, 0), (93, .invokevirtual 273, 18, 0, 302), (96, .iinc 3 1, 0, 0, 0), (99, .goto (-25), 0, 0, 0), (102, .iload_n 2, 0, 0, 0), (103, .ireturn, 0, 0, 0)]
def acX10_latest : AC := [(0, .iload_n 1, 0, 0, 0), (1, .iconst 1, 0, 0, 0), (2, .if_icmp .lt 9, 0, 0, 0), (5, .iload_n 1, 0, 0, 0), (6, .bipush 30, 0, 0, 0), (8, .if_icmp .le 5, 0, 0, 0), (11, .iconst (-1), 0, 0, 0), (12, .ireturn, 0, 0, 0), (13, .aload_n 0, 0, 0, 0), (14, .invokevirtual 237, 124, 0, 1001), (17, .iload_n 1, 0, 0, 0), (18, .iconst 1, 0, 0, 0), (19, .isub, 0, 0, 0), (20, .istore_n 2, 0, 0, 0), (21, .iload_n 2, 0, 0, 0), (22, .ifCond .lt 44, 0, 0, 0), (25, .aload_n 0, 0, 0, 0), (26, .getfield 85, 10, 13, 2), (29, .aload_n 0, 0, 0, 0), (30, .getfield 68, 10, 10, 2), (33, .iload_n 2, 0, 0, 0), (34, .aload_n 0, 0, 0, 0), (35, .invokevirtual 240, 123, 0, 1001), (38, .invokestatic 276, 0, 10, 0), (41, .iload_n 1, 0, 0, 0), (42, .iconst 1, 0, 0, 0), (43, .invokevirtual 243, 2, 0, 5), (46, .aload_n 0, 0, 0, 0), (47, .getfield 85, 10, 13, 2), (50, .getfield 247, 0, 2, 2), (53, .iload_n 1, 0, 0, 0), (54, .iaload, 0, 0, 0), (55, .ifCond .eq 5, 0, 0, 0), (58, .iload_n 2, 0, 0, 0), (59, .ireturn, 0, 0, 0), (60, .iinc 2 (-1), 0, 0, 0), (63, .goto (-42), 0, 0, 0), (66, .bipush (-2), 0, 0, 0), (68, .ireturn, 0, 0, 0)]
def acX10_lanes : AC := [(0, .iload_n 1, 0, 0, 0), (1, .ifCond .lt 9, 0, 0, 0), (4, .iload_n 1, 0, 0, 0), (5, .bipush 30, 0, 0, 0), (7, .if_icmp .le 5, 0, 0, 0), (10, .iconst (-1), 0, 0, 0), (11, .ireturn, 0, 0, 0), (12, .aload_n 0, 0, 0, 0), (13, .invokevirtual 237, 124, 0, 1001), (16, .aload_n 0, 0, 0, 0), (17, .getfield 85, 10, 13, 2), (20, .aload_n 0, 0, 0, 0), (21, .getfield 68, 10, 10, 2), (24, .aload_n 0, 0, 0, 0), (25, .invokevirtual 240, 123, 0, 1001), (28, .iload_n 1, 0, 0, 0), (29, .iconst 1, 0, 0, 0), (30, .invokevirtual 243, 2, 0, 5), (33, .aload_n 0, 0, 0, 0), (34, .getfield 19, 10, 1, 2), (37, .aload_n 0, 0, 0, 0), (38, .getfield 85, 10, 13, 2), (41, .getfield 247, 0, 2, 2), (44, .iload_n 1, 0, 0, 0), (45, .iaload, 0, 0, 0), (46, .invokestatic 279, 252, 1, 1), (49, .i2l, 0, 0, 0), (50, .invokevirtual 233, 19, 0, 302), (53, .aload_n 0, 0, 0, 0), (54, .getfield 85, 10, 13, 2), (57, .getfield 247, 0, 2, 2), (60, .iload_n 1, 0, 0, 0), (61, .iaload, 0, 0, 0), (62, .ireturn, 0, 0, 0)]
def acX10_safest : AC := [(0, .iload_n 1, 0, 0, 0), (1, .iconst 1, 0, 0, 0), (2, .if_icmp .lt 10, 0, 0, 0), (5, .iload_n 1, 0, 0, 0), (6, .sipush 999, 0, 0, 0), (9, .if_icmp .le 5, 0, 0, 0), (12, .iconst (-1), 0, 0, 0), (13, .ireturn, 0, 0, 0), (14, .aload_n 0, 0, 0, 0), (15, .getfield 68, 10, 10, 2), (18, .getfield 209, 8, 1, 0), (21, .istore_n 2, 0, 0, 0), (22, .aload_n 0, 0, 0, 0), (23, .aload_n 0, 0, 0, 0), (24, .getfield 68, 10, 10, 2), (27, .getfield 209, 8, 1, 0), (30, .iload_n 1, 0, 0, 0), (31, .invokevirtual 284, 125, 0, 1003), (34, .istore_n 3, 0, 0, 0), (35, .iload_n 3, 0, 0, 0), (36, .istore 4, 0, 0, 0), (38, .iconst 0, 0, 0, 0), (39, .istore 5, 0, 0, 0), (41, .iload 5, 0, 0, 0), (43, .bipush 8, 0, 0, 0), (45, .if_icmp .gt 50, 0, 0, 0), (48, .aload_n 0, 0, 0, 0), (49, .iload 5, 0, 0, 0), (51, .iload_n 1, 0, 0, 0), (52, .invokevirtual 284, 125, 0, 1003), (55, .istore 6, 0, 0, 0), (57, .iload 6, 0, 0, 0), (59, .iload_n 3, 0, 0, 0), (60, .if_icmp .lt 23, 0, 0, 0), (63, .iload 6, 0, 0, 0), (65, .iload_n 3, 0, 0, 0), (66, .if_icmp .ne 23, 0, 0, 0), (69, .aload_n 0, 0, 0, 0), (70, .iload 5, 0, 0, 0), (72, .invokevirtual 287, 126, 0, 1002), (75, .aload_n 0, 0, 0, 0), (76, .iload_n 2, 0, 0, 0), (77, .invokevirtual 287, 126, 0, 1002), (80, .if_icmp .ge 9, 0, 0, 0), (83, .iload 6, 0, 0, 0), (85, .istore_n 3, 0, 0, 0), (86, .iload 5, 0, 0, 0), (88, .istore_n 2, 0, 0, 0), (89, .iinc 5 1, 0, 0, 0), (92, .goto (-51), 0, 0, 0), (95, .aload_n 0, 0, 0, 0), (96, .getfield 19, 10, 1, 2), (99, .iload_n 3, 0, 0, 0), (100, .i2l, 0, 0, 0), (101, .iload 4, 0, 0, 0), (103, .i2l, 0, 0, 0), (104, .invokevirtual 205, 20, 0, 303), (107, .iload_n 2, 0, 0, 0), (108, .ireturn, 0, 0, 0)]
def acX10_late : AC := [(0, .iload_n 1, 0, 0, 0), (1, .iconst 1, 0, 0, 0), (2, .if_icmp .lt 9, 0, 0, 0), (5, .iload_n 1, 0, 0, 0), (6, .bipush 30, 0, 0, 0), (8, .if_icmp .le 5, 0, 0, 0), (11, .iconst (-1), 0, 0, 0), (12, .ireturn, 0, 0, 0), (13, .aload_n 0, 0, 0, 0), (14, .invokevirtual 237, 124, 0, 1001), (17, .aload_n 0, 0, 0, 0), (18, .getfield 19, 10, 1, 2), (21, .invokevirtual 267, 17, 0, 301), (24, .iconst 0, 0, 0, 0), (25, .istore_n 2, 0, 0, 0), (26, .iconst 0, 0, 0, 0), (27, .istore_n 3, 0, 0, 0), (28, .iload_n 3, 0, 0, 0), (29, .iload_n 1, 0, 0, 0), (30, .if_icmp .ge 46, 0, 0, 0), (33, .aload_n 0, 0, 0, 0), (34, .getfield 19, 10, 1, 2), (37, .aload_n 0, 0, 0, 0), (38, .getfield 85, 10, 13, 2), (41, .getfield 290, 0, 0, 2), (44, .iload_n 3, 0, 0, 0), (45, .iaload, 0, 0, 0), (46, .i2l, 0, 0, 0), (47, .invokevirtual 273, 18, 0, 302), (50, .iload_n 2, 0, 0, 0), (51, .aload_n 0, 0, 0, 0), (52, .getfield 85, 10, 13, 2), (55, .iload_n 3, 0, 0, 0), (56, .iload_n 1, 0, 0, 0), (57, .invokevirtual 293, 1, 0, 3), (60, .ifCond .eq 7, 0, 0, 0), (63, .iconst 1, 0, 0, 0), (64, .goto 4, 0, 0, 0), (67, .iconst 0, 0, 0, 0), (68, .iadd, 0, 0, 0), (69, .istore_n 2, 0, 0, 0), (70, .iinc 3 1, 0, 0, 0), (73, .goto (-45), 0, 0, 0), (76, .iload_n 2, 0, 0, 0), (77, .ireturn, 0, 0, 0)]
def acX10_comes : AC := [(0, .iload_n 1, 0, 0, 0), (1, .ifCond .lt 9, 0, 0, 0), (4, .iload_n 1, 0, 0, 0), (5, .bipush 12, 0, 0, 0), (7, .if_icmp .le 5, 0, 0, 0), (10, .iconst (-1), 0, 0, 0), (11, .ireturn, 0, 0, 0), (12, .aload_n 0, 0, 0, 0), (13, .getfield 26, 10, 2, 2), (16, .getfield 297, 6, 0, 0), (19, .iconst 1, 0, 0, 0), (20, .isub, 0, 0, 0), (21, .istore_n 2, 0, 0, 0), (22, .aload_n 0, 0, 0, 0), (23, .aload_n 0, 0, 0, 0), (24, .getfield 68, 10, 10, 2), (27, .getfield 164, 8, 0, 0), (30, .invokevirtual 178, 117, 0, 1002), (33, .istore_n 3, 0, 0, 0), (34, .iload_n 1, 0, 0, 0), (35, .iload_n 3, 0, 0, 0), (36, .if_icmp .lt 7, 0, 0, 0), (39, .iload_n 2, 0, 0, 0), (40, .goto 8, 0, 0, 0), (43, .iload_n 2, 0, 0, 0), (44, .iload_n 1, 0, 0, 0), (45, .imul, 0, 0, 0), (46, .iload_n 3, 0, 0, 0), (47, .idiv, 0, 0, 0), (48, .istore 4, 0, 0, 0), (50, .iconst 0, 0, 0, 0), (51, .istore 5, 0, 0, 0), (53, .iconst 0, 0, 0, 0), (54, .istore 6, 0, 0, 0), (56, .iconst 0, 0, 0, 0), (57, .istore 7, 0, 0, 0), (59, .iload 7, 0, 0, 0), (61, .aload_n 0, 0, 0, 0), (62, .getfield 26, 10, 2, 2), (65, .getfield 119, 6, 1, 0), (68, .if_icmp .ge 42, 0, 0, 0), (71, .aload_n 0, 0, 0, 0), (72, .getfield 26, 10, 2, 2), (75, .getfield 140, 6, 3, 2), (78, .iload 7, 0, 0, 0), (80, .iaload, 0, 0, 0), (81, .iload 4, 0, 0, 0), (83, .if_icmp .gt 27, 0, 0, 0), (86, .iinc 5 1, 0, 0, 0), (89, .iload 6, 0, 0, 0), (91, .aload_n 0, 0, 0, 0), (92, .getfield 26, 10, 2, 2), (95, .getfield 143, 6, 4, 2), (98, .iload 7, 0, 0, 0), (100, .iaload, 0, 0, 0), (101, .iadd, 0, 0, 0), (102, .istore 6, 0, 0, 0), (104, .iinc 7 1, 0, 0, 0), (107, .goto (-48), 0, 0, 0), (110, .aload_n 0, 0, 0, 0), (111, .getfield 19, 10, 1, 2), (114, .iload 5, 0, 0, 0), (116, .i2l, 0, 0, 0), (117, .iload 6, 0, 0, 0), (119, .iconst 2, 0, 0, 0), (120, .irem, 0, 0, 0), (121, .i2l, 0, 0, 0), (122, .invokevirtual 205, 20, 0, 303), (125, .iload 4, 0, 0, 0), (127, .ireturn, 0, 0, 0)]
def acX10_relay : AC := [(0, .iload_n 1, 0, 0, 0), (1, .ifCond .lt 9, 0, 0, 0), (4, .iload_n 1, 0, 0, 0), (5, .bipush 10, 0, 0, 0), (7, .if_icmp .le 5, 0, 0, 0), (10, .iconst (-1), 0, 0, 0), (11, .ireturn, 0, 0, 0), (12, .aload_n 0, 0, 0, 0), (13, .getfield 26, 10, 2, 2), (16, .getfield 297, 6, 0, 0), (19, .iconst 1, 0, 0, 0), (20, .isub, 0, 0, 0), (21, .istore_n 2, 0, 0, 0), (22, .iload_n 1, 0, 0, 0), (23, .iload_n 2, 0, 0, 0), (24, .iconst 1, 0, 0, 0), (25, .isub, 0, 0, 0), (26, .if_icmp .le 6, 0, 0, 0), (29, .bipush (-2), 0, 0, 0), (31, .ireturn, 0, 0, 0), (32, .iload_n 2, 0, 0, 0), (33, .iload_n 1, 0, 0, 0), (34, .iadd, 0, 0, 0), (35, .iload_n 1, 0, 0, 0), (36, .iconst 1, 0, 0, 0), (37, .iadd, 0, 0, 0), (38, .idiv, 0, 0, 0), (39, .istore_n 3, 0, 0, 0), (40, .aload_n 0, 0, 0, 0), (41, .getfield 19, 10, 1, 2), (44, .invokevirtual 267, 17, 0, 301), (47, .iconst 0, 0, 0, 0), (48, .istore 4, 0, 0, 0), (50, .iload_n 1, 0, 0, 0), (51, .istore 5, 0, 0, 0), (53, .iload 5, 0, 0, 0), (55, .iconst 1, 0, 0, 0), (56, .if_icmp .lt 34, 0, 0, 0), (59, .iload 4, 0, 0, 0), (61, .iconst 1, 0, 0, 0), (62, .iadd, 0, 0, 0), (63, .iload_n 2, 0, 0, 0), (64, .iload_n 3, 0, 0, 0), (65, .iload 5, 0, 0, 0), (67, .imul, 0, 0, 0), (68, .isub, 0, 0, 0), (69, .invokestatic 276, 0, 10, 0), (72, .istore 4, 0, 0, 0), (74, .aload_n 0, 0, 0, 0), (75, .getfield 19, 10, 1, 2), (78, .iload 4, 0, 0, 0), (80, .i2l, 0, 0, 0), (81, .invokevirtual 273, 18, 0, 302), (84, .iinc 5 (-1), 0, 0, 0), (87, .goto (-34), 0, 0, 0), (90, .iload_n 3, 0, 0, 0), (91, .ireturn, 0, 0, 0)]
def acX10_fewest : AC := [(0, .iload_n 1, 0, 0, 0), (1, .iconst 1, 0, 0, 0), (2, .if_icmp .lt 9, 0, 0, 0), (5, .iload_n 1, 0, 0, 0), (6, .bipush 39, 0, 0, 0), (8, .if_icmp .le 5, 0, 0, 0), (11, .iconst (-1), 0, 0, 0), (12, .ireturn, 0, 0, 0), (13, .aload_n 0, 0, 0, 0), (14, .getfield 26, 10, 2, 2), (17, .getfield 297, 6, 0, 0), (20, .iconst 1, 0, 0, 0), (21, .isub, 0, 0, 0), (22, .iload_n 1, 0, 0, 0), (23, .iadd, 0, 0, 0), (24, .iconst 1, 0, 0, 0), (25, .isub, 0, 0, 0), (26, .iload_n 1, 0, 0, 0), (27, .idiv, 0, 0, 0), (28, .iconst 1, 0, 0, 0), (29, .isub, 0, 0, 0), (30, .ireturn, 0, 0, 0)]
def acX10_word : AC := [(0, .iload_n 1, 0, 0, 0), (1, .iconst 1, 0, 0, 0), (2, .if_icmp .lt 25, 0, 0, 0), (5, .iload_n 1, 0, 0, 0), (6, .bipush 15, 0, 0, 0), (8, .if_icmp .gt 19, 0, 0, 0), (11, .iload_n 1, 0, 0, 0), (12, .iconst 2, 0, 0, 0), (13, .irem, 0, 0, 0), (14, .ifCond .eq 13, 0, 0, 0), (17, .iload_n 2, 0, 0, 0), (18, .ifCond .lt 9, 0, 0, 0), (21, .iload_n 2, 0, 0, 0), (22, .bipush 10, 0, 0, 0), (24, .if_icmp .le 5, 0, 0, 0), (27, .iconst (-1), 0, 0, 0), (28, .ireturn, 0, 0, 0), (29, .aload_n 0, 0, 0, 0), (30, .getfield 19, 10, 1, 2), (33, .iload_n 1, 0, 0, 0), (34, .iload_n 2, 0, 0, 0), (35, .invokestatic 300, 129, 1, 2), (38, .ldc2_w 304, 0, 0, 10), (41, .iload_n 1, 0, 0, 0), (42, .invokestatic 306, 128, 1, 2), (45, .invokevirtual 310, 21, 0, 303), (48, .iconst 0, 0, 0, 0), (49, .ireturn, 0, 0, 0)]
def acX10_survives : AC := [(0, .iload_n 1, 0, 0, 0), (1, .ifCond .lt 19, 0, 0, 0), (4, .iload_n 1, 0, 0, 0), (5, .bipush 10, 0, 0, 0), (7, .if_icmp .gt 13, 0, 0, 0), (10, .iload_n 2, 0, 0, 0), (11, .ifCond .lt 9, 0, 0, 0), (14, .iload_n 2, 0, 0, 0), (15, .bipush 100, 0, 0, 0), (17, .if_icmp .le 5, 0, 0, 0), (20, .iconst (-1), 0, 0, 0), (21, .ireturn, 0, 0, 0), (22, .iconst 1, 0, 0, 0), (23, .istore_n 3, 0, 0, 0), (24, .iload_n 3, 0, 0, 0), (25, .bipush 15, 0, 0, 0), (27, .if_icmp .gt 34, 0, 0, 0), (30, .iload_n 3, 0, 0, 0), (31, .iload_n 1, 0, 0, 0), (32, .invokestatic 300, 129, 1, 2), (35, .ldc2_w 313, 0, 0, 100), (38, .lmul, 0, 0, 0), (39, .ldc2_w 304, 0, 0, 10), (42, .iload_n 3, 0, 0, 0), (43, .invokestatic 306, 128, 1, 2), (46, .iload_n 2, 0, 0, 0), (47, .i2l, 0, 0, 0), (48, .lmul, 0, 0, 0), (49, .lcmp, 0, 0, 0), (50, .ifCond .lt 5, 0, 0, 0), (53, .iload_n 3, 0, 0, 0), (54, .ireturn, 0, 0, 0), (55, .iinc 3 2, 0, 0, 0), (58, .goto (-34), 0, 0, 0), (61, .bipush (-2), 0, 0, 0), (63, .ireturn, 0, 0, 0)]
def acX10_lives : AC := [(0, .iload_n 1, 0, 0, 0), (1, .ifCond .lt 15, 0, 0, 0), (4, .iload_n 1, 0, 0, 0), (5, .iconst 3, 0, 0, 0), (6, .if_icmp .gt 10, 0, 0, 0), (9, .aload_n 0, 0, 0, 0), (10, .getfield 61, 10, 9, 0), (13, .ifCond .ne 5, 0, 0, 0), (16, .iconst (-1), 0, 0, 0), (17, .ireturn, 0, 0, 0), (18, .ldc_w 315, 0, 0, 99999), (21, .istore_n 2, 0, 0, 0), (22, .iconst (-1), 0, 0, 0), (23, .istore_n 3, 0, 0, 0), (24, .iconst 0, 0, 0, 0), (25, .istore 4, 0, 0, 0), (27, .iload 4, 0, 0, 0), (29, .aload_n 0, 0, 0, 0), (30, .getfield 61, 10, 9, 0), (33, .if_icmp .ge 70, 0, 0, 0), (36, .iload_n 1, 0, 0, 0), (37, .ifCond .eq 8, 0, 0, 0), (40, .iload_n 1, 0, 0, 0), (41, .iconst 2, 0, 0, 0), (42, .if_icmp .ne 8, 0, 0, 0), (45, .iload 4, 0, 0, 0), (47, .goto 4, 0, 0, 0), (50, .iconst 0, 0, 0, 0), (51, .istore 5, 0, 0, 0), (53, .iload_n 1, 0, 0, 0), (54, .ifCond .eq 8, 0, 0, 0), (57, .iload_n 1, 0, 0, 0), (58, .iconst 1, 0, 0, 0), (59, .if_icmp .ne 8, 0, 0, 0), (62, .iload 4, 0, 0, 0), (64, .goto 9, 0, 0, 0), (67, .aload_n 0, 0, 0, 0), (68, .getfield 61, 10, 9, 0), (71, .iconst 1, 0, 0, 0), (72, .isub, 0, 0, 0), (73, .istore 6, 0, 0, 0), (75, .aload_n 0, 0, 0, 0), (76, .iload 5, 0, 0, 0), (78, .iload 6, 0, 0, 0), (80, .invokevirtual 316, 130, 0, 1003), (83, .istore 7, 0, 0, 0), (85, .iload 7, 0, 0, 0), (87, .iload_n 2, 0, 0, 0), (88, .if_icmp .ge 9, 0, 0, 0), (91, .iload 7, 0, 0, 0), (93, .istore_n 2, 0, 0, 0), (94, .iload 4, 0, 0, 0), (96, .istore_n 3, 0, 0, 0), (97, .iinc 4 1, 0, 0, 0), (100, .goto (-73), 0, 0, 0), (103, .aload_n 0, 0, 0, 0), (104, .getfield 19, 10, 1, 2), (107, .iload_n 3, 0, 0, 0), (108, .i2l, 0, 0, 0), (109, .invokevirtual 233, 19, 0, 302), (112, .iload_n 2, 0, 0, 0), (113, .ireturn, 0, 0, 0)]
def acX10_shares : AC := [(0, .iload_n 1, 0, 0, 0), (1, .ifCond .lt 16, 0, 0, 0), (4, .iload_n 1, 0, 0, 0), (5, .bipush 99, 0, 0, 0), (7, .if_icmp .gt 10, 0, 0, 0), (10, .aload_n 0, 0, 0, 0), (11, .getfield 61, 10, 9, 0), (14, .ifCond .ne 5, 0, 0, 0), (17, .iconst (-1), 0, 0, 0), (18, .ireturn, 0, 0, 0), (19, .aload_n 0, 0, 0, 0), (20, .getfield 96, 10, 15, 2), (23, .iconst 0, 0, 0, 0), (24, .iconst 0, 0, 0, 0), (25, .iastore, 0, 0, 0), (26, .iconst 0, 0, 0, 0), (27, .istore_n 2, 0, 0, 0), (28, .iload_n 2, 0, 0, 0), (29, .aload_n 0, 0, 0, 0), (30, .getfield 61, 10, 9, 0), (33, .if_icmp .ge 42, 0, 0, 0), (36, .aload_n 0, 0, 0, 0), (37, .getfield 96, 10, 15, 2), (40, .iload_n 2, 0, 0, 0), (41, .iconst 1, 0, 0, 0), (42, .iadd, 0, 0, 0), (43, .aload_n 0, 0, 0, 0), (44, .getfield 96, 10, 15, 2), (47, .iload_n 2, 0, 0, 0), (48, .iaload, 0, 0, 0), (49, .aload_n 0, 0, 0, 0), (50, .getfield 68, 10, 10, 2), (53, .getfield 152, 8, 7, 2), (56, .iload_n 2, 0, 0, 0), (57, .iaload, 0, 0, 0), (58, .iadd, 0, 0, 0), (59, .aload_n 0, 0, 0, 0), (60, .getfield 57, 10, 8, 2), (63, .iload_n 2, 0, 0, 0), (64, .iaload, 0, 0, 0), (65, .iload_n 1, 0, 0, 0), (66, .imul, 0, 0, 0), (67, .isub, 0, 0, 0), (68, .iastore, 0, 0, 0), (69, .iinc 2 1, 0, 0, 0), (72, .goto (-44), 0, 0, 0), (75, .aload_n 0, 0, 0, 0), (76, .getfield 96, 10, 15, 2), (79, .aload_n 0, 0, 0, 0), (80, .getfield 61, 10, 9, 0), (83, .iaload, 0, 0, 0), (84, .ifCond .ge 6, 0, 0, 0), (87, .bipush (-2), 0, 0, 0), (89, .ireturn, 0, 0, 0), (90, .aload_n 0, 0, 0, 0), (91, .invokevirtual 319, 132, 0, 1001), (94, .aload_n 0, 0, 0, 0), (95, .invokevirtual 322, 134, 0, 1001), (98, .ireturn, 0, 0, 0)]
def acX10_fast : AC := [(0, .iload_n 1, 0, 0, 0), (1, .ifCond .lt 16, 0, 0, 0), (4, .iload_n 1, 0, 0, 0), (5, .bipush 99, 0, 0, 0), (7, .if_icmp .gt 10, 0, 0, 0), (10, .aload_n 0, 0, 0, 0), (11, .getfield 61, 10, 9, 0), (14, .ifCond .ne 5, 0, 0, 0), (17, .iconst (-1), 0, 0, 0), (18, .ireturn, 0, 0, 0), (19, .iconst 1, 0, 0, 0), (20, .aload_n 0, 0, 0, 0), (21, .getfield 61, 10, 9, 0), (24, .ishl, 0, 0, 0), (25, .iconst 1, 0, 0, 0), (26, .isub, 0, 0, 0), (27, .istore_n 2, 0, 0, 0), (28, .aload_n 0, 0, 0, 0), (29, .iload_n 2, 0, 0, 0), (30, .iload_n 1, 0, 0, 0), (31, .invokevirtual 325, 131, 0, 1003), (34, .istore_n 3, 0, 0, 0), (35, .iload_n 2, 0, 0, 0), (36, .iconst 1, 0, 0, 0), (37, .isub, 0, 0, 0), (38, .istore 4, 0, 0, 0), (40, .iload 4, 0, 0, 0), (42, .ifCond .lt 41, 0, 0, 0), (45, .aload_n 0, 0, 0, 0), (46, .iload 4, 0, 0, 0), (48, .iload_n 1, 0, 0, 0), (49, .invokevirtual 325, 131, 0, 1003), (52, .istore 5, 0, 0, 0), (54, .iload 5, 0, 0, 0), (56, .ifCond .lt 21, 0, 0, 0), (59, .iload 4, 0, 0, 0), (61, .invokestatic 279, 252, 1, 1), (64, .iload_n 2, 0, 0, 0), (65, .invokestatic 279, 252, 1, 1), (68, .if_icmp .gt 9, 0, 0, 0), (71, .iload 4, 0, 0, 0), (73, .istore_n 2, 0, 0, 0), (74, .iload 5, 0, 0, 0), (76, .istore_n 3, 0, 0, 0), (77, .iinc 4 (-1), 0, 0, 0), (80, .goto (-40), 0, 0, 0), (83, .aload_n 0, 0, 0, 0), (84, .getfield 19, 10, 1, 2), (87, .iload_n 2, 0, 0, 0), (88, .invokestatic 279, 252, 1, 1), (91, .i2l, 0, 0, 0), (92, .iload_n 3, 0, 0, 0), (93, .i2l, 0, 0, 0), (94, .invokevirtual 205, 20, 0, 303), (97, .iload_n 2, 0, 0, 0), (98, .ireturn, 0, 0, 0)]
def acX10_seen : AC := [(0, .iload_n 1, 0, 0, 0), (1, .ifCond .lt 19, 0, 0, 0), (4, .iload_n 1, 0, 0, 0), (5, .bipush 24, 0, 0, 0), (7, .if_icmp .gt 13, 0, 0, 0), (10, .iload_n 2, 0, 0, 0), (11, .ifCond .lt 9, 0, 0, 0), (14, .iload_n 2, 0, 0, 0), (15, .bipush 8, 0, 0, 0), (17, .if_icmp .le 5, 0, 0, 0), (20, .iconst (-1), 0, 0, 0), (21, .ireturn, 0, 0, 0), (22, .aload_n 0, 0, 0, 0), (23, .getfield 92, 10, 14, 2), (26, .getfield 328, 7, 1, 2), (29, .iload_n 1, 0, 0, 0), (30, .iaload, 0, 0, 0), (31, .iconst (-1), 0, 0, 0), (32, .if_icmp .eq 29, 0, 0, 0), (35, .aload_n 0, 0, 0, 0), (36, .getfield 92, 10, 14, 2), (39, .getfield 328, 7, 1, 2), (42, .iload_n 1, 0, 0, 0), (43, .iaload, 0, 0, 0), (44, .iload_n 2, 0, 0, 0), (45, .if_icmp .ne 13, 0, 0, 0), (48, .aload_n 0, 0, 0, 0), (49, .getfield 92, 10, 14, 2), (52, .getfield 331, 7, 0, 0), (55, .goto 5, 0, 0, 0), (58, .bipush (-2), 0, 0, 0), (60, .ireturn, 0, 0, 0), (61, .aload_n 0, 0, 0, 0), (62, .getfield 92, 10, 14, 2), (65, .getfield 331, 7, 0, 0), (68, .bipush 12, 0, 0, 0), (70, .if_icmp .lt 5, 0, 0, 0), (73, .iconst (-1), 0, 0, 0), (74, .ireturn, 0, 0, 0), (75, .aload_n 0, 0, 0, 0), (76, .getfield 92, 10, 14, 2), (79, .getfield 328, 7, 1, 2), (82, .iload_n 1, 0, 0, 0), (83, .iload_n 2, 0, 0, 0), (84, .iastore, 0, 0, 0), (85, .aload_n 0, 0, 0, 0), (86, .getfield 92, 10, 14, 2), (89, .dup, 0, 0, 0), (90, .getfield 331, 7, 0, 0), (93, .iconst 1, 0, 0, 0), (94, .iadd, 0, 0, 0), (95, .putfield 331, 7, 0, 0), (98, .aload_n 0, 0, 0, 0), (99, .getfield 92, 10, 14, 2), (102, .getfield 331, 7, 0, 0), (105, .ireturn, 0, 0, 0)]
def acX10_forget : AC := [(0, .aload_n 0, 0, 0, 0), (1, .getfield 92, 10, 14, 2), (4, .getfield 331, 7, 0, 0), (7, .istore_n 1, 0, 0, 0), (8, .aload_n 0, 0, 0, 0), (9, .getfield 92, 10, 14, 2), (12, .invokevirtual 332, 40, 0, 701), (15, .iload_n 1, 0, 0, 0), (16, .ireturn, 0, 0, 0)]
def acX10_ordered : AC := [(0, .aload_n 0, 0, 0, 0), (1, .getfield 92, 10, 14, 2), (4, .getfield 331, 7, 0, 0), (7, .ifCond .ne 5, 0, 0, 0), (10, .iconst (-1), 0, 0, 0), (11, .ireturn, 0, 0, 0), (12, .aload_n 0, 0, 0, 0), (13, .getfield 92, 10, 14, 2), (16, .invokevirtual 333, 41, 0, 701), (19, .istore_n 1, 0, 0, 0), (20, .aload_n 0, 0, 0, 0), (21, .getfield 92, 10, 14, 2), (24, .iload_n 1, 0, 0, 0), (25, .invokevirtual 336, 42, 0, 702), (28, .aload_n 0, 0, 0, 0), (29, .getfield 19, 10, 1, 2), (32, .invokevirtual 267, 17, 0, 301), (35, .aload_n 0, 0, 0, 0), (36, .getfield 92, 10, 14, 2), (39, .getfield 339, 7, 2, 2), (42, .iconst 0, 0, 0, 0), (43, .aaload, 0, 0, 0), (44, .iconst 4, 0, 0, 0), (45, .laload, 0, 0, 0), (46, .lstore_n 2, 0, 0, 0), (47, .iconst 4, 0, 0, 0), (48, .istore 4, 0, 0, 0), (50, .iconst 1, 0, 0, 0), (51, .istore 5, 0, 0, 0), (53, .lload_n 2, 0, 0, 0), (54, .lconst 0, 0, 0, 0), (55, .lcmp, 0, 0, 0), (56, .ifCond .le 48, 0, 0, 0), (59, .iload 5, 0, 0, 0), (61, .iload_n 1, 0, 0, 0), (62, .if_icmp .gt 42, 0, 0, 0), (65, .aload_n 0, 0, 0, 0), (66, .getfield 92, 10, 14, 2), (69, .iload 5, 0, 0, 0), (71, .iload 4, 0, 0, 0), (73, .invokevirtual 343, 44, 0, 703), (76, .istore 6, 0, 0, 0), (78, .aload_n 0, 0, 0, 0), (79, .getfield 19, 10, 1, 2), (82, .iload 6, 0, 0, 0), (84, .i2l, 0, 0, 0), (85, .invokevirtual 273, 18, 0, 302), (88, .iload 4, 0, 0, 0), (90, .iload 6, 0, 0, 0), (92, .iadd, 0, 0, 0), (93, .invokestatic 346, 116, 1, 1), (96, .istore 4, 0, 0, 0), (98, .iinc 5 1, 0, 0, 0), (101, .goto (-48), 0, 0, 0), (104, .lload_n 2, 0, 0, 0), (105, .ldc2_w 349, 0, 0, 1000000), (108, .lcmp, 0, 0, 0), (109, .ifCond .le 9, 0, 0, 0), (112, .ldc_w 351, 0, 0, 1000000), (115, .goto 5, 0, 0, 0), (118, .lload_n 2, 0, 0, 0), (119, .l2i, 0, 0, 0), (120, .ireturn, 0, 0, 0)]
def acX10_unsure : AC := [(0, .aload_n 0, 0, 0, 0), (1, .getfield 92, 10, 14, 2), (4, .getfield 331, 7, 0, 0), (7, .ifCond .ne 6, 0, 0, 0), (10, .bipush (-2), 0, 0, 0), (12, .ireturn, 0, 0, 0), (13, .aload_n 0, 0, 0, 0), (14, .getfield 92, 10, 14, 2), (17, .invokevirtual 333, 41, 0, 701), (20, .istore_n 1, 0, 0, 0), (21, .aload_n 0, 0, 0, 0), (22, .getfield 92, 10, 14, 2), (25, .iload_n 1, 0, 0, 0), (26, .invokevirtual 336, 42, 0, 702), (29, .bipush 16, 0, 0, 0), (31, .aload_n 0, 0, 0, 0), (32, .getfield 92, 10, 14, 2), (35, .iconst 0, 0, 0, 0), (36, .invokevirtual 352, 45, 0, 702), (39, .iand, 0, 0, 0), (40, .istore_n 2, 0, 0, 0), (41, .iload_n 2, 0, 0, 0), (42, .ifCond .ne 6, 0, 0, 0), (45, .bipush (-2), 0, 0, 0), (47, .ireturn, 0, 0, 0), (48, .iconst 0, 0, 0, 0), (49, .istore_n 3, 0, 0, 0), (50, .iload_n 2, 0, 0, 0), (51, .istore 4, 0, 0, 0), (53, .iconst 1, 0, 0, 0), (54, .istore 5, 0, 0, 0), (56, .iload 5, 0, 0, 0), (58, .iload_n 1, 0, 0, 0), (59, .if_icmp .gt 42, 0, 0, 0), (62, .iload_n 2, 0, 0, 0), (63, .invokestatic 355, 127, 1, 1), (66, .aload_n 0, 0, 0, 0), (67, .getfield 92, 10, 14, 2), (70, .iload 5, 0, 0, 0), (72, .invokevirtual 352, 45, 0, 702), (75, .iand, 0, 0, 0), (76, .istore_n 2, 0, 0, 0), (77, .iload_n 2, 0, 0, 0), (78, .invokestatic 279, 252, 1, 1), (81, .iload 4, 0, 0, 0), (83, .invokestatic 279, 252, 1, 1), (86, .if_icmp .le 9, 0, 0, 0), (89, .iload 5, 0, 0, 0), (91, .istore_n 3, 0, 0, 0), (92, .iload_n 2, 0, 0, 0), (93, .istore 4, 0, 0, 0), (95, .iinc 5 1, 0, 0, 0), (98, .goto (-42), 0, 0, 0), (101, .aload_n 0, 0, 0, 0), (102, .getfield 19, 10, 1, 2), (105, .iload 4, 0, 0, 0), (107, .i2l, 0, 0, 0), (108, .invokevirtual 233, 19, 0, 302), (111, .iload_n 3, 0, 0, 0), (112, .ireturn, 0, 0, 0)]
def acX10_boy : AC := [(0, .iload_n 1, 0, 0, 0), (1, .ifCond .lt 21, 0, 0, 0), (4, .iload_n 1, 0, 0, 0), (5, .ldc_w 315, 0, 0, 99999), (8, .if_icmp .gt 14, 0, 0, 0), (11, .iload_n 2, 0, 0, 0), (12, .iconst 2, 0, 0, 0), (13, .if_icmp .lt 9, 0, 0, 0), (16, .iload_n 2, 0, 0, 0), (17, .bipush 9, 0, 0, 0), (19, .if_icmp .le 5, 0, 0, 0), (22, .iconst (-1), 0, 0, 0), (23, .ireturn, 0, 0, 0), (24, .iload_n 1, 0, 0, 0), (25, .iload_n 1, 0, 0, 0), (26, .iload_n 2, 0, 0, 0), (27, .idiv, 0, 0, 0), (28, .isub, 0, 0, 0), (29, .istore_n 3, 0, 0, 0), (30, .aload_n 0, 0, 0, 0), (31, .getfield 19, 10, 1, 2), (34, .iload_n 3, 0, 0, 0), (35, .aload_n 0, 0, 0, 0), (36, .invokevirtual 358, 135, 0, 1001), (39, .irem, 0, 0, 0), (40, .aload_n 0, 0, 0, 0), (41, .getfield 26, 10, 2, 2), (44, .getfield 297, 6, 0, 0), (47, .iconst 1, 0, 0, 0), (48, .isub, 0, 0, 0), (49, .if_icmp .ge 7, 0, 0, 0), (52, .lconst 1, 0, 0, 0), (53, .goto 6, 0, 0, 0), (56, .ldc2_w 361, 0, 0, (-1)), (59, .invokevirtual 233, 19, 0, 302), (62, .aload_n 0, 0, 0, 0), (63, .iload_n 3, 0, 0, 0), (64, .invokevirtual 363, 136, 0, 1002), (67, .ireturn, 0, 0, 0)]
def acX10_meets : AC := [(0, .iload_n 1, 0, 0, 0), (1, .iconst 2, 0, 0, 0), (2, .if_icmp .lt 9, 0, 0, 0), (5, .iload_n 1, 0, 0, 0), (6, .bipush 9, 0, 0, 0), (8, .if_icmp .le 5, 0, 0, 0), (11, .iconst (-1), 0, 0, 0), (12, .ireturn, 0, 0, 0), (13, .aload_n 0, 0, 0, 0), (14, .getfield 26, 10, 2, 2), (17, .getfield 297, 6, 0, 0), (20, .iconst 1, 0, 0, 0), (21, .isub, 0, 0, 0), (22, .istore_n 2, 0, 0, 0), (23, .iconst 1, 0, 0, 0), (24, .istore_n 3, 0, 0, 0), (25, .iload_n 3, 0, 0, 0), (26, .sipush 999, 0, 0, 0), (29, .if_icmp .gt 44, 0, 0, 0), (32, .aload_n 0, 0, 0, 0), (33, .iload_n 3, 0, 0, 0), (34, .iload_n 3, 0, 0, 0), (35, .iload_n 1, 0, 0, 0), (36, .idiv, 0, 0, 0), (37, .isub, 0, 0, 0), (38, .invokevirtual 363, 136, 0, 1002), (41, .istore 4, 0, 0, 0), (43, .iload 4, 0, 0, 0), (45, .aload_n 0, 0, 0, 0), (46, .iload_n 2, 0, 0, 0), (47, .iload_n 3, 0, 0, 0), (48, .iadd, 0, 0, 0), (49, .invokevirtual 363, 136, 0, 1002), (52, .if_icmp .ne 15, 0, 0, 0), (55, .aload_n 0, 0, 0, 0), (56, .getfield 19, 10, 1, 2), (59, .iload 4, 0, 0, 0), (61, .i2l, 0, 0, 0), (62, .invokevirtual 233, 19, 0, 302), (65, .iload_n 3, 0, 0, 0), (66, .ireturn, 0, 0, 0), (67, .iinc 3 1, 0, 0, 0), (70, .goto (-45), 0, 0, 0), (73, .bipush (-2), 0, 0, 0), (75, .ireturn, 0, 0, 0)]
def acX10_knows : AC := [(0, .iload_n 1, 0, 0, 0), (1, .ifCond .lt 19, 0, 0, 0), (4, .iload_n 1, 0, 0, 0), (5, .bipush 12, 0, 0, 0), (7, .if_icmp .gt 13, 0, 0, 0), (10, .iload_n 2, 0, 0, 0), (11, .ifCond .lt 9, 0, 0, 0), (14, .iload_n 2, 0, 0, 0), (15, .bipush 10, 0, 0, 0), (17, .if_icmp .le 5, 0, 0, 0), (20, .iconst (-1), 0, 0, 0), (21, .ireturn, 0, 0, 0), (22, .aload_n 0, 0, 0, 0), (23, .getfield 19, 10, 1, 2), (26, .bipush 10, 0, 0, 0), (28, .iload_n 2, 0, 0, 0), (29, .isub, 0, 0, 0), (30, .i2l, 0, 0, 0), (31, .iload_n 1, 0, 0, 0), (32, .invokestatic 306, 128, 1, 2), (35, .iload_n 2, 0, 0, 0), (36, .i2l, 0, 0, 0), (37, .lmul, 0, 0, 0), (38, .ldc2_w 304, 0, 0, 10), (41, .iload_n 1, 0, 0, 0), (42, .iconst 1, 0, 0, 0), (43, .iadd, 0, 0, 0), (44, .invokestatic 306, 128, 1, 2), (47, .invokevirtual 310, 21, 0, 303), (50, .iconst 0, 0, 0, 0), (51, .ireturn, 0, 0, 0)]
def acX10_mutiny : AC := [(0, .iload_n 1, 0, 0, 0), (1, .iconst 1, 0, 0, 0), (2, .if_icmp .lt 31, 0, 0, 0), (5, .iload_n 1, 0, 0, 0), (6, .bipush 20, 0, 0, 0), (8, .if_icmp .gt 25, 0, 0, 0), (11, .iload_n 2, 0, 0, 0), (12, .iconst 1, 0, 0, 0), (13, .if_icmp .lt 20, 0, 0, 0), (16, .iload_n 2, 0, 0, 0), (17, .bipush 20, 0, 0, 0), (19, .if_icmp .gt 14, 0, 0, 0), (22, .iload_n 3, 0, 0, 0), (23, .iconst 1, 0, 0, 0), (24, .if_icmp .lt 9, 0, 0, 0), (27, .iload_n 3, 0, 0, 0), (28, .bipush 18, 0, 0, 0), (30, .if_icmp .le 5, 0, 0, 0), (33, .iconst (-1), 0, 0, 0), (34, .ireturn, 0, 0, 0), (35, .aload_n 0, 0, 0, 0), (36, .getfield 19, 10, 1, 2), (39, .invokevirtual 267, 17, 0, 301), (42, .iconst 0, 0, 0, 0), (43, .istore 4, 0, 0, 0), (45, .iconst 0, 0, 0, 0), (46, .istore 5, 0, 0, 0), (48, .iload 5, 0, 0, 0), (50, .bipush 9, 0, 0, 0), (52, .iload_n 1, 0, 0, 0), (53, .invokestatic 250, 0, 11, 0), (56, .if_icmp .gt 74, 0, 0, 0), (59, .iconst 0, 0, 0, 0), (60, .istore 6, 0, 0, 0), (62, .iload 6, 0, 0, 0), (64, .bipush 9, 0, 0, 0), (66, .iload_n 2, 0, 0, 0), (67, .invokestatic 250, 0, 11, 0), (70, .if_icmp .gt 54, 0, 0, 0), (73, .iload_n 1, 0, 0, 0), (74, .iload 5, 0, 0, 0), (76, .iload 6, 0, 0, 0), (78, .iload_n 3, 0, 0, 0), (79, .invokestatic 366, 138, 1, 4), (82, .ifCond .ne 36, 0, 0, 0), (85, .iload_n 2, 0, 0, 0), (86, .iload 6, 0, 0, 0), (88, .iload 5, 0, 0, 0), (90, .iload_n 3, 0, 0, 0), (91, .invokestatic 366, 138, 1, 4), (94, .ifCond .ne 24, 0, 0, 0), (97, .iload 4, 0, 0, 0), (99, .ifCond .ne 16, 0, 0, 0), (102, .aload_n 0, 0, 0, 0), (103, .getfield 19, 10, 1, 2), (106, .iload 5, 0, 0, 0), (108, .i2l, 0, 0, 0), (109, .iload 6, 0, 0, 0), (111, .i2l, 0, 0, 0), (112, .invokevirtual 205, 20, 0, 303), (115, .iinc 4 1, 0, 0, 0), (118, .iinc 6 1, 0, 0, 0), (121, .goto (-59), 0, 0, 0), (124, .iinc 5 1, 0, 0, 0), (127, .goto (-79), 0, 0, 0), (130, .iload 4, 0, 0, 0), (132, .ireturn, 0, 0, 0)]
def acX10_chance : AC := [(0, .iload_n 1, 0, 0, 0), (1, .iconst 1, 0, 0, 0), (2, .if_icmp .lt 29, 0, 0, 0), (5, .iload_n 1, 0, 0, 0), (6, .bipush 12, 0, 0, 0), (8, .if_icmp .gt 23, 0, 0, 0), (11, .iload_n 2, 0, 0, 0), (12, .ifCond .lt 19, 0, 0, 0), (15, .iload_n 2, 0, 0, 0), (16, .bipush 10, 0, 0, 0), (18, .if_icmp .gt 13, 0, 0, 0), (21, .iload_n 3, 0, 0, 0), (22, .ifCond .lt 9, 0, 0, 0), (25, .iload_n 3, 0, 0, 0), (26, .bipush 12, 0, 0, 0), (28, .if_icmp .le 5, 0, 0, 0), (31, .iconst (-1), 0, 0, 0), (32, .ireturn, 0, 0, 0), (33, .iload_n 3, 0, 0, 0), (34, .aload_n 0, 0, 0, 0), (35, .aload_n 0, 0, 0, 0), (36, .getfield 68, 10, 10, 2), (39, .getfield 164, 8, 0, 0), (42, .invokevirtual 178, 117, 0, 1002), (45, .if_icmp .lt 15, 0, 0, 0), (48, .aload_n 0, 0, 0, 0), (49, .getfield 19, 10, 1, 2), (52, .lconst 1, 0, 0, 0), (53, .lconst 1, 0, 0, 0), (54, .invokevirtual 310, 21, 0, 303), (57, .goto 26, 0, 0, 0), (60, .aload_n 0, 0, 0, 0), (61, .getfield 19, 10, 1, 2), (64, .bipush 10, 0, 0, 0), (66, .iload_n 2, 0, 0, 0), (67, .isub, 0, 0, 0), (68, .i2l, 0, 0, 0), (69, .iload_n 1, 0, 0, 0), (70, .invokestatic 306, 128, 1, 2), (73, .ldc2_w 304, 0, 0, 10), (76, .iload_n 1, 0, 0, 0), (77, .invokestatic 306, 128, 1, 2), (80, .invokevirtual 310, 21, 0, 303), (83, .iconst 0, 0, 0, 0), (84, .ireturn, 0, 0, 0)]
def acX10_voyages : AC := [(0, .iload_n 2, 0, 0, 0), (1, .iconst 1, 0, 0, 0), (2, .if_icmp .lt 9, 0, 0, 0), (5, .iload_n 2, 0, 0, 0), (6, .bipush 60, 0, 0, 0), (8, .if_icmp .le 5, 0, 0, 0), (11, .iconst (-1), 0, 0, 0), (12, .ireturn, 0, 0, 0), (13, .aload_n 0, 0, 0, 0), (14, .getfield 72, 10, 11, 2), (17, .aload_n 0, 0, 0, 0), (18, .getfield 68, 10, 10, 2), (21, .invokevirtual 215, 47, 0, 802), (24, .iload_n 1, 0, 0, 0), (25, .istore_n 3, 0, 0, 0), (26, .iconst 0, 0, 0, 0), (27, .istore 4, 0, 0, 0), (29, .iconst 0, 0, 0, 0), (30, .istore 5, 0, 0, 0), (32, .iload 5, 0, 0, 0), (34, .iload_n 2, 0, 0, 0), (35, .if_icmp .ge 63, 0, 0, 0), (38, .iload_n 3, 0, 0, 0), (39, .ldc_w 370, 0, 0, 1103515245), (42, .imul, 0, 0, 0), (43, .sipush 12345, 0, 0, 0), (46, .iadd, 0, 0, 0), (47, .istore_n 3, 0, 0, 0), (48, .iload_n 3, 0, 0, 0), (49, .bipush 16, 0, 0, 0), (51, .iushr, 0, 0, 0), (52, .iconst 4, 0, 0, 0), (53, .irem, 0, 0, 0), (54, .istore 6, 0, 0, 0), (56, .iload 6, 0, 0, 0), (58, .iconst 2, 0, 0, 0), (59, .if_icmp .ge 28, 0, 0, 0), (62, .aload_n 0, 0, 0, 0), (63, .invokevirtual 182, 118, 0, 1001), (66, .ifCond .ne 21, 0, 0, 0), (69, .aload_n 0, 0, 0, 0), (70, .iload 6, 0, 0, 0), (72, .ifCond .ne 7, 0, 0, 0), (75, .iconst (-1), 0, 0, 0), (76, .goto 4, 0, 0, 0), (79, .iconst 1, 0, 0, 0), (80, .invokevirtual 189, 119, 0, 1002), (83, .pop, 0, 0, 0), (84, .iinc 4 1, 0, 0, 0), (87, .aload_n 0, 0, 0, 0), (88, .invokevirtual 202, 122, 0, 1001), (91, .pop, 0, 0, 0), (92, .iinc 5 1, 0, 0, 0), (95, .goto (-63), 0, 0, 0), (98, .aload_n 0, 0, 0, 0), (99, .getfield 68, 10, 10, 2), (102, .getfield 199, 8, 2, 0), (105, .aload_n 0, 0, 0, 0), (106, .getfield 72, 10, 11, 2), (109, .getfield 199, 8, 2, 0), (112, .isub, 0, 0, 0), (113, .istore 5, 0, 0, 0), (115, .aload_n 0, 0, 0, 0), (116, .getfield 19, 10, 1, 2), (119, .aload_n 0, 0, 0, 0), (120, .getfield 68, 10, 10, 2), (123, .getfield 209, 8, 1, 0), (126, .i2l, 0, 0, 0), (127, .iload 4, 0, 0, 0), (129, .i2l, 0, 0, 0), (130, .invokevirtual 205, 20, 0, 303), (133, .aload_n 0, 0, 0, 0), (134, .getfield 68, 10, 10, 2), (137, .aload_n 0, 0, 0, 0), (138, .getfield 72, 10, 11, 2), (141, .invokevirtual 215, 47, 0, 802), (144, .iload 5, 0, 0, 0), (146, .ireturn, 0, 0, 0)]
def acX10_keep : AC := [(0, .iload_n 1, 0, 0, 0), (1, .ifCond .lt 8, 0, 0, 0), (4, .iload_n 1, 0, 0, 0), (5, .iconst 3, 0, 0, 0), (6, .if_icmp .lt 5, 0, 0, 0), (9, .iconst 0, 0, 0, 0), (10, .ireturn, 0, 0, 0), (11, .aload_n 0, 0, 0, 0), (12, .getfield 78, 10, 12, 2), (15, .getfield 371, 1, 3, 2), (18, .iload_n 1, 0, 0, 0), (19, .aaload, 0, 0, 0), (20, .aload_n 0, 0, 0, 0), (21, .getfield 68, 10, 10, 2), (24, .invokevirtual 215, 47, 0, 802), (27, .aload_n 0, 0, 0, 0), (28, .getfield 78, 10, 12, 2), (31, .getfield 375, 1, 4, 2), (34, .iload_n 1, 0, 0, 0), (35, .iconst 1, 0, 0, 0), (36, .bastore, 0, 0, 0), (37, .iconst 1, 0, 0, 0), (38, .ireturn, 0, 0, 0)]
def acX10_again : AC := [(0, .iload_n 1, 0, 0, 0), (1, .ifCond .lt 20, 0, 0, 0), (4, .iload_n 1, 0, 0, 0), (5, .iconst 3, 0, 0, 0), (6, .if_icmp .ge 15, 0, 0, 0), (9, .aload_n 0, 0, 0, 0), (10, .getfield 78, 10, 12, 2), (13, .getfield 375, 1, 4, 2), (16, .iload_n 1, 0, 0, 0), (17, .baload, 0, 0, 0), (18, .ifCond .ne 5, 0, 0, 0), (21, .iconst 0, 0, 0, 0), (22, .ireturn, 0, 0, 0), (23, .aload_n 0, 0, 0, 0), (24, .getfield 68, 10, 10, 2), (27, .aload_n 0, 0, 0, 0), (28, .getfield 78, 10, 12, 2), (31, .getfield 371, 1, 3, 2), (34, .iload_n 1, 0, 0, 0), (35, .aaload, 0, 0, 0), (36, .invokevirtual 215, 47, 0, 802), (39, .aload_n 0, 0, 0, 0), (40, .getfield 78, 10, 12, 2), (43, .iconst 0, 0, 0, 0), (44, .putfield 229, 1, 2, 0), (47, .iconst 1, 0, 0, 0), (48, .ireturn, 0, 0, 0)]
def acX10_count : AC := [(0, .iload_n 1, 0, 0, 0), (1, .tableswitch 168 0 12 #[67, 75, 83, 91, 99, 104, 112, 120, 128, 136, 144, 152, 160], 0, 0, 0), (68, .aload_n 0, 0, 0, 0), (69, .getfield 26, 10, 2, 2), (72, .getfield 297, 6, 0, 0), (75, .ireturn, 0, 0, 0), (76, .aload_n 0, 0, 0, 0), (77, .getfield 26, 10, 2, 2), (80, .getfield 119, 6, 1, 0), (83, .ireturn, 0, 0, 0), (84, .aload_n 0, 0, 0, 0), (85, .getfield 26, 10, 2, 2), (88, .getfield 379, 6, 2, 0), (91, .ireturn, 0, 0, 0), (92, .aload_n 0, 0, 0, 0), (93, .getfield 53, 10, 7, 2), (96, .getfield 122, 2, 0, 0), (99, .ireturn, 0, 0, 0), (100, .aload_n 0, 0, 0, 0), (101, .getfield 61, 10, 9, 0), (104, .ireturn, 0, 0, 0), (105, .aload_n 0, 0, 0, 0), (106, .getfield 68, 10, 10, 2), (109, .getfield 164, 8, 0, 0), (112, .ireturn, 0, 0, 0), (113, .aload_n 0, 0, 0, 0), (114, .getfield 68, 10, 10, 2), (117, .getfield 209, 8, 1, 0), (120, .ireturn, 0, 0, 0), (121, .aload_n 0, 0, 0, 0), (122, .getfield 68, 10, 10, 2), (125, .getfield 199, 8, 2, 0), (128, .ireturn, 0, 0, 0), (129, .aload_n 0, 0, 0, 0), (130, .getfield 68, 10, 10, 2), (133, .getfield 158, 8, 4, 0), (136, .ireturn, 0, 0, 0), (137, .aload_n 0, 0, 0, 0), (138, .getfield 92, 10, 14, 2), (141, .getfield 331, 7, 0, 0), (144, .ireturn, 0, 0, 0), (145, .aload_n 0, 0, 0, 0), (146, .getfield 78, 10, 12, 2), (149, .getfield 229, 1, 2, 0), (152, .ireturn, 0, 0, 0), (153, .aload_n 0, 0, 0, 0), (154, .getfield 19, 10, 1, 2), (157, .getfield 382, 3, 1, 0), (160, .ireturn, 0, 0, 0), (161, .aload_n 0, 0, 0, 0), (162, .getfield 10, 10, 0, 2), (165, .getfield 104, 9, 1, 0), (168, .ireturn, 0, 0, 0), (169, .bipush (-100), 0, 0, 0), (171, .ireturn, 0, 0, 0)]
def acX10_isDigit : AC := [(0, .iload_n 0, 0, 0, 0), (1, .bipush 48, 0, 0, 0), (3, .if_icmp .lt 13, 0, 0, 0), (6, .iload_n 0, 0, 0, 0), (7, .bipush 57, 0, 0, 0), (9, .if_icmp .gt 7, 0, 0, 0), (12, .iconst 1, 0, 0, 0), (13, .goto 4, 0, 0, 0), (16, .iconst 0, 0, 0, 0), (17, .ireturn, 0, 0, 0)]
def acX10_readMesses : AC := [(0, .aload_n 0, 0, 0, 0), (1, .getfield 61, 10, 9, 0), (4, .istore_n 1, 0, 0, 0), (5, .iconst 0, 0, 0, 0), (6, .istore_n 2, 0, 0, 0), (7, .iload_n 2, 0, 0, 0), (8, .bipush 8, 0, 0, 0), (10, .if_icmp .gt 145, 0, 0, 0), (13, .iload_n 1, 0, 0, 0), (14, .bipush 8, 0, 0, 0), (16, .if_icmp .lt 11, 0, 0, 0), (19, .aload_n 0, 0, 0, 0), (20, .getfield 10, 10, 0, 2), (23, .getfield 387, 9, 2, 0), (26, .ireturn, 0, 0, 0), (27, .aload_n 0, 0, 0, 0), (28, .getfield 10, 10, 0, 2), (31, .iconst 2, 0, 0, 0), (32, .invokevirtual 390, 59, 0, 902), (35, .istore_n 3, 0, 0, 0), (36, .iload_n 3, 0, 0, 0), (37, .iconst (-1), 0, 0, 0), (38, .if_icmp .eq 15, 0, 0, 0), (41, .aload_n 0, 0, 0, 0), (42, .getfield 10, 10, 0, 2), (45, .bipush 42, 0, 0, 0), (47, .invokevirtual 393, 58, 0, 902), (50, .ifCond .ne 11, 0, 0, 0), (53, .aload_n 0, 0, 0, 0), (54, .getfield 10, 10, 0, 2), (57, .getfield 387, 9, 2, 0), (60, .ireturn, 0, 0, 0), (61, .aload_n 0, 0, 0, 0), (62, .getfield 10, 10, 0, 2), (65, .iconst 1, 0, 0, 0), (66, .invokevirtual 390, 59, 0, 902), (69, .istore 4, 0, 0, 0), (71, .iload 4, 0, 0, 0), (73, .iconst (-1), 0, 0, 0), (74, .if_icmp .ne 11, 0, 0, 0), (77, .aload_n 0, 0, 0, 0), (78, .getfield 10, 10, 0, 2), (81, .getfield 387, 9, 2, 0), (84, .ireturn, 0, 0, 0), (85, .aload_n 0, 0, 0, 0), (86, .getfield 68, 10, 10, 2), (89, .getfield 152, 8, 7, 2), (92, .iload_n 1, 0, 0, 0), (93, .iload_n 3, 0, 0, 0), (94, .iastore, 0, 0, 0), (95, .aload_n 0, 0, 0, 0), (96, .getfield 68, 10, 10, 2), (99, .getfield 155, 8, 8, 2), (102, .iload_n 1, 0, 0, 0), (103, .iconst 0, 0, 0, 0), (104, .iastore, 0, 0, 0), (105, .aload_n 0, 0, 0, 0), (106, .getfield 57, 10, 8, 2), (109, .iload_n 1, 0, 0, 0), (110, .iload 4, 0, 0, 0), (112, .iastore, 0, 0, 0), (113, .iinc 1 1, 0, 0, 0), (116, .aload_n 0, 0, 0, 0), (117, .getfield 10, 10, 0, 2), (120, .invokevirtual 218, 56, 0, 901), (123, .ifCond .eq 6, 0, 0, 0), (126, .goto 29, 0, 0, 0), (129, .aload_n 0, 0, 0, 0), (130, .getfield 10, 10, 0, 2), (133, .bipush 59, 0, 0, 0), (135, .invokevirtual 393, 58, 0, 902), (138, .ifCond .ne 11, 0, 0, 0), (141, .aload_n 0, 0, 0, 0), (142, .getfield 10, 10, 0, 2), (145, .getfield 387, 9, 2, 0), (148, .ireturn, 0, 0, 0), (149, .iinc 2 1, 0, 0, 0), (152, .goto (-145), 0, 0, 0), (155, .aload_n 0, 0, 0, 0), (156, .getfield 10, 10, 0, 2), (159, .invokevirtual 397, 60, 0, 901), (162, .istore_n 2, 0, 0, 0), (163, .aload_n 0, 0, 0, 0), (164, .iload_n 2, 0, 0, 0), (165, .iconst (-1), 0, 0, 0), (166, .if_icmp .ne 7, 0, 0, 0), (169, .iload_n 1, 0, 0, 0), (170, .goto 7, 0, 0, 0), (173, .aload_n 0, 0, 0, 0), (174, .getfield 61, 10, 9, 0), (177, .putfield 61, 10, 9, 0), (180, .iload_n 2, 0, 0, 0), (181, .ireturn, 0, 0, 0)]
def acX10_voyageFault : AC := [(0, .iconst 0, 0, 0, 0), (1, .istore_n 1, 0, 0, 0), (2, .iload_n 1, 0, 0, 0), (3, .bipush 60, 0, 0, 0), (5, .if_icmp .ge 123, 0, 0, 0), (8, .aload_n 0, 0, 0, 0), (9, .getfield 10, 10, 0, 2), (12, .invokevirtual 218, 56, 0, 901), (15, .ifCond .ne 113, 0, 0, 0), (18, .aload_n 0, 0, 0, 0), (19, .getfield 10, 10, 0, 2), (22, .invokevirtual 400, 57, 0, 901), (25, .istore_n 2, 0, 0, 0), (26, .aload_n 0, 0, 0, 0), (27, .getfield 10, 10, 0, 2), (30, .dup, 0, 0, 0), (31, .getfield 387, 9, 2, 0), (34, .iconst 1, 0, 0, 0), (35, .iadd, 0, 0, 0), (36, .putfield 387, 9, 2, 0), (39, .iload_n 2, 0, 0, 0), (40, .bipush 112, 0, 0, 0), (42, .if_icmp .ne 40, 0, 0, 0), (45, .aload_n 0, 0, 0, 0), (46, .getfield 10, 10, 0, 2), (49, .invokevirtual 400, 57, 0, 901), (52, .invokestatic 403, 110, 1, 1), (55, .ifCond .ne 11, 0, 0, 0), (58, .aload_n 0, 0, 0, 0), (59, .getfield 10, 10, 0, 2), (62, .getfield 387, 9, 2, 0), (65, .ireturn, 0, 0, 0), (66, .aload_n 0, 0, 0, 0), (67, .getfield 10, 10, 0, 2), (70, .dup, 0, 0, 0), (71, .getfield 387, 9, 2, 0), (74, .iconst 1, 0, 0, 0), (75, .iadd, 0, 0, 0), (76, .putfield 387, 9, 2, 0), (79, .goto 43, 0, 0, 0), (82, .iload_n 2, 0, 0, 0), (83, .bipush 60, 0, 0, 0), (85, .if_icmp .eq 37, 0, 0, 0), (88, .iload_n 2, 0, 0, 0), (89, .bipush 61, 0, 0, 0), (91, .if_icmp .eq 31, 0, 0, 0), (94, .iload_n 2, 0, 0, 0), (95, .bipush 62, 0, 0, 0), (97, .if_icmp .eq 25, 0, 0, 0), (100, .iload_n 2, 0, 0, 0), (101, .bipush 49, 0, 0, 0), (103, .if_icmp .lt 9, 0, 0, 0), (106, .iload_n 2, 0, 0, 0), (107, .bipush 57, 0, 0, 0), (109, .if_icmp .le 13, 0, 0, 0), (112, .aload_n 0, 0, 0, 0), (113, .getfield 10, 10, 0, 2), (116, .getfield 387, 9, 2, 0), (119, .iconst 1, 0, 0, 0), (120, .isub, 0, 0, 0), (121, .ireturn, 0, 0, 0), (122, .iinc 1 1, 0, 0, 0), (125, .goto (-123), 0, 0, 0), (128, .aload_n 0, 0, 0, 0), (129, .getfield 10, 10, 0, 2), (132, .invokevirtual 397, 60, 0, 901), (135, .ireturn, 0, 0, 0)]
def acX10_doVoyageSign : AC := [(0, .aload_n 0, 0, 0, 0), (1, .getfield 10, 10, 0, 2), (4, .invokevirtual 400, 57, 0, 901), (7, .istore_n 1, 0, 0, 0), (8, .aload_n 0, 0, 0, 0), (9, .getfield 10, 10, 0, 2), (12, .dup, 0, 0, 0), (13, .getfield 387, 9, 2, 0), (16, .iconst 1, 0, 0, 0), (17, .iadd, 0, 0, 0), (18, .putfield 387, 9, 2, 0), (21, .iload_n 1, 0, 0, 0), (22, .bipush 112, 0, 0, 0), (24, .if_icmp .ne 33, 0, 0, 0), (27, .aload_n 0, 0, 0, 0), (28, .getfield 10, 10, 0, 2), (31, .iconst 1, 0, 0, 0), (32, .invokevirtual 390, 59, 0, 902), (35, .istore_n 2, 0, 0, 0), (36, .aload_n 0, 0, 0, 0), (37, .iload_n 2, 0, 0, 0), (38, .iconst 1, 0, 0, 0), (39, .iconst 1, 0, 0, 0), (40, .invokevirtual 192, 120, 0, 1004), (43, .ifCond .eq 5, 0, 0, 0), (46, .iconst 0, 0, 0, 0), (47, .ireturn, 0, 0, 0), (48, .aload_n 0, 0, 0, 0), (49, .iload_n 2, 0, 0, 0), (50, .iconst 1, 0, 0, 0), (51, .iconst 1, 0, 0, 0), (52, .invokevirtual 195, 121, 0, 1004), (55, .iconst 1, 0, 0, 0), (56, .ireturn, 0, 0, 0), (57, .iload_n 1, 0, 0, 0), (58, .invokestatic 403, 110, 1, 1), (61, .ifCond .eq 24, 0, 0, 0), (64, .bipush 48, 0, 0, 0), (66, .istore_n 2, 0, 0, 0), (67, .iload_n 2, 0, 0, 0), (68, .iload_n 1, 0, 0, 0), (69, .if_icmp .ge 14, 0, 0, 0), (72, .aload_n 0, 0, 0, 0), (73, .invokevirtual 202, 122, 0, 1001), (76, .pop, 0, 0, 0), (77, .iinc 2 1, 0, 0, 0), (80, .goto (-13), 0, 0, 0), (83, .iconst 1, 0, 0, 0), (84, .ireturn, 0, 0, 0), (85, .aload_n 0, 0, 0, 0), (86, .invokevirtual 182, 118, 0, 1001), (89, .ifCond .eq 5, 0, 0, 0), (92, .iconst 0, 0, 0, 0), (93, .ireturn, 0, 0, 0), (94, .aload_n 0, 0, 0, 0), (95, .iload_n 1, 0, 0, 0), (96, .bipush 61, 0, 0, 0), (98, .isub, 0, 0, 0), (99, .invokevirtual 189, 119, 0, 1002), (102, .pop, 0, 0, 0), (103, .iconst 1, 0, 0, 0), (104, .ireturn, 0, 0, 0)]
def acX10_put : AC := [(0, .iload_n 1, 0, 0, 0), (1, .iload_n 2, 0, 0, 0), (2, .iload_n 0, 0, 0, 0), (3, .invokestatic 250, 0, 11, 0), (6, .invokestatic 276, 0, 10, 0), (9, .ireturn, 0, 0, 0)]
def acX10_entry : AC := [(0, .iload_n 0, 0, 0, 0), (1, .ifCond .ne 6, 0, 0, 0), (4, .iload_n 1, 0, 0, 0), (5, .i2b, 0, 0, 0), (6, .ireturn, 0, 0, 0), (7, .iload_n 0, 0, 0, 0), (8, .iconst 1, 0, 0, 0), (9, .if_icmp .ne 8, 0, 0, 0), (12, .iload_n 1, 0, 0, 0), (13, .i2s, 0, 0, 0), (14, .goto 4, 0, 0, 0), (17, .iload_n 1, 0, 0, 0), (18, .ireturn, 0, 0, 0)]
def acX10_keepOnSea : AC := [(0, .iload_n 0, 0, 0, 0), (1, .iconst 0, 0, 0, 0), (2, .bipush 8, 0, 0, 0), (4, .invokestatic 174, 114, 1, 3), (7, .ireturn, 0, 0, 0)]
def acX10_delayAt : AC := [(0, .aload_n 0, 0, 0, 0), (1, .getfield 36, 10, 4, 2), (4, .getfield 133, 4, 1, 0), (7, .ifCond .ne 18, 0, 0, 0), (10, .aload_n 0, 0, 0, 0), (11, .getfield 26, 10, 2, 2), (14, .getfield 297, 6, 0, 0), (17, .bipush 8, 0, 0, 0), (19, .idiv, 0, 0, 0), (20, .iconst 1, 0, 0, 0), (21, .iadd, 0, 0, 0), (22, .goto 18, 0, 0, 0), (25, .aload_n 0, 0, 0, 0), (26, .getfield 36, 10, 4, 2), (29, .aload_n 0, 0, 0, 0), (30, .getfield 26, 10, 2, 2), (33, .iload_n 1, 0, 0, 0), (34, .bipush 12, 0, 0, 0), (36, .irem, 0, 0, 0), (37, .invokevirtual 407, 24, 0, 403), (40, .istore_n 2, 0, 0, 0), (41, .iload_n 2, 0, 0, 0), (42, .iconst 1, 0, 0, 0), (43, .bipush 12, 0, 0, 0), (45, .invokestatic 174, 114, 1, 3), (48, .ireturn, 0, 0, 0)]
def acX10_orderRefusal : AC := [(0, .aload_n 0, 0, 0, 0), (1, .getfield 68, 10, 10, 2), (4, .invokevirtual 411, 48, 0, 801), (7, .ifCond .eq 6, 0, 0, 0), (10, .bipush (-2), 0, 0, 0), (12, .ireturn, 0, 0, 0), (13, .aload_n 0, 0, 0, 0), (14, .getfield 68, 10, 10, 2), (17, .getfield 158, 8, 4, 0), (20, .bipush 12, 0, 0, 0), (22, .if_icmp .lt 8, 0, 0, 0), (25, .bipush (-3), 0, 0, 0), (27, .goto 4, 0, 0, 0), (30, .iconst 0, 0, 0, 0), (31, .ireturn, 0, 0, 0)]
def acX10_giveOrder : AC := [(0, .aload_n 0, 0, 0, 0), (1, .aload_n 0, 0, 0, 0), (2, .getfield 68, 10, 10, 2), (5, .getfield 164, 8, 0, 0), (8, .invokevirtual 178, 117, 0, 1002), (11, .istore_n 2, 0, 0, 0), (12, .aload_n 0, 0, 0, 0), (13, .getfield 68, 10, 10, 2), (16, .iload_n 2, 0, 0, 0), (17, .aload_n 0, 0, 0, 0), (18, .getfield 26, 10, 2, 2), (21, .getfield 379, 6, 2, 0), (24, .iconst 2, 0, 0, 0), (25, .irem, 0, 0, 0), (26, .iconst 1, 0, 0, 0), (27, .if_icmp .ne 8, 0, 0, 0), (30, .iload_n 1, 0, 0, 0), (31, .ineg, 0, 0, 0), (32, .goto 4, 0, 0, 0), (35, .iload_n 1, 0, 0, 0), (36, .invokevirtual 414, 49, 0, 803), (39, .iload_n 2, 0, 0, 0), (40, .ireturn, 0, 0, 0)]
def acX10_passRefusal : AC := [(0, .iload_n 1, 0, 0, 0), (1, .ifCond .lt 31, 0, 0, 0), (4, .iload_n 1, 0, 0, 0), (5, .aload_n 0, 0, 0, 0), (6, .getfield 61, 10, 9, 0), (9, .if_icmp .ge 23, 0, 0, 0), (12, .iload_n 2, 0, 0, 0), (13, .iconst 1, 0, 0, 0), (14, .if_icmp .lt 18, 0, 0, 0), (17, .iload_n 2, 0, 0, 0), (18, .bipush 99, 0, 0, 0), (20, .if_icmp .gt 12, 0, 0, 0), (23, .iload_n 3, 0, 0, 0), (24, .ifCond .lt 8, 0, 0, 0), (27, .iload_n 3, 0, 0, 0), (28, .iconst 1, 0, 0, 0), (29, .if_icmp .le 5, 0, 0, 0), (32, .iconst (-1), 0, 0, 0), (33, .ireturn, 0, 0, 0), (34, .iload_n 3, 0, 0, 0), (35, .iconst 1, 0, 0, 0), (36, .if_icmp .ne 9, 0, 0, 0), (39, .iload_n 1, 0, 0, 0), (40, .iconst 1, 0, 0, 0), (41, .iadd, 0, 0, 0), (42, .goto 6, 0, 0, 0), (45, .iload_n 1, 0, 0, 0), (46, .iconst 1, 0, 0, 0), (47, .isub, 0, 0, 0), (48, .istore 4, 0, 0, 0), (50, .iload 4, 0, 0, 0), (52, .ifCond .lt 12, 0, 0, 0), (55, .iload 4, 0, 0, 0), (57, .aload_n 0, 0, 0, 0), (58, .getfield 61, 10, 9, 0), (61, .if_icmp .lt 5, 0, 0, 0), (64, .iconst (-1), 0, 0, 0), (65, .ireturn, 0, 0, 0), (66, .aload_n 0, 0, 0, 0), (67, .getfield 68, 10, 10, 2), (70, .getfield 152, 8, 7, 2), (73, .iload_n 1, 0, 0, 0), (74, .iaload, 0, 0, 0), (75, .iload_n 2, 0, 0, 0), (76, .if_icmp .ge 6, 0, 0, 0), (79, .bipush (-2), 0, 0, 0), (81, .ireturn, 0, 0, 0), (82, .aload_n 0, 0, 0, 0), (83, .getfield 68, 10, 10, 2), (86, .getfield 152, 8, 7, 2), (89, .iload 4, 0, 0, 0), (91, .iaload, 0, 0, 0), (92, .iload_n 2, 0, 0, 0), (93, .iadd, 0, 0, 0), (94, .bipush 99, 0, 0, 0), (96, .if_icmp .le 8, 0, 0, 0), (99, .bipush (-3), 0, 0, 0), (101, .goto 4, 0, 0, 0), (104, .iconst 0, 0, 0, 0), (105, .ireturn, 0, 0, 0)]
def acX10_moveFood : AC := [(0, .iload_n 3, 0, 0, 0), (1, .iconst 1, 0, 0, 0), (2, .if_icmp .ne 9, 0, 0, 0), (5, .iload_n 1, 0, 0, 0), (6, .iconst 1, 0, 0, 0), (7, .iadd, 0, 0, 0), (8, .goto 6, 0, 0, 0), (11, .iload_n 1, 0, 0, 0), (12, .iconst 1, 0, 0, 0), (13, .isub, 0, 0, 0), (14, .istore 4, 0, 0, 0), (16, .aload_n 0, 0, 0, 0), (17, .getfield 68, 10, 10, 2), (20, .getfield 152, 8, 7, 2), (23, .iload_n 1, 0, 0, 0), (24, .dup2, 0, 0, 0), (25, .iaload, 0, 0, 0), (26, .iload_n 2, 0, 0, 0), (27, .isub, 0, 0, 0), (28, .iastore, 0, 0, 0), (29, .aload_n 0, 0, 0, 0), (30, .getfield 68, 10, 10, 2), (33, .getfield 152, 8, 7, 2), (36, .iload 4, 0, 0, 0), (38, .dup2, 0, 0, 0), (39, .iaload, 0, 0, 0), (40, .iload_n 2, 0, 0, 0), (41, .iadd, 0, 0, 0), (42, .iastore, 0, 0, 0), (43, .return_, 0, 0, 0)]
def acX10_goStep : AC := [(0, .aload_n 0, 0, 0, 0), (1, .getfield 68, 10, 10, 2), (4, .dup, 0, 0, 0), (5, .getfield 164, 8, 0, 0), (8, .iconst 1, 0, 0, 0), (9, .iadd, 0, 0, 0), (10, .putfield 164, 8, 0, 0), (13, .aload_n 0, 0, 0, 0), (14, .getfield 68, 10, 10, 2), (17, .invokevirtual 417, 50, 0, 801), (20, .iconst 0, 0, 0, 0), (21, .istore_n 1, 0, 0, 0), (22, .iload_n 1, 0, 0, 0), (23, .aload_n 0, 0, 0, 0), (24, .getfield 53, 10, 7, 2), (27, .getfield 122, 2, 0, 0), (30, .if_icmp .ge 60, 0, 0, 0), (33, .aload_n 0, 0, 0, 0), (34, .getfield 53, 10, 7, 2), (37, .getfield 146, 2, 1, 2), (40, .iload_n 1, 0, 0, 0), (41, .iaload, 0, 0, 0), (42, .aload_n 0, 0, 0, 0), (43, .getfield 68, 10, 10, 2), (46, .getfield 164, 8, 0, 0), (49, .if_icmp .ne 35, 0, 0, 0), (52, .aload_n 0, 0, 0, 0), (53, .getfield 53, 10, 7, 2), (56, .getfield 149, 2, 2, 2), (59, .iload_n 1, 0, 0, 0), (60, .iaload, 0, 0, 0), (61, .aload_n 0, 0, 0, 0), (62, .getfield 68, 10, 10, 2), (65, .getfield 209, 8, 1, 0), (68, .if_icmp .ne 16, 0, 0, 0), (71, .aload_n 0, 0, 0, 0), (72, .getfield 68, 10, 10, 2), (75, .dup, 0, 0, 0), (76, .getfield 199, 8, 2, 0), (79, .iconst 1, 0, 0, 0), (80, .iadd, 0, 0, 0), (81, .putfield 199, 8, 2, 0), (84, .iinc 1 1, 0, 0, 0), (87, .goto (-65), 0, 0, 0), (90, .iconst 0, 0, 0, 0), (91, .istore_n 1, 0, 0, 0), (92, .iconst 0, 0, 0, 0), (93, .istore_n 2, 0, 0, 0), (94, .iload_n 2, 0, 0, 0), (95, .aload_n 0, 0, 0, 0), (96, .getfield 61, 10, 9, 0), (99, .if_icmp .ge 34, 0, 0, 0), (102, .iload_n 1, 0, 0, 0), (103, .aload_n 0, 0, 0, 0), (104, .getfield 68, 10, 10, 2), (107, .iload_n 2, 0, 0, 0), (108, .aload_n 0, 0, 0, 0), (109, .getfield 57, 10, 8, 2), (112, .iload_n 2, 0, 0, 0), (113, .iaload, 0, 0, 0), (114, .invokevirtual 420, 52, 0, 803), (117, .ifCond .eq 7, 0, 0, 0), (120, .iconst 0, 0, 0, 0), (121, .goto 4, 0, 0, 0), (124, .iconst 1, 0, 0, 0), (125, .iadd, 0, 0, 0), (126, .istore_n 1, 0, 0, 0), (127, .iinc 2 1, 0, 0, 0), (130, .goto (-36), 0, 0, 0), (133, .iload_n 1, 0, 0, 0), (134, .ireturn, 0, 0, 0)]
def acX10_firstFree : AC := [(0, .aload_n 0, 0, 0, 0), (1, .getfield 68, 10, 10, 2), (4, .invokevirtual 411, 48, 0, 801), (7, .ifCond .eq 7, 0, 0, 0), (10, .iconst 1, 0, 0, 0), (11, .goto 4, 0, 0, 0), (14, .iconst 0, 0, 0, 0), (15, .ireturn, 0, 0, 0)]
def acX10_lookAhead : AC := [(0, .aload_n 0, 0, 0, 0), (1, .getfield 85, 10, 13, 2), (4, .aload_n 0, 0, 0, 0), (5, .getfield 26, 10, 2, 2), (8, .getfield 379, 6, 2, 0), (11, .iconst 2, 0, 0, 0), (12, .irem, 0, 0, 0), (13, .iconst 1, 0, 0, 0), (14, .if_icmp .ne 7, 0, 0, 0), (17, .iconst 1, 0, 0, 0), (18, .goto 4, 0, 0, 0), (21, .iconst 0, 0, 0, 0), (22, .putfield 423, 0, 5, 3), (25, .iconst 0, 0, 0, 0), (26, .istore_n 1, 0, 0, 0), (27, .iload_n 1, 0, 0, 0), (28, .bipush 30, 0, 0, 0), (30, .if_icmp .ge 57, 0, 0, 0), (33, .aload_n 0, 0, 0, 0), (34, .getfield 85, 10, 13, 2), (37, .getfield 290, 0, 0, 2), (40, .iload_n 1, 0, 0, 0), (41, .iload_n 1, 0, 0, 0), (42, .bipush 12, 0, 0, 0), (44, .if_icmp .ge 21, 0, 0, 0), (47, .iload_n 1, 0, 0, 0), (48, .aload_n 0, 0, 0, 0), (49, .aload_n 0, 0, 0, 0), (50, .getfield 68, 10, 10, 2), (53, .getfield 164, 8, 0, 0), (56, .iload_n 1, 0, 0, 0), (57, .iadd, 0, 0, 0), (58, .invokevirtual 178, 117, 0, 1002), (61, .iadd, 0, 0, 0), (62, .goto 18, 0, 0, 0), (65, .aload_n 0, 0, 0, 0), (66, .getfield 85, 10, 13, 2), (69, .getfield 290, 0, 0, 2), (72, .iload_n 1, 0, 0, 0), (73, .bipush 12, 0, 0, 0), (75, .isub, 0, 0, 0), (76, .iaload, 0, 0, 0), (77, .bipush 12, 0, 0, 0), (79, .iadd, 0, 0, 0), (80, .iastore, 0, 0, 0), (81, .iinc 1 1, 0, 0, 0), (84, .goto (-57), 0, 0, 0), (87, .aload_n 0, 0, 0, 0), (88, .getfield 85, 10, 13, 2), (91, .getfield 427, 0, 1, 2), (94, .iconst 0, 0, 0, 0), (95, .invokestatic 430, 255, 1, 2), (98, .iconst 0, 0, 0, 0), (99, .istore_n 1, 0, 0, 0), (100, .iload_n 1, 0, 0, 0), (101, .aload_n 0, 0, 0, 0), (102, .getfield 53, 10, 7, 2), (105, .getfield 122, 2, 0, 0), (108, .if_icmp .ge 61, 0, 0, 0), (111, .aload_n 0, 0, 0, 0), (112, .getfield 53, 10, 7, 2), (115, .getfield 146, 2, 1, 2), (118, .iload_n 1, 0, 0, 0), (119, .iaload, 0, 0, 0), (120, .aload_n 0, 0, 0, 0), (121, .getfield 68, 10, 10, 2), (124, .getfield 164, 8, 0, 0), (127, .isub, 0, 0, 0), (128, .istore_n 2, 0, 0, 0), (129, .iload_n 2, 0, 0, 0), (130, .iconst 1, 0, 0, 0), (131, .if_icmp .lt 32, 0, 0, 0), (134, .iload_n 2, 0, 0, 0), (135, .bipush 30, 0, 0, 0), (137, .if_icmp .gt 26, 0, 0, 0), (140, .aload_n 0, 0, 0, 0), (141, .getfield 85, 10, 13, 2), (144, .getfield 427, 0, 1, 2), (147, .iload_n 2, 0, 0, 0), (148, .dup2, 0, 0, 0), (149, .iaload, 0, 0, 0), (150, .iconst 1, 0, 0, 0), (151, .aload_n 0, 0, 0, 0), (152, .getfield 53, 10, 7, 2), (155, .getfield 149, 2, 2, 2), (158, .iload_n 1, 0, 0, 0), (159, .iaload, 0, 0, 0), (160, .ishl, 0, 0, 0), (161, .ior, 0, 0, 0), (162, .iastore, 0, 0, 0), (163, .iinc 1 1, 0, 0, 0), (166, .goto (-66), 0, 0, 0), (169, .return_, 0, 0, 0)]
def acX10_rocksInLane : AC := [(0, .iconst 0, 0, 0, 0), (1, .istore_n 3, 0, 0, 0), (2, .iconst 0, 0, 0, 0), (3, .istore 4, 0, 0, 0), (5, .iload 4, 0, 0, 0), (7, .aload_n 0, 0, 0, 0), (8, .getfield 53, 10, 7, 2), (11, .getfield 122, 2, 0, 0), (14, .if_icmp .ge 58, 0, 0, 0), (17, .aload_n 0, 0, 0, 0), (18, .getfield 53, 10, 7, 2), (21, .getfield 146, 2, 1, 2), (24, .iload 4, 0, 0, 0), (26, .iaload, 0, 0, 0), (27, .aload_n 0, 0, 0, 0), (28, .getfield 68, 10, 10, 2), (31, .getfield 164, 8, 0, 0), (34, .isub, 0, 0, 0), (35, .istore 5, 0, 0, 0), (37, .aload_n 0, 0, 0, 0), (38, .getfield 53, 10, 7, 2), (41, .getfield 149, 2, 2, 2), (44, .iload 4, 0, 0, 0), (46, .iaload, 0, 0, 0), (47, .iload_n 1, 0, 0, 0), (48, .if_icmp .ne 18, 0, 0, 0), (51, .iload 5, 0, 0, 0), (53, .iconst 1, 0, 0, 0), (54, .if_icmp .lt 12, 0, 0, 0), (57, .iload 5, 0, 0, 0), (59, .iload_n 2, 0, 0, 0), (60, .if_icmp .gt 6, 0, 0, 0), (63, .iinc 3 1, 0, 0, 0), (66, .iinc 4 1, 0, 0, 0), (69, .goto (-64), 0, 0, 0), (72, .iload_n 3, 0, 0, 0), (73, .ireturn, 0, 0, 0)]
def acX10_apart : AC := [(0, .iload_n 1, 0, 0, 0), (1, .aload_n 0, 0, 0, 0), (2, .getfield 68, 10, 10, 2), (5, .getfield 209, 8, 1, 0), (8, .isub, 0, 0, 0), (9, .invokestatic 436, 0, 12, 0), (12, .ireturn, 0, 0, 0)]
def acX10_widened : AC := [(0, .iload_n 0, 0, 0, 0), (1, .iload_n 0, 0, 0, 0), (2, .iconst 1, 0, 0, 0), (3, .ishl, 0, 0, 0), (4, .ior, 0, 0, 0), (5, .iload_n 0, 0, 0, 0), (6, .iconst 1, 0, 0, 0), (7, .ishr, 0, 0, 0), (8, .ior, 0, 0, 0), (9, .sipush 511, 0, 0, 0), (12, .iand, 0, 0, 0), (13, .ireturn, 0, 0, 0)]
def acX10_power : AC := [(0, .lconst 1, 0, 0, 0), (1, .lstore_n 3, 0, 0, 0), (2, .iconst 0, 0, 0, 0), (3, .istore 5, 0, 0, 0), (5, .iload 5, 0, 0, 0), (7, .iload_n 2, 0, 0, 0), (8, .if_icmp .ge 13, 0, 0, 0), (11, .lload_n 3, 0, 0, 0), (12, .lload_n 0, 0, 0, 0), (13, .lmul, 0, 0, 0), (14, .lstore_n 3, 0, 0, 0), (15, .iinc 5 1, 0, 0, 0), (18, .goto (-13), 0, 0, 0), (21, .lload_n 3, 0, 0, 0), (22, .lreturn, 0, 0, 0)]
def acX10_likelyWord : AC := [(0, .lconst 0, 0, 0, 0), (1, .lstore_n 2, 0, 0, 0), (2, .lconst 1, 0, 0, 0), (3, .lstore 4, 0, 0, 0), (5, .iconst 0, 0, 0, 0), (6, .istore 6, 0, 0, 0), (8, .iload 6, 0, 0, 0), (10, .iload_n 0, 0, 0, 0), (11, .iconst 2, 0, 0, 0), (12, .idiv, 0, 0, 0), (13, .if_icmp .gt 51, 0, 0, 0), (16, .lload_n 2, 0, 0, 0), (17, .lload 4, 0, 0, 0), (19, .iload_n 1, 0, 0, 0), (20, .i2l, 0, 0, 0), (21, .iload 6, 0, 0, 0), (23, .invokestatic 306, 128, 1, 2), (26, .lmul, 0, 0, 0), (27, .bipush 10, 0, 0, 0), (29, .iload_n 1, 0, 0, 0), (30, .isub, 0, 0, 0), (31, .i2l, 0, 0, 0), (32, .iload_n 0, 0, 0, 0), (33, .iload 6, 0, 0, 0), (35, .isub, 0, 0, 0), (36, .invokestatic 306, 128, 1, 2), (39, .lmul, 0, 0, 0), (40, .ladd, 0, 0, 0), (41, .lstore_n 2, 0, 0, 0), (42, .lload 4, 0, 0, 0), (44, .iload_n 0, 0, 0, 0), (45, .iload 6, 0, 0, 0), (47, .isub, 0, 0, 0), (48, .i2l, 0, 0, 0), (49, .lmul, 0, 0, 0), (50, .iload 6, 0, 0, 0), (52, .iconst 1, 0, 0, 0), (53, .iadd, 0, 0, 0), (54, .i2l, 0, 0, 0), (55, .ldiv, 0, 0, 0), (56, .lstore 4, 0, 0, 0), (58, .iinc 6 1, 0, 0, 0), (61, .goto (-53), 0, 0, 0), (64, .lload_n 2, 0, 0, 0), (65, .lreturn, 0, 0, 0)]
def acX10_lastsFor : AC := [(0, .iconst 0, 0, 0, 0), (1, .istore_n 3, 0, 0, 0), (2, .iconst 0, 0, 0, 0), (3, .istore 4, 0, 0, 0), (5, .iload_n 1, 0, 0, 0), (6, .istore 5, 0, 0, 0), (8, .iload 5, 0, 0, 0), (10, .iload_n 2, 0, 0, 0), (11, .if_icmp .gt 34, 0, 0, 0), (14, .iload_n 3, 0, 0, 0), (15, .aload_n 0, 0, 0, 0), (16, .getfield 68, 10, 10, 2), (19, .getfield 152, 8, 7, 2), (22, .iload 5, 0, 0, 0), (24, .iaload, 0, 0, 0), (25, .iadd, 0, 0, 0), (26, .istore_n 3, 0, 0, 0), (27, .iload 4, 0, 0, 0), (29, .aload_n 0, 0, 0, 0), (30, .getfield 57, 10, 8, 2), (33, .iload 5, 0, 0, 0), (35, .iaload, 0, 0, 0), (36, .iadd, 0, 0, 0), (37, .istore 4, 0, 0, 0), (39, .iinc 5 1, 0, 0, 0), (42, .goto (-34), 0, 0, 0), (45, .iload 4, 0, 0, 0), (47, .ifCond .ne 9, 0, 0, 0), (50, .ldc_w 315, 0, 0, 99999), (53, .goto 7, 0, 0, 0), (56, .iload_n 3, 0, 0, 0), (57, .iload 4, 0, 0, 0), (59, .idiv, 0, 0, 0), (60, .ireturn, 0, 0, 0)]
def acX10_foodLeft : AC := [(0, .iconst 0, 0, 0, 0), (1, .istore_n 3, 0, 0, 0), (2, .iconst 0, 0, 0, 0), (3, .istore 4, 0, 0, 0), (5, .iload 4, 0, 0, 0), (7, .aload_n 0, 0, 0, 0), (8, .getfield 61, 10, 9, 0), (11, .if_icmp .ge 48, 0, 0, 0), (14, .iload_n 3, 0, 0, 0), (15, .aload_n 0, 0, 0, 0), (16, .getfield 68, 10, 10, 2), (19, .getfield 152, 8, 7, 2), (22, .iload 4, 0, 0, 0), (24, .iaload, 0, 0, 0), (25, .iadd, 0, 0, 0), (26, .istore_n 3, 0, 0, 0), (27, .iload_n 3, 0, 0, 0), (28, .iload_n 1, 0, 0, 0), (29, .iload 4, 0, 0, 0), (31, .ishr, 0, 0, 0), (32, .iconst 1, 0, 0, 0), (33, .iand, 0, 0, 0), (34, .iconst 1, 0, 0, 0), (35, .if_icmp .ne 7, 0, 0, 0), (38, .iconst 0, 0, 0, 0), (39, .goto 12, 0, 0, 0), (42, .aload_n 0, 0, 0, 0), (43, .getfield 57, 10, 8, 2), (46, .iload 4, 0, 0, 0), (48, .iaload, 0, 0, 0), (49, .iload_n 2, 0, 0, 0), (50, .imul, 0, 0, 0), (51, .isub, 0, 0, 0), (52, .istore_n 3, 0, 0, 0), (53, .iinc 4 1, 0, 0, 0), (56, .goto (-51), 0, 0, 0), (59, .iload_n 3, 0, 0, 0), (60, .ireturn, 0, 0, 0)]
def acX10_weighPassing : AC := [(0, .aload_n 0, 0, 0, 0), (1, .getfield 61, 10, 9, 0), (4, .iconst 2, 0, 0, 0), (5, .isub, 0, 0, 0), (6, .istore_n 1, 0, 0, 0), (7, .iload_n 1, 0, 0, 0), (8, .ifCond .lt 85, 0, 0, 0), (11, .iconst 0, 0, 0, 0), (12, .istore_n 2, 0, 0, 0), (13, .iload_n 2, 0, 0, 0), (14, .aload_n 0, 0, 0, 0), (15, .getfield 61, 10, 9, 0), (18, .if_icmp .gt 69, 0, 0, 0), (21, .aload_n 0, 0, 0, 0), (22, .getfield 101, 10, 16, 2), (25, .iload_n 1, 0, 0, 0), (26, .aaload, 0, 0, 0), (27, .iload_n 2, 0, 0, 0), (28, .aload_n 0, 0, 0, 0), (29, .getfield 96, 10, 15, 2), (32, .iload_n 1, 0, 0, 0), (33, .iconst 1, 0, 0, 0), (34, .iadd, 0, 0, 0), (35, .iaload, 0, 0, 0), (36, .aload_n 0, 0, 0, 0), (37, .getfield 96, 10, 15, 2), (40, .iload_n 2, 0, 0, 0), (41, .iaload, 0, 0, 0), (42, .isub, 0, 0, 0), (43, .invokestatic 436, 0, 12, 0), (46, .iastore, 0, 0, 0), (47, .iload_n 1, 0, 0, 0), (48, .aload_n 0, 0, 0, 0), (49, .getfield 61, 10, 9, 0), (52, .iconst 2, 0, 0, 0), (53, .isub, 0, 0, 0), (54, .if_icmp .ge 27, 0, 0, 0), (57, .aload_n 0, 0, 0, 0), (58, .getfield 101, 10, 16, 2), (61, .iload_n 1, 0, 0, 0), (62, .aaload, 0, 0, 0), (63, .iload_n 2, 0, 0, 0), (64, .dup2, 0, 0, 0), (65, .iaload, 0, 0, 0), (66, .aload_n 0, 0, 0, 0), (67, .iload_n 1, 0, 0, 0), (68, .iconst 1, 0, 0, 0), (69, .iadd, 0, 0, 0), (70, .aload_n 0, 0, 0, 0), (71, .getfield 96, 10, 15, 2), (74, .iload_n 2, 0, 0, 0), (75, .iaload, 0, 0, 0), (76, .invokevirtual 439, 133, 0, 1003), (79, .iadd, 0, 0, 0), (80, .iastore, 0, 0, 0), (81, .iinc 2 1, 0, 0, 0), (84, .goto (-71), 0, 0, 0), (87, .iinc 1 (-1), 0, 0, 0), (90, .goto (-83), 0, 0, 0), (93, .return_, 0, 0, 0)]
def acX10_leastPassing : AC := [(0, .ldc_w 351, 0, 0, 1000000), (3, .istore_n 3, 0, 0, 0), (4, .iconst 0, 0, 0, 0), (5, .istore 4, 0, 0, 0), (7, .iload 4, 0, 0, 0), (9, .aload_n 0, 0, 0, 0), (10, .getfield 61, 10, 9, 0), (13, .if_icmp .gt 53, 0, 0, 0), (16, .aload_n 0, 0, 0, 0), (17, .getfield 96, 10, 15, 2), (20, .iload 4, 0, 0, 0), (22, .iaload, 0, 0, 0), (23, .iload_n 2, 0, 0, 0), (24, .if_icmp .lt 36, 0, 0, 0), (27, .aload_n 0, 0, 0, 0), (28, .getfield 96, 10, 15, 2), (31, .iload 4, 0, 0, 0), (33, .iaload, 0, 0, 0), (34, .aload_n 0, 0, 0, 0), (35, .getfield 96, 10, 15, 2), (38, .aload_n 0, 0, 0, 0), (39, .getfield 61, 10, 9, 0), (42, .iaload, 0, 0, 0), (43, .if_icmp .gt 17, 0, 0, 0), (46, .iload_n 3, 0, 0, 0), (47, .aload_n 0, 0, 0, 0), (48, .getfield 101, 10, 16, 2), (51, .iload_n 1, 0, 0, 0), (52, .aaload, 0, 0, 0), (53, .iload 4, 0, 0, 0), (55, .iaload, 0, 0, 0), (56, .invokestatic 250, 0, 11, 0), (59, .istore_n 3, 0, 0, 0), (60, .iinc 4 1, 0, 0, 0), (63, .goto (-56), 0, 0, 0), (66, .iload_n 3, 0, 0, 0), (67, .ireturn, 0, 0, 0)]
def acX10_choosePassing : AC := [(0, .aload_n 0, 0, 0, 0), (1, .getfield 19, 10, 1, 2), (4, .invokevirtual 267, 17, 0, 301), (7, .iconst 0, 0, 0, 0), (8, .istore_n 1, 0, 0, 0), (9, .iconst 0, 0, 0, 0), (10, .istore_n 2, 0, 0, 0), (11, .iconst 0, 0, 0, 0), (12, .istore_n 3, 0, 0, 0), (13, .iload_n 3, 0, 0, 0), (14, .aload_n 0, 0, 0, 0), (15, .getfield 61, 10, 9, 0), (18, .iconst 1, 0, 0, 0), (19, .isub, 0, 0, 0), (20, .if_icmp .ge 129, 0, 0, 0), (23, .aload_n 0, 0, 0, 0), (24, .iload_n 3, 0, 0, 0), (25, .iload_n 1, 0, 0, 0), (26, .invokevirtual 439, 133, 0, 1003), (29, .istore 4, 0, 0, 0), (31, .iload_n 1, 0, 0, 0), (32, .istore 5, 0, 0, 0), (34, .iconst 0, 0, 0, 0), (35, .istore 6, 0, 0, 0), (37, .iload 6, 0, 0, 0), (39, .aload_n 0, 0, 0, 0), (40, .getfield 61, 10, 9, 0), (43, .if_icmp .gt 63, 0, 0, 0), (46, .aload_n 0, 0, 0, 0), (47, .getfield 96, 10, 15, 2), (50, .iload 6, 0, 0, 0), (52, .iaload, 0, 0, 0), (53, .iload 5, 0, 0, 0), (55, .if_icmp .le 45, 0, 0, 0), (58, .aload_n 0, 0, 0, 0), (59, .getfield 96, 10, 15, 2), (62, .iload 6, 0, 0, 0), (64, .iaload, 0, 0, 0), (65, .aload_n 0, 0, 0, 0), (66, .getfield 96, 10, 15, 2), (69, .aload_n 0, 0, 0, 0), (70, .getfield 61, 10, 9, 0), (73, .iaload, 0, 0, 0), (74, .if_icmp .gt 26, 0, 0, 0), (77, .aload_n 0, 0, 0, 0), (78, .getfield 101, 10, 16, 2), (81, .iload_n 3, 0, 0, 0), (82, .aaload, 0, 0, 0), (83, .iload 6, 0, 0, 0), (85, .iaload, 0, 0, 0), (86, .iload 4, 0, 0, 0), (88, .if_icmp .ne 12, 0, 0, 0), (91, .aload_n 0, 0, 0, 0), (92, .getfield 96, 10, 15, 2), (95, .iload 6, 0, 0, 0), (97, .iaload, 0, 0, 0), (98, .istore 5, 0, 0, 0), (100, .iinc 6 1, 0, 0, 0), (103, .goto (-66), 0, 0, 0), (106, .iload 5, 0, 0, 0), (108, .istore_n 1, 0, 0, 0), (109, .aload_n 0, 0, 0, 0), (110, .getfield 19, 10, 1, 2), (113, .aload_n 0, 0, 0, 0), (114, .getfield 96, 10, 15, 2), (117, .iload_n 3, 0, 0, 0), (118, .iconst 1, 0, 0, 0), (119, .iadd, 0, 0, 0), (120, .iaload, 0, 0, 0), (121, .iload_n 1, 0, 0, 0), (122, .isub, 0, 0, 0), (123, .i2l, 0, 0, 0), (124, .invokevirtual 273, 18, 0, 302), (127, .iload_n 2, 0, 0, 0), (128, .aload_n 0, 0, 0, 0), (129, .getfield 96, 10, 15, 2), (132, .iload_n 3, 0, 0, 0), (133, .iconst 1, 0, 0, 0), (134, .iadd, 0, 0, 0), (135, .iaload, 0, 0, 0), (136, .iload_n 1, 0, 0, 0), (137, .isub, 0, 0, 0), (138, .invokestatic 436, 0, 12, 0), (141, .iadd, 0, 0, 0), (142, .istore_n 2, 0, 0, 0), (143, .iinc 3 1, 0, 0, 0), (146, .goto (-133), 0, 0, 0), (149, .iload_n 2, 0, 0, 0), (150, .ireturn, 0, 0, 0)]
def acX10_lap : AC := [(0, .iconst 2, 0, 0, 0), (1, .iconst 1, 0, 0, 0), (2, .aload_n 0, 0, 0, 0), (3, .getfield 26, 10, 2, 2), (6, .getfield 297, 6, 0, 0), (9, .iconst 1, 0, 0, 0), (10, .isub, 0, 0, 0), (11, .invokestatic 276, 0, 10, 0), (14, .imul, 0, 0, 0), (15, .ireturn, 0, 0, 0)]
def acX10_cellAfter : AC := [(0, .iload_n 1, 0, 0, 0), (1, .aload_n 0, 0, 0, 0), (2, .invokevirtual 358, 135, 0, 1001), (5, .irem, 0, 0, 0), (6, .istore_n 2, 0, 0, 0), (7, .iload_n 2, 0, 0, 0), (8, .aload_n 0, 0, 0, 0), (9, .getfield 26, 10, 2, 2), (12, .getfield 297, 6, 0, 0), (15, .if_icmp .ge 7, 0, 0, 0), (18, .iload_n 2, 0, 0, 0), (19, .goto 9, 0, 0, 0), (22, .aload_n 0, 0, 0, 0), (23, .invokevirtual 358, 135, 0, 1001), (26, .iload_n 2, 0, 0, 0), (27, .isub, 0, 0, 0), (28, .ireturn, 0, 0, 0)]
def acX10_holdsThen : AC := [(0, .iload_n 1, 0, 0, 0), (1, .iload_n 2, 0, 0, 0), (2, .iadd, 0, 0, 0), (3, .iload_n 3, 0, 0, 0), (4, .if_icmp .lt 9, 0, 0, 0), (7, .iload_n 0, 0, 0, 0), (8, .iload_n 1, 0, 0, 0), (9, .isub, 0, 0, 0), (10, .goto 6, 0, 0, 0), (13, .iload_n 0, 0, 0, 0), (14, .iconst 2, 0, 0, 0), (15, .idiv, 0, 0, 0), (16, .ireturn, 0, 0, 0)]
def acX10_wantsAnother : AC := [(0, .iload_n 0, 0, 0, 0), (1, .iload_n 1, 0, 0, 0), (2, .iload_n 2, 0, 0, 0), (3, .iload_n 3, 0, 0, 0), (4, .invokestatic 442, 137, 1, 4), (7, .istore 4, 0, 0, 0), (9, .iconst 0, 0, 0, 0), (10, .istore 5, 0, 0, 0), (12, .iload 5, 0, 0, 0), (14, .bipush 9, 0, 0, 0), (16, .iload_n 0, 0, 0, 0), (17, .invokestatic 250, 0, 11, 0), (20, .if_icmp .gt 24, 0, 0, 0), (23, .iload_n 0, 0, 0, 0), (24, .iload 5, 0, 0, 0), (26, .iload_n 2, 0, 0, 0), (27, .iload_n 3, 0, 0, 0), (28, .invokestatic 442, 137, 1, 4), (31, .iload 4, 0, 0, 0), (33, .if_icmp .le 5, 0, 0, 0), (36, .iconst 1, 0, 0, 0), (37, .ireturn, 0, 0, 0), (38, .iinc 5 1, 0, 0, 0), (41, .goto (-29), 0, 0, 0), (44, .iconst 0, 0, 0, 0), (45, .ireturn, 0, 0, 0)]
def acX11_init : AC := [(0, .aload_n 0, 0, 0, 0), (1, .invokespecial 3, 0, 14, 0), (4, .aload_n 0, 0, 0, 0), (5, .bipush 40, 0, 0, 0), (7, .newarray .long, 1, 0, 0), (9, .putfield 9, 11, 2, 2), (12, .aload_n 0, 0, 0, 0), (13, .iconst 2, 0, 0, 0), (14, .putfield 13, 11, 3, 0), (17, .aload_n 0, 0, 0, 0), (18, .bipush 10, 0, 0, 0), (20, .newarray .int, 0, 0, 0), (22, .putfield 17, 11, 9, 2), (25, .aload_n 0, 0, 0, 0), (26, .bipush 10, 0, 0, 0), (28, .newarray .boolean, 3, 0, 0), (30, .putfield 21, 11, 10, 2), (33, .aload_n 0, 0, 0, 0), (34, .bipush 16, 0, 0, 0), (36, .newarray .int, 0, 0, 0), (38, .putfield 25, 11, 11, 2), (41, .aload_n 0, 0, 0, 0), (42, .bipush 16, 0, 0, 0), (44, .newarray .int, 0, 0, 0), (46, .putfield 28, 11, 12, 2), (49, .aload_n 0, 0, 0, 0), (50, .bipush 8, 0, 0, 0), (52, .newarray .int, 0, 0, 0), (54, .putfield 31, 11, 13, 2), (57, .aload_n 0, 0, 0, 0), (58, .bipush 57, 0, 0, 0), (60, .newarray .int, 0, 0, 0), (62, .dup, 0, 0, 0), (63, .iconst 0, 0, 0, 0), (64, .iconst 0, 0, 0, 0), (65, .iastore, 0, 0, 0), (66, .dup, 0, 0, 0), (67, .iconst 1, 0, 0, 0), (68, .iconst 4, 0, 0, 0), (69, .iastore, 0, 0, 0), (70, .dup, 0, 0, 0), (71, .iconst 2, 0, 0, 0), (72, .iconst 0, 0, 0, 0), (73, .iastore, 0, 0, 0), (74, .dup, 0, 0, 0), (75, .iconst 3, 0, 0, 0), (76, .iconst 0, 0, 0, 0), (77, .iastore, 0, 0, 0), (78, .dup, 0, 0, 0), (79, .iconst 4, 0, 0, 0), (80, .iconst (-1), 0, 0, 0), (81, .iastore, 0, 0, 0), (82, .dup, 0, 0, 0), (83, .iconst 5, 0, 0, 0), (84, .iconst 0, 0, 0, 0), (85, .iastore, 0, 0, 0), (86, .dup, 0, 0, 0), (87, .bipush 6, 0, 0, 0), (89, .iconst 0, 0, 0, 0), (90, .iastore, 0, 0, 0), (91, .dup, 0, 0, 0), (92, .bipush 7, 0, 0, 0), (94, .iconst 0, 0, 0, 0), (95, .iastore, 0, 0, 0), (96, .dup, 0, 0, 0), (97, .bipush 8, 0, 0, 0), (99, .iconst 0, 0, 0, 0), (100, .iastore, 0, 0, 0), (101, .dup, 0, 0, 0), (102, .bipush 9, 0, 0, 0), (104, .iconst 0, 0, 0, 0), (105, .iastore, 0, 0, 0), (106, .dup, 0, 0, 0), (107, .bipush 10, 0, 0, 0), (109, .iconst 0, 0, 0, 0), (110, .iastore, 0, 0, 0), (111, .dup, 0, 0, 0), (112, .bipush 11, 0, 0, 0), (114, .iconst 0, 0, 0, 0), (115, .iastore, 0, 0, 0), (116, .dup, 0, 0, 0), (117, .bipush 12, 0, 0, 0), (119, .iconst 0, 0, 0, 0), (120, .iastore, 0, 0, 0), (121, .dup, 0, 0, 0), (122, .bipush 13, 0, 0, 0), (124, .iconst 0, 0, 0, 0), (125, .iastore, 0, 0, 0), (126, .dup, 0, 0, 0), (127, .bipush 14, 0, 0, 0), (129, .iconst 0, 0, 0, 0), (130, .iastore, 0, 0, 0), (131, .dup, 0, 0, 0), (132, .bipush 15, 0, 0, 0), (134, .iconst 0, 0, 0, 0), (135, .iastore, 0, 0, 0), (136, .dup, 0, 0, 0), (137, .bipush 16, 0, 0, 0), (139, .iconst 0, 0, 0, 0), (140, .iastore, 0, 0, 0), (141, .dup, 0, 0, 0), (142, .bipush 17, 0, 0, 0), (144, .iconst 0, 0, 0, 0), (145, .iastore, 0, 0, 0), (146, .dup, 0, 0, 0), (147, .bipush 18, 0, 0, 0), (149, .iconst 0, 0, 0, 0), (150, .iastore, 0, 0, 0), (151, .dup, 0, 0, 0), (152, .bipush 19, 0, 0, 0), (154, .iconst 0, 0, 0, 0), (155, .iastore, 0, 0, 0), (156, .dup, 0, 0, 0), (157, .bipush 20, 0, 0, 0), (159, .iconst 0, 0, 0, 0), (160, .iastore, 0, 0, 0), (161, .dup, 0, 0, 0), (162, .bipush 21, 0, 0, 0), (164, .iconst 0, 0, 0, 0), (165, .iastore, 0, 0, 0), (166, .dup, 0, 0, 0), (167, .bipush 22, 0, 0, 0), (169, .iconst 0, 0, 0, 0), (170, .iastore, 0, 0, 0), (171, .dup, 0, 0, 0), (172, .bipush 23, 0, 0, 0), (174, .iconst 0, 0, 0, 0), (175, .iastore, 0, 0, 0), (176, .dup, 0, 0, 0), (177, .bipush 24, 0, 0, 0), (179, .iconst 0, 0, 0, 0), (180, .iastore, 0, 0, 0), (181, .dup, 0, 0, 0), (182, .bipush 25, 0, 0, 0), (184, .iconst 0, 0, 0, 0), (185, .iastore, 0, 0, 0), (186, .dup, 0, 0, 0), (187, .bipush 26, 0, 0, 0), (189, .iconst 0, 0, 0, 0), (190, .iastore, 0, 0, 0), (191, .dup, 0, 0, 0), (192, .bipush 27, 0, 0, 0), (194, .iconst 0, 0, 0, 0), (195, .iastore, 0, 0, 0), (196, .dup, 0, 0, 0), (197, .bipush 28, 0, 0, 0), (199, .iconst 0, 0, 0, 0), (200, .iastore, 0, 0, 0), (201, .dup, 0, 0, 0), (202, .bipush 29, 0, 0, 0), (204, .iconst 0, 0, 0, 0), (205, .iastore, 0, 0, 0), (206, .dup, 0, 0, 0), (207, .bipush 30, 0, 0, 0), (209, .iconst 0, 0, 0, 0), (210, .iastore, 0, 0, 0), (211, .dup, 0, 0, 0), (212, .bipush 31, 0, 0, 0), (214, .iconst 0, 0, 0, 0), (215, .iastore, 0, 0, 0), (216, .dup, 0, 0, 0), (217, .bipush 32, 0, 0, 0), (219, .iconst 0, 0, 0, 0), (220, .iastore, 0, 0, 0), (221, .dup, 0, 0, 0), (222, .bipush 33, 0, 0, 0), (224, .iconst 0, 0, 0, 0), (225, .iastore, 0, 0, 0), (226, .dup, 0, 0, 0), (227, .bipush 34, 0, 0, 0), (229, .iconst 0, 0, 0, 0), (230, .iastore, 0, 0, 0), (231, .dup, 0, 0, 0), (232, .bipush 35, 0, 0, 0), (234, .iconst 0, 0, 0, 0), (235, .iastore, 0, 0, 0), (236, .dup, 0, 0, 0), (237, .bipush 36, 0, 0, 0), (239, .iconst 0, 0, 0, 0), (240, .iastore, 0, 0, 0), (241, .dup, 0, 0, 0), (242, .bipush 37, 0, 0, 0), (244, .iconst 0, 0, 0, 0), (245, .iastore, 0, 0, 0), (246, .dup, 0, 0, 0), (247, .bipush 38, 0, 0, 0), (249, .iconst 0, 0, 0, 0), (250, .iastore, 0, 0, 0), (251, .dup, 0, 0, 0), (252, .bipush 39, 0, 0, 0), (254, .iconst 0, 0, 0, 0), (255, .iastore, 0, 0, 0), (256, .dup, 0, 0, 0), (257, .bipush 40, 0, 0, 0), (259, .iconst 0, 0, 0, 0), (260, .iastore, 0, 0, 0), (261, .dup, 0, 0, 0), (262, .bipush 41, 0, 0, 0), (264, .iconst 0, 0, 0, 0), (265, .iastore, 0, 0, 0), (266, .dup, 0, 0, 0), (267, .bipush 42, 0, 0, 0), (269, .iconst 0, 0, 0, 0), (270, .iastore, 0, 0, 0), (271, .dup, 0, 0, 0), (272, .bipush 43, 0, 0, 0), (274, .iconst 0, 0, 0, 0), (275, .iastore, 0, 0, 0), (276, .dup, 0, 0, 0), (277, .bipush 44, 0, 0, 0), (279, .iconst 0, 0, 0, 0), (280, .iastore, 0, 0, 0), (281, .dup, 0, 0, 0), (282, .bipush 45, 0, 0, 0), (284, .iconst 0, 0, 0, 0), (285, .iastore, 0, 0, 0), (286, .dup, 0, 0, 0), (287, .bipush 46, 0, 0, 0), (289, .iconst 0, 0, 0, 0), (290, .iastore, 0, 0, 0), (291, .dup, 0, 0, 0), (292, .bipush 47, 0, 0, 0), (294, .iconst 0, 0, 0, 0), (295, .iastore, 0, 0, 0), (296, .dup, 0, 0, 0), (297, .bipush 48, 0, 0, 0), (299, .iconst 0, 0, 0, 0), (300, .iastore, 0, 0, 0), (301, .dup, 0, 0, 0), (302, .bipush 49, 0, 0, 0), (304, .iconst 0, 0, 0, 0), (305, .iastore, 0, 0, 0), (306, .dup, 0, 0, 0), (307, .bipush 50, 0, 0, 0), (309, .iconst 0, 0, 0, 0), (310, .iastore, 0, 0, 0), (311, .dup, 0, 0, 0), (312, .bipush 51, 0, 0, 0), (314, .iconst 0, 0, 0, 0), (315, .iastore, 0, 0, 0), (316, .dup, 0, 0, 0), (317, .bipush 52, 0, 0, 0), (319, .iconst 0, 0, 0, 0), (320, .iastore, 0, 0, 0), (321, .dup, 0, 0, 0), (322, .bipush 53, 0, 0, 0), (324, .iconst 0, 0, 0, 0), (325, .iastore, 0, 0, 0), (326, .dup, 0, 0, 0), (327, .bipush 54, 0, 0, 0), (329, .iconst 0, 0, 0, 0), (330, .iastore, 0, 0, 0), (331, .dup, 0, 0, 0), (332, .bipush 55, 0, 0, 0), (334, .iconst 0, 0, 0, 0), (335, .iastore, 0, 0, 0), (336, .dup, 0, 0, 0), (337, .bipush 56, 0, 0, 0), (339, .iconst 0, 0, 0, 0), (340, .iastore, 0, 0, 0), (341, .putfield 34, 11, 14, 2), (344, .aload_n 0, 0, 0, 0), (345, .bipush 57, 0, 0, 0), (347, .newarray .int, 0, 0, 0), (349, .putfield 37, 11, 15, 2), (352, .aload_n 0, 0, 0, 0), (353, .bipush 80, 0, 0, 0), (355, .newarray .int, 0, 0, 0), (357, .putfield 40, 11, 16, 2), (360, .aload_n 0, 0, 0, 0), (361, .bipush 32, 0, 0, 0), (363, .newarray .int, 0, 0, 0), (365, .putfield 43, 11, 21, 2), (368, .aload_n 0, 0, 0, 0), (369, .bipush 80, 0, 0, 0), (371, .newarray .int, 0, 0, 0), (373, .putfield 46, 11, 23, 2), (376, .aload_n 0, 0, 0, 0), (377, .bipush 80, 0, 0, 0), (379, .newarray .int, 0, 0, 0), (381, .putfield 49, 11, 24, 2), (384, .aload_n 0, 0, 0, 0), (385, .bipush 80, 0, 0, 0), (387, .newarray .int, 0, 0, 0), (389, .putfield 52, 11, 27, 2), (392, .aload_n 0, 0, 0, 0), (393, .iconst 4, 0, 0, 0), (394, .newarray .int, 0, 0, 0), (396, .putfield 55, 11, 28, 2), (399, .aload_n 0, 0, 0, 0), (400, .sipush 912, 0, 0, 0), (403, .newarray .int, 0, 0, 0), (405, .putfield 58, 11, 30, 2), (408, .aload_n 0, 0, 0, 0), (409, .bipush 60, 0, 0, 0), (411, .newarray .int, 0, 0, 0), (413, .putfield 61, 11, 33, 2), (416, .aload_n 0, 0, 0, 0), (417, .bipush 60, 0, 0, 0), (419, .newarray .int, 0, 0, 0), (421, .putfield 64, 11, 34, 2), (424, .aload_n 0, 0, 0, 0), (425, .bipush 30, 0, 0, 0), (427, .newarray .int, 0, 0, 0), (429, .putfield 67, 11, 36, 2), (432, .aload_n 0, 0, 0, 0), (433, .bipush 9, 0, 0, 0), (435, .newarray .int, 0, 0, 0), (437, .putfield 70, 11, 37, 2), (440, .aload_n 0, 0, 0, 0), (441, .bipush 9, 0, 0, 0), (443, .newarray .int, 0, 0, 0), (445, .putfield 73, 11, 38, 2), (448, .aload_n 0, 0, 0, 0), (449, .sipush 14409, 0, 0, 0), (452, .newarray .int, 0, 0, 0), (454, .putfield 76, 11, 41, 2), (457, .aload_n 0, 0, 0, 0), (458, .bipush 12, 0, 0, 0), (460, .newarray .int, 0, 0, 0), (462, .putfield 79, 11, 43, 2), (465, .aload_n 0, 0, 0, 0), (466, .bipush 12, 0, 0, 0), (468, .newarray .int, 0, 0, 0), (470, .putfield 82, 11, 44, 2), (473, .aload_n 0, 0, 0, 0), (474, .sipush 225, 0, 0, 0), (477, .newarray .int, 0, 0, 0), (479, .putfield 85, 11, 45, 2), (482, .aload_n 0, 0, 0, 0), (483, .sipush 225, 0, 0, 0), (486, .newarray .boolean, 3, 0, 0), (488, .putfield 88, 11, 46, 2), (491, .aload_n 0, 0, 0, 0), (492, .sipush 225, 0, 0, 0), (495, .newarray .boolean, 3, 0, 0), (497, .putfield 91, 11, 47, 2), (500, .aload_n 0, 0, 0, 0), (501, .iconst 3, 0, 0, 0), (502, .newarray .boolean, 3, 0, 0), (504, .putfield 94, 11, 50, 2), (507, .aload_n 0, 0, 0, 0), (508, .iconst 3, 0, 0, 0), (509, .newarray .int, 0, 0, 0), (511, .putfield 97, 11, 51, 2), (514, .aload_n 0, 0, 0, 0), (515, .sipush 171, 0, 0, 0), (518, .newarray .int, 0, 0, 0), (520, .putfield 100, 11, 52, 2), (523, .return_, 0, 0, 0)]
def acX11_refuse : AC := [(0, .aload_n 0, 0, 0, 0), (1, .iconst 1, 0, 0, 0), (2, .putfield 103, 11, 0, 0), (5, .iconst 0, 0, 0, 0), (6, .ireturn, 0, 0, 0)]
def acX11_in : AC := [(0, .lload_n 0, 0, 0, 0), (1, .lload_n 2, 0, 0, 0), (2, .lcmp, 0, 0, 0), (3, .ifCond .lt 14, 0, 0, 0), (6, .lload_n 0, 0, 0, 0), (7, .lload 4, 0, 0, 0), (9, .lcmp, 0, 0, 0), (10, .ifCond .gt 7, 0, 0, 0), (13, .iconst 1, 0, 0, 0), (14, .goto 4, 0, 0, 0), (17, .iconst 0, 0, 0, 0), (18, .ireturn, 0, 0, 0)]
def acX11_has : AC := [(0, .iload_n 0, 0, 0, 0), (1, .iload_n 1, 0, 0, 0), (2, .ishr, 0, 0, 0), (3, .iconst 1, 0, 0, 0), (4, .iand, 0, 0, 0), (5, .iconst 1, 0, 0, 0), (6, .if_icmp .ne 7, 0, 0, 0), (9, .iconst 1, 0, 0, 0), (10, .goto 4, 0, 0, 0), (13, .iconst 0, 0, 0, 0), (14, .ireturn, 0, 0, 0)]
def acX11_flag : AC := [(0, .iload_n 0, 0, 0, 0), (1, .ifCond .eq 7, 0, 0, 0), (4, .iconst 1, 0, 0, 0), (5, .goto 4, 0, 0, 0), (8, .iconst 0, 0, 0, 0), (9, .ireturn, 0, 0, 0)]
def acX11_common : AC := [(0, .lload_n 2, 0, 0, 0), (1, .lconst 0, 0, 0, 0), (2, .lcmp, 0, 0, 0), (3, .ifCond .ne 7, 0, 0, 0), (6, .lload_n 0, 0, 0, 0), (7, .goto 10, 0, 0, 0), (10, .lload_n 2, 0, 0, 0), (11, .lload_n 0, 0, 0, 0), (12, .lload_n 2, 0, 0, 0), (13, .lrem, 0, 0, 0), (14, .invokestatic 106, 144, 1, 2), (17, .lreturn, 0, 0, 0)]
def acX11_enters : AC := [(0, .aload_n 0, 0, 0, 0), (1, .getfield 9, 11, 2, 2), (4, .aload_n 0, 0, 0, 0), (5, .getfield 110, 11, 1, 0), (8, .lload_n 1, 0, 0, 0), (9, .lastore, 0, 0, 0), (10, .aload_n 0, 0, 0, 0), (11, .dup, 0, 0, 0), (12, .getfield 110, 11, 1, 0), (15, .iconst 1, 0, 0, 0), (16, .iadd, 0, 0, 0), (17, .putfield 110, 11, 1, 0), (20, .return_, 0, 0, 0)]
def acX11_tellsFraction : AC := [(0, .lload_n 1, 0, 0, 0), (1, .lload_n 3, 0, 0, 0), (2, .invokestatic 106, 144, 1, 2), (5, .lstore 5, 0, 0, 0), (7, .aload_n 0, 0, 0, 0), (8, .iconst 0, 0, 0, 0), (9, .putfield 110, 11, 1, 0), (12, .aload_n 0, 0, 0, 0), (13, .lload_n 1, 0, 0, 0), (14, .lload 5, 0, 0, 0), (16, .ldiv, 0, 0, 0), (17, .invokevirtual 113, 145, 0, 1102), (20, .aload_n 0, 0, 0, 0), (21, .lload_n 3, 0, 0, 0), (22, .lload 5, 0, 0, 0), (24, .ldiv, 0, 0, 0), (25, .invokevirtual 113, 145, 0, 1102), (28, .return_, 0, 0, 0)]
def acX11_isMess : AC := [(0, .iload_n 1, 0, 0, 0), (1, .i2l, 0, 0, 0), (2, .lconst 0, 0, 0, 0), (3, .aload_n 0, 0, 0, 0), (4, .getfield 117, 11, 7, 0), (7, .iconst 1, 0, 0, 0), (8, .isub, 0, 0, 0), (9, .i2l, 0, 0, 0), (10, .invokestatic 120, 141, 1, 3), (13, .ireturn, 0, 0, 0)]
def acX11_sign : AC := [(0, .aload_n 0, 0, 0, 0), (1, .iconst 0, 0, 0, 0), (2, .putfield 103, 11, 0, 0), (5, .aload_n 0, 0, 0, 0), (6, .getfield 124, 11, 17, 0), (9, .bipush 76, 0, 0, 0), (11, .if_icmp .le 5, 0, 0, 0), (14, .iconst (-1), 0, 0, 0), (15, .ireturn, 0, 0, 0), (16, .iconst 0, 0, 0, 0), (17, .istore_n 2, 0, 0, 0), (18, .iload_n 2, 0, 0, 0), (19, .iconst 4, 0, 0, 0), (20, .if_icmp .ge 33, 0, 0, 0), (23, .aload_n 0, 0, 0, 0), (24, .getfield 40, 11, 16, 2), (27, .aload_n 0, 0, 0, 0), (28, .getfield 124, 11, 17, 0), (31, .iload_n 2, 0, 0, 0), (32, .iadd, 0, 0, 0), (33, .iload_n 1, 0, 0, 0), (34, .bipush 24, 0, 0, 0), (36, .bipush 8, 0, 0, 0), (38, .iload_n 2, 0, 0, 0), (39, .imul, 0, 0, 0), (40, .isub, 0, 0, 0), (41, .ishr, 0, 0, 0), (42, .sipush 255, 0, 0, 0), (45, .iand, 0, 0, 0), (46, .iastore, 0, 0, 0), (47, .iinc 2 1, 0, 0, 0), (50, .goto (-32), 0, 0, 0), (53, .aload_n 0, 0, 0, 0), (54, .dup, 0, 0, 0), (55, .getfield 124, 11, 17, 0), (58, .iconst 4, 0, 0, 0), (59, .iadd, 0, 0, 0), (60, .putfield 124, 11, 17, 0), (63, .aload_n 0, 0, 0, 0), (64, .getfield 124, 11, 17, 0), (67, .ireturn, 0, 0, 0)]
def acX11_end : AC := [(0, .aload_n 0, 0, 0, 0), (1, .iconst 0, 0, 0, 0), (2, .putfield 103, 11, 0, 0), (5, .iload_n 1, 0, 0, 0), (6, .i2l, 0, 0, 0), (7, .lconst 0, 0, 0, 0), (8, .aload_n 0, 0, 0, 0), (9, .getfield 124, 11, 17, 0), (12, .i2l, 0, 0, 0), (13, .invokestatic 120, 141, 1, 3), (16, .ifCond .ne 5, 0, 0, 0), (19, .iconst 0, 0, 0, 0), (20, .ireturn, 0, 0, 0), (21, .aload_n 0, 0, 0, 0), (22, .iload_n 1, 0, 0, 0), (23, .putfield 124, 11, 17, 0), (26, .iconst 1, 0, 0, 0), (27, .ireturn, 0, 0, 0)]
def acX11_begins : AC := [(0, .aload_n 0, 0, 0, 0), (1, .getfield 124, 11, 17, 0), (4, .istore_n 2, 0, 0, 0), (5, .aload_n 0, 0, 0, 0), (6, .iconst 0, 0, 0, 0), (7, .putfield 124, 11, 17, 0), (10, .aload_n 0, 0, 0, 0), (11, .iconst 0, 0, 0, 0), (12, .putfield 127, 11, 18, 0), (15, .aload_n 0, 0, 0, 0), (16, .iconst 0, 0, 0, 0), (17, .putfield 130, 11, 20, 0), (20, .aload_n 0, 0, 0, 0), (21, .iload_n 2, 0, 0, 0), (22, .iload_n 1, 0, 0, 0), (23, .invokestatic 133, 0, 11, 0), (26, .putfield 139, 11, 19, 0), (29, .iload_n 2, 0, 0, 0), (30, .ireturn, 0, 0, 0)]
def acX11_takes : AC := [(0, .aload_n 0, 0, 0, 0), (1, .getfield 127, 11, 18, 0), (4, .aload_n 0, 0, 0, 0), (5, .getfield 139, 11, 19, 0), (8, .if_icmp .ge 20, 0, 0, 0), (11, .aload_n 0, 0, 0, 0), (12, .getfield 40, 11, 16, 2), (15, .aload_n 0, 0, 0, 0), (16, .getfield 127, 11, 18, 0), (19, .iaload, 0, 0, 0), (20, .iload_n 1, 0, 0, 0), (21, .if_icmp .ne 7, 0, 0, 0), (24, .iconst 1, 0, 0, 0), (25, .goto 4, 0, 0, 0), (28, .iconst 0, 0, 0, 0), (29, .istore_n 2, 0, 0, 0), (30, .aload_n 0, 0, 0, 0), (31, .dup, 0, 0, 0), (32, .getfield 127, 11, 18, 0), (35, .iload_n 2, 0, 0, 0), (36, .invokestatic 142, 143, 1, 1), (39, .iadd, 0, 0, 0), (40, .putfield 127, 11, 18, 0), (43, .iload_n 2, 0, 0, 0), (44, .ireturn, 0, 0, 0)]
def acX11_isDigit : AC := [(0, .aload_n 0, 0, 0, 0), (1, .getfield 127, 11, 18, 0), (4, .aload_n 0, 0, 0, 0), (5, .getfield 139, 11, 19, 0), (8, .if_icmp .ge 29, 0, 0, 0), (11, .aload_n 0, 0, 0, 0), (12, .getfield 40, 11, 16, 2), (15, .aload_n 0, 0, 0, 0), (16, .getfield 127, 11, 18, 0), (19, .iaload, 0, 0, 0), (20, .i2l, 0, 0, 0), (21, .ldc2_w 146, 0, 0, 48), (24, .ldc2_w 148, 0, 0, 57), (27, .invokestatic 120, 141, 1, 3), (30, .ifCond .eq 7, 0, 0, 0), (33, .iconst 1, 0, 0, 0), (34, .goto 4, 0, 0, 0), (37, .iconst 0, 0, 0, 0), (38, .ireturn, 0, 0, 0)]
def acX11_among : AC := [(0, .iconst 0, 0, 0, 0), (1, .istore_n 2, 0, 0, 0), (2, .iload_n 2, 0, 0, 0), (3, .aload_n 1, 0, 0, 0), (4, .invokevirtual 150, 253, 5, 1), (7, .if_icmp .ge 39, 0, 0, 0), (10, .aload_n 0, 0, 0, 0), (11, .getfield 127, 11, 18, 0), (14, .aload_n 0, 0, 0, 0), (15, .getfield 139, 11, 19, 0), (18, .if_icmp .ge 28, 0, 0, 0), (21, .aload_n 1, 0, 0, 0), (22, .iload_n 2, 0, 0, 0), (23, .invokevirtual 156, 254, 5, 2), (26, .aload_n 0, 0, 0, 0), (27, .getfield 40, 11, 16, 2), (30, .aload_n 0, 0, 0, 0), (31, .getfield 127, 11, 18, 0), (34, .iaload, 0, 0, 0), (35, .if_icmp .ne 5, 0, 0, 0), (38, .iload_n 2, 0, 0, 0), (39, .ireturn, 0, 0, 0), (40, .iinc 2 1, 0, 0, 0), (43, .goto (-41), 0, 0, 0), (46, .iconst (-1), 0, 0, 0), (47, .ireturn, 0, 0, 0)]
def acX11_takesOf : AC := [(0, .aload_n 0, 0, 0, 0), (1, .aload_n 1, 0, 0, 0), (2, .invokevirtual 160, 153, 0, 1102), (5, .istore_n 2, 0, 0, 0), (6, .aload_n 0, 0, 0, 0), (7, .dup, 0, 0, 0), (8, .getfield 127, 11, 18, 0), (11, .iload_n 2, 0, 0, 0), (12, .ifCond .lt 7, 0, 0, 0), (15, .iconst 1, 0, 0, 0), (16, .goto 4, 0, 0, 0), (19, .iconst 0, 0, 0, 0), (20, .invokestatic 142, 143, 1, 1), (23, .iadd, 0, 0, 0), (24, .putfield 127, 11, 18, 0), (27, .iload_n 2, 0, 0, 0), (28, .ireturn, 0, 0, 0)]
def acX11_number : AC := [(0, .aload_n 0, 0, 0, 0), (1, .invokevirtual 164, 152, 0, 1101), (4, .ifCond .ne 5, 0, 0, 0), (7, .iconst (-1), 0, 0, 0), (8, .ireturn, 0, 0, 0), (9, .iconst 0, 0, 0, 0), (10, .istore_n 2, 0, 0, 0), (11, .iconst 0, 0, 0, 0), (12, .istore_n 3, 0, 0, 0), (13, .iload_n 3, 0, 0, 0), (14, .iload_n 1, 0, 0, 0), (15, .if_icmp .ge 44, 0, 0, 0), (18, .aload_n 0, 0, 0, 0), (19, .invokevirtual 164, 152, 0, 1101), (22, .ifCond .eq 37, 0, 0, 0), (25, .bipush 10, 0, 0, 0), (27, .iload_n 2, 0, 0, 0), (28, .imul, 0, 0, 0), (29, .aload_n 0, 0, 0, 0), (30, .getfield 40, 11, 16, 2), (33, .aload_n 0, 0, 0, 0), (34, .getfield 127, 11, 18, 0), (37, .iaload, 0, 0, 0), (38, .iadd, 0, 0, 0), (39, .bipush 48, 0, 0, 0), (41, .isub, 0, 0, 0), (42, .istore_n 2, 0, 0, 0), (43, .aload_n 0, 0, 0, 0), (44, .dup, 0, 0, 0), (45, .getfield 127, 11, 18, 0), (48, .iconst 1, 0, 0, 0), (49, .iadd, 0, 0, 0), (50, .putfield 127, 11, 18, 0), (53, .iinc 3 1, 0, 0, 0), (56, .goto (-43), 0, 0, 0), (59, .iload_n 2, 0, 0, 0), (60, .ireturn, 0, 0, 0)]
def acX11_numberIn : AC := [(0, .aload_n 0, 0, 0, 0), (1, .iload_n 1, 0, 0, 0), (2, .invokevirtual 168, 155, 0, 1102), (5, .istore 4, 0, 0, 0), (7, .iload 4, 0, 0, 0), (9, .ifCond .lt 16, 0, 0, 0), (12, .iload 4, 0, 0, 0), (14, .i2l, 0, 0, 0), (15, .iload_n 2, 0, 0, 0), (16, .i2l, 0, 0, 0), (17, .iload_n 3, 0, 0, 0), (18, .i2l, 0, 0, 0), (19, .invokestatic 120, 141, 1, 3), (22, .ifCond .eq 6, 0, 0, 0), (25, .iload 4, 0, 0, 0), (27, .ireturn, 0, 0, 0), (28, .aload_n 0, 0, 0, 0), (29, .dup, 0, 0, 0), (30, .getfield 127, 11, 18, 0), (33, .iconst 1, 0, 0, 0), (34, .isub, 0, 0, 0), (35, .putfield 127, 11, 18, 0), (38, .iconst (-1), 0, 0, 0), (39, .ireturn, 0, 0, 0)]
def acX11_faultOf : AC := [(0, .iload_n 3, 0, 0, 0), (1, .ifCond .eq 18, 0, 0, 0), (4, .aload_n 0, 0, 0, 0), (5, .getfield 127, 11, 18, 0), (8, .aload_n 0, 0, 0, 0), (9, .getfield 139, 11, 19, 0), (12, .if_icmp .ne 7, 0, 0, 0), (15, .iconst 1, 0, 0, 0), (16, .goto 4, 0, 0, 0), (19, .iconst 0, 0, 0, 0), (20, .istore 4, 0, 0, 0), (22, .iload_n 1, 0, 0, 0), (23, .iload_n 2, 0, 0, 0), (24, .if_icmp .le 20, 0, 0, 0), (27, .iload 4, 0, 0, 0), (29, .ifCond .ne 11, 0, 0, 0), (32, .aload_n 0, 0, 0, 0), (33, .getfield 127, 11, 18, 0), (36, .iload_n 2, 0, 0, 0), (37, .if_icmp .lt 7, 0, 0, 0), (40, .iconst (-1), 0, 0, 0), (41, .iload_n 2, 0, 0, 0), (42, .isub, 0, 0, 0), (43, .ireturn, 0, 0, 0), (44, .iload 4, 0, 0, 0), (46, .ifCond .eq 7, 0, 0, 0), (49, .iconst 0, 0, 0, 0), (50, .goto 9, 0, 0, 0), (53, .iconst (-1), 0, 0, 0), (54, .aload_n 0, 0, 0, 0), (55, .getfield 127, 11, 18, 0), (58, .isub, 0, 0, 0), (59, .ireturn, 0, 0, 0)]
def acX11_ship : AC := [(0, .aload_n 0, 0, 0, 0), (1, .iconst 0, 0, 0, 0), (2, .putfield 103, 11, 0, 0), (5, .aload_n 0, 0, 0, 0), (6, .bipush 43, 0, 0, 0), (8, .invokevirtual 172, 150, 0, 1102), (11, .istore_n 1, 0, 0, 0), (12, .aload_n 0, 0, 0, 0), (13, .iconst 0, 0, 0, 0), (14, .putfield 175, 11, 22, 0), (17, .aload_n 0, 0, 0, 0), (18, .iconst 2, 0, 0, 0), (19, .iconst 2, 0, 0, 0), (20, .bipush 40, 0, 0, 0), (22, .invokevirtual 178, 156, 0, 1104), (25, .istore_n 2, 0, 0, 0), (26, .iload_n 2, 0, 0, 0), (27, .ifCond .le 7, 0, 0, 0), (30, .iconst 1, 0, 0, 0), (31, .goto 4, 0, 0, 0), (34, .iconst 0, 0, 0, 0), (35, .istore_n 3, 0, 0, 0), (36, .iconst (-1), 0, 0, 0), (37, .istore 4, 0, 0, 0), (39, .iload_n 3, 0, 0, 0), (40, .ifCond .eq 102, 0, 0, 0), (43, .aload_n 0, 0, 0, 0), (44, .getfield 175, 11, 22, 0), (47, .bipush 10, 0, 0, 0), (49, .if_icmp .ge 93, 0, 0, 0), (52, .aload_n 0, 0, 0, 0), (53, .bipush 44, 0, 0, 0), (55, .invokevirtual 182, 151, 0, 1102), (58, .ifCond .eq 84, 0, 0, 0), (61, .aload_n 0, 0, 0, 0), (62, .iconst 2, 0, 0, 0), (63, .iload 4, 0, 0, 0), (65, .iconst 1, 0, 0, 0), (66, .iadd, 0, 0, 0), (67, .iload_n 2, 0, 0, 0), (68, .iconst 1, 0, 0, 0), (69, .isub, 0, 0, 0), (70, .invokevirtual 178, 156, 0, 1104), (73, .istore 5, 0, 0, 0), (75, .iload 5, 0, 0, 0), (77, .ifCond .lt 7, 0, 0, 0), (80, .iconst 1, 0, 0, 0), (81, .goto 4, 0, 0, 0), (84, .iconst 0, 0, 0, 0), (85, .istore_n 3, 0, 0, 0), (86, .iload_n 3, 0, 0, 0), (87, .ifCond .eq 52, 0, 0, 0), (90, .iload 5, 0, 0, 0), (92, .istore 4, 0, 0, 0), (94, .aload_n 0, 0, 0, 0), (95, .getfield 43, 11, 21, 2), (98, .iconst 2, 0, 0, 0), (99, .aload_n 0, 0, 0, 0), (100, .getfield 175, 11, 22, 0), (103, .imul, 0, 0, 0), (104, .iload 5, 0, 0, 0), (106, .iastore, 0, 0, 0), (107, .aload_n 0, 0, 0, 0), (108, .getfield 43, 11, 21, 2), (111, .iconst 2, 0, 0, 0), (112, .aload_n 0, 0, 0, 0), (113, .getfield 175, 11, 22, 0), (116, .imul, 0, 0, 0), (117, .iconst 1, 0, 0, 0), (118, .iadd, 0, 0, 0), (119, .aload_n 0, 0, 0, 0), (120, .bipush 42, 0, 0, 0), (122, .invokevirtual 182, 151, 0, 1102), (125, .invokestatic 142, 143, 1, 1), (128, .iastore, 0, 0, 0), (129, .aload_n 0, 0, 0, 0), (130, .dup, 0, 0, 0), (131, .getfield 175, 11, 22, 0), (134, .iconst 1, 0, 0, 0), (135, .iadd, 0, 0, 0), (136, .putfield 175, 11, 22, 0), (139, .goto (-100), 0, 0, 0), (142, .aload_n 0, 0, 0, 0), (143, .iload_n 1, 0, 0, 0), (144, .bipush 43, 0, 0, 0), (146, .iload_n 3, 0, 0, 0), (147, .invokevirtual 186, 157, 0, 1104), (150, .istore 5, 0, 0, 0), (152, .iload 5, 0, 0, 0), (154, .ifCond .ge 6, 0, 0, 0), (157, .iload 5, 0, 0, 0), (159, .ireturn, 0, 0, 0), (160, .aload_n 0, 0, 0, 0), (161, .iload_n 2, 0, 0, 0), (162, .putfield 13, 11, 3, 0), (165, .aload_n 0, 0, 0, 0), (166, .aload_n 0, 0, 0, 0), (167, .getfield 175, 11, 22, 0), (170, .putfield 190, 11, 4, 0), (173, .aload_n 0, 0, 0, 0), (174, .iconst 0, 0, 0, 0), (175, .putfield 193, 11, 5, 0), (178, .iconst 0, 0, 0, 0), (179, .istore 6, 0, 0, 0), (181, .iload 6, 0, 0, 0), (183, .aload_n 0, 0, 0, 0), (184, .getfield 190, 11, 4, 0), (187, .if_icmp .ge 72, 0, 0, 0), (190, .aload_n 0, 0, 0, 0), (191, .getfield 17, 11, 9, 2), (194, .iload 6, 0, 0, 0), (196, .aload_n 0, 0, 0, 0), (197, .getfield 43, 11, 21, 2), (200, .iconst 2, 0, 0, 0), (201, .iload 6, 0, 0, 0), (203, .imul, 0, 0, 0), (204, .iaload, 0, 0, 0), (205, .iastore, 0, 0, 0), (206, .aload_n 0, 0, 0, 0), (207, .getfield 21, 11, 10, 2), (210, .iload 6, 0, 0, 0), (212, .aload_n 0, 0, 0, 0), (213, .getfield 43, 11, 21, 2), (216, .iconst 2, 0, 0, 0), (217, .iload 6, 0, 0, 0), (219, .imul, 0, 0, 0), (220, .iconst 1, 0, 0, 0), (221, .iadd, 0, 0, 0), (222, .iaload, 0, 0, 0), (223, .iconst 1, 0, 0, 0), (224, .if_icmp .ne 7, 0, 0, 0), (227, .iconst 1, 0, 0, 0), (228, .goto 4, 0, 0, 0), (231, .iconst 0, 0, 0, 0), (232, .bastore, 0, 0, 0), (233, .aload_n 0, 0, 0, 0), (234, .dup, 0, 0, 0), (235, .getfield 193, 11, 5, 0), (238, .aload_n 0, 0, 0, 0), (239, .getfield 43, 11, 21, 2), (242, .iconst 2, 0, 0, 0), (243, .iload 6, 0, 0, 0), (245, .imul, 0, 0, 0), (246, .iconst 1, 0, 0, 0), (247, .iadd, 0, 0, 0), (248, .iaload, 0, 0, 0), (249, .iadd, 0, 0, 0), (250, .putfield 193, 11, 5, 0), (253, .iinc 6 1, 0, 0, 0), (256, .goto (-75), 0, 0, 0), (259, .aload_n 0, 0, 0, 0), (260, .getfield 190, 11, 4, 0), (263, .ireturn, 0, 0, 0)]
def acX11_readsRock : AC := [(0, .aload_n 0, 0, 0, 0), (1, .getfield 196, 11, 6, 0), (4, .aload_n 0, 0, 0, 0), (5, .getfield 175, 11, 22, 0), (8, .iadd, 0, 0, 0), (9, .bipush 16, 0, 0, 0), (11, .if_icmp .ne 5, 0, 0, 0), (14, .iconst 0, 0, 0, 0), (15, .ireturn, 0, 0, 0), (16, .iconst 2, 0, 0, 0), (17, .aload_n 0, 0, 0, 0), (18, .getfield 175, 11, 22, 0), (21, .imul, 0, 0, 0), (22, .istore_n 1, 0, 0, 0), (23, .aload_n 0, 0, 0, 0), (24, .getfield 43, 11, 21, 2), (27, .iload_n 1, 0, 0, 0), (28, .aload_n 0, 0, 0, 0), (29, .iconst 3, 0, 0, 0), (30, .iconst 1, 0, 0, 0), (31, .sipush 999, 0, 0, 0), (34, .invokevirtual 178, 156, 0, 1104), (37, .iastore, 0, 0, 0), (38, .aload_n 0, 0, 0, 0), (39, .getfield 43, 11, 21, 2), (42, .iload_n 1, 0, 0, 0), (43, .iaload, 0, 0, 0), (44, .ifCond .lt 12, 0, 0, 0), (47, .aload_n 0, 0, 0, 0), (48, .bipush 44, 0, 0, 0), (50, .invokevirtual 182, 151, 0, 1102), (53, .ifCond .ne 5, 0, 0, 0), (56, .iconst 0, 0, 0, 0), (57, .ireturn, 0, 0, 0), (58, .aload_n 0, 0, 0, 0), (59, .getfield 43, 11, 21, 2), (62, .iload_n 1, 0, 0, 0), (63, .iconst 1, 0, 0, 0), (64, .iadd, 0, 0, 0), (65, .aload_n 0, 0, 0, 0), (66, .ldc 199, 1, 0, 0), (68, .invokevirtual 201, 154, 0, 1102), (71, .iastore, 0, 0, 0), (72, .aload_n 0, 0, 0, 0), (73, .dup, 0, 0, 0), (74, .getfield 175, 11, 22, 0), (77, .iconst 1, 0, 0, 0), (78, .iadd, 0, 0, 0), (79, .putfield 175, 11, 22, 0), (82, .aload_n 0, 0, 0, 0), (83, .getfield 43, 11, 21, 2), (86, .iload_n 1, 0, 0, 0), (87, .iconst 1, 0, 0, 0), (88, .iadd, 0, 0, 0), (89, .iaload, 0, 0, 0), (90, .ifCond .lt 7, 0, 0, 0), (93, .iconst 1, 0, 0, 0), (94, .goto 4, 0, 0, 0), (97, .iconst 0, 0, 0, 0), (98, .ireturn, 0, 0, 0)]
def acX11_readsMess : AC := [(0, .aload_n 0, 0, 0, 0), (1, .getfield 117, 11, 7, 0), (4, .aload_n 0, 0, 0, 0), (5, .getfield 175, 11, 22, 0), (8, .iadd, 0, 0, 0), (9, .bipush 8, 0, 0, 0), (11, .if_icmp .ne 5, 0, 0, 0), (14, .iconst 0, 0, 0, 0), (15, .ireturn, 0, 0, 0), (16, .iconst 2, 0, 0, 0), (17, .aload_n 0, 0, 0, 0), (18, .getfield 175, 11, 22, 0), (21, .imul, 0, 0, 0), (22, .istore_n 1, 0, 0, 0), (23, .aload_n 0, 0, 0, 0), (24, .getfield 43, 11, 21, 2), (27, .iload_n 1, 0, 0, 0), (28, .aload_n 0, 0, 0, 0), (29, .iconst 2, 0, 0, 0), (30, .invokevirtual 168, 155, 0, 1102), (33, .iastore, 0, 0, 0), (34, .aload_n 0, 0, 0, 0), (35, .getfield 43, 11, 21, 2), (38, .iload_n 1, 0, 0, 0), (39, .iaload, 0, 0, 0), (40, .ifCond .lt 12, 0, 0, 0), (43, .aload_n 0, 0, 0, 0), (44, .bipush 42, 0, 0, 0), (46, .invokevirtual 182, 151, 0, 1102), (49, .ifCond .ne 5, 0, 0, 0), (52, .iconst 0, 0, 0, 0), (53, .ireturn, 0, 0, 0), (54, .aload_n 0, 0, 0, 0), (55, .getfield 43, 11, 21, 2), (58, .iload_n 1, 0, 0, 0), (59, .iconst 1, 0, 0, 0), (60, .iadd, 0, 0, 0), (61, .aload_n 0, 0, 0, 0), (62, .iconst 1, 0, 0, 0), (63, .invokevirtual 168, 155, 0, 1102), (66, .iastore, 0, 0, 0), (67, .aload_n 0, 0, 0, 0), (68, .dup, 0, 0, 0), (69, .getfield 175, 11, 22, 0), (72, .iconst 1, 0, 0, 0), (73, .iadd, 0, 0, 0), (74, .putfield 175, 11, 22, 0), (77, .aload_n 0, 0, 0, 0), (78, .getfield 43, 11, 21, 2), (81, .iload_n 1, 0, 0, 0), (82, .iconst 1, 0, 0, 0), (83, .iadd, 0, 0, 0), (84, .iaload, 0, 0, 0), (85, .ifCond .lt 7, 0, 0, 0), (88, .iconst 1, 0, 0, 0), (89, .goto 4, 0, 0, 0), (92, .iconst 0, 0, 0, 0), (93, .ireturn, 0, 0, 0)]
def acX11_rocks : AC := [(0, .aload_n 0, 0, 0, 0), (1, .iconst 0, 0, 0, 0), (2, .putfield 103, 11, 0, 0), (5, .aload_n 0, 0, 0, 0), (6, .bipush 76, 0, 0, 0), (8, .invokevirtual 172, 150, 0, 1102), (11, .istore_n 1, 0, 0, 0), (12, .aload_n 0, 0, 0, 0), (13, .iconst 0, 0, 0, 0), (14, .putfield 175, 11, 22, 0), (17, .iconst 1, 0, 0, 0), (18, .istore_n 2, 0, 0, 0), (19, .iload_n 1, 0, 0, 0), (20, .ifCond .le 7, 0, 0, 0), (23, .iconst 1, 0, 0, 0), (24, .goto 4, 0, 0, 0), (27, .iconst 0, 0, 0, 0), (28, .istore_n 3, 0, 0, 0), (29, .iload_n 3, 0, 0, 0), (30, .ifCond .eq 30, 0, 0, 0), (33, .aload_n 0, 0, 0, 0), (34, .invokevirtual 204, 159, 0, 1101), (37, .istore_n 2, 0, 0, 0), (38, .iload_n 2, 0, 0, 0), (39, .ifCond .eq 16, 0, 0, 0), (42, .aload_n 0, 0, 0, 0), (43, .bipush 59, 0, 0, 0), (45, .invokevirtual 182, 151, 0, 1102), (48, .ifCond .eq 7, 0, 0, 0), (51, .iconst 1, 0, 0, 0), (52, .goto 4, 0, 0, 0), (55, .iconst 0, 0, 0, 0), (56, .istore_n 3, 0, 0, 0), (57, .goto (-28), 0, 0, 0), (60, .aload_n 0, 0, 0, 0), (61, .iload_n 1, 0, 0, 0), (62, .bipush 76, 0, 0, 0), (64, .iload_n 2, 0, 0, 0), (65, .invokevirtual 186, 157, 0, 1104), (68, .istore 4, 0, 0, 0), (70, .iload 4, 0, 0, 0), (72, .ifCond .ge 6, 0, 0, 0), (75, .iload 4, 0, 0, 0), (77, .ireturn, 0, 0, 0), (78, .iconst 0, 0, 0, 0), (79, .istore 5, 0, 0, 0), (81, .iload 5, 0, 0, 0), (83, .aload_n 0, 0, 0, 0), (84, .getfield 175, 11, 22, 0), (87, .if_icmp .ge 57, 0, 0, 0), (90, .aload_n 0, 0, 0, 0), (91, .getfield 25, 11, 11, 2), (94, .aload_n 0, 0, 0, 0), (95, .getfield 196, 11, 6, 0), (98, .aload_n 0, 0, 0, 0), (99, .getfield 43, 11, 21, 2), (102, .iconst 2, 0, 0, 0), (103, .iload 5, 0, 0, 0), (105, .imul, 0, 0, 0), (106, .iaload, 0, 0, 0), (107, .iastore, 0, 0, 0), (108, .aload_n 0, 0, 0, 0), (109, .getfield 28, 11, 12, 2), (112, .aload_n 0, 0, 0, 0), (113, .getfield 196, 11, 6, 0), (116, .aload_n 0, 0, 0, 0), (117, .getfield 43, 11, 21, 2), (120, .iconst 2, 0, 0, 0), (121, .iload 5, 0, 0, 0), (123, .imul, 0, 0, 0), (124, .iconst 1, 0, 0, 0), (125, .iadd, 0, 0, 0), (126, .iaload, 0, 0, 0), (127, .iastore, 0, 0, 0), (128, .aload_n 0, 0, 0, 0), (129, .dup, 0, 0, 0), (130, .getfield 196, 11, 6, 0), (133, .iconst 1, 0, 0, 0), (134, .iadd, 0, 0, 0), (135, .putfield 196, 11, 6, 0), (138, .iinc 5 1, 0, 0, 0), (141, .goto (-60), 0, 0, 0), (144, .aload_n 0, 0, 0, 0), (145, .getfield 175, 11, 22, 0), (148, .ireturn, 0, 0, 0)]
def acX11_messes : AC := [(0, .aload_n 0, 0, 0, 0), (1, .iconst 0, 0, 0, 0), (2, .putfield 103, 11, 0, 0), (5, .aload_n 0, 0, 0, 0), (6, .bipush 39, 0, 0, 0), (8, .invokevirtual 172, 150, 0, 1102), (11, .istore_n 1, 0, 0, 0), (12, .aload_n 0, 0, 0, 0), (13, .iconst 0, 0, 0, 0), (14, .putfield 175, 11, 22, 0), (17, .iconst 1, 0, 0, 0), (18, .istore_n 2, 0, 0, 0), (19, .iload_n 1, 0, 0, 0), (20, .ifCond .le 7, 0, 0, 0), (23, .iconst 1, 0, 0, 0), (24, .goto 4, 0, 0, 0), (27, .iconst 0, 0, 0, 0), (28, .istore_n 3, 0, 0, 0), (29, .iload_n 3, 0, 0, 0), (30, .ifCond .eq 30, 0, 0, 0), (33, .aload_n 0, 0, 0, 0), (34, .invokevirtual 207, 160, 0, 1101), (37, .istore_n 2, 0, 0, 0), (38, .iload_n 2, 0, 0, 0), (39, .ifCond .eq 16, 0, 0, 0), (42, .aload_n 0, 0, 0, 0), (43, .bipush 59, 0, 0, 0), (45, .invokevirtual 182, 151, 0, 1102), (48, .ifCond .eq 7, 0, 0, 0), (51, .iconst 1, 0, 0, 0), (52, .goto 4, 0, 0, 0), (55, .iconst 0, 0, 0, 0), (56, .istore_n 3, 0, 0, 0), (57, .goto (-28), 0, 0, 0), (60, .aload_n 0, 0, 0, 0), (61, .iload_n 1, 0, 0, 0), (62, .bipush 39, 0, 0, 0), (64, .iload_n 2, 0, 0, 0), (65, .invokevirtual 186, 157, 0, 1104), (68, .istore 4, 0, 0, 0), (70, .iload 4, 0, 0, 0), (72, .ifCond .ge 6, 0, 0, 0), (75, .iload 4, 0, 0, 0), (77, .ireturn, 0, 0, 0), (78, .iconst 0, 0, 0, 0), (79, .istore 5, 0, 0, 0), (81, .iload 5, 0, 0, 0), (83, .aload_n 0, 0, 0, 0), (84, .getfield 175, 11, 22, 0), (87, .if_icmp .ge 73, 0, 0, 0), (90, .aload_n 0, 0, 0, 0), (91, .getfield 34, 11, 14, 2), (94, .bipush 41, 0, 0, 0), (96, .aload_n 0, 0, 0, 0), (97, .getfield 117, 11, 7, 0), (100, .iadd, 0, 0, 0), (101, .aload_n 0, 0, 0, 0), (102, .getfield 43, 11, 21, 2), (105, .iconst 2, 0, 0, 0), (106, .iload 5, 0, 0, 0), (108, .imul, 0, 0, 0), (109, .iaload, 0, 0, 0), (110, .iastore, 0, 0, 0), (111, .aload_n 0, 0, 0, 0), (112, .getfield 34, 11, 14, 2), (115, .bipush 49, 0, 0, 0), (117, .aload_n 0, 0, 0, 0), (118, .getfield 117, 11, 7, 0), (121, .iadd, 0, 0, 0), (122, .iconst 0, 0, 0, 0), (123, .iastore, 0, 0, 0), (124, .aload_n 0, 0, 0, 0), (125, .getfield 31, 11, 13, 2), (128, .aload_n 0, 0, 0, 0), (129, .getfield 117, 11, 7, 0), (132, .aload_n 0, 0, 0, 0), (133, .getfield 43, 11, 21, 2), (136, .iconst 2, 0, 0, 0), (137, .iload 5, 0, 0, 0), (139, .imul, 0, 0, 0), (140, .iconst 1, 0, 0, 0), (141, .iadd, 0, 0, 0), (142, .iaload, 0, 0, 0), (143, .iastore, 0, 0, 0), (144, .aload_n 0, 0, 0, 0), (145, .dup, 0, 0, 0), (146, .getfield 117, 11, 7, 0), (149, .iconst 1, 0, 0, 0), (150, .iadd, 0, 0, 0), (151, .putfield 117, 11, 7, 0), (154, .iinc 5 1, 0, 0, 0), (157, .goto (-76), 0, 0, 0), (160, .aload_n 0, 0, 0, 0), (161, .getfield 175, 11, 22, 0), (164, .ifCond .le 18, 0, 0, 0), (167, .aload_n 0, 0, 0, 0), (168, .iconst 0, 0, 0, 0), (169, .putfield 210, 11, 29, 0), (172, .aload_n 0, 0, 0, 0), (173, .dup, 0, 0, 0), (174, .getfield 213, 11, 8, 0), (177, .iconst 1, 0, 0, 0), (178, .iadd, 0, 0, 0), (179, .putfield 213, 11, 8, 0), (182, .aload_n 0, 0, 0, 0), (183, .getfield 175, 11, 22, 0), (186, .ireturn, 0, 0, 0)]
def acX11_codes : AC := [(0, .aload_n 0, 0, 0, 0), (1, .getfield 49, 11, 24, 2), (4, .aload_n 0, 0, 0, 0), (5, .getfield 216, 11, 26, 0), (8, .iload_n 1, 0, 0, 0), (9, .iastore, 0, 0, 0), (10, .aload_n 0, 0, 0, 0), (11, .dup, 0, 0, 0), (12, .getfield 216, 11, 26, 0), (15, .iconst 1, 0, 0, 0), (16, .iadd, 0, 0, 0), (17, .putfield 216, 11, 26, 0), (20, .return_, 0, 0, 0)]
def acX11_readsThing : AC := [(0, .aload_n 0, 0, 0, 0), (1, .bipush 45, 0, 0, 0), (3, .invokevirtual 182, 151, 0, 1102), (6, .ifCond .eq 17, 0, 0, 0), (9, .aload_n 0, 0, 0, 0), (10, .invokevirtual 219, 164, 0, 1101), (13, .istore_n 1, 0, 0, 0), (14, .aload_n 0, 0, 0, 0), (15, .sipush 3000, 0, 0, 0), (18, .invokevirtual 222, 163, 0, 1102), (21, .iload_n 1, 0, 0, 0), (22, .ireturn, 0, 0, 0), (23, .aload_n 0, 0, 0, 0), (24, .invokevirtual 164, 152, 0, 1101), (27, .ifCond .eq 14, 0, 0, 0), (30, .aload_n 0, 0, 0, 0), (31, .aload_n 0, 0, 0, 0), (32, .iconst 3, 0, 0, 0), (33, .invokevirtual 168, 155, 0, 1102), (36, .invokevirtual 222, 163, 0, 1102), (39, .iconst 1, 0, 0, 0), (40, .ireturn, 0, 0, 0), (41, .aload_n 0, 0, 0, 0), (42, .ldc 226, 1, 1, 0), (44, .invokevirtual 201, 154, 0, 1102), (47, .istore_n 1, 0, 0, 0), (48, .iload_n 1, 0, 0, 0), (49, .ifCond .lt 14, 0, 0, 0), (52, .aload_n 0, 0, 0, 0), (53, .sipush 1000, 0, 0, 0), (56, .iload_n 1, 0, 0, 0), (57, .iadd, 0, 0, 0), (58, .invokevirtual 222, 163, 0, 1102), (61, .iconst 1, 0, 0, 0), (62, .ireturn, 0, 0, 0), (63, .aload_n 0, 0, 0, 0), (64, .getfield 130, 11, 20, 0), (67, .iconst 4, 0, 0, 0), (68, .if_icmp .eq 12, 0, 0, 0), (71, .aload_n 0, 0, 0, 0), (72, .bipush 40, 0, 0, 0), (74, .invokevirtual 182, 151, 0, 1102), (77, .ifCond .ne 5, 0, 0, 0), (80, .iconst 0, 0, 0, 0), (81, .ireturn, 0, 0, 0), (82, .aload_n 0, 0, 0, 0), (83, .dup, 0, 0, 0), (84, .getfield 130, 11, 20, 0), (87, .iconst 1, 0, 0, 0), (88, .iadd, 0, 0, 0), (89, .putfield 130, 11, 20, 0), (92, .aload_n 0, 0, 0, 0), (93, .iconst 0, 0, 0, 0), (94, .invokevirtual 228, 165, 0, 1102), (97, .ifCond .eq 12, 0, 0, 0), (100, .aload_n 0, 0, 0, 0), (101, .bipush 41, 0, 0, 0), (103, .invokevirtual 182, 151, 0, 1102), (106, .ifCond .ne 5, 0, 0, 0), (109, .iconst 0, 0, 0, 0), (110, .ireturn, 0, 0, 0), (111, .aload_n 0, 0, 0, 0), (112, .dup, 0, 0, 0), (113, .getfield 130, 11, 20, 0), (116, .iconst 1, 0, 0, 0), (117, .isub, 0, 0, 0), (118, .putfield 130, 11, 20, 0), (121, .iconst 1, 0, 0, 0), (122, .ireturn, 0, 0, 0)]
def acX11_readsRank : AC := [(0, .iload_n 1, 0, 0, 0), (1, .iconst 3, 0, 0, 0), (2, .if_icmp .ne 8, 0, 0, 0), (5, .aload_n 0, 0, 0, 0), (6, .invokevirtual 219, 164, 0, 1101), (9, .ireturn, 0, 0, 0), (10, .aload_n 0, 0, 0, 0), (11, .iload_n 1, 0, 0, 0), (12, .iconst 1, 0, 0, 0), (13, .iadd, 0, 0, 0), (14, .invokevirtual 228, 165, 0, 1102), (17, .ifCond .ne 5, 0, 0, 0), (20, .iconst 0, 0, 0, 0), (21, .ireturn, 0, 0, 0), (22, .iconst 1, 0, 0, 0), (23, .istore_n 2, 0, 0, 0), (24, .iload_n 2, 0, 0, 0), (25, .ifCond .eq 88, 0, 0, 0), (28, .aload_n 0, 0, 0, 0), (29, .iload_n 1, 0, 0, 0), (30, .ifCond .ne 8, 0, 0, 0), (33, .ldc 231, 1, 2, 0), (35, .goto 15, 0, 0, 0), (38, .iload_n 1, 0, 0, 0), (39, .iconst 1, 0, 0, 0), (40, .if_icmp .ne 8, 0, 0, 0), (43, .ldc 233, 1, 3, 0), (45, .goto 5, 0, 0, 0), (48, .ldc 235, 1, 4, 0), (50, .invokevirtual 201, 154, 0, 1102), (53, .istore_n 3, 0, 0, 0), (54, .iload_n 3, 0, 0, 0), (55, .ifCond .ge 5, 0, 0, 0), (58, .iconst 1, 0, 0, 0), (59, .ireturn, 0, 0, 0), (60, .aload_n 0, 0, 0, 0), (61, .iload_n 1, 0, 0, 0), (62, .iconst 1, 0, 0, 0), (63, .iadd, 0, 0, 0), (64, .invokevirtual 228, 165, 0, 1102), (67, .ifCond .ne 5, 0, 0, 0), (70, .iconst 0, 0, 0, 0), (71, .ireturn, 0, 0, 0), (72, .aload_n 0, 0, 0, 0), (73, .sipush 2000, 0, 0, 0), (76, .iload_n 3, 0, 0, 0), (77, .iadd, 0, 0, 0), (78, .iload_n 1, 0, 0, 0), (79, .ifCond .ne 7, 0, 0, 0), (82, .iconst 0, 0, 0, 0), (83, .goto 13, 0, 0, 0), (86, .iload_n 1, 0, 0, 0), (87, .iconst 1, 0, 0, 0), (88, .if_icmp .ne 7, 0, 0, 0), (91, .iconst 3, 0, 0, 0), (92, .goto 4, 0, 0, 0), (95, .iconst 5, 0, 0, 0), (96, .iadd, 0, 0, 0), (97, .invokevirtual 222, 163, 0, 1102), (100, .iload_n 1, 0, 0, 0), (101, .ifCond .le 7, 0, 0, 0), (104, .iconst 1, 0, 0, 0), (105, .goto 4, 0, 0, 0), (108, .iconst 0, 0, 0, 0), (109, .istore_n 2, 0, 0, 0), (110, .goto (-86), 0, 0, 0), (113, .iconst 1, 0, 0, 0), (114, .ireturn, 0, 0, 0)]
def acX11_rule : AC := [(0, .aload_n 0, 0, 0, 0), (1, .iconst 0, 0, 0, 0), (2, .putfield 103, 11, 0, 0), (5, .aload_n 0, 0, 0, 0), (6, .bipush 40, 0, 0, 0), (8, .invokevirtual 172, 150, 0, 1102), (11, .istore_n 1, 0, 0, 0), (12, .aload_n 0, 0, 0, 0), (13, .iconst 0, 0, 0, 0), (14, .putfield 216, 11, 26, 0), (17, .iload_n 1, 0, 0, 0), (18, .ifCond .eq 11, 0, 0, 0), (21, .aload_n 0, 0, 0, 0), (22, .iconst 0, 0, 0, 0), (23, .invokevirtual 228, 165, 0, 1102), (26, .ifCond .eq 7, 0, 0, 0), (29, .iconst 1, 0, 0, 0), (30, .goto 4, 0, 0, 0), (33, .iconst 0, 0, 0, 0), (34, .istore_n 2, 0, 0, 0), (35, .aload_n 0, 0, 0, 0), (36, .iload_n 1, 0, 0, 0), (37, .bipush 40, 0, 0, 0), (39, .iload_n 2, 0, 0, 0), (40, .invokevirtual 186, 157, 0, 1104), (43, .istore_n 3, 0, 0, 0), (44, .iload_n 3, 0, 0, 0), (45, .ifCond .ge 5, 0, 0, 0), (48, .iload_n 3, 0, 0, 0), (49, .ireturn, 0, 0, 0), (50, .aload_n 0, 0, 0, 0), (51, .aload_n 0, 0, 0, 0), (52, .getfield 216, 11, 26, 0), (55, .putfield 237, 11, 25, 0), (58, .iconst 0, 0, 0, 0), (59, .istore 4, 0, 0, 0), (61, .iload 4, 0, 0, 0), (63, .aload_n 0, 0, 0, 0), (64, .getfield 216, 11, 26, 0), (67, .if_icmp .ge 23, 0, 0, 0), (70, .aload_n 0, 0, 0, 0), (71, .getfield 46, 11, 23, 2), (74, .iload 4, 0, 0, 0), (76, .aload_n 0, 0, 0, 0), (77, .getfield 49, 11, 24, 2), (80, .iload 4, 0, 0, 0), (82, .iaload, 0, 0, 0), (83, .iastore, 0, 0, 0), (84, .iinc 4 1, 0, 0, 0), (87, .goto (-26), 0, 0, 0), (90, .iconst 0, 0, 0, 0), (91, .ireturn, 0, 0, 0)]
def acX11_worked : AC := [(0, .iload_n 0, 0, 0, 0), (1, .tableswitch 93 0 5 #[39, 53, 67, 81, 85, 89], 0, 0, 0), (40, .iload_n 1, 0, 0, 0), (41, .iload_n 2, 0, 0, 0), (42, .if_icmp .ge 7, 0, 0, 0), (45, .iconst 1, 0, 0, 0), (46, .goto 4, 0, 0, 0), (49, .iconst 0, 0, 0, 0), (50, .invokestatic 142, 143, 1, 1), (53, .ireturn, 0, 0, 0), (54, .iload_n 1, 0, 0, 0), (55, .iload_n 2, 0, 0, 0), (56, .if_icmp .le 7, 0, 0, 0), (59, .iconst 1, 0, 0, 0), (60, .goto 4, 0, 0, 0), (63, .iconst 0, 0, 0, 0), (64, .invokestatic 142, 143, 1, 1), (67, .ireturn, 0, 0, 0), (68, .iload_n 1, 0, 0, 0), (69, .iload_n 2, 0, 0, 0), (70, .if_icmp .ne 7, 0, 0, 0), (73, .iconst 1, 0, 0, 0), (74, .goto 4, 0, 0, 0), (77, .iconst 0, 0, 0, 0), (78, .invokestatic 142, 143, 1, 1), (81, .ireturn, 0, 0, 0), (82, .iload_n 1, 0, 0, 0), (83, .iload_n 2, 0, 0, 0), (84, .iadd, 0, 0, 0), (85, .ireturn, 0, 0, 0), (86, .iload_n 1, 0, 0, 0), (87, .iload_n 2, 0, 0, 0), (88, .isub, 0, 0, 0), (89, .ireturn, 0, 0, 0), (90, .iload_n 1, 0, 0, 0), (91, .iload_n 2, 0, 0, 0), (92, .imul, 0, 0, 0), (93, .ireturn, 0, 0, 0), (94, .iload_n 2, 0, 0, 0), (95, .ifCond .ne 7, 0, 0, 0), (98, .iconst 0, 0, 0, 0), (99, .goto 6, 0, 0, 0), (102, .iload_n 1, 0, 0, 0), (103, .iload_n 2, 0, 0, 0), (104, .idiv, 0, 0, 0), (105, .ireturn, 0, 0, 0)]
def acX11_ruled : AC := [(0, .iconst 0, 0, 0, 0), (1, .istore_n 1, 0, 0, 0), (2, .iconst 0, 0, 0, 0), (3, .istore_n 2, 0, 0, 0), (4, .iload_n 2, 0, 0, 0), (5, .aload_n 0, 0, 0, 0), (6, .getfield 237, 11, 25, 0), (9, .if_icmp .ge 116, 0, 0, 0), (12, .aload_n 0, 0, 0, 0), (13, .getfield 46, 11, 23, 2), (16, .iload_n 2, 0, 0, 0), (17, .iaload, 0, 0, 0), (18, .istore_n 3, 0, 0, 0), (19, .iload_n 3, 0, 0, 0), (20, .sipush 3000, 0, 0, 0), (23, .if_icmp .ne 23, 0, 0, 0), (26, .aload_n 0, 0, 0, 0), (27, .getfield 52, 11, 27, 2), (30, .iload_n 1, 0, 0, 0), (31, .iconst 1, 0, 0, 0), (32, .isub, 0, 0, 0), (33, .aload_n 0, 0, 0, 0), (34, .getfield 52, 11, 27, 2), (37, .iload_n 1, 0, 0, 0), (38, .iconst 1, 0, 0, 0), (39, .isub, 0, 0, 0), (40, .iaload, 0, 0, 0), (41, .ineg, 0, 0, 0), (42, .iastore, 0, 0, 0), (43, .goto 76, 0, 0, 0), (46, .iload_n 3, 0, 0, 0), (47, .sipush 2000, 0, 0, 0), (50, .if_icmp .lt 39, 0, 0, 0), (53, .iinc 1 (-1), 0, 0, 0), (56, .aload_n 0, 0, 0, 0), (57, .getfield 52, 11, 27, 2), (60, .iload_n 1, 0, 0, 0), (61, .iconst 1, 0, 0, 0), (62, .isub, 0, 0, 0), (63, .iload_n 3, 0, 0, 0), (64, .sipush 2000, 0, 0, 0), (67, .isub, 0, 0, 0), (68, .aload_n 0, 0, 0, 0), (69, .getfield 52, 11, 27, 2), (72, .iload_n 1, 0, 0, 0), (73, .iconst 1, 0, 0, 0), (74, .isub, 0, 0, 0), (75, .iaload, 0, 0, 0), (76, .aload_n 0, 0, 0, 0), (77, .getfield 52, 11, 27, 2), (80, .iload_n 1, 0, 0, 0), (81, .iaload, 0, 0, 0), (82, .invokestatic 240, 167, 1, 3), (85, .iastore, 0, 0, 0), (86, .goto 33, 0, 0, 0), (89, .aload_n 0, 0, 0, 0), (90, .getfield 52, 11, 27, 2), (93, .iload_n 1, 0, 0, 0), (94, .iload_n 3, 0, 0, 0), (95, .sipush 1000, 0, 0, 0), (98, .if_icmp .lt 16, 0, 0, 0), (101, .aload_n 0, 0, 0, 0), (102, .getfield 55, 11, 28, 2), (105, .iload_n 3, 0, 0, 0), (106, .sipush 1000, 0, 0, 0), (109, .isub, 0, 0, 0), (110, .iaload, 0, 0, 0), (111, .goto 4, 0, 0, 0), (114, .iload_n 3, 0, 0, 0), (115, .iastore, 0, 0, 0), (116, .iinc 1 1, 0, 0, 0), (119, .iinc 2 1, 0, 0, 0), (122, .goto (-118), 0, 0, 0), (125, .aload_n 0, 0, 0, 0), (126, .getfield 237, 11, 25, 0), (129, .ifCond .ne 17, 0, 0, 0), (132, .aload_n 0, 0, 0, 0), (133, .getfield 55, 11, 28, 2), (136, .iconst 0, 0, 0, 0), (137, .iaload, 0, 0, 0), (138, .bipush 8, 0, 0, 0), (140, .idiv, 0, 0, 0), (141, .iconst 1, 0, 0, 0), (142, .iadd, 0, 0, 0), (143, .goto 9, 0, 0, 0), (146, .aload_n 0, 0, 0, 0), (147, .getfield 52, 11, 27, 2), (150, .iconst 0, 0, 0, 0), (151, .iaload, 0, 0, 0), (152, .istore_n 2, 0, 0, 0), (153, .iconst 1, 0, 0, 0), (154, .bipush 12, 0, 0, 0), (156, .iload_n 2, 0, 0, 0), (157, .invokestatic 133, 0, 11, 0), (160, .invokestatic 243, 0, 10, 0), (163, .ireturn, 0, 0, 0)]
def acX11_delayAt : AC := [(0, .aload_n 0, 0, 0, 0), (1, .getfield 55, 11, 28, 2), (4, .iconst 0, 0, 0, 0), (5, .aload_n 0, 0, 0, 0), (6, .getfield 13, 11, 3, 0), (9, .iastore, 0, 0, 0), (10, .aload_n 0, 0, 0, 0), (11, .getfield 55, 11, 28, 2), (14, .iconst 1, 0, 0, 0), (15, .aload_n 0, 0, 0, 0), (16, .getfield 190, 11, 4, 0), (19, .iastore, 0, 0, 0), (20, .aload_n 0, 0, 0, 0), (21, .getfield 55, 11, 28, 2), (24, .iconst 2, 0, 0, 0), (25, .aload_n 0, 0, 0, 0), (26, .getfield 193, 11, 5, 0), (29, .iastore, 0, 0, 0), (30, .aload_n 0, 0, 0, 0), (31, .getfield 55, 11, 28, 2), (34, .iconst 3, 0, 0, 0), (35, .iload_n 1, 0, 0, 0), (36, .bipush 12, 0, 0, 0), (38, .irem, 0, 0, 0), (39, .iastore, 0, 0, 0), (40, .aload_n 0, 0, 0, 0), (41, .invokevirtual 246, 168, 0, 1101), (44, .ireturn, 0, 0, 0)]
def acX11_turned : AC := [(0, .aload_n 0, 0, 0, 0), (1, .getfield 193, 11, 5, 0), (4, .iconst 2, 0, 0, 0), (5, .irem, 0, 0, 0), (6, .iconst 1, 0, 0, 0), (7, .if_icmp .ne 8, 0, 0, 0), (10, .iload_n 1, 0, 0, 0), (11, .ineg, 0, 0, 0), (12, .goto 4, 0, 0, 0), (15, .iload_n 1, 0, 0, 0), (16, .ireturn, 0, 0, 0)]
def acX11_post : AC := [(0, .aload_n 0, 0, 0, 0), (1, .iconst 0, 0, 0, 0), (2, .putfield 103, 11, 0, 0), (5, .iload_n 1, 0, 0, 0), (6, .i2l, 0, 0, 0), (7, .lconst 0, 0, 0, 0), (8, .aload_n 0, 0, 0, 0), (9, .getfield 190, 11, 4, 0), (12, .iconst 1, 0, 0, 0), (13, .isub, 0, 0, 0), (14, .i2l, 0, 0, 0), (15, .invokestatic 120, 141, 1, 3), (18, .ifCond .eq 13, 0, 0, 0), (21, .iload_n 2, 0, 0, 0), (22, .i2l, 0, 0, 0), (23, .lconst 0, 0, 0, 0), (24, .lconst 1, 0, 0, 0), (25, .invokestatic 120, 141, 1, 3), (28, .ifCond .ne 8, 0, 0, 0), (31, .aload_n 0, 0, 0, 0), (32, .invokevirtual 249, 140, 0, 1101), (35, .ireturn, 0, 0, 0), (36, .iload_n 2, 0, 0, 0), (37, .ifCond .ne 12, 0, 0, 0), (40, .aload_n 0, 0, 0, 0), (41, .getfield 17, 11, 9, 2), (44, .iload_n 1, 0, 0, 0), (45, .iaload, 0, 0, 0), (46, .goto 12, 0, 0, 0), (49, .aload_n 0, 0, 0, 0), (50, .getfield 21, 11, 10, 2), (53, .iload_n 1, 0, 0, 0), (54, .baload, 0, 0, 0), (55, .invokestatic 142, 143, 1, 1), (58, .ireturn, 0, 0, 0)]
def acX11_rock : AC := [(0, .aload_n 0, 0, 0, 0), (1, .iconst 0, 0, 0, 0), (2, .putfield 103, 11, 0, 0), (5, .iload_n 1, 0, 0, 0), (6, .i2l, 0, 0, 0), (7, .lconst 0, 0, 0, 0), (8, .aload_n 0, 0, 0, 0), (9, .getfield 196, 11, 6, 0), (12, .iconst 1, 0, 0, 0), (13, .isub, 0, 0, 0), (14, .i2l, 0, 0, 0), (15, .invokestatic 120, 141, 1, 3), (18, .ifCond .eq 13, 0, 0, 0), (21, .iload_n 2, 0, 0, 0), (22, .i2l, 0, 0, 0), (23, .lconst 0, 0, 0, 0), (24, .lconst 1, 0, 0, 0), (25, .invokestatic 120, 141, 1, 3), (28, .ifCond .ne 8, 0, 0, 0), (31, .aload_n 0, 0, 0, 0), (32, .invokevirtual 249, 140, 0, 1101), (35, .ireturn, 0, 0, 0), (36, .iload_n 2, 0, 0, 0), (37, .ifCond .ne 12, 0, 0, 0), (40, .aload_n 0, 0, 0, 0), (41, .getfield 25, 11, 11, 2), (44, .iload_n 1, 0, 0, 0), (45, .iaload, 0, 0, 0), (46, .goto 9, 0, 0, 0), (49, .aload_n 0, 0, 0, 0), (50, .getfield 28, 11, 12, 2), (53, .iload_n 1, 0, 0, 0), (54, .iaload, 0, 0, 0), (55, .ireturn, 0, 0, 0)]
def acX11_mess : AC := [(0, .aload_n 0, 0, 0, 0), (1, .iconst 0, 0, 0, 0), (2, .putfield 103, 11, 0, 0), (5, .aload_n 0, 0, 0, 0), (6, .iload_n 1, 0, 0, 0), (7, .invokevirtual 252, 147, 0, 1102), (10, .ifCond .eq 15, 0, 0, 0), (13, .iload_n 2, 0, 0, 0), (14, .i2l, 0, 0, 0), (15, .lconst 0, 0, 0, 0), (16, .ldc2_w 255, 0, 0, 2), (19, .invokestatic 120, 141, 1, 3), (22, .ifCond .ne 8, 0, 0, 0), (25, .aload_n 0, 0, 0, 0), (26, .invokevirtual 249, 140, 0, 1101), (29, .ireturn, 0, 0, 0), (30, .iload_n 2, 0, 0, 0), (31, .ifCond .ne 15, 0, 0, 0), (34, .aload_n 0, 0, 0, 0), (35, .getfield 34, 11, 14, 2), (38, .bipush 41, 0, 0, 0), (40, .iload_n 1, 0, 0, 0), (41, .iadd, 0, 0, 0), (42, .iaload, 0, 0, 0), (43, .goto 26, 0, 0, 0), (46, .iload_n 2, 0, 0, 0), (47, .iconst 1, 0, 0, 0), (48, .if_icmp .ne 12, 0, 0, 0), (51, .aload_n 0, 0, 0, 0), (52, .getfield 31, 11, 13, 2), (55, .iload_n 1, 0, 0, 0), (56, .iaload, 0, 0, 0), (57, .goto 12, 0, 0, 0), (60, .aload_n 0, 0, 0, 0), (61, .getfield 34, 11, 14, 2), (64, .bipush 49, 0, 0, 0), (66, .iload_n 1, 0, 0, 0), (67, .iadd, 0, 0, 0), (68, .iaload, 0, 0, 0), (69, .ireturn, 0, 0, 0)]
def acX11_isAhead : AC := [(0, .iconst 5, 0, 0, 0), (1, .iconst 3, 0, 0, 0), (2, .iload_n 1, 0, 0, 0), (3, .imul, 0, 0, 0), (4, .iadd, 0, 0, 0), (5, .istore_n 3, 0, 0, 0), (6, .iconst 5, 0, 0, 0), (7, .iconst 3, 0, 0, 0), (8, .iload_n 2, 0, 0, 0), (9, .imul, 0, 0, 0), (10, .iadd, 0, 0, 0), (11, .istore 4, 0, 0, 0), (13, .aload_n 0, 0, 0, 0), (14, .getfield 34, 11, 14, 2), (17, .iload_n 3, 0, 0, 0), (18, .iconst 0, 0, 0, 0), (19, .iadd, 0, 0, 0), (20, .iaload, 0, 0, 0), (21, .aload_n 0, 0, 0, 0), (22, .getfield 34, 11, 14, 2), (25, .iload 4, 0, 0, 0), (27, .iconst 0, 0, 0, 0), (28, .iadd, 0, 0, 0), (29, .iaload, 0, 0, 0), (30, .if_icmp .lt 43, 0, 0, 0), (33, .aload_n 0, 0, 0, 0), (34, .getfield 34, 11, 14, 2), (37, .iload_n 3, 0, 0, 0), (38, .iconst 0, 0, 0, 0), (39, .iadd, 0, 0, 0), (40, .iaload, 0, 0, 0), (41, .aload_n 0, 0, 0, 0), (42, .getfield 34, 11, 14, 2), (45, .iload 4, 0, 0, 0), (47, .iconst 0, 0, 0, 0), (48, .iadd, 0, 0, 0), (49, .iaload, 0, 0, 0), (50, .if_icmp .ne 27, 0, 0, 0), (53, .aload_n 0, 0, 0, 0), (54, .getfield 34, 11, 14, 2), (57, .iload_n 3, 0, 0, 0), (58, .iconst 2, 0, 0, 0), (59, .iadd, 0, 0, 0), (60, .iaload, 0, 0, 0), (61, .aload_n 0, 0, 0, 0), (62, .getfield 34, 11, 14, 2), (65, .iload 4, 0, 0, 0), (67, .iconst 2, 0, 0, 0), (68, .iadd, 0, 0, 0), (69, .iaload, 0, 0, 0), (70, .if_icmp .ge 7, 0, 0, 0), (73, .iconst 1, 0, 0, 0), (74, .goto 4, 0, 0, 0), (77, .iconst 0, 0, 0, 0), (78, .ireturn, 0, 0, 0)]
def acX11_way : AC := [(0, .aload_n 0, 0, 0, 0), (1, .iconst 0, 0, 0, 0), (2, .putfield 103, 11, 0, 0), (5, .iload_n 1, 0, 0, 0), (6, .i2l, 0, 0, 0), (7, .lconst 0, 0, 0, 0), (8, .aload_n 0, 0, 0, 0), (9, .getfield 34, 11, 14, 2), (12, .iconst 3, 0, 0, 0), (13, .iaload, 0, 0, 0), (14, .iconst 1, 0, 0, 0), (15, .isub, 0, 0, 0), (16, .i2l, 0, 0, 0), (17, .invokestatic 120, 141, 1, 3), (20, .ifCond .eq 13, 0, 0, 0), (23, .iload_n 2, 0, 0, 0), (24, .i2l, 0, 0, 0), (25, .lconst 0, 0, 0, 0), (26, .lconst 1, 0, 0, 0), (27, .invokestatic 120, 141, 1, 3), (30, .ifCond .ne 8, 0, 0, 0), (33, .aload_n 0, 0, 0, 0), (34, .invokevirtual 249, 140, 0, 1101), (37, .ireturn, 0, 0, 0), (38, .iconst 0, 0, 0, 0), (39, .istore_n 3, 0, 0, 0), (40, .iconst 0, 0, 0, 0), (41, .istore 4, 0, 0, 0), (43, .iload 4, 0, 0, 0), (45, .aload_n 0, 0, 0, 0), (46, .getfield 34, 11, 14, 2), (49, .iconst 3, 0, 0, 0), (50, .iaload, 0, 0, 0), (51, .if_icmp .ge 61, 0, 0, 0), (54, .iconst 0, 0, 0, 0), (55, .istore 5, 0, 0, 0), (57, .iconst 0, 0, 0, 0), (58, .istore 6, 0, 0, 0), (60, .iload 6, 0, 0, 0), (62, .aload_n 0, 0, 0, 0), (63, .getfield 34, 11, 14, 2), (66, .iconst 3, 0, 0, 0), (67, .iaload, 0, 0, 0), (68, .if_icmp .ge 25, 0, 0, 0), (71, .iload 5, 0, 0, 0), (73, .aload_n 0, 0, 0, 0), (74, .iload 6, 0, 0, 0), (76, .iload 4, 0, 0, 0), (78, .invokevirtual 257, 174, 0, 1103), (81, .invokestatic 142, 143, 1, 1), (84, .iadd, 0, 0, 0), (85, .istore 5, 0, 0, 0), (87, .iinc 6 1, 0, 0, 0), (90, .goto (-30), 0, 0, 0), (93, .iload 5, 0, 0, 0), (95, .iload_n 1, 0, 0, 0), (96, .if_icmp .ne 8, 0, 0, 0), (99, .iload 4, 0, 0, 0), (101, .goto 4, 0, 0, 0), (104, .iload_n 3, 0, 0, 0), (105, .istore_n 3, 0, 0, 0), (106, .iinc 4 1, 0, 0, 0), (109, .goto (-66), 0, 0, 0), (112, .iload_n 2, 0, 0, 0), (113, .ifCond .ne 25, 0, 0, 0), (116, .aload_n 0, 0, 0, 0), (117, .getfield 34, 11, 14, 2), (120, .iconst 5, 0, 0, 0), (121, .iconst 3, 0, 0, 0), (122, .iload_n 3, 0, 0, 0), (123, .imul, 0, 0, 0), (124, .iadd, 0, 0, 0), (125, .iconst 0, 0, 0, 0), (126, .iadd, 0, 0, 0), (127, .iaload, 0, 0, 0), (128, .aload_n 0, 0, 0, 0), (129, .getfield 34, 11, 14, 2), (132, .iconst 0, 0, 0, 0), (133, .iaload, 0, 0, 0), (134, .isub, 0, 0, 0), (135, .goto 15, 0, 0, 0), (138, .aload_n 0, 0, 0, 0), (139, .getfield 34, 11, 14, 2), (142, .iconst 5, 0, 0, 0), (143, .iconst 3, 0, 0, 0), (144, .iload_n 3, 0, 0, 0), (145, .imul, 0, 0, 0), (146, .iadd, 0, 0, 0), (147, .iconst 1, 0, 0, 0), (148, .iadd, 0, 0, 0), (149, .iaload, 0, 0, 0), (150, .ireturn, 0, 0, 0)]
def acX11_sheet : AC := [(0, .aload_n 0, 0, 0, 0), (1, .iconst 0, 0, 0, 0), (2, .putfield 103, 11, 0, 0), (5, .iload_n 1, 0, 0, 0), (6, .i2l, 0, 0, 0), (7, .lconst 0, 0, 0, 0), (8, .ldc2_w 261, 0, 0, 3), (11, .invokestatic 120, 141, 1, 3), (14, .ifCond .eq 9, 0, 0, 0), (17, .iload_n 2, 0, 0, 0), (18, .bipush 8, 0, 0, 0), (20, .if_icmp .le 5, 0, 0, 0), (23, .iconst (-1), 0, 0, 0), (24, .ireturn, 0, 0, 0), (25, .iload_n 1, 0, 0, 0), (26, .iconst 3, 0, 0, 0), (27, .if_icmp .eq 10, 0, 0, 0), (30, .iload_n 2, 0, 0, 0), (31, .ifCond .ge 6, 0, 0, 0), (34, .bipush (-2), 0, 0, 0), (36, .ireturn, 0, 0, 0), (37, .iconst 0, 0, 0, 0), (38, .istore 5, 0, 0, 0), (40, .iload_n 3, 0, 0, 0), (41, .istore 6, 0, 0, 0), (43, .iconst 0, 0, 0, 0), (44, .istore 7, 0, 0, 0), (46, .iload 7, 0, 0, 0), (48, .aload_n 0, 0, 0, 0), (49, .getfield 117, 11, 7, 0), (52, .if_icmp .ge 86, 0, 0, 0), (55, .iload_n 1, 0, 0, 0), (56, .ifCond .ne 9, 0, 0, 0), (59, .iload 6, 0, 0, 0), (61, .i2b, 0, 0, 0), (62, .goto 16, 0, 0, 0), (65, .iload_n 1, 0, 0, 0), (66, .iconst 1, 0, 0, 0), (67, .if_icmp .ne 9, 0, 0, 0), (70, .iload 6, 0, 0, 0), (72, .i2s, 0, 0, 0), (73, .goto 5, 0, 0, 0), (76, .iload 6, 0, 0, 0), (78, .istore 8, 0, 0, 0), (80, .aload_n 0, 0, 0, 0), (81, .getfield 31, 11, 13, 2), (84, .iload 7, 0, 0, 0), (86, .iload_n 1, 0, 0, 0), (87, .iconst 3, 0, 0, 0), (88, .if_icmp .eq 9, 0, 0, 0), (91, .iload 7, 0, 0, 0), (93, .iload_n 2, 0, 0, 0), (94, .if_icmp .lt 7, 0, 0, 0), (97, .iconst 0, 0, 0, 0), (98, .goto 14, 0, 0, 0), (101, .iconst 0, 0, 0, 0), (102, .bipush 9, 0, 0, 0), (104, .iload 8, 0, 0, 0), (106, .invokestatic 133, 0, 11, 0), (109, .invokestatic 243, 0, 10, 0), (112, .iastore, 0, 0, 0), (113, .iload 5, 0, 0, 0), (115, .aload_n 0, 0, 0, 0), (116, .getfield 31, 11, 13, 2), (119, .iload 7, 0, 0, 0), (121, .iaload, 0, 0, 0), (122, .iadd, 0, 0, 0), (123, .istore 5, 0, 0, 0), (125, .iload 6, 0, 0, 0), (127, .iload 4, 0, 0, 0), (129, .iadd, 0, 0, 0), (130, .istore 6, 0, 0, 0), (132, .iinc 7 1, 0, 0, 0), (135, .goto (-89), 0, 0, 0), (138, .iload_n 1, 0, 0, 0), (139, .iconst 3, 0, 0, 0), (140, .if_icmp .ne 8, 0, 0, 0), (143, .bipush (-3), 0, 0, 0), (145, .goto 5, 0, 0, 0), (148, .iload 5, 0, 0, 0), (150, .ireturn, 0, 0, 0)]
def acX11_putsBy : AC := [(0, .iconst 0, 0, 0, 0), (1, .istore_n 1, 0, 0, 0), (2, .iload_n 1, 0, 0, 0), (3, .bipush 57, 0, 0, 0), (5, .if_icmp .ge 29, 0, 0, 0), (8, .aload_n 0, 0, 0, 0), (9, .getfield 58, 11, 30, 2), (12, .bipush 57, 0, 0, 0), (14, .aload_n 0, 0, 0, 0), (15, .getfield 210, 11, 29, 0), (18, .imul, 0, 0, 0), (19, .iload_n 1, 0, 0, 0), (20, .iadd, 0, 0, 0), (21, .aload_n 0, 0, 0, 0), (22, .getfield 34, 11, 14, 2), (25, .iload_n 1, 0, 0, 0), (26, .iaload, 0, 0, 0), (27, .iastore, 0, 0, 0), (28, .iinc 1 1, 0, 0, 0), (31, .goto (-29), 0, 0, 0), (34, .return_, 0, 0, 0)]
def acX11_adds : AC := [(0, .aload_n 0, 0, 0, 0), (1, .dup, 0, 0, 0), (2, .getfield 210, 11, 29, 0), (5, .iconst 1, 0, 0, 0), (6, .iadd, 0, 0, 0), (7, .putfield 210, 11, 29, 0), (10, .aload_n 0, 0, 0, 0), (11, .getfield 210, 11, 29, 0), (14, .bipush 15, 0, 0, 0), (16, .if_icmp .le 43, 0, 0, 0), (19, .iconst 0, 0, 0, 0), (20, .istore_n 2, 0, 0, 0), (21, .iload_n 2, 0, 0, 0), (22, .sipush 855, 0, 0, 0), (25, .if_icmp .ge 24, 0, 0, 0), (28, .aload_n 0, 0, 0, 0), (29, .getfield 58, 11, 30, 2), (32, .iload_n 2, 0, 0, 0), (33, .aload_n 0, 0, 0, 0), (34, .getfield 58, 11, 30, 2), (37, .iload_n 2, 0, 0, 0), (38, .bipush 57, 0, 0, 0), (40, .iadd, 0, 0, 0), (41, .iaload, 0, 0, 0), (42, .iastore, 0, 0, 0), (43, .iinc 2 1, 0, 0, 0), (46, .goto (-25), 0, 0, 0), (49, .aload_n 0, 0, 0, 0), (50, .dup, 0, 0, 0), (51, .getfield 210, 11, 29, 0), (54, .iconst 1, 0, 0, 0), (55, .isub, 0, 0, 0), (56, .putfield 210, 11, 29, 0), (59, .iload_n 1, 0, 0, 0), (60, .ireturn, 0, 0, 0)]
def acX11_counts : AC := [(0, .iload_n 1, 0, 0, 0), (1, .ifCond .ge 7, 0, 0, 0), (4, .iload_n 1, 0, 0, 0), (5, .goto 8, 0, 0, 0), (8, .aload_n 0, 0, 0, 0), (9, .iload_n 1, 0, 0, 0), (10, .invokevirtual 263, 178, 0, 1102), (13, .ireturn, 0, 0, 0)]
def acX11_undo : AC := [(0, .aload_n 0, 0, 0, 0), (1, .iconst 0, 0, 0, 0), (2, .putfield 103, 11, 0, 0), (5, .aload_n 0, 0, 0, 0), (6, .getfield 210, 11, 29, 0), (9, .ifCond .ne 5, 0, 0, 0), (12, .iconst (-1), 0, 0, 0), (13, .ireturn, 0, 0, 0), (14, .aload_n 0, 0, 0, 0), (15, .dup, 0, 0, 0), (16, .getfield 210, 11, 29, 0), (19, .iconst 1, 0, 0, 0), (20, .isub, 0, 0, 0), (21, .putfield 210, 11, 29, 0), (24, .iconst 0, 0, 0, 0), (25, .istore_n 1, 0, 0, 0), (26, .iload_n 1, 0, 0, 0), (27, .bipush 57, 0, 0, 0), (29, .if_icmp .ge 29, 0, 0, 0), (32, .aload_n 0, 0, 0, 0), (33, .getfield 34, 11, 14, 2), (36, .iload_n 1, 0, 0, 0), (37, .aload_n 0, 0, 0, 0), (38, .getfield 58, 11, 30, 2), (41, .bipush 57, 0, 0, 0), (43, .aload_n 0, 0, 0, 0), (44, .getfield 210, 11, 29, 0), (47, .imul, 0, 0, 0), (48, .iload_n 1, 0, 0, 0), (49, .iadd, 0, 0, 0), (50, .iaload, 0, 0, 0), (51, .iastore, 0, 0, 0), (52, .iinc 1 1, 0, 0, 0), (55, .goto (-29), 0, 0, 0), (58, .aload_n 0, 0, 0, 0), (59, .getfield 210, 11, 29, 0), (62, .ireturn, 0, 0, 0)]
def acX11_put : AC := [(0, .iconst 0, 0, 0, 0), (1, .bipush 8, 0, 0, 0), (3, .iload_n 0, 0, 0, 0), (4, .invokestatic 133, 0, 11, 0), (7, .invokestatic 243, 0, 10, 0), (10, .ireturn, 0, 0, 0)]
def acX11_doesDue : AC := [(0, .iconst 0, 0, 0, 0), (1, .istore_n 1, 0, 0, 0), (2, .iconst 0, 0, 0, 0), (3, .istore_n 2, 0, 0, 0), (4, .iload_n 2, 0, 0, 0), (5, .aload_n 0, 0, 0, 0), (6, .iconst 3, 0, 0, 0), (7, .iaload, 0, 0, 0), (8, .if_icmp .ge 78, 0, 0, 0), (11, .iconst 5, 0, 0, 0), (12, .iconst 3, 0, 0, 0), (13, .iload_n 2, 0, 0, 0), (14, .imul, 0, 0, 0), (15, .iadd, 0, 0, 0), (16, .istore_n 3, 0, 0, 0), (17, .aload_n 0, 0, 0, 0), (18, .iload_n 3, 0, 0, 0), (19, .iconst 0, 0, 0, 0), (20, .iadd, 0, 0, 0), (21, .iaload, 0, 0, 0), (22, .aload_n 0, 0, 0, 0), (23, .iconst 0, 0, 0, 0), (24, .iaload, 0, 0, 0), (25, .if_icmp .ne 21, 0, 0, 0), (28, .aload_n 0, 0, 0, 0), (29, .iconst 1, 0, 0, 0), (30, .aload_n 0, 0, 0, 0), (31, .iconst 1, 0, 0, 0), (32, .iaload, 0, 0, 0), (33, .aload_n 0, 0, 0, 0), (34, .iload_n 3, 0, 0, 0), (35, .iconst 1, 0, 0, 0), (36, .iadd, 0, 0, 0), (37, .iaload, 0, 0, 0), (38, .iadd, 0, 0, 0), (39, .invokestatic 266, 181, 1, 1), (42, .iastore, 0, 0, 0), (43, .goto 37, 0, 0, 0), (46, .iconst 0, 0, 0, 0), (47, .istore 4, 0, 0, 0), (49, .iload 4, 0, 0, 0), (51, .iconst 3, 0, 0, 0), (52, .if_icmp .ge 25, 0, 0, 0), (55, .aload_n 0, 0, 0, 0), (56, .iconst 5, 0, 0, 0), (57, .iconst 3, 0, 0, 0), (58, .iload_n 1, 0, 0, 0), (59, .imul, 0, 0, 0), (60, .iadd, 0, 0, 0), (61, .iload 4, 0, 0, 0), (63, .iadd, 0, 0, 0), (64, .aload_n 0, 0, 0, 0), (65, .iload_n 3, 0, 0, 0), (66, .iload 4, 0, 0, 0), (68, .iadd, 0, 0, 0), (69, .iaload, 0, 0, 0), (70, .iastore, 0, 0, 0), (71, .iinc 4 1, 0, 0, 0), (74, .goto (-25), 0, 0, 0), (77, .iinc 1 1, 0, 0, 0), (80, .iinc 2 1, 0, 0, 0), (83, .goto (-79), 0, 0, 0), (86, .aload_n 0, 0, 0, 0), (87, .iconst 3, 0, 0, 0), (88, .iload_n 1, 0, 0, 0), (89, .iastore, 0, 0, 0), (90, .return_, 0, 0, 0)]
def acX11_hitsAt : AC := [(0, .iconst 0, 0, 0, 0), (1, .istore_n 3, 0, 0, 0), (2, .iconst 0, 0, 0, 0), (3, .istore 4, 0, 0, 0), (5, .iload 4, 0, 0, 0), (7, .aload_n 0, 0, 0, 0), (8, .getfield 196, 11, 6, 0), (11, .if_icmp .ge 42, 0, 0, 0), (14, .iload_n 3, 0, 0, 0), (15, .aload_n 0, 0, 0, 0), (16, .getfield 25, 11, 11, 2), (19, .iload 4, 0, 0, 0), (21, .iaload, 0, 0, 0), (22, .iload_n 1, 0, 0, 0), (23, .if_icmp .ne 18, 0, 0, 0), (26, .aload_n 0, 0, 0, 0), (27, .getfield 28, 11, 12, 2), (30, .iload 4, 0, 0, 0), (32, .iaload, 0, 0, 0), (33, .iload_n 2, 0, 0, 0), (34, .if_icmp .ne 7, 0, 0, 0), (37, .iconst 1, 0, 0, 0), (38, .goto 4, 0, 0, 0), (41, .iconst 0, 0, 0, 0), (42, .invokestatic 142, 143, 1, 1), (45, .iadd, 0, 0, 0), (46, .istore_n 3, 0, 0, 0), (47, .iinc 4 1, 0, 0, 0), (50, .goto (-45), 0, 0, 0), (53, .iload_n 3, 0, 0, 0), (54, .ireturn, 0, 0, 0)]
def acX11_stepGoes : AC := [(0, .aload_n 1, 0, 0, 0), (1, .iconst 0, 0, 0, 0), (2, .dup2, 0, 0, 0), (3, .iaload, 0, 0, 0), (4, .iconst 1, 0, 0, 0), (5, .iadd, 0, 0, 0), (6, .iastore, 0, 0, 0), (7, .aload_n 1, 0, 0, 0), (8, .invokestatic 269, 182, 1, 1), (11, .aload_n 0, 0, 0, 0), (12, .aload_n 1, 0, 0, 0), (13, .iconst 0, 0, 0, 0), (14, .iaload, 0, 0, 0), (15, .aload_n 1, 0, 0, 0), (16, .iconst 1, 0, 0, 0), (17, .iaload, 0, 0, 0), (18, .invokevirtual 273, 183, 0, 1103), (21, .istore_n 2, 0, 0, 0), (22, .aload_n 1, 0, 0, 0), (23, .iconst 2, 0, 0, 0), (24, .dup2, 0, 0, 0), (25, .iaload, 0, 0, 0), (26, .iload_n 2, 0, 0, 0), (27, .iadd, 0, 0, 0), (28, .iastore, 0, 0, 0), (29, .aload_n 0, 0, 0, 0), (30, .dup, 0, 0, 0), (31, .getfield 276, 11, 31, 0), (34, .iload_n 2, 0, 0, 0), (35, .iadd, 0, 0, 0), (36, .putfield 276, 11, 31, 0), (39, .iconst 0, 0, 0, 0), (40, .istore_n 3, 0, 0, 0), (41, .iload_n 3, 0, 0, 0), (42, .aload_n 0, 0, 0, 0), (43, .getfield 117, 11, 7, 0), (46, .if_icmp .ge 87, 0, 0, 0), (49, .aload_n 1, 0, 0, 0), (50, .bipush 41, 0, 0, 0), (52, .iload_n 3, 0, 0, 0), (53, .iadd, 0, 0, 0), (54, .iaload, 0, 0, 0), (55, .aload_n 0, 0, 0, 0), (56, .getfield 31, 11, 13, 2), (59, .iload_n 3, 0, 0, 0), (60, .iaload, 0, 0, 0), (61, .if_icmp .ge 7, 0, 0, 0), (64, .iconst 1, 0, 0, 0), (65, .goto 4, 0, 0, 0), (68, .iconst 0, 0, 0, 0), (69, .istore 4, 0, 0, 0), (71, .aload_n 1, 0, 0, 0), (72, .bipush 49, 0, 0, 0), (74, .iload_n 3, 0, 0, 0), (75, .iadd, 0, 0, 0), (76, .dup2, 0, 0, 0), (77, .iaload, 0, 0, 0), (78, .iload 4, 0, 0, 0), (80, .invokestatic 142, 143, 1, 1), (83, .iadd, 0, 0, 0), (84, .iastore, 0, 0, 0), (85, .aload_n 0, 0, 0, 0), (86, .dup, 0, 0, 0), (87, .getfield 279, 11, 32, 0), (90, .iload 4, 0, 0, 0), (92, .invokestatic 142, 143, 1, 1), (95, .iadd, 0, 0, 0), (96, .putfield 279, 11, 32, 0), (99, .aload_n 1, 0, 0, 0), (100, .bipush 41, 0, 0, 0), (102, .iload_n 3, 0, 0, 0), (103, .iadd, 0, 0, 0), (104, .iload 4, 0, 0, 0), (106, .ifCond .eq 7, 0, 0, 0), (109, .iconst 0, 0, 0, 0), (110, .goto 16, 0, 0, 0), (113, .aload_n 1, 0, 0, 0), (114, .bipush 41, 0, 0, 0), (116, .iload_n 3, 0, 0, 0), (117, .iadd, 0, 0, 0), (118, .iaload, 0, 0, 0), (119, .aload_n 0, 0, 0, 0), (120, .getfield 31, 11, 13, 2), (123, .iload_n 3, 0, 0, 0), (124, .iaload, 0, 0, 0), (125, .isub, 0, 0, 0), (126, .iastore, 0, 0, 0), (127, .iinc 3 1, 0, 0, 0), (130, .goto (-89), 0, 0, 0), (133, .return_, 0, 0, 0)]
def acX11_gives : AC := [(0, .iload_n 2, 0, 0, 0), (1, .i2l, 0, 0, 0), (2, .ldc2_w 282, 0, 0, (-1)), (5, .lconst 1, 0, 0, 0), (6, .invokestatic 120, 141, 1, 3), (9, .ifCond .ne 5, 0, 0, 0), (12, .iconst (-1), 0, 0, 0), (13, .ireturn, 0, 0, 0), (14, .aload_n 1, 0, 0, 0), (15, .iconst 4, 0, 0, 0), (16, .iaload, 0, 0, 0), (17, .aload_n 1, 0, 0, 0), (18, .iconst 0, 0, 0, 0), (19, .iaload, 0, 0, 0), (20, .if_icmp .ne 6, 0, 0, 0), (23, .bipush (-2), 0, 0, 0), (25, .ireturn, 0, 0, 0), (26, .aload_n 1, 0, 0, 0), (27, .iconst 3, 0, 0, 0), (28, .iaload, 0, 0, 0), (29, .bipush 12, 0, 0, 0), (31, .if_icmp .ne 6, 0, 0, 0), (34, .bipush (-3), 0, 0, 0), (36, .ireturn, 0, 0, 0), (37, .aload_n 0, 0, 0, 0), (38, .aload_n 1, 0, 0, 0), (39, .iconst 0, 0, 0, 0), (40, .iaload, 0, 0, 0), (41, .invokevirtual 284, 169, 0, 1102), (44, .istore_n 3, 0, 0, 0), (45, .iconst 5, 0, 0, 0), (46, .iconst 3, 0, 0, 0), (47, .aload_n 1, 0, 0, 0), (48, .iconst 3, 0, 0, 0), (49, .iaload, 0, 0, 0), (50, .imul, 0, 0, 0), (51, .iadd, 0, 0, 0), (52, .istore 4, 0, 0, 0), (54, .aload_n 1, 0, 0, 0), (55, .iload 4, 0, 0, 0), (57, .iconst 0, 0, 0, 0), (58, .iadd, 0, 0, 0), (59, .aload_n 1, 0, 0, 0), (60, .iconst 0, 0, 0, 0), (61, .iaload, 0, 0, 0), (62, .iload_n 3, 0, 0, 0), (63, .iadd, 0, 0, 0), (64, .iastore, 0, 0, 0), (65, .aload_n 1, 0, 0, 0), (66, .iload 4, 0, 0, 0), (68, .iconst 1, 0, 0, 0), (69, .iadd, 0, 0, 0), (70, .aload_n 0, 0, 0, 0), (71, .iload_n 2, 0, 0, 0), (72, .invokevirtual 287, 170, 0, 1102), (75, .iastore, 0, 0, 0), (76, .aload_n 1, 0, 0, 0), (77, .iload 4, 0, 0, 0), (79, .iconst 2, 0, 0, 0), (80, .iadd, 0, 0, 0), (81, .aload_n 1, 0, 0, 0), (82, .iconst 0, 0, 0, 0), (83, .iaload, 0, 0, 0), (84, .iastore, 0, 0, 0), (85, .aload_n 1, 0, 0, 0), (86, .iconst 3, 0, 0, 0), (87, .dup2, 0, 0, 0), (88, .iaload, 0, 0, 0), (89, .iconst 1, 0, 0, 0), (90, .iadd, 0, 0, 0), (91, .iastore, 0, 0, 0), (92, .aload_n 1, 0, 0, 0), (93, .iconst 4, 0, 0, 0), (94, .aload_n 1, 0, 0, 0), (95, .iconst 0, 0, 0, 0), (96, .iaload, 0, 0, 0), (97, .iastore, 0, 0, 0), (98, .iload_n 3, 0, 0, 0), (99, .ireturn, 0, 0, 0)]
def acX11_passes : AC := [(0, .iload_n 3, 0, 0, 0), (1, .iconst 1, 0, 0, 0), (2, .if_icmp .ne 9, 0, 0, 0), (5, .iload_n 1, 0, 0, 0), (6, .iconst 1, 0, 0, 0), (7, .iadd, 0, 0, 0), (8, .goto 6, 0, 0, 0), (11, .iload_n 1, 0, 0, 0), (12, .iconst 1, 0, 0, 0), (13, .isub, 0, 0, 0), (14, .istore 4, 0, 0, 0), (16, .aload_n 0, 0, 0, 0), (17, .iload_n 1, 0, 0, 0), (18, .invokevirtual 252, 147, 0, 1102), (21, .ifCond .eq 34, 0, 0, 0), (24, .iload_n 3, 0, 0, 0), (25, .i2l, 0, 0, 0), (26, .lconst 0, 0, 0, 0), (27, .lconst 1, 0, 0, 0), (28, .invokestatic 120, 141, 1, 3), (31, .ifCond .eq 24, 0, 0, 0), (34, .aload_n 0, 0, 0, 0), (35, .iload 4, 0, 0, 0), (37, .invokevirtual 252, 147, 0, 1102), (40, .ifCond .eq 15, 0, 0, 0), (43, .iload_n 2, 0, 0, 0), (44, .i2l, 0, 0, 0), (45, .lconst 1, 0, 0, 0), (46, .ldc2_w 290, 0, 0, 99), (49, .invokestatic 120, 141, 1, 3), (52, .ifCond .ne 5, 0, 0, 0), (55, .iconst (-1), 0, 0, 0), (56, .ireturn, 0, 0, 0), (57, .aload_n 0, 0, 0, 0), (58, .getfield 34, 11, 14, 2), (61, .bipush 41, 0, 0, 0), (63, .iload_n 1, 0, 0, 0), (64, .iadd, 0, 0, 0), (65, .iaload, 0, 0, 0), (66, .iload_n 2, 0, 0, 0), (67, .if_icmp .ge 6, 0, 0, 0), (70, .bipush (-2), 0, 0, 0), (72, .ireturn, 0, 0, 0), (73, .aload_n 0, 0, 0, 0), (74, .getfield 34, 11, 14, 2), (77, .bipush 41, 0, 0, 0), (79, .iload 4, 0, 0, 0), (81, .iadd, 0, 0, 0), (82, .iaload, 0, 0, 0), (83, .iload_n 2, 0, 0, 0), (84, .iadd, 0, 0, 0), (85, .bipush 99, 0, 0, 0), (87, .if_icmp .le 6, 0, 0, 0), (90, .bipush (-3), 0, 0, 0), (92, .ireturn, 0, 0, 0), (93, .aload_n 0, 0, 0, 0), (94, .getfield 34, 11, 14, 2), (97, .bipush 41, 0, 0, 0), (99, .iload_n 1, 0, 0, 0), (100, .iadd, 0, 0, 0), (101, .dup2, 0, 0, 0), (102, .iaload, 0, 0, 0), (103, .iload_n 2, 0, 0, 0), (104, .isub, 0, 0, 0), (105, .iastore, 0, 0, 0), (106, .aload_n 0, 0, 0, 0), (107, .getfield 34, 11, 14, 2), (110, .bipush 41, 0, 0, 0), (112, .iload 4, 0, 0, 0), (114, .iadd, 0, 0, 0), (115, .dup2, 0, 0, 0), (116, .iaload, 0, 0, 0), (117, .iload_n 2, 0, 0, 0), (118, .iadd, 0, 0, 0), (119, .iastore, 0, 0, 0), (120, .aload_n 0, 0, 0, 0), (121, .getfield 34, 11, 14, 2), (124, .bipush 41, 0, 0, 0), (126, .iload_n 1, 0, 0, 0), (127, .iadd, 0, 0, 0), (128, .iaload, 0, 0, 0), (129, .ireturn, 0, 0, 0)]
def acX11_cooks : AC := [(0, .aload_n 0, 0, 0, 0), (1, .iload_n 1, 0, 0, 0), (2, .invokevirtual 252, 147, 0, 1102), (5, .ifCond .eq 15, 0, 0, 0), (8, .iload_n 2, 0, 0, 0), (9, .i2l, 0, 0, 0), (10, .lconst 0, 0, 0, 0), (11, .ldc2_w 290, 0, 0, 99), (14, .invokestatic 120, 141, 1, 3), (17, .ifCond .ne 5, 0, 0, 0), (20, .iconst (-1), 0, 0, 0), (21, .ireturn, 0, 0, 0), (22, .aload_n 0, 0, 0, 0), (23, .getfield 34, 11, 14, 2), (26, .bipush 41, 0, 0, 0), (28, .iload_n 1, 0, 0, 0), (29, .iadd, 0, 0, 0), (30, .iaload, 0, 0, 0), (31, .istore_n 3, 0, 0, 0), (32, .aload_n 0, 0, 0, 0), (33, .getfield 34, 11, 14, 2), (36, .bipush 41, 0, 0, 0), (38, .iload_n 1, 0, 0, 0), (39, .iadd, 0, 0, 0), (40, .iload_n 2, 0, 0, 0), (41, .iastore, 0, 0, 0), (42, .iload_n 3, 0, 0, 0), (43, .ireturn, 0, 0, 0)]
def acX11_delay : AC := [(0, .aload_n 0, 0, 0, 0), (1, .iconst 0, 0, 0, 0), (2, .putfield 103, 11, 0, 0), (5, .aload_n 0, 0, 0, 0), (6, .aload_n 0, 0, 0, 0), (7, .getfield 34, 11, 14, 2), (10, .iconst 0, 0, 0, 0), (11, .iaload, 0, 0, 0), (12, .invokevirtual 284, 169, 0, 1102), (15, .ireturn, 0, 0, 0)]
def acX11_order : AC := [(0, .aload_n 0, 0, 0, 0), (1, .iconst 0, 0, 0, 0), (2, .putfield 103, 11, 0, 0), (5, .aload_n 0, 0, 0, 0), (6, .invokevirtual 292, 177, 0, 1101), (9, .aload_n 0, 0, 0, 0), (10, .aload_n 0, 0, 0, 0), (11, .aload_n 0, 0, 0, 0), (12, .getfield 34, 11, 14, 2), (15, .iload_n 1, 0, 0, 0), (16, .invokevirtual 295, 185, 0, 1103), (19, .invokevirtual 299, 179, 0, 1102), (22, .ireturn, 0, 0, 0)]
def acX11_pass : AC := [(0, .aload_n 0, 0, 0, 0), (1, .iconst 0, 0, 0, 0), (2, .putfield 103, 11, 0, 0), (5, .aload_n 0, 0, 0, 0), (6, .invokevirtual 292, 177, 0, 1101), (9, .aload_n 0, 0, 0, 0), (10, .aload_n 0, 0, 0, 0), (11, .iload_n 1, 0, 0, 0), (12, .iload_n 2, 0, 0, 0), (13, .iload_n 3, 0, 0, 0), (14, .invokevirtual 302, 186, 0, 1104), (17, .invokevirtual 299, 179, 0, 1102), (20, .ireturn, 0, 0, 0)]
def acX11_cook : AC := [(0, .aload_n 0, 0, 0, 0), (1, .iconst 0, 0, 0, 0), (2, .putfield 103, 11, 0, 0), (5, .aload_n 0, 0, 0, 0), (6, .invokevirtual 292, 177, 0, 1101), (9, .aload_n 0, 0, 0, 0), (10, .aload_n 0, 0, 0, 0), (11, .iload_n 1, 0, 0, 0), (12, .iload_n 2, 0, 0, 0), (13, .invokevirtual 305, 187, 0, 1103), (16, .invokevirtual 299, 179, 0, 1102), (19, .ireturn, 0, 0, 0)]
def acX11_startsCounting : AC := [(0, .aload_n 0, 0, 0, 0), (1, .iconst 0, 0, 0, 0), (2, .putfield 276, 11, 31, 0), (5, .aload_n 0, 0, 0, 0), (6, .iconst 0, 0, 0, 0), (7, .putfield 279, 11, 32, 0), (10, .return_, 0, 0, 0)]
def acX11_steps : AC := [(0, .aload_n 0, 0, 0, 0), (1, .iconst 0, 0, 0, 0), (2, .putfield 103, 11, 0, 0), (5, .iload_n 1, 0, 0, 0), (6, .i2l, 0, 0, 0), (7, .lconst 0, 0, 0, 0), (8, .ldc2_w 308, 0, 0, 60), (11, .invokestatic 120, 141, 1, 3), (14, .ifCond .ne 5, 0, 0, 0), (17, .iconst (-1), 0, 0, 0), (18, .ireturn, 0, 0, 0), (19, .aload_n 0, 0, 0, 0), (20, .invokevirtual 292, 177, 0, 1101), (23, .aload_n 0, 0, 0, 0), (24, .invokevirtual 310, 192, 0, 1101), (27, .iconst 0, 0, 0, 0), (28, .istore_n 2, 0, 0, 0), (29, .iload_n 2, 0, 0, 0), (30, .iload_n 1, 0, 0, 0), (31, .if_icmp .ge 17, 0, 0, 0), (34, .aload_n 0, 0, 0, 0), (35, .aload_n 0, 0, 0, 0), (36, .getfield 34, 11, 14, 2), (39, .invokevirtual 313, 184, 0, 1102), (42, .iinc 2 1, 0, 0, 0), (45, .goto (-16), 0, 0, 0), (48, .aload_n 0, 0, 0, 0), (49, .iconst 0, 0, 0, 0), (50, .putfield 110, 11, 1, 0), (53, .aload_n 0, 0, 0, 0), (54, .aload_n 0, 0, 0, 0), (55, .getfield 276, 11, 31, 0), (58, .i2l, 0, 0, 0), (59, .invokevirtual 113, 145, 0, 1102), (62, .aload_n 0, 0, 0, 0), (63, .aload_n 0, 0, 0, 0), (64, .getfield 279, 11, 32, 0), (67, .i2l, 0, 0, 0), (68, .invokevirtual 113, 145, 0, 1102), (71, .aload_n 0, 0, 0, 0), (72, .aload_n 0, 0, 0, 0), (73, .getfield 34, 11, 14, 2), (76, .iconst 1, 0, 0, 0), (77, .iaload, 0, 0, 0), (78, .invokevirtual 263, 178, 0, 1102), (81, .ireturn, 0, 0, 0)]
def acX11_readsAct : AC := [(0, .aload_n 0, 0, 0, 0), (1, .getfield 316, 11, 35, 0), (4, .istore_n 1, 0, 0, 0), (5, .aload_n 0, 0, 0, 0), (6, .ldc_w 319, 1, 5, 0), (9, .invokevirtual 201, 154, 0, 1102), (12, .istore_n 2, 0, 0, 0), (13, .iload_n 2, 0, 0, 0), (14, .ifCond .ge 5, 0, 0, 0), (17, .iconst 0, 0, 0, 0), (18, .ireturn, 0, 0, 0), (19, .aload_n 0, 0, 0, 0), (20, .dup, 0, 0, 0), (21, .getfield 316, 11, 35, 0), (24, .iconst 1, 0, 0, 0), (25, .iadd, 0, 0, 0), (26, .putfield 316, 11, 35, 0), (29, .aload_n 0, 0, 0, 0), (30, .getfield 61, 11, 33, 2), (33, .iload_n 1, 0, 0, 0), (34, .iload_n 2, 0, 0, 0), (35, .iconst 3, 0, 0, 0), (36, .if_icmp .ge 7, 0, 0, 0), (39, .iconst 0, 0, 0, 0), (40, .goto 13, 0, 0, 0), (43, .iload_n 2, 0, 0, 0), (44, .iconst 3, 0, 0, 0), (45, .if_icmp .ne 7, 0, 0, 0), (48, .iconst 1, 0, 0, 0), (49, .goto 4, 0, 0, 0), (52, .iconst 2, 0, 0, 0), (53, .iastore, 0, 0, 0), (54, .aload_n 0, 0, 0, 0), (55, .getfield 64, 11, 34, 2), (58, .iload_n 1, 0, 0, 0), (59, .iload_n 2, 0, 0, 0), (60, .iconst 3, 0, 0, 0), (61, .if_icmp .ge 9, 0, 0, 0), (64, .iload_n 2, 0, 0, 0), (65, .iconst 1, 0, 0, 0), (66, .isub, 0, 0, 0), (67, .goto 19, 0, 0, 0), (70, .iload_n 2, 0, 0, 0), (71, .iconst 3, 0, 0, 0), (72, .if_icmp .ne 11, 0, 0, 0), (75, .aload_n 0, 0, 0, 0), (76, .iconst 1, 0, 0, 0), (77, .invokevirtual 168, 155, 0, 1102), (80, .goto 6, 0, 0, 0), (83, .iload_n 2, 0, 0, 0), (84, .iconst 3, 0, 0, 0), (85, .isub, 0, 0, 0), (86, .iastore, 0, 0, 0), (87, .iload_n 2, 0, 0, 0), (88, .iconst 3, 0, 0, 0), (89, .if_icmp .ne 12, 0, 0, 0), (92, .aload_n 0, 0, 0, 0), (93, .getfield 64, 11, 34, 2), (96, .iload_n 1, 0, 0, 0), (97, .iaload, 0, 0, 0), (98, .ifCond .lt 7, 0, 0, 0), (101, .iconst 1, 0, 0, 0), (102, .goto 4, 0, 0, 0), (105, .iconst 0, 0, 0, 0), (106, .ireturn, 0, 0, 0)]
def acX11_does : AC := [(0, .aload_n 0, 0, 0, 0), (1, .getfield 61, 11, 33, 2), (4, .iload_n 1, 0, 0, 0), (5, .iaload, 0, 0, 0), (6, .ifCond .ne 26, 0, 0, 0), (9, .aload_n 0, 0, 0, 0), (10, .aload_n 0, 0, 0, 0), (11, .getfield 34, 11, 14, 2), (14, .aload_n 0, 0, 0, 0), (15, .getfield 64, 11, 34, 2), (18, .iload_n 1, 0, 0, 0), (19, .iaload, 0, 0, 0), (20, .invokevirtual 295, 185, 0, 1103), (23, .ifCond .lt 7, 0, 0, 0), (26, .iconst 1, 0, 0, 0), (27, .goto 4, 0, 0, 0), (30, .iconst 0, 0, 0, 0), (31, .ireturn, 0, 0, 0), (32, .aload_n 0, 0, 0, 0), (33, .getfield 61, 11, 33, 2), (36, .iload_n 1, 0, 0, 0), (37, .iaload, 0, 0, 0), (38, .iconst 1, 0, 0, 0), (39, .if_icmp .ne 24, 0, 0, 0), (42, .aload_n 0, 0, 0, 0), (43, .aload_n 0, 0, 0, 0), (44, .getfield 64, 11, 34, 2), (47, .iload_n 1, 0, 0, 0), (48, .iaload, 0, 0, 0), (49, .iconst 1, 0, 0, 0), (50, .iconst 1, 0, 0, 0), (51, .invokevirtual 302, 186, 0, 1104), (54, .ifCond .lt 7, 0, 0, 0), (57, .iconst 1, 0, 0, 0), (58, .goto 4, 0, 0, 0), (61, .iconst 0, 0, 0, 0), (62, .ireturn, 0, 0, 0), (63, .iconst 0, 0, 0, 0), (64, .istore_n 2, 0, 0, 0), (65, .iload_n 2, 0, 0, 0), (66, .aload_n 0, 0, 0, 0), (67, .getfield 64, 11, 34, 2), (70, .iload_n 1, 0, 0, 0), (71, .iaload, 0, 0, 0), (72, .if_icmp .ge 17, 0, 0, 0), (75, .aload_n 0, 0, 0, 0), (76, .aload_n 0, 0, 0, 0), (77, .getfield 34, 11, 14, 2), (80, .invokevirtual 313, 184, 0, 1102), (83, .iinc 2 1, 0, 0, 0), (86, .goto (-21), 0, 0, 0), (89, .iconst 1, 0, 0, 0), (90, .ireturn, 0, 0, 0)]
def acX11_voyage : AC := [(0, .aload_n 0, 0, 0, 0), (1, .iconst 0, 0, 0, 0), (2, .putfield 103, 11, 0, 0), (5, .aload_n 0, 0, 0, 0), (6, .bipush 60, 0, 0, 0), (8, .invokevirtual 172, 150, 0, 1102), (11, .istore_n 1, 0, 0, 0), (12, .aload_n 0, 0, 0, 0), (13, .iconst 0, 0, 0, 0), (14, .putfield 316, 11, 35, 0), (17, .iconst 1, 0, 0, 0), (18, .istore_n 2, 0, 0, 0), (19, .iload_n 2, 0, 0, 0), (20, .ifCond .eq 22, 0, 0, 0), (23, .aload_n 0, 0, 0, 0), (24, .getfield 127, 11, 18, 0), (27, .aload_n 0, 0, 0, 0), (28, .getfield 139, 11, 19, 0), (31, .if_icmp .ge 11, 0, 0, 0), (34, .aload_n 0, 0, 0, 0), (35, .invokevirtual 321, 194, 0, 1101), (38, .istore_n 2, 0, 0, 0), (39, .goto (-20), 0, 0, 0), (42, .aload_n 0, 0, 0, 0), (43, .iload_n 1, 0, 0, 0), (44, .bipush 60, 0, 0, 0), (46, .iload_n 2, 0, 0, 0), (47, .invokevirtual 186, 157, 0, 1104), (50, .istore_n 3, 0, 0, 0), (51, .iload_n 3, 0, 0, 0), (52, .ifCond .ge 5, 0, 0, 0), (55, .iload_n 3, 0, 0, 0), (56, .ireturn, 0, 0, 0), (57, .aload_n 0, 0, 0, 0), (58, .invokevirtual 292, 177, 0, 1101), (61, .aload_n 0, 0, 0, 0), (62, .invokevirtual 310, 192, 0, 1101), (65, .iconst 0, 0, 0, 0), (66, .istore 4, 0, 0, 0), (68, .iload 4, 0, 0, 0), (70, .aload_n 0, 0, 0, 0), (71, .getfield 316, 11, 35, 0), (74, .if_icmp .ge 18, 0, 0, 0), (77, .aload_n 0, 0, 0, 0), (78, .iload 4, 0, 0, 0), (80, .invokevirtual 324, 195, 0, 1102), (83, .ifCond .eq 9, 0, 0, 0), (86, .iinc 4 1, 0, 0, 0), (89, .goto (-21), 0, 0, 0), (92, .aload_n 0, 0, 0, 0), (93, .iconst 0, 0, 0, 0), (94, .putfield 110, 11, 1, 0), (97, .aload_n 0, 0, 0, 0), (98, .iload 4, 0, 0, 0), (100, .aload_n 0, 0, 0, 0), (101, .getfield 316, 11, 35, 0), (104, .if_icmp .ge 7, 0, 0, 0), (107, .iconst 1, 0, 0, 0), (108, .goto 4, 0, 0, 0), (111, .iconst 0, 0, 0, 0), (112, .invokestatic 142, 143, 1, 1), (115, .i2l, 0, 0, 0), (116, .invokevirtual 113, 145, 0, 1102), (119, .aload_n 0, 0, 0, 0), (120, .aload_n 0, 0, 0, 0), (121, .getfield 276, 11, 31, 0), (124, .i2l, 0, 0, 0), (125, .invokevirtual 113, 145, 0, 1102), (128, .iload 4, 0, 0, 0), (130, .ifCond .le 12, 0, 0, 0), (133, .aload_n 0, 0, 0, 0), (134, .iload 4, 0, 0, 0), (136, .invokevirtual 263, 178, 0, 1102), (139, .goto 4, 0, 0, 0), (142, .iconst 0, 0, 0, 0), (143, .ireturn, 0, 0, 0)]
def acX11_puts : AC := [(0, .iconst 0, 0, 0, 0), (1, .istore_n 1, 0, 0, 0), (2, .iload_n 1, 0, 0, 0), (3, .bipush 57, 0, 0, 0), (5, .if_icmp .ge 21, 0, 0, 0), (8, .aload_n 0, 0, 0, 0), (9, .getfield 37, 11, 15, 2), (12, .iload_n 1, 0, 0, 0), (13, .aload_n 0, 0, 0, 0), (14, .getfield 34, 11, 14, 2), (17, .iload_n 1, 0, 0, 0), (18, .iaload, 0, 0, 0), (19, .iastore, 0, 0, 0), (20, .iinc 1 1, 0, 0, 0), (23, .goto (-21), 0, 0, 0), (26, .return_, 0, 0, 0)]
def acX11_lane : AC := [(0, .aload_n 0, 0, 0, 0), (1, .iconst 0, 0, 0, 0), (2, .putfield 103, 11, 0, 0), (5, .iload_n 1, 0, 0, 0), (6, .i2l, 0, 0, 0), (7, .lconst 0, 0, 0, 0), (8, .ldc2_w 308, 0, 0, 60), (11, .invokestatic 120, 141, 1, 3), (14, .ifCond .ne 5, 0, 0, 0), (17, .iconst (-1), 0, 0, 0), (18, .ireturn, 0, 0, 0), (19, .aload_n 0, 0, 0, 0), (20, .invokevirtual 327, 197, 0, 1101), (23, .aload_n 0, 0, 0, 0), (24, .invokevirtual 310, 192, 0, 1101), (27, .iconst 0, 0, 0, 0), (28, .istore_n 2, 0, 0, 0), (29, .iload_n 2, 0, 0, 0), (30, .iload_n 1, 0, 0, 0), (31, .if_icmp .ge 17, 0, 0, 0), (34, .aload_n 0, 0, 0, 0), (35, .aload_n 0, 0, 0, 0), (36, .getfield 37, 11, 15, 2), (39, .invokevirtual 313, 184, 0, 1102), (42, .iinc 2 1, 0, 0, 0), (45, .goto (-16), 0, 0, 0), (48, .aload_n 0, 0, 0, 0), (49, .iconst 0, 0, 0, 0), (50, .putfield 110, 11, 1, 0), (53, .aload_n 0, 0, 0, 0), (54, .aload_n 0, 0, 0, 0), (55, .getfield 276, 11, 31, 0), (58, .i2l, 0, 0, 0), (59, .invokevirtual 113, 145, 0, 1102), (62, .aload_n 0, 0, 0, 0), (63, .getfield 37, 11, 15, 2), (66, .iconst 1, 0, 0, 0), (67, .iaload, 0, 0, 0), (68, .ireturn, 0, 0, 0)]
def acX11_strikes : AC := [(0, .aload_n 0, 0, 0, 0), (1, .iconst 0, 0, 0, 0), (2, .putfield 103, 11, 0, 0), (5, .aload_n 0, 0, 0, 0), (6, .invokevirtual 327, 197, 0, 1101), (9, .iconst 1, 0, 0, 0), (10, .istore_n 1, 0, 0, 0), (11, .iload_n 1, 0, 0, 0), (12, .sipush 999, 0, 0, 0), (15, .if_icmp .gt 76, 0, 0, 0), (18, .aload_n 0, 0, 0, 0), (19, .aload_n 0, 0, 0, 0), (20, .getfield 37, 11, 15, 2), (23, .invokevirtual 313, 184, 0, 1102), (26, .iconst 0, 0, 0, 0), (27, .istore_n 2, 0, 0, 0), (28, .iload_n 2, 0, 0, 0), (29, .aload_n 0, 0, 0, 0), (30, .getfield 196, 11, 6, 0), (33, .if_icmp .ge 52, 0, 0, 0), (36, .aload_n 0, 0, 0, 0), (37, .getfield 25, 11, 11, 2), (40, .iload_n 2, 0, 0, 0), (41, .iaload, 0, 0, 0), (42, .aload_n 0, 0, 0, 0), (43, .getfield 37, 11, 15, 2), (46, .iconst 0, 0, 0, 0), (47, .iaload, 0, 0, 0), (48, .if_icmp .ne 31, 0, 0, 0), (51, .aload_n 0, 0, 0, 0), (52, .getfield 28, 11, 12, 2), (55, .iload_n 2, 0, 0, 0), (56, .iaload, 0, 0, 0), (57, .aload_n 0, 0, 0, 0), (58, .getfield 37, 11, 15, 2), (61, .iconst 1, 0, 0, 0), (62, .iaload, 0, 0, 0), (63, .if_icmp .ne 16, 0, 0, 0), (66, .aload_n 0, 0, 0, 0), (67, .iconst 0, 0, 0, 0), (68, .putfield 110, 11, 1, 0), (71, .aload_n 0, 0, 0, 0), (72, .iload_n 2, 0, 0, 0), (73, .i2l, 0, 0, 0), (74, .invokevirtual 113, 145, 0, 1102), (77, .iload_n 1, 0, 0, 0), (78, .ireturn, 0, 0, 0), (79, .iinc 2 1, 0, 0, 0), (82, .goto (-54), 0, 0, 0), (85, .iinc 1 1, 0, 0, 0), (88, .goto (-77), 0, 0, 0), (91, .bipush (-2), 0, 0, 0), (93, .ireturn, 0, 0, 0)]
def acX11_moved : AC := [(0, .iconst 0, 0, 0, 0), (1, .istore_n 2, 0, 0, 0), (2, .iconst 0, 0, 0, 0), (3, .istore_n 3, 0, 0, 0), (4, .iload_n 3, 0, 0, 0), (5, .bipush 9, 0, 0, 0), (7, .if_icmp .ge 32, 0, 0, 0), (10, .iload_n 2, 0, 0, 0), (11, .iload_n 0, 0, 0, 0), (12, .iload_n 3, 0, 0, 0), (13, .invokestatic 330, 142, 1, 2), (16, .ifCond .eq 14, 0, 0, 0), (19, .iconst 1, 0, 0, 0), (20, .iload_n 3, 0, 0, 0), (21, .iload_n 1, 0, 0, 0), (22, .iadd, 0, 0, 0), (23, .invokestatic 266, 181, 1, 1), (26, .ishl, 0, 0, 0), (27, .goto 4, 0, 0, 0), (30, .iconst 0, 0, 0, 0), (31, .ior, 0, 0, 0), (32, .istore_n 2, 0, 0, 0), (33, .iinc 3 1, 0, 0, 0), (36, .goto (-32), 0, 0, 0), (39, .iload_n 2, 0, 0, 0), (40, .ireturn, 0, 0, 0)]
def acX11_movedByDue : AC := [(0, .iload_n 1, 0, 0, 0), (1, .istore_n 3, 0, 0, 0), (2, .iconst 0, 0, 0, 0), (3, .istore 4, 0, 0, 0), (5, .iload 4, 0, 0, 0), (7, .aload_n 0, 0, 0, 0), (8, .getfield 34, 11, 14, 2), (11, .iconst 3, 0, 0, 0), (12, .iaload, 0, 0, 0), (13, .if_icmp .ge 55, 0, 0, 0), (16, .iconst 5, 0, 0, 0), (17, .iconst 3, 0, 0, 0), (18, .iload 4, 0, 0, 0), (20, .imul, 0, 0, 0), (21, .iadd, 0, 0, 0), (22, .istore 5, 0, 0, 0), (24, .aload_n 0, 0, 0, 0), (25, .getfield 34, 11, 14, 2), (28, .iload 5, 0, 0, 0), (30, .iconst 0, 0, 0, 0), (31, .iadd, 0, 0, 0), (32, .iaload, 0, 0, 0), (33, .aload_n 0, 0, 0, 0), (34, .getfield 34, 11, 14, 2), (37, .iconst 0, 0, 0, 0), (38, .iaload, 0, 0, 0), (39, .iload_n 2, 0, 0, 0), (40, .iadd, 0, 0, 0), (41, .if_icmp .ne 19, 0, 0, 0), (44, .iload_n 3, 0, 0, 0), (45, .aload_n 0, 0, 0, 0), (46, .getfield 34, 11, 14, 2), (49, .iload 5, 0, 0, 0), (51, .iconst 1, 0, 0, 0), (52, .iadd, 0, 0, 0), (53, .iaload, 0, 0, 0), (54, .invokestatic 333, 200, 1, 2), (57, .goto 4, 0, 0, 0), (60, .iload_n 3, 0, 0, 0), (61, .istore_n 3, 0, 0, 0), (62, .iinc 4 1, 0, 0, 0), (65, .goto (-60), 0, 0, 0), (68, .iload_n 3, 0, 0, 0), (69, .ireturn, 0, 0, 0)]
def acX11_mayGive : AC := [(0, .iload_n 1, 0, 0, 0), (1, .ifCond .gt 18, 0, 0, 0), (4, .aload_n 0, 0, 0, 0), (5, .getfield 34, 11, 14, 2), (8, .iconst 4, 0, 0, 0), (9, .iaload, 0, 0, 0), (10, .aload_n 0, 0, 0, 0), (11, .getfield 34, 11, 14, 2), (14, .iconst 0, 0, 0, 0), (15, .iaload, 0, 0, 0), (16, .if_icmp .eq 7, 0, 0, 0), (19, .iconst 1, 0, 0, 0), (20, .goto 4, 0, 0, 0), (23, .iconst 0, 0, 0, 0), (24, .ireturn, 0, 0, 0)]
def acX11_comesAt : AC := [(0, .aload_n 0, 0, 0, 0), (1, .iload_n 1, 0, 0, 0), (2, .invokevirtual 336, 202, 0, 1102), (5, .ifCond .eq 25, 0, 0, 0), (8, .iload_n 1, 0, 0, 0), (9, .aload_n 0, 0, 0, 0), (10, .aload_n 0, 0, 0, 0), (11, .getfield 34, 11, 14, 2), (14, .iconst 0, 0, 0, 0), (15, .iaload, 0, 0, 0), (16, .iload_n 1, 0, 0, 0), (17, .iadd, 0, 0, 0), (18, .invokevirtual 284, 169, 0, 1102), (21, .iadd, 0, 0, 0), (22, .iload_n 2, 0, 0, 0), (23, .if_icmp .ne 7, 0, 0, 0), (26, .iconst 1, 0, 0, 0), (27, .goto 4, 0, 0, 0), (30, .iconst 0, 0, 0, 0), (31, .ireturn, 0, 0, 0)]
def acX11_clears : AC := [(0, .aload_n 0, 0, 0, 0), (1, .iconst 0, 0, 0, 0), (2, .putfield 103, 11, 0, 0), (5, .iconst 0, 0, 0, 0), (6, .istore_n 1, 0, 0, 0), (7, .iconst 0, 0, 0, 0), (8, .istore_n 2, 0, 0, 0), (9, .iconst 0, 0, 0, 0), (10, .istore_n 3, 0, 0, 0), (11, .iload_n 3, 0, 0, 0), (12, .aload_n 0, 0, 0, 0), (13, .getfield 196, 11, 6, 0), (16, .if_icmp .ge 73, 0, 0, 0), (19, .aload_n 0, 0, 0, 0), (20, .getfield 25, 11, 11, 2), (23, .iload_n 3, 0, 0, 0), (24, .iaload, 0, 0, 0), (25, .aload_n 0, 0, 0, 0), (26, .getfield 34, 11, 14, 2), (29, .iconst 0, 0, 0, 0), (30, .iaload, 0, 0, 0), (31, .if_icmp .le 7, 0, 0, 0), (34, .iconst 1, 0, 0, 0), (35, .goto 4, 0, 0, 0), (38, .iconst 0, 0, 0, 0), (39, .istore 4, 0, 0, 0), (41, .iload 4, 0, 0, 0), (43, .ifCond .eq 23, 0, 0, 0), (46, .iload_n 1, 0, 0, 0), (47, .aload_n 0, 0, 0, 0), (48, .getfield 25, 11, 11, 2), (51, .iload_n 3, 0, 0, 0), (52, .iaload, 0, 0, 0), (53, .aload_n 0, 0, 0, 0), (54, .getfield 34, 11, 14, 2), (57, .iconst 0, 0, 0, 0), (58, .iaload, 0, 0, 0), (59, .isub, 0, 0, 0), (60, .invokestatic 243, 0, 10, 0), (63, .goto 4, 0, 0, 0), (66, .iload_n 1, 0, 0, 0), (67, .istore_n 1, 0, 0, 0), (68, .iload_n 2, 0, 0, 0), (69, .iload 4, 0, 0, 0), (71, .ifCond .eq 9, 0, 0, 0), (74, .iconst 1, 0, 0, 0), (75, .iload_n 3, 0, 0, 0), (76, .ishl, 0, 0, 0), (77, .goto 4, 0, 0, 0), (80, .iconst 0, 0, 0, 0), (81, .ior, 0, 0, 0), (82, .istore_n 2, 0, 0, 0), (83, .iinc 3 1, 0, 0, 0), (86, .goto (-75), 0, 0, 0), (89, .iconst 0, 0, 0, 0), (90, .istore_n 3, 0, 0, 0), (91, .iconst 1, 0, 0, 0), (92, .aload_n 0, 0, 0, 0), (93, .getfield 34, 11, 14, 2), (96, .iconst 1, 0, 0, 0), (97, .iaload, 0, 0, 0), (98, .ishl, 0, 0, 0), (99, .istore 4, 0, 0, 0), (101, .iconst 1, 0, 0, 0), (102, .istore 5, 0, 0, 0), (104, .iload 5, 0, 0, 0), (106, .iload_n 1, 0, 0, 0), (107, .if_icmp .gt 153, 0, 0, 0), (110, .aload_n 0, 0, 0, 0), (111, .iload 4, 0, 0, 0), (113, .iload 5, 0, 0, 0), (115, .invokevirtual 339, 201, 0, 1103), (118, .istore 4, 0, 0, 0), (120, .iconst 0, 0, 0, 0), (121, .iload 5, 0, 0, 0), (123, .bipush 12, 0, 0, 0), (125, .isub, 0, 0, 0), (126, .invokestatic 243, 0, 10, 0), (129, .istore 6, 0, 0, 0), (131, .iload 6, 0, 0, 0), (133, .iload 5, 0, 0, 0), (135, .if_icmp .ge 42, 0, 0, 0), (138, .iload 4, 0, 0, 0), (140, .aload_n 0, 0, 0, 0), (141, .iload 6, 0, 0, 0), (143, .iload 5, 0, 0, 0), (145, .invokevirtual 342, 203, 0, 1103), (148, .ifCond .eq 19, 0, 0, 0), (151, .iload 4, 0, 0, 0), (153, .iconst (-1), 0, 0, 0), (154, .invokestatic 333, 200, 1, 2), (157, .iload 4, 0, 0, 0), (159, .iconst 1, 0, 0, 0), (160, .invokestatic 333, 200, 1, 2), (163, .ior, 0, 0, 0), (164, .goto 4, 0, 0, 0), (167, .iconst 0, 0, 0, 0), (168, .ior, 0, 0, 0), (169, .istore 4, 0, 0, 0), (171, .iinc 6 1, 0, 0, 0), (174, .goto (-43), 0, 0, 0), (177, .iconst 0, 0, 0, 0), (178, .istore 6, 0, 0, 0), (180, .iload 6, 0, 0, 0), (182, .aload_n 0, 0, 0, 0), (183, .getfield 196, 11, 6, 0), (186, .if_icmp .ge 68, 0, 0, 0), (189, .aload_n 0, 0, 0, 0), (190, .getfield 25, 11, 11, 2), (193, .iload 6, 0, 0, 0), (195, .iaload, 0, 0, 0), (196, .aload_n 0, 0, 0, 0), (197, .getfield 34, 11, 14, 2), (200, .iconst 0, 0, 0, 0), (201, .iaload, 0, 0, 0), (202, .iload 5, 0, 0, 0), (204, .iadd, 0, 0, 0), (205, .if_icmp .ne 7, 0, 0, 0), (208, .iconst 1, 0, 0, 0), (209, .goto 4, 0, 0, 0), (212, .iconst 0, 0, 0, 0), (213, .istore 7, 0, 0, 0), (215, .iload_n 3, 0, 0, 0), (216, .iload 7, 0, 0, 0), (218, .ifCond .eq 27, 0, 0, 0), (221, .iload 4, 0, 0, 0), (223, .iconst 1, 0, 0, 0), (224, .aload_n 0, 0, 0, 0), (225, .getfield 28, 11, 12, 2), (228, .iload 6, 0, 0, 0), (230, .iaload, 0, 0, 0), (231, .ishl, 0, 0, 0), (232, .iconst (-1), 0, 0, 0), (233, .ixor, 0, 0, 0), (234, .iand, 0, 0, 0), (235, .ifCond .eq 10, 0, 0, 0), (238, .iconst 1, 0, 0, 0), (239, .iload 6, 0, 0, 0), (241, .ishl, 0, 0, 0), (242, .goto 4, 0, 0, 0), (245, .iconst 0, 0, 0, 0), (246, .ior, 0, 0, 0), (247, .istore_n 3, 0, 0, 0), (248, .iinc 6 1, 0, 0, 0), (251, .goto (-71), 0, 0, 0), (254, .iinc 5 1, 0, 0, 0), (257, .goto (-153), 0, 0, 0), (260, .aload_n 0, 0, 0, 0), (261, .iconst 0, 0, 0, 0), (262, .putfield 110, 11, 1, 0), (265, .aload_n 0, 0, 0, 0), (266, .iload_n 2, 0, 0, 0), (267, .iload_n 3, 0, 0, 0), (268, .iconst (-1), 0, 0, 0), (269, .ixor, 0, 0, 0), (270, .iand, 0, 0, 0), (271, .i2l, 0, 0, 0), (272, .invokevirtual 113, 145, 0, 1102), (275, .iload_n 3, 0, 0, 0), (276, .ireturn, 0, 0, 0)]
def acX11_goesBy : AC := [(0, .iconst 0, 0, 0, 0), (1, .istore_n 3, 0, 0, 0), (2, .iload_n 3, 0, 0, 0), (3, .bipush 9, 0, 0, 0), (5, .if_icmp .ge 18, 0, 0, 0), (8, .aload_n 0, 0, 0, 0), (9, .getfield 73, 11, 38, 2), (12, .iload_n 3, 0, 0, 0), (13, .sipush 1000, 0, 0, 0), (16, .iastore, 0, 0, 0), (17, .iinc 3 1, 0, 0, 0), (20, .goto (-18), 0, 0, 0), (23, .iload_n 2, 0, 0, 0), (24, .ifCond .eq 7, 0, 0, 0), (27, .iconst (-1), 0, 0, 0), (28, .goto 4, 0, 0, 0), (31, .iload_n 1, 0, 0, 0), (32, .istore_n 3, 0, 0, 0), (33, .iload_n 3, 0, 0, 0), (34, .iload_n 2, 0, 0, 0), (35, .ifCond .eq 7, 0, 0, 0), (38, .iconst 1, 0, 0, 0), (39, .goto 4, 0, 0, 0), (42, .iload_n 1, 0, 0, 0), (43, .if_icmp .gt 75, 0, 0, 0), (46, .iconst 0, 0, 0, 0), (47, .istore 4, 0, 0, 0), (49, .iload 4, 0, 0, 0), (51, .bipush 9, 0, 0, 0), (53, .if_icmp .ge 59, 0, 0, 0), (56, .iload 4, 0, 0, 0), (58, .iload_n 3, 0, 0, 0), (59, .iadd, 0, 0, 0), (60, .invokestatic 266, 181, 1, 1), (63, .istore 5, 0, 0, 0), (65, .aload_n 0, 0, 0, 0), (66, .getfield 73, 11, 38, 2), (69, .iload 5, 0, 0, 0), (71, .aload_n 0, 0, 0, 0), (72, .getfield 73, 11, 38, 2), (75, .iload 5, 0, 0, 0), (77, .iaload, 0, 0, 0), (78, .aload_n 0, 0, 0, 0), (79, .getfield 70, 11, 37, 2), (82, .iload 4, 0, 0, 0), (84, .iaload, 0, 0, 0), (85, .iload_n 2, 0, 0, 0), (86, .ifCond .eq 11, 0, 0, 0), (89, .iload_n 3, 0, 0, 0), (90, .ifCond .eq 7, 0, 0, 0), (93, .iconst 1, 0, 0, 0), (94, .goto 4, 0, 0, 0), (97, .iconst 0, 0, 0, 0), (98, .invokestatic 142, 143, 1, 1), (101, .iadd, 0, 0, 0), (102, .invokestatic 133, 0, 11, 0), (105, .iastore, 0, 0, 0), (106, .iinc 4 1, 0, 0, 0), (109, .goto (-60), 0, 0, 0), (112, .iinc 3 1, 0, 0, 0), (115, .goto (-82), 0, 0, 0), (118, .iconst 0, 0, 0, 0), (119, .istore_n 3, 0, 0, 0), (120, .iload_n 3, 0, 0, 0), (121, .bipush 9, 0, 0, 0), (123, .if_icmp .ge 21, 0, 0, 0), (126, .aload_n 0, 0, 0, 0), (127, .getfield 70, 11, 37, 2), (130, .iload_n 3, 0, 0, 0), (131, .aload_n 0, 0, 0, 0), (132, .getfield 73, 11, 38, 2), (135, .iload_n 3, 0, 0, 0), (136, .iaload, 0, 0, 0), (137, .iastore, 0, 0, 0), (138, .iinc 3 1, 0, 0, 0), (141, .goto (-21), 0, 0, 0), (144, .return_, 0, 0, 0)]
def acX11_laysLeast : AC := [(0, .iconst 0, 0, 0, 0), (1, .istore_n 2, 0, 0, 0), (2, .iload_n 2, 0, 0, 0), (3, .bipush 9, 0, 0, 0), (5, .if_icmp .ge 32, 0, 0, 0), (8, .aload_n 0, 0, 0, 0), (9, .getfield 70, 11, 37, 2), (12, .iload_n 2, 0, 0, 0), (13, .iload_n 2, 0, 0, 0), (14, .aload_n 0, 0, 0, 0), (15, .getfield 34, 11, 14, 2), (18, .iconst 1, 0, 0, 0), (19, .iaload, 0, 0, 0), (20, .if_icmp .ne 7, 0, 0, 0), (23, .iconst 0, 0, 0, 0), (24, .goto 6, 0, 0, 0), (27, .sipush 1000, 0, 0, 0), (30, .iastore, 0, 0, 0), (31, .iinc 2 1, 0, 0, 0), (34, .goto (-32), 0, 0, 0), (37, .iconst 1, 0, 0, 0), (38, .istore_n 2, 0, 0, 0), (39, .iload_n 2, 0, 0, 0), (40, .iload_n 1, 0, 0, 0), (41, .if_icmp .gt 167, 0, 0, 0), (44, .iconst 0, 0, 0, 0), (45, .istore_n 3, 0, 0, 0), (46, .iload_n 3, 0, 0, 0), (47, .aload_n 0, 0, 0, 0), (48, .getfield 34, 11, 14, 2), (51, .iconst 3, 0, 0, 0), (52, .iaload, 0, 0, 0), (53, .if_icmp .ge 50, 0, 0, 0), (56, .iconst 5, 0, 0, 0), (57, .iconst 3, 0, 0, 0), (58, .iload_n 3, 0, 0, 0), (59, .imul, 0, 0, 0), (60, .iadd, 0, 0, 0), (61, .istore 4, 0, 0, 0), (63, .aload_n 0, 0, 0, 0), (64, .getfield 34, 11, 14, 2), (67, .iload 4, 0, 0, 0), (69, .iconst 0, 0, 0, 0), (70, .iadd, 0, 0, 0), (71, .iaload, 0, 0, 0), (72, .aload_n 0, 0, 0, 0), (73, .getfield 34, 11, 14, 2), (76, .iconst 0, 0, 0, 0), (77, .iaload, 0, 0, 0), (78, .iload_n 2, 0, 0, 0), (79, .iadd, 0, 0, 0), (80, .if_icmp .ne 17, 0, 0, 0), (83, .aload_n 0, 0, 0, 0), (84, .aload_n 0, 0, 0, 0), (85, .getfield 34, 11, 14, 2), (88, .iload 4, 0, 0, 0), (90, .iconst 1, 0, 0, 0), (91, .iadd, 0, 0, 0), (92, .iaload, 0, 0, 0), (93, .iconst 0, 0, 0, 0), (94, .invokevirtual 345, 205, 0, 1103), (97, .iinc 3 1, 0, 0, 0), (100, .goto (-54), 0, 0, 0), (103, .iconst 0, 0, 0, 0), (104, .istore_n 3, 0, 0, 0), (105, .iload_n 3, 0, 0, 0), (106, .iload_n 2, 0, 0, 0), (107, .if_icmp .ge 47, 0, 0, 0), (110, .aload_n 0, 0, 0, 0), (111, .iload_n 3, 0, 0, 0), (112, .iload_n 2, 0, 0, 0), (113, .invokevirtual 342, 203, 0, 1103), (116, .ifCond .eq 32, 0, 0, 0), (119, .aload_n 0, 0, 0, 0), (120, .aload_n 0, 0, 0, 0), (121, .aload_n 0, 0, 0, 0), (122, .getfield 67, 11, 36, 2), (125, .iload_n 3, 0, 0, 0), (126, .iaload, 0, 0, 0), (127, .invokevirtual 287, 170, 0, 1102), (130, .aload_n 0, 0, 0, 0), (131, .getfield 67, 11, 36, 2), (134, .iload_n 3, 0, 0, 0), (135, .iaload, 0, 0, 0), (136, .iconst 2, 0, 0, 0), (137, .if_icmp .ne 7, 0, 0, 0), (140, .iconst 1, 0, 0, 0), (141, .goto 4, 0, 0, 0), (144, .iconst 0, 0, 0, 0), (145, .invokevirtual 345, 205, 0, 1103), (148, .iinc 3 1, 0, 0, 0), (151, .goto (-46), 0, 0, 0), (154, .iconst 0, 0, 0, 0), (155, .istore_n 3, 0, 0, 0), (156, .iload_n 3, 0, 0, 0), (157, .bipush 9, 0, 0, 0), (159, .if_icmp .ge 43, 0, 0, 0), (162, .aload_n 0, 0, 0, 0), (163, .getfield 70, 11, 37, 2), (166, .iload_n 3, 0, 0, 0), (167, .aload_n 0, 0, 0, 0), (168, .aload_n 0, 0, 0, 0), (169, .getfield 34, 11, 14, 2), (172, .iconst 0, 0, 0, 0), (173, .iaload, 0, 0, 0), (174, .iload_n 2, 0, 0, 0), (175, .iadd, 0, 0, 0), (176, .iload_n 3, 0, 0, 0), (177, .invokevirtual 273, 183, 0, 1103), (180, .ifCond .le 9, 0, 0, 0), (183, .sipush 1000, 0, 0, 0), (186, .goto 9, 0, 0, 0), (189, .aload_n 0, 0, 0, 0), (190, .getfield 70, 11, 37, 2), (193, .iload_n 3, 0, 0, 0), (194, .iaload, 0, 0, 0), (195, .iastore, 0, 0, 0), (196, .iinc 3 1, 0, 0, 0), (199, .goto (-43), 0, 0, 0), (202, .iinc 2 1, 0, 0, 0), (205, .goto (-166), 0, 0, 0), (208, .return_, 0, 0, 0)]
def acX11_fewestOrders : AC := [(0, .aload_n 0, 0, 0, 0), (1, .iload_n 1, 0, 0, 0), (2, .invokevirtual 349, 206, 0, 1102), (5, .sipush 1000, 0, 0, 0), (8, .istore_n 2, 0, 0, 0), (9, .iconst 0, 0, 0, 0), (10, .istore_n 3, 0, 0, 0), (11, .iload_n 3, 0, 0, 0), (12, .bipush 9, 0, 0, 0), (14, .if_icmp .ge 20, 0, 0, 0), (17, .iload_n 2, 0, 0, 0), (18, .aload_n 0, 0, 0, 0), (19, .getfield 70, 11, 37, 2), (22, .iload_n 3, 0, 0, 0), (23, .iaload, 0, 0, 0), (24, .invokestatic 133, 0, 11, 0), (27, .istore_n 2, 0, 0, 0), (28, .iinc 3 1, 0, 0, 0), (31, .goto (-20), 0, 0, 0), (34, .iload_n 2, 0, 0, 0), (35, .ireturn, 0, 0, 0)]
def acX11_choosesAny : AC := [(0, .iconst 0, 0, 0, 0), (1, .istore_n 2, 0, 0, 0), (2, .iload_n 2, 0, 0, 0), (3, .bipush 30, 0, 0, 0), (5, .if_icmp .ge 25, 0, 0, 0), (8, .aload_n 0, 0, 0, 0), (9, .getfield 67, 11, 36, 2), (12, .iload_n 2, 0, 0, 0), (13, .iload_n 2, 0, 0, 0), (14, .iload_n 1, 0, 0, 0), (15, .if_icmp .ge 7, 0, 0, 0), (18, .iconst 0, 0, 0, 0), (19, .goto 4, 0, 0, 0), (22, .iconst 2, 0, 0, 0), (23, .iastore, 0, 0, 0), (24, .iinc 2 1, 0, 0, 0), (27, .goto (-25), 0, 0, 0), (30, .return_, 0, 0, 0)]
def acX11_plan : AC := [(0, .aload_n 0, 0, 0, 0), (1, .iconst 0, 0, 0, 0), (2, .putfield 103, 11, 0, 0), (5, .iload_n 1, 0, 0, 0), (6, .i2l, 0, 0, 0), (7, .lconst 1, 0, 0, 0), (8, .ldc2_w 352, 0, 0, 30), (11, .invokestatic 120, 141, 1, 3), (14, .ifCond .ne 5, 0, 0, 0), (17, .iconst (-1), 0, 0, 0), (18, .ireturn, 0, 0, 0), (19, .aload_n 0, 0, 0, 0), (20, .iconst 0, 0, 0, 0), (21, .invokevirtual 354, 208, 0, 1102), (24, .aload_n 0, 0, 0, 0), (25, .iload_n 1, 0, 0, 0), (26, .invokevirtual 357, 207, 0, 1102), (29, .istore_n 2, 0, 0, 0), (30, .iload_n 2, 0, 0, 0), (31, .sipush 1000, 0, 0, 0), (34, .if_icmp .lt 6, 0, 0, 0), (37, .bipush (-2), 0, 0, 0), (39, .ireturn, 0, 0, 0), (40, .iload_n 2, 0, 0, 0), (41, .istore_n 3, 0, 0, 0), (42, .aload_n 0, 0, 0, 0), (43, .iconst 0, 0, 0, 0), (44, .putfield 110, 11, 1, 0), (47, .iconst 0, 0, 0, 0), (48, .istore 4, 0, 0, 0), (50, .iload 4, 0, 0, 0), (52, .iload_n 1, 0, 0, 0), (53, .if_icmp .ge 153, 0, 0, 0), (56, .aload_n 0, 0, 0, 0), (57, .iload 4, 0, 0, 0), (59, .invokevirtual 336, 202, 0, 1102), (62, .ifCond .eq 27, 0, 0, 0), (65, .iload 4, 0, 0, 0), (67, .aload_n 0, 0, 0, 0), (68, .aload_n 0, 0, 0, 0), (69, .getfield 34, 11, 14, 2), (72, .iconst 0, 0, 0, 0), (73, .iaload, 0, 0, 0), (74, .iload 4, 0, 0, 0), (76, .iadd, 0, 0, 0), (77, .invokevirtual 284, 169, 0, 1102), (80, .iadd, 0, 0, 0), (81, .iload_n 1, 0, 0, 0), (82, .if_icmp .gt 7, 0, 0, 0), (85, .iconst 1, 0, 0, 0), (86, .goto 4, 0, 0, 0), (89, .iconst 0, 0, 0, 0), (90, .istore 5, 0, 0, 0), (92, .iload 5, 0, 0, 0), (94, .ifCond .eq 7, 0, 0, 0), (97, .iconst (-1), 0, 0, 0), (98, .goto 4, 0, 0, 0), (101, .iconst 0, 0, 0, 0), (102, .istore 6, 0, 0, 0), (104, .iconst 0, 0, 0, 0), (105, .istore 7, 0, 0, 0), (107, .iload 7, 0, 0, 0), (109, .ifCond .ne 68, 0, 0, 0), (112, .aload_n 0, 0, 0, 0), (113, .getfield 67, 11, 36, 2), (116, .iload 4, 0, 0, 0), (118, .iload 6, 0, 0, 0), (120, .iastore, 0, 0, 0), (121, .iload 5, 0, 0, 0), (123, .ifCond .eq 26, 0, 0, 0), (126, .aload_n 0, 0, 0, 0), (127, .iload_n 1, 0, 0, 0), (128, .invokevirtual 357, 207, 0, 1102), (131, .iload 6, 0, 0, 0), (133, .ifCond .eq 7, 0, 0, 0), (136, .iconst 1, 0, 0, 0), (137, .goto 4, 0, 0, 0), (140, .iconst 0, 0, 0, 0), (141, .invokestatic 142, 143, 1, 1), (144, .iadd, 0, 0, 0), (145, .iload_n 3, 0, 0, 0), (146, .if_icmp .ne 7, 0, 0, 0), (149, .iconst 1, 0, 0, 0), (150, .goto 4, 0, 0, 0), (153, .iconst 0, 0, 0, 0), (154, .istore 7, 0, 0, 0), (156, .iload 6, 0, 0, 0), (158, .iload 7, 0, 0, 0), (160, .ifCond .ne 7, 0, 0, 0), (163, .iconst 1, 0, 0, 0), (164, .goto 4, 0, 0, 0), (167, .iconst 0, 0, 0, 0), (168, .invokestatic 142, 143, 1, 1), (171, .iadd, 0, 0, 0), (172, .istore 6, 0, 0, 0), (174, .goto (-67), 0, 0, 0), (177, .iload_n 3, 0, 0, 0), (178, .iload 6, 0, 0, 0), (180, .ifCond .eq 7, 0, 0, 0), (183, .iconst 1, 0, 0, 0), (184, .goto 4, 0, 0, 0), (187, .iconst 0, 0, 0, 0), (188, .invokestatic 142, 143, 1, 1), (191, .isub, 0, 0, 0), (192, .istore_n 3, 0, 0, 0), (193, .aload_n 0, 0, 0, 0), (194, .iload 6, 0, 0, 0), (196, .i2l, 0, 0, 0), (197, .invokevirtual 113, 145, 0, 1102), (200, .iinc 4 1, 0, 0, 0), (203, .goto (-153), 0, 0, 0), (206, .iload_n 2, 0, 0, 0), (207, .ireturn, 0, 0, 0)]
def acX11_latest : AC := [(0, .aload_n 0, 0, 0, 0), (1, .iconst 0, 0, 0, 0), (2, .putfield 103, 11, 0, 0), (5, .iload_n 1, 0, 0, 0), (6, .i2l, 0, 0, 0), (7, .lconst 1, 0, 0, 0), (8, .ldc2_w 352, 0, 0, 30), (11, .invokestatic 120, 141, 1, 3), (14, .ifCond .ne 5, 0, 0, 0), (17, .iconst (-1), 0, 0, 0), (18, .ireturn, 0, 0, 0), (19, .iload_n 1, 0, 0, 0), (20, .iconst 1, 0, 0, 0), (21, .isub, 0, 0, 0), (22, .istore_n 2, 0, 0, 0), (23, .iload_n 2, 0, 0, 0), (24, .ifCond .lt 27, 0, 0, 0), (27, .aload_n 0, 0, 0, 0), (28, .iload_n 2, 0, 0, 0), (29, .invokevirtual 354, 208, 0, 1102), (32, .aload_n 0, 0, 0, 0), (33, .iload_n 1, 0, 0, 0), (34, .invokevirtual 357, 207, 0, 1102), (37, .sipush 1000, 0, 0, 0), (40, .if_icmp .ge 5, 0, 0, 0), (43, .iload_n 2, 0, 0, 0), (44, .ireturn, 0, 0, 0), (45, .iinc 2 (-1), 0, 0, 0), (48, .goto (-25), 0, 0, 0), (51, .bipush (-2), 0, 0, 0), (53, .ireturn, 0, 0, 0)]
def acX11_lanes : AC := [(0, .aload_n 0, 0, 0, 0), (1, .iconst 0, 0, 0, 0), (2, .putfield 103, 11, 0, 0), (5, .iload_n 1, 0, 0, 0), (6, .i2l, 0, 0, 0), (7, .lconst 0, 0, 0, 0), (8, .ldc2_w 352, 0, 0, 30), (11, .invokestatic 120, 141, 1, 3), (14, .ifCond .ne 5, 0, 0, 0), (17, .iconst (-1), 0, 0, 0), (18, .ireturn, 0, 0, 0), (19, .aload_n 0, 0, 0, 0), (20, .iconst 0, 0, 0, 0), (21, .invokevirtual 354, 208, 0, 1102), (24, .aload_n 0, 0, 0, 0), (25, .iload_n 1, 0, 0, 0), (26, .invokevirtual 349, 206, 0, 1102), (29, .iconst 0, 0, 0, 0), (30, .istore_n 2, 0, 0, 0), (31, .iconst 0, 0, 0, 0), (32, .istore_n 3, 0, 0, 0), (33, .iload_n 3, 0, 0, 0), (34, .bipush 9, 0, 0, 0), (36, .if_icmp .ge 31, 0, 0, 0), (39, .iload_n 2, 0, 0, 0), (40, .aload_n 0, 0, 0, 0), (41, .getfield 70, 11, 37, 2), (44, .iload_n 3, 0, 0, 0), (45, .iaload, 0, 0, 0), (46, .sipush 1000, 0, 0, 0), (49, .if_icmp .ge 9, 0, 0, 0), (52, .iconst 1, 0, 0, 0), (53, .iload_n 3, 0, 0, 0), (54, .ishl, 0, 0, 0), (55, .goto 4, 0, 0, 0), (58, .iconst 0, 0, 0, 0), (59, .ior, 0, 0, 0), (60, .istore_n 2, 0, 0, 0), (61, .iinc 3 1, 0, 0, 0), (64, .goto (-31), 0, 0, 0), (67, .aload_n 0, 0, 0, 0), (68, .iconst 0, 0, 0, 0), (69, .putfield 110, 11, 1, 0), (72, .aload_n 0, 0, 0, 0), (73, .iload_n 2, 0, 0, 0), (74, .invokestatic 360, 252, 1, 1), (77, .i2l, 0, 0, 0), (78, .invokevirtual 113, 145, 0, 1102), (81, .iload_n 2, 0, 0, 0), (82, .ireturn, 0, 0, 0)]
def acX11_rocksIn : AC := [(0, .iconst 0, 0, 0, 0), (1, .istore_n 3, 0, 0, 0), (2, .iconst 0, 0, 0, 0), (3, .istore 4, 0, 0, 0), (5, .iload 4, 0, 0, 0), (7, .aload_n 0, 0, 0, 0), (8, .getfield 196, 11, 6, 0), (11, .if_icmp .ge 64, 0, 0, 0), (14, .iload_n 3, 0, 0, 0), (15, .aload_n 0, 0, 0, 0), (16, .getfield 28, 11, 12, 2), (19, .iload 4, 0, 0, 0), (21, .iaload, 0, 0, 0), (22, .iload_n 1, 0, 0, 0), (23, .if_icmp .ne 40, 0, 0, 0), (26, .aload_n 0, 0, 0, 0), (27, .getfield 25, 11, 11, 2), (30, .iload 4, 0, 0, 0), (32, .iaload, 0, 0, 0), (33, .i2l, 0, 0, 0), (34, .aload_n 0, 0, 0, 0), (35, .getfield 34, 11, 14, 2), (38, .iconst 0, 0, 0, 0), (39, .iaload, 0, 0, 0), (40, .iconst 1, 0, 0, 0), (41, .iadd, 0, 0, 0), (42, .i2l, 0, 0, 0), (43, .aload_n 0, 0, 0, 0), (44, .getfield 34, 11, 14, 2), (47, .iconst 0, 0, 0, 0), (48, .iaload, 0, 0, 0), (49, .i2l, 0, 0, 0), (50, .iload_n 2, 0, 0, 0), (51, .i2l, 0, 0, 0), (52, .ladd, 0, 0, 0), (53, .invokestatic 120, 141, 1, 3), (56, .ifCond .eq 7, 0, 0, 0), (59, .iconst 1, 0, 0, 0), (60, .goto 4, 0, 0, 0), (63, .iconst 0, 0, 0, 0), (64, .invokestatic 142, 143, 1, 1), (67, .iadd, 0, 0, 0), (68, .istore_n 3, 0, 0, 0), (69, .iinc 4 1, 0, 0, 0), (72, .goto (-67), 0, 0, 0), (75, .iload_n 3, 0, 0, 0), (76, .ireturn, 0, 0, 0)]
def acX11_safest : AC := [(0, .aload_n 0, 0, 0, 0), (1, .iconst 0, 0, 0, 0), (2, .putfield 103, 11, 0, 0), (5, .iload_n 1, 0, 0, 0), (6, .i2l, 0, 0, 0), (7, .lconst 1, 0, 0, 0), (8, .ldc2_w 365, 0, 0, 999), (11, .invokestatic 120, 141, 1, 3), (14, .ifCond .ne 5, 0, 0, 0), (17, .iconst (-1), 0, 0, 0), (18, .ireturn, 0, 0, 0), (19, .iconst 0, 0, 0, 0), (20, .istore_n 2, 0, 0, 0), (21, .iconst 1, 0, 0, 0), (22, .istore_n 3, 0, 0, 0), (23, .iload_n 3, 0, 0, 0), (24, .bipush 9, 0, 0, 0), (26, .if_icmp .ge 70, 0, 0, 0), (29, .aload_n 0, 0, 0, 0), (30, .iload_n 3, 0, 0, 0), (31, .iload_n 1, 0, 0, 0), (32, .invokevirtual 367, 212, 0, 1103), (35, .aload_n 0, 0, 0, 0), (36, .iload_n 2, 0, 0, 0), (37, .iload_n 1, 0, 0, 0), (38, .invokevirtual 367, 212, 0, 1103), (41, .isub, 0, 0, 0), (42, .istore 4, 0, 0, 0), (44, .iload_n 3, 0, 0, 0), (45, .aload_n 0, 0, 0, 0), (46, .getfield 34, 11, 14, 2), (49, .iconst 1, 0, 0, 0), (50, .iaload, 0, 0, 0), (51, .isub, 0, 0, 0), (52, .invokestatic 370, 0, 12, 0), (55, .iload_n 2, 0, 0, 0), (56, .aload_n 0, 0, 0, 0), (57, .getfield 34, 11, 14, 2), (60, .iconst 1, 0, 0, 0), (61, .iaload, 0, 0, 0), (62, .isub, 0, 0, 0), (63, .invokestatic 370, 0, 12, 0), (66, .isub, 0, 0, 0), (67, .istore 5, 0, 0, 0), (69, .iload 4, 0, 0, 0), (71, .ifCond .lt 13, 0, 0, 0), (74, .iload 4, 0, 0, 0), (76, .ifCond .ne 12, 0, 0, 0), (79, .iload 5, 0, 0, 0), (81, .ifCond .ge 7, 0, 0, 0), (84, .iload_n 3, 0, 0, 0), (85, .goto 4, 0, 0, 0), (88, .iload_n 2, 0, 0, 0), (89, .istore_n 2, 0, 0, 0), (90, .iinc 3 1, 0, 0, 0), (93, .goto (-70), 0, 0, 0), (96, .aload_n 0, 0, 0, 0), (97, .iconst 0, 0, 0, 0), (98, .putfield 110, 11, 1, 0), (101, .aload_n 0, 0, 0, 0), (102, .aload_n 0, 0, 0, 0), (103, .iload_n 2, 0, 0, 0), (104, .iload_n 1, 0, 0, 0), (105, .invokevirtual 367, 212, 0, 1103), (108, .i2l, 0, 0, 0), (109, .invokevirtual 113, 145, 0, 1102), (112, .aload_n 0, 0, 0, 0), (113, .aload_n 0, 0, 0, 0), (114, .aload_n 0, 0, 0, 0), (115, .getfield 34, 11, 14, 2), (118, .iconst 1, 0, 0, 0), (119, .iaload, 0, 0, 0), (120, .iload_n 1, 0, 0, 0), (121, .invokevirtual 367, 212, 0, 1103), (124, .i2l, 0, 0, 0), (125, .invokevirtual 113, 145, 0, 1102), (128, .iload_n 2, 0, 0, 0), (129, .ireturn, 0, 0, 0)]
def acX11_late : AC := [(0, .aload_n 0, 0, 0, 0), (1, .iconst 0, 0, 0, 0), (2, .putfield 103, 11, 0, 0), (5, .iload_n 1, 0, 0, 0), (6, .i2l, 0, 0, 0), (7, .lconst 1, 0, 0, 0), (8, .ldc2_w 352, 0, 0, 30), (11, .invokestatic 120, 141, 1, 3), (14, .ifCond .ne 5, 0, 0, 0), (17, .iconst (-1), 0, 0, 0), (18, .ireturn, 0, 0, 0), (19, .aload_n 0, 0, 0, 0), (20, .iconst 0, 0, 0, 0), (21, .putfield 110, 11, 1, 0), (24, .iconst 0, 0, 0, 0), (25, .istore_n 2, 0, 0, 0), (26, .iconst 0, 0, 0, 0), (27, .istore_n 3, 0, 0, 0), (28, .iload_n 3, 0, 0, 0), (29, .iload_n 1, 0, 0, 0), (30, .if_icmp .ge 93, 0, 0, 0), (33, .iload_n 3, 0, 0, 0), (34, .aload_n 0, 0, 0, 0), (35, .aload_n 0, 0, 0, 0), (36, .getfield 34, 11, 14, 2), (39, .iconst 0, 0, 0, 0), (40, .iaload, 0, 0, 0), (41, .iload_n 3, 0, 0, 0), (42, .iadd, 0, 0, 0), (43, .invokevirtual 284, 169, 0, 1102), (46, .iadd, 0, 0, 0), (47, .istore 4, 0, 0, 0), (49, .iconst 0, 0, 0, 0), (50, .istore 5, 0, 0, 0), (52, .iload_n 3, 0, 0, 0), (53, .iconst 1, 0, 0, 0), (54, .iadd, 0, 0, 0), (55, .istore 6, 0, 0, 0), (57, .iload 6, 0, 0, 0), (59, .iload_n 1, 0, 0, 0), (60, .if_icmp .ge 42, 0, 0, 0), (63, .iload 5, 0, 0, 0), (65, .ifCond .ne 24, 0, 0, 0), (68, .iload 6, 0, 0, 0), (70, .aload_n 0, 0, 0, 0), (71, .aload_n 0, 0, 0, 0), (72, .getfield 34, 11, 14, 2), (75, .iconst 0, 0, 0, 0), (76, .iaload, 0, 0, 0), (77, .iload 6, 0, 0, 0), (79, .iadd, 0, 0, 0), (80, .invokevirtual 284, 169, 0, 1102), (83, .iadd, 0, 0, 0), (84, .iload 4, 0, 0, 0), (86, .if_icmp .ge 7, 0, 0, 0), (89, .iconst 1, 0, 0, 0), (90, .goto 4, 0, 0, 0), (93, .iconst 0, 0, 0, 0), (94, .istore 5, 0, 0, 0), (96, .iinc 6 1, 0, 0, 0), (99, .goto (-42), 0, 0, 0), (102, .iload_n 2, 0, 0, 0), (103, .iload 5, 0, 0, 0), (105, .invokestatic 142, 143, 1, 1), (108, .iadd, 0, 0, 0), (109, .istore_n 2, 0, 0, 0), (110, .aload_n 0, 0, 0, 0), (111, .iload 4, 0, 0, 0), (113, .i2l, 0, 0, 0), (114, .invokevirtual 113, 145, 0, 1102), (117, .iinc 3 1, 0, 0, 0), (120, .goto (-92), 0, 0, 0), (123, .iload_n 2, 0, 0, 0), (124, .ireturn, 0, 0, 0)]
def acX11_comes : AC := [(0, .aload_n 0, 0, 0, 0), (1, .iconst 0, 0, 0, 0), (2, .putfield 103, 11, 0, 0), (5, .iload_n 1, 0, 0, 0), (6, .i2l, 0, 0, 0), (7, .lconst 0, 0, 0, 0), (8, .ldc2_w 373, 0, 0, 12), (11, .invokestatic 120, 141, 1, 3), (14, .ifCond .ne 5, 0, 0, 0), (17, .iconst (-1), 0, 0, 0), (18, .ireturn, 0, 0, 0), (19, .aload_n 0, 0, 0, 0), (20, .getfield 13, 11, 3, 0), (23, .iconst 1, 0, 0, 0), (24, .isub, 0, 0, 0), (25, .aload_n 0, 0, 0, 0), (26, .getfield 13, 11, 3, 0), (29, .iconst 1, 0, 0, 0), (30, .isub, 0, 0, 0), (31, .iload_n 1, 0, 0, 0), (32, .imul, 0, 0, 0), (33, .aload_n 0, 0, 0, 0), (34, .aload_n 0, 0, 0, 0), (35, .getfield 34, 11, 14, 2), (38, .iconst 0, 0, 0, 0), (39, .iaload, 0, 0, 0), (40, .invokevirtual 284, 169, 0, 1102), (43, .idiv, 0, 0, 0), (44, .invokestatic 133, 0, 11, 0), (47, .istore_n 2, 0, 0, 0), (48, .iconst 0, 0, 0, 0), (49, .istore_n 3, 0, 0, 0), (50, .iconst 0, 0, 0, 0), (51, .istore 4, 0, 0, 0), (53, .iconst 0, 0, 0, 0), (54, .istore 5, 0, 0, 0), (56, .iload 5, 0, 0, 0), (58, .aload_n 0, 0, 0, 0), (59, .getfield 190, 11, 4, 0), (62, .if_icmp .ge 65, 0, 0, 0), (65, .iload_n 3, 0, 0, 0), (66, .aload_n 0, 0, 0, 0), (67, .getfield 17, 11, 9, 2), (70, .iload 5, 0, 0, 0), (72, .iaload, 0, 0, 0), (73, .iload_n 2, 0, 0, 0), (74, .if_icmp .gt 7, 0, 0, 0), (77, .iconst 1, 0, 0, 0), (78, .goto 4, 0, 0, 0), (81, .iconst 0, 0, 0, 0), (82, .invokestatic 142, 143, 1, 1), (85, .iadd, 0, 0, 0), (86, .istore_n 3, 0, 0, 0), (87, .iload 4, 0, 0, 0), (89, .aload_n 0, 0, 0, 0), (90, .getfield 17, 11, 9, 2), (93, .iload 5, 0, 0, 0), (95, .iaload, 0, 0, 0), (96, .iload_n 2, 0, 0, 0), (97, .if_icmp .gt 17, 0, 0, 0), (100, .aload_n 0, 0, 0, 0), (101, .getfield 21, 11, 10, 2), (104, .iload 5, 0, 0, 0), (106, .baload, 0, 0, 0), (107, .ifCond .eq 7, 0, 0, 0), (110, .iconst 1, 0, 0, 0), (111, .goto 4, 0, 0, 0), (114, .iconst 0, 0, 0, 0), (115, .invokestatic 142, 143, 1, 1), (118, .iadd, 0, 0, 0), (119, .istore 4, 0, 0, 0), (121, .iinc 5 1, 0, 0, 0), (124, .goto (-68), 0, 0, 0), (127, .aload_n 0, 0, 0, 0), (128, .iconst 0, 0, 0, 0), (129, .putfield 110, 11, 1, 0), (132, .aload_n 0, 0, 0, 0), (133, .iload_n 3, 0, 0, 0), (134, .i2l, 0, 0, 0), (135, .invokevirtual 113, 145, 0, 1102), (138, .aload_n 0, 0, 0, 0), (139, .iload 4, 0, 0, 0), (141, .iconst 2, 0, 0, 0), (142, .irem, 0, 0, 0), (143, .i2l, 0, 0, 0), (144, .invokevirtual 113, 145, 0, 1102), (147, .iload_n 2, 0, 0, 0), (148, .ireturn, 0, 0, 0)]
def acX11_postsFor : AC := [(0, .aload_n 0, 0, 0, 0), (1, .getfield 13, 11, 3, 0), (4, .iconst 1, 0, 0, 0), (5, .isub, 0, 0, 0), (6, .iload_n 1, 0, 0, 0), (7, .iadd, 0, 0, 0), (8, .iconst 1, 0, 0, 0), (9, .isub, 0, 0, 0), (10, .iload_n 1, 0, 0, 0), (11, .idiv, 0, 0, 0), (12, .iconst 1, 0, 0, 0), (13, .isub, 0, 0, 0), (14, .ireturn, 0, 0, 0)]
def acX11_relay : AC := [(0, .aload_n 0, 0, 0, 0), (1, .iconst 0, 0, 0, 0), (2, .putfield 103, 11, 0, 0), (5, .iload_n 1, 0, 0, 0), (6, .i2l, 0, 0, 0), (7, .lconst 0, 0, 0, 0), (8, .ldc2_w 375, 0, 0, 10), (11, .invokestatic 120, 141, 1, 3), (14, .ifCond .ne 5, 0, 0, 0), (17, .iconst (-1), 0, 0, 0), (18, .ireturn, 0, 0, 0), (19, .iload_n 1, 0, 0, 0), (20, .aload_n 0, 0, 0, 0), (21, .getfield 13, 11, 3, 0), (24, .iconst 2, 0, 0, 0), (25, .isub, 0, 0, 0), (26, .if_icmp .le 6, 0, 0, 0), (29, .bipush (-2), 0, 0, 0), (31, .ireturn, 0, 0, 0), (32, .iconst 1, 0, 0, 0), (33, .istore_n 2, 0, 0, 0), (34, .aload_n 0, 0, 0, 0), (35, .iload_n 2, 0, 0, 0), (36, .invokevirtual 377, 216, 0, 1102), (39, .iload_n 1, 0, 0, 0), (40, .if_icmp .le 9, 0, 0, 0), (43, .iinc 2 1, 0, 0, 0), (46, .goto (-12), 0, 0, 0), (49, .aload_n 0, 0, 0, 0), (50, .iconst 0, 0, 0, 0), (51, .putfield 110, 11, 1, 0), (54, .iconst 0, 0, 0, 0), (55, .istore_n 3, 0, 0, 0), (56, .iconst 1, 0, 0, 0), (57, .istore 4, 0, 0, 0), (59, .iload 4, 0, 0, 0), (61, .iload_n 1, 0, 0, 0), (62, .if_icmp .gt 37, 0, 0, 0), (65, .iload_n 3, 0, 0, 0), (66, .iconst 1, 0, 0, 0), (67, .iadd, 0, 0, 0), (68, .aload_n 0, 0, 0, 0), (69, .getfield 13, 11, 3, 0), (72, .iconst 1, 0, 0, 0), (73, .isub, 0, 0, 0), (74, .iload_n 2, 0, 0, 0), (75, .iload_n 1, 0, 0, 0), (76, .iload 4, 0, 0, 0), (78, .isub, 0, 0, 0), (79, .iconst 1, 0, 0, 0), (80, .iadd, 0, 0, 0), (81, .imul, 0, 0, 0), (82, .isub, 0, 0, 0), (83, .invokestatic 243, 0, 10, 0), (86, .istore_n 3, 0, 0, 0), (87, .aload_n 0, 0, 0, 0), (88, .iload_n 3, 0, 0, 0), (89, .i2l, 0, 0, 0), (90, .invokevirtual 113, 145, 0, 1102), (93, .iinc 4 1, 0, 0, 0), (96, .goto (-37), 0, 0, 0), (99, .iload_n 2, 0, 0, 0), (100, .ireturn, 0, 0, 0)]
def acX11_fewest : AC := [(0, .aload_n 0, 0, 0, 0), (1, .iconst 0, 0, 0, 0), (2, .putfield 103, 11, 0, 0), (5, .iload_n 1, 0, 0, 0), (6, .i2l, 0, 0, 0), (7, .lconst 1, 0, 0, 0), (8, .ldc2_w 380, 0, 0, 39), (11, .invokestatic 120, 141, 1, 3), (14, .ifCond .eq 11, 0, 0, 0), (17, .aload_n 0, 0, 0, 0), (18, .iload_n 1, 0, 0, 0), (19, .invokevirtual 377, 216, 0, 1102), (22, .goto 4, 0, 0, 0), (25, .iconst (-1), 0, 0, 0), (26, .ireturn, 0, 0, 0)]
def acX11_bets : AC := [(0, .aload_n 0, 0, 0, 0), (1, .lconst 0, 0, 0, 0), (2, .putfield 382, 11, 39, 1), (5, .aload_n 0, 0, 0, 0), (6, .lconst 1, 0, 0, 0), (7, .putfield 386, 11, 40, 1), (10, .iconst 0, 0, 0, 0), (11, .istore_n 3, 0, 0, 0), (12, .iload_n 3, 0, 0, 0), (13, .iload_n 1, 0, 0, 0), (14, .if_icmp .ge 21, 0, 0, 0), (17, .aload_n 0, 0, 0, 0), (18, .dup, 0, 0, 0), (19, .getfield 386, 11, 40, 1), (22, .ldc2_w 375, 0, 0, 10), (25, .lmul, 0, 0, 0), (26, .putfield 386, 11, 40, 1), (29, .iinc 3 1, 0, 0, 0), (32, .goto (-20), 0, 0, 0), (35, .iconst 0, 0, 0, 0), (36, .istore_n 3, 0, 0, 0), (37, .iconst 2, 0, 0, 0), (38, .iload_n 3, 0, 0, 0), (39, .imul, 0, 0, 0), (40, .iload_n 1, 0, 0, 0), (41, .if_icmp .ge 90, 0, 0, 0), (44, .lconst 1, 0, 0, 0), (45, .lstore 4, 0, 0, 0), (47, .iconst 0, 0, 0, 0), (48, .istore 6, 0, 0, 0), (50, .iload 6, 0, 0, 0), (52, .iload_n 3, 0, 0, 0), (53, .if_icmp .ge 25, 0, 0, 0), (56, .lload 4, 0, 0, 0), (58, .iload_n 1, 0, 0, 0), (59, .iload 6, 0, 0, 0), (61, .isub, 0, 0, 0), (62, .i2l, 0, 0, 0), (63, .lmul, 0, 0, 0), (64, .iload 6, 0, 0, 0), (66, .iconst 1, 0, 0, 0), (67, .iadd, 0, 0, 0), (68, .i2l, 0, 0, 0), (69, .ldiv, 0, 0, 0), (70, .lstore 4, 0, 0, 0), (72, .iinc 6 1, 0, 0, 0), (75, .goto (-25), 0, 0, 0), (78, .iconst 0, 0, 0, 0), (79, .istore 6, 0, 0, 0), (81, .iload 6, 0, 0, 0), (83, .iload_n 1, 0, 0, 0), (84, .if_icmp .ge 30, 0, 0, 0), (87, .lload 4, 0, 0, 0), (89, .iload 6, 0, 0, 0), (91, .iload_n 3, 0, 0, 0), (92, .if_icmp .ge 8, 0, 0, 0), (95, .iload_n 2, 0, 0, 0), (96, .i2l, 0, 0, 0), (97, .goto 8, 0, 0, 0), (100, .bipush 10, 0, 0, 0), (102, .iload_n 2, 0, 0, 0), (103, .isub, 0, 0, 0), (104, .i2l, 0, 0, 0), (105, .lmul, 0, 0, 0), (106, .lstore 4, 0, 0, 0), (108, .iinc 6 1, 0, 0, 0), (111, .goto (-30), 0, 0, 0), (114, .aload_n 0, 0, 0, 0), (115, .dup, 0, 0, 0), (116, .getfield 382, 11, 39, 1), (119, .lload 4, 0, 0, 0), (121, .ladd, 0, 0, 0), (122, .putfield 382, 11, 39, 1), (125, .iinc 3 1, 0, 0, 0), (128, .goto (-91), 0, 0, 0), (131, .return_, 0, 0, 0)]
def acX11_word : AC := [(0, .aload_n 0, 0, 0, 0), (1, .iconst 0, 0, 0, 0), (2, .putfield 103, 11, 0, 0), (5, .iload_n 1, 0, 0, 0), (6, .i2l, 0, 0, 0), (7, .lconst 1, 0, 0, 0), (8, .ldc2_w 389, 0, 0, 15), (11, .invokestatic 120, 141, 1, 3), (14, .ifCond .eq 21, 0, 0, 0), (17, .iload_n 1, 0, 0, 0), (18, .iconst 2, 0, 0, 0), (19, .irem, 0, 0, 0), (20, .ifCond .eq 15, 0, 0, 0), (23, .iload_n 2, 0, 0, 0), (24, .i2l, 0, 0, 0), (25, .lconst 0, 0, 0, 0), (26, .ldc2_w 375, 0, 0, 10), (29, .invokestatic 120, 141, 1, 3), (32, .ifCond .ne 5, 0, 0, 0), (35, .iconst (-1), 0, 0, 0), (36, .ireturn, 0, 0, 0), (37, .aload_n 0, 0, 0, 0), (38, .iload_n 1, 0, 0, 0), (39, .iload_n 2, 0, 0, 0), (40, .invokevirtual 391, 219, 0, 1103), (43, .aload_n 0, 0, 0, 0), (44, .aload_n 0, 0, 0, 0), (45, .getfield 382, 11, 39, 1), (48, .aload_n 0, 0, 0, 0), (49, .getfield 386, 11, 40, 1), (52, .invokevirtual 395, 146, 0, 1103), (55, .iconst 0, 0, 0, 0), (56, .ireturn, 0, 0, 0)]
def acX11_survives : AC := [(0, .aload_n 0, 0, 0, 0), (1, .iconst 0, 0, 0, 0), (2, .putfield 103, 11, 0, 0), (5, .iload_n 1, 0, 0, 0), (6, .i2l, 0, 0, 0), (7, .lconst 0, 0, 0, 0), (8, .ldc2_w 375, 0, 0, 10), (11, .invokestatic 120, 141, 1, 3), (14, .ifCond .eq 15, 0, 0, 0), (17, .iload_n 2, 0, 0, 0), (18, .i2l, 0, 0, 0), (19, .lconst 0, 0, 0, 0), (20, .ldc2_w 399, 0, 0, 100), (23, .invokestatic 120, 141, 1, 3), (26, .ifCond .ne 5, 0, 0, 0), (29, .iconst (-1), 0, 0, 0), (30, .ireturn, 0, 0, 0), (31, .iconst 1, 0, 0, 0), (32, .istore_n 3, 0, 0, 0), (33, .iload_n 3, 0, 0, 0), (34, .bipush 15, 0, 0, 0), (36, .if_icmp .gt 36, 0, 0, 0), (39, .aload_n 0, 0, 0, 0), (40, .iload_n 3, 0, 0, 0), (41, .iload_n 1, 0, 0, 0), (42, .invokevirtual 391, 219, 0, 1103), (45, .ldc2_w 399, 0, 0, 100), (48, .aload_n 0, 0, 0, 0), (49, .getfield 382, 11, 39, 1), (52, .lmul, 0, 0, 0), (53, .iload_n 2, 0, 0, 0), (54, .i2l, 0, 0, 0), (55, .aload_n 0, 0, 0, 0), (56, .getfield 386, 11, 40, 1), (59, .lmul, 0, 0, 0), (60, .lcmp, 0, 0, 0), (61, .ifCond .lt 5, 0, 0, 0), (64, .iload_n 3, 0, 0, 0), (65, .ireturn, 0, 0, 0), (66, .iinc 3 2, 0, 0, 0), (69, .goto (-36), 0, 0, 0), (72, .bipush (-2), 0, 0, 0), (74, .ireturn, 0, 0, 0)]
def acX11_lastsFor : AC := [(0, .iconst 0, 0, 0, 0), (1, .istore_n 3, 0, 0, 0), (2, .iconst 0, 0, 0, 0), (3, .istore 4, 0, 0, 0), (5, .iload_n 1, 0, 0, 0), (6, .istore 5, 0, 0, 0), (8, .iload 5, 0, 0, 0), (10, .iload_n 2, 0, 0, 0), (11, .if_icmp .gt 34, 0, 0, 0), (14, .iload_n 3, 0, 0, 0), (15, .aload_n 0, 0, 0, 0), (16, .getfield 34, 11, 14, 2), (19, .bipush 41, 0, 0, 0), (21, .iload 5, 0, 0, 0), (23, .iadd, 0, 0, 0), (24, .iaload, 0, 0, 0), (25, .iadd, 0, 0, 0), (26, .istore_n 3, 0, 0, 0), (27, .iload 4, 0, 0, 0), (29, .aload_n 0, 0, 0, 0), (30, .getfield 31, 11, 13, 2), (33, .iload 5, 0, 0, 0), (35, .iaload, 0, 0, 0), (36, .iadd, 0, 0, 0), (37, .istore 4, 0, 0, 0), (39, .iinc 5 1, 0, 0, 0), (42, .goto (-34), 0, 0, 0), (45, .iload 4, 0, 0, 0), (47, .ifCond .ne 9, 0, 0, 0), (50, .ldc_w 401, 0, 0, 99999), (53, .goto 7, 0, 0, 0), (56, .iload_n 3, 0, 0, 0), (57, .iload 4, 0, 0, 0), (59, .idiv, 0, 0, 0), (60, .ireturn, 0, 0, 0)]
def acX11_lives : AC := [(0, .aload_n 0, 0, 0, 0), (1, .iconst 0, 0, 0, 0), (2, .putfield 103, 11, 0, 0), (5, .iload_n 1, 0, 0, 0), (6, .i2l, 0, 0, 0), (7, .lconst 0, 0, 0, 0), (8, .ldc2_w 261, 0, 0, 3), (11, .invokestatic 120, 141, 1, 3), (14, .ifCond .eq 10, 0, 0, 0), (17, .aload_n 0, 0, 0, 0), (18, .getfield 117, 11, 7, 0), (21, .ifCond .ne 5, 0, 0, 0), (24, .iconst (-1), 0, 0, 0), (25, .ireturn, 0, 0, 0), (26, .iload_n 1, 0, 0, 0), (27, .iconst 3, 0, 0, 0), (28, .if_icmp .ne 17, 0, 0, 0), (31, .aload_n 0, 0, 0, 0), (32, .iconst 0, 0, 0, 0), (33, .aload_n 0, 0, 0, 0), (34, .getfield 117, 11, 7, 0), (37, .iconst 1, 0, 0, 0), (38, .isub, 0, 0, 0), (39, .invokevirtual 402, 222, 0, 1103), (42, .goto 6, 0, 0, 0), (45, .ldc_w 401, 0, 0, 99999), (48, .istore_n 2, 0, 0, 0), (49, .iload_n 1, 0, 0, 0), (50, .iconst 3, 0, 0, 0), (51, .if_icmp .ne 14, 0, 0, 0), (54, .iload_n 2, 0, 0, 0), (55, .ldc_w 401, 0, 0, 99999), (58, .if_icmp .ge 7, 0, 0, 0), (61, .iconst 0, 0, 0, 0), (62, .goto 4, 0, 0, 0), (65, .iconst (-1), 0, 0, 0), (66, .istore_n 3, 0, 0, 0), (67, .iconst 0, 0, 0, 0), (68, .istore 4, 0, 0, 0), (70, .iload 4, 0, 0, 0), (72, .aload_n 0, 0, 0, 0), (73, .getfield 117, 11, 7, 0), (76, .if_icmp .ge 67, 0, 0, 0), (79, .iload_n 1, 0, 0, 0), (80, .iconst 3, 0, 0, 0), (81, .if_icmp .ge 62, 0, 0, 0), (84, .aload_n 0, 0, 0, 0), (85, .iload_n 1, 0, 0, 0), (86, .iconst 1, 0, 0, 0), (87, .if_icmp .ne 7, 0, 0, 0), (90, .iconst 0, 0, 0, 0), (91, .goto 5, 0, 0, 0), (94, .iload 4, 0, 0, 0), (96, .iload_n 1, 0, 0, 0), (97, .iconst 2, 0, 0, 0), (98, .if_icmp .ne 12, 0, 0, 0), (101, .aload_n 0, 0, 0, 0), (102, .getfield 117, 11, 7, 0), (105, .iconst 1, 0, 0, 0), (106, .isub, 0, 0, 0), (107, .goto 5, 0, 0, 0), (110, .iload 4, 0, 0, 0), (112, .invokevirtual 402, 222, 0, 1103), (115, .istore 5, 0, 0, 0), (117, .iload 5, 0, 0, 0), (119, .iload_n 2, 0, 0, 0), (120, .if_icmp .ge 8, 0, 0, 0), (123, .iload 4, 0, 0, 0), (125, .goto 4, 0, 0, 0), (128, .iload_n 3, 0, 0, 0), (129, .istore_n 3, 0, 0, 0), (130, .iload_n 2, 0, 0, 0), (131, .iload 5, 0, 0, 0), (133, .invokestatic 133, 0, 11, 0), (136, .istore_n 2, 0, 0, 0), (137, .iinc 4 1, 0, 0, 0), (140, .goto (-70), 0, 0, 0), (143, .aload_n 0, 0, 0, 0), (144, .iconst 0, 0, 0, 0), (145, .putfield 110, 11, 1, 0), (148, .aload_n 0, 0, 0, 0), (149, .iload_n 3, 0, 0, 0), (150, .i2l, 0, 0, 0), (151, .invokevirtual 113, 145, 0, 1102), (154, .iload_n 2, 0, 0, 0), (155, .ireturn, 0, 0, 0)]
def acX11_spare : AC := [(0, .aload_n 0, 0, 0, 0), (1, .getfield 34, 11, 14, 2), (4, .bipush 41, 0, 0, 0), (6, .iload_n 1, 0, 0, 0), (7, .iadd, 0, 0, 0), (8, .iaload, 0, 0, 0), (9, .iload_n 2, 0, 0, 0), (10, .aload_n 0, 0, 0, 0), (11, .getfield 31, 11, 13, 2), (14, .iload_n 1, 0, 0, 0), (15, .iaload, 0, 0, 0), (16, .imul, 0, 0, 0), (17, .isub, 0, 0, 0), (18, .ireturn, 0, 0, 0)]
def acX11_laysFlows : AC := [(0, .sipush (-800), 0, 0, 0), (3, .istore_n 2, 0, 0, 0), (4, .iload_n 2, 0, 0, 0), (5, .sipush 800, 0, 0, 0), (8, .if_icmp .gt 53, 0, 0, 0), (11, .aload_n 0, 0, 0, 0), (12, .getfield 76, 11, 41, 2), (15, .sipush 1601, 0, 0, 0), (18, .aload_n 0, 0, 0, 0), (19, .getfield 117, 11, 7, 0), (22, .iconst 1, 0, 0, 0), (23, .isub, 0, 0, 0), (24, .imul, 0, 0, 0), (25, .sipush 800, 0, 0, 0), (28, .iadd, 0, 0, 0), (29, .iload_n 2, 0, 0, 0), (30, .iadd, 0, 0, 0), (31, .iload_n 2, 0, 0, 0), (32, .aload_n 0, 0, 0, 0), (33, .aload_n 0, 0, 0, 0), (34, .getfield 117, 11, 7, 0), (37, .iconst 1, 0, 0, 0), (38, .isub, 0, 0, 0), (39, .iload_n 1, 0, 0, 0), (40, .invokevirtual 405, 224, 0, 1103), (43, .iadd, 0, 0, 0), (44, .ifCond .lt 7, 0, 0, 0), (47, .iconst 0, 0, 0, 0), (48, .goto 6, 0, 0, 0), (51, .ldc_w 408, 0, 0, 1000000), (54, .iastore, 0, 0, 0), (55, .iinc 2 1, 0, 0, 0), (58, .goto (-54), 0, 0, 0), (61, .aload_n 0, 0, 0, 0), (62, .getfield 117, 11, 7, 0), (65, .iconst 2, 0, 0, 0), (66, .isub, 0, 0, 0), (67, .istore_n 2, 0, 0, 0), (68, .iload_n 2, 0, 0, 0), (69, .ifCond .lt 95, 0, 0, 0), (72, .ldc_w 408, 0, 0, 1000000), (75, .istore_n 3, 0, 0, 0), (76, .sipush (-800), 0, 0, 0), (79, .istore 4, 0, 0, 0), (81, .sipush (-800), 0, 0, 0), (84, .istore 5, 0, 0, 0), (86, .iload 5, 0, 0, 0), (88, .sipush 800, 0, 0, 0), (91, .if_icmp .gt 67, 0, 0, 0), (94, .iload 4, 0, 0, 0), (96, .sipush 800, 0, 0, 0), (99, .if_icmp .gt 35, 0, 0, 0), (102, .iload 4, 0, 0, 0), (104, .iload 5, 0, 0, 0), (106, .aload_n 0, 0, 0, 0), (107, .iload_n 2, 0, 0, 0), (108, .iload_n 1, 0, 0, 0), (109, .invokevirtual 405, 224, 0, 1103), (112, .iadd, 0, 0, 0), (113, .if_icmp .gt 21, 0, 0, 0), (116, .iload_n 3, 0, 0, 0), (117, .aload_n 0, 0, 0, 0), (118, .iload_n 2, 0, 0, 0), (119, .iload 4, 0, 0, 0), (121, .invokevirtual 409, 226, 0, 1103), (124, .invokestatic 133, 0, 11, 0), (127, .istore_n 3, 0, 0, 0), (128, .iinc 4 1, 0, 0, 0), (131, .goto (-37), 0, 0, 0), (134, .aload_n 0, 0, 0, 0), (135, .getfield 76, 11, 41, 2), (138, .sipush 1601, 0, 0, 0), (141, .iload_n 2, 0, 0, 0), (142, .imul, 0, 0, 0), (143, .sipush 800, 0, 0, 0), (146, .iadd, 0, 0, 0), (147, .iload 5, 0, 0, 0), (149, .iadd, 0, 0, 0), (150, .iload_n 3, 0, 0, 0), (151, .iastore, 0, 0, 0), (152, .iinc 5 1, 0, 0, 0), (155, .goto (-69), 0, 0, 0), (158, .iinc 2 (-1), 0, 0, 0), (161, .goto (-93), 0, 0, 0), (164, .return_, 0, 0, 0)]
def acX11_flow : AC := [(0, .iload_n 2, 0, 0, 0), (1, .invokestatic 370, 0, 12, 0), (4, .aload_n 0, 0, 0, 0), (5, .getfield 76, 11, 41, 2), (8, .sipush 1601, 0, 0, 0), (11, .iload_n 1, 0, 0, 0), (12, .iconst 1, 0, 0, 0), (13, .iadd, 0, 0, 0), (14, .imul, 0, 0, 0), (15, .sipush 800, 0, 0, 0), (18, .iadd, 0, 0, 0), (19, .iload_n 2, 0, 0, 0), (20, .iadd, 0, 0, 0), (21, .iaload, 0, 0, 0), (22, .iadd, 0, 0, 0), (23, .ireturn, 0, 0, 0)]
def acX11_shares : AC := [(0, .aload_n 0, 0, 0, 0), (1, .iconst 0, 0, 0, 0), (2, .putfield 103, 11, 0, 0), (5, .iload_n 1, 0, 0, 0), (6, .i2l, 0, 0, 0), (7, .lconst 0, 0, 0, 0), (8, .ldc2_w 290, 0, 0, 99), (11, .invokestatic 120, 141, 1, 3), (14, .ifCond .eq 10, 0, 0, 0), (17, .aload_n 0, 0, 0, 0), (18, .getfield 117, 11, 7, 0), (21, .ifCond .ne 5, 0, 0, 0), (24, .iconst (-1), 0, 0, 0), (25, .ireturn, 0, 0, 0), (26, .iconst 0, 0, 0, 0), (27, .istore_n 2, 0, 0, 0), (28, .iconst 0, 0, 0, 0), (29, .istore_n 3, 0, 0, 0), (30, .iload_n 3, 0, 0, 0), (31, .aload_n 0, 0, 0, 0), (32, .getfield 117, 11, 7, 0), (35, .if_icmp .ge 18, 0, 0, 0), (38, .iload_n 2, 0, 0, 0), (39, .aload_n 0, 0, 0, 0), (40, .iload_n 3, 0, 0, 0), (41, .iload_n 1, 0, 0, 0), (42, .invokevirtual 405, 224, 0, 1103), (45, .iadd, 0, 0, 0), (46, .istore_n 2, 0, 0, 0), (47, .iinc 3 1, 0, 0, 0), (50, .goto (-20), 0, 0, 0), (53, .iload_n 2, 0, 0, 0), (54, .ifCond .ge 6, 0, 0, 0), (57, .bipush (-2), 0, 0, 0), (59, .ireturn, 0, 0, 0), (60, .aload_n 0, 0, 0, 0), (61, .iload_n 1, 0, 0, 0), (62, .invokevirtual 412, 225, 0, 1102), (65, .aload_n 0, 0, 0, 0), (66, .iconst 0, 0, 0, 0), (67, .putfield 110, 11, 1, 0), (70, .iconst 0, 0, 0, 0), (71, .istore_n 3, 0, 0, 0), (72, .iconst 0, 0, 0, 0), (73, .istore 4, 0, 0, 0), (75, .iload 4, 0, 0, 0), (77, .aload_n 0, 0, 0, 0), (78, .getfield 117, 11, 7, 0), (81, .iconst 1, 0, 0, 0), (82, .isub, 0, 0, 0), (83, .if_icmp .ge 58, 0, 0, 0), (86, .sipush (-800), 0, 0, 0), (89, .istore 5, 0, 0, 0), (91, .aload_n 0, 0, 0, 0), (92, .iload 4, 0, 0, 0), (94, .iload 5, 0, 0, 0), (96, .invokevirtual 409, 226, 0, 1103), (99, .aload_n 0, 0, 0, 0), (100, .getfield 76, 11, 41, 2), (103, .sipush 1601, 0, 0, 0), (106, .iload 4, 0, 0, 0), (108, .imul, 0, 0, 0), (109, .sipush 800, 0, 0, 0), (112, .iadd, 0, 0, 0), (113, .iload_n 3, 0, 0, 0), (114, .iadd, 0, 0, 0), (115, .iaload, 0, 0, 0), (116, .if_icmp .eq 9, 0, 0, 0), (119, .iinc 5 1, 0, 0, 0), (122, .goto (-31), 0, 0, 0), (125, .aload_n 0, 0, 0, 0), (126, .iload 5, 0, 0, 0), (128, .i2l, 0, 0, 0), (129, .invokevirtual 113, 145, 0, 1102), (132, .iload 5, 0, 0, 0), (134, .istore_n 3, 0, 0, 0), (135, .iinc 4 1, 0, 0, 0), (138, .goto (-63), 0, 0, 0), (141, .aload_n 0, 0, 0, 0), (142, .getfield 76, 11, 41, 2), (145, .sipush 800, 0, 0, 0), (148, .iaload, 0, 0, 0), (149, .ireturn, 0, 0, 0)]
def acX11_fast : AC := [(0, .aload_n 0, 0, 0, 0), (1, .iconst 0, 0, 0, 0), (2, .putfield 103, 11, 0, 0), (5, .iload_n 1, 0, 0, 0), (6, .i2l, 0, 0, 0), (7, .lconst 0, 0, 0, 0), (8, .ldc2_w 290, 0, 0, 99), (11, .invokestatic 120, 141, 1, 3), (14, .ifCond .eq 10, 0, 0, 0), (17, .aload_n 0, 0, 0, 0), (18, .getfield 117, 11, 7, 0), (21, .ifCond .ne 5, 0, 0, 0), (24, .iconst (-1), 0, 0, 0), (25, .ireturn, 0, 0, 0), (26, .iconst 0, 0, 0, 0), (27, .istore_n 2, 0, 0, 0), (28, .iconst 0, 0, 0, 0), (29, .istore_n 3, 0, 0, 0), (30, .iload_n 3, 0, 0, 0), (31, .aload_n 0, 0, 0, 0), (32, .getfield 117, 11, 7, 0), (35, .if_icmp .ge 21, 0, 0, 0), (38, .iload_n 2, 0, 0, 0), (39, .aload_n 0, 0, 0, 0), (40, .getfield 34, 11, 14, 2), (43, .bipush 41, 0, 0, 0), (45, .iload_n 3, 0, 0, 0), (46, .iadd, 0, 0, 0), (47, .iaload, 0, 0, 0), (48, .iadd, 0, 0, 0), (49, .istore_n 2, 0, 0, 0), (50, .iinc 3 1, 0, 0, 0), (53, .goto (-23), 0, 0, 0), (56, .iconst (-1), 0, 0, 0), (57, .istore_n 3, 0, 0, 0), (58, .iconst 0, 0, 0, 0), (59, .istore 4, 0, 0, 0), (61, .iconst 0, 0, 0, 0), (62, .istore 5, 0, 0, 0), (64, .iload 5, 0, 0, 0), (66, .iconst 1, 0, 0, 0), (67, .aload_n 0, 0, 0, 0), (68, .getfield 117, 11, 7, 0), (71, .ishl, 0, 0, 0), (72, .if_icmp .ge 117, 0, 0, 0), (75, .iload_n 2, 0, 0, 0), (76, .istore 6, 0, 0, 0), (78, .iconst 0, 0, 0, 0), (79, .istore 7, 0, 0, 0), (81, .iload 7, 0, 0, 0), (83, .aload_n 0, 0, 0, 0), (84, .getfield 117, 11, 7, 0), (87, .if_icmp .ge 37, 0, 0, 0), (90, .iload 6, 0, 0, 0), (92, .iload 5, 0, 0, 0), (94, .iload 7, 0, 0, 0), (96, .invokestatic 330, 142, 1, 2), (99, .ifCond .eq 7, 0, 0, 0), (102, .iconst 0, 0, 0, 0), (103, .goto 12, 0, 0, 0), (106, .iload_n 1, 0, 0, 0), (107, .aload_n 0, 0, 0, 0), (108, .getfield 31, 11, 13, 2), (111, .iload 7, 0, 0, 0), (113, .iaload, 0, 0, 0), (114, .imul, 0, 0, 0), (115, .isub, 0, 0, 0), (116, .istore 6, 0, 0, 0), (118, .iinc 7 1, 0, 0, 0), (121, .goto (-40), 0, 0, 0), (124, .iload_n 3, 0, 0, 0), (125, .ifCond .lt 15, 0, 0, 0), (128, .iload 5, 0, 0, 0), (130, .invokestatic 360, 252, 1, 1), (133, .iload_n 3, 0, 0, 0), (134, .invokestatic 360, 252, 1, 1), (137, .if_icmp .ge 7, 0, 0, 0), (140, .iconst 1, 0, 0, 0), (141, .goto 4, 0, 0, 0), (144, .iconst 0, 0, 0, 0), (145, .istore 7, 0, 0, 0), (147, .iload 6, 0, 0, 0), (149, .ifCond .lt 13, 0, 0, 0), (152, .iload 7, 0, 0, 0), (154, .ifCond .eq 8, 0, 0, 0), (157, .iload 6, 0, 0, 0), (159, .goto 5, 0, 0, 0), (162, .iload 4, 0, 0, 0), (164, .istore 4, 0, 0, 0), (166, .iload 6, 0, 0, 0), (168, .ifCond .lt 13, 0, 0, 0), (171, .iload 7, 0, 0, 0), (173, .ifCond .eq 8, 0, 0, 0), (176, .iload 5, 0, 0, 0), (178, .goto 4, 0, 0, 0), (181, .iload_n 3, 0, 0, 0), (182, .istore_n 3, 0, 0, 0), (183, .iinc 5 1, 0, 0, 0), (186, .goto (-122), 0, 0, 0), (189, .aload_n 0, 0, 0, 0), (190, .iconst 0, 0, 0, 0), (191, .putfield 110, 11, 1, 0), (194, .aload_n 0, 0, 0, 0), (195, .iload_n 3, 0, 0, 0), (196, .invokestatic 360, 252, 1, 1), (199, .i2l, 0, 0, 0), (200, .invokevirtual 113, 145, 0, 1102), (203, .aload_n 0, 0, 0, 0), (204, .iload 4, 0, 0, 0), (206, .i2l, 0, 0, 0), (207, .invokevirtual 113, 145, 0, 1102), (210, .iload_n 3, 0, 0, 0), (211, .ireturn, 0, 0, 0)]
def acX11_seenIn : AC := [(0, .iconst (-1), 0, 0, 0), (1, .istore_n 2, 0, 0, 0), (2, .iconst 0, 0, 0, 0), (3, .istore_n 3, 0, 0, 0), (4, .iload_n 3, 0, 0, 0), (5, .aload_n 0, 0, 0, 0), (6, .getfield 415, 11, 42, 0), (9, .if_icmp .ge 30, 0, 0, 0), (12, .aload_n 0, 0, 0, 0), (13, .getfield 79, 11, 43, 2), (16, .iload_n 3, 0, 0, 0), (17, .iaload, 0, 0, 0), (18, .iload_n 1, 0, 0, 0), (19, .if_icmp .ne 12, 0, 0, 0), (22, .aload_n 0, 0, 0, 0), (23, .getfield 82, 11, 44, 2), (26, .iload_n 3, 0, 0, 0), (27, .iaload, 0, 0, 0), (28, .goto 4, 0, 0, 0), (31, .iload_n 2, 0, 0, 0), (32, .istore_n 2, 0, 0, 0), (33, .iinc 3 1, 0, 0, 0), (36, .goto (-32), 0, 0, 0), (39, .iload_n 2, 0, 0, 0), (40, .ireturn, 0, 0, 0)]
def acX11_seen : AC := [(0, .aload_n 0, 0, 0, 0), (1, .iconst 0, 0, 0, 0), (2, .putfield 103, 11, 0, 0), (5, .iload_n 1, 0, 0, 0), (6, .i2l, 0, 0, 0), (7, .lconst 0, 0, 0, 0), (8, .ldc2_w 418, 0, 0, 24), (11, .invokestatic 120, 141, 1, 3), (14, .ifCond .eq 15, 0, 0, 0), (17, .iload_n 2, 0, 0, 0), (18, .i2l, 0, 0, 0), (19, .lconst 0, 0, 0, 0), (20, .ldc2_w 420, 0, 0, 8), (23, .invokestatic 120, 141, 1, 3), (26, .ifCond .ne 5, 0, 0, 0), (29, .iconst (-1), 0, 0, 0), (30, .ireturn, 0, 0, 0), (31, .aload_n 0, 0, 0, 0), (32, .iload_n 1, 0, 0, 0), (33, .invokevirtual 422, 229, 0, 1102), (36, .istore_n 3, 0, 0, 0), (37, .iload_n 3, 0, 0, 0), (38, .ifCond .lt 18, 0, 0, 0), (41, .iload_n 3, 0, 0, 0), (42, .iload_n 2, 0, 0, 0), (43, .if_icmp .ne 10, 0, 0, 0), (46, .aload_n 0, 0, 0, 0), (47, .getfield 415, 11, 42, 0), (50, .goto 5, 0, 0, 0), (53, .bipush (-2), 0, 0, 0), (55, .ireturn, 0, 0, 0), (56, .aload_n 0, 0, 0, 0), (57, .getfield 415, 11, 42, 0), (60, .bipush 12, 0, 0, 0), (62, .if_icmp .ne 5, 0, 0, 0), (65, .iconst (-1), 0, 0, 0), (66, .ireturn, 0, 0, 0), (67, .aload_n 0, 0, 0, 0), (68, .getfield 79, 11, 43, 2), (71, .aload_n 0, 0, 0, 0), (72, .getfield 415, 11, 42, 0), (75, .iload_n 1, 0, 0, 0), (76, .iastore, 0, 0, 0), (77, .aload_n 0, 0, 0, 0), (78, .getfield 82, 11, 44, 2), (81, .aload_n 0, 0, 0, 0), (82, .getfield 415, 11, 42, 0), (85, .iload_n 2, 0, 0, 0), (86, .iastore, 0, 0, 0), (87, .aload_n 0, 0, 0, 0), (88, .dup, 0, 0, 0), (89, .getfield 415, 11, 42, 0), (92, .iconst 1, 0, 0, 0), (93, .iadd, 0, 0, 0), (94, .putfield 415, 11, 42, 0), (97, .aload_n 0, 0, 0, 0), (98, .getfield 415, 11, 42, 0), (101, .ireturn, 0, 0, 0)]
def acX11_forget : AC := [(0, .aload_n 0, 0, 0, 0), (1, .iconst 0, 0, 0, 0), (2, .putfield 103, 11, 0, 0), (5, .aload_n 0, 0, 0, 0), (6, .getfield 415, 11, 42, 0), (9, .istore_n 1, 0, 0, 0), (10, .aload_n 0, 0, 0, 0), (11, .iconst 0, 0, 0, 0), (12, .putfield 415, 11, 42, 0), (15, .iload_n 1, 0, 0, 0), (16, .ireturn, 0, 0, 0)]
def acX11_lastSeen : AC := [(0, .iconst (-1), 0, 0, 0), (1, .istore_n 1, 0, 0, 0), (2, .iconst 0, 0, 0, 0), (3, .istore_n 2, 0, 0, 0), (4, .iload_n 2, 0, 0, 0), (5, .aload_n 0, 0, 0, 0), (6, .getfield 415, 11, 42, 0), (9, .if_icmp .ge 20, 0, 0, 0), (12, .iload_n 1, 0, 0, 0), (13, .aload_n 0, 0, 0, 0), (14, .getfield 79, 11, 43, 2), (17, .iload_n 2, 0, 0, 0), (18, .iaload, 0, 0, 0), (19, .invokestatic 243, 0, 10, 0), (22, .istore_n 1, 0, 0, 0), (23, .iinc 2 1, 0, 0, 0), (26, .goto (-22), 0, 0, 0), (29, .iload_n 1, 0, 0, 0), (30, .ireturn, 0, 0, 0)]
def acX11_isFine : AC := [(0, .aload_n 0, 0, 0, 0), (1, .iload_n 1, 0, 0, 0), (2, .invokevirtual 422, 229, 0, 1102), (5, .ifCond .lt 12, 0, 0, 0), (8, .aload_n 0, 0, 0, 0), (9, .iload_n 1, 0, 0, 0), (10, .invokevirtual 422, 229, 0, 1102), (13, .iload_n 2, 0, 0, 0), (14, .if_icmp .ne 16, 0, 0, 0), (17, .iload_n 1, 0, 0, 0), (18, .ifCond .gt 8, 0, 0, 0), (21, .iload_n 2, 0, 0, 0), (22, .iconst 4, 0, 0, 0), (23, .if_icmp .ne 7, 0, 0, 0), (26, .iconst 1, 0, 0, 0), (27, .goto 4, 0, 0, 0), (30, .iconst 0, 0, 0, 0), (31, .ireturn, 0, 0, 0)]
def acX11_laysSeen : AC := [(0, .iload_n 1, 0, 0, 0), (1, .istore_n 2, 0, 0, 0), (2, .iload_n 2, 0, 0, 0), (3, .ifCond .lt 222, 0, 0, 0), (6, .iconst 0, 0, 0, 0), (7, .istore_n 3, 0, 0, 0), (8, .iload_n 3, 0, 0, 0), (9, .bipush 9, 0, 0, 0), (11, .if_icmp .ge 208, 0, 0, 0), (14, .bipush 9, 0, 0, 0), (16, .iload_n 2, 0, 0, 0), (17, .imul, 0, 0, 0), (18, .iload_n 3, 0, 0, 0), (19, .iadd, 0, 0, 0), (20, .istore 4, 0, 0, 0), (22, .aload_n 0, 0, 0, 0), (23, .getfield 85, 11, 45, 2), (26, .iload 4, 0, 0, 0), (28, .iload_n 2, 0, 0, 0), (29, .iload_n 1, 0, 0, 0), (30, .if_icmp .ne 7, 0, 0, 0), (33, .iconst 1, 0, 0, 0), (34, .goto 4, 0, 0, 0), (37, .iconst 0, 0, 0, 0), (38, .iastore, 0, 0, 0), (39, .aload_n 0, 0, 0, 0), (40, .getfield 88, 11, 46, 2), (43, .iload 4, 0, 0, 0), (45, .iload_n 2, 0, 0, 0), (46, .iload_n 1, 0, 0, 0), (47, .if_icmp .ne 7, 0, 0, 0), (50, .iconst 1, 0, 0, 0), (51, .goto 4, 0, 0, 0), (54, .iconst 0, 0, 0, 0), (55, .bastore, 0, 0, 0), (56, .iconst (-1), 0, 0, 0), (57, .istore 5, 0, 0, 0), (59, .iload 5, 0, 0, 0), (61, .iconst 1, 0, 0, 0), (62, .if_icmp .gt 87, 0, 0, 0), (65, .iload_n 2, 0, 0, 0), (66, .iload_n 1, 0, 0, 0), (67, .if_icmp .ge 82, 0, 0, 0), (70, .aload_n 0, 0, 0, 0), (71, .getfield 85, 11, 45, 2), (74, .iload 4, 0, 0, 0), (76, .dup2, 0, 0, 0), (77, .iaload, 0, 0, 0), (78, .aload_n 0, 0, 0, 0), (79, .getfield 85, 11, 45, 2), (82, .bipush 9, 0, 0, 0), (84, .iload_n 2, 0, 0, 0), (85, .iconst 1, 0, 0, 0), (86, .iadd, 0, 0, 0), (87, .imul, 0, 0, 0), (88, .iload_n 3, 0, 0, 0), (89, .iload 5, 0, 0, 0), (91, .iadd, 0, 0, 0), (92, .invokestatic 266, 181, 1, 1), (95, .iadd, 0, 0, 0), (96, .iaload, 0, 0, 0), (97, .iadd, 0, 0, 0), (98, .iastore, 0, 0, 0), (99, .aload_n 0, 0, 0, 0), (100, .getfield 88, 11, 46, 2), (103, .iload 4, 0, 0, 0), (105, .aload_n 0, 0, 0, 0), (106, .getfield 88, 11, 46, 2), (109, .iload 4, 0, 0, 0), (111, .baload, 0, 0, 0), (112, .ifCond .ne 25, 0, 0, 0), (115, .aload_n 0, 0, 0, 0), (116, .getfield 88, 11, 46, 2), (119, .bipush 9, 0, 0, 0), (121, .iload_n 2, 0, 0, 0), (122, .iconst 1, 0, 0, 0), (123, .iadd, 0, 0, 0), (124, .imul, 0, 0, 0), (125, .iload_n 3, 0, 0, 0), (126, .iload 5, 0, 0, 0), (128, .iadd, 0, 0, 0), (129, .invokestatic 266, 181, 1, 1), (132, .iadd, 0, 0, 0), (133, .baload, 0, 0, 0), (134, .ifCond .eq 7, 0, 0, 0), (137, .iconst 1, 0, 0, 0), (138, .goto 4, 0, 0, 0), (141, .iconst 0, 0, 0, 0), (142, .bastore, 0, 0, 0), (143, .iinc 5 1, 0, 0, 0), (146, .goto (-87), 0, 0, 0), (149, .aload_n 0, 0, 0, 0), (150, .getfield 85, 11, 45, 2), (153, .iload 4, 0, 0, 0), (155, .aload_n 0, 0, 0, 0), (156, .iload_n 2, 0, 0, 0), (157, .iload_n 3, 0, 0, 0), (158, .invokevirtual 425, 233, 0, 1103), (161, .ifCond .eq 19, 0, 0, 0), (164, .ldc_w 408, 0, 0, 1000000), (167, .aload_n 0, 0, 0, 0), (168, .getfield 85, 11, 45, 2), (171, .iload 4, 0, 0, 0), (173, .iaload, 0, 0, 0), (174, .invokestatic 133, 0, 11, 0), (177, .goto 4, 0, 0, 0), (180, .iconst 0, 0, 0, 0), (181, .iastore, 0, 0, 0), (182, .aload_n 0, 0, 0, 0), (183, .getfield 88, 11, 46, 2), (186, .iload 4, 0, 0, 0), (188, .aload_n 0, 0, 0, 0), (189, .getfield 88, 11, 46, 2), (192, .iload 4, 0, 0, 0), (194, .baload, 0, 0, 0), (195, .ifCond .eq 16, 0, 0, 0), (198, .aload_n 0, 0, 0, 0), (199, .iload_n 2, 0, 0, 0), (200, .iload_n 3, 0, 0, 0), (201, .invokevirtual 425, 233, 0, 1103), (204, .ifCond .eq 7, 0, 0, 0), (207, .iconst 1, 0, 0, 0), (208, .goto 4, 0, 0, 0), (211, .iconst 0, 0, 0, 0), (212, .bastore, 0, 0, 0), (213, .iinc 3 1, 0, 0, 0), (216, .goto (-208), 0, 0, 0), (219, .iinc 2 (-1), 0, 0, 0), (222, .goto (-220), 0, 0, 0), (225, .return_, 0, 0, 0)]
def acX11_ordered : AC := [(0, .aload_n 0, 0, 0, 0), (1, .iconst 0, 0, 0, 0), (2, .putfield 103, 11, 0, 0), (5, .aload_n 0, 0, 0, 0), (6, .invokevirtual 428, 232, 0, 1101), (9, .istore_n 1, 0, 0, 0), (10, .iload_n 1, 0, 0, 0), (11, .ifCond .ge 5, 0, 0, 0), (14, .iconst (-1), 0, 0, 0), (15, .ireturn, 0, 0, 0), (16, .aload_n 0, 0, 0, 0), (17, .iload_n 1, 0, 0, 0), (18, .invokevirtual 431, 234, 0, 1102), (21, .aload_n 0, 0, 0, 0), (22, .iconst 0, 0, 0, 0), (23, .putfield 110, 11, 1, 0), (26, .iconst 4, 0, 0, 0), (27, .istore_n 2, 0, 0, 0), (28, .iconst 1, 0, 0, 0), (29, .istore_n 3, 0, 0, 0), (30, .iload_n 3, 0, 0, 0), (31, .iload_n 1, 0, 0, 0), (32, .if_icmp .gt 62, 0, 0, 0), (35, .aload_n 0, 0, 0, 0), (36, .getfield 88, 11, 46, 2), (39, .iconst 4, 0, 0, 0), (40, .baload, 0, 0, 0), (41, .ifCond .eq 53, 0, 0, 0), (44, .iconst (-1), 0, 0, 0), (45, .istore 4, 0, 0, 0), (47, .aload_n 0, 0, 0, 0), (48, .getfield 88, 11, 46, 2), (51, .bipush 9, 0, 0, 0), (53, .iload_n 3, 0, 0, 0), (54, .imul, 0, 0, 0), (55, .iload_n 2, 0, 0, 0), (56, .iload 4, 0, 0, 0), (58, .iadd, 0, 0, 0), (59, .invokestatic 266, 181, 1, 1), (62, .iadd, 0, 0, 0), (63, .baload, 0, 0, 0), (64, .ifCond .ne 9, 0, 0, 0), (67, .iinc 4 1, 0, 0, 0), (70, .goto (-23), 0, 0, 0), (73, .aload_n 0, 0, 0, 0), (74, .iload 4, 0, 0, 0), (76, .i2l, 0, 0, 0), (77, .invokevirtual 113, 145, 0, 1102), (80, .iload_n 2, 0, 0, 0), (81, .iload 4, 0, 0, 0), (83, .iadd, 0, 0, 0), (84, .invokestatic 266, 181, 1, 1), (87, .istore_n 2, 0, 0, 0), (88, .iinc 3 1, 0, 0, 0), (91, .goto (-61), 0, 0, 0), (94, .aload_n 0, 0, 0, 0), (95, .getfield 85, 11, 45, 2), (98, .iconst 4, 0, 0, 0), (99, .iaload, 0, 0, 0), (100, .ireturn, 0, 0, 0)]
def acX11_unsure : AC := [(0, .aload_n 0, 0, 0, 0), (1, .iconst 0, 0, 0, 0), (2, .putfield 103, 11, 0, 0), (5, .aload_n 0, 0, 0, 0), (6, .invokevirtual 428, 232, 0, 1101), (9, .istore_n 1, 0, 0, 0), (10, .iload_n 1, 0, 0, 0), (11, .ifCond .ge 6, 0, 0, 0), (14, .bipush (-2), 0, 0, 0), (16, .ireturn, 0, 0, 0), (17, .aload_n 0, 0, 0, 0), (18, .iload_n 1, 0, 0, 0), (19, .invokevirtual 431, 234, 0, 1102), (22, .bipush (-2), 0, 0, 0), (24, .istore_n 2, 0, 0, 0), (25, .iconst 0, 0, 0, 0), (26, .istore_n 3, 0, 0, 0), (27, .iconst 0, 0, 0, 0), (28, .istore 4, 0, 0, 0), (30, .iload 4, 0, 0, 0), (32, .iload_n 1, 0, 0, 0), (33, .if_icmp .gt 223, 0, 0, 0), (36, .aload_n 0, 0, 0, 0), (37, .getfield 88, 11, 46, 2), (40, .iconst 4, 0, 0, 0), (41, .baload, 0, 0, 0), (42, .ifCond .eq 214, 0, 0, 0), (45, .iconst 0, 0, 0, 0), (46, .istore 5, 0, 0, 0), (48, .iconst 0, 0, 0, 0), (49, .istore 6, 0, 0, 0), (51, .iload 6, 0, 0, 0), (53, .bipush 9, 0, 0, 0), (55, .if_icmp .ge 177, 0, 0, 0), (58, .iload 4, 0, 0, 0), (60, .ifCond .ne 13, 0, 0, 0), (63, .iload 6, 0, 0, 0), (65, .iconst 4, 0, 0, 0), (66, .if_icmp .ne 7, 0, 0, 0), (69, .iconst 1, 0, 0, 0), (70, .goto 4, 0, 0, 0), (73, .iconst 0, 0, 0, 0), (74, .istore 7, 0, 0, 0), (76, .iconst 0, 0, 0, 0), (77, .istore 8, 0, 0, 0), (79, .iload 8, 0, 0, 0), (81, .bipush 9, 0, 0, 0), (83, .if_icmp .ge 75, 0, 0, 0), (86, .iload 4, 0, 0, 0), (88, .ifCond .le 70, 0, 0, 0), (91, .iload 7, 0, 0, 0), (93, .ifCond .ne 52, 0, 0, 0), (96, .aload_n 0, 0, 0, 0), (97, .getfield 91, 11, 47, 2), (100, .bipush 9, 0, 0, 0), (102, .iload 4, 0, 0, 0), (104, .iconst 1, 0, 0, 0), (105, .isub, 0, 0, 0), (106, .imul, 0, 0, 0), (107, .iload 8, 0, 0, 0), (109, .iadd, 0, 0, 0), (110, .baload, 0, 0, 0), (111, .ifCond .eq 38, 0, 0, 0), (114, .iload 8, 0, 0, 0), (116, .iconst 1, 0, 0, 0), (117, .isub, 0, 0, 0), (118, .invokestatic 266, 181, 1, 1), (121, .iload 6, 0, 0, 0), (123, .if_icmp .eq 22, 0, 0, 0), (126, .iload 8, 0, 0, 0), (128, .iload 6, 0, 0, 0), (130, .if_icmp .eq 15, 0, 0, 0), (133, .iload 8, 0, 0, 0), (135, .iconst 1, 0, 0, 0), (136, .iadd, 0, 0, 0), (137, .invokestatic 266, 181, 1, 1), (140, .iload 6, 0, 0, 0), (142, .if_icmp .ne 7, 0, 0, 0), (145, .iconst 1, 0, 0, 0), (146, .goto 4, 0, 0, 0), (149, .iconst 0, 0, 0, 0), (150, .istore 7, 0, 0, 0), (152, .iinc 8 1, 0, 0, 0), (155, .goto (-76), 0, 0, 0), (158, .aload_n 0, 0, 0, 0), (159, .getfield 91, 11, 47, 2), (162, .bipush 9, 0, 0, 0), (164, .iload 4, 0, 0, 0), (166, .imul, 0, 0, 0), (167, .iload 6, 0, 0, 0), (169, .iadd, 0, 0, 0), (170, .iload 7, 0, 0, 0), (172, .ifCond .eq 23, 0, 0, 0), (175, .aload_n 0, 0, 0, 0), (176, .getfield 88, 11, 46, 2), (179, .bipush 9, 0, 0, 0), (181, .iload 4, 0, 0, 0), (183, .imul, 0, 0, 0), (184, .iload 6, 0, 0, 0), (186, .iadd, 0, 0, 0), (187, .baload, 0, 0, 0), (188, .ifCond .eq 7, 0, 0, 0), (191, .iconst 1, 0, 0, 0), (192, .goto 4, 0, 0, 0), (195, .iconst 0, 0, 0, 0), (196, .bastore, 0, 0, 0), (197, .iload 5, 0, 0, 0), (199, .aload_n 0, 0, 0, 0), (200, .getfield 91, 11, 47, 2), (203, .bipush 9, 0, 0, 0), (205, .iload 4, 0, 0, 0), (207, .imul, 0, 0, 0), (208, .iload 6, 0, 0, 0), (210, .iadd, 0, 0, 0), (211, .baload, 0, 0, 0), (212, .ifCond .eq 10, 0, 0, 0), (215, .iconst 1, 0, 0, 0), (216, .iload 6, 0, 0, 0), (218, .ishl, 0, 0, 0), (219, .goto 4, 0, 0, 0), (222, .iconst 0, 0, 0, 0), (223, .ior, 0, 0, 0), (224, .istore 5, 0, 0, 0), (226, .iinc 6 1, 0, 0, 0), (229, .goto (-178), 0, 0, 0), (232, .iload 5, 0, 0, 0), (234, .invokestatic 360, 252, 1, 1), (237, .iload_n 3, 0, 0, 0), (238, .invokestatic 360, 252, 1, 1), (241, .if_icmp .le 9, 0, 0, 0), (244, .iload 4, 0, 0, 0), (246, .istore_n 2, 0, 0, 0), (247, .iload 5, 0, 0, 0), (249, .istore_n 3, 0, 0, 0), (250, .iinc 4 1, 0, 0, 0), (253, .goto (-223), 0, 0, 0), (256, .iload_n 2, 0, 0, 0), (257, .ifCond .ge 6, 0, 0, 0), (260, .bipush (-2), 0, 0, 0), (262, .ireturn, 0, 0, 0), (263, .aload_n 0, 0, 0, 0), (264, .iconst 0, 0, 0, 0), (265, .putfield 110, 11, 1, 0), (268, .aload_n 0, 0, 0, 0), (269, .iload_n 3, 0, 0, 0), (270, .i2l, 0, 0, 0), (271, .invokevirtual 113, 145, 0, 1102), (274, .iload_n 2, 0, 0, 0), (275, .ireturn, 0, 0, 0)]
def acX11_boyBegins : AC := [(0, .aload_n 0, 0, 0, 0), (1, .iload_n 1, 0, 0, 0), (2, .putfield 434, 11, 48, 0), (5, .aload_n 0, 0, 0, 0), (6, .iload_n 2, 0, 0, 0), (7, .putfield 437, 11, 49, 0), (10, .return_, 0, 0, 0)]
def acX11_boyGoes : AC := [(0, .aload_n 0, 0, 0, 0), (1, .dup, 0, 0, 0), (2, .getfield 434, 11, 48, 0), (5, .aload_n 0, 0, 0, 0), (6, .getfield 437, 11, 49, 0), (9, .iadd, 0, 0, 0), (10, .putfield 434, 11, 48, 0), (13, .aload_n 0, 0, 0, 0), (14, .aload_n 0, 0, 0, 0), (15, .getfield 434, 11, 48, 0), (18, .aload_n 0, 0, 0, 0), (19, .getfield 13, 11, 3, 0), (22, .iconst 1, 0, 0, 0), (23, .isub, 0, 0, 0), (24, .if_icmp .ne 7, 0, 0, 0), (27, .iconst (-1), 0, 0, 0), (28, .goto 18, 0, 0, 0), (31, .aload_n 0, 0, 0, 0), (32, .getfield 434, 11, 48, 0), (35, .ifCond .ne 7, 0, 0, 0), (38, .iconst 1, 0, 0, 0), (39, .goto 7, 0, 0, 0), (42, .aload_n 0, 0, 0, 0), (43, .getfield 437, 11, 49, 0), (46, .putfield 437, 11, 49, 0), (49, .return_, 0, 0, 0)]
def acX11_canRest : AC := [(0, .iload_n 0, 0, 0, 0), (1, .i2l, 0, 0, 0), (2, .ldc2_w 255, 0, 0, 2), (5, .ldc2_w 440, 0, 0, 9), (8, .invokestatic 120, 141, 1, 3), (11, .ireturn, 0, 0, 0)]
def acX11_boy : AC := [(0, .aload_n 0, 0, 0, 0), (1, .iconst 0, 0, 0, 0), (2, .putfield 103, 11, 0, 0), (5, .iload_n 1, 0, 0, 0), (6, .i2l, 0, 0, 0), (7, .lconst 0, 0, 0, 0), (8, .ldc2_w 442, 0, 0, 99999), (11, .invokestatic 120, 141, 1, 3), (14, .ifCond .eq 10, 0, 0, 0), (17, .iload_n 2, 0, 0, 0), (18, .invokestatic 444, 239, 1, 1), (21, .ifCond .ne 5, 0, 0, 0), (24, .iconst (-1), 0, 0, 0), (25, .ireturn, 0, 0, 0), (26, .aload_n 0, 0, 0, 0), (27, .iconst 0, 0, 0, 0), (28, .iconst 1, 0, 0, 0), (29, .invokevirtual 447, 237, 0, 1103), (32, .iconst 1, 0, 0, 0), (33, .istore_n 3, 0, 0, 0), (34, .iload_n 3, 0, 0, 0), (35, .iload_n 1, 0, 0, 0), (36, .if_icmp .gt 19, 0, 0, 0), (39, .iload_n 3, 0, 0, 0), (40, .iload_n 2, 0, 0, 0), (41, .irem, 0, 0, 0), (42, .ifCond .eq 7, 0, 0, 0), (45, .aload_n 0, 0, 0, 0), (46, .invokevirtual 450, 238, 0, 1101), (49, .iinc 3 1, 0, 0, 0), (52, .goto (-18), 0, 0, 0), (55, .aload_n 0, 0, 0, 0), (56, .iconst 0, 0, 0, 0), (57, .putfield 110, 11, 1, 0), (60, .aload_n 0, 0, 0, 0), (61, .aload_n 0, 0, 0, 0), (62, .getfield 437, 11, 49, 0), (65, .i2l, 0, 0, 0), (66, .invokevirtual 113, 145, 0, 1102), (69, .aload_n 0, 0, 0, 0), (70, .getfield 434, 11, 48, 0), (73, .ireturn, 0, 0, 0)]
def acX11_meets : AC := [(0, .aload_n 0, 0, 0, 0), (1, .iconst 0, 0, 0, 0), (2, .putfield 103, 11, 0, 0), (5, .iload_n 1, 0, 0, 0), (6, .invokestatic 444, 239, 1, 1), (9, .ifCond .ne 5, 0, 0, 0), (12, .iconst (-1), 0, 0, 0), (13, .ireturn, 0, 0, 0), (14, .aload_n 0, 0, 0, 0), (15, .getfield 13, 11, 3, 0), (18, .iconst 1, 0, 0, 0), (19, .isub, 0, 0, 0), (20, .istore_n 2, 0, 0, 0), (21, .iconst (-1), 0, 0, 0), (22, .istore_n 3, 0, 0, 0), (23, .aload_n 0, 0, 0, 0), (24, .iconst 0, 0, 0, 0), (25, .iconst 1, 0, 0, 0), (26, .invokevirtual 447, 237, 0, 1103), (29, .iconst 1, 0, 0, 0), (30, .istore 4, 0, 0, 0), (32, .iload 4, 0, 0, 0), (34, .sipush 999, 0, 0, 0), (37, .if_icmp .gt 70, 0, 0, 0), (40, .iload 4, 0, 0, 0), (42, .iload_n 1, 0, 0, 0), (43, .irem, 0, 0, 0), (44, .ifCond .eq 7, 0, 0, 0), (47, .aload_n 0, 0, 0, 0), (48, .invokevirtual 450, 238, 0, 1101), (51, .iload_n 2, 0, 0, 0), (52, .iload_n 3, 0, 0, 0), (53, .iadd, 0, 0, 0), (54, .istore_n 2, 0, 0, 0), (55, .iload_n 2, 0, 0, 0), (56, .aload_n 0, 0, 0, 0), (57, .getfield 13, 11, 3, 0), (60, .iconst 1, 0, 0, 0), (61, .isub, 0, 0, 0), (62, .if_icmp .ne 7, 0, 0, 0), (65, .iconst (-1), 0, 0, 0), (66, .goto 12, 0, 0, 0), (69, .iload_n 2, 0, 0, 0), (70, .ifCond .ne 7, 0, 0, 0), (73, .iconst 1, 0, 0, 0), (74, .goto 4, 0, 0, 0), (77, .iload_n 3, 0, 0, 0), (78, .istore_n 3, 0, 0, 0), (79, .iload_n 2, 0, 0, 0), (80, .aload_n 0, 0, 0, 0), (81, .getfield 434, 11, 48, 0), (84, .if_icmp .ne 17, 0, 0, 0), (87, .aload_n 0, 0, 0, 0), (88, .iconst 0, 0, 0, 0), (89, .putfield 110, 11, 1, 0), (92, .aload_n 0, 0, 0, 0), (93, .iload_n 2, 0, 0, 0), (94, .i2l, 0, 0, 0), (95, .invokevirtual 113, 145, 0, 1102), (98, .iload 4, 0, 0, 0), (100, .ireturn, 0, 0, 0), (101, .iinc 4 1, 0, 0, 0), (104, .goto (-72), 0, 0, 0), (107, .bipush (-2), 0, 0, 0), (109, .ireturn, 0, 0, 0)]
def acX11_knows : AC := [(0, .aload_n 0, 0, 0, 0), (1, .iconst 0, 0, 0, 0), (2, .putfield 103, 11, 0, 0), (5, .iload_n 1, 0, 0, 0), (6, .i2l, 0, 0, 0), (7, .lconst 0, 0, 0, 0), (8, .ldc2_w 373, 0, 0, 12), (11, .invokestatic 120, 141, 1, 3), (14, .ifCond .eq 15, 0, 0, 0), (17, .iload_n 2, 0, 0, 0), (18, .i2l, 0, 0, 0), (19, .lconst 0, 0, 0, 0), (20, .ldc2_w 375, 0, 0, 10), (23, .invokestatic 120, 141, 1, 3), (26, .ifCond .ne 5, 0, 0, 0), (29, .iconst (-1), 0, 0, 0), (30, .ireturn, 0, 0, 0), (31, .iload_n 2, 0, 0, 0), (32, .i2l, 0, 0, 0), (33, .lstore_n 3, 0, 0, 0), (34, .ldc2_w 375, 0, 0, 10), (37, .lstore 5, 0, 0, 0), (39, .iconst 0, 0, 0, 0), (40, .istore 7, 0, 0, 0), (42, .iload 7, 0, 0, 0), (44, .iload_n 1, 0, 0, 0), (45, .if_icmp .ge 25, 0, 0, 0), (48, .lload_n 3, 0, 0, 0), (49, .bipush 10, 0, 0, 0), (51, .iload_n 2, 0, 0, 0), (52, .isub, 0, 0, 0), (53, .i2l, 0, 0, 0), (54, .lmul, 0, 0, 0), (55, .lstore_n 3, 0, 0, 0), (56, .lload 5, 0, 0, 0), (58, .ldc2_w 375, 0, 0, 10), (61, .lmul, 0, 0, 0), (62, .lstore 5, 0, 0, 0), (64, .iinc 7 1, 0, 0, 0), (67, .goto (-25), 0, 0, 0), (70, .aload_n 0, 0, 0, 0), (71, .lload_n 3, 0, 0, 0), (72, .lload 5, 0, 0, 0), (74, .invokevirtual 395, 146, 0, 1103), (77, .iconst 0, 0, 0, 0), (78, .ireturn, 0, 0, 0)]
def acX11_keeps : AC := [(0, .iload_n 1, 0, 0, 0), (1, .iload_n 2, 0, 0, 0), (2, .iadd, 0, 0, 0), (3, .iload_n 3, 0, 0, 0), (4, .if_icmp .lt 9, 0, 0, 0), (7, .iload_n 0, 0, 0, 0), (8, .iload_n 1, 0, 0, 0), (9, .isub, 0, 0, 0), (10, .goto 6, 0, 0, 0), (13, .iload_n 0, 0, 0, 0), (14, .iconst 2, 0, 0, 0), (15, .idiv, 0, 0, 0), (16, .ireturn, 0, 0, 0)]
def acX11_isRest : AC := [(0, .iconst 1, 0, 0, 0), (1, .istore 4, 0, 0, 0), (3, .iconst 0, 0, 0, 0), (4, .istore 5, 0, 0, 0), (6, .iload 5, 0, 0, 0), (8, .bipush 9, 0, 0, 0), (10, .iload_n 0, 0, 0, 0), (11, .invokestatic 133, 0, 11, 0), (14, .if_icmp .gt 39, 0, 0, 0), (17, .iload 4, 0, 0, 0), (19, .ifCond .eq 25, 0, 0, 0), (22, .iload_n 0, 0, 0, 0), (23, .iload 5, 0, 0, 0), (25, .iload_n 2, 0, 0, 0), (26, .iload_n 3, 0, 0, 0), (27, .invokestatic 453, 243, 1, 4), (30, .iload_n 0, 0, 0, 0), (31, .iload_n 1, 0, 0, 0), (32, .iload_n 2, 0, 0, 0), (33, .iload_n 3, 0, 0, 0), (34, .invokestatic 453, 243, 1, 4), (37, .if_icmp .gt 7, 0, 0, 0), (40, .iconst 1, 0, 0, 0), (41, .goto 4, 0, 0, 0), (44, .iconst 0, 0, 0, 0), (45, .istore 4, 0, 0, 0), (47, .iinc 5 1, 0, 0, 0), (50, .goto (-44), 0, 0, 0), (53, .iload 4, 0, 0, 0), (55, .ireturn, 0, 0, 0)]
def acX11_mutiny : AC := [(0, .aload_n 0, 0, 0, 0), (1, .iconst 0, 0, 0, 0), (2, .putfield 103, 11, 0, 0), (5, .iload_n 1, 0, 0, 0), (6, .i2l, 0, 0, 0), (7, .lconst 1, 0, 0, 0), (8, .ldc2_w 457, 0, 0, 20), (11, .invokestatic 120, 141, 1, 3), (14, .ifCond .eq 27, 0, 0, 0), (17, .iload_n 2, 0, 0, 0), (18, .i2l, 0, 0, 0), (19, .lconst 1, 0, 0, 0), (20, .ldc2_w 457, 0, 0, 20), (23, .invokestatic 120, 141, 1, 3), (26, .ifCond .eq 15, 0, 0, 0), (29, .iload_n 3, 0, 0, 0), (30, .i2l, 0, 0, 0), (31, .lconst 1, 0, 0, 0), (32, .ldc2_w 459, 0, 0, 18), (35, .invokestatic 120, 141, 1, 3), (38, .ifCond .ne 5, 0, 0, 0), (41, .iconst (-1), 0, 0, 0), (42, .ireturn, 0, 0, 0), (43, .iconst 0, 0, 0, 0), (44, .istore 4, 0, 0, 0), (46, .aload_n 0, 0, 0, 0), (47, .iconst 0, 0, 0, 0), (48, .putfield 110, 11, 1, 0), (51, .iconst 0, 0, 0, 0), (52, .istore 5, 0, 0, 0), (54, .iload 5, 0, 0, 0), (56, .bipush 9, 0, 0, 0), (58, .iload_n 1, 0, 0, 0), (59, .invokestatic 133, 0, 11, 0), (62, .if_icmp .gt 75, 0, 0, 0), (65, .iconst 0, 0, 0, 0), (66, .istore 6, 0, 0, 0), (68, .iload 6, 0, 0, 0), (70, .bipush 9, 0, 0, 0), (72, .iload_n 2, 0, 0, 0), (73, .invokestatic 133, 0, 11, 0), (76, .if_icmp .gt 55, 0, 0, 0), (79, .iload_n 1, 0, 0, 0), (80, .iload 5, 0, 0, 0), (82, .iload 6, 0, 0, 0), (84, .iload_n 3, 0, 0, 0), (85, .invokestatic 461, 244, 1, 4), (88, .ifCond .eq 37, 0, 0, 0), (91, .iload_n 2, 0, 0, 0), (92, .iload 6, 0, 0, 0), (94, .iload 5, 0, 0, 0), (96, .iload_n 3, 0, 0, 0), (97, .invokestatic 461, 244, 1, 4), (100, .ifCond .eq 25, 0, 0, 0), (103, .iload 4, 0, 0, 0), (105, .ifCond .ne 17, 0, 0, 0), (108, .aload_n 0, 0, 0, 0), (109, .iload 5, 0, 0, 0), (111, .i2l, 0, 0, 0), (112, .invokevirtual 113, 145, 0, 1102), (115, .aload_n 0, 0, 0, 0), (116, .iload 6, 0, 0, 0), (118, .i2l, 0, 0, 0), (119, .invokevirtual 113, 145, 0, 1102), (122, .iinc 4 1, 0, 0, 0), (125, .iinc 6 1, 0, 0, 0), (128, .goto (-60), 0, 0, 0), (131, .iinc 5 1, 0, 0, 0), (134, .goto (-80), 0, 0, 0), (137, .iload 4, 0, 0, 0), (139, .ireturn, 0, 0, 0)]
def acX11_chance : AC := [(0, .aload_n 0, 0, 0, 0), (1, .iconst 0, 0, 0, 0), (2, .putfield 103, 11, 0, 0), (5, .iload_n 1, 0, 0, 0), (6, .i2l, 0, 0, 0), (7, .lconst 1, 0, 0, 0), (8, .ldc2_w 373, 0, 0, 12), (11, .invokestatic 120, 141, 1, 3), (14, .ifCond .eq 27, 0, 0, 0), (17, .iload_n 2, 0, 0, 0), (18, .i2l, 0, 0, 0), (19, .lconst 0, 0, 0, 0), (20, .ldc2_w 375, 0, 0, 10), (23, .invokestatic 120, 141, 1, 3), (26, .ifCond .eq 15, 0, 0, 0), (29, .iload_n 3, 0, 0, 0), (30, .i2l, 0, 0, 0), (31, .lconst 0, 0, 0, 0), (32, .ldc2_w 373, 0, 0, 12), (35, .invokestatic 120, 141, 1, 3), (38, .ifCond .ne 5, 0, 0, 0), (41, .iconst (-1), 0, 0, 0), (42, .ireturn, 0, 0, 0), (43, .lconst 1, 0, 0, 0), (44, .lstore 4, 0, 0, 0), (46, .lconst 1, 0, 0, 0), (47, .lstore 6, 0, 0, 0), (49, .iconst 0, 0, 0, 0), (50, .istore 8, 0, 0, 0), (52, .iload 8, 0, 0, 0), (54, .iload_n 1, 0, 0, 0), (55, .if_icmp .ge 41, 0, 0, 0), (58, .iload_n 3, 0, 0, 0), (59, .aload_n 0, 0, 0, 0), (60, .aload_n 0, 0, 0, 0), (61, .getfield 34, 11, 14, 2), (64, .iconst 0, 0, 0, 0), (65, .iaload, 0, 0, 0), (66, .invokevirtual 284, 169, 0, 1102), (69, .if_icmp .ge 27, 0, 0, 0), (72, .lload 4, 0, 0, 0), (74, .bipush 10, 0, 0, 0), (76, .iload_n 2, 0, 0, 0), (77, .isub, 0, 0, 0), (78, .i2l, 0, 0, 0), (79, .lmul, 0, 0, 0), (80, .lstore 4, 0, 0, 0), (82, .lload 6, 0, 0, 0), (84, .ldc2_w 375, 0, 0, 10), (87, .lmul, 0, 0, 0), (88, .lstore 6, 0, 0, 0), (90, .iinc 8 1, 0, 0, 0), (93, .goto (-41), 0, 0, 0), (96, .aload_n 0, 0, 0, 0), (97, .lload 4, 0, 0, 0), (99, .lload 6, 0, 0, 0), (101, .invokevirtual 395, 146, 0, 1103), (104, .iconst 0, 0, 0, 0), (105, .ireturn, 0, 0, 0)]
def acX11_voyages : AC := [(0, .aload_n 0, 0, 0, 0), (1, .iconst 0, 0, 0, 0), (2, .putfield 103, 11, 0, 0), (5, .iload_n 2, 0, 0, 0), (6, .i2l, 0, 0, 0), (7, .lconst 1, 0, 0, 0), (8, .ldc2_w 308, 0, 0, 60), (11, .invokestatic 120, 141, 1, 3), (14, .ifCond .ne 5, 0, 0, 0), (17, .iconst (-1), 0, 0, 0), (18, .ireturn, 0, 0, 0), (19, .iload_n 1, 0, 0, 0), (20, .istore_n 3, 0, 0, 0), (21, .iconst 0, 0, 0, 0), (22, .istore 4, 0, 0, 0), (24, .aload_n 0, 0, 0, 0), (25, .invokevirtual 327, 197, 0, 1101), (28, .aload_n 0, 0, 0, 0), (29, .invokevirtual 310, 192, 0, 1101), (32, .iconst 0, 0, 0, 0), (33, .istore 5, 0, 0, 0), (35, .iload 5, 0, 0, 0), (37, .iload_n 2, 0, 0, 0), (38, .if_icmp .ge 71, 0, 0, 0), (41, .iload_n 3, 0, 0, 0), (42, .ldc_w 465, 0, 0, 1103515245), (45, .imul, 0, 0, 0), (46, .sipush 12345, 0, 0, 0), (49, .iadd, 0, 0, 0), (50, .istore_n 3, 0, 0, 0), (51, .iload_n 3, 0, 0, 0), (52, .bipush 16, 0, 0, 0), (54, .iushr, 0, 0, 0), (55, .iconst 4, 0, 0, 0), (56, .irem, 0, 0, 0), (57, .istore 6, 0, 0, 0), (59, .iload 6, 0, 0, 0), (61, .iconst 2, 0, 0, 0), (62, .if_icmp .ge 33, 0, 0, 0), (65, .iload 4, 0, 0, 0), (67, .aload_n 0, 0, 0, 0), (68, .aload_n 0, 0, 0, 0), (69, .getfield 37, 11, 15, 2), (72, .iconst 2, 0, 0, 0), (73, .iload 6, 0, 0, 0), (75, .imul, 0, 0, 0), (76, .iconst 1, 0, 0, 0), (77, .isub, 0, 0, 0), (78, .invokevirtual 295, 185, 0, 1103), (81, .ifCond .lt 7, 0, 0, 0), (84, .iconst 1, 0, 0, 0), (85, .goto 4, 0, 0, 0), (88, .iconst 0, 0, 0, 0), (89, .invokestatic 142, 143, 1, 1), (92, .iadd, 0, 0, 0), (93, .istore 4, 0, 0, 0), (95, .aload_n 0, 0, 0, 0), (96, .aload_n 0, 0, 0, 0), (97, .getfield 37, 11, 15, 2), (100, .invokevirtual 313, 184, 0, 1102), (103, .iinc 5 1, 0, 0, 0), (106, .goto (-71), 0, 0, 0), (109, .aload_n 0, 0, 0, 0), (110, .iconst 0, 0, 0, 0), (111, .putfield 110, 11, 1, 0), (114, .aload_n 0, 0, 0, 0), (115, .aload_n 0, 0, 0, 0), (116, .getfield 37, 11, 15, 2), (119, .iconst 1, 0, 0, 0), (120, .iaload, 0, 0, 0), (121, .i2l, 0, 0, 0), (122, .invokevirtual 113, 145, 0, 1102), (125, .aload_n 0, 0, 0, 0), (126, .iload 4, 0, 0, 0), (128, .i2l, 0, 0, 0), (129, .invokevirtual 113, 145, 0, 1102), (132, .aload_n 0, 0, 0, 0), (133, .getfield 276, 11, 31, 0), (136, .ireturn, 0, 0, 0)]
def acX11_keep : AC := [(0, .aload_n 0, 0, 0, 0), (1, .iconst 0, 0, 0, 0), (2, .putfield 103, 11, 0, 0), (5, .iload_n 1, 0, 0, 0), (6, .i2l, 0, 0, 0), (7, .lconst 0, 0, 0, 0), (8, .ldc2_w 255, 0, 0, 2), (11, .invokestatic 120, 141, 1, 3), (14, .ifCond .ne 5, 0, 0, 0), (17, .iconst 0, 0, 0, 0), (18, .ireturn, 0, 0, 0), (19, .aload_n 0, 0, 0, 0), (20, .getfield 94, 11, 50, 2), (23, .iload_n 1, 0, 0, 0), (24, .iconst 1, 0, 0, 0), (25, .bastore, 0, 0, 0), (26, .aload_n 0, 0, 0, 0), (27, .getfield 97, 11, 51, 2), (30, .iload_n 1, 0, 0, 0), (31, .aload_n 0, 0, 0, 0), (32, .getfield 213, 11, 8, 0), (35, .iastore, 0, 0, 0), (36, .iconst 0, 0, 0, 0), (37, .istore_n 2, 0, 0, 0), (38, .iload_n 2, 0, 0, 0), (39, .bipush 57, 0, 0, 0), (41, .if_icmp .ge 26, 0, 0, 0), (44, .aload_n 0, 0, 0, 0), (45, .getfield 100, 11, 52, 2), (48, .bipush 57, 0, 0, 0), (50, .iload_n 1, 0, 0, 0), (51, .imul, 0, 0, 0), (52, .iload_n 2, 0, 0, 0), (53, .iadd, 0, 0, 0), (54, .aload_n 0, 0, 0, 0), (55, .getfield 34, 11, 14, 2), (58, .iload_n 2, 0, 0, 0), (59, .iaload, 0, 0, 0), (60, .iastore, 0, 0, 0), (61, .iinc 2 1, 0, 0, 0), (64, .goto (-26), 0, 0, 0), (67, .iconst 1, 0, 0, 0), (68, .ireturn, 0, 0, 0)]
def acX11_again : AC := [(0, .aload_n 0, 0, 0, 0), (1, .iconst 0, 0, 0, 0), (2, .putfield 103, 11, 0, 0), (5, .iload_n 1, 0, 0, 0), (6, .i2l, 0, 0, 0), (7, .lconst 0, 0, 0, 0), (8, .ldc2_w 255, 0, 0, 2), (11, .invokestatic 120, 141, 1, 3), (14, .ifCond .eq 25, 0, 0, 0), (17, .aload_n 0, 0, 0, 0), (18, .getfield 94, 11, 50, 2), (21, .iload_n 1, 0, 0, 0), (22, .baload, 0, 0, 0), (23, .ifCond .eq 16, 0, 0, 0), (26, .aload_n 0, 0, 0, 0), (27, .getfield 97, 11, 51, 2), (30, .iload_n 1, 0, 0, 0), (31, .iaload, 0, 0, 0), (32, .aload_n 0, 0, 0, 0), (33, .getfield 213, 11, 8, 0), (36, .if_icmp .eq 5, 0, 0, 0), (39, .iconst 0, 0, 0, 0), (40, .ireturn, 0, 0, 0), (41, .iconst 0, 0, 0, 0), (42, .istore_n 2, 0, 0, 0), (43, .iload_n 2, 0, 0, 0), (44, .bipush 57, 0, 0, 0), (46, .if_icmp .ge 26, 0, 0, 0), (49, .aload_n 0, 0, 0, 0), (50, .getfield 34, 11, 14, 2), (53, .iload_n 2, 0, 0, 0), (54, .aload_n 0, 0, 0, 0), (55, .getfield 100, 11, 52, 2), (58, .bipush 57, 0, 0, 0), (60, .iload_n 1, 0, 0, 0), (61, .imul, 0, 0, 0), (62, .iload_n 2, 0, 0, 0), (63, .iadd, 0, 0, 0), (64, .iaload, 0, 0, 0), (65, .iastore, 0, 0, 0), (66, .iinc 2 1, 0, 0, 0), (69, .goto (-26), 0, 0, 0), (72, .aload_n 0, 0, 0, 0), (73, .iconst 0, 0, 0, 0), (74, .putfield 210, 11, 29, 0), (77, .iconst 1, 0, 0, 0), (78, .ireturn, 0, 0, 0)]
def acX11_count : AC := [(0, .aload_n 0, 0, 0, 0), (1, .iconst 0, 0, 0, 0), (2, .putfield 103, 11, 0, 0), (5, .iload_n 1, 0, 0, 0), (6, .tableswitch 139 0 12 #[66, 71, 76, 81, 86, 91, 98, 105, 112, 119, 124, 129, 134], 0, 0, 0), (72, .aload_n 0, 0, 0, 0), (73, .getfield 13, 11, 3, 0), (76, .ireturn, 0, 0, 0), (77, .aload_n 0, 0, 0, 0), (78, .getfield 190, 11, 4, 0), (81, .ireturn, 0, 0, 0), (82, .aload_n 0, 0, 0, 0), (83, .getfield 193, 11, 5, 0), (86, .ireturn, 0, 0, 0), (87, .aload_n 0, 0, 0, 0), (88, .getfield 196, 11, 6, 0), (91, .ireturn, 0, 0, 0), (92, .aload_n 0, 0, 0, 0), (93, .getfield 117, 11, 7, 0), (96, .ireturn, 0, 0, 0), (97, .aload_n 0, 0, 0, 0), (98, .getfield 34, 11, 14, 2), (101, .iconst 0, 0, 0, 0), (102, .iaload, 0, 0, 0), (103, .ireturn, 0, 0, 0), (104, .aload_n 0, 0, 0, 0), (105, .getfield 34, 11, 14, 2), (108, .iconst 1, 0, 0, 0), (109, .iaload, 0, 0, 0), (110, .ireturn, 0, 0, 0), (111, .aload_n 0, 0, 0, 0), (112, .getfield 34, 11, 14, 2), (115, .iconst 2, 0, 0, 0), (116, .iaload, 0, 0, 0), (117, .ireturn, 0, 0, 0), (118, .aload_n 0, 0, 0, 0), (119, .getfield 34, 11, 14, 2), (122, .iconst 3, 0, 0, 0), (123, .iaload, 0, 0, 0), (124, .ireturn, 0, 0, 0), (125, .aload_n 0, 0, 0, 0), (126, .getfield 415, 11, 42, 0), (129, .ireturn, 0, 0, 0), (130, .aload_n 0, 0, 0, 0), (131, .getfield 210, 11, 29, 0), (134, .ireturn, 0, 0, 0), (135, .aload_n 0, 0, 0, 0), (136, .getfield 110, 11, 1, 0), (139, .ireturn, 0, 0, 0), (140, .aload_n 0, 0, 0, 0), (141, .getfield 124, 11, 17, 0), (144, .ireturn, 0, 0, 0), (145, .bipush (-100), 0, 0, 0), (147, .ireturn, 0, 0, 0)]
def acX11_row : AC := [(0, .aload_n 0, 0, 0, 0), (1, .iconst 0, 0, 0, 0), (2, .putfield 103, 11, 0, 0), (5, .iload_n 1, 0, 0, 0), (6, .i2l, 0, 0, 0), (7, .lconst 0, 0, 0, 0), (8, .aload_n 0, 0, 0, 0), (9, .getfield 110, 11, 1, 0), (12, .iconst 1, 0, 0, 0), (13, .isub, 0, 0, 0), (14, .i2l, 0, 0, 0), (15, .invokestatic 120, 141, 1, 3), (18, .ifCond .ne 10, 0, 0, 0), (21, .aload_n 0, 0, 0, 0), (22, .iconst 1, 0, 0, 0), (23, .putfield 103, 11, 0, 0), (26, .lconst 0, 0, 0, 0), (27, .lreturn, 0, 0, 0), (28, .aload_n 0, 0, 0, 0), (29, .getfield 9, 11, 2, 2), (32, .iload_n 1, 0, 0, 0), (33, .laload, 0, 0, 0), (34, .lreturn, 0, 0, 0)]
def acJ6_bitCount_0f7a4 : AC := [(0, .iload_n 0, 0, 0, 0), (1, .iload_n 0, 0, 0, 0), (2, .iconst 1, 0, 0, 0), (3, .iushr, 0, 0, 0), (4, .ldc_w 265, 0, 0, 1431655765), (7, .iand, 0, 0, 0), (8, .isub, 0, 0, 0), (9, .istore_n 0, 0, 0, 0), (10, .iload_n 0, 0, 0, 0), (11, .ldc_w 266, 0, 0, 858993459), (14, .iand, 0, 0, 0), (15, .iload_n 0, 0, 0, 0), (16, .iconst 2, 0, 0, 0), (17, .iushr, 0, 0, 0), (18, .ldc_w 266, 0, 0, 858993459), (21, .iand, 0, 0, 0), (22, .iadd, 0, 0, 0), (23, .istore_n 0, 0, 0, 0), (24, .iload_n 0, 0, 0, 0), (25, .iload_n 0, 0, 0, 0), (26, .iconst 4, 0, 0, 0), (27, .iushr, 0, 0, 0), (28, .iadd, 0, 0, 0), (29, .ldc_w 267, 0, 0, 252645135), (32, .iand, 0, 0, 0), (33, .istore_n 0, 0, 0, 0), (34, .iload_n 0, 0, 0, 0), (35, .iload_n 0, 0, 0, 0), (36, .bipush 8, 0, 0, 0), (38, .iushr, 0, 0, 0), (39, .iadd, 0, 0, 0), (40, .istore_n 0, 0, 0, 0), (41, .iload_n 0, 0, 0, 0), (42, .iload_n 0, 0, 0, 0), (43, .bipush 16, 0, 0, 0), (45, .iushr, 0, 0, 0), (46, .iadd, 0, 0, 0), (47, .istore_n 0, 0, 0, 0), (48, .iload_n 0, 0, 0, 0), (49, .bipush 63, 0, 0, 0), (51, .iand, 0, 0, 0), (52, .ireturn, 0, 0, 0)]
def acJ7_fill_53178 : AC := [(0, .iconst 0, 0, 0, 0), (1, .istore_n 2, 0, 0, 0), (2, .aload_n 0, 0, 0, 0), (3, .arraylength, 0, 0, 0), (4, .istore_n 3, 0, 0, 0), (5, .iload_n 2, 0, 0, 0), (6, .iload_n 3, 0, 0, 0), (7, .if_icmp .ge 13, 0, 0, 0), (10, .aload_n 0, 0, 0, 0), (11, .iload_n 2, 0, 0, 0), (12, .iload_n 1, 0, 0, 0), (13, .iastore, 0, 0, 0), (14, .iinc 2 1, 0, 0, 0), (17, .goto (-12), 0, 0, 0), (20, .return_, 0, 0, 0)]
def acL_law : AC := [(0, .new 8, 10, 0, 0), (3, .dup, 0, 0, 0), (4, .invokespecial 28, 61, 2, 1), (7, .astore_n 1, 0, 0, 0), (8, .new 29, 11, 0, 0), (11, .dup, 0, 0, 0), (12, .invokespecial 31, 139, 2, 1), (15, .astore_n 2, 0, 0, 0), (16, .iconst 1, 0, 0, 0), (17, .newarray .long, 1, 0, 0), (19, .astore_n 3, 0, 0, 0), (20, .iconst 0, 0, 0, 0), (21, .istore 4, 0, 0, 0), (23, .iload 4, 0, 0, 0), (25, .aload_n 0, 0, 0, 0), (26, .arraylength, 0, 0, 0), (27, .iconst 5, 0, 0, 0), (28, .isub, 0, 0, 0), (29, .if_icmp .gt 1532, 0, 0, 0), (32, .aload_n 0, 0, 0, 0), (33, .iload 4, 0, 0, 0), (35, .iaload, 0, 0, 0), (36, .bipush 63, 0, 0, 0), (38, .iand, 0, 0, 0), (39, .tableswitch 1516 0 47 #[205, 230, 255, 268, 281, 294, 307, 347, 387, 427, 467, 528, 541, 566, 615, 652, 677, 690, 703, 728, 741, 754, 779, 804, 829, 854, 879, 904, 929, 954, 991, 1028, 1053, 1078, 1103, 1140, 1153, 1166, 1179, 1216, 1241, 1278, 1327, 1376, 1413, 1438, 1463, 1488], 0, 0, 0), (244, .aload_n 1, 0, 0, 0), (245, .aload_n 0, 0, 0, 0), (246, .iload 4, 0, 0, 0), (248, .iconst 1, 0, 0, 0), (249, .iadd, 0, 0, 0), (250, .iaload, 0, 0, 0), (251, .invokevirtual 32, 62, 0, 1002), (254, .pop, 0, 0, 0), (255, .aload_n 2, 0, 0, 0), (256, .aload_n 0, 0, 0, 0), (257, .iload 4, 0, 0, 0), (259, .iconst 1, 0, 0, 0), (260, .iadd, 0, 0, 0), (261, .iaload, 0, 0, 0), (262, .invokevirtual 36, 148, 0, 1102), (265, .pop, 0, 0, 0), (266, .goto 1289, 0, 0, 0), (269, .aload_n 1, 0, 0, 0), (270, .aload_n 0, 0, 0, 0), (271, .iload 4, 0, 0, 0), (273, .iconst 1, 0, 0, 0), (274, .iadd, 0, 0, 0), (275, .iaload, 0, 0, 0), (276, .invokevirtual 37, 63, 0, 1002), (279, .pop, 0, 0, 0), (280, .aload_n 2, 0, 0, 0), (281, .aload_n 0, 0, 0, 0), (282, .iload 4, 0, 0, 0), (284, .iconst 1, 0, 0, 0), (285, .iadd, 0, 0, 0), (286, .iaload, 0, 0, 0), (287, .invokevirtual 41, 149, 0, 1102), (290, .pop, 0, 0, 0), (291, .goto 1264, 0, 0, 0), (294, .aload_n 1, 0, 0, 0), (295, .invokevirtual 42, 64, 0, 1001), (298, .pop, 0, 0, 0), (299, .aload_n 2, 0, 0, 0), (300, .invokevirtual 46, 158, 0, 1101), (303, .pop, 0, 0, 0), (304, .goto 1251, 0, 0, 0), (307, .aload_n 1, 0, 0, 0), (308, .invokevirtual 47, 65, 0, 1001), (311, .pop, 0, 0, 0), (312, .aload_n 2, 0, 0, 0), (313, .invokevirtual 50, 161, 0, 1101), (316, .pop, 0, 0, 0), (317, .goto 1238, 0, 0, 0), (320, .aload_n 1, 0, 0, 0), (321, .invokevirtual 51, 66, 0, 1001), (324, .pop, 0, 0, 0), (325, .aload_n 2, 0, 0, 0), (326, .invokevirtual 54, 162, 0, 1101), (329, .pop, 0, 0, 0), (330, .goto 1225, 0, 0, 0), (333, .aload_n 1, 0, 0, 0), (334, .invokevirtual 55, 67, 0, 1001), (337, .pop, 0, 0, 0), (338, .aload_n 2, 0, 0, 0), (339, .invokevirtual 58, 166, 0, 1101), (342, .pop, 0, 0, 0), (343, .goto 1212, 0, 0, 0), (346, .aload_n 1, 0, 0, 0), (347, .aload_n 0, 0, 0, 0), (348, .iload 4, 0, 0, 0), (350, .iconst 1, 0, 0, 0), (351, .iadd, 0, 0, 0), (352, .iaload, 0, 0, 0), (353, .aload_n 0, 0, 0, 0), (354, .iload 4, 0, 0, 0), (356, .iconst 2, 0, 0, 0), (357, .iadd, 0, 0, 0), (358, .iaload, 0, 0, 0), (359, .aload_n 3, 0, 0, 0), (360, .invokestatic 59, 1000, 6, 4), (363, .istore 5, 0, 0, 0), (365, .aload_n 2, 0, 0, 0), (366, .aload_n 0, 0, 0, 0), (367, .iload 4, 0, 0, 0), (369, .iconst 1, 0, 0, 0), (370, .iadd, 0, 0, 0), (371, .iaload, 0, 0, 0), (372, .aload_n 0, 0, 0, 0), (373, .iload 4, 0, 0, 0), (375, .iconst 2, 0, 0, 0), (376, .iadd, 0, 0, 0), (377, .iaload, 0, 0, 0), (378, .invokevirtual 64, 171, 0, 1103), (381, .istore 6, 0, 0, 0), (383, .goto 1172, 0, 0, 0), (386, .aload_n 1, 0, 0, 0), (387, .aload_n 0, 0, 0, 0), (388, .iload 4, 0, 0, 0), (390, .iconst 1, 0, 0, 0), (391, .iadd, 0, 0, 0), (392, .iaload, 0, 0, 0), (393, .aload_n 0, 0, 0, 0), (394, .iload 4, 0, 0, 0), (396, .iconst 2, 0, 0, 0), (397, .iadd, 0, 0, 0), (398, .iaload, 0, 0, 0), (399, .aload_n 3, 0, 0, 0), (400, .invokestatic 65, 1001, 6, 4), (403, .istore 5, 0, 0, 0), (405, .aload_n 2, 0, 0, 0), (406, .aload_n 0, 0, 0, 0), (407, .iload 4, 0, 0, 0), (409, .iconst 1, 0, 0, 0), (410, .iadd, 0, 0, 0), (411, .iaload, 0, 0, 0), (412, .aload_n 0, 0, 0, 0), (413, .iload 4, 0, 0, 0), (415, .iconst 2, 0, 0, 0), (416, .iadd, 0, 0, 0), (417, .iaload, 0, 0, 0), (418, .invokevirtual 67, 172, 0, 1103), (421, .istore 6, 0, 0, 0), (423, .goto 1132, 0, 0, 0), (426, .aload_n 1, 0, 0, 0), (427, .aload_n 0, 0, 0, 0), (428, .iload 4, 0, 0, 0), (430, .iconst 1, 0, 0, 0), (431, .iadd, 0, 0, 0), (432, .iaload, 0, 0, 0), (433, .aload_n 0, 0, 0, 0), (434, .iload 4, 0, 0, 0), (436, .iconst 2, 0, 0, 0), (437, .iadd, 0, 0, 0), (438, .iaload, 0, 0, 0), (439, .aload_n 3, 0, 0, 0), (440, .invokestatic 68, 1002, 6, 4), (443, .istore 5, 0, 0, 0), (445, .aload_n 2, 0, 0, 0), (446, .aload_n 0, 0, 0, 0), (447, .iload 4, 0, 0, 0), (449, .iconst 1, 0, 0, 0), (450, .iadd, 0, 0, 0), (451, .iaload, 0, 0, 0), (452, .aload_n 0, 0, 0, 0), (453, .iload 4, 0, 0, 0), (455, .iconst 2, 0, 0, 0), (456, .iadd, 0, 0, 0), (457, .iaload, 0, 0, 0), (458, .invokevirtual 70, 173, 0, 1103), (461, .istore 6, 0, 0, 0), (463, .goto 1092, 0, 0, 0), (466, .aload_n 1, 0, 0, 0), (467, .aload_n 0, 0, 0, 0), (468, .iload 4, 0, 0, 0), (470, .iconst 1, 0, 0, 0), (471, .iadd, 0, 0, 0), (472, .iaload, 0, 0, 0), (473, .aload_n 0, 0, 0, 0), (474, .iload 4, 0, 0, 0), (476, .iconst 2, 0, 0, 0), (477, .iadd, 0, 0, 0), (478, .iaload, 0, 0, 0), (479, .aload_n 3, 0, 0, 0), (480, .invokestatic 71, 1003, 6, 4), (483, .istore 5, 0, 0, 0), (485, .aload_n 2, 0, 0, 0), (486, .aload_n 0, 0, 0, 0), (487, .iload 4, 0, 0, 0), (489, .iconst 1, 0, 0, 0), (490, .iadd, 0, 0, 0), (491, .iaload, 0, 0, 0), (492, .aload_n 0, 0, 0, 0), (493, .iload 4, 0, 0, 0), (495, .iconst 2, 0, 0, 0), (496, .iadd, 0, 0, 0), (497, .iaload, 0, 0, 0), (498, .invokevirtual 73, 175, 0, 1103), (501, .istore 6, 0, 0, 0), (503, .goto 1052, 0, 0, 0), (506, .aload_n 1, 0, 0, 0), (507, .aload_n 0, 0, 0, 0), (508, .iload 4, 0, 0, 0), (510, .iconst 1, 0, 0, 0), (511, .iadd, 0, 0, 0), (512, .iaload, 0, 0, 0), (513, .aload_n 0, 0, 0, 0), (514, .iload 4, 0, 0, 0), (516, .iconst 2, 0, 0, 0), (517, .iadd, 0, 0, 0), (518, .iaload, 0, 0, 0), (519, .aload_n 0, 0, 0, 0), (520, .iload 4, 0, 0, 0), (522, .iconst 3, 0, 0, 0), (523, .iadd, 0, 0, 0), (524, .iaload, 0, 0, 0), (525, .aload_n 0, 0, 0, 0), (526, .iload 4, 0, 0, 0), (528, .iconst 4, 0, 0, 0), (529, .iadd, 0, 0, 0), (530, .iaload, 0, 0, 0), (531, .invokevirtual 74, 72, 0, 1005), (534, .pop, 0, 0, 0), (535, .aload_n 2, 0, 0, 0), (536, .aload_n 0, 0, 0, 0), (537, .iload 4, 0, 0, 0), (539, .iconst 1, 0, 0, 0), (540, .iadd, 0, 0, 0), (541, .iaload, 0, 0, 0), (542, .aload_n 0, 0, 0, 0), (543, .iload 4, 0, 0, 0), (545, .iconst 2, 0, 0, 0), (546, .iadd, 0, 0, 0), (547, .iaload, 0, 0, 0), (548, .aload_n 0, 0, 0, 0), (549, .iload 4, 0, 0, 0), (551, .iconst 3, 0, 0, 0), (552, .iadd, 0, 0, 0), (553, .iaload, 0, 0, 0), (554, .aload_n 0, 0, 0, 0), (555, .iload 4, 0, 0, 0), (557, .iconst 4, 0, 0, 0), (558, .iadd, 0, 0, 0), (559, .iaload, 0, 0, 0), (560, .invokevirtual 78, 176, 0, 1105), (563, .pop, 0, 0, 0), (564, .goto 991, 0, 0, 0), (567, .aload_n 1, 0, 0, 0), (568, .invokevirtual 79, 73, 0, 1001), (571, .pop, 0, 0, 0), (572, .aload_n 2, 0, 0, 0), (573, .invokevirtual 82, 188, 0, 1101), (576, .pop, 0, 0, 0), (577, .goto 978, 0, 0, 0), (580, .aload_n 1, 0, 0, 0), (581, .aload_n 0, 0, 0, 0), (582, .iload 4, 0, 0, 0), (584, .iconst 1, 0, 0, 0), (585, .iadd, 0, 0, 0), (586, .iaload, 0, 0, 0), (587, .invokevirtual 83, 74, 0, 1002), (590, .pop, 0, 0, 0), (591, .aload_n 2, 0, 0, 0), (592, .aload_n 0, 0, 0, 0), (593, .iload 4, 0, 0, 0), (595, .iconst 1, 0, 0, 0), (596, .iadd, 0, 0, 0), (597, .iaload, 0, 0, 0), (598, .invokevirtual 86, 189, 0, 1102), (601, .pop, 0, 0, 0), (602, .goto 953, 0, 0, 0), (605, .aload_n 1, 0, 0, 0), (606, .aload_n 0, 0, 0, 0), (607, .iload 4, 0, 0, 0), (609, .iconst 1, 0, 0, 0), (610, .iadd, 0, 0, 0), (611, .iaload, 0, 0, 0), (612, .aload_n 0, 0, 0, 0), (613, .iload 4, 0, 0, 0), (615, .iconst 2, 0, 0, 0), (616, .iadd, 0, 0, 0), (617, .iaload, 0, 0, 0), (618, .aload_n 0, 0, 0, 0), (619, .iload 4, 0, 0, 0), (621, .iconst 3, 0, 0, 0), (622, .iadd, 0, 0, 0), (623, .iaload, 0, 0, 0), (624, .invokevirtual 87, 75, 0, 1004), (627, .pop, 0, 0, 0), (628, .aload_n 2, 0, 0, 0), (629, .aload_n 0, 0, 0, 0), (630, .iload 4, 0, 0, 0), (632, .iconst 1, 0, 0, 0), (633, .iadd, 0, 0, 0), (634, .iaload, 0, 0, 0), (635, .aload_n 0, 0, 0, 0), (636, .iload 4, 0, 0, 0), (638, .iconst 2, 0, 0, 0), (639, .iadd, 0, 0, 0), (640, .iaload, 0, 0, 0), (641, .aload_n 0, 0, 0, 0), (642, .iload 4, 0, 0, 0), (644, .iconst 3, 0, 0, 0), (645, .iadd, 0, 0, 0), (646, .iaload, 0, 0, 0), (647, .invokevirtual 91, 190, 0, 1104), (650, .pop, 0, 0, 0), (651, .goto 904, 0, 0, 0), (654, .aload_n 1, 0, 0, 0), (655, .aload_n 0, 0, 0, 0), (656, .iload 4, 0, 0, 0), (658, .iconst 1, 0, 0, 0), (659, .iadd, 0, 0, 0), (660, .iaload, 0, 0, 0), (661, .aload_n 0, 0, 0, 0), (662, .iload 4, 0, 0, 0), (664, .iconst 2, 0, 0, 0), (665, .iadd, 0, 0, 0), (666, .iaload, 0, 0, 0), (667, .invokevirtual 92, 76, 0, 1003), (670, .pop, 0, 0, 0), (671, .aload_n 2, 0, 0, 0), (672, .aload_n 0, 0, 0, 0), (673, .iload 4, 0, 0, 0), (675, .iconst 1, 0, 0, 0), (676, .iadd, 0, 0, 0), (677, .iaload, 0, 0, 0), (678, .aload_n 0, 0, 0, 0), (679, .iload 4, 0, 0, 0), (681, .iconst 2, 0, 0, 0), (682, .iadd, 0, 0, 0), (683, .iaload, 0, 0, 0), (684, .invokevirtual 95, 191, 0, 1103), (687, .pop, 0, 0, 0), (688, .goto 867, 0, 0, 0), (691, .aload_n 1, 0, 0, 0), (692, .aload_n 0, 0, 0, 0), (693, .iload 4, 0, 0, 0), (695, .iconst 1, 0, 0, 0), (696, .iadd, 0, 0, 0), (697, .iaload, 0, 0, 0), (698, .invokevirtual 96, 77, 0, 1002), (701, .pop, 0, 0, 0), (702, .aload_n 2, 0, 0, 0), (703, .aload_n 0, 0, 0, 0), (704, .iload 4, 0, 0, 0), (706, .iconst 1, 0, 0, 0), (707, .iadd, 0, 0, 0), (708, .iaload, 0, 0, 0), (709, .invokevirtual 99, 193, 0, 1102), (712, .pop, 0, 0, 0), (713, .goto 842, 0, 0, 0), (716, .aload_n 1, 0, 0, 0), (717, .invokevirtual 100, 78, 0, 1001), (720, .pop, 0, 0, 0), (721, .aload_n 2, 0, 0, 0), (722, .invokevirtual 103, 196, 0, 1101), (725, .pop, 0, 0, 0), (726, .goto 829, 0, 0, 0), (729, .aload_n 1, 0, 0, 0), (730, .invokevirtual 104, 79, 0, 1001), (733, .pop, 0, 0, 0), (734, .aload_n 2, 0, 0, 0), (735, .invokevirtual 107, 180, 0, 1101), (738, .pop, 0, 0, 0), (739, .goto 816, 0, 0, 0), (742, .aload_n 1, 0, 0, 0), (743, .aload_n 0, 0, 0, 0), (744, .iload 4, 0, 0, 0), (746, .iconst 1, 0, 0, 0), (747, .iadd, 0, 0, 0), (748, .iaload, 0, 0, 0), (749, .invokevirtual 108, 80, 0, 1002), (752, .pop, 0, 0, 0), (753, .aload_n 2, 0, 0, 0), (754, .aload_n 0, 0, 0, 0), (755, .iload 4, 0, 0, 0), (757, .iconst 1, 0, 0, 0), (758, .iadd, 0, 0, 0), (759, .iaload, 0, 0, 0), (760, .invokevirtual 111, 198, 0, 1102), (763, .pop, 0, 0, 0), (764, .goto 791, 0, 0, 0), (767, .aload_n 1, 0, 0, 0), (768, .invokevirtual 112, 81, 0, 1001), (771, .pop, 0, 0, 0), (772, .aload_n 2, 0, 0, 0), (773, .invokevirtual 115, 199, 0, 1101), (776, .pop, 0, 0, 0), (777, .goto 778, 0, 0, 0), (780, .aload_n 1, 0, 0, 0), (781, .invokevirtual 116, 82, 0, 1001), (784, .pop, 0, 0, 0), (785, .aload_n 2, 0, 0, 0), (786, .invokevirtual 119, 204, 0, 1101), (789, .pop, 0, 0, 0), (790, .goto 765, 0, 0, 0), (793, .aload_n 1, 0, 0, 0), (794, .aload_n 0, 0, 0, 0), (795, .iload 4, 0, 0, 0), (797, .iconst 1, 0, 0, 0), (798, .iadd, 0, 0, 0), (799, .iaload, 0, 0, 0), (800, .invokevirtual 120, 83, 0, 1002), (803, .pop, 0, 0, 0), (804, .aload_n 2, 0, 0, 0), (805, .aload_n 0, 0, 0, 0), (806, .iload 4, 0, 0, 0), (808, .iconst 1, 0, 0, 0), (809, .iadd, 0, 0, 0), (810, .iaload, 0, 0, 0), (811, .invokevirtual 123, 209, 0, 1102), (814, .pop, 0, 0, 0), (815, .goto 740, 0, 0, 0), (818, .aload_n 1, 0, 0, 0), (819, .aload_n 0, 0, 0, 0), (820, .iload 4, 0, 0, 0), (822, .iconst 1, 0, 0, 0), (823, .iadd, 0, 0, 0), (824, .iaload, 0, 0, 0), (825, .invokevirtual 124, 84, 0, 1002), (828, .pop, 0, 0, 0), (829, .aload_n 2, 0, 0, 0), (830, .aload_n 0, 0, 0, 0), (831, .iload 4, 0, 0, 0), (833, .iconst 1, 0, 0, 0), (834, .iadd, 0, 0, 0), (835, .iaload, 0, 0, 0), (836, .invokevirtual 127, 210, 0, 1102), (839, .pop, 0, 0, 0), (840, .goto 715, 0, 0, 0), (843, .aload_n 1, 0, 0, 0), (844, .aload_n 0, 0, 0, 0), (845, .iload 4, 0, 0, 0), (847, .iconst 1, 0, 0, 0), (848, .iadd, 0, 0, 0), (849, .iaload, 0, 0, 0), (850, .invokevirtual 128, 85, 0, 1002), (853, .pop, 0, 0, 0), (854, .aload_n 2, 0, 0, 0), (855, .aload_n 0, 0, 0, 0), (856, .iload 4, 0, 0, 0), (858, .iconst 1, 0, 0, 0), (859, .iadd, 0, 0, 0), (860, .iaload, 0, 0, 0), (861, .invokevirtual 131, 211, 0, 1102), (864, .pop, 0, 0, 0), (865, .goto 690, 0, 0, 0), (868, .aload_n 1, 0, 0, 0), (869, .aload_n 0, 0, 0, 0), (870, .iload 4, 0, 0, 0), (872, .iconst 1, 0, 0, 0), (873, .iadd, 0, 0, 0), (874, .iaload, 0, 0, 0), (875, .invokevirtual 132, 86, 0, 1002), (878, .pop, 0, 0, 0), (879, .aload_n 2, 0, 0, 0), (880, .aload_n 0, 0, 0, 0), (881, .iload 4, 0, 0, 0), (883, .iconst 1, 0, 0, 0), (884, .iadd, 0, 0, 0), (885, .iaload, 0, 0, 0), (886, .invokevirtual 135, 213, 0, 1102), (889, .pop, 0, 0, 0), (890, .goto 665, 0, 0, 0), (893, .aload_n 1, 0, 0, 0), (894, .aload_n 0, 0, 0, 0), (895, .iload 4, 0, 0, 0), (897, .iconst 1, 0, 0, 0), (898, .iadd, 0, 0, 0), (899, .iaload, 0, 0, 0), (900, .invokevirtual 136, 87, 0, 1002), (903, .pop, 0, 0, 0), (904, .aload_n 2, 0, 0, 0), (905, .aload_n 0, 0, 0, 0), (906, .iload 4, 0, 0, 0), (908, .iconst 1, 0, 0, 0), (909, .iadd, 0, 0, 0), (910, .iaload, 0, 0, 0), (911, .invokevirtual 139, 214, 0, 1102), (914, .pop, 0, 0, 0), (915, .goto 640, 0, 0, 0), (918, .aload_n 1, 0, 0, 0), (919, .aload_n 0, 0, 0, 0), (920, .iload 4, 0, 0, 0), (922, .iconst 1, 0, 0, 0), (923, .iadd, 0, 0, 0), (924, .iaload, 0, 0, 0), (925, .invokevirtual 140, 88, 0, 1002), (928, .pop, 0, 0, 0), (929, .aload_n 2, 0, 0, 0), (930, .aload_n 0, 0, 0, 0), (931, .iload 4, 0, 0, 0), (933, .iconst 1, 0, 0, 0), (934, .iadd, 0, 0, 0), (935, .iaload, 0, 0, 0), (936, .invokevirtual 143, 215, 0, 1102), (939, .pop, 0, 0, 0), (940, .goto 615, 0, 0, 0), (943, .aload_n 1, 0, 0, 0), (944, .aload_n 0, 0, 0, 0), (945, .iload 4, 0, 0, 0), (947, .iconst 1, 0, 0, 0), (948, .iadd, 0, 0, 0), (949, .iaload, 0, 0, 0), (950, .invokevirtual 144, 89, 0, 1002), (953, .pop, 0, 0, 0), (954, .aload_n 2, 0, 0, 0), (955, .aload_n 0, 0, 0, 0), (956, .iload 4, 0, 0, 0), (958, .iconst 1, 0, 0, 0), (959, .iadd, 0, 0, 0), (960, .iaload, 0, 0, 0), (961, .invokevirtual 147, 217, 0, 1102), (964, .pop, 0, 0, 0), (965, .goto 590, 0, 0, 0), (968, .aload_n 1, 0, 0, 0), (969, .aload_n 0, 0, 0, 0), (970, .iload 4, 0, 0, 0), (972, .iconst 1, 0, 0, 0), (973, .iadd, 0, 0, 0), (974, .iaload, 0, 0, 0), (975, .invokevirtual 148, 90, 0, 1002), (978, .pop, 0, 0, 0), (979, .aload_n 2, 0, 0, 0), (980, .aload_n 0, 0, 0, 0), (981, .iload 4, 0, 0, 0), (983, .iconst 1, 0, 0, 0), (984, .iadd, 0, 0, 0), (985, .iaload, 0, 0, 0), (986, .invokevirtual 151, 218, 0, 1102), (989, .pop, 0, 0, 0), (990, .goto 565, 0, 0, 0), (993, .aload_n 1, 0, 0, 0), (994, .aload_n 0, 0, 0, 0), (995, .iload 4, 0, 0, 0), (997, .iconst 1, 0, 0, 0), (998, .iadd, 0, 0, 0), (999, .iaload, 0, 0, 0), (1000, .aload_n 0, 0, 0, 0), (1001, .iload 4, 0, 0, 0), (1003, .iconst 2, 0, 0, 0), (1004, .iadd, 0, 0, 0), (1005, .iaload, 0, 0, 0), (1006, .invokevirtual 152, 91, 0, 1003), (1009, .pop, 0, 0, 0), (1010, .aload_n 2, 0, 0, 0), (1011, .aload_n 0, 0, 0, 0), (1012, .iload 4, 0, 0, 0), (1014, .iconst 1, 0, 0, 0), (1015, .iadd, 0, 0, 0), (1016, .iaload, 0, 0, 0), (1017, .aload_n 0, 0, 0, 0), (1018, .iload 4, 0, 0, 0), (1020, .iconst 2, 0, 0, 0), (1021, .iadd, 0, 0, 0), (1022, .iaload, 0, 0, 0), (1023, .invokevirtual 155, 220, 0, 1103), (1026, .pop, 0, 0, 0), (1027, .goto 528, 0, 0, 0), (1030, .aload_n 1, 0, 0, 0), (1031, .aload_n 0, 0, 0, 0), (1032, .iload 4, 0, 0, 0), (1034, .iconst 1, 0, 0, 0), (1035, .iadd, 0, 0, 0), (1036, .iaload, 0, 0, 0), (1037, .aload_n 0, 0, 0, 0), (1038, .iload 4, 0, 0, 0), (1040, .iconst 2, 0, 0, 0), (1041, .iadd, 0, 0, 0), (1042, .iaload, 0, 0, 0), (1043, .invokevirtual 156, 92, 0, 1003), (1046, .pop, 0, 0, 0), (1047, .aload_n 2, 0, 0, 0), (1048, .aload_n 0, 0, 0, 0), (1049, .iload 4, 0, 0, 0), (1051, .iconst 1, 0, 0, 0), (1052, .iadd, 0, 0, 0), (1053, .iaload, 0, 0, 0), (1054, .aload_n 0, 0, 0, 0), (1055, .iload 4, 0, 0, 0), (1057, .iconst 2, 0, 0, 0), (1058, .iadd, 0, 0, 0), (1059, .iaload, 0, 0, 0), (1060, .invokevirtual 159, 221, 0, 1103), (1063, .pop, 0, 0, 0), (1064, .goto 491, 0, 0, 0), (1067, .aload_n 1, 0, 0, 0), (1068, .aload_n 0, 0, 0, 0), (1069, .iload 4, 0, 0, 0), (1071, .iconst 1, 0, 0, 0), (1072, .iadd, 0, 0, 0), (1073, .iaload, 0, 0, 0), (1074, .invokevirtual 160, 93, 0, 1002), (1077, .pop, 0, 0, 0), (1078, .aload_n 2, 0, 0, 0), (1079, .aload_n 0, 0, 0, 0), (1080, .iload 4, 0, 0, 0), (1082, .iconst 1, 0, 0, 0), (1083, .iadd, 0, 0, 0), (1084, .iaload, 0, 0, 0), (1085, .invokevirtual 163, 223, 0, 1102), (1088, .pop, 0, 0, 0), (1089, .goto 466, 0, 0, 0), (1092, .aload_n 1, 0, 0, 0), (1093, .aload_n 0, 0, 0, 0), (1094, .iload 4, 0, 0, 0), (1096, .iconst 1, 0, 0, 0), (1097, .iadd, 0, 0, 0), (1098, .iaload, 0, 0, 0), (1099, .invokevirtual 164, 94, 0, 1002), (1102, .pop, 0, 0, 0), (1103, .aload_n 2, 0, 0, 0), (1104, .aload_n 0, 0, 0, 0), (1105, .iload 4, 0, 0, 0), (1107, .iconst 1, 0, 0, 0), (1108, .iadd, 0, 0, 0), (1109, .iaload, 0, 0, 0), (1110, .invokevirtual 167, 227, 0, 1102), (1113, .pop, 0, 0, 0), (1114, .goto 441, 0, 0, 0), (1117, .aload_n 1, 0, 0, 0), (1118, .aload_n 0, 0, 0, 0), (1119, .iload 4, 0, 0, 0), (1121, .iconst 1, 0, 0, 0), (1122, .iadd, 0, 0, 0), (1123, .iaload, 0, 0, 0), (1124, .invokevirtual 168, 95, 0, 1002), (1127, .pop, 0, 0, 0), (1128, .aload_n 2, 0, 0, 0), (1129, .aload_n 0, 0, 0, 0), (1130, .iload 4, 0, 0, 0), (1132, .iconst 1, 0, 0, 0), (1133, .iadd, 0, 0, 0), (1134, .iaload, 0, 0, 0), (1135, .invokevirtual 171, 228, 0, 1102), (1138, .pop, 0, 0, 0), (1139, .goto 416, 0, 0, 0), (1142, .aload_n 1, 0, 0, 0), (1143, .aload_n 0, 0, 0, 0), (1144, .iload 4, 0, 0, 0), (1146, .iconst 1, 0, 0, 0), (1147, .iadd, 0, 0, 0), (1148, .iaload, 0, 0, 0), (1149, .aload_n 0, 0, 0, 0), (1150, .iload 4, 0, 0, 0), (1152, .iconst 2, 0, 0, 0), (1153, .iadd, 0, 0, 0), (1154, .iaload, 0, 0, 0), (1155, .invokevirtual 172, 96, 0, 1003), (1158, .pop, 0, 0, 0), (1159, .aload_n 2, 0, 0, 0), (1160, .aload_n 0, 0, 0, 0), (1161, .iload 4, 0, 0, 0), (1163, .iconst 1, 0, 0, 0), (1164, .iadd, 0, 0, 0), (1165, .iaload, 0, 0, 0), (1166, .aload_n 0, 0, 0, 0), (1167, .iload 4, 0, 0, 0), (1169, .iconst 2, 0, 0, 0), (1170, .iadd, 0, 0, 0), (1171, .iaload, 0, 0, 0), (1172, .invokevirtual 175, 230, 0, 1103), (1175, .pop, 0, 0, 0), (1176, .goto 379, 0, 0, 0), (1179, .aload_n 1, 0, 0, 0), (1180, .invokevirtual 176, 97, 0, 1001), (1183, .pop, 0, 0, 0), (1184, .aload_n 2, 0, 0, 0), (1185, .invokevirtual 179, 231, 0, 1101), (1188, .pop, 0, 0, 0), (1189, .goto 366, 0, 0, 0), (1192, .aload_n 1, 0, 0, 0), (1193, .invokevirtual 180, 98, 0, 1001), (1196, .pop, 0, 0, 0), (1197, .aload_n 2, 0, 0, 0), (1198, .invokevirtual 183, 235, 0, 1101), (1201, .pop, 0, 0, 0), (1202, .goto 353, 0, 0, 0), (1205, .aload_n 1, 0, 0, 0), (1206, .invokevirtual 184, 99, 0, 1001), (1209, .pop, 0, 0, 0), (1210, .aload_n 2, 0, 0, 0), (1211, .invokevirtual 187, 236, 0, 1101), (1214, .pop, 0, 0, 0), (1215, .goto 340, 0, 0, 0), (1218, .aload_n 1, 0, 0, 0), (1219, .aload_n 0, 0, 0, 0), (1220, .iload 4, 0, 0, 0), (1222, .iconst 1, 0, 0, 0), (1223, .iadd, 0, 0, 0), (1224, .iaload, 0, 0, 0), (1225, .aload_n 0, 0, 0, 0), (1226, .iload 4, 0, 0, 0), (1228, .iconst 2, 0, 0, 0), (1229, .iadd, 0, 0, 0), (1230, .iaload, 0, 0, 0), (1231, .invokevirtual 188, 100, 0, 1003), (1234, .pop, 0, 0, 0), (1235, .aload_n 2, 0, 0, 0), (1236, .aload_n 0, 0, 0, 0), (1237, .iload 4, 0, 0, 0), (1239, .iconst 1, 0, 0, 0), (1240, .iadd, 0, 0, 0), (1241, .iaload, 0, 0, 0), (1242, .aload_n 0, 0, 0, 0), (1243, .iload 4, 0, 0, 0), (1245, .iconst 2, 0, 0, 0), (1246, .iadd, 0, 0, 0), (1247, .iaload, 0, 0, 0), (1248, .invokevirtual 191, 240, 0, 1103), (1251, .pop, 0, 0, 0), (1252, .goto 303, 0, 0, 0), (1255, .aload_n 1, 0, 0, 0), (1256, .aload_n 0, 0, 0, 0), (1257, .iload 4, 0, 0, 0), (1259, .iconst 1, 0, 0, 0), (1260, .iadd, 0, 0, 0), (1261, .iaload, 0, 0, 0), (1262, .invokevirtual 192, 101, 0, 1002), (1265, .pop, 0, 0, 0), (1266, .aload_n 2, 0, 0, 0), (1267, .aload_n 0, 0, 0, 0), (1268, .iload 4, 0, 0, 0), (1270, .iconst 1, 0, 0, 0), (1271, .iadd, 0, 0, 0), (1272, .iaload, 0, 0, 0), (1273, .invokevirtual 195, 241, 0, 1102), (1276, .pop, 0, 0, 0), (1277, .goto 278, 0, 0, 0), (1280, .aload_n 1, 0, 0, 0), (1281, .aload_n 0, 0, 0, 0), (1282, .iload 4, 0, 0, 0), (1284, .iconst 1, 0, 0, 0), (1285, .iadd, 0, 0, 0), (1286, .iaload, 0, 0, 0), (1287, .aload_n 0, 0, 0, 0), (1288, .iload 4, 0, 0, 0), (1290, .iconst 2, 0, 0, 0), (1291, .iadd, 0, 0, 0), (1292, .iaload, 0, 0, 0), (1293, .invokevirtual 196, 102, 0, 1003), (1296, .pop, 0, 0, 0), (1297, .aload_n 2, 0, 0, 0), (1298, .aload_n 0, 0, 0, 0), (1299, .iload 4, 0, 0, 0), (1301, .iconst 1, 0, 0, 0), (1302, .iadd, 0, 0, 0), (1303, .iaload, 0, 0, 0), (1304, .aload_n 0, 0, 0, 0), (1305, .iload 4, 0, 0, 0), (1307, .iconst 2, 0, 0, 0), (1308, .iadd, 0, 0, 0), (1309, .iaload, 0, 0, 0), (1310, .invokevirtual 199, 242, 0, 1103), (1313, .pop, 0, 0, 0), (1314, .goto 241, 0, 0, 0), (1317, .aload_n 1, 0, 0, 0), (1318, .aload_n 0, 0, 0, 0), (1319, .iload 4, 0, 0, 0), (1321, .iconst 1, 0, 0, 0), (1322, .iadd, 0, 0, 0), (1323, .iaload, 0, 0, 0), (1324, .aload_n 0, 0, 0, 0), (1325, .iload 4, 0, 0, 0), (1327, .iconst 2, 0, 0, 0), (1328, .iadd, 0, 0, 0), (1329, .iaload, 0, 0, 0), (1330, .aload_n 0, 0, 0, 0), (1331, .iload 4, 0, 0, 0), (1333, .iconst 3, 0, 0, 0), (1334, .iadd, 0, 0, 0), (1335, .iaload, 0, 0, 0), (1336, .invokevirtual 200, 103, 0, 1004), (1339, .pop, 0, 0, 0), (1340, .aload_n 2, 0, 0, 0), (1341, .aload_n 0, 0, 0, 0), (1342, .iload 4, 0, 0, 0), (1344, .iconst 1, 0, 0, 0), (1345, .iadd, 0, 0, 0), (1346, .iaload, 0, 0, 0), (1347, .aload_n 0, 0, 0, 0), (1348, .iload 4, 0, 0, 0), (1350, .iconst 2, 0, 0, 0), (1351, .iadd, 0, 0, 0), (1352, .iaload, 0, 0, 0), (1353, .aload_n 0, 0, 0, 0), (1354, .iload 4, 0, 0, 0), (1356, .iconst 3, 0, 0, 0), (1357, .iadd, 0, 0, 0), (1358, .iaload, 0, 0, 0), (1359, .invokevirtual 203, 245, 0, 1104), (1362, .pop, 0, 0, 0), (1363, .goto 192, 0, 0, 0), (1366, .aload_n 1, 0, 0, 0), (1367, .aload_n 0, 0, 0, 0), (1368, .iload 4, 0, 0, 0), (1370, .iconst 1, 0, 0, 0), (1371, .iadd, 0, 0, 0), (1372, .iaload, 0, 0, 0), (1373, .aload_n 0, 0, 0, 0), (1374, .iload 4, 0, 0, 0), (1376, .iconst 2, 0, 0, 0), (1377, .iadd, 0, 0, 0), (1378, .iaload, 0, 0, 0), (1379, .aload_n 0, 0, 0, 0), (1380, .iload 4, 0, 0, 0), (1382, .iconst 3, 0, 0, 0), (1383, .iadd, 0, 0, 0), (1384, .iaload, 0, 0, 0), (1385, .invokevirtual 204, 104, 0, 1004), (1388, .pop, 0, 0, 0), (1389, .aload_n 2, 0, 0, 0), (1390, .aload_n 0, 0, 0, 0), (1391, .iload 4, 0, 0, 0), (1393, .iconst 1, 0, 0, 0), (1394, .iadd, 0, 0, 0), (1395, .iaload, 0, 0, 0), (1396, .aload_n 0, 0, 0, 0), (1397, .iload 4, 0, 0, 0), (1399, .iconst 2, 0, 0, 0), (1400, .iadd, 0, 0, 0), (1401, .iaload, 0, 0, 0), (1402, .aload_n 0, 0, 0, 0), (1403, .iload 4, 0, 0, 0), (1405, .iconst 3, 0, 0, 0), (1406, .iadd, 0, 0, 0), (1407, .iaload, 0, 0, 0), (1408, .invokevirtual 207, 246, 0, 1104), (1411, .pop, 0, 0, 0), (1412, .goto 143, 0, 0, 0), (1415, .aload_n 1, 0, 0, 0), (1416, .aload_n 0, 0, 0, 0), (1417, .iload 4, 0, 0, 0), (1419, .iconst 1, 0, 0, 0), (1420, .iadd, 0, 0, 0), (1421, .iaload, 0, 0, 0), (1422, .aload_n 0, 0, 0, 0), (1423, .iload 4, 0, 0, 0), (1425, .iconst 2, 0, 0, 0), (1426, .iadd, 0, 0, 0), (1427, .iaload, 0, 0, 0), (1428, .invokevirtual 208, 105, 0, 1003), (1431, .pop, 0, 0, 0), (1432, .aload_n 2, 0, 0, 0), (1433, .aload_n 0, 0, 0, 0), (1434, .iload 4, 0, 0, 0), (1436, .iconst 1, 0, 0, 0), (1437, .iadd, 0, 0, 0), (1438, .iaload, 0, 0, 0), (1439, .aload_n 0, 0, 0, 0), (1440, .iload 4, 0, 0, 0), (1442, .iconst 2, 0, 0, 0), (1443, .iadd, 0, 0, 0), (1444, .iaload, 0, 0, 0), (1445, .invokevirtual 211, 247, 0, 1103), (1448, .pop, 0, 0, 0), (1449, .goto 106, 0, 0, 0), (1452, .aload_n 1, 0, 0, 0), (1453, .aload_n 0, 0, 0, 0), (1454, .iload 4, 0, 0, 0), (1456, .iconst 1, 0, 0, 0), (1457, .iadd, 0, 0, 0), (1458, .iaload, 0, 0, 0), (1459, .invokevirtual 212, 106, 0, 1002), (1462, .aload_n 2, 0, 0, 0), (1463, .aload_n 0, 0, 0, 0), (1464, .iload 4, 0, 0, 0), (1466, .iconst 1, 0, 0, 0), (1467, .iadd, 0, 0, 0), (1468, .iaload, 0, 0, 0), (1469, .invokevirtual 215, 248, 0, 1102), (1472, .if_icmp .eq 83, 0, 0, 0), (1475, .iconst 0, 0, 0, 0), (1476, .ireturn, 0, 0, 0), (1477, .aload_n 1, 0, 0, 0), (1478, .aload_n 0, 0, 0, 0), (1479, .iload 4, 0, 0, 0), (1481, .iconst 1, 0, 0, 0), (1482, .iadd, 0, 0, 0), (1483, .iaload, 0, 0, 0), (1484, .invokevirtual 216, 107, 0, 1002), (1487, .pop, 0, 0, 0), (1488, .aload_n 2, 0, 0, 0), (1489, .aload_n 0, 0, 0, 0), (1490, .iload 4, 0, 0, 0), (1492, .iconst 1, 0, 0, 0), (1493, .iadd, 0, 0, 0), (1494, .iaload, 0, 0, 0), (1495, .invokevirtual 219, 249, 0, 1102), (1498, .pop, 0, 0, 0), (1499, .goto 56, 0, 0, 0), (1502, .aload_n 1, 0, 0, 0), (1503, .aload_n 0, 0, 0, 0), (1504, .iload 4, 0, 0, 0), (1506, .iconst 1, 0, 0, 0), (1507, .iadd, 0, 0, 0), (1508, .iaload, 0, 0, 0), (1509, .invokevirtual 220, 108, 0, 1002), (1512, .pop, 0, 0, 0), (1513, .aload_n 2, 0, 0, 0), (1514, .aload_n 0, 0, 0, 0), (1515, .iload 4, 0, 0, 0), (1517, .iconst 1, 0, 0, 0), (1518, .iadd, 0, 0, 0), (1519, .iaload, 0, 0, 0), (1520, .invokevirtual 223, 250, 0, 1102), (1523, .pop, 0, 0, 0), (1524, .goto 31, 0, 0, 0), (1527, .aload_n 1, 0, 0, 0), (1528, .aload_n 0, 0, 0, 0), (1529, .iload 4, 0, 0, 0), (1531, .iconst 1, 0, 0, 0), (1532, .iadd, 0, 0, 0), (1533, .iaload, 0, 0, 0), (1534, .aload_n 3, 0, 0, 0), (1535, .invokestatic 224, 1004, 6, 3), (1538, .istore 5, 0, 0, 0), (1540, .aload_n 2, 0, 0, 0), (1541, .aload_n 0, 0, 0, 0), (1542, .iload 4, 0, 0, 0), (1544, .iconst 1, 0, 0, 0), (1545, .iadd, 0, 0, 0), (1546, .iaload, 0, 0, 0), (1547, .invokevirtual 227, 251, 0, 1102), (1550, .lstore 6, 0, 0, 0), (1552, .goto 3, 0, 0, 0), (1555, .iinc 4 5, 0, 0, 0), (1558, .goto (-1535), 0, 0, 0), (1561, .iconst 1, 0, 0, 0), (1562, .ireturn, 0, 0, 0)]
def mtab : List MI := [(yX0_init, cX0_init, 1, none, acX0_init, 0, 1),
  (yX0_isOvertaken, cX0_isOvertaken, 4, (some .boolean), acX0_isOvertaken, 0, 3),
  (yX0_reach, cX0_reach, 9, none, acX0_reach, 0, 5),
  (yX0_moved, cX0_moved, 2, (some .int), acX0_moved, 0, 2),
  (yX0_freeOrders, cX0_freeOrders, 4, none, acX0_freeOrders, 0, 3),
  (yX0_fewestOrders, cX0_fewestOrders, 6, (some .int), acX0_fewestOrders, 0, 3),
  (yX0_doChosen, cX0_doChosen, 6, none, acX0_doChosen, 0, 2),
  (yX0_moveCosts, cX0_moveCosts, 2, none, acX0_moveCosts, 0, 2),
  (yX0_chooseLeastRow, cX0_chooseLeastRow, 6, none, acX0_chooseLeastRow, 0, 4),
  (yX0_leastChoice, cX0_leastChoice, 6, (some .int), acX0_leastChoice, 0, 5),
  (yX1_init, cX1_init, 2, none, acX1_init, 1, 1),
  (yX1_remember, cX1_remember, 2, none, acX1_remember, 1, 2),
  (yX1_bringBack, cX1_bringBack, 2, (some .boolean), acX1_bringBack, 1, 2),
  (yX1_forgetAll, cX1_forgetAll, 2, none, acX1_forgetAll, 1, 1),
  (yX2_init, cX2_init, 1, none, acX2_init, 2, 1),
  (yX2_readFrom, cX2_readFrom, 6, (some .int), acX2_readFrom, 2, 2),
  (yX3_init, cX3_init, 1, none, acX3_init, 3, 1),
  (yX3_clear, cX3_clear, 1, none, acX3_clear, 3, 1),
  (yX3_add, cX3_add, 3, none, acX3_add, 3, 2),
  (yX3_tellOne, cX3_tellOne, 3, none, acX3_tellOne, 3, 2),
  (yX3_tellTwo, cX3_tellTwo, 5, none, acX3_tellTwo, 3, 3),
  (yX3_tellFraction, cX3_tellFraction, 12, none, acX3_tellFraction, 3, 3),
  (yX4_init, cX4_init, 1, none, acX4_init, 4, 1),
  (yX4_add, cX4_add, 2, none, acX4_add, 4, 2),
  (yX4_work, cX4_work, 6, (some .int), acX4_work, 4, 3),
  (yX4_push, cX4_push, 2, none, acX4_push, 4, 2),
  (yX4_pop, cX4_pop, 1, (some .int), acX4_pop, 4, 1),
  (yX4_valueOf, cX4_valueOf, 3, (some .int), acX4_valueOf, 4, 3),
  (yX4_apply, cX4_apply, 3, (some .int), acX4_apply, 4, 3),
  (yX5_init, cX5_init, 1, none, acX5_init, 5, 1),
  (yX5_readFrom, cX5_readFrom, 5, (some .int), acX5_readFrom, 5, 3),
  (yX5_takeThing, cX5_takeThing, 4, (some .boolean), acX5_takeThing, 5, 3),
  (yX5_takeOperator, cX5_takeOperator, 5, (some .boolean), acX5_takeOperator, 5, 3),
  (yX5_hold, cX5_hold, 2, none, acX5_hold, 5, 2),
  (yX5_release, cX5_release, 3, none, acX5_release, 5, 3),
  (yX5_rank, cX5_rank, 1, (some .int), acX5_rank, 5, 1),
  (yX6_init, cX6_init, 1, none, acX6_init, 6, 1),
  (yX6_readFrom, cX6_readFrom, 5, (some .int), acX6_readFrom, 6, 2),
  (yX6_addPost, cX6_addPost, 3, none, acX6_addPost, 6, 3),
  (yX7_init, cX7_init, 1, none, acX7_init, 7, 1),
  (yX7_forgetAll, cX7_forgetAll, 1, none, acX7_forgetAll, 7, 1),
  (yX7_lastStep, cX7_lastStep, 2, (some .int), acX7_lastStep, 7, 1),
  (yX7_countWays, cX7_countWays, 5, none, acX7_countWays, 7, 2),
  (yX7_waysBehind, cX7_waysBehind, 6, (some .long), acX7_waysBehind, 7, 3),
  (yX7_leastOrder, cX7_leastOrder, 4, (some .int), acX7_leastOrder, 7, 3),
  (yX7_possible, cX7_possible, 4, (some .int), acX7_possible, 7, 2),
  (yX8_init, cX8_init, 1, none, acX8_init, 8, 1),
  (yX8_copyFrom, cX8_copyFrom, 2, none, acX8_copyFrom, 8, 2),
  (yX8_gaveNow, cX8_gaveNow, 1, (some .boolean), acX8_gaveNow, 8, 1),
  (yX8_addOrder, cX8_addOrder, 4, none, acX8_addOrder, 8, 3),
  (yX8_doDueOrders, cX8_doDueOrders, 2, none, acX8_doDueOrders, 8, 1),
  (yX8_laneIn, cX8_laneIn, 4, (some .int), acX8_laneIn, 8, 2),
  (yX8_eat, cX8_eat, 3, (some .boolean), acX8_eat, 8, 3),
  (yX9_init, cX9_init, 1, none, acX9_init, 9, 1),
  (yX9_append, cX9_append, 2, none, acX9_append, 9, 2),
  (yX9_open, cX9_open, 2, none, acX9_open, 9, 2),
  (yX9_ended, cX9_ended, 1, (some .boolean), acX9_ended, 9, 1),
  (yX9_next, cX9_next, 1, (some .int), acX9_next, 9, 1),
  (yX9_take, cX9_take, 2, (some .boolean), acX9_take, 9, 2),
  (yX9_takeNumber, cX9_takeNumber, 4, (some .int), acX9_takeNumber, 9, 2),
  (yX9_faultAtEnd, cX9_faultAtEnd, 1, (some .int), acX9_faultAtEnd, 9, 1),
  (yX10_init, cX10_init, 1, none, acX10_init, 10, 1),
  (yX10_sign, cX10_sign, 3, (some .int), acX10_sign, 10, 2),
  (yX10_end, cX10_end, 2, (some .boolean), acX10_end, 10, 2),
  (yX10_ship, cX10_ship, 3, (some .int), acX10_ship, 10, 1),
  (yX10_rocks, cX10_rocks, 3, (some .int), acX10_rocks, 10, 1),
  (yX10_messes, cX10_messes, 3, (some .int), acX10_messes, 10, 1),
  (yX10_rule, cX10_rule, 3, (some .int), acX10_rule, 10, 1),
  (yX10_post, cX10_post, 3, (some .int), [], 10, 3),
  (yX10_rock, cX10_rock, 3, (some .int), [], 10, 3),
  (yX10_mess, cX10_mess, 3, (some .int), [], 10, 3),
  (yX10_way, cX10_way, 3, (some .int), [], 10, 3),
  (yX10_sheet, cX10_sheet, 8, (some .int), acX10_sheet, 10, 5),
  (yX10_delay, cX10_delay, 1, (some .int), acX10_delay, 10, 1),
  (yX10_order, cX10_order, 3, (some .int), acX10_order, 10, 2),
  (yX10_pass, cX10_pass, 5, (some .int), acX10_pass, 10, 4),
  (yX10_cook, cX10_cook, 4, (some .int), acX10_cook, 10, 3),
  (yX10_steps, cX10_steps, 5, (some .int), acX10_steps, 10, 2),
  (yX10_voyage, cX10_voyage, 5, (some .int), acX10_voyage, 10, 1),
  (yX10_undo, cX10_undo, 1, (some .int), acX10_undo, 10, 1),
  (yX10_lane, cX10_lane, 5, (some .int), acX10_lane, 10, 2),
  (yX10_strikes, cX10_strikes, 5, (some .int), acX10_strikes, 10, 1),
  (yX10_clears, cX10_clears, 7, (some .int), acX10_clears, 10, 1),
  (yX10_plan, cX10_plan, 4, (some .int), acX10_plan, 10, 2),
  (yX10_latest, cX10_latest, 3, (some .int), acX10_latest, 10, 2),
  (yX10_lanes, cX10_lanes, 2, (some .int), acX10_lanes, 10, 2),
  (yX10_safest, cX10_safest, 7, (some .int), acX10_safest, 10, 2),
  (yX10_late, cX10_late, 4, (some .int), acX10_late, 10, 2),
  (yX10_comes, cX10_comes, 8, (some .int), acX10_comes, 10, 2),
  (yX10_relay, cX10_relay, 6, (some .int), acX10_relay, 10, 2),
  (yX10_fewest, cX10_fewest, 2, (some .int), acX10_fewest, 10, 2),
  (yX10_word, cX10_word, 3, (some .int), acX10_word, 10, 3),
  (yX10_survives, cX10_survives, 4, (some .int), acX10_survives, 10, 3),
  (yX10_lives, cX10_lives, 8, (some .int), acX10_lives, 10, 2),
  (yX10_shares, cX10_shares, 3, (some .int), acX10_shares, 10, 2),
  (yX10_fast, cX10_fast, 6, (some .int), acX10_fast, 10, 2),
  (yX10_seen, cX10_seen, 3, (some .int), acX10_seen, 10, 3),
  (yX10_forget, cX10_forget, 2, (some .int), acX10_forget, 10, 1),
  (yX10_ordered, cX10_ordered, 7, (some .int), acX10_ordered, 10, 1),
  (yX10_unsure, cX10_unsure, 6, (some .int), acX10_unsure, 10, 1),
  (yX10_boy, cX10_boy, 4, (some .int), acX10_boy, 10, 3),
  (yX10_meets, cX10_meets, 5, (some .int), acX10_meets, 10, 2),
  (yX10_knows, cX10_knows, 3, (some .int), acX10_knows, 10, 3),
  (yX10_mutiny, cX10_mutiny, 7, (some .int), acX10_mutiny, 10, 4),
  (yX10_chance, cX10_chance, 4, (some .int), acX10_chance, 10, 4),
  (yX10_voyages, cX10_voyages, 7, (some .int), acX10_voyages, 10, 3),
  (yX10_keep, cX10_keep, 2, (some .boolean), acX10_keep, 10, 2),
  (yX10_again, cX10_again, 2, (some .boolean), acX10_again, 10, 2),
  (yX10_count, cX10_count, 2, (some .int), acX10_count, 10, 2),
  (yX10_row, cX10_row, 2, (some .long), [], 10, 2),
  (yX10_isDigit, cX10_isDigit, 1, (some .boolean), acX10_isDigit, 10, 1),
  (yX10_readMesses, cX10_readMesses, 5, (some .int), acX10_readMesses, 10, 1),
  (yX10_voyageFault, cX10_voyageFault, 3, (some .int), acX10_voyageFault, 10, 1),
  (yX10_doVoyageSign, cX10_doVoyageSign, 3, (some .boolean), acX10_doVoyageSign, 10, 1),
  (yX10_put, cX10_put, 3, (some .int), acX10_put, 10, 3),
  (yX10_entry, cX10_entry, 2, (some .int), acX10_entry, 10, 2),
  (yX10_keepOnSea, cX10_keepOnSea, 1, (some .int), acX10_keepOnSea, 10, 1),
  (yX10_delayAt, cX10_delayAt, 3, (some .int), acX10_delayAt, 10, 2),
  (yX10_orderRefusal, cX10_orderRefusal, 1, (some .int), acX10_orderRefusal, 10, 1),
  (yX10_giveOrder, cX10_giveOrder, 3, (some .int), acX10_giveOrder, 10, 2),
  (yX10_passRefusal, cX10_passRefusal, 5, (some .int), acX10_passRefusal, 10, 4),
  (yX10_moveFood, cX10_moveFood, 5, none, acX10_moveFood, 10, 4),
  (yX10_goStep, cX10_goStep, 3, (some .int), acX10_goStep, 10, 1),
  (yX10_firstFree, cX10_firstFree, 1, (some .int), acX10_firstFree, 10, 1),
  (yX10_lookAhead, cX10_lookAhead, 3, none, acX10_lookAhead, 10, 1),
  (yX10_rocksInLane, cX10_rocksInLane, 6, (some .int), acX10_rocksInLane, 10, 3),
  (yX10_apart, cX10_apart, 2, (some .int), acX10_apart, 10, 2),
  (yX10_widened, cX10_widened, 1, (some .int), acX10_widened, 10, 1),
  (yX10_power, cX10_power, 6, (some .long), acX10_power, 10, 2),
  (yX10_likelyWord, cX10_likelyWord, 7, (some .long), acX10_likelyWord, 10, 2),
  (yX10_lastsFor, cX10_lastsFor, 6, (some .int), acX10_lastsFor, 10, 3),
  (yX10_foodLeft, cX10_foodLeft, 5, (some .int), acX10_foodLeft, 10, 3),
  (yX10_weighPassing, cX10_weighPassing, 3, none, acX10_weighPassing, 10, 1),
  (yX10_leastPassing, cX10_leastPassing, 5, (some .int), acX10_leastPassing, 10, 3),
  (yX10_choosePassing, cX10_choosePassing, 7, (some .int), acX10_choosePassing, 10, 1),
  (yX10_lap, cX10_lap, 1, (some .int), acX10_lap, 10, 1),
  (yX10_cellAfter, cX10_cellAfter, 3, (some .int), acX10_cellAfter, 10, 2),
  (yX10_holdsThen, cX10_holdsThen, 4, (some .int), acX10_holdsThen, 10, 4),
  (yX10_wantsAnother, cX10_wantsAnother, 6, (some .boolean), acX10_wantsAnother, 10, 4),
  (yX11_init, cX11_init, 1, none, acX11_init, 11, 1),
  (yX11_refuse, cX11_refuse, 1, (some .int), acX11_refuse, 11, 1),
  (yX11_in, cX11_in, 6, (some .boolean), acX11_in, 11, 3),
  (yX11_has, cX11_has, 2, (some .boolean), acX11_has, 11, 2),
  (yX11_flag, cX11_flag, 1, (some .int), acX11_flag, 11, 1),
  (yX11_common, cX11_common, 4, (some .long), acX11_common, 11, 2),
  (yX11_enters, cX11_enters, 3, none, acX11_enters, 11, 2),
  (yX11_tellsFraction, cX11_tellsFraction, 7, none, acX11_tellsFraction, 11, 3),
  (yX11_isMess, cX11_isMess, 2, (some .boolean), acX11_isMess, 11, 2),
  (yX11_sign, cX11_sign, 3, (some .int), acX11_sign, 11, 2),
  (yX11_end, cX11_end, 2, (some .boolean), acX11_end, 11, 2),
  (yX11_begins, cX11_begins, 3, (some .int), acX11_begins, 11, 2),
  (yX11_takes, cX11_takes, 3, (some .boolean), acX11_takes, 11, 2),
  (yX11_isDigit, cX11_isDigit, 1, (some .boolean), acX11_isDigit, 11, 1),
  (yX11_among, cX11_among, 3, (some .int), acX11_among, 11, 2),
  (yX11_takesOf, cX11_takesOf, 3, (some .int), acX11_takesOf, 11, 2),
  (yX11_number, cX11_number, 4, (some .int), acX11_number, 11, 2),
  (yX11_numberIn, cX11_numberIn, 5, (some .int), acX11_numberIn, 11, 4),
  (yX11_faultOf, cX11_faultOf, 5, (some .int), acX11_faultOf, 11, 4),
  (yX11_ship, cX11_ship, 7, (some .int), acX11_ship, 11, 1),
  (yX11_readsRock, cX11_readsRock, 2, (some .boolean), acX11_readsRock, 11, 1),
  (yX11_readsMess, cX11_readsMess, 2, (some .boolean), acX11_readsMess, 11, 1),
  (yX11_rocks, cX11_rocks, 6, (some .int), acX11_rocks, 11, 1),
  (yX11_messes, cX11_messes, 6, (some .int), acX11_messes, 11, 1),
  (yX11_codes, cX11_codes, 2, none, acX11_codes, 11, 2),
  (yX11_readsThing, cX11_readsThing, 2, (some .boolean), acX11_readsThing, 11, 1),
  (yX11_readsRank, cX11_readsRank, 4, (some .boolean), acX11_readsRank, 11, 2),
  (yX11_rule, cX11_rule, 5, (some .int), acX11_rule, 11, 1),
  (yX11_worked, cX11_worked, 3, (some .int), acX11_worked, 11, 3),
  (yX11_ruled, cX11_ruled, 4, (some .int), acX11_ruled, 11, 1),
  (yX11_delayAt, cX11_delayAt, 2, (some .int), acX11_delayAt, 11, 2),
  (yX11_turned, cX11_turned, 2, (some .int), acX11_turned, 11, 2),
  (yX11_post, cX11_post, 3, (some .int), acX11_post, 11, 3),
  (yX11_rock, cX11_rock, 3, (some .int), acX11_rock, 11, 3),
  (yX11_mess, cX11_mess, 3, (some .int), acX11_mess, 11, 3),
  (yX11_isAhead, cX11_isAhead, 5, (some .boolean), acX11_isAhead, 11, 3),
  (yX11_way, cX11_way, 7, (some .int), acX11_way, 11, 3),
  (yX11_sheet, cX11_sheet, 9, (some .int), acX11_sheet, 11, 5),
  (yX11_putsBy, cX11_putsBy, 2, none, acX11_putsBy, 11, 1),
  (yX11_adds, cX11_adds, 3, (some .int), acX11_adds, 11, 2),
  (yX11_counts, cX11_counts, 2, (some .int), acX11_counts, 11, 2),
  (yX11_undo, cX11_undo, 2, (some .int), acX11_undo, 11, 1),
  (yX11_put, cX11_put, 1, (some .int), acX11_put, 11, 1),
  (yX11_doesDue, cX11_doesDue, 5, none, acX11_doesDue, 11, 1),
  (yX11_hitsAt, cX11_hitsAt, 5, (some .int), acX11_hitsAt, 11, 3),
  (yX11_stepGoes, cX11_stepGoes, 5, none, acX11_stepGoes, 11, 2),
  (yX11_gives, cX11_gives, 5, (some .int), acX11_gives, 11, 3),
  (yX11_passes, cX11_passes, 5, (some .int), acX11_passes, 11, 4),
  (yX11_cooks, cX11_cooks, 4, (some .int), acX11_cooks, 11, 3),
  (yX11_delay, cX11_delay, 1, (some .int), acX11_delay, 11, 1),
  (yX11_order, cX11_order, 2, (some .int), acX11_order, 11, 2),
  (yX11_pass, cX11_pass, 4, (some .int), acX11_pass, 11, 4),
  (yX11_cook, cX11_cook, 3, (some .int), acX11_cook, 11, 3),
  (yX11_startsCounting, cX11_startsCounting, 1, none, acX11_startsCounting, 11, 1),
  (yX11_steps, cX11_steps, 3, (some .int), acX11_steps, 11, 2),
  (yX11_readsAct, cX11_readsAct, 3, (some .boolean), acX11_readsAct, 11, 1),
  (yX11_does, cX11_does, 3, (some .boolean), acX11_does, 11, 2),
  (yX11_voyage, cX11_voyage, 5, (some .int), acX11_voyage, 11, 1),
  (yX11_puts, cX11_puts, 2, none, acX11_puts, 11, 1),
  (yX11_lane, cX11_lane, 3, (some .int), acX11_lane, 11, 2),
  (yX11_strikes, cX11_strikes, 3, (some .int), acX11_strikes, 11, 1),
  (yX11_moved, cX11_moved, 4, (some .int), acX11_moved, 11, 2),
  (yX11_movedByDue, cX11_movedByDue, 6, (some .int), acX11_movedByDue, 11, 3),
  (yX11_mayGive, cX11_mayGive, 2, (some .boolean), acX11_mayGive, 11, 2),
  (yX11_comesAt, cX11_comesAt, 3, (some .boolean), acX11_comesAt, 11, 3),
  (yX11_clears, cX11_clears, 8, (some .int), acX11_clears, 11, 1),
  (yX11_goesBy, cX11_goesBy, 6, none, acX11_goesBy, 11, 3),
  (yX11_laysLeast, cX11_laysLeast, 5, none, acX11_laysLeast, 11, 2),
  (yX11_fewestOrders, cX11_fewestOrders, 4, (some .int), acX11_fewestOrders, 11, 2),
  (yX11_choosesAny, cX11_choosesAny, 3, none, acX11_choosesAny, 11, 2),
  (yX11_plan, cX11_plan, 8, (some .int), acX11_plan, 11, 2),
  (yX11_latest, cX11_latest, 3, (some .int), acX11_latest, 11, 2),
  (yX11_lanes, cX11_lanes, 4, (some .int), acX11_lanes, 11, 2),
  (yX11_rocksIn, cX11_rocksIn, 5, (some .int), acX11_rocksIn, 11, 3),
  (yX11_safest, cX11_safest, 6, (some .int), acX11_safest, 11, 2),
  (yX11_late, cX11_late, 7, (some .int), acX11_late, 11, 2),
  (yX11_comes, cX11_comes, 6, (some .int), acX11_comes, 11, 2),
  (yX11_postsFor, cX11_postsFor, 2, (some .int), acX11_postsFor, 11, 2),
  (yX11_relay, cX11_relay, 5, (some .int), acX11_relay, 11, 2),
  (yX11_fewest, cX11_fewest, 2, (some .int), acX11_fewest, 11, 2),
  (yX11_bets, cX11_bets, 7, none, acX11_bets, 11, 3),
  (yX11_word, cX11_word, 3, (some .int), acX11_word, 11, 3),
  (yX11_survives, cX11_survives, 4, (some .int), acX11_survives, 11, 3),
  (yX11_lastsFor, cX11_lastsFor, 6, (some .int), acX11_lastsFor, 11, 3),
  (yX11_lives, cX11_lives, 6, (some .int), acX11_lives, 11, 2),
  (yX11_spare, cX11_spare, 3, (some .int), acX11_spare, 11, 3),
  (yX11_laysFlows, cX11_laysFlows, 6, none, acX11_laysFlows, 11, 2),
  (yX11_flow, cX11_flow, 3, (some .int), acX11_flow, 11, 3),
  (yX11_shares, cX11_shares, 6, (some .int), acX11_shares, 11, 2),
  (yX11_fast, cX11_fast, 8, (some .int), acX11_fast, 11, 2),
  (yX11_seenIn, cX11_seenIn, 4, (some .int), acX11_seenIn, 11, 2),
  (yX11_seen, cX11_seen, 4, (some .int), acX11_seen, 11, 3),
  (yX11_forget, cX11_forget, 2, (some .int), acX11_forget, 11, 1),
  (yX11_lastSeen, cX11_lastSeen, 3, (some .int), acX11_lastSeen, 11, 1),
  (yX11_isFine, cX11_isFine, 3, (some .boolean), acX11_isFine, 11, 3),
  (yX11_laysSeen, cX11_laysSeen, 6, none, acX11_laysSeen, 11, 2),
  (yX11_ordered, cX11_ordered, 5, (some .int), acX11_ordered, 11, 1),
  (yX11_unsure, cX11_unsure, 9, (some .int), acX11_unsure, 11, 1),
  (yX11_boyBegins, cX11_boyBegins, 3, none, acX11_boyBegins, 11, 3),
  (yX11_boyGoes, cX11_boyGoes, 1, none, acX11_boyGoes, 11, 1),
  (yX11_canRest, cX11_canRest, 1, (some .boolean), acX11_canRest, 11, 1),
  (yX11_boy, cX11_boy, 4, (some .int), acX11_boy, 11, 3),
  (yX11_meets, cX11_meets, 5, (some .int), acX11_meets, 11, 2),
  (yX11_knows, cX11_knows, 8, (some .int), acX11_knows, 11, 3),
  (yX11_keeps, cX11_keeps, 4, (some .int), acX11_keeps, 11, 4),
  (yX11_isRest, cX11_isRest, 6, (some .boolean), acX11_isRest, 11, 4),
  (yX11_mutiny, cX11_mutiny, 7, (some .int), acX11_mutiny, 11, 4),
  (yX11_chance, cX11_chance, 9, (some .int), acX11_chance, 11, 4),
  (yX11_voyages, cX11_voyages, 7, (some .int), acX11_voyages, 11, 3),
  (yX11_keep, cX11_keep, 3, (some .boolean), acX11_keep, 11, 2),
  (yX11_again, cX11_again, 3, (some .boolean), acX11_again, 11, 2),
  (yX11_count, cX11_count, 2, (some .int), acX11_count, 11, 2),
  (yX11_row, cX11_row, 2, (some .long), acX11_row, 11, 2),
  (yJ6_bitCount_0f7a4, cJ6_bitCount_0f7a4, 1, (some .int), acJ6_bitCount_0f7a4, 12, 1),
  (yJ0_length_8abf5, cJ0_length_8abf5, 1, (some .int), [], 12, 1),
  (yJ0_charAt_5068e, cJ0_charAt_5068e, 2, (some .char), [], 12, 2),
  (yJ7_fill_53178, cJ7_fill_53178, 4, none, acJ7_fill_53178, 12, 2)]
def minst : List Bool := [true, true, true, false, true, true, true, true, true, true, true, true, true, true, true, true, true, true, true, true, true, true, true, true, true, true, true, false, false, true, true, true, true, true, true, false, true, true, true, true, true, true, true, true, true, true, true, true, true, true, true, true, true, true, true, true, true, true, true, true, true, true, true, true, true, true, true, true, true, true, true, true, true, true, true, true, true, true, true, true, true, true, true, true, true, true, true, true, true, true, true, true, true, true, true, true, true, true, true, true, true, true, true, true, true, true, true, true, true, true, false, true, true, true, false, false, false, true, true, true, true, true, true, true, true, true, true, false, false, false, true, true, true, true, true, true, true, false, false, true, true, false, false, false, false, true, true, true, true, true, true, true, true, true, true, true, true, true, true, true, true, true, true, true, true, true, true, false, true, true, true, true, true, true, true, true, true, true, true, true, true, false, false, true, true, true, true, true, true, true, true, true, true, true, true, true, true, true, true, true, false, true, true, true, true, true, true, true, true, true, true, true, true, true, true, true, true, true, true, true, true, true, true, true, true, true, true, true, true, true, true, true, true, true, true, true, true, true, true, false, true, true, true, false, false, true, true, true, true, true, true, true, false, true, true, false]
abbrev mX0_init : Nat := 0
abbrev mX0_isOvertaken : Nat := 1
abbrev mX0_reach : Nat := 2
abbrev mX0_moved : Nat := 3
abbrev mX0_freeOrders : Nat := 4
abbrev mX0_fewestOrders : Nat := 5
abbrev mX0_doChosen : Nat := 6
abbrev mX0_moveCosts : Nat := 7
abbrev mX0_chooseLeastRow : Nat := 8
abbrev mX0_leastChoice : Nat := 9
abbrev mX1_init : Nat := 10
abbrev mX1_remember : Nat := 11
abbrev mX1_bringBack : Nat := 12
abbrev mX1_forgetAll : Nat := 13
abbrev mX2_init : Nat := 14
abbrev mX2_readFrom : Nat := 15
abbrev mX3_init : Nat := 16
abbrev mX3_clear : Nat := 17
abbrev mX3_add : Nat := 18
abbrev mX3_tellOne : Nat := 19
abbrev mX3_tellTwo : Nat := 20
abbrev mX3_tellFraction : Nat := 21
abbrev mX4_init : Nat := 22
abbrev mX4_add : Nat := 23
abbrev mX4_work : Nat := 24
abbrev mX4_push : Nat := 25
abbrev mX4_pop : Nat := 26
abbrev mX4_valueOf : Nat := 27
abbrev mX4_apply : Nat := 28
abbrev mX5_init : Nat := 29
abbrev mX5_readFrom : Nat := 30
abbrev mX5_takeThing : Nat := 31
abbrev mX5_takeOperator : Nat := 32
abbrev mX5_hold : Nat := 33
abbrev mX5_release : Nat := 34
abbrev mX5_rank : Nat := 35
abbrev mX6_init : Nat := 36
abbrev mX6_readFrom : Nat := 37
abbrev mX6_addPost : Nat := 38
abbrev mX7_init : Nat := 39
abbrev mX7_forgetAll : Nat := 40
abbrev mX7_lastStep : Nat := 41
abbrev mX7_countWays : Nat := 42
abbrev mX7_waysBehind : Nat := 43
abbrev mX7_leastOrder : Nat := 44
abbrev mX7_possible : Nat := 45
abbrev mX8_init : Nat := 46
abbrev mX8_copyFrom : Nat := 47
abbrev mX8_gaveNow : Nat := 48
abbrev mX8_addOrder : Nat := 49
abbrev mX8_doDueOrders : Nat := 50
abbrev mX8_laneIn : Nat := 51
abbrev mX8_eat : Nat := 52
abbrev mX9_init : Nat := 53
abbrev mX9_append : Nat := 54
abbrev mX9_open : Nat := 55
abbrev mX9_ended : Nat := 56
abbrev mX9_next : Nat := 57
abbrev mX9_take : Nat := 58
abbrev mX9_takeNumber : Nat := 59
abbrev mX9_faultAtEnd : Nat := 60
abbrev mX10_init : Nat := 61
abbrev mX10_sign : Nat := 62
abbrev mX10_end : Nat := 63
abbrev mX10_ship : Nat := 64
abbrev mX10_rocks : Nat := 65
abbrev mX10_messes : Nat := 66
abbrev mX10_rule : Nat := 67
abbrev mX10_post : Nat := 68
abbrev mX10_rock : Nat := 69
abbrev mX10_mess : Nat := 70
abbrev mX10_way : Nat := 71
abbrev mX10_sheet : Nat := 72
abbrev mX10_delay : Nat := 73
abbrev mX10_order : Nat := 74
abbrev mX10_pass : Nat := 75
abbrev mX10_cook : Nat := 76
abbrev mX10_steps : Nat := 77
abbrev mX10_voyage : Nat := 78
abbrev mX10_undo : Nat := 79
abbrev mX10_lane : Nat := 80
abbrev mX10_strikes : Nat := 81
abbrev mX10_clears : Nat := 82
abbrev mX10_plan : Nat := 83
abbrev mX10_latest : Nat := 84
abbrev mX10_lanes : Nat := 85
abbrev mX10_safest : Nat := 86
abbrev mX10_late : Nat := 87
abbrev mX10_comes : Nat := 88
abbrev mX10_relay : Nat := 89
abbrev mX10_fewest : Nat := 90
abbrev mX10_word : Nat := 91
abbrev mX10_survives : Nat := 92
abbrev mX10_lives : Nat := 93
abbrev mX10_shares : Nat := 94
abbrev mX10_fast : Nat := 95
abbrev mX10_seen : Nat := 96
abbrev mX10_forget : Nat := 97
abbrev mX10_ordered : Nat := 98
abbrev mX10_unsure : Nat := 99
abbrev mX10_boy : Nat := 100
abbrev mX10_meets : Nat := 101
abbrev mX10_knows : Nat := 102
abbrev mX10_mutiny : Nat := 103
abbrev mX10_chance : Nat := 104
abbrev mX10_voyages : Nat := 105
abbrev mX10_keep : Nat := 106
abbrev mX10_again : Nat := 107
abbrev mX10_count : Nat := 108
abbrev mX10_row : Nat := 109
abbrev mX10_isDigit : Nat := 110
abbrev mX10_readMesses : Nat := 111
abbrev mX10_voyageFault : Nat := 112
abbrev mX10_doVoyageSign : Nat := 113
abbrev mX10_put : Nat := 114
abbrev mX10_entry : Nat := 115
abbrev mX10_keepOnSea : Nat := 116
abbrev mX10_delayAt : Nat := 117
abbrev mX10_orderRefusal : Nat := 118
abbrev mX10_giveOrder : Nat := 119
abbrev mX10_passRefusal : Nat := 120
abbrev mX10_moveFood : Nat := 121
abbrev mX10_goStep : Nat := 122
abbrev mX10_firstFree : Nat := 123
abbrev mX10_lookAhead : Nat := 124
abbrev mX10_rocksInLane : Nat := 125
abbrev mX10_apart : Nat := 126
abbrev mX10_widened : Nat := 127
abbrev mX10_power : Nat := 128
abbrev mX10_likelyWord : Nat := 129
abbrev mX10_lastsFor : Nat := 130
abbrev mX10_foodLeft : Nat := 131
abbrev mX10_weighPassing : Nat := 132
abbrev mX10_leastPassing : Nat := 133
abbrev mX10_choosePassing : Nat := 134
abbrev mX10_lap : Nat := 135
abbrev mX10_cellAfter : Nat := 136
abbrev mX10_holdsThen : Nat := 137
abbrev mX10_wantsAnother : Nat := 138
abbrev mX11_init : Nat := 139
abbrev mX11_refuse : Nat := 140
abbrev mX11_in : Nat := 141
abbrev mX11_has : Nat := 142
abbrev mX11_flag : Nat := 143
abbrev mX11_common : Nat := 144
abbrev mX11_enters : Nat := 145
abbrev mX11_tellsFraction : Nat := 146
abbrev mX11_isMess : Nat := 147
abbrev mX11_sign : Nat := 148
abbrev mX11_end : Nat := 149
abbrev mX11_begins : Nat := 150
abbrev mX11_takes : Nat := 151
abbrev mX11_isDigit : Nat := 152
abbrev mX11_among : Nat := 153
abbrev mX11_takesOf : Nat := 154
abbrev mX11_number : Nat := 155
abbrev mX11_numberIn : Nat := 156
abbrev mX11_faultOf : Nat := 157
abbrev mX11_ship : Nat := 158
abbrev mX11_readsRock : Nat := 159
abbrev mX11_readsMess : Nat := 160
abbrev mX11_rocks : Nat := 161
abbrev mX11_messes : Nat := 162
abbrev mX11_codes : Nat := 163
abbrev mX11_readsThing : Nat := 164
abbrev mX11_readsRank : Nat := 165
abbrev mX11_rule : Nat := 166
abbrev mX11_worked : Nat := 167
abbrev mX11_ruled : Nat := 168
abbrev mX11_delayAt : Nat := 169
abbrev mX11_turned : Nat := 170
abbrev mX11_post : Nat := 171
abbrev mX11_rock : Nat := 172
abbrev mX11_mess : Nat := 173
abbrev mX11_isAhead : Nat := 174
abbrev mX11_way : Nat := 175
abbrev mX11_sheet : Nat := 176
abbrev mX11_putsBy : Nat := 177
abbrev mX11_adds : Nat := 178
abbrev mX11_counts : Nat := 179
abbrev mX11_undo : Nat := 180
abbrev mX11_put : Nat := 181
abbrev mX11_doesDue : Nat := 182
abbrev mX11_hitsAt : Nat := 183
abbrev mX11_stepGoes : Nat := 184
abbrev mX11_gives : Nat := 185
abbrev mX11_passes : Nat := 186
abbrev mX11_cooks : Nat := 187
abbrev mX11_delay : Nat := 188
abbrev mX11_order : Nat := 189
abbrev mX11_pass : Nat := 190
abbrev mX11_cook : Nat := 191
abbrev mX11_startsCounting : Nat := 192
abbrev mX11_steps : Nat := 193
abbrev mX11_readsAct : Nat := 194
abbrev mX11_does : Nat := 195
abbrev mX11_voyage : Nat := 196
abbrev mX11_puts : Nat := 197
abbrev mX11_lane : Nat := 198
abbrev mX11_strikes : Nat := 199
abbrev mX11_moved : Nat := 200
abbrev mX11_movedByDue : Nat := 201
abbrev mX11_mayGive : Nat := 202
abbrev mX11_comesAt : Nat := 203
abbrev mX11_clears : Nat := 204
abbrev mX11_goesBy : Nat := 205
abbrev mX11_laysLeast : Nat := 206
abbrev mX11_fewestOrders : Nat := 207
abbrev mX11_choosesAny : Nat := 208
abbrev mX11_plan : Nat := 209
abbrev mX11_latest : Nat := 210
abbrev mX11_lanes : Nat := 211
abbrev mX11_rocksIn : Nat := 212
abbrev mX11_safest : Nat := 213
abbrev mX11_late : Nat := 214
abbrev mX11_comes : Nat := 215
abbrev mX11_postsFor : Nat := 216
abbrev mX11_relay : Nat := 217
abbrev mX11_fewest : Nat := 218
abbrev mX11_bets : Nat := 219
abbrev mX11_word : Nat := 220
abbrev mX11_survives : Nat := 221
abbrev mX11_lastsFor : Nat := 222
abbrev mX11_lives : Nat := 223
abbrev mX11_spare : Nat := 224
abbrev mX11_laysFlows : Nat := 225
abbrev mX11_flow : Nat := 226
abbrev mX11_shares : Nat := 227
abbrev mX11_fast : Nat := 228
abbrev mX11_seenIn : Nat := 229
abbrev mX11_seen : Nat := 230
abbrev mX11_forget : Nat := 231
abbrev mX11_lastSeen : Nat := 232
abbrev mX11_isFine : Nat := 233
abbrev mX11_laysSeen : Nat := 234
abbrev mX11_ordered : Nat := 235
abbrev mX11_unsure : Nat := 236
abbrev mX11_boyBegins : Nat := 237
abbrev mX11_boyGoes : Nat := 238
abbrev mX11_canRest : Nat := 239
abbrev mX11_boy : Nat := 240
abbrev mX11_meets : Nat := 241
abbrev mX11_knows : Nat := 242
abbrev mX11_keeps : Nat := 243
abbrev mX11_isRest : Nat := 244
abbrev mX11_mutiny : Nat := 245
abbrev mX11_chance : Nat := 246
abbrev mX11_voyages : Nat := 247
abbrev mX11_keep : Nat := 248
abbrev mX11_again : Nat := 249
abbrev mX11_count : Nat := 250
abbrev mX11_row : Nat := 251
abbrev mJ6_bitCount_0f7a4 : Nat := 252
abbrev mJ0_length_8abf5 : Nat := 253
abbrev mJ0_charAt_5068e : Nat := 254
abbrev mJ7_fill_53178 : Nat := 255
abbrev mL_law : Nat := 256
end
section
/-! CALLS -/
def byJ : List (List Int32) := [[48, 49, 50, 51, 52, 53, 54, 55, 56], [108, 112, 120, 110], [60, 62, 61], [43, 45], [42, 47], [60, 61, 62, 112, 49, 50, 51, 52, 53, 54, 55, 56, 57]]
def leJ : List Nat := [9, 4, 3, 2, 2, 13]
/-- what of the heap no call changes: the texts, and statics -/
def U2 (adK adV : Nat → Nat) (A : Nat → Prop) (U : State) (H : Heap) : Prop :=
  vk_S 6 leJ byJ adK adV A U H ∧ va_Z "java/lang/String" "COMPACT_STRINGS" "Z" (.int 1) A U H ∧ va_Zq "jdk/internal/util/Preconditions" "SIOOBE_FORMATTER" "Ljava/util/function/BiFunction;" A U H ∧ vx_Zq "java/lang/Throwable" "UNASSIGNED_STACK" "[Ljava/lang/StackTraceElement;" A U H ∧ vx_Zq "java/lang/Throwable" "SUPPRESSED_SENTINEL" "Ljava/util/List;" A U H
theorem U2.moved {adK adV : Nat → Nat} {A : Nat → Prop} {u U : State} {H : Heap} (hvm : u.vm.Alike U.vm) (h : U2 adK adV A u H) : U2 adK adV A U H :=
  ⟨vk_S.moved hvm h.1, va_Z.moved hvm h.2.1, va_Zq.moved hvm h.2.2.1, vx_Zq.moved hvm h.2.2.2.1, vx_Zq.moved hvm h.2.2.2.2⟩
theorem U2.kept {adK adV : Nat → Nat} {A : Nat → Prop} {U : State} {H H1 : Heap} (h : U2 adK adV A U H) (hq : ∀ a : Nat, a < H.size → ¬ A a → H1[a]? = H[a]?) : U2 adK adV A U H1 :=
  ⟨vk_S.kept h.1 hq, va_Z.kept h.2.1 hq, va_Zq.kept h.2.2.1 hq, vx_Zq.kept h.2.2.2.1 hq, vx_Zq.kept h.2.2.2.2 hq⟩
theorem U2.narrow {adK adV : Nat → Nat} {A B : Nat → Prop} {U : State} {H : Heap} (h : U2 adK adV A U H) (hAB : ∀ q, B q → A q) : U2 adK adV B U H :=
  ⟨vk_S.narrow h.1 hAB, va_Z.narrow h.2.1 hAB, va_Zq.narrow h.2.2.1 hAB, vx_Zq.narrow h.2.2.2.1 hAB, vx_Zq.narrow h.2.2.2.2 hAB⟩
/-- the room of a method whose calls go d deep -/
def rmd (d mc ms : Nat) : Room := { frames := d + 1, cells := mc, slots := ms, locals := 60 * d + 100 }
def mws (mi : MI) : List Jvm.Cond := Jvm.Cond.code mi.1 mi.2.1 mi.2.2.1 mi.2.2.2.1 :: GW
def mPc (cy : Nat → ClassId) (dC : Nat → ClassId) (dI : Nat → Nat → Nat) (adK adV ad : Nat → Nat) (as : List Value) (h : aH) (sz : Nat) : Array Value → State → Prop :=
  va_Pc (as.map (cv ad)) (fun U => U.heap.size = sz ∧ va_P (dC, dI) vwCl (wd cy ad h) U.heap ∧ U1 cy dC dI adK U ∧ va_D (fun _ => True) (wd cy ad h) ∧ U2 adK adV (va_A (wd cy ad h) sz) U U.heap)
def mQc (cy : Nat → ClassId) (dC : Nat → ClassId) (dI : Nat → Nat → Nat) (ad : Nat → Nat) (h : aH) (sz mc : Nat) (Q : QT) : Array Value → State → Outcome → State → Prop := fun _ st o t =>
  (∃ (rv : Option Value) (h' : aH) (ad' : Nat → Nat), o = .returned (rv.map (cv ad')) ∧ Q rv h' ∧ (∀ j, j < h.1.length ∨ 1000000 ≤ j → ad' j = ad j) ∧ (mc = 0 → ad' = ad) ∧ h.1.length ≤ h'.1.length ∧ h'.1.length < 1000000 ∧ RV h' ∧
    va_P (dC, dI) vwCl (wd cy ad' h') t.heap ∧ va_D (va_A (wd cy ad h) sz) (wd cy ad' h')) ∧ va_F (va_A (wd cy ad h) sz) st t
/-- a method keeps what is said of it, at this depth -/
def MetOK (l : Launch) (d mid : Nat) (as : List Value) (h : aH) (mc ms : Nat) (Q : QT) : Prop := ∀ mi, mtab[mid]? = some mi → ∀ (cy : Nat → ClassId) (dC : Nat → ClassId) (dI : Nat → Nat → Nat) (adK adV ad : Nat → Nat) (sz : Nat),
  (∀ i, i < 6 → ad (1000000 + i) = adK i) → h.1.length < 1000000 → RV h → Met l mi.1 (mws mi) (rmd d mc ms) (mPc cy dC dI adK adV ad as h sz) (mQc cy dC dI ad h sz mc Q) mc ms (va_A (wd cy ad h) sz)
/-- what the tables say of a call -/
def cfc (own : String) (i : Instr) (r1 r2 : Nat) (r3 : Int) : Prop :=
  match r2 with
  | 10 => ∃ idx, i = .invokestatic idx ∧ Jvm.Cond.methodLink own idx Lib.Math.max.name ∈ GW
  | 11 => ∃ idx, i = .invokestatic idx ∧ Jvm.Cond.methodLink own idx Lib.Math.min.name ∈ GW
  | 12 => ∃ idx, i = .invokestatic idx ∧ Jvm.Cond.methodLink own idx Lib.Math.abs.name ∈ GW
  | 13 => ∃ idx, i = .invokestatic idx ∧ Jvm.Cond.methodLink own idx arraycopyName ∈ GW
  | 14 => ∃ idx, i = .invokespecial idx ∧ Jvm.Cond.methodLink own idx objectInit ∈ GW
  | 0 => ∃ idx mi, i = .invokevirtual idx ∧ mtab[r1]? = some mi ∧ Jvm.Cond.methodLink own idx mi.1 ∈ GW ∧ Jvm.Cond.instanceMethod mi.1 ∈ GW ∧ Jvm.Cond.selects mi.1.cls mi.1 mi.1 ∈ GW ∧ (r3 / 100).toNat < 12 ∧ mi.1.cls = wdN (r3 / 100).toNat ∧ minst.getD r1 false = true
  | 5 => ∃ idx mi, i = .invokevirtual idx ∧ mtab[r1]? = some mi ∧ Jvm.Cond.methodLink own idx mi.1 ∈ GW ∧ Jvm.Cond.instanceMethod mi.1 ∈ GW ∧ Jvm.Cond.selects mi.1.cls mi.1 mi.1 ∈ GW ∧ mi.1.cls = "java/lang/String" ∧ minst.getD r1 false = true
  | 1 => ∃ idx mi, i = .invokestatic idx ∧ mtab[r1]? = some mi ∧ Jvm.Cond.methodLink own idx mi.1 ∈ GW ∧ Jvm.Cond.static mi.1 ∈ GW ∧ minst.getD r1 false = false
  | 3 => ∃ idx mi, i = .invokestatic idx ∧ mtab[r1]? = some mi ∧ Jvm.Cond.methodLinkNest own idx mi.1 RX10 ∈ nestW ∧ Jvm.Cond.static mi.1 ∈ GW ∧ minst.getD r1 false = false
  | 2 => ∃ idx mi, i = .invokespecial idx ∧ mtab[r1]? = some mi ∧ Jvm.Cond.methodLink own idx mi.1 ∈ GW ∧ Jvm.Cond.instanceMethod mi.1 ∈ GW ∧ mi.1.name = "<init>" ∧ mi.2.2.2.1 = none ∧ minst.getD r1 false = true
  | 4 => ∃ idx mi, i = .invokespecial idx ∧ mtab[r1]? = some mi ∧ Jvm.Cond.methodLinkNest own idx mi.1 RX10 ∈ nestW ∧ Jvm.Cond.instanceMethod mi.1 ∈ GW ∧ mi.1.name = "<init>" ∧ mi.2.2.2.1 = none ∧ minst.getD r1 false = true
  | _ => False
/-- what the tables say of a method; the last number: its arguments without the receiver -/
def mok (mi : MI) (n : Nat) : Prop := Jvm.Cond.code mi.1 mi.2.1 mi.2.2.1 mi.2.2.2.1 ∈ GW ∧ Jvm.Cond.initialized mi.1.cls ∈ GW ∧ plainName mi.1.cls = true ∧ mi.1.cls ≠ "java/lang/invoke/MethodHandle" ∧ mi.1.cls ≠ "java/lang/invoke/VarHandle" ∧ (parseMethodDescriptor mi.1.desc).map (fun d => d.parameters.length) = some n ∧ mi.2.2.1 ≤ 40
theorem GW_good {ws : List Jvm.Cond} (h : ∀ w ∈ ws, w ∈ GW) : GoodIn GW ws := fun w hw => ⟨h w hw, good_of_word (List.mem_filter.mp (h w hw)).2⟩
theorem argc_app (n : Nat) (st : List Value) : (argc n st).reverse ++ st.drop n = st := by
  unfold argc
  rw [List.reverse_reverse, List.take_append_drop]
section SND3
variable {p : Program} {l : Launch} {e : Env} {R : Room} {s : State} {m : MethodId} {args : Array Value} {below : List Frame} {meth : Method} {c : Code} {Z : State → Prop}
variable {cc : ByteArray} {nL : Nat} {own : String} {isI : Bool} {ret : Option FieldType}
variable {cy : Nat → ClassId} {dC : Nat → ClassId} {dI : Nat → Nat → Nat} {A : Nat → Prop} {ad0 : Nat → Nat} {bz n0 C S : Nat} {adK adV : Nat → Nat}
theorem ab_call {H : Heap} {locs : List Loc} {cells slots mc ms : Nat} {pc : Nat} {ls : Array Slot} {rest st0 : List Value} {Qa : State → Outcome → State → Prop} {A1 : Nat → Prop} {free : Addr → Prop} {Q : State → Prop} {H0 : Heap}
    (hr : va_Run p l e R s m args below meth c H locs cells slots mc ms (F0 m pc ls st0) rest Qa free) (hS : va_S A H0 H locs) (hA : ∀ q, A1 q → A q) (hf : ∀ q, free q → A q) (hF : ∀ st o t, Qa st o t → va_F A1 st t)
    (kk : ∀ (v : Option Value) (st₀ t : State) (H1 : Heap) (locs1 : List Loc), st₀.heap = H → t.heap = H1 → Qa st₀ (.returned v) t → va_S A H0 H1 locs1 → W p l e R s m args below meth c H1 locs1 (cells + mc) (slots + ms) Q (F0 m (pc + 3) ls (v.toList ++ rest))) :
    W p l e R s m args below meth c H locs cells slots Q (F0 m pc ls st0) := by
  intro T hT X
  obtain ⟨v, st₀, t, T', L, h0, X', hL, e1, e2, hq, st⟩ := hr T hT X
  obtain ⟨hz, hk⟩ := hF _ _ _ hq
  rw [h0] at hz hk
  obtain ⟨t2, a1, b1⟩ := kk v st₀ t T'.heap (locs ++ L) h0 e1.symm hq
    ⟨Nat.le_trans hS.1 (by rw [e1]; exact hz), fun q h1 h2 => by rw [e1, hk q (Nat.lt_of_lt_of_le h1 hS.1) (fun z => h2 (hA q z))]; exact hS.2.1 q h1 h2, fun q hq => by
      rcases List.mem_append.mp hq with h | h
      · exact hS.2.2 q h
      · exact hf _ (hL q h)⟩ T' rfl X'
  exact ⟨t2, st t2 a1, b1⟩
theorem mPc_blind {as : List Value} {h : aH} {sz : Nat} {ad : Nat → Nat} : FrameBlind (mPc cy dC dI adK adV ad as h sz) := by
  intro a U g mk q
  obtain ⟨q0, q1, q2, q3, q4, q5⟩ := q
  exact ⟨q0, q1, q2, U1.same (u := U) rfl q3, q4, U2.moved (u := U) (Vm.Alike.refl U.vm) q5⟩
theorem wd_free {ad : Nat → Nat} {h : aH} {H0 H : Heap} {locs : List Loc} (hD : va_D A (wd cy ad h)) (hS : va_S A H0 H locs) (hA : ∀ q, H0.size ≤ q → A q) : ∀ q, va_A (wd cy ad h) H.size q → A q := by
  intro q hq
  rcases hq with ⟨k, e9, h9⟩ | h9
  · exact hD.2 k _ h9
  · exact hA q (Nat.le_trans hS.1 h9)
/-- the callee's start, from here -/
theorem mPc_here {ad : Nat → Nat} {as : List Value} {h : aH} {H : Heap} {locs : List Loc} (hU1 : U1 cy dC dI adK s) (hU2 : U2 adK adV A s s.heap) (hA : ∀ q, s.heap.size ≤ q → A q) (hS : Std cy dC dI A s.heap ad h H locs) : ∀ U : State, U.heap = H → s.WarmedH U.vm → mPc cy dC dI adK adV ad as h H.size (as.map (cv ad)).toArray U := by
  intro U hU hW
  obtain ⟨hP, hD, hSS, -⟩ := hS
  refine ⟨rfl, by rw [hU], by rw [hU]; exact hP, U1.warm hW hU1, hD.weaken (fun _ _ _ _ => trivial), ?_⟩
  rw [hU]
  exact ((hU2.kept hSS.2.1).narrow (wd_free hD hSS hA)).moved hW.alike
/-- behind the callee -/
theorem mQc_kk {K : KT} (hU1 : U1 cy dC dI adK s) (hA : ∀ q, s.heap.size ≤ q → A q) (hK : GO p l e R s m args below meth c Z nL cy dC dI A ad0 bz n0 C S K)
    {pc : Nat} {ls : List (Nat × Value)} {rest : List Value} {h : aH} {bc bs mc ms : Nat} {ad : Nat → Nat} {arr : Array Slot} {H : Heap} {locs : List Loc} {cells slots : Nat} {free : Addr → Prop} {st0 : List Value} {a : Array Value}
    (hmc : mc ≤ bc) (hms : ms ≤ bs) (hok : mc = 0 ∨ ((ls.all fun q => okv h q.2) = true ∧ (rest.all fun v => okv h v) = true))
    (had : HAD bz n0 ad0 ad bc) (hn0 : n0 ≤ h.1.length) (hS : Std cy dC dI A s.heap ad h H locs) (hl : lv_has arr nL (cvl ad ls)) (hc : cells + bc ≤ C) (hs : slots + bs ≤ S) (hf : ∀ q, free q → A q)
    (hr : va_Run p l e R s m args below meth c H locs cells slots mc ms (F0 m pc arr st0) (rest.map (cv ad)) (mQc cy dC dI ad h H.size mc (fun v h' => K (pc + 3) ls (psh v rest) h' (bc - mc) (bs - ms)) a) free) :
    W p l e R s m args below meth c H locs cells slots Z (F0 m pc arr st0) := by
  have hfree := wd_free hS.2.1 hS.2.2.1 hA
  refine ab_call hr hS.2.2.1 hfree hf (fun st o t q => q.2) (fun v st₀ t H1 locs1 e0 e1 hq hS1 => ?_)
  obtain ⟨⟨rv, h', ad', ho, hk, hd1, hd2, hle, hsm', hRV', hP', hD'⟩, -⟩ := hq
  cases ho
  rw [e1] at hP'
  have had' : HAD bz n0 ad0 ad' (bc - mc) := by
    refine ⟨fun j hj => ?_, by have := had.2.1; omega, fun hz => ?_⟩
    · rw [hd1 j (by omega)]
      exact had.1 j hj
    · rw [hd2 (by have := had.2.1; omega)]
      exact had.2.2 hz
  have ecl : cvl ad' ls = cvl ad ls := by
    rcases hok with h9 | ⟨h9, -⟩
    · rw [hd2 h9]
    · exact cvl_ok h9 hd1
  have ecr : rest.map (cv ad') = rest.map (cv ad) := by
    rcases hok with h9 | ⟨-, h9⟩
    · rw [hd2 h9]
    · exact cvs_ok h9 hd1
  have := hK _ _ _ _ _ _ hk ad' arr H1 locs1 (cells + mc) (slots + ms) had' (Nat.le_trans hn0 hle) hsm' ⟨hP', hD'.weaken (fun _ q _ h9 => hfree q.1 h9), hS1, hRV'⟩ (by rw [ecl]; exact hl) (by omega) (by omega)
  have ep : (psh rv rest).map (cv ad') = (rv.map (cv ad')).toList ++ rest.map (cv ad) := by
    unfold psh
    rw [List.map_append, ecr]
    cases rv <;> rfl
  rw [ep] at this
  exact this
end SND3
end
section
/-! A CALL IS THE MACHINE'S; and the whole run -/
def mathW : List Jvm.Cond := [.static Lib.Math.max.name, .code Lib.Math.max.name Lib.Math.max.code 2 (some .int), .static Lib.Math.min.name, .code Lib.Math.min.name Lib.Math.min.code 2 (some .int), .static Lib.Math.abs.name, .code Lib.Math.abs.name Lib.Math.abs.code 1 (some .int), .initialized "java/lang/Math", .native arraycopyName, .static arraycopyName, .initialized "java/lang/System", .instanceMethod objectInit, .code objectInit ⟨#[0xb1]⟩ 1 none]
section SND4
variable {p : Program} {l : Launch} {e : Env} {R : Room} {s : State} {m : MethodId} {args : Array Value} {below : List Frame} {meth : Method} {c : Code} {Z : State → Prop}
variable {cc : ByteArray} {nL : Nat} {own : String} {isI : Bool} {ret : Option FieldType}
variable {cy : Nat → ClassId} {dC : Nat → ClassId} {dI : Nat → Nat → Nat} {A : Nat → Prop} {ad0 : Nat → Nat} {bz n0 C S : Nat} {adK adV : Nat → Nat}
set_option maxHeartbeats 2000000 in
theorem snd_call {CL : CT} {K : KT} {d : Nat} (hx : p.tables.exec = Jvm.exec) (hb : c.code = cc) (hml : c.maxLocals = nL) (hown : s.vm.findClass own = some m.cls) (hts : ∀ w ∈ GW, w.before args s = true) (hU1 : U1 cy dC dI adK s) (hU2 : U2 adK adV A s s.heap) (hA : ∀ q, s.heap.size ≤ q → A q) (hstr : ∀ i, i < 6 → ad0 (1000000 + i) = adK i) (hCR : C ≤ R.cells) (hSR : S ≤ R.slots) (hRf : d + 2 ≤ R.frames) (hRl : 60 * d + 160 ≤ R.locals)
    (hmath : ∀ w ∈ mathW, w ∈ GW) (hmok : ∀ (k : Nat) (mi : MI), mtab[k]? = some mi → ∃ n, mok mi n ∧ mi.2.2.2.2.2.2 = if minst.getD k false = true then n + 1 else n)
    (hCL : ∀ mid as h mc ms Q, CL mid as h mc ms Q → MetOK l d mid as h mc ms Q) (hK : GO p l e R s m args below meth c Z nL cy dC dI A ad0 bz n0 C S K)
    {i : Instr} {r1 r2 : Nat} {r3 : Int} {pc : Nat} {ls : List (Nat × Value)} {st : List Value} {h : aH} {bc bs : Nat} (hd : decode cc pc = .ok (i, 3)) (hcf : cfc own i r1 r2 r3) (hna : ∀ mi, mtab[r1]? = some mi → r2 < 10 → (r3 % 100).toNat = mi.2.2.2.2.2.2) (hst : s_call CL K r1 r2 r3 pc ls st h bc bs)
    {ad : Nat → Nat} {arr : Array Slot} {H : Heap} {locs : List Loc} {cells slots : Nat} (had : HAD bz n0 ad0 ad bc) (hn0 : n0 ≤ h.1.length) (hsm : h.1.length < 1000000) (hS : Std cy dC dI A s.heap ad h H locs) (hl : lv_has arr nL (cvl ad ls)) (hc : cells + bc ≤ C) (hs : slots + bs ≤ S) :
    W p l e R s m args below meth c H locs cells slots Z (F0 m pc arr (st.map (cv ad))) := by
  have go : ∀ {pc' : Nat} {ls' : List (Nat × Value)} {st' : List Value}, K pc' ls' st' h bc bs → ∀ {arr' : Array Slot}, lv_has arr' nL (cvl ad ls') → W p l e R s m args below meth c H locs cells slots Z (F0 m pc' arr' (st'.map (cv ad))) := fun k _ hl' => hK _ _ _ _ _ _ k ad _ H locs cells slots had hn0 hsm hS hl' hc hs
  have hsz : c.maxLocals = arr.size := by rw [hl.1]; exact hml
  have hw : ∀ w ∈ mathW, w.before args s = true := fun w h9 => hts w (hmath w h9)
  have hfree := wd_free hS.2.1 hS.2.2.1 hA
  -- a method of the tables
  have gen : ∀ (mi : MI), mtab[r1]? = some mi → r2 < 10 → catsum (st.drop (r3 % 100).toNat) ≤ 8 → (r3 % 100).toNat ≤ st.length → (∃ mc ms, mc ≤ bc ∧ ms ≤ bs ∧ (mc = 0 ∨ ((ls.all fun q => okv h q.2) = true ∧ ((st.drop (r3 % 100).toNat).all fun v => okv h v) = true)) ∧
      CL r1 (argc (r3 % 100).toNat st) h mc ms (fun v h' => K (pc + 3) ls (psh v (st.drop (r3 % 100).toNat)) h' (bc - mc) (bs - ms))) →
      (∀ mc ms (Qc : Array Value → State → Outcome → State → Prop), mc ≤ bc → ms ≤ bs → Met l mi.1 (mws mi) (rmd d mc ms) (mPc cy dC dI adK adV ad (argc (r3 % 100).toNat st) h H.size) Qc mc ms (va_A (wd cy ad h) H.size) →
        va_Run p l e R s m args below meth c H locs cells slots mc ms (F0 m pc arr (st.map (cv ad))) ((st.drop (r3 % 100).toNat).map (cv ad)) (Qc ((argc (r3 % 100).toNat st).map (cv ad)).toArray) (va_A (wd cy ad h) H.size)) →
      W p l e R s m args below meth c H locs cells slots Z (F0 m pc arr (st.map (cv ad))) := by
    intro mi hmi _ _ _ hmc run
    obtain ⟨mc, ms, h1, h2, h3, h4⟩ := hmc
    have hM := hCL _ _ _ _ _ _ h4 mi hmi cy dC dI adK adV ad H.size (fun i hi => by rw [had.1 _ (Or.inr (by omega)), hstr i hi]) hsm hS.2.2.2
    exact mQc_kk hU1 hA hK h1 h2 h3 had hn0 hS hl hc hs hfree (run mc ms _ h1 h2 hM)
  have catc : ∀ k, catsum (st.drop k) ≤ 8 → 2 * (F0 m pc arr (st.map (cv ad))).monitorRoom + (((st.drop k).map (cv ad)).map fun v => v.category).sum ≤ 8 := fun k h9 => lv_room (by have := catsum_cv ad (st.drop k); unfold catsum at this; rw [this]; exact h9)
  have hstk : st.map (cv ad) = ((argc (r3 % 100).toNat st).map (cv ad)).reverse ++ (st.drop (r3 % 100).toNat).map (cv ad) := by
    rw [← List.map_reverse, ← List.map_append, argc_app]
  have hlen : (r3 % 100).toNat ≤ st.length → (argc (r3 % 100).toNat st).length = (r3 % 100).toNat := fun h9 => by unfold argc; rw [List.length_reverse, List.length_take]; omega
  have hR1 : ∀ (mi : MI) (mc ms : Nat), mi.2.2.1 ≤ 40 → (rmd d mc ms).frames + 1 ≤ R.frames ∧ 8 + (mi.2.2.1 + 11) + (rmd d mc ms).locals ≤ R.locals := fun mi mc ms h9 => ⟨hRf, by show 8 + (mi.2.2.1 + 11) + (60 * d + 100) ≤ _; omega⟩
  have hcf0 : CallFix p m c cc nL s args GW own := ⟨hx, hb, hml, hown, hts⟩
  unfold s_call at hst
  unfold cfc at hcf
  split at hst
  · obtain ⟨idx, rfl, hw1⟩ := hcf
    obtain ⟨x, y, r, rfl, h8, k⟩ := pii_inv hst
    have e8 := catsum_cv ad r
    refine va_mmax hx hb hsz hown (hts _ hw1) (hw _ (by simp [mathW])) (hw _ (by simp [mathW])) (hw _ (by simp [mathW])) (by omega) ?_ (by omega) (by omega) hd (go k hl)
    show catsum (r.map (cv ad)) + 13 ≤ _
    omega
  · obtain ⟨idx, rfl, hw1⟩ := hcf
    obtain ⟨x, y, r, rfl, h8, k⟩ := pii_inv hst
    have e8 := catsum_cv ad r
    refine va_mmin hx hb hsz hown (hts _ hw1) (hw _ (by simp [mathW])) (hw _ (by simp [mathW])) (hw _ (by simp [mathW])) (by omega) ?_ (by omega) (by omega) hd (go k hl)
    show catsum (r.map (cv ad)) + 13 ≤ _
    omega
  · obtain ⟨idx, rfl, hw1⟩ := hcf
    obtain ⟨x, r, rfl, h8, k⟩ := pi_inv hst
    have e8 := catsum_cv ad r
    refine va_mabs hx hb hsz hown (hts _ hw1) (hw _ (by simp [mathW])) (hw _ (by simp [mathW])) (hw _ (by simp [mathW])) (by omega) ?_ (by omega) (by omega) hd (go k hl)
    show catsum (r.map (cv ad)) + 13 ≤ _
    omega
  · obtain ⟨idx, rfl, hw1⟩ := hcf
    obtain ⟨a0, sp, a1, dp, n, r, rfl, h8, ⟨k0, k1, hs0, hs1, g1, g2, g3, g4, g5⟩, k⟩ := pcp_inv hst
    have e8 := catsum_cv ad r
    obtain ⟨hP, hD, hSS, hRV⟩ := hS
    have he0 := wd_get (cy := cy) (ad := ad) hs0
    rw [enS_arr _ _ _ _ (by omega)] at he0
    have he1 := wd_get (cy := cy) (ad := ad) hs1
    rw [enS_arr _ _ _ _ (by omega)] at he1
    refine va_copyi hx hb hsz hown (hts _ hw1) (hw _ (by simp [mathW])) (hw _ (by simp [mathW])) (hw _ (by simp [mathW])) hU1.1 hP hD hSS a0 a1 0 0 he0 he1 rfl rfl rfl g1 g2 g3 g4 g5 (fun _ _ => rfl) (by omega) ?_ hd (fun H1 locs1 hP1 hD1 hS1 => ?_)
    · have e9 : nativeFrameWords "java/lang/System" "arraycopy" 5 + 11 ≤ 100 := by decide +kernel
      show catsum (r.map (cv ad)) + _ ≤ _
      omega
    · rw [wd_sC hs1] at hP1 hD1
      exact hK _ _ _ _ _ _ k ad _ H1 locs1 cells slots had hn0 hsm ⟨hP1, hD1, hS1, RV_sC hRV⟩ hl hc hs
  · obtain ⟨idx, rfl, hw1⟩ := hcf
    obtain ⟨a, r, rfl, h8, k⟩ := pr_inv hst
    have e8 := catsum_cv ad r
    refine W.objInit hx hb hown (hts _ hw1) (hw _ (by simp [mathW])) (hw _ (by simp [mathW])) rfl (by rw [hsz]) rfl hd (by omega) ?_ (go k hl)
    show 2 * 0 + catsum (r.map (cv ad)) + 12 ≤ _
    omega
  · rename_i n1 n2 n3 n4 n5
    obtain ⟨h8, hle, hrc, hmc⟩ := hst
    split at hcf
    · exact absurd rfl n1
    · exact absurd rfl n2
    · exact absurd rfl n3
    · exact absurd rfl n4
    · exact absurd rfl n5
    · -- 0: a method of an object
      obtain ⟨idx, mi, rfl, hmi, w1, w2, w3, hci, hcls, hin⟩ := hcf
      obtain ⟨n, ⟨k1, k2, k3, k4, k5, k6, k7⟩, hn⟩ := hmok _ _ hmi
      rw [hin, if_pos rfl] at hn
      obtain ⟨b, rs, hbr, hsh⟩ := hrc
      refine gen mi hmi (by omega) h8 hle hmc (fun mc ms Qc hmc hms hM => ?_)
      have he := wd_get (cy := cy) (ad := ad) hsh
      rw [enS_obj] at he
      obtain ⟨C', T, N, ty, c1, -, -, -, -, -, c7, -⟩ := cls_ok hci
      have hrv := va_recv hU1.1 hS.1 c1 he
      have hl1 := hlen hle
      rw [hbr] at hl1
      have hr := va_runV (e := e) (meth := meth) (below := below) (locs := locs) (cells := cells) (slots := slots) (C := mi.1.cls) (b := ad b) (As := rs.map (cv ad)) (rest := (st.drop (r3 % 100).toNat).map (cv ad)) (g := F0 m pc arr (st.map (cv ad))) (nL := nL) (n := n) hcf0 hM
        (cwV n hts (GW_good (fun w hw => by
          rcases List.mem_append.mp (show w ∈ ([.methodLink own idx mi.1, .instanceMethod mi.1, .selects mi.1.cls mi.1 mi.1, .initialized mi.1.cls] : List Jvm.Cond) ++ mws mi from hw) with h9 | h9
          · simp only [List.mem_cons, List.not_mem_nil, or_false] at h9
            rcases h9 with rfl | rfl | rfl | rfl
            · exact w1
            · exact w2
            · exact w3
            · exact k2
          · rcases List.mem_cons.mp h9 with rfl | h9
            · exact k1
            · exact h9)) rfl rfl rfl ⟨rfl, k4, k5, k6⟩ (hR1 mi mc ms k7))
        ⟨mPc_blind, by rw [hcls, ← c7]; exact hrv, fun U hU hW => by
          have := mPc_here (as := argc (r3 % 100).toNat st) hU1 hU2 hA hS U hU hW
          rw [hbr] at this ⊢
          exact this⟩ rfl (by
            rw [List.length_map]
            have := hna mi hmi (by omega)
            simp at hl1
            omega) hl.1 (by
            show st.map (cv ad) = _
            rw [hstk, hbr]
            simp [cv]) (catc _ h8) hd (by omega)
      rw [hbr]
      exact hr
    · -- 5: a method of a text
      obtain ⟨idx, mi, rfl, hmi, w1, w2, w3, hcls, hin⟩ := hcf
      obtain ⟨n, ⟨k1, k2, k3, k4, k5, k6, k7⟩, hn⟩ := hmok _ _ hmi
      rw [hin, if_pos rfl] at hn
      obtain ⟨b, rs, hbr, hb6⟩ := hrc
      refine gen mi hmi (by omega) h8 hle hmc (fun mc ms Qc hmc hms hM => ?_)
      have hrv := vk_recv hU2.1 hb6 hS.2.2.1
      have eb : ad (1000000 + b) = adK b := by rw [had.1 _ (Or.inr (by omega)), hstr b hb6]
      rw [← eb] at hrv
      have hl1 := hlen hle
      rw [hbr] at hl1
      have hr := va_runV (e := e) (meth := meth) (below := below) (locs := locs) (cells := cells) (slots := slots) (C := mi.1.cls) (b := ad (1000000 + b)) (As := rs.map (cv ad)) (rest := (st.drop (r3 % 100).toNat).map (cv ad)) (g := F0 m pc arr (st.map (cv ad))) (nL := nL) (n := n) hcf0 hM
        (cwV n hts (GW_good (fun w hw => by
          rcases List.mem_append.mp (show w ∈ ([.methodLink own idx mi.1, .instanceMethod mi.1, .selects mi.1.cls mi.1 mi.1, .initialized mi.1.cls] : List Jvm.Cond) ++ mws mi from hw) with h9 | h9
          · simp only [List.mem_cons, List.not_mem_nil, or_false] at h9
            rcases h9 with rfl | rfl | rfl | rfl
            · exact w1
            · exact w2
            · exact w3
            · exact k2
          · rcases List.mem_cons.mp h9 with rfl | h9
            · exact k1
            · exact h9)) rfl rfl rfl ⟨rfl, k4, k5, k6⟩ (hR1 mi mc ms k7))
        ⟨mPc_blind, by rw [hcls]; exact hrv, fun U hU hW => by
          have := mPc_here (as := argc (r3 % 100).toNat st) hU1 hU2 hA hS U hU hW
          rw [hbr] at this ⊢
          exact this⟩ rfl (by
            rw [List.length_map]
            have := hna mi hmi (by omega)
            simp at hl1
            omega) hl.1 (by
            show st.map (cv ad) = _
            rw [hstk, hbr]
            simp [cv]) (catc _ h8) hd (by omega)
      rw [hbr]
      exact hr
    · -- 1: static
      obtain ⟨idx, mi, rfl, hmi, w1, w2, hin⟩ := hcf
      obtain ⟨n, ⟨k1, k2, k3, k4, k5, k6, k7⟩, hn⟩ := hmok _ _ hmi
      rw [hin, if_neg (by decide)] at hn
      refine gen mi hmi (by omega) h8 hle hmc (fun mc ms Qc hmc hms hM => ?_)
      exact va_runS (As := (argc (r3 % 100).toNat st).map (cv ad)) (rest := (st.drop (r3 % 100).toNat).map (cv ad)) (g := F0 m pc arr (st.map (cv ad))) (nL := nL) (n := n) hcf0 hM
        (va_cwS n hts (GW_good (fun w hw => by
          rcases List.mem_append.mp (show w ∈ ([.methodLink own idx mi.1, .static mi.1, .initialized mi.1.cls] : List Jvm.Cond) ++ mws mi from hw) with h9 | h9
          · simp only [List.mem_cons, List.not_mem_nil, or_false] at h9
            rcases h9 with rfl | rfl | rfl
            · exact w1
            · exact w2
            · exact k2
          · rcases List.mem_cons.mp h9 with rfl | h9
            · exact k1
            · exact h9)) rfl rfl rfl ⟨k4, k5, k6⟩ (hR1 mi mc ms k7))
        ⟨mPc_blind, mPc_here hU1 hU2 hA hS⟩ rfl (by
            rw [List.length_map, hlen hle]
            have := hna mi hmi (by omega)
            omega) hl.1 hstk (catc _ h8) hd (by omega)
    · -- 3: static, a nest mate's
      obtain ⟨idx, mi, rfl, hmi, w1, w2, hin⟩ := hcf
      obtain ⟨n, ⟨k1, k2, k3, k4, k5, k6, k7⟩, hn⟩ := hmok _ _ hmi
      rw [hin, if_neg (by decide)] at hn
      refine gen mi hmi (by omega) h8 hle hmc (fun mc ms Qc hmc hms hM => ?_)
      exact va_runSN (host := RX10) (As := (argc (r3 % 100).toNat st).map (cv ad)) (rest := (st.drop (r3 % 100).toNat).map (cv ad)) (g := F0 m pc arr (st.map (cv ad))) (nL := nL) (n := n) hcf0 hM
        ⟨va_cnB n hts (GW_good (fun w hw => by
          rcases List.mem_cons.mp hw with rfl | h9
          · exact k1
          · exact h9)) rfl rfl rfl (hU1.2.2.2.2.1 _ w1) (hts _ k2) ⟨k4, k5, k6⟩ (hR1 mi mc ms k7), hts _ w2, trivial⟩
        ⟨mPc_blind, mPc_here hU1 hU2 hA hS⟩ rfl (by
            rw [List.length_map, hlen hle]
            have := hna mi hmi (by omega)
            omega) hl.1 hstk (catc _ h8) hd (by omega)
    · -- 2: a constructor
      obtain ⟨idx, mi, rfl, hmi, w1, w2, hnm, hret, hin⟩ := hcf
      obtain ⟨n, ⟨k1, k2, k3, k4, k5, k6, k7⟩, hn⟩ := hmok _ _ hmi
      rw [hin, if_pos rfl] at hn
      obtain ⟨b, rs, hbr⟩ := hrc
      refine gen mi hmi (by omega) h8 hle hmc (fun mc ms Qc hmc hms hM => ?_)
      have hl1 := hlen hle
      rw [hbr] at hl1
      have hr := va_runI (e := e) (meth := meth) (below := below) (locs := locs) (cells := cells) (slots := slots) (b := ad b) (As := rs.map (cv ad)) (rest := (st.drop (r3 % 100).toNat).map (cv ad)) (g := F0 m pc arr (st.map (cv ad))) (nL := nL) (n := n) hcf0 hM
        (cwI n hts (GW_good (fun w hw => by
          rcases List.mem_cons.mp hw with rfl | h9
          · exact k1
          · exact h9)) (by rw [← hret]; rfl) rfl rfl (hts _ k2) (hts _ w1) (hts _ w2) hnm ⟨k4, k5, k6⟩ (hR1 mi mc ms k7))
        ⟨mPc_blind, fun U hU hW => by
          have := mPc_here (as := argc (r3 % 100).toNat st) hU1 hU2 hA hS U hU hW
          rw [hbr] at this ⊢
          exact this⟩ rfl (by
            rw [List.length_map]
            have := hna mi hmi (by omega)
            simp at hl1
            omega) hl.1 (by
            show st.map (cv ad) = _
            rw [hstk, hbr]
            simp [cv]) (catc _ h8) hd (by omega)
      rw [hbr]
      exact hr
    · -- 4: a nest mate's constructor
      obtain ⟨idx, mi, rfl, hmi, w1, w2, hnm, hret, hin⟩ := hcf
      obtain ⟨n, ⟨k1, k2, k3, k4, k5, k6, k7⟩, hn⟩ := hmok _ _ hmi
      rw [hin, if_pos rfl] at hn
      obtain ⟨b, rs, hbr⟩ := hrc
      refine gen mi hmi (by omega) h8 hle hmc (fun mc ms Qc hmc hms hM => ?_)
      have hl1 := hlen hle
      rw [hbr] at hl1
      have hr := va_runIN (e := e) (meth := meth) (below := below) (locs := locs) (cells := cells) (slots := slots) (host := RX10) (b := ad b) (As := rs.map (cv ad)) (rest := (st.drop (r3 % 100).toNat).map (cv ad)) (g := F0 m pc arr (st.map (cv ad))) (nL := nL) (n := n) hcf0 hM
        ⟨va_cnB n hts (GW_good (fun w hw => by
          rcases List.mem_cons.mp hw with rfl | h9
          · exact k1
          · exact h9)) (by rw [← hret]; rfl) rfl rfl (hU1.2.2.2.2.1 _ w1) (hts _ k2) ⟨k4, k5, k6⟩ (hR1 mi mc ms k7), hnm, hts _ w2⟩
        ⟨mPc_blind, fun U hU hW => by
          have := mPc_here (as := argc (r3 % 100).toNat st) hU1 hU2 hA hS U hU hW
          rw [hbr] at this ⊢
          exact this⟩ rfl (by
            rw [List.length_map]
            have := hna mi hmi (by omega)
            simp at hl1
            omega) hl.1 (by
            show st.map (cv ad) = _
            rw [hstk, hbr]
            simp [cv]) (catc _ h8) hd (by omega)
      rw [hbr]
      exact hr
    · exact hcf.elim
end SND4
end
section
/-! THE RUN IS THE MACHINE'S: methods by their depth -/
/-- a row of code is what the bytes say, and its pool entries what the tables say -/
def rok (own : String) (isI : Bool) (nL : Nat) (cc : ByteArray) (q : Nat × Instr × Nat × Nat × Int) : Prop :=
  (∃ len, decode cc q.1 = .ok (q.2.1, len) ∧ (isSw q.2.1 = true ∨ len = lenI q.2.1)) ∧ cfx own isI q.1 q.2.1 q.2.2.1 q.2.2.2.1 q.2.2.2.2 ∧
  (match q.2.1 with
    | .invokevirtual _ => cfc own q.2.1 q.2.2.1 q.2.2.2.1 q.2.2.2.2 ∧ ∀ mi, mtab[q.2.2.1]? = some mi → q.2.2.2.1 < 10 → (q.2.2.2.2 % 100).toNat = mi.2.2.2.2.2.2
    | .invokespecial _ => cfc own q.2.1 q.2.2.1 q.2.2.2.1 q.2.2.2.2 ∧ ∀ mi, mtab[q.2.2.1]? = some mi → q.2.2.2.1 < 10 → (q.2.2.2.2 % 100).toNat = mi.2.2.2.2.2.2
    | .invokestatic _ => cfc own q.2.1 q.2.2.1 q.2.2.2.1 q.2.2.2.2 ∧ ∀ mi, mtab[q.2.2.1]? = some mi → q.2.2.2.1 < 10 → (q.2.2.2.2 % 100).toNat = mi.2.2.2.2.2.2
    | .istore k => k < nL
    | .astore k => k < nL
    | .iinc k _ => k < nL
    | .lstore k => k + 1 < nL
    | .istore_n k => (k : Nat) < nL
    | .astore_n k => (k : Nat) < nL
    | .lstore_n k => (k : Nat) + 1 < nL
    | _ => True)
/-- a method's code is in order -/
def acok (mi : MI) : Prop := ∀ q ∈ mi.2.2.2.2.1, rok mi.1.cls (decide (mi.1.name = "<init>")) mi.2.2.1 mi.2.1 q
/-- the run: what every closed K has -/
def wpl (CL : CT) (ac : AC) (ret : Option FieldType) (Q : QT) : KT := fun pc ls st h bc bs => ∀ K : KT, (∀ (pc : Nat) (ls : List (Nat × Value)) (st : List Value) (h : aH) (bc bs : Nat), (∃ (i : Instr) (r1 r2 : Nat) (r3 : Int), (pc, i, r1, r2, r3) ∈ ac ∧ stp CL ret Q K i r1 r2 r3 pc ls st h bc bs) → K pc ls st h bc bs) → K pc ls st h bc bs
/-- what GO asks at one place -/
def GK (p : Program) (l : Launch) (e : Env) (R : Room) (s : State) (m : MethodId) (args : Array Value) (below : List Frame) (meth : Method) (c : Code) (Z : State → Prop) (nL : Nat) (cy : Nat → ClassId) (dC : Nat → ClassId) (dI : Nat → Nat → Nat) (A : Nat → Prop) (ad0 : Nat → Nat) (bz n0 C S : Nat) : KT := fun pc ls st h bc bs =>
  ∀ (ad : Nat → Nat) (arr : Array Slot) (H : Heap) (locs : List Loc) (cells slots : Nat),
    HAD bz n0 ad0 ad bc → n0 ≤ h.1.length → h.1.length < 1000000 → Std cy dC dI A s.heap ad h H locs → lv_has arr nL (cvl ad ls) → cells + bc ≤ C → slots + bs ≤ S →
    W p l e R s m args below meth c H locs cells slots Z (F0 m pc arr (st.map (cv ad)))
/-- what a call does, by its depth; SP: what is said of methods that are not run by rows -/
def CLd (SP : CT) : Nat → CT
  | 0 => fun _ _ _ _ _ _ => False
  | d + 1 => fun mid as h mc ms Q => SP mid as h mc ms Q ∨ ∃ mi, mtab[mid]? = some mi ∧ catsum as ≤ mi.2.2.1 ∧ wpl (CLd SP d) mi.2.2.2.2.1 mi.2.2.2.1 Q 0 (lv_args 0 as) [] h mc ms
theorem lv_args_cv (ad : Nat → Nat) : ∀ (as : List Value) (i : Nat), lv_args i (as.map (cv ad)) = cvl ad (lv_args i as)
  | [], _ => rfl
  | v :: r, i => by
    show (i, cv ad v) :: lv_args (if (cv ad v).category = 2 then i + 2 else i + 1) (r.map (cv ad)) = _
    rw [cv_cat, lv_args_cv ad r]
    rfl
theorem lg_sl_len : ∀ vs : List Value, (lg_sl vs).length = catsum vs
  | [] => rfl
  | v :: r => by
    have e : lg_sl (v :: r) = (if v.category = 2 then [.val v, .second] else [.val v]) ++ lg_sl r := rfl
    have e2 : catsum (v :: r) = v.category + catsum r := rfl
    rw [e, e2, List.length_append, lg_sl_len r]
    rcases lv_cat v with h | h <;> rw [h] <;> rfl
section SND5
variable {p : Program} {l : Launch} {e : Env} {R : Room} {s : State} {m : MethodId} {args : Array Value} {below : List Frame} {meth : Method} {c : Code} {Z : State → Prop}
variable {cc : ByteArray} {nL : Nat} {own : String} {isI : Bool} {ret : Option FieldType}
variable {cy : Nat → ClassId} {dC : Nat → ClassId} {dI : Nat → Nat → Nat} {A : Nat → Prop} {ad0 : Nat → Nat} {bz n0 C S : Nat} {adK adV : Nat → Nat}
set_option maxHeartbeats 2000000 in
theorem snd_run {CL : CT} {Q : QT} {d : Nat} {ac : AC} (hx : p.tables.exec = Jvm.exec) (hb : c.code = cc) (hml : c.maxLocals = nL) (hown : s.vm.findClass own = some m.cls) (hts : ∀ w ∈ GW, w.before args s = true) (hini : isI = true → meth.name = "<init>") (hU1 : U1 cy dC dI adK s) (hU2 : U2 adK adV A s s.heap) (hA : ∀ q, s.heap.size ≤ q → A q) (hstr : ∀ i, i < 6 → ad0 (1000000 + i) = adK i) (hCR : C ≤ R.cells) (hSR : S ≤ R.slots) (hRf : d + 2 ≤ R.frames) (hRl : 60 * d + 160 ≤ R.locals)
    (hmath : ∀ w ∈ mathW, w ∈ GW) (hmok : ∀ (k : Nat) (mi : MI), mtab[k]? = some mi → ∃ n, mok mi n ∧ mi.2.2.2.2.2.2 = if minst.getD k false = true then n + 1 else n)
    (hCL : ∀ mid as h mc ms Q, CL mid as h mc ms Q → MetOK l d mid as h mc ms Q) (hac : ∀ q ∈ ac, rok own isI nL cc q)
    (hri : ∀ (v : Int32) (ty : FieldType) (h : aH) (ad : Nat → Nat) (H : Heap) (locs : List Loc) (cells slots : Nat) (pc : Nat) (arr : Array Slot), decode cc pc = .ok (.ireturn, 1) → ret = some ty → narrow ty (.int v) = .int v → Q (some (.int v)) h → HAD bz n0 ad0 ad 0 → n0 ≤ h.1.length → h.1.length < 1000000 → Std cy dC dI A s.heap ad h H locs → cells ≤ C → slots ≤ S → W p l e R s m args below meth c H locs cells slots Z (F0 m pc arr [.int v]))
    (hrl : ∀ (v : Int64) (h : aH) (ad : Nat → Nat) (H : Heap) (locs : List Loc) (cells slots : Nat) (pc : Nat) (arr : Array Slot), decode cc pc = .ok (.lreturn, 1) → ret = some .long → Q (some (.long v)) h → HAD bz n0 ad0 ad 0 → n0 ≤ h.1.length → h.1.length < 1000000 → Std cy dC dI A s.heap ad h H locs → cells ≤ C → slots ≤ S → W p l e R s m args below meth c H locs cells slots Z (F0 m pc arr [.long v]))
    (hrv : ∀ (h : aH) (ad : Nat → Nat) (H : Heap) (locs : List Loc) (cells slots : Nat) (pc : Nat) (arr : Array Slot), decode cc pc = .ok (.return_, 1) → ret = none → Q none h → HAD bz n0 ad0 ad 0 → n0 ≤ h.1.length → h.1.length < 1000000 → Std cy dC dI A s.heap ad h H locs → cells ≤ C → slots ≤ S → W p l e R s m args below meth c H locs cells slots Z (F0 m pc arr [])) :
    GO p l e R s m args below meth c Z nL cy dC dI A ad0 bz n0 C S (wpl CL ac ret Q) := by
  intro pc ls st h bc bs hk
  refine hk (GK p l e R s m args below meth c Z nL cy dC dI A ad0 bz n0 C S) ?_
  · have ih : GO p l e R s m args below meth c Z nL cy dC dI A ad0 bz n0 C S (GK p l e R s m args below meth c Z nL cy dC dI A ad0 bz n0 C S) := fun _ _ _ _ _ _ hk => hk
    clear hk pc ls st h bc bs
    intro pc ls st h bc bs hk ad arr H locs cells slots had hn0 hsm hS hl hc hs
    obtain ⟨i, r1, r2, r3, hmem, hst⟩ := hk
    obtain ⟨⟨len, hd, hlen⟩, hcf, hmore⟩ := hac _ hmem
    have had0 : HAD bz n0 ad0 ad 0 := ⟨had.1, Nat.zero_le _, had.2.2⟩
    by_cases hpl : pln i = true
    · refine snd_plain (own := own) (isI := isI) hx hb hown hts ih hd hlen hcf hst had hn0 hsm hS hl hc hs ?_ ?_ hpl
      · rintro k ((rfl | rfl | ⟨z, rfl⟩) | ⟨f, rfl, rfl | rfl⟩) <;> exact hmore
      · rintro k (rfl | ⟨f, rfl, rfl⟩) <;> exact hmore
    · have hpl' : pln i = false := by simpa using hpl
      cases i
      case invokevirtual idx =>
        obtain rfl : len = 3 := by simpa [isSw, lenI] using hlen
        exact snd_call hx hb hml hown hts hU1 hU2 hA hstr hCR hSR hRf hRl hmath hmok hCL ih hd hmore.1 hmore.2 hst had hn0 hsm hS hl hc hs
      case invokespecial idx =>
        obtain rfl : len = 3 := by simpa [isSw, lenI] using hlen
        exact snd_call hx hb hml hown hts hU1 hU2 hA hstr hCR hSR hRf hRl hmath hmok hCL ih hd hmore.1 hmore.2 hst had hn0 hsm hS hl hc hs
      case invokestatic idx =>
        obtain rfl : len = 3 := by simpa [isSw, lenI] using hlen
        exact snd_call hx hb hml hown hts hU1 hU2 hA hstr hCR hSR hRf hRl hmath hmok hCL ih hd hmore.1 hmore.2 hst had hn0 hsm hS hl hc hs
      case ireturn =>
        obtain rfl : len = 1 := by simpa [isSw, lenI] using hlen
        obtain ⟨x, r, rfl, rfl, ⟨ty, h1, h2⟩, hq⟩ := pi_inv hst
        exact hri x ty h ad H locs cells slots pc arr hd h1 h2 hq had0 hn0 hsm hS (by omega) (by omega)
      case lreturn =>
        obtain rfl : len = 1 := by simpa [isSw, lenI] using hlen
        obtain ⟨x, r, rfl, rfl, h1, hq⟩ := pl_inv hst
        exact hrl x h ad H locs cells slots pc arr hd h1 hq had0 hn0 hsm hS (by omega) (by omega)
      case return_ =>
        obtain rfl : len = 1 := by simpa [isSw, lenI] using hlen
        obtain ⟨rfl, h1, hq⟩ := hst
        exact hrv h ad H locs cells slots pc arr hd h1 hq had0 hn0 hsm hS (by omega) (by omega)
      all_goals first
        | exact snd_cell (own := own) (isI := isI) hx hb hown hts hini hU1 hA hstr hCR hSR ih hd hlen hcf hst had hn0 hsm hS hl hc hs hpl' rfl
        | exact absurd hpl' (by decide)
        | exact absurd hpl' (fun h => Bool.noConfusion h)
end SND5
/-- EVERY CALL OF THE ABSTRACT RUN IS KEPT BY THE MACHINE -/
theorem met_all (l : Launch) (SP : CT) (hmath : ∀ w ∈ mathW, w ∈ GW) (hmok : ∀ (k : Nat) (mi : MI), mtab[k]? = some mi → ∃ n, mok mi n ∧ mi.2.2.2.2.2.2 = if minst.getD k false = true then n + 1 else n) (hac : ∀ (k : Nat) (mi : MI), mtab[k]? = some mi → acok mi)
    (hSP : ∀ d mid as h mc ms Q, SP mid as h mc ms Q → MetOK l (d + 1) mid as h mc ms Q) : ∀ d mid as h mc ms Q, CLd SP d mid as h mc ms Q → MetOK l d mid as h mc ms Q := by
  intro d
  induction d with
  | zero => intro mid as h mc ms Q hc; exact False.elim hc
  | succ d ih =>
    intro mid as h mc ms Q hc
    rcases hc with hc | ⟨mi, hmi, hcat, hrun⟩
    · exact hSP d mid as h mc ms Q hc
    · intro mi' hmi' cy dC dI adK adV ad sz hstr hsm hRV
      obtain rfl : mi = mi' := Option.some.inj (hmi.symm.trans hmi')
      obtain ⟨k, hok, -⟩ := hmok mid mi hmi
      refine Met.ofW (cc := mi.2.1) (maxL := mi.2.2.1) (ret := mi.2.2.2.1) hok.2.2.1 rfl ?_
      intro p e s m args below meth c s₁ B hml hv
      obtain ⟨rfl, hsz, hP, hU1, hD0, hU2⟩ := hv
      have hlocks := B.notSynchronized
      have hts0 := atoms_spec (ws := mws mi) B.pre
      have hts : ∀ w ∈ GW, w.before (as.map (cv ad)).toArray s = true := fun w hw => hts0 w (List.mem_cons_of_mem _ hw)
      have hown : s.vm.findClass mi.1.cls = some m.cls := findClass_of_methodNamed B.named
      have hin : meth.name = mi.1.name := (name_of_methodNamed B.named B.method).1
      subst hsz
      have hD := hD0.self (sz := s.heap.size)
      have hA : ∀ q : Nat, s.heap.size ≤ q → va_A (wd cy ad h) s.heap.size q := fun q h9 => Or.inr h9
      have hl := lv_entry (as.map (cv ad)) (n := mi.2.2.1) (by rw [lg_sl_len, catsum_cv]; exact hcat)
      rw [lv_args_cv] at hl
      rw [lg_entry_eq]
      generalize (lg_sl (as.map (cv ad)) ++ List.replicate (mi.2.2.1 - (lg_sl (as.map (cv ad))).length) Slot.unset).toArray = arr at hl ⊢
      have hq : ∀ (rv : Option Value) (h' : aH) (ad' : Nat → Nat) (H : Heap) (locs : List Loc), Q rv h' → HAD mc h.1.length ad ad' 0 → h.1.length ≤ h'.1.length → h'.1.length < 1000000 → Std cy dC dI (va_A (wd cy ad h) s.heap.size) s.heap ad' h' H locs → ∀ o, o = .returned (rv.map (cv ad')) →
          ∀ t : State, t.heap = H → s.WarmedH t.vm → mQc cy dC dI ad h s.heap.size mc Q (as.map (cv ad)).toArray s o t := by
        intro rv h' ad' H locs hq had hle hsm' hS o ho t ht hW
        exact ⟨⟨rv, h', ad', ho, hq, had.1, fun hz => had.2.2 hz, hle, hsm', hS.2.2.2, by rw [ht]; exact hS.1, hS.2.1⟩, hS.2.2.1.F ht⟩
      refine snd_run (d := d) (C := mc) (S := ms) (bz := mc) (n0 := h.1.length) (ad0 := ad) (ret := mi.2.2.2.1) (own := mi.1.cls) (isI := decide (mi.1.name = "<init>")) (ac := mi.2.2.2.2.1) (nL := mi.2.2.1) B.exec B.bytes hml hown hts (fun h9 => by rw [hin]; exact of_decide_eq_true h9) hU1 hU2 hA hstr (Nat.le_refl _) (Nat.le_refl _) (Nat.le_refl _) (show 60 * d + 160 ≤ 60 * (d + 1) + 100 by omega) hmath hmok ih (hac mid mi hmi) ?_ ?_ ?_ 0 (lv_args 0 as) [] h mc ms hrun ad arr s.heap [] 0 0 ⟨fun _ _ => rfl, Nat.le_refl _, fun _ => rfl⟩ (Nat.le_refl _) hsm ⟨hP, hD, va_S.rf, hRV⟩ hl (by omega) (by omega)
      · intro v ty h' ad' H locs cells slots pc arr' hd hr hn hqq had hle hsm' hS hc hs
        refine W.widen hc hs ?_
        exact W.zret B.exec B.bytes (B.returns.trans hr) hn (hq _ h' ad' H locs hqq had hle hsm' hS _ rfl) hS.2.2.1.2.2 hd
      · intro v h' ad' H locs cells slots pc arr' hd hr hqq had hle hsm' hS hc hs
        refine W.widen hc hs ?_
        exact W.lret B.exec B.bytes (B.returns.trans hr) (hq _ h' ad' H locs hqq had hle hsm' hS _ rfl) hS.2.2.1.2.2 hd
      · intro h' ad' H locs cells slots pc arr' hd hr hqq had hle hsm' hS hc hs
        refine W.widen hc hs ?_
        exact W.vret B.exec B.bytes (B.returns.trans hr) (hq _ h' ad' H locs hqq had hle hsm' hS _ rfl) hS.2.2.1.2.2 hd
end
section
/-! EVERY ROW OF EVERY METHOD IS IN ORDER: a check by computation, with hints (places in lw_tbl, a switch's length) -/
def gI0 (hs : List Nat) (k : Nat) : Nat := hs.getD k 0
def lenB (cc : ByteArray) (pc : Nat) (i : Instr) (h : Nat) : Bool := match isSw i with
  | true => decide (decode cc pc = .ok (i, h))
  | false => decide (decode cc pc = .ok (i, lenI i))
def cfxB (own : String) (isI : Bool) (pc : Nat) (i : Instr) (r1 r2 : Nat) (r3 : Int) (hs : List Nat) : Bool := match i with
  | .getfield idx => Nat.blt r1 12 && Nat.blt r2 (nf r1) && decide (r3 = (fkd r1 r2 : Int)) && atT (gI0 hs 0) (Jvm.Cond.fieldLink own idx (wdC r1 r2).1 (wdC r1 r2).2.1 (wdC r1 r2).2.2.1)
  | .putfield idx => Nat.blt r1 12 && Nat.blt r2 (nf r1) && decide (r3 = (fkd r1 r2 : Int)) && atT (gI0 hs 0) (Jvm.Cond.fieldLink own idx (wdC r1 r2).1 (wdC r1 r2).2.1 (wdC r1 r2).2.2.1) && (decide ((wdC r1 r2).2.2.2 = false) || (isI && decide ((wdC r1 r2).1 = own)))
  | .ldc idx => if Nat.beq r1 0 then atT (gI0 hs 0) (Jvm.Cond.constant own idx (Int32.ofInt r3)) else (Nat.beq r1 1 && Nat.blt r2 6 && decide (own = RX11) && decide (sidx.getD r2 0 = idx))
  | .ldc_w idx => if Nat.beq r1 0 then atT (gI0 hs 0) (Jvm.Cond.constant own idx (Int32.ofInt r3)) else (Nat.beq r1 1 && Nat.blt r2 6 && decide (own = RX11) && decide (sidx.getD r2 0 = idx))
  | .ldc2_w idx => atT (gI0 hs 0) (Jvm.Cond.constantLong own idx (Int64.ofInt r3))
  | .new idx => atT (gI0 hs 0) (Jvm.Cond.classLink own idx (wdN r1)) && atT (gI0 hs 1) (Jvm.Cond.instantiable (wdN r1) (nf r1)) && atT (gI0 hs 2) (Jvm.Cond.initialized (wdN r1))
  | .newarray at_ => Nat.blt r1 4 && decide (fty r1 = newarray.typeOf at_) && atT (gI0 hs 0) (Jvm.Cond.arrayClass (newarray.typeOf at_))
  | .anewarray idx => atT (gI0 hs 0) (Jvm.Cond.classLink own idx RX8)
  | .multianewarray idx d => decide (d = 2) && (Nat.beq r1 5 || Nat.beq r1 6) && atT (gI0 hs 0) (Jvm.Cond.classLink own idx ("[" ++ (FieldType.array (fty (r1 - 5))).toString)) && atT (gI0 hs 1) (Jvm.Cond.arrayClass (fty (r1 - 5)))
  | .ifCond _ off => decide (0 ≤ (pc : Int) + off)
  | .if_icmp _ off => decide (0 ≤ (pc : Int) + off)
  | .goto off => decide (0 ≤ (pc : Int) + off)
  | .tableswitch dflt lo hi offs => decide (hi = lo + offs.size - 1) && decide (0 ≤ (pc : Int) + dflt) && offs.toList.all fun o => decide (0 ≤ (pc : Int) + o)
  | .lookupswitch dflt ps => (ps.toList.zip (ps.toList.drop 1)).all (fun (a, next) => a.1 < next.1) && decide (0 ≤ (pc : Int) + dflt) && ps.toList.all fun o => decide (0 ≤ (pc : Int) + o.2)
  | _ => true
/-- the instance methods of the table: instanceMethod and selects stand in the tables -/
def instOk (mi : MI) : Prop := Jvm.Cond.instanceMethod mi.1 ∈ GW
def cfcB (own : String) (k idx : Nat) (r1 r2 : Nat) (r3 : Int) (hs : List Nat) : Bool := match r2 with
  | 10 => Nat.beq k 2 && atT (gI0 hs 0) (Jvm.Cond.methodLink own idx Lib.Math.max.name)
  | 11 => Nat.beq k 2 && atT (gI0 hs 0) (Jvm.Cond.methodLink own idx Lib.Math.min.name)
  | 12 => Nat.beq k 2 && atT (gI0 hs 0) (Jvm.Cond.methodLink own idx Lib.Math.abs.name)
  | 13 => Nat.beq k 2 && atT (gI0 hs 0) (Jvm.Cond.methodLink own idx arraycopyName)
  | 14 => Nat.beq k 1 && atT (gI0 hs 0) (Jvm.Cond.methodLink own idx objectInit)
  | 0 => match mtab[r1]? with
    | some mi => Nat.beq k 0 && atT (gI0 hs 0) (Jvm.Cond.methodLink own idx mi.1) && atT (gI0 hs 1) (Jvm.Cond.instanceMethod mi.1) && atT (gI0 hs 2) (Jvm.Cond.selects mi.1.cls mi.1 mi.1) && Nat.blt (r3 / 100).toNat 12 && decide (mi.1.cls = wdN (r3 / 100).toNat) && minst.getD r1 false && Nat.beq (r3 % 100).toNat mi.2.2.2.2.2.2
    | none => false
  | 5 => match mtab[r1]? with
    | some mi => Nat.beq k 0 && atT (gI0 hs 0) (Jvm.Cond.methodLink own idx mi.1) && atT (gI0 hs 1) (Jvm.Cond.instanceMethod mi.1) && atT (gI0 hs 2) (Jvm.Cond.selects mi.1.cls mi.1 mi.1) && decide (mi.1.cls = "java/lang/String") && minst.getD r1 false && Nat.beq (r3 % 100).toNat mi.2.2.2.2.2.2
    | none => false
  | 1 => match mtab[r1]? with
    | some mi => Nat.beq k 2 && atT (gI0 hs 0) (Jvm.Cond.methodLink own idx mi.1) && atT (gI0 hs 1) (Jvm.Cond.static mi.1) && !(minst.getD r1 false) && Nat.beq (r3 % 100).toNat mi.2.2.2.2.2.2
    | none => false
  | 3 => match mtab[r1]? with
    | some mi => Nat.beq k 2 && decide (Jvm.Cond.methodLinkNest own idx mi.1 RX10 ∈ nestW) && atT (gI0 hs 1) (Jvm.Cond.static mi.1) && !(minst.getD r1 false) && Nat.beq (r3 % 100).toNat mi.2.2.2.2.2.2
    | none => false
  | 2 => match mtab[r1]? with
    | some mi => Nat.beq k 1 && atT (gI0 hs 0) (Jvm.Cond.methodLink own idx mi.1) && atT (gI0 hs 1) (Jvm.Cond.instanceMethod mi.1) && decide (mi.1.name = "<init>") && decide (mi.2.2.2.1 = none) && minst.getD r1 false && Nat.beq (r3 % 100).toNat mi.2.2.2.2.2.2
    | none => false
  | 4 => match mtab[r1]? with
    | some mi => Nat.beq k 1 && decide (Jvm.Cond.methodLinkNest own idx mi.1 RX10 ∈ nestW) && atT (gI0 hs 1) (Jvm.Cond.instanceMethod mi.1) && decide (mi.1.name = "<init>") && decide (mi.2.2.2.1 = none) && minst.getD r1 false && Nat.beq (r3 % 100).toNat mi.2.2.2.2.2.2
    | none => false
  | _ => false
def thB (own : String) (nL : Nat) (i : Instr) (r1 r2 : Nat) (r3 : Int) (hs : List Nat) : Bool := match i with
  | .invokevirtual idx => cfcB own 0 idx r1 r2 r3 hs
  | .invokespecial idx => cfcB own 1 idx r1 r2 r3 hs
  | .invokestatic idx => cfcB own 2 idx r1 r2 r3 hs
  | .istore k => Nat.blt k nL
  | .astore k => Nat.blt k nL
  | .iinc k _ => Nat.blt k nL
  | .lstore k => Nat.blt (k + 1) nL
  | .istore_n k => Nat.blt k nL
  | .astore_n k => Nat.blt k nL
  | .lstore_n k => Nat.blt ((k : Nat) + 1) nL
  | _ => true
def rokB (own : String) (isI : Bool) (nL : Nat) (cc : ByteArray) (q : Nat × Instr × Nat × Nat × Int) (hs : List Nat) : Bool :=
  lenB cc q.1 q.2.1 (gI0 hs 0) && cfxB own isI q.1 q.2.1 q.2.2.1 q.2.2.2.1 q.2.2.2.2 hs && thB own nL q.2.1 q.2.2.1 q.2.2.2.1 q.2.2.2.2 hs
theorem bt {a b : Nat} (h : Nat.blt a b = true) : a < b := Nat.le_of_ble_eq_true h
theorem lenB_ok {cc : ByteArray} {pc : Nat} {i : Instr} {h : Nat} (hb : lenB cc pc i h = true) : ∃ len, decode cc pc = .ok (i, len) ∧ (isSw i = true ∨ len = lenI i) := by
  unfold lenB at hb
  split at hb
  · rename_i hs; exact ⟨h, of_decide_eq_true hb, Or.inl hs⟩
  · exact ⟨_, of_decide_eq_true hb, Or.inr rfl⟩
theorem cfxB_ok {own : String} {isI : Bool} {pc : Nat} {i : Instr} {r1 r2 : Nat} {r3 : Int} {hs : List Nat} (h : cfxB own isI pc i r1 r2 r3 hs = true) : cfx own isI pc i r1 r2 r3 := by
  cases i
  case getfield idx =>
    simp only [cfxB, Bool.and_eq_true] at h
    exact ⟨bt h.1.1.1, bt h.1.1.2, of_decide_eq_true h.1.2, atT_gw h.2⟩
  case putfield idx =>
    simp only [cfxB, Bool.and_eq_true, Bool.or_eq_true] at h
    exact ⟨bt h.1.1.1.1, bt h.1.1.1.2, of_decide_eq_true h.1.1.2, atT_gw h.1.2, h.2.imp of_decide_eq_true fun z => ⟨z.1, of_decide_eq_true z.2⟩⟩
  case ldc idx =>
    simp only [cfxB] at h
    split at h
    · rename_i e; exact Or.inl ⟨Nat.beq_eq.mp e, atT_gw h⟩
    · simp only [Bool.and_eq_true] at h
      exact Or.inr ⟨Nat.beq_eq.mp h.1.1.1, bt h.1.1.2, of_decide_eq_true h.1.2, of_decide_eq_true h.2⟩
  case ldc_w idx =>
    simp only [cfxB] at h
    split at h
    · rename_i e; exact Or.inl ⟨Nat.beq_eq.mp e, atT_gw h⟩
    · simp only [Bool.and_eq_true] at h
      exact Or.inr ⟨Nat.beq_eq.mp h.1.1.1, bt h.1.1.2, of_decide_eq_true h.1.2, of_decide_eq_true h.2⟩
  case ldc2_w idx => exact atT_gw h
  case new idx =>
    simp only [cfxB, Bool.and_eq_true] at h
    exact ⟨atT_gw h.1.1, atT_gw h.1.2, atT_gw h.2⟩
  case newarray a =>
    simp only [cfxB, Bool.and_eq_true] at h
    exact ⟨bt h.1.1, of_decide_eq_true h.1.2, atT_gw h.2⟩
  case anewarray idx => exact atT_gw h
  case multianewarray idx d =>
    simp only [cfxB, Bool.and_eq_true, Bool.or_eq_true] at h
    exact ⟨of_decide_eq_true h.1.1.1, h.1.1.2.imp Nat.beq_eq.mp Nat.beq_eq.mp, atT_gw h.1.2, atT_gw h.2⟩
  case ifCond c off => exact of_decide_eq_true (p := 0 ≤ (pc : Int) + off) h
  case if_icmp c off => exact of_decide_eq_true (p := 0 ≤ (pc : Int) + off) h
  case goto off => exact of_decide_eq_true (p := 0 ≤ (pc : Int) + off) h
  case tableswitch dflt lo hi offs =>
    simp only [cfxB, Bool.and_eq_true] at h
    exact ⟨of_decide_eq_true h.1.1, of_decide_eq_true h.1.2, fun o ho => of_decide_eq_true (List.all_eq_true.mp h.2 o ho)⟩
  case lookupswitch dflt ps =>
    simp only [cfxB, Bool.and_eq_true] at h
    exact ⟨h.1.1, of_decide_eq_true h.1.2, fun o ho => of_decide_eq_true (List.all_eq_true.mp h.2 o ho)⟩
  all_goals exact trivial
theorem cfcB_ok {own : String} {k idx : Nat} {r1 r2 : Nat} {r3 : Int} {hs : List Nat} {i : Instr} (hi : (k = 0 ∧ i = .invokevirtual idx) ∨ (k = 1 ∧ i = .invokespecial idx) ∨ (k = 2 ∧ i = .invokestatic idx)) (h : cfcB own k idx r1 r2 r3 hs = true) : cfc own i r1 r2 r3 ∧ ∀ mi, mtab[r1]? = some mi → r2 < 10 → (r3 % 100).toNat = mi.2.2.2.2.2.2 := by
  have i0 : k = 0 → i = .invokevirtual idx := fun e => by rcases hi with h | h | h <;> first | exact h.2 | omega
  have i1 : k = 1 → i = .invokespecial idx := fun e => by rcases hi with h | h | h <;> first | exact h.2 | omega
  have i2 : k = 2 → i = .invokestatic idx := fun e => by rcases hi with h | h | h <;> first | exact h.2 | omega
  unfold cfcB at h
  split at h
  · rw [Bool.and_eq_true] at h; exact ⟨⟨idx, i2 (Nat.beq_eq.mp h.1), atT_gw h.2⟩, fun _ _ h => by omega⟩
  · rw [Bool.and_eq_true] at h; exact ⟨⟨idx, i2 (Nat.beq_eq.mp h.1), atT_gw h.2⟩, fun _ _ h => by omega⟩
  · rw [Bool.and_eq_true] at h; exact ⟨⟨idx, i2 (Nat.beq_eq.mp h.1), atT_gw h.2⟩, fun _ _ h => by omega⟩
  · rw [Bool.and_eq_true] at h; exact ⟨⟨idx, i2 (Nat.beq_eq.mp h.1), atT_gw h.2⟩, fun _ _ h => by omega⟩
  · rw [Bool.and_eq_true] at h; exact ⟨⟨idx, i1 (Nat.beq_eq.mp h.1), atT_gw h.2⟩, fun _ _ h => by omega⟩
  · split at h
    · rename_i mi hmi
      simp only [Bool.and_eq_true] at h
      refine ⟨⟨idx, mi, i0 (Nat.beq_eq.mp h.1.1.1.1.1.1.1), hmi, atT_gw h.1.1.1.1.1.1.2, atT_gw h.1.1.1.1.1.2, atT_gw h.1.1.1.1.2, bt h.1.1.1.2, of_decide_eq_true h.1.1.2, h.1.2⟩, fun mi' hm _ => ?_⟩
      rw [hmi] at hm; cases hm; exact Nat.beq_eq.mp h.2
    · cases h
  · split at h
    · rename_i mi hmi
      simp only [Bool.and_eq_true] at h
      refine ⟨⟨idx, mi, i0 (Nat.beq_eq.mp h.1.1.1.1.1.1), hmi, atT_gw h.1.1.1.1.1.2, atT_gw h.1.1.1.1.2, atT_gw h.1.1.1.2, of_decide_eq_true h.1.1.2, h.1.2⟩, fun mi' hm _ => ?_⟩
      rw [hmi] at hm; cases hm; exact Nat.beq_eq.mp h.2
    · cases h
  · split at h
    · rename_i mi hmi
      simp only [Bool.and_eq_true, Bool.not_eq_true'] at h
      refine ⟨⟨idx, mi, i2 (Nat.beq_eq.mp h.1.1.1.1), hmi, atT_gw h.1.1.1.2, atT_gw h.1.1.2, h.1.2⟩, fun mi' hm _ => ?_⟩
      rw [hmi] at hm; cases hm; exact Nat.beq_eq.mp h.2
    · cases h
  · split at h
    · rename_i mi hmi
      simp only [Bool.and_eq_true, Bool.not_eq_true'] at h
      refine ⟨⟨idx, mi, i2 (Nat.beq_eq.mp h.1.1.1.1), hmi, of_decide_eq_true h.1.1.1.2, atT_gw h.1.1.2, h.1.2⟩, fun mi' hm _ => ?_⟩
      rw [hmi] at hm; cases hm; exact Nat.beq_eq.mp h.2
    · cases h
  · split at h
    · rename_i mi hmi
      simp only [Bool.and_eq_true] at h
      refine ⟨⟨idx, mi, i1 (Nat.beq_eq.mp h.1.1.1.1.1.1), hmi, atT_gw h.1.1.1.1.1.2, atT_gw h.1.1.1.1.2, of_decide_eq_true h.1.1.1.2, of_decide_eq_true h.1.1.2, h.1.2⟩, fun mi' hm _ => ?_⟩
      rw [hmi] at hm; cases hm; exact Nat.beq_eq.mp h.2
    · cases h
  · split at h
    · rename_i mi hmi
      simp only [Bool.and_eq_true] at h
      refine ⟨⟨idx, mi, i1 (Nat.beq_eq.mp h.1.1.1.1.1.1), hmi, of_decide_eq_true h.1.1.1.1.1.2, atT_gw h.1.1.1.1.2, of_decide_eq_true h.1.1.1.2, of_decide_eq_true h.1.1.2, h.1.2⟩, fun mi' hm _ => ?_⟩
      rw [hmi] at hm; cases hm; exact Nat.beq_eq.mp h.2
    · cases h
  · cases h
theorem rokB_ok {own : String} {isI : Bool} {nL : Nat} {cc : ByteArray} {q : Nat × Instr × Nat × Nat × Int} {hs : List Nat} (h : rokB own isI nL cc q hs = true) : rok own isI nL cc q := by
  obtain ⟨pc, i, r1, r2, r3⟩ := q
  simp only [rokB, Bool.and_eq_true] at h
  refine ⟨lenB_ok h.1.1, cfxB_ok h.1.2, ?_⟩
  have h3 := h.2
  cases i <;> first
    | exact trivial
    | exact cfcB_ok (Or.inl ⟨rfl, rfl⟩) h3
    | exact cfcB_ok (Or.inr (Or.inl ⟨rfl, rfl⟩)) h3
    | exact cfcB_ok (Or.inr (Or.inr ⟨rfl, rfl⟩)) h3
    | exact bt h3
def allB (own : String) (isI : Bool) (nL : Nat) (cc : ByteArray) : AC → List (List Nat) → Bool
  | [], _ => true
  | q :: t, [] => rokB own isI nL cc q [] && allB own isI nL cc t []
  | q :: t, hs :: ht => rokB own isI nL cc q hs && allB own isI nL cc t ht
theorem allB_ok {own : String} {isI : Bool} {nL : Nat} {cc : ByteArray} : ∀ {ac : AC} {hs : List (List Nat)}, allB own isI nL cc ac hs = true → ∀ q ∈ ac, rok own isI nL cc q
  | [], _, _, q, hq => absurd hq List.not_mem_nil
  | q :: t, [], h, q', hq => by
    unfold allB at h
    rw [Bool.and_eq_true] at h
    rcases List.mem_cons.mp hq with rfl | hq
    · exact rokB_ok h.1
    · exact allB_ok h.2 q' hq
  | q :: t, hs :: ht, h, q', hq => by
    unfold allB at h
    rw [Bool.and_eq_true] at h
    rcases List.mem_cons.mp hq with rfl | hq
    · exact rokB_ok h.1
    · exact allB_ok h.2 q' hq
def acokB (mi : MI) (hs : List (List Nat)) : Bool := allB mi.1.cls (decide (mi.1.name = "<init>")) mi.2.2.1 mi.2.1 mi.2.2.2.2.1 hs
theorem acokB_ok {mi : MI} {hs : List (List Nat)} (h : acokB mi hs = true) : acok mi := allB_ok h
def mokB (mi : MI) (n : Nat) (hs : List Nat) : Bool := atT (gI0 hs 0) (Jvm.Cond.code mi.1 mi.2.1 mi.2.2.1 mi.2.2.2.1) && atT (gI0 hs 1) (Jvm.Cond.initialized mi.1.cls) && plainName mi.1.cls && decide (mi.1.cls ≠ "java/lang/invoke/MethodHandle") && decide (mi.1.cls ≠ "java/lang/invoke/VarHandle") && decide ((parseMethodDescriptor mi.1.desc).map (fun d => d.parameters.length) = some n) && Nat.ble mi.2.2.1 40
theorem mokB_ok {mi : MI} {n : Nat} {hs : List Nat} (h : mokB mi n hs = true) : mok mi n := by
  simp only [mokB, Bool.and_eq_true] at h
  exact ⟨atT_gw h.1.1.1.1.1.1, atT_gw h.1.1.1.1.1.2, h.1.1.1.1.2, of_decide_eq_true h.1.1.1.2, of_decide_eq_true h.1.1.2, of_decide_eq_true h.1.2, Nat.ble_eq.mp h.2⟩
def allM : List MI → List Bool → List (Nat × List Nat) → Bool
  | [], _, _ => true
  | mi :: t, b :: bt, q :: qt => mokB mi q.1 q.2 && Nat.beq mi.2.2.2.2.2.2 (if b then q.1 + 1 else q.1) && allM t bt qt
  | _, _, _ => false
theorem allM_ok : ∀ {l : List MI} {bs : List Bool} {qs : List (Nat × List Nat)}, allM l bs qs = true → ∀ (k : Nat) (mi : MI), l[k]? = some mi → ∃ n, mok mi n ∧ mi.2.2.2.2.2.2 = if bs.getD k false = true then n + 1 else n
  | [], _, _, _, k, mi, h => by simp at h
  | m :: t, b :: bt, q :: qt, h, k, mi, hk => by
    simp only [allM, Bool.and_eq_true] at h
    cases k with
    | zero => cases hk; exact ⟨q.1, mokB_ok h.1.1, Nat.beq_eq.mp h.1.2⟩
    | succ k => exact allM_ok h.2 k mi (by simpa using hk)
  | _ :: _, [], _, h, _, _, _ => by cases h
  | _ :: _, _ :: _, [], h, _, _, _ => by cases h
end
section
/-! ROWS IN ORDER, 0 -/
set_option maxRecDepth 100000 in
theorem okX0_init : (match mtab[0]? with
  | some mi => acokB mi [[], [340], [], [], [196], [341], [], [], [196], [343], [], [], [196], [345], [], [], [196], [347], [], [], [196], [349]]
  | none => false) = true := by decide +kernel
set_option maxRecDepth 100000 in
theorem okX0_isOvertaken : (match mtab[1]? with
  | some mi => acokB mi [[], [], [], [], [], [], [], [], [341], [], [], [], [341]]
  | none => false) = true := by decide +kernel
set_option maxRecDepth 100000 in
theorem okX0_reach : (match mtab[2]? with
  | some mi => acokB mi [[], [345], [], [], [], [269], [], [], [], [], [], [], [], [], [], [], [345], [], [], [], [], [], [], [], [275], [], [], [278], [], [], [], [266], [], [], [], [], [], [281], [], [], [738, 739], [], [], [], [], [], [], [], [741], [], [], [], [], [], [341], [], [], [], [], [], [0, 743], [], [], [], [], [], [], [345], [], [], [], [], [], [343]]
  | none => false) = true := by decide +kernel
set_option maxRecDepth 100000 in
theorem okX0_moved : (match mtab[3]? with
  | some mi => acokB mi []
  | none => false) = true := by decide +kernel
set_option maxRecDepth 100000 in
theorem okX0_freeOrders : (match mtab[4]? with
  | some mi => acokB mi [[], [], [], [], [], [], [347], [], [], [], [], [], [341]]
  | none => false) = true := by decide +kernel
set_option maxRecDepth 100000 in
theorem okX0_fewestOrders : (match mtab[5]? with
  | some mi => acokB mi [[], [349], [], [757, 374], [], [349], [], [269], [], [], [], [], [], [], [], [], [], [], [], [275], [], [], [278], [], [], [], [266], [], [], [], [], [], [281], [], [], [758, 760, 18], [], [], [], [], [], [], [741], [], [], [], [], [], [341], [], [], [], [], [], [], [347], [], [], [764, 766, 19], [], [], [], [], [], [], [], [], [349], [], [], [343], [], [], [], [], [], [], [], [], [], [], [], [349], [], [], [], [], [], [], [], [], [], [], [], [], [], [], [], [], [349], [], [], [762]]
  | none => false) = true := by decide +kernel
set_option maxRecDepth 100000 in
theorem okX0_doChosen : (match mtab[6]? with
  | some mi => acokB mi [[], [], [], [], [], [], [], [], [], [], [], [349], [], [], [], [], [], [], [], [349], [], [], [], [], [], [], [], [], [349], [], [], [], [], [], [762], [], [762], [], [], [], [], [], [], [], [], [], [], [350], [], [], [], [], [], [758, 760, 18], [], [], [], [], [], [], [349]]
  | none => false) = true := by decide +kernel
set_option maxRecDepth 100000 in
theorem okX0_moveCosts : (match mtab[7]? with
  | some mi => acokB mi [[], [], [], [349], [], [], [349], [], [], [], [349], [], [], [762], [], [], [349], [], [], [349], [], [], [763], [], [349], [], [], [], [], [], [], [], [349], [], [], [349], [], [], [], [349], [], [], [762], [], [], [349], [], [], [349], [], [], [763], [], [349]]
  | none => false) = true := by decide +kernel
set_option maxRecDepth 100000 in
theorem okX0_chooseLeastRow : (match mtab[8]? with
  | some mi => acokB mi [[], [], [], [], [], [], [], [], [347], [], [], [], [], [], [347], [], [], [], [], [], [], [], [], [], [], [], [772, 774, 20], [], [], [], [347]]
  | none => false) = true := by decide +kernel
set_option maxRecDepth 100000 in
theorem okX0_leastChoice : (match mtab[9]? with
  | some mi => acokB mi [[], [], [], [], [], [347], [], [], [], [], [], [], [776, 754, 755]]
  | none => false) = true := by decide +kernel
set_option maxRecDepth 100000 in
theorem okX1_init : (match mtab[10]? with
  | some mi => acokB mi [[], [311], [], [], [312], [315], [], [], [312], [319], [], [], [334], [321], [], [], [], [], [], [], [315], [], [312, 260, 93], [], [0, 262], [], [], [], [], [], [], [], [], [], [319], [], [312, 260, 93], [], [0, 262]]
  | none => false) = true := by decide +kernel
set_option maxRecDepth 100000 in
theorem okX1_remember : (match mtab[11]? with
  | some mi => acokB mi [[], [315], [], [316], [], [317], [], [], [], [], [], [620, 621, 622], [], [317], [], [], [], [], [317], [], [], [317], [], [], [], [316], [], [], [], [], [316]]
  | none => false) = true := by decide +kernel
set_option maxRecDepth 100000 in
theorem okX1_bringBack : (match mtab[12]? with
  | some mi => acokB mi [[], [317], [], [], [], [], [], [317], [], [], [317], [], [], [315], [], [316], [], [317], [], [], [], [], [620, 621, 622]]
  | none => false) = true := by decide +kernel
set_option maxRecDepth 100000 in
theorem okX1_forgetAll : (match mtab[13]? with
  | some mi => acokB mi [[], [], [317], [], [], [], [], [], [], [321]]
  | none => false) = true := by decide +kernel
set_option maxRecDepth 100000 in
theorem okX2_init : (match mtab[14]? with
  | some mi => acokB mi [[], [245], [], [], [196], [248], [], [], [196], [250]]
  | none => false) = true := by decide +kernel
set_option maxRecDepth 100000 in
theorem okX2_readFrom : (match mtab[15]? with
  | some mi => acokB mi [[], [246], [], [], [], [], [], [], [], [], [], [], [127], [], [], [], [506, 471, 472], [], [], [], [], [134], [], [], [127], [], [], [], [], [], [], [], [], [507, 487, 488], [], [], [127], [], [], [508, 475, 476], [], [], [], [], [], [], [], [], [], [127], [], [], [], [127], [], [], [127], [], [248], [], [], [], [], [250], [], [], [], [], [], [509, 482, 483], [], [], [], [], [507, 487, 488], [], [], [127], [], [], [], [], [510, 495, 496], [], [], [], [], [], [], [], [], [246], [246]]
  | none => false) = true := by decide +kernel
set_option maxRecDepth 100000 in
theorem okX3_init : (match mtab[16]? with
  | some mi => acokB mi [[], [155], [], [], [165], [156]]
  | none => false) = true := by decide +kernel
set_option maxRecDepth 100000 in
theorem okX3_clear : (match mtab[17]? with
  | some mi => acokB mi [[], [], [158]]
  | none => false) = true := by decide +kernel
set_option maxRecDepth 100000 in
theorem okX3_add : (match mtab[18]? with
  | some mi => acokB mi [[], [158], [], [], [], [156], [], [158], [], [], [], [], [158], [], [], [158]]
  | none => false) = true := by decide +kernel
set_option maxRecDepth 100000 in
theorem okX3_tellOne : (match mtab[19]? with
  | some mi => acokB mi [[], [674, 675, 676], [], [], [678, 679, 680]]
  | none => false) = true := by decide +kernel
set_option maxRecDepth 100000 in
theorem okX3_tellTwo : (match mtab[20]? with
  | some mi => acokB mi [[], [674, 675, 676], [], [], [678, 679, 680], [], [], [678, 679, 680]]
  | none => false) = true := by decide +kernel
set_option maxRecDepth 100000 in
theorem okX3_tellFraction : (match mtab[21]? with
  | some mi => acokB mi [[], [], [], [], [], [], [], [], [], [], [], [], [], [], [], [], [], [], [], [], [], [], [], [], [], [], [], [], [], [], [], [], [], [], [], [], [], [], [843, 671, 672]]
  | none => false) = true := by decide +kernel
set_option maxRecDepth 100000 in
theorem okX4_init : (match mtab[22]? with
  | some mi => acokB mi [[], [202], [], [], [196], [203], [], [], [196], [207]]
  | none => false) = true := by decide +kernel
set_option maxRecDepth 100000 in
theorem okX4_add : (match mtab[23]? with
  | some mi => acokB mi [[], [204], [], [], [], [203], [], [204], [], [], [], [], [204], [], [], [204]]
  | none => false) = true := by decide +kernel
set_option maxRecDepth 100000 in
theorem okX4_work : (match mtab[24]? with
  | some mi => acokB mi [[], [], [208], [], [], [], [], [204], [], [], [203], [], [], [], [], [], [], [], [], [203], [], [], [589, 591, 7], [], [], [], [], [], [], [593, 595, 8], [], [589, 591, 7], [], [], [597, 556], [], [], [593, 595, 8], [], [], [], [], [593, 595, 8], [], [598, 599], [589, 591, 7], [], [], [], [], [], [601, 602], [589, 591, 7], [], [], [], [593, 595, 8]]
  | none => false) = true := by decide +kernel
set_option maxRecDepth 100000 in
theorem okX4_push : (match mtab[25]? with
  | some mi => acokB mi [[], [208], [], [], [], [207], [], [208], [], [], [], [], [208], [], [], [208]]
  | none => false) = true := by decide +kernel
set_option maxRecDepth 100000 in
theorem okX4_pop : (match mtab[26]? with
  | some mi => acokB mi [[], [208], [], [], [], [], [], [208], [], [], [208], [], [207], [], [208]]
  | none => false) = true := by decide +kernel
set_option maxRecDepth 100000 in
theorem okX4_valueOf : (match mtab[27]? with
  | some mi => acokB mi [[], [35], [], [173], [], [], [177], [], [], [179]]
  | none => false) = true := by decide +kernel
set_option maxRecDepth 100000 in
theorem okX4_apply : (match mtab[28]? with
  | some mi => acokB mi [[], [59]]
  | none => false) = true := by decide +kernel
set_option maxRecDepth 100000 in
theorem okX5_init : (match mtab[29]? with
  | some mi => acokB mi [[], [223], [], [], [196], [224]]
  | none => false) = true := by decide +kernel
set_option maxRecDepth 100000 in
theorem okX5_readFrom : (match mtab[30]? with
  | some mi => acokB mi [[], [], [205], [], [], [225], [], [], [226], [], [], [227], [], [], [228], [], [], [], [], [], [], [535, 482, 483], [], [], [228], [], [], [], [], [536, 538, 2], [], [], [], [], [551, 553, 4], [], [], [], [], [129], [], [], [], [], [228], [], [], [226], [], [], [129], [], [], [], [], [558, 560, 5], [], [562, 495, 496]]
  | none => false) = true := by decide +kernel
set_option maxRecDepth 100000 in
theorem okX5_takeThing : (match mtab[31]? with
  | some mi => acokB mi [[], [540, 475, 476], [], [], [0, 479], [], [], [], [], [542, 471, 472], [543, 544, 545], [], [], [228], [], [], [], [], [], [], [], [], [], [], [], [], [], [], [], [], [], [543, 544, 545], [], [], [228], [], [], [], [], [], [], [547, 549, 3], [], [], [], [], [], [226], [], [], [], [], [226], [], [], [226], [], [], [227], [], [], [226], [], [], [], [], [227], [], [], [547, 549, 3], [], [], [], [], [], [129], [], [], [129]]
  | none => false) = true := by decide +kernel
set_option maxRecDepth 100000 in
theorem okX5_takeOperator : (match mtab[32]? with
  | some mi => acokB mi [[], [540, 475, 476], [], [], [555, 556], [], [], [], [], [], [226], [], [], [], [], [558, 560, 5], [], [], [225], [], [], [225], [], [], [226], [], [], [226], [], [], [], [], [], [], [], [227], [], [226], [], [], [], [], [], [], [], [], [], [227], [], [], [], [], [], [226], [], [], [], [], [227], [], [], [], [558, 560, 5], [], [], [547, 549, 3], [], [], [228], [], [], [129], [], [], [129]]
  | none => false) = true := by decide +kernel
set_option maxRecDepth 100000 in
theorem okX5_hold : (match mtab[33]? with
  | some mi => acokB mi [[], [225], [], [], [], [224], [], [225], [], [], [], [], [225], [], [], [225]]
  | none => false) = true := by decide +kernel
set_option maxRecDepth 100000 in
theorem okX5_release : (match mtab[34]? with
  | some mi => acokB mi [[], [225], [], [], [224], [], [225], [], [], [], [555, 556], [], [], [], [], [225], [], [], [225], [], [], [224], [], [225], [], [], [543, 544, 545]]
  | none => false) = true := by decide +kernel
set_option maxRecDepth 100000 in
theorem okX5_rank : (match mtab[35]? with
  | some mi => acokB mi [[], [75]]
  | none => false) = true := by decide +kernel
set_option maxRecDepth 100000 in
theorem okX6_init : (match mtab[36]? with
  | some mi => acokB mi [[], [171], [], [], [172], [], [], [196], [181], [], [], [196], [183]]
  | none => false) = true := by decide +kernel
set_option maxRecDepth 100000 in
theorem okX6_readFrom : (match mtab[37]? with
  | some mi => acokB mi [[], [], [175], [], [], [178], [], [], [], [470, 471, 472], [172], [], [172], [], [], [], [128], [], [], [172], [], [], [], [172], [], [], [], [128], [], [], [], [], [], [], [], [], [], [], [], [485, 482, 483], [], [], [], [], [], [], [486, 487, 488], [], [], [128], [], [], [], [470, 471, 472], [], [], [], [], [], [128], [], [], [], [], [], [], [172], [], [], [128], [], [], [], [], [], [], [], [], [], [486, 487, 488], [], [], [], [], [490, 492, 0], [], [], [], [494, 495, 496]]
  | none => false) = true := by decide +kernel
set_option maxRecDepth 100000 in
theorem okX6_addPost : (match mtab[38]? with
  | some mi => acokB mi [[], [175], [], [], [], [181], [], [175], [], [], [], [183], [], [175], [], [], [], [], [175], [], [], [175], [], [], [178], [], [], [178]]
  | none => false) = true := by decide +kernel
set_option maxRecDepth 100000 in
theorem okX7_init : (match mtab[39]? with
  | some mi => acokB mi [[], [370], [], [], [196], [378], [], [], [], [371, 165], [380], [], [378], [], [373, 374]]
  | none => false) = true := by decide +kernel
set_option maxRecDepth 100000 in
theorem okX7_forgetAll : (match mtab[40]? with
  | some mi => acokB mi [[], [], [376], [], [378], [], [373, 374]]
  | none => false) = true := by decide +kernel
set_option maxRecDepth 100000 in
theorem okX7_lastStep : (match mtab[41]? with
  | some mi => acokB mi [[], [], [], [], [], [378]]
  | none => false) = true := by decide +kernel
set_option maxRecDepth 100000 in
theorem okX7_countWays : (match mtab[42]? with
  | some mi => acokB mi [[], [], [], [], [], [], [], [], [], [], [378], [], [], [], [], [], [378], [], [], [], [], [], [], [], [], [], [380], [], [], [], [], [], [], [], [], [], [], [], [], [], [], [], [907, 909, 28]]
  | none => false) = true := by decide +kernel
set_option maxRecDepth 100000 in
theorem okX7_waysBehind : (match mtab[43]? with
  | some mi => acokB mi [[], [], [], [], [], [], [], [], [], [380], [], [], [], [], [], [], [], [0, 664]]
  | none => false) = true := by decide +kernel
set_option maxRecDepth 100000 in
theorem okX7_leastOrder : (match mtab[44]? with
  | some mi => acokB mi [[], [], [], [], [], [], [380], [], [], [], [], [], [0, 664]]
  | none => false) = true := by decide +kernel
set_option maxRecDepth 100000 in
theorem okX7_possible : (match mtab[45]? with
  | some mi => acokB mi [[], [], [], [], [], [], [], [], [], [380]]
  | none => false) = true := by decide +kernel
set_option maxRecDepth 100000 in
theorem okX8_init : (match mtab[46]? with
  | some mi => acokB mi [[], [264], [], [], [268], [], [], [273], [], [], [196], [277], [], [], [196], [280], [], [], [196], [283], [], [], [196], [285]]
  | none => false) = true := by decide +kernel
set_option maxRecDepth 100000 in
theorem okX8_copyFrom : (match mtab[47]? with
  | some mi => acokB mi [[], [], [265], [265], [], [], [268], [268], [], [], [271], [271], [], [], [273], [273], [], [], [274], [274], [], [277], [], [], [277], [], [], [624], [], [280], [], [], [280], [], [], [624], [], [283], [], [], [283], [], [], [624], [], [285], [], [], [285], [], [], [624]]
  | none => false) = true := by decide +kernel
set_option maxRecDepth 100000 in
theorem okX8_gaveNow : (match mtab[48]? with
  | some mi => acokB mi [[], [273], [], [265]]
  | none => false) = true := by decide +kernel
set_option maxRecDepth 100000 in
theorem okX8_addOrder : (match mtab[49]? with
  | some mi => acokB mi [[], [274], [], [], [], [], [274], [], [], [], [], [277], [], [], [], [], [], [265], [], [], [], [], [277], [], [], [277], [], [], [], [], [], [], [280], [], [], [280], [], [], [], [], [], [], [], [], [277], [], [], [265], [], [], [], [], [280], [], [], [], [], [], [274], [], [], [274], [], [], [265], [273]]
  | none => false) = true := by decide +kernel
set_option maxRecDepth 100000 in
theorem okX8_doDueOrders : (match mtab[50]? with
  | some mi => acokB mi [[], [], [], [], [274], [], [], [277], [], [], [], [265], [], [], [], [268], [], [280], [], [], [], [0, 664], [268], [], [], [], [], [274], [], [], [274], [], [277], [], [], [277], [], [], [274], [624], [], [280], [], [], [280], [], [], [274], [624]]
  | none => false) = true := by decide +kernel
set_option maxRecDepth 100000 in
theorem okX8_laneIn : (match mtab[51]? with
  | some mi => acokB mi [[], [268], [], [], [], [], [], [274], [], [], [277], [], [], [], [265], [], [], [], [], [], [280], [], [], [], [0, 664]]
  | none => false) = true := by decide +kernel
set_option maxRecDepth 100000 in
theorem okX8_eat : (match mtab[52]? with
  | some mi => acokB mi [[], [283], [], [], [], [], [], [283], [], [], [], [], [285], [], [], [], [], [], [], [], [], [], [283]]
  | none => false) = true := by decide +kernel
set_option maxRecDepth 100000 in
theorem okX9_init : (match mtab[53]? with
  | some mi => acokB mi [[], [123], [], [], [149], [124]]
  | none => false) = true := by decide +kernel
set_option maxRecDepth 100000 in
theorem okX9_append : (match mtab[54]? with
  | some mi => acokB mi [[], [125], [], [], [], [124], [], [125], [], [], [], [], [125], [], [], [125]]
  | none => false) = true := by decide +kernel
set_option maxRecDepth 100000 in
theorem okX9_open : (match mtab[55]? with
  | some mi => acokB mi [[], [], [130], [], [], [125], [], [463], [132], [], [], [125], [], [], [], [], [], [133], [], [], [135]]
  | none => false) = true := by decide +kernel
set_option maxRecDepth 100000 in
theorem okX9_ended : (match mtab[56]? with
  | some mi => acokB mi [[], [130], [], [132]]
  | none => false) = true := by decide +kernel
set_option maxRecDepth 100000 in
theorem okX9_next : (match mtab[57]? with
  | some mi => acokB mi [[], [130], [], [], [130], [], [132], [], [], [130], [], [], [], [124], [], [130]]
  | none => false) = true := by decide +kernel
set_option maxRecDepth 100000 in
theorem okX9_take : (match mtab[58]? with
  | some mi => acokB mi [[], [474, 475, 476], [], [], [], [], [], [], [130], [], [], [130]]
  | none => false) = true := by decide +kernel
set_option maxRecDepth 100000 in
theorem okX9_takeNumber : (match mtab[59]? with
  | some mi => acokB mi [[], [], [], [], [], [], [], [], [474, 475, 476], [0, 479], [], [], [], [], [], [474, 475, 476], [], [], [], [], [], [], [130], [], [], [130], [], [], [], [], [], [], [], [133], [], [], [481, 482, 483], [], [], [], [], [135]]
  | none => false) = true := by decide +kernel
set_option maxRecDepth 100000 in
theorem okX9_faultAtEnd : (match mtab[60]? with
  | some mi => acokB mi [[], [133], [], [], [132]]
  | none => false) = true := by decide +kernel
set_option maxRecDepth 100000 in
theorem okX10_init : (match mtab[61]? with
  | some mi => acokB mi [[], [115], [], [118, 119, 87], [], [0, 121], [391], [], [150, 151, 88], [], [0, 153], [392], [], [166, 167, 89], [], [0, 169], [393], [], [166, 167, 89], [], [0, 169], [394], [], [197, 198, 90], [], [0, 200], [395], [], [197, 198, 90], [], [0, 200], [396], [], [218, 219, 91], [], [0, 221], [397], [], [240, 241, 92], [], [0, 243], [398], [], [], [196], [399], [], [], [400], [], [259, 260, 93], [], [0, 262], [401], [], [259, 260, 93], [], [0, 262], [402], [], [306, 307, 94], [], [308, 309], [403], [], [335, 336, 95], [], [0, 338], [404], [], [365, 366, 96], [], [367, 368], [405], [], [], [196], [406], [], [], [], [389, 196], [407]]
  | none => false) = true := by decide +kernel
set_option maxRecDepth 100000 in
theorem okX10_sign : (match mtab[62]? with
  | some mi => acokB mi [[], [391], [126], [], [], [], [], [], [], [], [], [], [], [], [391], [], [], [], [], [], [], [447, 448, 449], [], [], [], [391], [126]]
  | none => false) = true := by decide +kernel
set_option maxRecDepth 100000 in
theorem okX10_end : (match mtab[63]? with
  | some mi => acokB mi [[], [], [], [], [391], [126], [], [], [], [], [391], [], [126]]
  | none => false) = true := by decide +kernel
set_option maxRecDepth 100000 in
theorem okX10_ship : (match mtab[64]? with
  | some mi => acokB mi [[], [391], [], [459, 460, 461], [], [394], [], [391], [466, 467, 468], [], [], [391], [], [126], [], [], [], [], [], [], [], [], [393], [], [], [], [394], [393], [], [], [394], [], [393], [176]]
  | none => false) = true := by decide +kernel
set_option maxRecDepth 100000 in
theorem okX10_rocks : (match mtab[65]? with
  | some mi => acokB mi [[], [391], [126], [], [], [], [], [391], [], [459, 460, 461], [], [398], [247], [], [], [398], [], [391], [502, 503, 504], [], [], [391], [], [126], [], [], [], [], [], [], [], [], [398], [247]]
  | none => false) = true := by decide +kernel
set_option maxRecDepth 100000 in
theorem okX10_messes : (match mtab[66]? with
  | some mi => acokB mi [[], [391], [126], [], [], [], [], [391], [], [459, 460, 461], [], [400], [], [], [515, 517, 1], [], [], [391], [], [126], [], [], [], [], [], [], [], [], [403], [523, 524, 525], [], [400]]
  | none => false) = true := by decide +kernel
set_option maxRecDepth 100000 in
theorem okX10_rule : (match mtab[67]? with
  | some mi => acokB mi [[], [391], [126], [], [], [395], [], [206], [], [], [], [391], [], [459, 460, 461], [], [397], [], [391], [], [396], [531, 532, 533], [], [], [391], [], [126], [], [], [], [], [], [], [], [], [395], [], [], [], [396], [395], [], [], [396]]
  | none => false) = true := by decide +kernel
set_option maxRecDepth 100000 in
theorem okX10_post : (match mtab[68]? with
  | some mi => acokB mi []
  | none => false) = true := by decide +kernel
set_option maxRecDepth 100000 in
theorem okX10_rock : (match mtab[69]? with
  | some mi => acokB mi []
  | none => false) = true := by decide +kernel
set_option maxRecDepth 100000 in
theorem okX10_mess : (match mtab[70]? with
  | some mi => acokB mi []
  | none => false) = true := by decide +kernel
set_option maxRecDepth 100000 in
theorem okX10_way : (match mtab[71]? with
  | some mi => acokB mi []
  | none => false) = true := by decide +kernel
set_option maxRecDepth 100000 in
theorem okX10_sheet : (match mtab[72]? with
  | some mi => acokB mi [[], [], [], [], [], [], [], [], [], [], [], [], [], [], [], [], [], [], [], [], [], [], [], [], [], [], [], [], [], [], [400], [], [], [399], [], [], [], [], [], [], [], [], [], [], [567, 568], [], [], [570, 571], [], [], [], [], [], [399]]
  | none => false) = true := by decide +kernel
set_option maxRecDepth 100000 in
theorem okX10_delay : (match mtab[73]? with
  | some mi => acokB mi [[], [], [401], [267], [581, 583, 6]]
  | none => false) = true := by decide +kernel
set_option maxRecDepth 100000 in
theorem okX10_order : (match mtab[74]? with
  | some mi => acokB mi [[], [], [], [], [], [], [], [], [], [608, 610, 9], [], [], [], [], [], [], [403], [], [401], [616, 617, 618], [], [], [627, 629, 10]]
  | none => false) = true := by decide +kernel
set_option maxRecDepth 100000 in
theorem okX10_pass : (match mtab[75]? with
  | some mi => acokB mi [[], [], [], [], [639, 641, 11], [], [], [], [], [], [], [403], [], [401], [616, 617, 618], [], [], [], [], [643, 645, 12], [], [401], [284]]
  | none => false) = true := by decide +kernel
set_option maxRecDepth 100000 in
theorem okX10_cook : (match mtab[76]? with
  | some mi => acokB mi [[], [], [], [], [400], [], [], [], [], [], [], [], [], [], [403], [], [401], [616, 617, 618], [], [401], [284], [], [], [], [], [401], [284]]
  | none => false) = true := by decide +kernel
set_option maxRecDepth 100000 in
theorem okX10_steps : (match mtab[77]? with
  | some mi => acokB mi [[], [], [], [], [], [], [], [], [403], [], [401], [616, 617, 618], [], [401], [272], [], [], [], [], [], [], [], [], [], [], [655, 657, 13], [], [], [], [], [], [392], [], [401], [272], [], [], [], [], [], [670, 671, 672], [], [401], [270]]
  | none => false) = true := by decide +kernel
set_option maxRecDepth 100000 in
theorem okX10_voyage : (match mtab[78]? with
  | some mi => acokB mi [[], [391], [], [459, 460, 461], [], [686, 688, 14], [], [], [], [], [], [391], [], [126], [], [], [], [], [], [402], [], [401], [692, 621, 622], [], [391], [], [459, 460, 461], [], [], [], [], [], [], [], [], [], [], [], [], [391], [521, 482, 483], [], [], [693, 695, 15], [], [], [], [], [], [], [], [], [], [], [], [], [], [], [], [], [391], [], [126], [], [], [], [403], [], [402], [616, 617, 618], [], [392], [], [], [], [], [], [], [401], [272], [], [402], [272], [], [], [670, 671, 672]]
  | none => false) = true := by decide +kernel
end
section
/-! ROWS IN ORDER, 1 -/
set_option maxRecDepth 100000 in
theorem okX10_undo : (match mtab[79]? with
  | some mi => acokB mi [[], [403], [], [401], [701, 702, 703], [], [], [403], [318]]
  | none => false) = true := by decide +kernel
set_option maxRecDepth 100000 in
theorem okX10_lane : (match mtab[80]? with
  | some mi => acokB mi [[], [], [], [], [], [], [], [], [], [], [], [], [], [398], [247], [], [], [398], [249], [], [], [], [401], [267], [], [], [], [], [], [], [], [], [], [401], [], [709, 710, 711], [], [398], [251], [], [], [], [], [], [], [], [392], [], [], [713, 714, 715], [], [401], [], [709, 710, 711]]
  | none => false) = true := by decide +kernel
set_option maxRecDepth 100000 in
theorem okX10_strikes : (match mtab[81]? with
  | some mi => acokB mi [[], [], [], [], [], [], [], [], [398], [247], [], [], [398], [249], [], [], [], [401], [267], [], [], [], [], [], [], [], [], [], [401], [], [709, 710, 711], [], [398], [251], [], [], [], [], [], [], [], [], [], [], [], [], [], [], [], [392], [], [], [713, 714, 715]]
  | none => false) = true := by decide +kernel
set_option maxRecDepth 100000 in
theorem okX10_clears : (match mtab[82]? with
  | some mi => acokB mi [[], [725, 727, 16], [], [404], [], [401], [], [730, 732, 17], [], [], [734, 735, 736], [], [], [], [], [], [], [], [], [398], [247], [], [], [398], [249], [], [], [], [401], [267], [], [], [], [], [], [], [404], [346], [], [], [573], [], [], [], [], [], [398], [251], [], [], [], [], [], [], [], [], [], [], [], [], [], [], [], [], [], [], [], [], [], [], [], [], [], [], [], [], [], [], [], [], [], [], [392], [], [], [713, 714, 715]]
  | none => false) = true := by decide +kernel
set_option maxRecDepth 100000 in
theorem okX10_plan : (match mtab[83]? with
  | some mi => acokB mi [[], [], [], [], [], [], [], [], [], [725, 727, 16], [], [404], [], [730, 732, 17], [], [749, 750, 751], [], [404], [], [401], [], [753, 754, 755], [], [], [], [], [], [], [], [404], [], [401], [], [], [768, 769, 770], [], [392], [777, 675, 676], [], [], [], [], [], [], [392], [], [404], [348], [], [], [], [778, 679, 680]]
  | none => false) = true := by decide +kernel
set_option maxRecDepth 100000 in
theorem okX10_latest : (match mtab[84]? with
  | some mi => acokB mi [[], [], [], [], [], [], [], [], [], [725, 727, 16], [], [], [], [], [], [], [], [404], [], [401], [], [], [730, 732, 17], [574], [], [], [734, 735, 736], [], [404], [346]]
  | none => false) = true := by decide +kernel
set_option maxRecDepth 100000 in
theorem okX10_lanes : (match mtab[85]? with
  | some mi => acokB mi [[], [], [], [], [], [], [], [], [725, 727, 16], [], [404], [], [401], [], [730, 732, 17], [], [], [734, 735, 736], [], [392], [], [404], [346], [], [], [787, 788], [], [713, 714, 715], [], [404], [346]]
  | none => false) = true := by decide +kernel
set_option maxRecDepth 100000 in
theorem okX10_safest : (match mtab[86]? with
  | some mi => acokB mi [[], [], [], [], [], [], [], [], [], [401], [270], [], [], [], [401], [270], [], [797, 799, 21], [], [], [], [], [], [], [], [], [], [], [], [797, 799, 21], [], [], [], [], [], [], [], [], [], [801, 803, 22], [], [], [801, 803, 22], [], [], [], [], [], [], [], [], [392], [], [], [], [], [670, 671, 672]]
  | none => false) = true := by decide +kernel
set_option maxRecDepth 100000 in
theorem okX10_late : (match mtab[87]? with
  | some mi => acokB mi [[], [], [], [], [], [], [], [], [], [725, 727, 16], [], [392], [777, 675, 676], [], [], [], [], [], [], [], [], [392], [], [404], [342], [], [], [], [778, 679, 680], [], [], [404], [], [], [812, 813, 814]]
  | none => false) = true := by decide +kernel
set_option maxRecDepth 100000 in
theorem okX10_comes : (match mtab[88]? with
  | some mi => acokB mi [[], [], [], [], [], [], [], [], [393], [174], [], [], [], [], [], [401], [267], [581, 583, 6], [], [], [], [], [], [], [], [], [], [], [], [], [], [], [], [], [], [], [], [], [393], [176], [], [], [393], [182], [], [], [], [], [], [], [], [393], [184], [], [], [], [], [], [], [], [392], [], [], [], [], [], [], [670, 671, 672]]
  | none => false) = true := by decide +kernel
set_option maxRecDepth 100000 in
theorem okX10_relay : (match mtab[89]? with
  | some mi => acokB mi [[], [], [], [], [], [], [], [], [393], [174], [], [], [], [], [], [], [], [], [], [], [], [], [], [], [], [], [], [], [], [392], [777, 675, 676], [], [], [], [], [], [], [], [], [], [], [], [], [], [], [], [574], [], [], [392], [], [], [778, 679, 680]]
  | none => false) = true := by decide +kernel
set_option maxRecDepth 100000 in
theorem okX10_fewest : (match mtab[90]? with
  | some mi => acokB mi [[], [], [], [], [], [], [], [], [], [393], [174]]
  | none => false) = true := by decide +kernel
set_option maxRecDepth 100000 in
theorem okX10_word : (match mtab[91]? with
  | some mi => acokB mi [[], [], [], [], [], [], [], [], [], [], [], [], [], [], [], [], [], [], [392], [], [], [832, 833], [838], [], [835, 836], [839, 840, 841]]
  | none => false) = true := by decide +kernel
set_option maxRecDepth 100000 in
theorem okX10_survives : (match mtab[92]? with
  | some mi => acokB mi [[], [], [], [], [], [], [], [], [], [], [], [], [], [], [], [], [], [], [], [832, 833], [848], [], [838], [], [835, 836]]
  | none => false) = true := by decide +kernel
set_option maxRecDepth 100000 in
theorem okX10_lives : (match mtab[93]? with
  | some mi => acokB mi [[], [], [], [], [], [], [400], [], [], [], [853], [], [], [], [], [], [], [], [400], [], [], [], [], [], [], [], [], [], [], [], [], [], [], [], [], [], [], [400], [], [], [], [], [], [], [854, 856, 23], [], [], [], [], [], [], [], [], [], [], [], [392], [], [], [713, 714, 715]]
  | none => false) = true := by decide +kernel
set_option maxRecDepth 100000 in
theorem okX10_shares : (match mtab[94]? with
  | some mi => acokB mi [[], [], [], [], [], [], [400], [], [], [], [], [406], [], [], [], [], [], [], [], [400], [], [], [406], [], [], [], [], [406], [], [], [], [401], [284], [], [], [], [], [399], [], [], [], [], [], [], [], [], [], [406], [], [400], [], [], [], [], [], [862, 864, 24], [], [871, 873, 26]]
  | none => false) = true := by decide +kernel
set_option maxRecDepth 100000 in
theorem okX10_fast : (match mtab[95]? with
  | some mi => acokB mi [[], [], [], [], [], [], [400], [], [], [], [], [], [400], [], [], [], [], [], [], [], [879, 881, 27], [], [], [], [], [], [], [], [], [], [], [879, 881, 27], [], [], [], [], [787, 788], [], [787, 788], [], [], [], [], [], [], [], [], [392], [], [787, 788], [], [], [], [670, 671, 672]]
  | none => false) = true := by decide +kernel
set_option maxRecDepth 100000 in
theorem okX10_seen : (match mtab[96]? with
  | some mi => acokB mi [[], [], [], [], [], [], [], [], [], [], [], [], [], [405], [379], [], [], [], [], [], [405], [379], [], [], [], [], [], [405], [377], [], [], [], [], [405], [377], [], [], [], [], [], [405], [379], [], [], [], [], [405], [], [377], [], [], [377], [], [405], [377]]
  | none => false) = true := by decide +kernel
set_option maxRecDepth 100000 in
theorem okX10_forget : (match mtab[97]? with
  | some mi => acokB mi [[], [405], [377], [], [], [405], [891, 892, 893]]
  | none => false) = true := by decide +kernel
set_option maxRecDepth 100000 in
theorem okX10_ordered : (match mtab[98]? with
  | some mi => acokB mi [[], [405], [377], [], [], [], [], [405], [899, 900, 901], [], [], [405], [], [903, 904, 905], [], [392], [777, 675, 676], [], [405], [381], [], [], [], [], [], [], [], [], [], [], [], [], [], [], [], [], [], [405], [], [], [912, 913, 914], [], [], [392], [], [], [778, 679, 680], [], [], [], [916, 664], [], [], [], [], [917], [], [], [870]]
  | none => false) = true := by decide +kernel
set_option maxRecDepth 100000 in
theorem okX10_unsure : (match mtab[99]? with
  | some mi => acokB mi [[], [405], [377], [], [], [], [], [405], [899, 900, 901], [], [], [405], [], [903, 904, 905], [], [], [405], [], [922, 923, 924], [], [], [], [], [], [], [], [], [], [], [], [], [], [], [], [], [926, 743], [], [405], [], [922, 923, 924], [], [], [], [787, 788], [], [787, 788], [], [], [], [], [], [], [], [], [392], [], [], [713, 714, 715]]
  | none => false) = true := by decide +kernel
set_option maxRecDepth 100000 in
theorem okX10_boy : (match mtab[100]? with
  | some mi => acokB mi [[], [], [], [853], [], [], [], [], [], [], [], [], [], [], [], [], [], [], [], [], [392], [], [], [931, 933, 29], [], [], [393], [174], [], [], [], [], [], [935], [713, 714, 715], [], [], [936, 938, 30]]
  | none => false) = true := by decide +kernel
set_option maxRecDepth 100000 in
theorem okX10_meets : (match mtab[101]? with
  | some mi => acokB mi [[], [], [], [], [], [], [], [], [], [393], [174], [], [], [], [], [], [], [], [], [], [], [], [], [], [], [936, 938, 30], [], [], [], [], [], [], [936, 938, 30], [], [], [392], [], [], [713, 714, 715]]
  | none => false) = true := by decide +kernel
set_option maxRecDepth 100000 in
theorem okX10_knows : (match mtab[102]? with
  | some mi => acokB mi [[], [], [], [], [], [], [], [], [], [], [], [], [], [392], [], [], [], [], [], [835, 836], [], [], [], [838], [], [], [], [835, 836], [839, 840, 841]]
  | none => false) = true := by decide +kernel
set_option maxRecDepth 100000 in
theorem okX10_mutiny : (match mtab[103]? with
  | some mi => acokB mi [[], [], [], [], [], [], [], [], [], [], [], [], [], [], [], [], [], [], [], [], [], [392], [777, 675, 676], [], [], [], [], [], [], [], [573], [], [], [], [], [], [], [573], [], [], [], [], [], [952, 953], [], [], [], [], [], [952, 953], [], [], [], [], [392], [], [], [], [], [670, 671, 672]]
  | none => false) = true := by decide +kernel
set_option maxRecDepth 100000 in
theorem okX10_chance : (match mtab[104]? with
  | some mi => acokB mi [[], [], [], [], [], [], [], [], [], [], [], [], [], [], [], [], [], [], [], [], [], [401], [267], [581, 583, 6], [], [], [392], [], [], [839, 840, 841], [], [], [392], [], [], [], [], [], [835, 836], [838], [], [835, 836], [839, 840, 841]]
  | none => false) = true := by decide +kernel
set_option maxRecDepth 100000 in
theorem okX10_voyages : (match mtab[105]? with
  | some mi => acokB mi [[], [], [], [], [], [], [], [], [], [402], [], [401], [692, 621, 622], [], [], [], [], [], [], [], [], [], [], [966], [], [], [], [], [], [], [], [], [], [], [], [], [], [], [608, 610, 9], [], [], [], [], [], [], [], [627, 629, 10], [], [], [], [655, 657, 13], [], [], [], [], [401], [272], [], [402], [272], [], [], [], [392], [], [401], [270], [], [], [], [670, 671, 672], [], [401], [], [402], [692, 621, 622]]
  | none => false) = true := by decide +kernel
set_option maxRecDepth 100000 in
theorem okX10_keep : (match mtab[106]? with
  | some mi => acokB mi [[], [], [], [], [], [], [], [], [403], [320], [], [], [], [401], [692, 621, 622], [], [403], [322]]
  | none => false) = true := by decide +kernel
set_option maxRecDepth 100000 in
theorem okX10_again : (match mtab[107]? with
  | some mi => acokB mi [[], [], [], [], [], [], [403], [322], [], [], [], [], [], [], [401], [], [403], [320], [], [], [692, 621, 622], [], [403], [], [318]]
  | none => false) = true := by decide +kernel
set_option maxRecDepth 100000 in
theorem okX10_count : (match mtab[108]? with
  | some mi => acokB mi [[], [67], [], [393], [174], [], [], [393], [176], [], [], [393], [180], [], [], [398], [247], [], [], [400], [], [], [401], [267], [], [], [401], [270], [], [], [401], [272], [], [], [401], [276], [], [], [405], [377], [], [], [403], [318], [], [], [392], [159], [], [], [391], [126]]
  | none => false) = true := by decide +kernel
set_option maxRecDepth 100000 in
theorem okX10_row : (match mtab[109]? with
  | some mi => acokB mi []
  | none => false) = true := by decide +kernel
set_option maxRecDepth 100000 in
theorem okX10_isDigit : (match mtab[110]? with
  | some mi => acokB mi []
  | none => false) = true := by decide +kernel
set_option maxRecDepth 100000 in
theorem okX10_readMesses : (match mtab[111]? with
  | some mi => acokB mi [[], [400], [], [], [], [], [], [], [], [], [], [], [391], [131], [], [], [391], [], [519, 471, 472], [], [], [], [], [], [391], [], [520, 487, 488], [], [], [391], [131], [], [], [391], [], [519, 471, 472], [], [], [], [], [], [391], [131], [], [], [401], [284], [], [], [], [], [401], [286], [], [], [], [], [399], [], [], [], [], [], [391], [521, 482, 483], [], [], [], [391], [], [520, 487, 488], [], [], [391], [131], [], [], [], [], [391], [522, 495, 496], [], [], [], [], [], [], [], [], [400], [400]]
  | none => false) = true := by decide +kernel
set_option maxRecDepth 100000 in
theorem okX10_voyageFault : (match mtab[112]? with
  | some mi => acokB mi [[], [], [], [], [], [], [391], [521, 482, 483], [], [], [391], [690, 475, 476], [], [], [391], [], [131], [], [], [131], [], [], [], [], [391], [690, 475, 476], [691, 479], [], [], [391], [131], [], [], [391], [], [131], [], [], [131], [], [], [], [], [], [], [], [], [], [], [], [], [], [], [], [], [], [391], [131], [], [], [], [], [], [], [391], [522, 495, 496]]
  | none => false) = true := by decide +kernel
set_option maxRecDepth 100000 in
theorem okX10_doVoyageSign : (match mtab[113]? with
  | some mi => acokB mi [[], [391], [690, 475, 476], [], [], [391], [], [131], [], [], [131], [], [], [], [], [391], [], [519, 471, 472], [], [], [], [], [], [639, 641, 11], [], [], [], [], [], [], [], [643, 645, 12], [], [], [], [691, 479], [], [], [], [], [], [], [], [655, 657, 13], [], [], [], [], [], [], [608, 610, 9], [], [], [], [], [], [], [], [627, 629, 10]]
  | none => false) = true := by decide +kernel
set_option maxRecDepth 100000 in
theorem okX10_put : (match mtab[114]? with
  | some mi => acokB mi [[], [], [], [573], [574]]
  | none => false) = true := by decide +kernel
set_option maxRecDepth 100000 in
theorem okX10_entry : (match mtab[115]? with
  | some mi => acokB mi []
  | none => false) = true := by decide +kernel
set_option maxRecDepth 100000 in
theorem okX10_keepOnSea : (match mtab[116]? with
  | some mi => acokB mi [[], [], [], [570, 571]]
  | none => false) = true := by decide +kernel
set_option maxRecDepth 100000 in
theorem okX10_delayAt : (match mtab[117]? with
  | some mi => acokB mi [[], [395], [206], [], [], [393], [174], [], [], [], [], [], [], [395], [], [393], [], [], [], [585, 586, 587], [], [], [], [], [570, 571]]
  | none => false) = true := by decide +kernel
set_option maxRecDepth 100000 in
theorem okX10_orderRefusal : (match mtab[118]? with
  | some mi => acokB mi [[], [401], [612, 613, 614], [], [], [], [], [401], [276]]
  | none => false) = true := by decide +kernel
set_option maxRecDepth 100000 in
theorem okX10_giveOrder : (match mtab[119]? with
  | some mi => acokB mi [[], [], [401], [267], [581, 583, 6], [], [], [401], [], [], [393], [180], [], [], [], [], [], [], [], [], [631, 632, 633]]
  | none => false) = true := by decide +kernel
set_option maxRecDepth 100000 in
theorem okX10_passRefusal : (match mtab[120]? with
  | some mi => acokB mi [[], [], [], [], [400], [], [], [], [], [], [], [], [], [], [], [], [], [], [], [], [], [], [], [], [], [], [], [], [], [], [], [], [], [], [400], [], [], [], [], [401], [284], [], [], [], [], [], [], [], [401], [284]]
  | none => false) = true := by decide +kernel
set_option maxRecDepth 100000 in
theorem okX10_moveFood : (match mtab[121]? with
  | some mi => acokB mi [[], [], [], [], [], [], [], [], [], [], [], [], [401], [284], [], [], [], [], [], [], [], [401], [284]]
  | none => false) = true := by decide +kernel
set_option maxRecDepth 100000 in
theorem okX10_goStep : (match mtab[122]? with
  | some mi => acokB mi [[], [401], [], [267], [], [], [267], [], [401], [659, 660, 661], [], [], [], [], [398], [247], [], [], [398], [249], [], [], [], [401], [267], [], [], [398], [251], [], [], [], [401], [270], [], [], [401], [], [272], [], [], [272], [], [], [], [], [], [], [], [], [400], [], [], [], [401], [], [], [399], [], [], [666, 667, 668]]
  | none => false) = true := by decide +kernel
set_option maxRecDepth 100000 in
theorem okX10_firstFree : (match mtab[123]? with
  | some mi => acokB mi [[], [401], [612, 613, 614]]
  | none => false) = true := by decide +kernel
set_option maxRecDepth 100000 in
theorem okX10_lookAhead : (match mtab[124]? with
  | some mi => acokB mi [[], [404], [], [393], [180], [], [], [], [], [], [], [], [351], [], [], [], [], [], [], [404], [342], [], [], [], [], [], [], [], [401], [267], [], [], [581, 583, 6], [], [], [], [404], [342], [], [], [], [], [], [], [], [], [], [], [404], [344], [], [729, 374], [], [], [], [], [398], [247], [], [], [398], [249], [], [], [], [401], [267], [], [], [], [], [], [], [], [], [], [404], [344], [], [], [], [], [], [398], [251]]
  | none => false) = true := by decide +kernel
set_option maxRecDepth 100000 in
theorem okX10_rocksInLane : (match mtab[125]? with
  | some mi => acokB mi [[], [], [], [], [], [], [398], [247], [], [], [398], [249], [], [], [], [401], [267], [], [], [], [398], [251]]
  | none => false) = true := by decide +kernel
set_option maxRecDepth 100000 in
theorem okX10_apart : (match mtab[126]? with
  | some mi => acokB mi [[], [], [401], [270], [], [805]]
  | none => false) = true := by decide +kernel
set_option maxRecDepth 100000 in
theorem okX10_widened : (match mtab[127]? with
  | some mi => acokB mi []
  | none => false) = true := by decide +kernel
set_option maxRecDepth 100000 in
theorem okX10_power : (match mtab[128]? with
  | some mi => acokB mi []
  | none => false) = true := by decide +kernel
set_option maxRecDepth 100000 in
theorem okX10_likelyWord : (match mtab[129]? with
  | some mi => acokB mi [[], [], [], [], [], [], [], [], [], [], [], [], [], [], [], [], [835, 836], [], [], [], [], [], [], [], [], [835, 836]]
  | none => false) = true := by decide +kernel
set_option maxRecDepth 100000 in
theorem okX10_lastsFor : (match mtab[130]? with
  | some mi => acokB mi [[], [], [], [], [], [], [], [], [], [], [], [401], [284], [], [], [], [], [], [], [399], [], [], [], [], [], [], [], [], [853]]
  | none => false) = true := by decide +kernel
set_option maxRecDepth 100000 in
theorem okX10_foodLeft : (match mtab[131]? with
  | some mi => acokB mi [[], [], [], [], [], [], [400], [], [], [], [401], [284], [], [], [], [], [], [], [], [], [], [], [], [], [], [], [], [399]]
  | none => false) = true := by decide +kernel
set_option maxRecDepth 100000 in
theorem okX10_weighPassing : (match mtab[132]? with
  | some mi => acokB mi [[], [400], [], [], [], [], [], [], [], [], [], [400], [], [], [407], [], [], [], [], [406], [], [], [], [], [], [406], [], [], [], [805], [], [], [], [400], [], [], [], [], [407], [], [], [], [], [], [], [], [], [], [], [406], [], [], [866, 868, 25]]
  | none => false) = true := by decide +kernel
set_option maxRecDepth 100000 in
theorem okX10_leastPassing : (match mtab[133]? with
  | some mi => acokB mi [[870], [], [], [], [], [], [400], [], [], [406], [], [], [], [], [], [406], [], [], [], [406], [], [400], [], [], [], [], [407], [], [], [], [], [573]]
  | none => false) = true := by decide +kernel
set_option maxRecDepth 100000 in
theorem okX10_choosePassing : (match mtab[134]? with
  | some mi => acokB mi [[], [392], [777, 675, 676], [], [], [], [], [], [], [], [], [400], [], [], [], [], [], [], [866, 868, 25], [], [], [], [], [], [], [], [400], [], [], [406], [], [], [], [], [], [406], [], [], [], [406], [], [400], [], [], [], [407], [], [], [], [], [], [], [], [406], [], [], [], [], [], [], [], [], [392], [], [406], [], [], [], [], [], [], [], [778, 679, 680], [], [], [406], [], [], [], [], [], [], [805]]
  | none => false) = true := by decide +kernel
set_option maxRecDepth 100000 in
theorem okX10_lap : (match mtab[135]? with
  | some mi => acokB mi [[], [], [], [393], [174], [], [], [574]]
  | none => false) = true := by decide +kernel
set_option maxRecDepth 100000 in
theorem okX10_cellAfter : (match mtab[136]? with
  | some mi => acokB mi [[], [], [931, 933, 29], [], [], [], [], [393], [174], [], [], [], [], [931, 933, 29]]
  | none => false) = true := by decide +kernel
set_option maxRecDepth 100000 in
theorem okX10_holdsThen : (match mtab[137]? with
  | some mi => acokB mi []
  | none => false) = true := by decide +kernel
set_option maxRecDepth 100000 in
theorem okX10_wantsAnother : (match mtab[138]? with
  | some mi => acokB mi [[], [], [], [], [955, 956], [], [], [], [], [], [], [573], [], [], [], [], [], [955, 956]]
  | none => false) = true := by decide +kernel
set_option maxRecDepth 100000 in
theorem okX11_init : (match mtab[139]? with
  | some mi => acokB mi [[], [1081], [], [], [165], [1084], [], [], [1085], [], [], [196], [1091], [], [], [334], [1092], [], [], [196], [1093], [], [], [196], [1094], [], [], [196], [1095], [], [], [196], [], [], [], [], [], [], [], [], [], [], [], [], [], [], [], [], [], [], [], [], [], [], [], [], [], [], [], [], [], [], [], [], [], [], [], [], [], [], [], [], [], [], [], [], [], [], [], [], [], [], [], [], [], [], [], [], [], [], [], [], [], [], [], [], [], [], [], [], [], [], [], [], [], [], [], [], [], [], [], [], [], [], [], [], [], [], [], [], [], [], [], [], [], [], [], [], [], [], [], [], [], [], [], [], [], [], [], [], [], [], [], [], [], [], [], [], [], [], [], [], [], [], [], [], [], [], [], [], [], [], [], [], [], [], [], [], [], [], [], [], [], [], [], [], [], [], [], [], [], [], [], [], [], [], [], [], [], [], [], [], [], [], [], [], [], [], [], [], [], [], [], [], [], [], [], [], [], [], [], [], [], [], [], [], [], [], [], [], [], [], [], [], [], [], [], [], [], [], [], [], [], [], [], [], [], [], [], [], [], [], [], [], [], [], [], [], [], [], [], [], [], [], [], [], [], [], [], [], [1096], [], [], [196], [1097], [], [], [196], [1098], [], [], [196], [1103], [], [], [196], [1105], [], [], [196], [1106], [], [], [196], [1109], [], [], [196], [1110], [], [], [196], [1112], [], [], [196], [1115], [], [], [196], [1116], [], [], [196], [1118], [], [], [196], [1119], [], [], [196], [1120], [], [], [196], [1123], [], [], [196], [1125], [], [], [196], [1126], [], [], [196], [1127], [], [], [334], [1128], [], [], [334], [1129], [], [], [334], [1132], [], [], [196], [1133], [], [], [196], [1134]]
  | none => false) = true := by decide +kernel
end
section
/-! ROWS IN ORDER, 2 -/
set_option maxRecDepth 100000 in
theorem okX11_refuse : (match mtab[140]? with
  | some mi => acokB mi [[], [], [1082]]
  | none => false) = true := by decide +kernel
set_option maxRecDepth 100000 in
theorem okX11_in : (match mtab[141]? with
  | some mi => acokB mi []
  | none => false) = true := by decide +kernel
set_option maxRecDepth 100000 in
theorem okX11_has : (match mtab[142]? with
  | some mi => acokB mi []
  | none => false) = true := by decide +kernel
set_option maxRecDepth 100000 in
theorem okX11_flag : (match mtab[143]? with
  | some mi => acokB mi []
  | none => false) = true := by decide +kernel
set_option maxRecDepth 100000 in
theorem okX11_common : (match mtab[144]? with
  | some mi => acokB mi [[], [], [], [], [], [], [], [], [], [], [1627, 1628]]
  | none => false) = true := by decide +kernel
set_option maxRecDepth 100000 in
theorem okX11_enters : (match mtab[145]? with
  | some mi => acokB mi [[], [1084], [], [1083], [], [], [], [], [1083], [], [], [1083]]
  | none => false) = true := by decide +kernel
set_option maxRecDepth 100000 in
theorem okX11_tellsFraction : (match mtab[146]? with
  | some mi => acokB mi [[], [], [1627, 1628], [], [], [], [1083], [], [], [], [], [1500, 1502, 60], [], [], [], [], [1500, 1502, 60]]
  | none => false) = true := by decide +kernel
set_option maxRecDepth 100000 in
theorem okX11_isMess : (match mtab[147]? with
  | some mi => acokB mi [[], [], [], [], [1089], [], [], [], [1250, 1251]]
  | none => false) = true := by decide +kernel
set_option maxRecDepth 100000 in
theorem okX11_sign : (match mtab[148]? with
  | some mi => acokB mi [[], [], [1082], [], [1099], [], [], [], [], [], [], [], [], [], [], [1098], [], [1099], [], [], [], [], [], [], [], [], [], [], [], [], [], [], [], [], [1099], [], [], [1099], [], [1099]]
  | none => false) = true := by decide +kernel
set_option maxRecDepth 100000 in
theorem okX11_end : (match mtab[149]? with
  | some mi => acokB mi [[], [], [1082], [], [], [], [], [1099], [], [1250, 1251], [], [], [], [], [], [1099]]
  | none => false) = true := by decide +kernel
set_option maxRecDepth 100000 in
theorem okX11_begins : (match mtab[150]? with
  | some mi => acokB mi [[], [1099], [], [], [], [1099], [], [], [1100], [], [], [1102], [], [], [], [1261], [1101]]
  | none => false) = true := by decide +kernel
set_option maxRecDepth 100000 in
theorem okX11_takes : (match mtab[151]? with
  | some mi => acokB mi [[], [1100], [], [1101], [], [], [1098], [], [1100], [], [], [], [], [], [], [], [], [], [1100], [], [1280, 1281], [], [1100]]
  | none => false) = true := by decide +kernel
set_option maxRecDepth 100000 in
theorem okX11_isDigit : (match mtab[152]? with
  | some mi => acokB mi [[], [1100], [], [1101], [], [], [1098], [], [1100], [], [], [1274], [1275], [1250, 1251]]
  | none => false) = true := by decide +kernel
set_option maxRecDepth 100000 in
theorem okX11_among : (match mtab[153]? with
  | some mi => acokB mi [[], [], [], [], [1304, 1305, 1306], [], [], [1100], [], [1101], [], [], [], [1314, 1315, 1316], [], [1098], [], [1100]]
  | none => false) = true := by decide +kernel
set_option maxRecDepth 100000 in
theorem okX11_takesOf : (match mtab[154]? with
  | some mi => acokB mi [[], [], [1300, 1302, 40], [], [], [], [1100], [], [], [], [], [], [1280, 1281], [], [1100]]
  | none => false) = true := by decide +kernel
set_option maxRecDepth 100000 in
theorem okX11_number : (match mtab[155]? with
  | some mi => acokB mi [[], [1270, 1272, 35], [], [], [], [], [], [], [], [], [], [], [], [1270, 1272, 35], [], [], [], [], [], [1098], [], [1100], [], [], [], [], [], [], [], [1100], [], [], [1100]]
  | none => false) = true := by decide +kernel
set_option maxRecDepth 100000 in
theorem okX11_numberIn : (match mtab[156]? with
  | some mi => acokB mi [[], [], [1266, 1268, 34], [], [], [], [], [], [], [], [], [], [1250, 1251], [], [], [], [], [], [1100], [], [], [1100]]
  | none => false) = true := by decide +kernel
set_option maxRecDepth 100000 in
theorem okX11_faultOf : (match mtab[157]? with
  | some mi => acokB mi [[], [], [], [1100], [], [1101], [], [], [], [], [], [], [], [], [], [], [], [1100], [], [], [], [], [], [], [], [], [], [], [], [], [1100]]
  | none => false) = true := by decide +kernel
set_option maxRecDepth 100000 in
theorem okX11_ship : (match mtab[158]? with
  | some mi => acokB mi [[], [], [1082], [], [], [1257, 1259, 32], [], [], [], [1104], [], [], [], [], [1262, 1264, 33], [], [], [], [], [], [], [], [], [], [], [], [], [1104], [], [], [], [], [1276, 1278, 36], [], [], [], [], [], [], [], [], [], [1262, 1264, 33], [], [], [], [], [], [], [], [], [], [], [], [], [1103], [], [], [1104], [], [], [], [], [1103], [], [], [1104], [], [], [], [], [], [1276, 1278, 36], [1280, 1281], [], [], [], [1104], [], [], [1104], [], [], [], [], [], [1283, 1285, 37], [], [], [], [], [], [], [], [1085], [], [], [1104], [1086], [], [], [1087], [], [], [], [], [1086], [], [], [1091], [], [], [1103], [], [], [], [], [], [], [1092], [], [], [1103], [], [], [], [], [], [], [], [], [], [], [], [], [], [], [1087], [], [1103], [], [], [], [], [], [], [], [1087], [], [], [], [1086]]
  | none => false) = true := by decide +kernel
set_option maxRecDepth 100000 in
theorem okX11_readsRock : (match mtab[159]? with
  | some mi => acokB mi [[], [1088], [], [1104], [], [], [], [], [], [], [], [1104], [], [], [], [1103], [], [], [], [], [], [1262, 1264, 33], [], [], [1103], [], [], [], [], [], [1276, 1278, 36], [], [], [], [], [1103], [], [], [], [], [], [1296, 1298, 39], [], [], [], [1104], [], [], [1104], [], [1103]]
  | none => false) = true := by decide +kernel
set_option maxRecDepth 100000 in
theorem okX11_readsMess : (match mtab[160]? with
  | some mi => acokB mi [[], [1089], [], [1104], [], [], [], [], [], [], [], [1104], [], [], [], [1103], [], [], [], [1266, 1268, 34], [], [], [1103], [], [], [], [], [], [1276, 1278, 36], [], [], [], [], [1103], [], [], [], [], [], [1266, 1268, 34], [], [], [], [1104], [], [], [1104], [], [1103]]
  | none => false) = true := by decide +kernel
set_option maxRecDepth 100000 in
theorem okX11_rocks : (match mtab[161]? with
  | some mi => acokB mi [[], [], [1082], [], [], [1257, 1259, 32], [], [], [], [1104], [], [], [], [], [], [], [], [], [], [], [], [1291, 1293, 38], [], [], [], [], [], [1276, 1278, 36], [], [], [], [], [], [], [], [], [], [], [1283, 1285, 37], [], [], [], [], [], [], [], [], [], [1104], [], [], [1093], [], [1088], [], [1103], [], [], [], [], [], [], [1094], [], [1088], [], [1103], [], [], [], [], [], [], [], [], [], [1088], [], [], [1088], [], [], [], [1104]]
  | none => false) = true := by decide +kernel
set_option maxRecDepth 100000 in
theorem okX11_messes : (match mtab[162]? with
  | some mi => acokB mi [[], [], [1082], [], [], [1257, 1259, 32], [], [], [], [1104], [], [], [], [], [], [], [], [], [], [], [], [1357, 1359, 41], [], [], [], [], [], [1276, 1278, 36], [], [], [], [], [], [], [], [], [], [], [1283, 1285, 37], [], [], [], [], [], [], [], [], [], [1104], [], [], [1096], [], [], [1089], [], [], [1103], [], [], [], [], [], [], [1096], [], [], [1089], [], [], [], [], [1095], [], [1089], [], [1103], [], [], [], [], [], [], [], [], [], [1089], [], [], [1089], [], [], [], [1104], [], [], [], [1111], [], [], [1090], [], [], [1090], [], [1104]]
  | none => false) = true := by decide +kernel
set_option maxRecDepth 100000 in
theorem okX11_codes : (match mtab[163]? with
  | some mi => acokB mi [[], [1106], [], [1108], [], [], [], [], [1108], [], [], [1108]]
  | none => false) = true := by decide +kernel
set_option maxRecDepth 100000 in
theorem okX11_readsThing : (match mtab[164]? with
  | some mi => acokB mi [[], [], [1276, 1278, 36], [], [], [1369, 1371, 43], [], [], [], [1373, 1375, 44], [], [], [], [1270, 1272, 35], [], [], [], [], [1266, 1268, 34], [1373, 1375, 44], [], [], [], [], [1296, 1298, 39], [], [], [], [], [], [], [], [1373, 1375, 44], [], [], [], [1102], [], [], [], [], [1276, 1278, 36], [], [], [], [], [], [1102], [], [], [1102], [], [], [1365, 1367, 42], [], [], [], [1276, 1278, 36], [], [], [], [], [], [1102], [], [], [1102]]
  | none => false) = true := by decide +kernel
set_option maxRecDepth 100000 in
theorem okX11_readsRank : (match mtab[165]? with
  | some mi => acokB mi [[], [], [], [], [1369, 1371, 43], [], [], [], [], [], [1365, 1367, 42], [], [], [], [], [], [], [], [], [], [], [], [], [], [], [], [], [], [], [1296, 1298, 39], [], [], [], [], [], [], [], [], [], [1365, 1367, 42], [], [], [], [], [], [], [], [], [], [], [], [], [], [], [], [], [], [], [1373, 1375, 44]]
  | none => false) = true := by decide +kernel
set_option maxRecDepth 100000 in
theorem okX11_rule : (match mtab[166]? with
  | some mi => acokB mi [[], [], [1082], [], [], [1257, 1259, 32], [], [], [], [1108], [], [], [], [], [1365, 1367, 42], [], [], [], [], [], [], [], [], [], [1283, 1285, 37], [], [], [], [], [], [], [], [1108], [1107], [], [], [], [], [1108], [], [], [1105], [], [], [1106]]
  | none => false) = true := by decide +kernel
set_option maxRecDepth 100000 in
theorem okX11_worked : (match mtab[167]? with
  | some mi => acokB mi [[], [39], [], [], [], [], [], [], [1280, 1281], [], [], [], [], [], [], [], [1280, 1281], [], [], [], [], [], [], [], [1280, 1281]]
  | none => false) = true := by decide +kernel
set_option maxRecDepth 100000 in
theorem okX11_ruled : (match mtab[168]? with
  | some mi => acokB mi [[], [], [], [], [], [], [1107], [], [], [1105], [], [], [], [], [], [], [], [1109], [], [], [], [], [1109], [], [], [], [], [], [], [], [], [], [], [], [], [1109], [], [], [], [], [], [], [], [1109], [], [], [], [], [], [1109], [], [], [1432, 1433], [], [], [], [1109], [], [], [], [], [], [1110], [], [], [], [], [], [], [], [], [], [], [], [1107], [], [], [1110], [], [], [], [], [], [], [], [], [1109], [], [], [], [], [], [], [1261], [1415]]
  | none => false) = true := by decide +kernel
set_option maxRecDepth 100000 in
theorem okX11_delayAt : (match mtab[169]? with
  | some mi => acokB mi [[], [1110], [], [], [1085], [], [], [1110], [], [], [1086], [], [], [1110], [], [], [1087], [], [], [1110], [], [], [], [], [], [], [1428, 1430, 49]]
  | none => false) = true := by decide +kernel
set_option maxRecDepth 100000 in
theorem okX11_turned : (match mtab[170]? with
  | some mi => acokB mi [[], [1087]]
  | none => false) = true := by decide +kernel
set_option maxRecDepth 100000 in
theorem okX11_post : (match mtab[171]? with
  | some mi => acokB mi [[], [], [1082], [], [], [], [], [1086], [], [], [], [1250, 1251], [], [], [], [], [], [1250, 1251], [], [], [1385, 1387, 45], [], [], [], [], [1091], [], [], [], [], [1092], [], [], [1280, 1281]]
  | none => false) = true := by decide +kernel
set_option maxRecDepth 100000 in
theorem okX11_rock : (match mtab[172]? with
  | some mi => acokB mi [[], [], [1082], [], [], [], [], [1088], [], [], [], [1250, 1251], [], [], [], [], [], [1250, 1251], [], [], [1385, 1387, 45], [], [], [], [], [1093], [], [], [], [], [1094]]
  | none => false) = true := by decide +kernel
set_option maxRecDepth 100000 in
theorem okX11_mess : (match mtab[173]? with
  | some mi => acokB mi [[], [], [1082], [], [], [1397, 1399, 46], [], [], [], [], [1401], [1250, 1251], [], [], [1385, 1387, 45], [], [], [], [], [1096], [], [], [], [], [], [], [], [], [], [1095], [], [], [], [], [1096]]
  | none => false) = true := by decide +kernel
set_option maxRecDepth 100000 in
theorem okX11_isAhead : (match mtab[174]? with
  | some mi => acokB mi [[], [], [], [], [], [], [], [], [], [], [], [], [], [1096], [], [], [], [], [], [1096], [], [], [], [], [], [], [1096], [], [], [], [], [], [1096], [], [], [], [], [], [], [1096], [], [], [], [], [], [1096]]
  | none => false) = true := by decide +kernel
set_option maxRecDepth 100000 in
theorem okX11_way : (match mtab[175]? with
  | some mi => acokB mi [[], [], [1082], [], [], [], [], [1096], [], [], [], [], [], [1250, 1251], [], [], [], [], [], [1250, 1251], [], [], [1385, 1387, 45], [], [], [], [], [], [], [], [1096], [], [], [], [], [], [], [], [], [], [1096], [], [], [], [], [], [], [], [1406, 1408, 47], [1280, 1281], [], [], [], [], [], [], [], [], [], [], [], [], [], [], [], [], [1096], [], [], [], [], [], [], [], [], [], [1096], [], [], [], [], [], [1096]]
  | none => false) = true := by decide +kernel
set_option maxRecDepth 100000 in
theorem okX11_sheet : (match mtab[176]? with
  | some mi => acokB mi [[], [], [1082], [], [], [], [1414], [1250, 1251], [], [], [], [], [], [], [], [], [], [], [], [], [], [], [], [], [], [], [], [], [], [1089], [], [], [], [], [], [], [], [], [], [], [], [], [], [], [], [1095], [], [], [], [], [], [], [], [], [], [], [], [], [1261], [1415], [], [], [], [1095]]
  | none => false) = true := by decide +kernel
set_option maxRecDepth 100000 in
theorem okX11_putsBy : (match mtab[177]? with
  | some mi => acokB mi [[], [], [], [], [], [], [1112], [], [], [1111], [], [], [], [], [1096]]
  | none => false) = true := by decide +kernel
set_option maxRecDepth 100000 in
theorem okX11_adds : (match mtab[178]? with
  | some mi => acokB mi [[], [], [1111], [], [], [1111], [], [1111], [], [], [], [], [], [], [], [], [1112], [], [], [1112], [], [], [], [], [], [], [], [], [], [1111], [], [], [1111]]
  | none => false) = true := by decide +kernel
set_option maxRecDepth 100000 in
theorem okX11_counts : (match mtab[179]? with
  | some mi => acokB mi [[], [], [], [], [], [], [1456, 1458, 54]]
  | none => false) = true := by decide +kernel
set_option maxRecDepth 100000 in
theorem okX11_undo : (match mtab[180]? with
  | some mi => acokB mi [[], [], [1082], [], [1111], [], [], [], [], [], [1111], [], [], [1111], [], [], [], [], [], [], [1096], [], [], [1112], [], [], [1111], [], [], [], [], [], [], [], [], [1111]]
  | none => false) = true := by decide +kernel
set_option maxRecDepth 100000 in
theorem okX11_put : (match mtab[181]? with
  | some mi => acokB mi [[], [], [], [1261], [1415]]
  | none => false) = true := by decide +kernel
set_option maxRecDepth 100000 in
theorem okX11_doesDue : (match mtab[182]? with
  | some mi => acokB mi [[], [], [], [], [], [], [], [], [], [], [], [], [], [], [], [], [], [], [], [], [], [], [], [], [], [], [], [], [], [], [], [], [], [], [], [1493, 1494]]
  | none => false) = true := by decide +kernel
set_option maxRecDepth 100000 in
theorem okX11_hitsAt : (match mtab[183]? with
  | some mi => acokB mi [[], [], [], [], [], [], [1088], [], [], [], [1093], [], [], [], [], [], [1094], [], [], [], [], [], [], [], [1280, 1281]]
  | none => false) = true := by decide +kernel
set_option maxRecDepth 100000 in
theorem okX11_stepGoes : (match mtab[184]? with
  | some mi => acokB mi [[], [], [], [], [], [], [], [], [1490, 1491], [], [], [], [], [], [], [], [1496, 1498, 59], [], [], [], [], [], [], [], [], [], [], [1113], [], [], [1113], [], [], [], [], [1089], [], [], [], [], [], [], [], [1095], [], [], [], [], [], [], [], [], [], [], [], [], [], [], [1280, 1281], [], [], [], [], [1114], [], [1280, 1281], [], [1114], [], [], [], [], [], [], [], [], [], [], [], [], [], [], [1095]]
  | none => false) = true := by decide +kernel
set_option maxRecDepth 100000 in
theorem okX11_gives : (match mtab[185]? with
  | some mi => acokB mi [[], [], [1447], [], [1250, 1251], [], [], [], [], [], [], [], [], [], [], [], [], [], [], [], [], [], [], [], [], [], [], [], [1424, 1426, 48], [], [], [], [], [], [], [], [], [], [], [], [], [], [], [], [], [], [], [], [], [], [], [], [], [], [1448, 1450, 52]]
  | none => false) = true := by decide +kernel
set_option maxRecDepth 100000 in
theorem okX11_passes : (match mtab[186]? with
  | some mi => acokB mi [[], [], [], [], [], [], [], [], [], [], [], [], [], [1397, 1399, 46], [], [], [], [], [], [1250, 1251], [], [], [], [1397, 1399, 46], [], [], [], [], [1468], [1250, 1251], [], [], [], [], [1096], [], [], [], [], [], [], [], [], [], [1096], [], [], [], [], [], [], [], [], [], [], [], [1096], [], [], [], [], [], [], [], [], [], [1096], [], [], [], [], [], [], [], [], [], [1096]]
  | none => false) = true := by decide +kernel
set_option maxRecDepth 100000 in
theorem okX11_cooks : (match mtab[187]? with
  | some mi => acokB mi [[], [], [1397, 1399, 46], [], [], [], [], [1468], [1250, 1251], [], [], [], [], [1096], [], [], [], [], [], [], [1096]]
  | none => false) = true := by decide +kernel
set_option maxRecDepth 100000 in
theorem okX11_delay : (match mtab[188]? with
  | some mi => acokB mi [[], [], [1082], [], [], [1096], [], [], [1424, 1426, 48]]
  | none => false) = true := by decide +kernel
set_option maxRecDepth 100000 in
theorem okX11_order : (match mtab[189]? with
  | some mi => acokB mi [[], [], [1082], [], [1439, 1441, 50], [], [], [], [1096], [], [1443, 1445, 51], [1452, 1454, 53]]
  | none => false) = true := by decide +kernel
set_option maxRecDepth 100000 in
theorem okX11_pass : (match mtab[190]? with
  | some mi => acokB mi [[], [], [1082], [], [1439, 1441, 50], [], [], [], [], [], [1464, 1466, 55], [1452, 1454, 53]]
  | none => false) = true := by decide +kernel
set_option maxRecDepth 100000 in
theorem okX11_cook : (match mtab[191]? with
  | some mi => acokB mi [[], [], [1082], [], [1439, 1441, 50], [], [], [], [], [1473, 1475, 56], [1452, 1454, 53]]
  | none => false) = true := by decide +kernel
set_option maxRecDepth 100000 in
theorem okX11_startsCounting : (match mtab[192]? with
  | some mi => acokB mi [[], [], [1113], [], [], [1114]]
  | none => false) = true := by decide +kernel
set_option maxRecDepth 100000 in
theorem okX11_steps : (match mtab[193]? with
  | some mi => acokB mi [[], [], [1082], [], [], [], [1481], [1250, 1251], [], [], [], [], [1439, 1441, 50], [], [1482, 1484, 57], [], [], [], [], [], [], [], [1096], [1486, 1488, 58], [], [], [], [], [1083], [], [], [1113], [], [1500, 1502, 60], [], [], [1114], [], [1500, 1502, 60], [], [], [1096], [], [], [1456, 1458, 54]]
  | none => false) = true := by decide +kernel
set_option maxRecDepth 100000 in
theorem okX11_readsAct : (match mtab[194]? with
  | some mi => acokB mi [[], [1117], [], [], [], [1296, 1298, 39], [], [], [], [], [], [], [], [1117], [], [], [1117], [], [1115], [], [], [], [], [], [], [], [], [], [], [], [], [], [], [1116], [], [], [], [], [], [], [], [], [], [], [], [], [], [1266, 1268, 34], [], [], [], [], [], [], [], [], [], [1116]]
  | none => false) = true := by decide +kernel
set_option maxRecDepth 100000 in
theorem okX11_does : (match mtab[195]? with
  | some mi => acokB mi [[], [1115], [], [], [], [], [], [1096], [], [1116], [], [], [1443, 1445, 51], [], [], [], [], [], [], [1115], [], [], [], [], [], [], [1116], [], [], [], [], [1464, 1466, 55], [], [], [], [], [], [], [], [], [], [1116], [], [], [], [], [], [1096], [1486, 1488, 58]]
  | none => false) = true := by decide +kernel
set_option maxRecDepth 100000 in
theorem okX11_voyage : (match mtab[196]? with
  | some mi => acokB mi [[], [], [1082], [], [], [1257, 1259, 32], [], [], [], [1117], [], [], [], [], [], [1100], [], [1101], [], [], [1508, 1510, 61], [], [], [], [], [], [], [1283, 1285, 37], [], [], [], [], [], [], [1439, 1441, 50], [], [1482, 1484, 57], [], [], [], [], [1117], [], [], [], [1513, 1515, 62], [], [], [], [], [], [1083], [], [], [], [1117], [], [], [], [], [1280, 1281], [], [1500, 1502, 60], [], [], [1113], [], [1500, 1502, 60], [], [], [], [], [1456, 1458, 54]]
  | none => false) = true := by decide +kernel
set_option maxRecDepth 100000 in
theorem okX11_puts : (match mtab[197]? with
  | some mi => acokB mi [[], [], [], [], [], [], [1097], [], [], [1096]]
  | none => false) = true := by decide +kernel
set_option maxRecDepth 100000 in
theorem okX11_lane : (match mtab[198]? with
  | some mi => acokB mi [[], [], [1082], [], [], [], [1481], [1250, 1251], [], [], [], [], [1521, 1523, 63], [], [1482, 1484, 57], [], [], [], [], [], [], [], [1097], [1486, 1488, 58], [], [], [], [], [1083], [], [], [1113], [], [1500, 1502, 60], [], [1097]]
  | none => false) = true := by decide +kernel
set_option maxRecDepth 100000 in
theorem okX11_strikes : (match mtab[199]? with
  | some mi => acokB mi [[], [], [1082], [], [1521, 1523, 63], [], [], [], [], [], [], [], [1097], [1486, 1488, 58], [], [], [], [], [1088], [], [], [1093], [], [], [], [1097], [], [], [], [], [1094], [], [], [], [1097], [], [], [], [], [], [1083], [], [], [], [1500, 1502, 60]]
  | none => false) = true := by decide +kernel
set_option maxRecDepth 100000 in
theorem okX11_moved : (match mtab[200]? with
  | some mi => acokB mi [[], [], [], [], [], [], [], [], [], [], [1540, 1541], [], [], [], [], [], [1493, 1494]]
  | none => false) = true := by decide +kernel
set_option maxRecDepth 100000 in
theorem okX11_movedByDue : (match mtab[201]? with
  | some mi => acokB mi [[], [], [], [], [], [], [1096], [], [], [], [], [], [], [], [], [], [], [1096], [], [], [], [], [], [1096], [], [], [], [], [], [], [], [1096], [], [], [], [], [1537, 1538]]
  | none => false) = true := by decide +kernel
set_option maxRecDepth 100000 in
theorem okX11_mayGive : (match mtab[202]? with
  | some mi => acokB mi [[], [], [], [1096], [], [], [], [1096]]
  | none => false) = true := by decide +kernel
end
section
/-! ROWS IN ORDER, 3 -/
set_option maxRecDepth 100000 in
theorem okX11_comesAt : (match mtab[203]? with
  | some mi => acokB mi [[], [], [1547, 1549, 66], [], [], [], [], [1096], [], [], [], [], [1424, 1426, 48]]
  | none => false) = true := by decide +kernel
set_option maxRecDepth 100000 in
theorem okX11_clears : (match mtab[204]? with
  | some mi => acokB mi [[], [], [1082], [], [], [], [], [], [], [], [], [1088], [], [], [1093], [], [], [], [1096], [], [], [], [], [], [], [], [], [], [], [], [1093], [], [], [], [1096], [], [], [], [1415], [], [], [], [], [], [], [], [], [], [], [], [], [], [], [], [], [], [], [], [1096], [], [], [], [], [], [], [], [], [], [], [], [], [1533, 1535, 64], [], [], [], [], [], [1415], [], [], [], [], [], [], [], [], [1543, 1545, 65], [], [], [], [1537, 1538], [], [], [1537, 1538], [], [], [], [], [], [], [], [], [], [], [], [1088], [], [], [1093], [], [], [], [1096], [], [], [], [], [], [], [], [], [], [], [], [], [], [], [], [1094], [], [], [], [], [], [], [], [], [], [], [], [], [], [], [], [], [], [], [], [], [1083], [], [], [], [], [], [], [], [1500, 1502, 60]]
  | none => false) = true := by decide +kernel
set_option maxRecDepth 100000 in
theorem okX11_goesBy : (match mtab[205]? with
  | some mi => acokB mi [[], [], [], [], [], [], [1120], [], [], [], [], [], [], [], [], [], [], [], [], [], [], [], [], [], [], [], [], [], [], [], [], [], [], [1493, 1494], [], [], [1120], [], [], [1120], [], [], [], [1119], [], [], [], [], [], [], [], [], [], [1280, 1281], [], [1261], [], [], [], [], [], [], [], [], [], [], [], [1119], [], [], [1120]]
  | none => false) = true := by decide +kernel
set_option maxRecDepth 100000 in
theorem okX11_laysLeast : (match mtab[206]? with
  | some mi => acokB mi [[], [], [], [], [], [], [1119], [], [], [], [1096], [], [], [], [], [], [], [], [], [], [], [], [], [], [], [], [], [], [], [1096], [], [], [], [], [], [], [], [], [], [], [1096], [], [], [], [], [], [1096], [], [], [], [], [], [], [], [1096], [], [], [], [], [], [1568, 1570, 70], [], [], [], [], [], [], [], [], [], [], [1543, 1545, 65], [], [], [], [], [1118], [], [], [1448, 1450, 52], [], [1118], [], [], [], [], [], [], [], [1568, 1570, 70], [], [], [], [], [], [], [], [], [1119], [], [], [], [1096], [], [], [], [], [], [1496, 1498, 59], [], [], [], [], [1119]]
  | none => false) = true := by decide +kernel
set_option maxRecDepth 100000 in
theorem okX11_fewestOrders : (match mtab[207]? with
  | some mi => acokB mi [[], [], [1564, 1566, 69], [], [], [], [], [], [], [], [], [], [1119], [], [], [1261]]
  | none => false) = true := by decide +kernel
set_option maxRecDepth 100000 in
theorem okX11_choosesAny : (match mtab[208]? with
  | some mi => acokB mi [[], [], [], [], [], [], [1118]]
  | none => false) = true := by decide +kernel
set_option maxRecDepth 100000 in
theorem okX11_plan : (match mtab[209]? with
  | some mi => acokB mi [[], [], [1082], [], [], [], [1555], [1250, 1251], [], [], [], [], [], [1556, 1558, 67], [], [], [1560, 1562, 68], [], [], [], [], [], [], [], [], [], [], [1083], [], [], [], [], [], [], [], [1547, 1549, 66], [], [], [], [], [1096], [], [], [], [], [1424, 1426, 48], [], [], [], [], [], [], [], [], [], [], [], [], [], [], [], [], [], [], [1118], [], [], [], [], [], [], [], [1560, 1562, 68], [], [], [], [], [], [1280, 1281], [], [], [], [], [], [], [], [], [], [], [], [], [], [1280, 1281], [], [], [], [], [], [], [], [], [], [1280, 1281], [], [], [], [], [], [1500, 1502, 60]]
  | none => false) = true := by decide +kernel
set_option maxRecDepth 100000 in
theorem okX11_latest : (match mtab[210]? with
  | some mi => acokB mi [[], [], [1082], [], [], [], [1555], [1250, 1251], [], [], [], [], [], [], [], [], [], [], [], [1556, 1558, 67], [], [], [1560, 1562, 68]]
  | none => false) = true := by decide +kernel
set_option maxRecDepth 100000 in
theorem okX11_lanes : (match mtab[211]? with
  | some mi => acokB mi [[], [], [1082], [], [], [], [1555], [1250, 1251], [], [], [], [], [], [1556, 1558, 67], [], [], [1564, 1566, 69], [], [], [], [], [], [], [], [], [], [1119], [], [], [], [], [], [], [], [], [], [], [], [], [], [], [], [1083], [], [], [1580, 788], [], [1500, 1502, 60]]
  | none => false) = true := by decide +kernel
set_option maxRecDepth 100000 in
theorem okX11_rocksIn : (match mtab[212]? with
  | some mi => acokB mi [[], [], [], [], [], [], [1088], [], [], [], [1094], [], [], [], [], [], [1093], [], [], [], [], [1096], [], [], [], [], [], [], [1096], [], [], [], [], [], [], [1250, 1251], [], [], [], [], [1280, 1281]]
  | none => false) = true := by decide +kernel
set_option maxRecDepth 100000 in
theorem okX11_safest : (match mtab[213]? with
  | some mi => acokB mi [[], [], [1082], [], [], [], [1585], [1250, 1251], [], [], [], [], [], [], [], [], [], [], [], [], [], [1586, 1588, 71], [], [], [], [1586, 1588, 71], [], [], [], [], [1096], [], [], [], [1590], [], [], [1096], [], [], [], [1590], [], [], [], [], [], [], [], [], [], [], [], [], [], [], [], [], [1083], [], [], [], [], [1586, 1588, 71], [], [1500, 1502, 60], [], [], [], [1096], [], [], [], [1586, 1588, 71], [], [1500, 1502, 60]]
  | none => false) = true := by decide +kernel
set_option maxRecDepth 100000 in
theorem okX11_late : (match mtab[214]? with
  | some mi => acokB mi [[], [], [1082], [], [], [], [1555], [1250, 1251], [], [], [], [], [], [1083], [], [], [], [], [], [], [], [], [], [], [1096], [], [], [], [], [1424, 1426, 48], [], [], [], [], [], [], [], [], [], [], [], [], [], [], [], [], [1096], [], [], [], [], [1424, 1426, 48], [], [], [], [], [], [], [], [], [], [], [], [1280, 1281], [], [], [], [], [], [1500, 1502, 60]]
  | none => false) = true := by decide +kernel
set_option maxRecDepth 100000 in
theorem okX11_comes : (match mtab[215]? with
  | some mi => acokB mi [[], [], [1082], [], [], [], [1599], [1250, 1251], [], [], [], [], [1085], [], [], [], [1085], [], [], [], [], [], [], [1096], [], [], [1424, 1426, 48], [], [1261], [], [], [], [], [], [], [], [], [], [1086], [], [], [], [1091], [], [], [], [], [], [], [], [1280, 1281], [], [], [], [], [1091], [], [], [], [], [], [1092], [], [], [], [], [], [], [1280, 1281], [], [], [], [], [], [], [1083], [], [], [], [1500, 1502, 60], [], [], [], [], [], [1500, 1502, 60]]
  | none => false) = true := by decide +kernel
set_option maxRecDepth 100000 in
theorem okX11_postsFor : (match mtab[216]? with
  | some mi => acokB mi [[], [1085]]
  | none => false) = true := by decide +kernel
set_option maxRecDepth 100000 in
theorem okX11_relay : (match mtab[217]? with
  | some mi => acokB mi [[], [], [1082], [], [], [], [1604], [1250, 1251], [], [], [], [], [], [1085], [], [], [], [], [], [], [], [], [], [1605, 1607, 72], [], [], [], [], [], [], [1083], [], [], [], [], [], [], [], [], [], [], [], [1085], [], [], [], [], [], [], [], [], [], [], [1415], [], [], [], [], [1500, 1502, 60]]
  | none => false) = true := by decide +kernel
set_option maxRecDepth 100000 in
theorem okX11_fewest : (match mtab[218]? with
  | some mi => acokB mi [[], [], [1082], [], [], [], [1613], [1250, 1251], [], [], [], [1605, 1607, 72]]
  | none => false) = true := by decide +kernel
set_option maxRecDepth 100000 in
theorem okX11_bets : (match mtab[219]? with
  | some mi => acokB mi [[], [], [1121], [], [], [1122], [], [], [], [], [], [], [], [1122], [1604], [], [1122], [], [], [], [], [], [], [], [], [], [], [], [], [], [], [], [], [], [], [], [], [], [], [], [], [], [], [], [], [], [], [], [], [], [], [], [], [], [], [], [], [], [], [], [], [], [], [], [], [], [], [], [], [1121], [], [], [1121]]
  | none => false) = true := by decide +kernel
set_option maxRecDepth 100000 in
theorem okX11_word : (match mtab[220]? with
  | some mi => acokB mi [[], [], [1082], [], [], [], [1618], [1250, 1251], [], [], [], [], [], [], [], [], [1604], [1250, 1251], [], [], [], [], [], [], [1619, 1621, 73], [], [], [1121], [], [1122], [1623, 1625, 74]]
  | none => false) = true := by decide +kernel
set_option maxRecDepth 100000 in
theorem okX11_survives : (match mtab[221]? with
  | some mi => acokB mi [[], [], [1082], [], [], [], [1604], [1250, 1251], [], [], [], [], [1634], [1250, 1251], [], [], [], [], [], [], [], [], [], [], [], [1619, 1621, 73], [1634], [], [1121], [], [], [], [], [1122]]
  | none => false) = true := by decide +kernel
set_option maxRecDepth 100000 in
theorem okX11_lastsFor : (match mtab[222]? with
  | some mi => acokB mi [[], [], [], [], [], [], [], [], [], [], [], [1096], [], [], [], [], [], [], [], [], [1095], [], [], [], [], [], [], [], [], [1643]]
  | none => false) = true := by decide +kernel
set_option maxRecDepth 100000 in
theorem okX11_lives : (match mtab[223]? with
  | some mi => acokB mi [[], [], [1082], [], [], [], [1414], [1250, 1251], [], [], [1089], [], [], [], [], [], [], [], [], [], [1089], [], [], [1639, 1641, 75], [], [1643], [], [], [], [], [], [1643], [], [], [], [], [], [], [], [], [], [1089], [], [], [], [], [], [], [], [], [], [], [], [], [], [], [], [1089], [], [], [], [], [1639, 1641, 75], [], [], [], [], [], [], [], [], [], [], [1261], [], [], [], [], [], [1083], [], [], [], [1500, 1502, 60]]
  | none => false) = true := by decide +kernel
set_option maxRecDepth 100000 in
theorem okX11_spare : (match mtab[224]? with
  | some mi => acokB mi [[], [1096], [], [], [], [], [], [], [1095]]
  | none => false) = true := by decide +kernel
set_option maxRecDepth 100000 in
theorem okX11_laysFlows : (match mtab[225]? with
  | some mi => acokB mi [[], [], [], [], [], [], [1123], [], [], [1089], [], [], [], [], [], [], [], [], [], [], [1089], [], [], [], [1648, 1650, 76], [], [], [], [], [1656], [], [], [], [], [1089], [], [], [], [], [], [1656], [], [], [], [], [], [], [], [], [], [], [], [], [], [], [], [], [1648, 1650, 76], [], [], [], [], [], [], [1657, 1659, 78], [1261], [], [], [], [], [1123]]
  | none => false) = true := by decide +kernel
set_option maxRecDepth 100000 in
theorem okX11_flow : (match mtab[226]? with
  | some mi => acokB mi [[], [1590], [], [1123]]
  | none => false) = true := by decide +kernel
set_option maxRecDepth 100000 in
theorem okX11_shares : (match mtab[227]? with
  | some mi => acokB mi [[], [], [1082], [], [], [], [1468], [1250, 1251], [], [], [1089], [], [], [], [], [], [], [], [], [], [1089], [], [], [], [], [], [1648, 1650, 76], [], [], [], [], [], [], [], [], [], [], [1652, 1654, 77], [], [], [1083], [], [], [], [], [], [], [1089], [], [], [], [], [], [], [], [], [1657, 1659, 78], [], [1123], [], [], [], [], [], [], [], [], [], [], [], [], [], [], [1500, 1502, 60], [], [], [], [], [], [1123]]
  | none => false) = true := by decide +kernel
set_option maxRecDepth 100000 in
theorem okX11_fast : (match mtab[228]? with
  | some mi => acokB mi [[], [], [1082], [], [], [], [1468], [1250, 1251], [], [], [1089], [], [], [], [], [], [], [], [], [], [1089], [], [], [], [1096], [], [], [], [], [], [], [], [], [], [], [], [], [], [], [], [], [], [1089], [], [], [], [], [], [], [], [], [1089], [], [], [], [], [1540, 1541], [], [], [], [], [], [1095], [], [], [], [], [], [], [], [], [], [], [1580, 788], [], [1580, 788], [], [], [], [], [], [], [], [], [], [], [], [], [], [], [], [], [], [], [], [], [], [], [], [], [], [1083], [], [], [1580, 788], [], [1500, 1502, 60], [], [], [], [1500, 1502, 60]]
  | none => false) = true := by decide +kernel
set_option maxRecDepth 100000 in
theorem okX11_seenIn : (match mtab[229]? with
  | some mi => acokB mi [[], [], [], [], [], [], [1124], [], [], [1125], [], [], [], [], [], [1126]]
  | none => false) = true := by decide +kernel
set_option maxRecDepth 100000 in
theorem okX11_seen : (match mtab[230]? with
  | some mi => acokB mi [[], [], [1082], [], [], [], [1669], [1250, 1251], [], [], [], [], [1670], [1250, 1251], [], [], [], [], [], [1671, 1673, 79], [], [], [], [], [], [], [], [1124], [], [], [], [], [1124], [], [], [], [], [], [1125], [], [1124], [], [], [], [1126], [], [1124], [], [], [], [], [1124], [], [], [1124], [], [1124]]
  | none => false) = true := by decide +kernel
set_option maxRecDepth 100000 in
theorem okX11_forget : (match mtab[231]? with
  | some mi => acokB mi [[], [], [1082], [], [1124], [], [], [], [1124]]
  | none => false) = true := by decide +kernel
set_option maxRecDepth 100000 in
theorem okX11_lastSeen : (match mtab[232]? with
  | some mi => acokB mi [[], [], [], [], [], [], [1124], [], [], [], [1125], [], [], [1415]]
  | none => false) = true := by decide +kernel
set_option maxRecDepth 100000 in
theorem okX11_isFine : (match mtab[233]? with
  | some mi => acokB mi [[], [], [1671, 1673, 79], [], [], [], [1671, 1673, 79]]
  | none => false) = true := by decide +kernel
set_option maxRecDepth 100000 in
theorem okX11_laysSeen : (match mtab[234]? with
  | some mi => acokB mi [[], [], [], [], [], [], [], [], [], [], [], [], [], [], [], [], [1127], [], [], [], [], [], [], [], [], [], [1128], [], [], [], [], [], [], [], [], [], [], [], [], [], [], [], [], [], [1127], [], [], [], [], [1127], [], [], [], [], [], [], [], [], [1493, 1494], [], [], [], [], [], [1128], [], [], [1128], [], [], [], [], [1128], [], [], [], [], [], [], [], [], [1493, 1494], [], [], [], [], [], [], [], [], [], [], [1127], [], [], [], [], [1691, 1693, 82], [], [1656], [], [1127], [], [], [1261], [], [], [], [], [1128], [], [], [1128], [], [], [], [], [], [], [1691, 1693, 82]]
  | none => false) = true := by decide +kernel
set_option maxRecDepth 100000 in
theorem okX11_ordered : (match mtab[235]? with
  | some mi => acokB mi [[], [], [1082], [], [1683, 1685, 80], [], [], [], [], [], [], [], [1687, 1689, 81], [], [], [1083], [], [], [], [], [], [], [], [], [1128], [], [], [], [], [], [], [1128], [], [], [], [], [], [], [1493, 1494], [], [], [], [], [], [], [], [], [1500, 1502, 60], [], [], [], [1493, 1494], [], [], [], [], [1127]]
  | none => false) = true := by decide +kernel
set_option maxRecDepth 100000 in
theorem okX11_unsure : (match mtab[236]? with
  | some mi => acokB mi [[], [], [1082], [], [1683, 1685, 80], [], [], [], [], [], [], [], [1687, 1689, 81], [], [], [], [], [], [], [], [], [], [], [1128], [], [], [], [], [], [], [], [], [], [], [], [], [], [], [], [], [], [], [], [], [], [], [], [], [], [], [], [], [], [1129], [], [], [], [], [], [], [], [], [], [], [], [], [1493, 1494], [], [], [], [], [], [], [], [], [1493, 1494], [], [], [], [], [], [], [], [], [], [1129], [], [], [], [], [], [], [], [], [1128], [], [], [], [], [], [], [], [], [], [], [], [], [], [1129], [], [], [], [], [], [], [], [], [], [], [], [], [], [], [], [], [], [1580, 788], [], [1580, 788], [], [], [], [], [], [], [], [], [], [], [], [], [], [1083], [], [], [], [1500, 1502, 60]]
  | none => false) = true := by decide +kernel
set_option maxRecDepth 100000 in
theorem okX11_boyBegins : (match mtab[237]? with
  | some mi => acokB mi [[], [], [1130], [], [], [1131]]
  | none => false) = true := by decide +kernel
set_option maxRecDepth 100000 in
theorem okX11_boyGoes : (match mtab[238]? with
  | some mi => acokB mi [[], [], [1130], [], [1131], [], [1130], [], [], [1130], [], [1085], [], [], [], [], [], [], [1130], [], [], [], [], [1131], [1131]]
  | none => false) = true := by decide +kernel
set_option maxRecDepth 100000 in
theorem okX11_canRest : (match mtab[239]? with
  | some mi => acokB mi [[], [], [1401], [1707], [1250, 1251]]
  | none => false) = true := by decide +kernel
set_option maxRecDepth 100000 in
theorem okX11_boy : (match mtab[240]? with
  | some mi => acokB mi [[], [], [1082], [], [], [], [1703], [1250, 1251], [], [], [1704, 1705], [], [], [], [], [], [], [1708, 1710, 83], [], [], [], [], [], [], [], [], [], [], [1712, 1714, 84], [], [], [], [], [1083], [], [], [1131], [], [1500, 1502, 60], [], [1130]]
  | none => false) = true := by decide +kernel
set_option maxRecDepth 100000 in
theorem okX11_meets : (match mtab[241]? with
  | some mi => acokB mi [[], [], [1082], [], [1704, 1705], [], [], [], [], [1085], [], [], [], [], [], [], [], [], [1708, 1710, 83], [], [], [], [], [], [], [], [], [], [], [1712, 1714, 84], [], [], [], [], [], [], [1085], [], [], [], [], [], [], [], [], [], [], [], [], [], [1130], [], [], [], [1083], [], [], [], [1500, 1502, 60]]
  | none => false) = true := by decide +kernel
set_option maxRecDepth 100000 in
theorem okX11_knows : (match mtab[242]? with
  | some mi => acokB mi [[], [], [1082], [], [], [], [1599], [1250, 1251], [], [], [], [], [1604], [1250, 1251], [], [], [], [], [], [], [1604], [], [], [], [], [], [], [], [], [], [], [], [], [], [], [1604], [], [], [], [], [], [], [], [1623, 1625, 74]]
  | none => false) = true := by decide +kernel
set_option maxRecDepth 100000 in
theorem okX11_keeps : (match mtab[243]? with
  | some mi => acokB mi []
  | none => false) = true := by decide +kernel
set_option maxRecDepth 100000 in
theorem okX11_isRest : (match mtab[244]? with
  | some mi => acokB mi [[], [], [], [], [], [], [], [1261], [], [], [], [], [], [], [], [1733, 1734], [], [], [], [], [1733, 1734]]
  | none => false) = true := by decide +kernel
set_option maxRecDepth 100000 in
theorem okX11_mutiny : (match mtab[245]? with
  | some mi => acokB mi [[], [], [1082], [], [], [], [1728], [1250, 1251], [], [], [], [], [1728], [1250, 1251], [], [], [], [], [1729], [1250, 1251], [], [], [], [], [], [], [], [1083], [], [], [], [], [], [1261], [], [], [], [], [], [], [1261], [], [], [], [], [], [1730, 1731], [], [], [], [], [], [1730, 1731], [], [], [], [], [], [], [1500, 1502, 60], [], [], [], [1500, 1502, 60]]
  | none => false) = true := by decide +kernel
set_option maxRecDepth 100000 in
theorem okX11_chance : (match mtab[246]? with
  | some mi => acokB mi [[], [], [1082], [], [], [], [1599], [1250, 1251], [], [], [], [], [1604], [1250, 1251], [], [], [], [], [1599], [1250, 1251], [], [], [], [], [], [], [], [], [], [], [], [], [], [], [], [1096], [], [], [1424, 1426, 48], [], [], [], [], [], [], [], [], [], [1604], [], [], [], [], [], [], [], [1623, 1625, 74]]
  | none => false) = true := by decide +kernel
set_option maxRecDepth 100000 in
theorem okX11_voyages : (match mtab[247]? with
  | some mi => acokB mi [[], [], [1082], [], [], [], [1481], [1250, 1251], [], [], [], [], [], [], [], [], [1521, 1523, 63], [], [1482, 1484, 57], [], [], [], [], [], [], [1744], [], [], [], [], [], [], [], [], [], [], [], [], [], [], [], [], [1097], [], [], [], [], [], [1443, 1445, 51], [], [], [], [], [1280, 1281], [], [], [], [], [1097], [1486, 1488, 58], [], [], [], [], [1083], [], [], [1097], [], [], [], [1500, 1502, 60], [], [], [], [1500, 1502, 60], [], [1113]]
  | none => false) = true := by decide +kernel
set_option maxRecDepth 100000 in
theorem okX11_keep : (match mtab[248]? with
  | some mi => acokB mi [[], [], [1082], [], [], [], [1401], [1250, 1251], [], [], [], [], [1132], [], [], [], [], [1133], [], [], [1090], [], [], [], [], [], [], [], [1134], [], [], [], [], [], [], [1096]]
  | none => false) = true := by decide +kernel
end
section
/-! ROWS IN ORDER, 4 -/
set_option maxRecDepth 100000 in
theorem okX11_again : (match mtab[249]? with
  | some mi => acokB mi [[], [], [1082], [], [], [], [1401], [1250, 1251], [], [], [1132], [], [], [], [], [1133], [], [], [], [1090], [], [], [], [], [], [], [], [], [], [1096], [], [], [1134], [], [], [], [], [], [], [], [], [], [], [], [1111]]
  | none => false) = true := by decide +kernel
set_option maxRecDepth 100000 in
theorem okX11_count : (match mtab[250]? with
  | some mi => acokB mi [[], [], [1082], [], [66], [], [1085], [], [], [1086], [], [], [1087], [], [], [1088], [], [], [1089], [], [], [1096], [], [], [], [], [1096], [], [], [], [], [1096], [], [], [], [], [1096], [], [], [], [], [1124], [], [], [1111], [], [], [1083], [], [], [1099]]
  | none => false) = true := by decide +kernel
set_option maxRecDepth 100000 in
theorem okX11_row : (match mtab[251]? with
  | some mi => acokB mi [[], [], [1082], [], [], [], [], [1083], [], [], [], [1250, 1251], [], [], [], [1082], [], [], [], [1084]]
  | none => false) = true := by decide +kernel
set_option maxRecDepth 100000 in
theorem okJ6_bitCount_0f7a4 : (match mtab[252]? with
  | some mi => acokB mi [[], [], [], [], [790], [], [], [], [], [791], [], [], [], [], [791], [], [], [], [], [], [], [], [], [792]]
  | none => false) = true := by decide +kernel
set_option maxRecDepth 100000 in
theorem okJ0_length_8abf5 : (match mtab[253]? with
  | some mi => acokB mi []
  | none => false) = true := by decide +kernel
set_option maxRecDepth 100000 in
theorem okJ0_charAt_5068e : (match mtab[254]? with
  | some mi => acokB mi []
  | none => false) = true := by decide +kernel
set_option maxRecDepth 100000 in
theorem okJ7_fill_53178 : (match mtab[255]? with
  | some mi => acokB mi []
  | none => false) = true := by decide +kernel
end
section
/-! WHAT THE TABLES SAY OF METHODS -/
def mk1 (k n : Nat) (hs : List Nat) : Bool := match mtab[k]? with
  | some mi => mokB mi n hs && Nat.beq mi.2.2.2.2.2.2 (if minst.getD k false then n + 1 else n)
  | none => false
theorem mk1_ok {k n : Nat} {hs : List Nat} (hb : mk1 k n hs = true) {mi : MI} (h : mtab[k]? = some mi) : ∃ n, mok mi n ∧ mi.2.2.2.2.2.2 = if minst.getD k false = true then n + 1 else n := by
  unfold mk1 at hb
  rw [h] at hb
  simp only [Bool.and_eq_true] at hb
  exact ⟨n, mokB_ok hb.1, Nat.beq_eq.mp hb.2⟩
theorem mkX0_init : mk1 0 0 [339, 95] = true := by decide +kernel
theorem mkX0_isOvertaken : mk1 1 2 [815, 95] = true := by decide +kernel
theorem mkX0_reach : mk1 2 4 [737, 95] = true := by decide +kernel
theorem mkX0_moved : mk1 3 2 [740, 95] = true := by decide +kernel
theorem mkX0_freeOrders : mk1 4 2 [752, 95] = true := by decide +kernel
theorem mkX0_fewestOrders : mk1 5 2 [756, 95] = true := by decide +kernel
theorem mkX0_doChosen : mk1 6 1 [767, 95] = true := by decide +kernel
theorem mkX0_moveCosts : mk1 7 1 [761, 95] = true := by decide +kernel
theorem mkX0_chooseLeastRow : mk1 8 3 [771, 95] = true := by decide +kernel
theorem mkX0_leastChoice : mk1 9 4 [775, 95] = true := by decide +kernel
theorem mkX1_init : mk1 10 0 [310, 94] = true := by decide +kernel
theorem mkX1_remember : mk1 11 1 [619, 94] = true := by decide +kernel
theorem mkX1_bringBack : mk1 12 1 [704, 94] = true := by decide +kernel
theorem mkX1_forgetAll : mk1 13 0 [526, 94] = true := by decide +kernel
theorem mkX2_init : mk1 14 0 [244, 92] = true := by decide +kernel
theorem mkX2_readFrom : mk1 15 1 [505, 92] = true := by decide +kernel
theorem mkX3_init : mk1 16 0 [154, 88] = true := by decide +kernel
theorem mkX3_clear : mk1 17 0 [677, 88] = true := by decide +kernel
theorem mkX3_add : mk1 18 1 [681, 88] = true := by decide +kernel
theorem mkX3_tellOne : mk1 19 1 [716, 88] = true := by decide +kernel
theorem mkX3_tellTwo : mk1 20 2 [673, 88] = true := by decide +kernel
theorem mkX3_tellFraction : mk1 21 2 [842, 88] = true := by decide +kernel
theorem mkX4_init : mk1 22 0 [201, 90] = true := by decide +kernel
theorem mkX4_add : mk1 23 1 [546, 90] = true := by decide +kernel
theorem mkX4_work : mk1 24 2 [588, 90] = true := by decide +kernel
theorem mkX4_push : mk1 25 1 [592, 90] = true := by decide +kernel
theorem mkX4_pop : mk1 26 0 [596, 90] = true := by decide +kernel
theorem mkX4_valueOf : mk1 27 3 [603, 90] = true := by decide +kernel
theorem mkX4_apply : mk1 28 3 [600, 90] = true := by decide +kernel
theorem mkX5_init : mk1 29 0 [222, 91] = true := by decide +kernel
theorem mkX5_readFrom : mk1 30 2 [534, 91] = true := by decide +kernel
theorem mkX5_takeThing : mk1 31 2 [539, 91] = true := by decide +kernel
theorem mkX5_takeOperator : mk1 32 2 [554, 91] = true := by decide +kernel
theorem mkX5_hold : mk1 33 1 [550, 91] = true := by decide +kernel
theorem mkX5_release : mk1 34 2 [561, 91] = true := by decide +kernel
theorem mkX5_rank : mk1 35 1 [557, 91] = true := by decide +kernel
theorem mkX6_init : mk1 36 0 [170, 89] = true := by decide +kernel
theorem mkX6_readFrom : mk1 37 1 [469, 89] = true := by decide +kernel
theorem mkX6_addPost : mk1 38 2 [493, 89] = true := by decide +kernel
theorem mkX7_init : mk1 39 0 [369, 96] = true := by decide +kernel
theorem mkX7_forgetAll : mk1 40 0 [894, 96] = true := by decide +kernel
theorem mkX7_lastStep : mk1 41 0 [902, 96] = true := by decide +kernel
theorem mkX7_countWays : mk1 42 1 [906, 96] = true := by decide +kernel
theorem mkX7_waysBehind : mk1 43 2 [910, 96] = true := by decide +kernel
theorem mkX7_leastOrder : mk1 44 2 [915, 96] = true := by decide +kernel
theorem mkX7_possible : mk1 45 1 [925, 96] = true := by decide +kernel
theorem mkX8_init : mk1 46 0 [263, 93] = true := by decide +kernel
theorem mkX8_copyFrom : mk1 47 1 [623, 93] = true := by decide +kernel
theorem mkX8_gaveNow : mk1 48 0 [615, 93] = true := by decide +kernel
theorem mkX8_addOrder : mk1 49 2 [634, 93] = true := by decide +kernel
theorem mkX8_doDueOrders : mk1 50 0 [662, 93] = true := by decide +kernel
theorem mkX8_laneIn : mk1 51 1 [712, 93] = true := by decide +kernel
theorem mkX8_eat : mk1 52 2 [669, 93] = true := by decide +kernel
theorem mkX9_init : mk1 53 0 [122, 87] = true := by decide +kernel
theorem mkX9_append : mk1 54 1 [450, 87] = true := by decide +kernel
theorem mkX9_open : mk1 55 1 [462, 87] = true := by decide +kernel
theorem mkX9_ended : mk1 56 0 [484, 87] = true := by decide +kernel
theorem mkX9_next : mk1 57 0 [477, 87] = true := by decide +kernel
theorem mkX9_take : mk1 58 1 [489, 87] = true := by decide +kernel
theorem mkX9_takeNumber : mk1 59 1 [473, 87] = true := by decide +kernel
theorem mkX9_faultAtEnd : mk1 60 0 [497, 87] = true := by decide +kernel
theorem mkX10_init : mk1 61 0 [114, 86] = true := by decide +kernel
theorem mkX10_sign : mk1 62 1 [446, 86] = true := by decide +kernel
theorem mkX10_end : mk1 63 1 [454, 86] = true := by decide +kernel
theorem mkX10_ship : mk1 64 0 [458, 86] = true := by decide +kernel
theorem mkX10_rocks : mk1 65 0 [501, 86] = true := by decide +kernel
theorem mkX10_messes : mk1 66 0 [514, 86] = true := by decide +kernel
theorem mkX10_rule : mk1 67 0 [530, 86] = true := by decide +kernel
theorem mkX10_post : mk1 68 2 [986, 86] = true := by decide +kernel
theorem mkX10_rock : mk1 69 2 [1054, 86] = true := by decide +kernel
theorem mkX10_mess : mk1 70 2 [1061, 86] = true := by decide +kernel
theorem mkX10_way : mk1 71 2 [1068, 86] = true := by decide +kernel
theorem mkX10_sheet : mk1 72 4 [566, 86] = true := by decide +kernel
theorem mkX10_delay : mk1 73 0 [580, 86] = true := by decide +kernel
theorem mkX10_order : mk1 74 1 [607, 86] = true := by decide +kernel
theorem mkX10_pass : mk1 75 3 [638, 86] = true := by decide +kernel
theorem mkX10_cook : mk1 76 2 [650, 86] = true := by decide +kernel
theorem mkX10_steps : mk1 77 1 [654, 86] = true := by decide +kernel
theorem mkX10_voyage : mk1 78 0 [685, 86] = true := by decide +kernel
theorem mkX10_undo : mk1 79 0 [700, 86] = true := by decide +kernel
theorem mkX10_lane : mk1 80 1 [708, 86] = true := by decide +kernel
theorem mkX10_strikes : mk1 81 0 [720, 86] = true := by decide +kernel
theorem mkX10_clears : mk1 82 0 [724, 86] = true := by decide +kernel
theorem mkX10_plan : mk1 83 1 [748, 86] = true := by decide +kernel
theorem mkX10_latest : mk1 84 1 [782, 86] = true := by decide +kernel
theorem mkX10_lanes : mk1 85 1 [786, 86] = true := by decide +kernel
theorem mkX10_safest : mk1 86 1 [796, 86] = true := by decide +kernel
theorem mkX10_late : mk1 87 1 [811, 86] = true := by decide +kernel
theorem mkX10_comes : mk1 88 1 [819, 86] = true := by decide +kernel
theorem mkX10_relay : mk1 89 1 [823, 86] = true := by decide +kernel
theorem mkX10_fewest : mk1 90 1 [827, 86] = true := by decide +kernel
theorem mkX10_word : mk1 91 2 [831, 86] = true := by decide +kernel
theorem mkX10_survives : mk1 92 2 [847, 86] = true := by decide +kernel
theorem mkX10_lives : mk1 93 1 [852, 86] = true := by decide +kernel
theorem mkX10_shares : mk1 94 1 [861, 86] = true := by decide +kernel
theorem mkX10_fast : mk1 95 1 [878, 86] = true := by decide +kernel
theorem mkX10_seen : mk1 96 2 [886, 86] = true := by decide +kernel
theorem mkX10_forget : mk1 97 0 [890, 86] = true := by decide +kernel
theorem mkX10_ordered : mk1 98 0 [898, 86] = true := by decide +kernel
theorem mkX10_unsure : mk1 99 0 [921, 86] = true := by decide +kernel
theorem mkX10_boy : mk1 100 2 [930, 86] = true := by decide +kernel
theorem mkX10_meets : mk1 101 1 [943, 86] = true := by decide +kernel
theorem mkX10_knows : mk1 102 2 [947, 86] = true := by decide +kernel
theorem mkX10_mutiny : mk1 103 3 [951, 86] = true := by decide +kernel
theorem mkX10_chance : mk1 104 3 [961, 86] = true := by decide +kernel
theorem mkX10_voyages : mk1 105 2 [965, 86] = true := by decide +kernel
theorem mkX10_keep : mk1 106 1 [970, 86] = true := by decide +kernel
theorem mkX10_again : mk1 107 1 [974, 86] = true := by decide +kernel
theorem mkX10_count : mk1 108 1 [978, 86] = true := by decide +kernel
theorem mkX10_row : mk1 109 1 [1075, 86] = true := by decide +kernel
theorem mkX10_isDigit : mk1 110 1 [480, 86] = true := by decide +kernel
theorem mkX10_readMesses : mk1 111 0 [518, 86] = true := by decide +kernel
theorem mkX10_voyageFault : mk1 112 0 [689, 86] = true := by decide +kernel
theorem mkX10_doVoyageSign : mk1 113 0 [696, 86] = true := by decide +kernel
theorem mkX10_put : mk1 114 3 [572, 86] = true := by decide +kernel
theorem mkX10_entry : mk1 115 2 [569, 86] = true := by decide +kernel
theorem mkX10_keepOnSea : mk1 116 1 [665, 86] = true := by decide +kernel
theorem mkX10_delayAt : mk1 117 1 [584, 86] = true := by decide +kernel
theorem mkX10_orderRefusal : mk1 118 0 [611, 86] = true := by decide +kernel
theorem mkX10_giveOrder : mk1 119 1 [630, 86] = true := by decide +kernel
theorem mkX10_passRefusal : mk1 120 3 [642, 86] = true := by decide +kernel
theorem mkX10_moveFood : mk1 121 3 [646, 86] = true := by decide +kernel
theorem mkX10_goStep : mk1 122 0 [658, 86] = true := by decide +kernel
theorem mkX10_firstFree : mk1 123 0 [733, 86] = true := by decide +kernel
theorem mkX10_lookAhead : mk1 124 0 [728, 86] = true := by decide +kernel
theorem mkX10_rocksInLane : mk1 125 2 [800, 86] = true := by decide +kernel
theorem mkX10_apart : mk1 126 1 [804, 86] = true := by decide +kernel
theorem mkX10_widened : mk1 127 1 [744, 86] = true := by decide +kernel
theorem mkX10_power : mk1 128 2 [837, 86] = true := by decide +kernel
theorem mkX10_likelyWord : mk1 129 2 [834, 86] = true := by decide +kernel
theorem mkX10_lastsFor : mk1 130 2 [857, 86] = true := by decide +kernel
theorem mkX10_foodLeft : mk1 131 2 [882, 86] = true := by decide +kernel
theorem mkX10_weighPassing : mk1 132 0 [865, 86] = true := by decide +kernel
theorem mkX10_leastPassing : mk1 133 2 [869, 86] = true := by decide +kernel
theorem mkX10_choosePassing : mk1 134 0 [874, 86] = true := by decide +kernel
theorem mkX10_lap : mk1 135 0 [934, 86] = true := by decide +kernel
theorem mkX10_cellAfter : mk1 136 1 [939, 86] = true := by decide +kernel
theorem mkX10_holdsThen : mk1 137 4 [957, 86] = true := by decide +kernel
theorem mkX10_wantsAnother : mk1 138 4 [954, 86] = true := by decide +kernel
theorem mkX11_init : mk1 139 0 [1080, 98] = true := by decide +kernel
theorem mkX11_refuse : mk1 140 0 [1388, 98] = true := by decide +kernel
theorem mkX11_in : mk1 141 3 [1252, 98] = true := by decide +kernel
theorem mkX11_has : mk1 142 2 [1542, 98] = true := by decide +kernel
theorem mkX11_flag : mk1 143 1 [1282, 98] = true := by decide +kernel
theorem mkX11_common : mk1 144 2 [1629, 98] = true := by decide +kernel
theorem mkX11_enters : mk1 145 1 [1503, 98] = true := by decide +kernel
theorem mkX11_tellsFraction : mk1 146 2 [1626, 98] = true := by decide +kernel
theorem mkX11_isMess : mk1 147 1 [1400, 98] = true := by decide +kernel
theorem mkX11_sign : mk1 148 1 [1245, 98] = true := by decide +kernel
theorem mkX11_end : mk1 149 1 [1249, 98] = true := by decide +kernel
theorem mkX11_begins : mk1 150 1 [1260, 98] = true := by decide +kernel
theorem mkX11_takes : mk1 151 1 [1279, 98] = true := by decide +kernel
theorem mkX11_isDigit : mk1 152 0 [1273, 98] = true := by decide +kernel
theorem mkX11_among : mk1 153 1 [1303, 98] = true := by decide +kernel
theorem mkX11_takesOf : mk1 154 1 [1299, 98] = true := by decide +kernel
theorem mkX11_number : mk1 155 1 [1269, 98] = true := by decide +kernel
theorem mkX11_numberIn : mk1 156 3 [1265, 98] = true := by decide +kernel
theorem mkX11_faultOf : mk1 157 3 [1286, 98] = true := by decide +kernel
theorem mkX11_ship : mk1 158 0 [1256, 98] = true := by decide +kernel
theorem mkX11_readsRock : mk1 159 0 [1294, 98] = true := by decide +kernel
theorem mkX11_readsMess : mk1 160 0 [1360, 98] = true := by decide +kernel
theorem mkX11_rocks : mk1 161 0 [1290, 98] = true := by decide +kernel
theorem mkX11_messes : mk1 162 0 [1356, 98] = true := by decide +kernel
theorem mkX11_codes : mk1 163 1 [1376, 98] = true := by decide +kernel
theorem mkX11_readsThing : mk1 164 0 [1372, 98] = true := by decide +kernel
theorem mkX11_readsRank : mk1 165 1 [1368, 98] = true := by decide +kernel
theorem mkX11_rule : mk1 166 0 [1364, 98] = true := by decide +kernel
theorem mkX11_worked : mk1 167 3 [1434, 98] = true := by decide +kernel
theorem mkX11_ruled : mk1 168 0 [1431, 98] = true := by decide +kernel
theorem mkX11_delayAt : mk1 169 1 [1427, 98] = true := by decide +kernel
theorem mkX11_turned : mk1 170 1 [1451, 98] = true := by decide +kernel
theorem mkX11_post : mk1 171 2 [1384, 98] = true := by decide +kernel
theorem mkX11_rock : mk1 172 2 [1392, 98] = true := by decide +kernel
theorem mkX11_mess : mk1 173 2 [1396, 98] = true := by decide +kernel
theorem mkX11_isAhead : mk1 174 2 [1409, 98] = true := by decide +kernel
theorem mkX11_way : mk1 175 2 [1405, 98] = true := by decide +kernel
theorem mkX11_sheet : mk1 176 4 [1413, 98] = true := by decide +kernel
theorem mkX11_putsBy : mk1 177 0 [1442, 98] = true := by decide +kernel
theorem mkX11_adds : mk1 178 1 [1459, 98] = true := by decide +kernel
theorem mkX11_counts : mk1 179 1 [1455, 98] = true := by decide +kernel
theorem mkX11_undo : mk1 180 0 [1419, 98] = true := by decide +kernel
theorem mkX11_put : mk1 181 1 [1495, 98] = true := by decide +kernel
theorem mkX11_doesDue : mk1 182 1 [1492, 98] = true := by decide +kernel
theorem mkX11_hitsAt : mk1 183 2 [1499, 98] = true := by decide +kernel
theorem mkX11_stepGoes : mk1 184 1 [1489, 98] = true := by decide +kernel
theorem mkX11_gives : mk1 185 2 [1446, 98] = true := by decide +kernel
theorem mkX11_passes : mk1 186 3 [1467, 98] = true := by decide +kernel
theorem mkX11_cooks : mk1 187 2 [1476, 98] = true := by decide +kernel
theorem mkX11_delay : mk1 188 0 [1423, 98] = true := by decide +kernel
theorem mkX11_order : mk1 189 1 [1438, 98] = true := by decide +kernel
theorem mkX11_pass : mk1 190 3 [1463, 98] = true := by decide +kernel
theorem mkX11_cook : mk1 191 2 [1472, 98] = true := by decide +kernel
theorem mkX11_startsCounting : mk1 192 0 [1485, 98] = true := by decide +kernel
theorem mkX11_steps : mk1 193 1 [1480, 98] = true := by decide +kernel
theorem mkX11_readsAct : mk1 194 0 [1511, 98] = true := by decide +kernel
theorem mkX11_does : mk1 195 1 [1516, 98] = true := by decide +kernel
theorem mkX11_voyage : mk1 196 0 [1507, 98] = true := by decide +kernel
theorem mkX11_puts : mk1 197 0 [1524, 98] = true := by decide +kernel
theorem mkX11_lane : mk1 198 1 [1520, 98] = true := by decide +kernel
theorem mkX11_strikes : mk1 199 0 [1528, 98] = true := by decide +kernel
theorem mkX11_moved : mk1 200 2 [1539, 98] = true := by decide +kernel
theorem mkX11_movedByDue : mk1 201 2 [1536, 98] = true := by decide +kernel
theorem mkX11_mayGive : mk1 202 1 [1550, 98] = true := by decide +kernel
theorem mkX11_comesAt : mk1 203 2 [1546, 98] = true := by decide +kernel
theorem mkX11_clears : mk1 204 0 [1532, 98] = true := by decide +kernel
theorem mkX11_goesBy : mk1 205 2 [1571, 98] = true := by decide +kernel
theorem mkX11_laysLeast : mk1 206 1 [1567, 98] = true := by decide +kernel
theorem mkX11_fewestOrders : mk1 207 1 [1563, 98] = true := by decide +kernel
theorem mkX11_choosesAny : mk1 208 1 [1559, 98] = true := by decide +kernel
theorem mkX11_plan : mk1 209 1 [1554, 98] = true := by decide +kernel
theorem mkX11_latest : mk1 210 1 [1575, 98] = true := by decide +kernel
theorem mkX11_lanes : mk1 211 1 [1579, 98] = true := by decide +kernel
theorem mkX11_rocksIn : mk1 212 2 [1589, 98] = true := by decide +kernel
theorem mkX11_safest : mk1 213 1 [1584, 98] = true := by decide +kernel
theorem mkX11_late : mk1 214 1 [1594, 98] = true := by decide +kernel
theorem mkX11_comes : mk1 215 1 [1598, 98] = true := by decide +kernel
theorem mkX11_postsFor : mk1 216 1 [1608, 98] = true := by decide +kernel
theorem mkX11_relay : mk1 217 1 [1603, 98] = true := by decide +kernel
theorem mkX11_fewest : mk1 218 1 [1612, 98] = true := by decide +kernel
theorem mkX11_bets : mk1 219 2 [1622, 98] = true := by decide +kernel
theorem mkX11_word : mk1 220 2 [1617, 98] = true := by decide +kernel
theorem mkX11_survives : mk1 221 2 [1633, 98] = true := by decide +kernel
theorem mkX11_lastsFor : mk1 222 2 [1642, 98] = true := by decide +kernel
theorem mkX11_lives : mk1 223 1 [1638, 98] = true := by decide +kernel
theorem mkX11_spare : mk1 224 2 [1651, 98] = true := by decide +kernel
theorem mkX11_laysFlows : mk1 225 1 [1655, 98] = true := by decide +kernel
theorem mkX11_flow : mk1 226 2 [1660, 98] = true := by decide +kernel
theorem mkX11_shares : mk1 227 1 [1647, 98] = true := by decide +kernel
theorem mkX11_fast : mk1 228 1 [1664, 98] = true := by decide +kernel
theorem mkX11_seenIn : mk1 229 1 [1674, 98] = true := by decide +kernel
theorem mkX11_seen : mk1 230 2 [1668, 98] = true := by decide +kernel
theorem mkX11_forget : mk1 231 0 [1678, 98] = true := by decide +kernel
theorem mkX11_lastSeen : mk1 232 0 [1686, 98] = true := by decide +kernel
theorem mkX11_isFine : mk1 233 2 [1694, 98] = true := by decide +kernel
theorem mkX11_laysSeen : mk1 234 1 [1690, 98] = true := by decide +kernel
theorem mkX11_ordered : mk1 235 0 [1682, 98] = true := by decide +kernel
theorem mkX11_unsure : mk1 236 0 [1698, 98] = true := by decide +kernel
theorem mkX11_boyBegins : mk1 237 2 [1711, 98] = true := by decide +kernel
theorem mkX11_boyGoes : mk1 238 0 [1715, 98] = true := by decide +kernel
theorem mkX11_canRest : mk1 239 1 [1706, 98] = true := by decide +kernel
theorem mkX11_boy : mk1 240 2 [1702, 98] = true := by decide +kernel
theorem mkX11_meets : mk1 241 1 [1719, 98] = true := by decide +kernel
theorem mkX11_knows : mk1 242 2 [1723, 98] = true := by decide +kernel
theorem mkX11_keeps : mk1 243 4 [1735, 98] = true := by decide +kernel
theorem mkX11_isRest : mk1 244 4 [1732, 98] = true := by decide +kernel
theorem mkX11_mutiny : mk1 245 3 [1727, 98] = true := by decide +kernel
theorem mkX11_chance : mk1 246 3 [1739, 98] = true := by decide +kernel
theorem mkX11_voyages : mk1 247 2 [1743, 98] = true := by decide +kernel
theorem mkX11_keep : mk1 248 1 [1748, 98] = true := by decide +kernel
theorem mkX11_again : mk1 249 1 [1752, 98] = true := by decide +kernel
theorem mkX11_count : mk1 250 1 [1756, 98] = true := by decide +kernel
theorem mkX11_row : mk1 251 1 [1760, 98] = true := by decide +kernel
theorem mkJ6_bitCount_0f7a4 : mk1 252 1 [789, 109] = true := by decide +kernel
theorem mkJ0_length_8abf5 : mk1 253 0 [1307, 100] = true := by decide +kernel
theorem mkJ0_charAt_5068e : mk1 254 1 [1317, 100] = true := by decide +kernel
theorem mkJ7_fill_53178 : mk1 255 2 [375, 97] = true := by decide +kernel
theorem hmath_t : ∀ w ∈ mathW, w ∈ GW := by
  intro w hw
  simp only [mathW, List.mem_cons, List.not_mem_nil, or_false] at hw
  rcases hw with rfl | rfl | rfl | rfl | rfl | rfl | rfl | rfl | rfl | rfl | rfl | rfl
  · exact atT_gw (i := 575) (by decide +kernel)
  · exact atT_gw (i := 576) (by decide +kernel)
  · exact atT_gw (i := 464) (by decide +kernel)
  · exact atT_gw (i := 465) (by decide +kernel)
  · exact atT_gw (i := 806) (by decide +kernel)
  · exact atT_gw (i := 807) (by decide +kernel)
  · exact atT_gw (i := 99) (by decide +kernel)
  · exact atT_gw (i := 626) (by decide +kernel)
  · exact atT_gw (i := 625) (by decide +kernel)
  · exact atT_gw (i := 108) (by decide +kernel)
  · exact atT_gw (i := 116) (by decide +kernel)
  · exact atT_gw (i := 117) (by decide +kernel)
theorem mtab_len : mtab.length = 256 := by decide +kernel
theorem hac_of (k : Nat) {mi : MI} (hs : List (List Nat)) (h : mtab[k]? = some mi) (ho : (match mtab[k]? with
  | some mi => acokB mi hs
  | none => false) = true) : acok mi := by
  rw [h] at ho
  exact acokB_ok ho
theorem hac_t : ∀ (k : Nat) (mi : MI), mtab[k]? = some mi → acok mi := by
  intro k mi h
  have hk : k < 256 := by rw [← mtab_len]; exact (List.getElem?_eq_some_iff.mp h).1
  by_cases h0_256 : k < 128
  · by_cases h0_128 : k < 64
    · by_cases h0_64 : k < 32
      · by_cases h0_32 : k < 16
        · by_cases h0_16 : k < 8
          · by_cases h0_8 : k < 4
            · by_cases h0_4 : k < 2
              · by_cases h0_2 : k < 1
                · obtain rfl : k = 0 := by omega
                  exact hac_of 0 _ h okX0_init
                · obtain rfl : k = 1 := by omega
                  exact hac_of 1 _ h okX0_isOvertaken
              · by_cases h2_4 : k < 3
                · obtain rfl : k = 2 := by omega
                  exact hac_of 2 _ h okX0_reach
                · obtain rfl : k = 3 := by omega
                  exact hac_of 3 _ h okX0_moved
            · by_cases h4_8 : k < 6
              · by_cases h4_6 : k < 5
                · obtain rfl : k = 4 := by omega
                  exact hac_of 4 _ h okX0_freeOrders
                · obtain rfl : k = 5 := by omega
                  exact hac_of 5 _ h okX0_fewestOrders
              · by_cases h6_8 : k < 7
                · obtain rfl : k = 6 := by omega
                  exact hac_of 6 _ h okX0_doChosen
                · obtain rfl : k = 7 := by omega
                  exact hac_of 7 _ h okX0_moveCosts
          · by_cases h8_16 : k < 12
            · by_cases h8_12 : k < 10
              · by_cases h8_10 : k < 9
                · obtain rfl : k = 8 := by omega
                  exact hac_of 8 _ h okX0_chooseLeastRow
                · obtain rfl : k = 9 := by omega
                  exact hac_of 9 _ h okX0_leastChoice
              · by_cases h10_12 : k < 11
                · obtain rfl : k = 10 := by omega
                  exact hac_of 10 _ h okX1_init
                · obtain rfl : k = 11 := by omega
                  exact hac_of 11 _ h okX1_remember
            · by_cases h12_16 : k < 14
              · by_cases h12_14 : k < 13
                · obtain rfl : k = 12 := by omega
                  exact hac_of 12 _ h okX1_bringBack
                · obtain rfl : k = 13 := by omega
                  exact hac_of 13 _ h okX1_forgetAll
              · by_cases h14_16 : k < 15
                · obtain rfl : k = 14 := by omega
                  exact hac_of 14 _ h okX2_init
                · obtain rfl : k = 15 := by omega
                  exact hac_of 15 _ h okX2_readFrom
        · by_cases h16_32 : k < 24
          · by_cases h16_24 : k < 20
            · by_cases h16_20 : k < 18
              · by_cases h16_18 : k < 17
                · obtain rfl : k = 16 := by omega
                  exact hac_of 16 _ h okX3_init
                · obtain rfl : k = 17 := by omega
                  exact hac_of 17 _ h okX3_clear
              · by_cases h18_20 : k < 19
                · obtain rfl : k = 18 := by omega
                  exact hac_of 18 _ h okX3_add
                · obtain rfl : k = 19 := by omega
                  exact hac_of 19 _ h okX3_tellOne
            · by_cases h20_24 : k < 22
              · by_cases h20_22 : k < 21
                · obtain rfl : k = 20 := by omega
                  exact hac_of 20 _ h okX3_tellTwo
                · obtain rfl : k = 21 := by omega
                  exact hac_of 21 _ h okX3_tellFraction
              · by_cases h22_24 : k < 23
                · obtain rfl : k = 22 := by omega
                  exact hac_of 22 _ h okX4_init
                · obtain rfl : k = 23 := by omega
                  exact hac_of 23 _ h okX4_add
          · by_cases h24_32 : k < 28
            · by_cases h24_28 : k < 26
              · by_cases h24_26 : k < 25
                · obtain rfl : k = 24 := by omega
                  exact hac_of 24 _ h okX4_work
                · obtain rfl : k = 25 := by omega
                  exact hac_of 25 _ h okX4_push
              · by_cases h26_28 : k < 27
                · obtain rfl : k = 26 := by omega
                  exact hac_of 26 _ h okX4_pop
                · obtain rfl : k = 27 := by omega
                  exact hac_of 27 _ h okX4_valueOf
            · by_cases h28_32 : k < 30
              · by_cases h28_30 : k < 29
                · obtain rfl : k = 28 := by omega
                  exact hac_of 28 _ h okX4_apply
                · obtain rfl : k = 29 := by omega
                  exact hac_of 29 _ h okX5_init
              · by_cases h30_32 : k < 31
                · obtain rfl : k = 30 := by omega
                  exact hac_of 30 _ h okX5_readFrom
                · obtain rfl : k = 31 := by omega
                  exact hac_of 31 _ h okX5_takeThing
      · by_cases h32_64 : k < 48
        · by_cases h32_48 : k < 40
          · by_cases h32_40 : k < 36
            · by_cases h32_36 : k < 34
              · by_cases h32_34 : k < 33
                · obtain rfl : k = 32 := by omega
                  exact hac_of 32 _ h okX5_takeOperator
                · obtain rfl : k = 33 := by omega
                  exact hac_of 33 _ h okX5_hold
              · by_cases h34_36 : k < 35
                · obtain rfl : k = 34 := by omega
                  exact hac_of 34 _ h okX5_release
                · obtain rfl : k = 35 := by omega
                  exact hac_of 35 _ h okX5_rank
            · by_cases h36_40 : k < 38
              · by_cases h36_38 : k < 37
                · obtain rfl : k = 36 := by omega
                  exact hac_of 36 _ h okX6_init
                · obtain rfl : k = 37 := by omega
                  exact hac_of 37 _ h okX6_readFrom
              · by_cases h38_40 : k < 39
                · obtain rfl : k = 38 := by omega
                  exact hac_of 38 _ h okX6_addPost
                · obtain rfl : k = 39 := by omega
                  exact hac_of 39 _ h okX7_init
          · by_cases h40_48 : k < 44
            · by_cases h40_44 : k < 42
              · by_cases h40_42 : k < 41
                · obtain rfl : k = 40 := by omega
                  exact hac_of 40 _ h okX7_forgetAll
                · obtain rfl : k = 41 := by omega
                  exact hac_of 41 _ h okX7_lastStep
              · by_cases h42_44 : k < 43
                · obtain rfl : k = 42 := by omega
                  exact hac_of 42 _ h okX7_countWays
                · obtain rfl : k = 43 := by omega
                  exact hac_of 43 _ h okX7_waysBehind
            · by_cases h44_48 : k < 46
              · by_cases h44_46 : k < 45
                · obtain rfl : k = 44 := by omega
                  exact hac_of 44 _ h okX7_leastOrder
                · obtain rfl : k = 45 := by omega
                  exact hac_of 45 _ h okX7_possible
              · by_cases h46_48 : k < 47
                · obtain rfl : k = 46 := by omega
                  exact hac_of 46 _ h okX8_init
                · obtain rfl : k = 47 := by omega
                  exact hac_of 47 _ h okX8_copyFrom
        · by_cases h48_64 : k < 56
          · by_cases h48_56 : k < 52
            · by_cases h48_52 : k < 50
              · by_cases h48_50 : k < 49
                · obtain rfl : k = 48 := by omega
                  exact hac_of 48 _ h okX8_gaveNow
                · obtain rfl : k = 49 := by omega
                  exact hac_of 49 _ h okX8_addOrder
              · by_cases h50_52 : k < 51
                · obtain rfl : k = 50 := by omega
                  exact hac_of 50 _ h okX8_doDueOrders
                · obtain rfl : k = 51 := by omega
                  exact hac_of 51 _ h okX8_laneIn
            · by_cases h52_56 : k < 54
              · by_cases h52_54 : k < 53
                · obtain rfl : k = 52 := by omega
                  exact hac_of 52 _ h okX8_eat
                · obtain rfl : k = 53 := by omega
                  exact hac_of 53 _ h okX9_init
              · by_cases h54_56 : k < 55
                · obtain rfl : k = 54 := by omega
                  exact hac_of 54 _ h okX9_append
                · obtain rfl : k = 55 := by omega
                  exact hac_of 55 _ h okX9_open
          · by_cases h56_64 : k < 60
            · by_cases h56_60 : k < 58
              · by_cases h56_58 : k < 57
                · obtain rfl : k = 56 := by omega
                  exact hac_of 56 _ h okX9_ended
                · obtain rfl : k = 57 := by omega
                  exact hac_of 57 _ h okX9_next
              · by_cases h58_60 : k < 59
                · obtain rfl : k = 58 := by omega
                  exact hac_of 58 _ h okX9_take
                · obtain rfl : k = 59 := by omega
                  exact hac_of 59 _ h okX9_takeNumber
            · by_cases h60_64 : k < 62
              · by_cases h60_62 : k < 61
                · obtain rfl : k = 60 := by omega
                  exact hac_of 60 _ h okX9_faultAtEnd
                · obtain rfl : k = 61 := by omega
                  exact hac_of 61 _ h okX10_init
              · by_cases h62_64 : k < 63
                · obtain rfl : k = 62 := by omega
                  exact hac_of 62 _ h okX10_sign
                · obtain rfl : k = 63 := by omega
                  exact hac_of 63 _ h okX10_end
    · by_cases h64_128 : k < 96
      · by_cases h64_96 : k < 80
        · by_cases h64_80 : k < 72
          · by_cases h64_72 : k < 68
            · by_cases h64_68 : k < 66
              · by_cases h64_66 : k < 65
                · obtain rfl : k = 64 := by omega
                  exact hac_of 64 _ h okX10_ship
                · obtain rfl : k = 65 := by omega
                  exact hac_of 65 _ h okX10_rocks
              · by_cases h66_68 : k < 67
                · obtain rfl : k = 66 := by omega
                  exact hac_of 66 _ h okX10_messes
                · obtain rfl : k = 67 := by omega
                  exact hac_of 67 _ h okX10_rule
            · by_cases h68_72 : k < 70
              · by_cases h68_70 : k < 69
                · obtain rfl : k = 68 := by omega
                  exact hac_of 68 _ h okX10_post
                · obtain rfl : k = 69 := by omega
                  exact hac_of 69 _ h okX10_rock
              · by_cases h70_72 : k < 71
                · obtain rfl : k = 70 := by omega
                  exact hac_of 70 _ h okX10_mess
                · obtain rfl : k = 71 := by omega
                  exact hac_of 71 _ h okX10_way
          · by_cases h72_80 : k < 76
            · by_cases h72_76 : k < 74
              · by_cases h72_74 : k < 73
                · obtain rfl : k = 72 := by omega
                  exact hac_of 72 _ h okX10_sheet
                · obtain rfl : k = 73 := by omega
                  exact hac_of 73 _ h okX10_delay
              · by_cases h74_76 : k < 75
                · obtain rfl : k = 74 := by omega
                  exact hac_of 74 _ h okX10_order
                · obtain rfl : k = 75 := by omega
                  exact hac_of 75 _ h okX10_pass
            · by_cases h76_80 : k < 78
              · by_cases h76_78 : k < 77
                · obtain rfl : k = 76 := by omega
                  exact hac_of 76 _ h okX10_cook
                · obtain rfl : k = 77 := by omega
                  exact hac_of 77 _ h okX10_steps
              · by_cases h78_80 : k < 79
                · obtain rfl : k = 78 := by omega
                  exact hac_of 78 _ h okX10_voyage
                · obtain rfl : k = 79 := by omega
                  exact hac_of 79 _ h okX10_undo
        · by_cases h80_96 : k < 88
          · by_cases h80_88 : k < 84
            · by_cases h80_84 : k < 82
              · by_cases h80_82 : k < 81
                · obtain rfl : k = 80 := by omega
                  exact hac_of 80 _ h okX10_lane
                · obtain rfl : k = 81 := by omega
                  exact hac_of 81 _ h okX10_strikes
              · by_cases h82_84 : k < 83
                · obtain rfl : k = 82 := by omega
                  exact hac_of 82 _ h okX10_clears
                · obtain rfl : k = 83 := by omega
                  exact hac_of 83 _ h okX10_plan
            · by_cases h84_88 : k < 86
              · by_cases h84_86 : k < 85
                · obtain rfl : k = 84 := by omega
                  exact hac_of 84 _ h okX10_latest
                · obtain rfl : k = 85 := by omega
                  exact hac_of 85 _ h okX10_lanes
              · by_cases h86_88 : k < 87
                · obtain rfl : k = 86 := by omega
                  exact hac_of 86 _ h okX10_safest
                · obtain rfl : k = 87 := by omega
                  exact hac_of 87 _ h okX10_late
          · by_cases h88_96 : k < 92
            · by_cases h88_92 : k < 90
              · by_cases h88_90 : k < 89
                · obtain rfl : k = 88 := by omega
                  exact hac_of 88 _ h okX10_comes
                · obtain rfl : k = 89 := by omega
                  exact hac_of 89 _ h okX10_relay
              · by_cases h90_92 : k < 91
                · obtain rfl : k = 90 := by omega
                  exact hac_of 90 _ h okX10_fewest
                · obtain rfl : k = 91 := by omega
                  exact hac_of 91 _ h okX10_word
            · by_cases h92_96 : k < 94
              · by_cases h92_94 : k < 93
                · obtain rfl : k = 92 := by omega
                  exact hac_of 92 _ h okX10_survives
                · obtain rfl : k = 93 := by omega
                  exact hac_of 93 _ h okX10_lives
              · by_cases h94_96 : k < 95
                · obtain rfl : k = 94 := by omega
                  exact hac_of 94 _ h okX10_shares
                · obtain rfl : k = 95 := by omega
                  exact hac_of 95 _ h okX10_fast
      · by_cases h96_128 : k < 112
        · by_cases h96_112 : k < 104
          · by_cases h96_104 : k < 100
            · by_cases h96_100 : k < 98
              · by_cases h96_98 : k < 97
                · obtain rfl : k = 96 := by omega
                  exact hac_of 96 _ h okX10_seen
                · obtain rfl : k = 97 := by omega
                  exact hac_of 97 _ h okX10_forget
              · by_cases h98_100 : k < 99
                · obtain rfl : k = 98 := by omega
                  exact hac_of 98 _ h okX10_ordered
                · obtain rfl : k = 99 := by omega
                  exact hac_of 99 _ h okX10_unsure
            · by_cases h100_104 : k < 102
              · by_cases h100_102 : k < 101
                · obtain rfl : k = 100 := by omega
                  exact hac_of 100 _ h okX10_boy
                · obtain rfl : k = 101 := by omega
                  exact hac_of 101 _ h okX10_meets
              · by_cases h102_104 : k < 103
                · obtain rfl : k = 102 := by omega
                  exact hac_of 102 _ h okX10_knows
                · obtain rfl : k = 103 := by omega
                  exact hac_of 103 _ h okX10_mutiny
          · by_cases h104_112 : k < 108
            · by_cases h104_108 : k < 106
              · by_cases h104_106 : k < 105
                · obtain rfl : k = 104 := by omega
                  exact hac_of 104 _ h okX10_chance
                · obtain rfl : k = 105 := by omega
                  exact hac_of 105 _ h okX10_voyages
              · by_cases h106_108 : k < 107
                · obtain rfl : k = 106 := by omega
                  exact hac_of 106 _ h okX10_keep
                · obtain rfl : k = 107 := by omega
                  exact hac_of 107 _ h okX10_again
            · by_cases h108_112 : k < 110
              · by_cases h108_110 : k < 109
                · obtain rfl : k = 108 := by omega
                  exact hac_of 108 _ h okX10_count
                · obtain rfl : k = 109 := by omega
                  exact hac_of 109 _ h okX10_row
              · by_cases h110_112 : k < 111
                · obtain rfl : k = 110 := by omega
                  exact hac_of 110 _ h okX10_isDigit
                · obtain rfl : k = 111 := by omega
                  exact hac_of 111 _ h okX10_readMesses
        · by_cases h112_128 : k < 120
          · by_cases h112_120 : k < 116
            · by_cases h112_116 : k < 114
              · by_cases h112_114 : k < 113
                · obtain rfl : k = 112 := by omega
                  exact hac_of 112 _ h okX10_voyageFault
                · obtain rfl : k = 113 := by omega
                  exact hac_of 113 _ h okX10_doVoyageSign
              · by_cases h114_116 : k < 115
                · obtain rfl : k = 114 := by omega
                  exact hac_of 114 _ h okX10_put
                · obtain rfl : k = 115 := by omega
                  exact hac_of 115 _ h okX10_entry
            · by_cases h116_120 : k < 118
              · by_cases h116_118 : k < 117
                · obtain rfl : k = 116 := by omega
                  exact hac_of 116 _ h okX10_keepOnSea
                · obtain rfl : k = 117 := by omega
                  exact hac_of 117 _ h okX10_delayAt
              · by_cases h118_120 : k < 119
                · obtain rfl : k = 118 := by omega
                  exact hac_of 118 _ h okX10_orderRefusal
                · obtain rfl : k = 119 := by omega
                  exact hac_of 119 _ h okX10_giveOrder
          · by_cases h120_128 : k < 124
            · by_cases h120_124 : k < 122
              · by_cases h120_122 : k < 121
                · obtain rfl : k = 120 := by omega
                  exact hac_of 120 _ h okX10_passRefusal
                · obtain rfl : k = 121 := by omega
                  exact hac_of 121 _ h okX10_moveFood
              · by_cases h122_124 : k < 123
                · obtain rfl : k = 122 := by omega
                  exact hac_of 122 _ h okX10_goStep
                · obtain rfl : k = 123 := by omega
                  exact hac_of 123 _ h okX10_firstFree
            · by_cases h124_128 : k < 126
              · by_cases h124_126 : k < 125
                · obtain rfl : k = 124 := by omega
                  exact hac_of 124 _ h okX10_lookAhead
                · obtain rfl : k = 125 := by omega
                  exact hac_of 125 _ h okX10_rocksInLane
              · by_cases h126_128 : k < 127
                · obtain rfl : k = 126 := by omega
                  exact hac_of 126 _ h okX10_apart
                · obtain rfl : k = 127 := by omega
                  exact hac_of 127 _ h okX10_widened
  · by_cases h128_256 : k < 192
    · by_cases h128_192 : k < 160
      · by_cases h128_160 : k < 144
        · by_cases h128_144 : k < 136
          · by_cases h128_136 : k < 132
            · by_cases h128_132 : k < 130
              · by_cases h128_130 : k < 129
                · obtain rfl : k = 128 := by omega
                  exact hac_of 128 _ h okX10_power
                · obtain rfl : k = 129 := by omega
                  exact hac_of 129 _ h okX10_likelyWord
              · by_cases h130_132 : k < 131
                · obtain rfl : k = 130 := by omega
                  exact hac_of 130 _ h okX10_lastsFor
                · obtain rfl : k = 131 := by omega
                  exact hac_of 131 _ h okX10_foodLeft
            · by_cases h132_136 : k < 134
              · by_cases h132_134 : k < 133
                · obtain rfl : k = 132 := by omega
                  exact hac_of 132 _ h okX10_weighPassing
                · obtain rfl : k = 133 := by omega
                  exact hac_of 133 _ h okX10_leastPassing
              · by_cases h134_136 : k < 135
                · obtain rfl : k = 134 := by omega
                  exact hac_of 134 _ h okX10_choosePassing
                · obtain rfl : k = 135 := by omega
                  exact hac_of 135 _ h okX10_lap
          · by_cases h136_144 : k < 140
            · by_cases h136_140 : k < 138
              · by_cases h136_138 : k < 137
                · obtain rfl : k = 136 := by omega
                  exact hac_of 136 _ h okX10_cellAfter
                · obtain rfl : k = 137 := by omega
                  exact hac_of 137 _ h okX10_holdsThen
              · by_cases h138_140 : k < 139
                · obtain rfl : k = 138 := by omega
                  exact hac_of 138 _ h okX10_wantsAnother
                · obtain rfl : k = 139 := by omega
                  exact hac_of 139 _ h okX11_init
            · by_cases h140_144 : k < 142
              · by_cases h140_142 : k < 141
                · obtain rfl : k = 140 := by omega
                  exact hac_of 140 _ h okX11_refuse
                · obtain rfl : k = 141 := by omega
                  exact hac_of 141 _ h okX11_in
              · by_cases h142_144 : k < 143
                · obtain rfl : k = 142 := by omega
                  exact hac_of 142 _ h okX11_has
                · obtain rfl : k = 143 := by omega
                  exact hac_of 143 _ h okX11_flag
        · by_cases h144_160 : k < 152
          · by_cases h144_152 : k < 148
            · by_cases h144_148 : k < 146
              · by_cases h144_146 : k < 145
                · obtain rfl : k = 144 := by omega
                  exact hac_of 144 _ h okX11_common
                · obtain rfl : k = 145 := by omega
                  exact hac_of 145 _ h okX11_enters
              · by_cases h146_148 : k < 147
                · obtain rfl : k = 146 := by omega
                  exact hac_of 146 _ h okX11_tellsFraction
                · obtain rfl : k = 147 := by omega
                  exact hac_of 147 _ h okX11_isMess
            · by_cases h148_152 : k < 150
              · by_cases h148_150 : k < 149
                · obtain rfl : k = 148 := by omega
                  exact hac_of 148 _ h okX11_sign
                · obtain rfl : k = 149 := by omega
                  exact hac_of 149 _ h okX11_end
              · by_cases h150_152 : k < 151
                · obtain rfl : k = 150 := by omega
                  exact hac_of 150 _ h okX11_begins
                · obtain rfl : k = 151 := by omega
                  exact hac_of 151 _ h okX11_takes
          · by_cases h152_160 : k < 156
            · by_cases h152_156 : k < 154
              · by_cases h152_154 : k < 153
                · obtain rfl : k = 152 := by omega
                  exact hac_of 152 _ h okX11_isDigit
                · obtain rfl : k = 153 := by omega
                  exact hac_of 153 _ h okX11_among
              · by_cases h154_156 : k < 155
                · obtain rfl : k = 154 := by omega
                  exact hac_of 154 _ h okX11_takesOf
                · obtain rfl : k = 155 := by omega
                  exact hac_of 155 _ h okX11_number
            · by_cases h156_160 : k < 158
              · by_cases h156_158 : k < 157
                · obtain rfl : k = 156 := by omega
                  exact hac_of 156 _ h okX11_numberIn
                · obtain rfl : k = 157 := by omega
                  exact hac_of 157 _ h okX11_faultOf
              · by_cases h158_160 : k < 159
                · obtain rfl : k = 158 := by omega
                  exact hac_of 158 _ h okX11_ship
                · obtain rfl : k = 159 := by omega
                  exact hac_of 159 _ h okX11_readsRock
      · by_cases h160_192 : k < 176
        · by_cases h160_176 : k < 168
          · by_cases h160_168 : k < 164
            · by_cases h160_164 : k < 162
              · by_cases h160_162 : k < 161
                · obtain rfl : k = 160 := by omega
                  exact hac_of 160 _ h okX11_readsMess
                · obtain rfl : k = 161 := by omega
                  exact hac_of 161 _ h okX11_rocks
              · by_cases h162_164 : k < 163
                · obtain rfl : k = 162 := by omega
                  exact hac_of 162 _ h okX11_messes
                · obtain rfl : k = 163 := by omega
                  exact hac_of 163 _ h okX11_codes
            · by_cases h164_168 : k < 166
              · by_cases h164_166 : k < 165
                · obtain rfl : k = 164 := by omega
                  exact hac_of 164 _ h okX11_readsThing
                · obtain rfl : k = 165 := by omega
                  exact hac_of 165 _ h okX11_readsRank
              · by_cases h166_168 : k < 167
                · obtain rfl : k = 166 := by omega
                  exact hac_of 166 _ h okX11_rule
                · obtain rfl : k = 167 := by omega
                  exact hac_of 167 _ h okX11_worked
          · by_cases h168_176 : k < 172
            · by_cases h168_172 : k < 170
              · by_cases h168_170 : k < 169
                · obtain rfl : k = 168 := by omega
                  exact hac_of 168 _ h okX11_ruled
                · obtain rfl : k = 169 := by omega
                  exact hac_of 169 _ h okX11_delayAt
              · by_cases h170_172 : k < 171
                · obtain rfl : k = 170 := by omega
                  exact hac_of 170 _ h okX11_turned
                · obtain rfl : k = 171 := by omega
                  exact hac_of 171 _ h okX11_post
            · by_cases h172_176 : k < 174
              · by_cases h172_174 : k < 173
                · obtain rfl : k = 172 := by omega
                  exact hac_of 172 _ h okX11_rock
                · obtain rfl : k = 173 := by omega
                  exact hac_of 173 _ h okX11_mess
              · by_cases h174_176 : k < 175
                · obtain rfl : k = 174 := by omega
                  exact hac_of 174 _ h okX11_isAhead
                · obtain rfl : k = 175 := by omega
                  exact hac_of 175 _ h okX11_way
        · by_cases h176_192 : k < 184
          · by_cases h176_184 : k < 180
            · by_cases h176_180 : k < 178
              · by_cases h176_178 : k < 177
                · obtain rfl : k = 176 := by omega
                  exact hac_of 176 _ h okX11_sheet
                · obtain rfl : k = 177 := by omega
                  exact hac_of 177 _ h okX11_putsBy
              · by_cases h178_180 : k < 179
                · obtain rfl : k = 178 := by omega
                  exact hac_of 178 _ h okX11_adds
                · obtain rfl : k = 179 := by omega
                  exact hac_of 179 _ h okX11_counts
            · by_cases h180_184 : k < 182
              · by_cases h180_182 : k < 181
                · obtain rfl : k = 180 := by omega
                  exact hac_of 180 _ h okX11_undo
                · obtain rfl : k = 181 := by omega
                  exact hac_of 181 _ h okX11_put
              · by_cases h182_184 : k < 183
                · obtain rfl : k = 182 := by omega
                  exact hac_of 182 _ h okX11_doesDue
                · obtain rfl : k = 183 := by omega
                  exact hac_of 183 _ h okX11_hitsAt
          · by_cases h184_192 : k < 188
            · by_cases h184_188 : k < 186
              · by_cases h184_186 : k < 185
                · obtain rfl : k = 184 := by omega
                  exact hac_of 184 _ h okX11_stepGoes
                · obtain rfl : k = 185 := by omega
                  exact hac_of 185 _ h okX11_gives
              · by_cases h186_188 : k < 187
                · obtain rfl : k = 186 := by omega
                  exact hac_of 186 _ h okX11_passes
                · obtain rfl : k = 187 := by omega
                  exact hac_of 187 _ h okX11_cooks
            · by_cases h188_192 : k < 190
              · by_cases h188_190 : k < 189
                · obtain rfl : k = 188 := by omega
                  exact hac_of 188 _ h okX11_delay
                · obtain rfl : k = 189 := by omega
                  exact hac_of 189 _ h okX11_order
              · by_cases h190_192 : k < 191
                · obtain rfl : k = 190 := by omega
                  exact hac_of 190 _ h okX11_pass
                · obtain rfl : k = 191 := by omega
                  exact hac_of 191 _ h okX11_cook
    · by_cases h192_256 : k < 224
      · by_cases h192_224 : k < 208
        · by_cases h192_208 : k < 200
          · by_cases h192_200 : k < 196
            · by_cases h192_196 : k < 194
              · by_cases h192_194 : k < 193
                · obtain rfl : k = 192 := by omega
                  exact hac_of 192 _ h okX11_startsCounting
                · obtain rfl : k = 193 := by omega
                  exact hac_of 193 _ h okX11_steps
              · by_cases h194_196 : k < 195
                · obtain rfl : k = 194 := by omega
                  exact hac_of 194 _ h okX11_readsAct
                · obtain rfl : k = 195 := by omega
                  exact hac_of 195 _ h okX11_does
            · by_cases h196_200 : k < 198
              · by_cases h196_198 : k < 197
                · obtain rfl : k = 196 := by omega
                  exact hac_of 196 _ h okX11_voyage
                · obtain rfl : k = 197 := by omega
                  exact hac_of 197 _ h okX11_puts
              · by_cases h198_200 : k < 199
                · obtain rfl : k = 198 := by omega
                  exact hac_of 198 _ h okX11_lane
                · obtain rfl : k = 199 := by omega
                  exact hac_of 199 _ h okX11_strikes
          · by_cases h200_208 : k < 204
            · by_cases h200_204 : k < 202
              · by_cases h200_202 : k < 201
                · obtain rfl : k = 200 := by omega
                  exact hac_of 200 _ h okX11_moved
                · obtain rfl : k = 201 := by omega
                  exact hac_of 201 _ h okX11_movedByDue
              · by_cases h202_204 : k < 203
                · obtain rfl : k = 202 := by omega
                  exact hac_of 202 _ h okX11_mayGive
                · obtain rfl : k = 203 := by omega
                  exact hac_of 203 _ h okX11_comesAt
            · by_cases h204_208 : k < 206
              · by_cases h204_206 : k < 205
                · obtain rfl : k = 204 := by omega
                  exact hac_of 204 _ h okX11_clears
                · obtain rfl : k = 205 := by omega
                  exact hac_of 205 _ h okX11_goesBy
              · by_cases h206_208 : k < 207
                · obtain rfl : k = 206 := by omega
                  exact hac_of 206 _ h okX11_laysLeast
                · obtain rfl : k = 207 := by omega
                  exact hac_of 207 _ h okX11_fewestOrders
        · by_cases h208_224 : k < 216
          · by_cases h208_216 : k < 212
            · by_cases h208_212 : k < 210
              · by_cases h208_210 : k < 209
                · obtain rfl : k = 208 := by omega
                  exact hac_of 208 _ h okX11_choosesAny
                · obtain rfl : k = 209 := by omega
                  exact hac_of 209 _ h okX11_plan
              · by_cases h210_212 : k < 211
                · obtain rfl : k = 210 := by omega
                  exact hac_of 210 _ h okX11_latest
                · obtain rfl : k = 211 := by omega
                  exact hac_of 211 _ h okX11_lanes
            · by_cases h212_216 : k < 214
              · by_cases h212_214 : k < 213
                · obtain rfl : k = 212 := by omega
                  exact hac_of 212 _ h okX11_rocksIn
                · obtain rfl : k = 213 := by omega
                  exact hac_of 213 _ h okX11_safest
              · by_cases h214_216 : k < 215
                · obtain rfl : k = 214 := by omega
                  exact hac_of 214 _ h okX11_late
                · obtain rfl : k = 215 := by omega
                  exact hac_of 215 _ h okX11_comes
          · by_cases h216_224 : k < 220
            · by_cases h216_220 : k < 218
              · by_cases h216_218 : k < 217
                · obtain rfl : k = 216 := by omega
                  exact hac_of 216 _ h okX11_postsFor
                · obtain rfl : k = 217 := by omega
                  exact hac_of 217 _ h okX11_relay
              · by_cases h218_220 : k < 219
                · obtain rfl : k = 218 := by omega
                  exact hac_of 218 _ h okX11_fewest
                · obtain rfl : k = 219 := by omega
                  exact hac_of 219 _ h okX11_bets
            · by_cases h220_224 : k < 222
              · by_cases h220_222 : k < 221
                · obtain rfl : k = 220 := by omega
                  exact hac_of 220 _ h okX11_word
                · obtain rfl : k = 221 := by omega
                  exact hac_of 221 _ h okX11_survives
              · by_cases h222_224 : k < 223
                · obtain rfl : k = 222 := by omega
                  exact hac_of 222 _ h okX11_lastsFor
                · obtain rfl : k = 223 := by omega
                  exact hac_of 223 _ h okX11_lives
      · by_cases h224_256 : k < 240
        · by_cases h224_240 : k < 232
          · by_cases h224_232 : k < 228
            · by_cases h224_228 : k < 226
              · by_cases h224_226 : k < 225
                · obtain rfl : k = 224 := by omega
                  exact hac_of 224 _ h okX11_spare
                · obtain rfl : k = 225 := by omega
                  exact hac_of 225 _ h okX11_laysFlows
              · by_cases h226_228 : k < 227
                · obtain rfl : k = 226 := by omega
                  exact hac_of 226 _ h okX11_flow
                · obtain rfl : k = 227 := by omega
                  exact hac_of 227 _ h okX11_shares
            · by_cases h228_232 : k < 230
              · by_cases h228_230 : k < 229
                · obtain rfl : k = 228 := by omega
                  exact hac_of 228 _ h okX11_fast
                · obtain rfl : k = 229 := by omega
                  exact hac_of 229 _ h okX11_seenIn
              · by_cases h230_232 : k < 231
                · obtain rfl : k = 230 := by omega
                  exact hac_of 230 _ h okX11_seen
                · obtain rfl : k = 231 := by omega
                  exact hac_of 231 _ h okX11_forget
          · by_cases h232_240 : k < 236
            · by_cases h232_236 : k < 234
              · by_cases h232_234 : k < 233
                · obtain rfl : k = 232 := by omega
                  exact hac_of 232 _ h okX11_lastSeen
                · obtain rfl : k = 233 := by omega
                  exact hac_of 233 _ h okX11_isFine
              · by_cases h234_236 : k < 235
                · obtain rfl : k = 234 := by omega
                  exact hac_of 234 _ h okX11_laysSeen
                · obtain rfl : k = 235 := by omega
                  exact hac_of 235 _ h okX11_ordered
            · by_cases h236_240 : k < 238
              · by_cases h236_238 : k < 237
                · obtain rfl : k = 236 := by omega
                  exact hac_of 236 _ h okX11_unsure
                · obtain rfl : k = 237 := by omega
                  exact hac_of 237 _ h okX11_boyBegins
              · by_cases h238_240 : k < 239
                · obtain rfl : k = 238 := by omega
                  exact hac_of 238 _ h okX11_boyGoes
                · obtain rfl : k = 239 := by omega
                  exact hac_of 239 _ h okX11_canRest
        · by_cases h240_256 : k < 248
          · by_cases h240_248 : k < 244
            · by_cases h240_244 : k < 242
              · by_cases h240_242 : k < 241
                · obtain rfl : k = 240 := by omega
                  exact hac_of 240 _ h okX11_boy
                · obtain rfl : k = 241 := by omega
                  exact hac_of 241 _ h okX11_meets
              · by_cases h242_244 : k < 243
                · obtain rfl : k = 242 := by omega
                  exact hac_of 242 _ h okX11_knows
                · obtain rfl : k = 243 := by omega
                  exact hac_of 243 _ h okX11_keeps
            · by_cases h244_248 : k < 246
              · by_cases h244_246 : k < 245
                · obtain rfl : k = 244 := by omega
                  exact hac_of 244 _ h okX11_isRest
                · obtain rfl : k = 245 := by omega
                  exact hac_of 245 _ h okX11_mutiny
              · by_cases h246_248 : k < 247
                · obtain rfl : k = 246 := by omega
                  exact hac_of 246 _ h okX11_chance
                · obtain rfl : k = 247 := by omega
                  exact hac_of 247 _ h okX11_voyages
          · by_cases h248_256 : k < 252
            · by_cases h248_252 : k < 250
              · by_cases h248_250 : k < 249
                · obtain rfl : k = 248 := by omega
                  exact hac_of 248 _ h okX11_keep
                · obtain rfl : k = 249 := by omega
                  exact hac_of 249 _ h okX11_again
              · by_cases h250_252 : k < 251
                · obtain rfl : k = 250 := by omega
                  exact hac_of 250 _ h okX11_count
                · obtain rfl : k = 251 := by omega
                  exact hac_of 251 _ h okX11_row
            · by_cases h252_256 : k < 254
              · by_cases h252_254 : k < 253
                · obtain rfl : k = 252 := by omega
                  exact hac_of 252 _ h okJ6_bitCount_0f7a4
                · obtain rfl : k = 253 := by omega
                  exact hac_of 253 _ h okJ0_length_8abf5
              · by_cases h254_256 : k < 255
                · obtain rfl : k = 254 := by omega
                  exact hac_of 254 _ h okJ0_charAt_5068e
                · obtain rfl : k = 255 := by omega
                  exact hac_of 255 _ h okJ7_fill_53178
theorem hmok_t : ∀ (k : Nat) (mi : MI), mtab[k]? = some mi → ∃ n, mok mi n ∧ mi.2.2.2.2.2.2 = if minst.getD k false = true then n + 1 else n := by
  intro k mi h
  have hk : k < 256 := by rw [← mtab_len]; exact (List.getElem?_eq_some_iff.mp h).1
  by_cases h0_256 : k < 128
  · by_cases h0_128 : k < 64
    · by_cases h0_64 : k < 32
      · by_cases h0_32 : k < 16
        · by_cases h0_16 : k < 8
          · by_cases h0_8 : k < 4
            · by_cases h0_4 : k < 2
              · by_cases h0_2 : k < 1
                · obtain rfl : k = 0 := by omega
                  exact mk1_ok mkX0_init h
                · obtain rfl : k = 1 := by omega
                  exact mk1_ok mkX0_isOvertaken h
              · by_cases h2_4 : k < 3
                · obtain rfl : k = 2 := by omega
                  exact mk1_ok mkX0_reach h
                · obtain rfl : k = 3 := by omega
                  exact mk1_ok mkX0_moved h
            · by_cases h4_8 : k < 6
              · by_cases h4_6 : k < 5
                · obtain rfl : k = 4 := by omega
                  exact mk1_ok mkX0_freeOrders h
                · obtain rfl : k = 5 := by omega
                  exact mk1_ok mkX0_fewestOrders h
              · by_cases h6_8 : k < 7
                · obtain rfl : k = 6 := by omega
                  exact mk1_ok mkX0_doChosen h
                · obtain rfl : k = 7 := by omega
                  exact mk1_ok mkX0_moveCosts h
          · by_cases h8_16 : k < 12
            · by_cases h8_12 : k < 10
              · by_cases h8_10 : k < 9
                · obtain rfl : k = 8 := by omega
                  exact mk1_ok mkX0_chooseLeastRow h
                · obtain rfl : k = 9 := by omega
                  exact mk1_ok mkX0_leastChoice h
              · by_cases h10_12 : k < 11
                · obtain rfl : k = 10 := by omega
                  exact mk1_ok mkX1_init h
                · obtain rfl : k = 11 := by omega
                  exact mk1_ok mkX1_remember h
            · by_cases h12_16 : k < 14
              · by_cases h12_14 : k < 13
                · obtain rfl : k = 12 := by omega
                  exact mk1_ok mkX1_bringBack h
                · obtain rfl : k = 13 := by omega
                  exact mk1_ok mkX1_forgetAll h
              · by_cases h14_16 : k < 15
                · obtain rfl : k = 14 := by omega
                  exact mk1_ok mkX2_init h
                · obtain rfl : k = 15 := by omega
                  exact mk1_ok mkX2_readFrom h
        · by_cases h16_32 : k < 24
          · by_cases h16_24 : k < 20
            · by_cases h16_20 : k < 18
              · by_cases h16_18 : k < 17
                · obtain rfl : k = 16 := by omega
                  exact mk1_ok mkX3_init h
                · obtain rfl : k = 17 := by omega
                  exact mk1_ok mkX3_clear h
              · by_cases h18_20 : k < 19
                · obtain rfl : k = 18 := by omega
                  exact mk1_ok mkX3_add h
                · obtain rfl : k = 19 := by omega
                  exact mk1_ok mkX3_tellOne h
            · by_cases h20_24 : k < 22
              · by_cases h20_22 : k < 21
                · obtain rfl : k = 20 := by omega
                  exact mk1_ok mkX3_tellTwo h
                · obtain rfl : k = 21 := by omega
                  exact mk1_ok mkX3_tellFraction h
              · by_cases h22_24 : k < 23
                · obtain rfl : k = 22 := by omega
                  exact mk1_ok mkX4_init h
                · obtain rfl : k = 23 := by omega
                  exact mk1_ok mkX4_add h
          · by_cases h24_32 : k < 28
            · by_cases h24_28 : k < 26
              · by_cases h24_26 : k < 25
                · obtain rfl : k = 24 := by omega
                  exact mk1_ok mkX4_work h
                · obtain rfl : k = 25 := by omega
                  exact mk1_ok mkX4_push h
              · by_cases h26_28 : k < 27
                · obtain rfl : k = 26 := by omega
                  exact mk1_ok mkX4_pop h
                · obtain rfl : k = 27 := by omega
                  exact mk1_ok mkX4_valueOf h
            · by_cases h28_32 : k < 30
              · by_cases h28_30 : k < 29
                · obtain rfl : k = 28 := by omega
                  exact mk1_ok mkX4_apply h
                · obtain rfl : k = 29 := by omega
                  exact mk1_ok mkX5_init h
              · by_cases h30_32 : k < 31
                · obtain rfl : k = 30 := by omega
                  exact mk1_ok mkX5_readFrom h
                · obtain rfl : k = 31 := by omega
                  exact mk1_ok mkX5_takeThing h
      · by_cases h32_64 : k < 48
        · by_cases h32_48 : k < 40
          · by_cases h32_40 : k < 36
            · by_cases h32_36 : k < 34
              · by_cases h32_34 : k < 33
                · obtain rfl : k = 32 := by omega
                  exact mk1_ok mkX5_takeOperator h
                · obtain rfl : k = 33 := by omega
                  exact mk1_ok mkX5_hold h
              · by_cases h34_36 : k < 35
                · obtain rfl : k = 34 := by omega
                  exact mk1_ok mkX5_release h
                · obtain rfl : k = 35 := by omega
                  exact mk1_ok mkX5_rank h
            · by_cases h36_40 : k < 38
              · by_cases h36_38 : k < 37
                · obtain rfl : k = 36 := by omega
                  exact mk1_ok mkX6_init h
                · obtain rfl : k = 37 := by omega
                  exact mk1_ok mkX6_readFrom h
              · by_cases h38_40 : k < 39
                · obtain rfl : k = 38 := by omega
                  exact mk1_ok mkX6_addPost h
                · obtain rfl : k = 39 := by omega
                  exact mk1_ok mkX7_init h
          · by_cases h40_48 : k < 44
            · by_cases h40_44 : k < 42
              · by_cases h40_42 : k < 41
                · obtain rfl : k = 40 := by omega
                  exact mk1_ok mkX7_forgetAll h
                · obtain rfl : k = 41 := by omega
                  exact mk1_ok mkX7_lastStep h
              · by_cases h42_44 : k < 43
                · obtain rfl : k = 42 := by omega
                  exact mk1_ok mkX7_countWays h
                · obtain rfl : k = 43 := by omega
                  exact mk1_ok mkX7_waysBehind h
            · by_cases h44_48 : k < 46
              · by_cases h44_46 : k < 45
                · obtain rfl : k = 44 := by omega
                  exact mk1_ok mkX7_leastOrder h
                · obtain rfl : k = 45 := by omega
                  exact mk1_ok mkX7_possible h
              · by_cases h46_48 : k < 47
                · obtain rfl : k = 46 := by omega
                  exact mk1_ok mkX8_init h
                · obtain rfl : k = 47 := by omega
                  exact mk1_ok mkX8_copyFrom h
        · by_cases h48_64 : k < 56
          · by_cases h48_56 : k < 52
            · by_cases h48_52 : k < 50
              · by_cases h48_50 : k < 49
                · obtain rfl : k = 48 := by omega
                  exact mk1_ok mkX8_gaveNow h
                · obtain rfl : k = 49 := by omega
                  exact mk1_ok mkX8_addOrder h
              · by_cases h50_52 : k < 51
                · obtain rfl : k = 50 := by omega
                  exact mk1_ok mkX8_doDueOrders h
                · obtain rfl : k = 51 := by omega
                  exact mk1_ok mkX8_laneIn h
            · by_cases h52_56 : k < 54
              · by_cases h52_54 : k < 53
                · obtain rfl : k = 52 := by omega
                  exact mk1_ok mkX8_eat h
                · obtain rfl : k = 53 := by omega
                  exact mk1_ok mkX9_init h
              · by_cases h54_56 : k < 55
                · obtain rfl : k = 54 := by omega
                  exact mk1_ok mkX9_append h
                · obtain rfl : k = 55 := by omega
                  exact mk1_ok mkX9_open h
          · by_cases h56_64 : k < 60
            · by_cases h56_60 : k < 58
              · by_cases h56_58 : k < 57
                · obtain rfl : k = 56 := by omega
                  exact mk1_ok mkX9_ended h
                · obtain rfl : k = 57 := by omega
                  exact mk1_ok mkX9_next h
              · by_cases h58_60 : k < 59
                · obtain rfl : k = 58 := by omega
                  exact mk1_ok mkX9_take h
                · obtain rfl : k = 59 := by omega
                  exact mk1_ok mkX9_takeNumber h
            · by_cases h60_64 : k < 62
              · by_cases h60_62 : k < 61
                · obtain rfl : k = 60 := by omega
                  exact mk1_ok mkX9_faultAtEnd h
                · obtain rfl : k = 61 := by omega
                  exact mk1_ok mkX10_init h
              · by_cases h62_64 : k < 63
                · obtain rfl : k = 62 := by omega
                  exact mk1_ok mkX10_sign h
                · obtain rfl : k = 63 := by omega
                  exact mk1_ok mkX10_end h
    · by_cases h64_128 : k < 96
      · by_cases h64_96 : k < 80
        · by_cases h64_80 : k < 72
          · by_cases h64_72 : k < 68
            · by_cases h64_68 : k < 66
              · by_cases h64_66 : k < 65
                · obtain rfl : k = 64 := by omega
                  exact mk1_ok mkX10_ship h
                · obtain rfl : k = 65 := by omega
                  exact mk1_ok mkX10_rocks h
              · by_cases h66_68 : k < 67
                · obtain rfl : k = 66 := by omega
                  exact mk1_ok mkX10_messes h
                · obtain rfl : k = 67 := by omega
                  exact mk1_ok mkX10_rule h
            · by_cases h68_72 : k < 70
              · by_cases h68_70 : k < 69
                · obtain rfl : k = 68 := by omega
                  exact mk1_ok mkX10_post h
                · obtain rfl : k = 69 := by omega
                  exact mk1_ok mkX10_rock h
              · by_cases h70_72 : k < 71
                · obtain rfl : k = 70 := by omega
                  exact mk1_ok mkX10_mess h
                · obtain rfl : k = 71 := by omega
                  exact mk1_ok mkX10_way h
          · by_cases h72_80 : k < 76
            · by_cases h72_76 : k < 74
              · by_cases h72_74 : k < 73
                · obtain rfl : k = 72 := by omega
                  exact mk1_ok mkX10_sheet h
                · obtain rfl : k = 73 := by omega
                  exact mk1_ok mkX10_delay h
              · by_cases h74_76 : k < 75
                · obtain rfl : k = 74 := by omega
                  exact mk1_ok mkX10_order h
                · obtain rfl : k = 75 := by omega
                  exact mk1_ok mkX10_pass h
            · by_cases h76_80 : k < 78
              · by_cases h76_78 : k < 77
                · obtain rfl : k = 76 := by omega
                  exact mk1_ok mkX10_cook h
                · obtain rfl : k = 77 := by omega
                  exact mk1_ok mkX10_steps h
              · by_cases h78_80 : k < 79
                · obtain rfl : k = 78 := by omega
                  exact mk1_ok mkX10_voyage h
                · obtain rfl : k = 79 := by omega
                  exact mk1_ok mkX10_undo h
        · by_cases h80_96 : k < 88
          · by_cases h80_88 : k < 84
            · by_cases h80_84 : k < 82
              · by_cases h80_82 : k < 81
                · obtain rfl : k = 80 := by omega
                  exact mk1_ok mkX10_lane h
                · obtain rfl : k = 81 := by omega
                  exact mk1_ok mkX10_strikes h
              · by_cases h82_84 : k < 83
                · obtain rfl : k = 82 := by omega
                  exact mk1_ok mkX10_clears h
                · obtain rfl : k = 83 := by omega
                  exact mk1_ok mkX10_plan h
            · by_cases h84_88 : k < 86
              · by_cases h84_86 : k < 85
                · obtain rfl : k = 84 := by omega
                  exact mk1_ok mkX10_latest h
                · obtain rfl : k = 85 := by omega
                  exact mk1_ok mkX10_lanes h
              · by_cases h86_88 : k < 87
                · obtain rfl : k = 86 := by omega
                  exact mk1_ok mkX10_safest h
                · obtain rfl : k = 87 := by omega
                  exact mk1_ok mkX10_late h
          · by_cases h88_96 : k < 92
            · by_cases h88_92 : k < 90
              · by_cases h88_90 : k < 89
                · obtain rfl : k = 88 := by omega
                  exact mk1_ok mkX10_comes h
                · obtain rfl : k = 89 := by omega
                  exact mk1_ok mkX10_relay h
              · by_cases h90_92 : k < 91
                · obtain rfl : k = 90 := by omega
                  exact mk1_ok mkX10_fewest h
                · obtain rfl : k = 91 := by omega
                  exact mk1_ok mkX10_word h
            · by_cases h92_96 : k < 94
              · by_cases h92_94 : k < 93
                · obtain rfl : k = 92 := by omega
                  exact mk1_ok mkX10_survives h
                · obtain rfl : k = 93 := by omega
                  exact mk1_ok mkX10_lives h
              · by_cases h94_96 : k < 95
                · obtain rfl : k = 94 := by omega
                  exact mk1_ok mkX10_shares h
                · obtain rfl : k = 95 := by omega
                  exact mk1_ok mkX10_fast h
      · by_cases h96_128 : k < 112
        · by_cases h96_112 : k < 104
          · by_cases h96_104 : k < 100
            · by_cases h96_100 : k < 98
              · by_cases h96_98 : k < 97
                · obtain rfl : k = 96 := by omega
                  exact mk1_ok mkX10_seen h
                · obtain rfl : k = 97 := by omega
                  exact mk1_ok mkX10_forget h
              · by_cases h98_100 : k < 99
                · obtain rfl : k = 98 := by omega
                  exact mk1_ok mkX10_ordered h
                · obtain rfl : k = 99 := by omega
                  exact mk1_ok mkX10_unsure h
            · by_cases h100_104 : k < 102
              · by_cases h100_102 : k < 101
                · obtain rfl : k = 100 := by omega
                  exact mk1_ok mkX10_boy h
                · obtain rfl : k = 101 := by omega
                  exact mk1_ok mkX10_meets h
              · by_cases h102_104 : k < 103
                · obtain rfl : k = 102 := by omega
                  exact mk1_ok mkX10_knows h
                · obtain rfl : k = 103 := by omega
                  exact mk1_ok mkX10_mutiny h
          · by_cases h104_112 : k < 108
            · by_cases h104_108 : k < 106
              · by_cases h104_106 : k < 105
                · obtain rfl : k = 104 := by omega
                  exact mk1_ok mkX10_chance h
                · obtain rfl : k = 105 := by omega
                  exact mk1_ok mkX10_voyages h
              · by_cases h106_108 : k < 107
                · obtain rfl : k = 106 := by omega
                  exact mk1_ok mkX10_keep h
                · obtain rfl : k = 107 := by omega
                  exact mk1_ok mkX10_again h
            · by_cases h108_112 : k < 110
              · by_cases h108_110 : k < 109
                · obtain rfl : k = 108 := by omega
                  exact mk1_ok mkX10_count h
                · obtain rfl : k = 109 := by omega
                  exact mk1_ok mkX10_row h
              · by_cases h110_112 : k < 111
                · obtain rfl : k = 110 := by omega
                  exact mk1_ok mkX10_isDigit h
                · obtain rfl : k = 111 := by omega
                  exact mk1_ok mkX10_readMesses h
        · by_cases h112_128 : k < 120
          · by_cases h112_120 : k < 116
            · by_cases h112_116 : k < 114
              · by_cases h112_114 : k < 113
                · obtain rfl : k = 112 := by omega
                  exact mk1_ok mkX10_voyageFault h
                · obtain rfl : k = 113 := by omega
                  exact mk1_ok mkX10_doVoyageSign h
              · by_cases h114_116 : k < 115
                · obtain rfl : k = 114 := by omega
                  exact mk1_ok mkX10_put h
                · obtain rfl : k = 115 := by omega
                  exact mk1_ok mkX10_entry h
            · by_cases h116_120 : k < 118
              · by_cases h116_118 : k < 117
                · obtain rfl : k = 116 := by omega
                  exact mk1_ok mkX10_keepOnSea h
                · obtain rfl : k = 117 := by omega
                  exact mk1_ok mkX10_delayAt h
              · by_cases h118_120 : k < 119
                · obtain rfl : k = 118 := by omega
                  exact mk1_ok mkX10_orderRefusal h
                · obtain rfl : k = 119 := by omega
                  exact mk1_ok mkX10_giveOrder h
          · by_cases h120_128 : k < 124
            · by_cases h120_124 : k < 122
              · by_cases h120_122 : k < 121
                · obtain rfl : k = 120 := by omega
                  exact mk1_ok mkX10_passRefusal h
                · obtain rfl : k = 121 := by omega
                  exact mk1_ok mkX10_moveFood h
              · by_cases h122_124 : k < 123
                · obtain rfl : k = 122 := by omega
                  exact mk1_ok mkX10_goStep h
                · obtain rfl : k = 123 := by omega
                  exact mk1_ok mkX10_firstFree h
            · by_cases h124_128 : k < 126
              · by_cases h124_126 : k < 125
                · obtain rfl : k = 124 := by omega
                  exact mk1_ok mkX10_lookAhead h
                · obtain rfl : k = 125 := by omega
                  exact mk1_ok mkX10_rocksInLane h
              · by_cases h126_128 : k < 127
                · obtain rfl : k = 126 := by omega
                  exact mk1_ok mkX10_apart h
                · obtain rfl : k = 127 := by omega
                  exact mk1_ok mkX10_widened h
  · by_cases h128_256 : k < 192
    · by_cases h128_192 : k < 160
      · by_cases h128_160 : k < 144
        · by_cases h128_144 : k < 136
          · by_cases h128_136 : k < 132
            · by_cases h128_132 : k < 130
              · by_cases h128_130 : k < 129
                · obtain rfl : k = 128 := by omega
                  exact mk1_ok mkX10_power h
                · obtain rfl : k = 129 := by omega
                  exact mk1_ok mkX10_likelyWord h
              · by_cases h130_132 : k < 131
                · obtain rfl : k = 130 := by omega
                  exact mk1_ok mkX10_lastsFor h
                · obtain rfl : k = 131 := by omega
                  exact mk1_ok mkX10_foodLeft h
            · by_cases h132_136 : k < 134
              · by_cases h132_134 : k < 133
                · obtain rfl : k = 132 := by omega
                  exact mk1_ok mkX10_weighPassing h
                · obtain rfl : k = 133 := by omega
                  exact mk1_ok mkX10_leastPassing h
              · by_cases h134_136 : k < 135
                · obtain rfl : k = 134 := by omega
                  exact mk1_ok mkX10_choosePassing h
                · obtain rfl : k = 135 := by omega
                  exact mk1_ok mkX10_lap h
          · by_cases h136_144 : k < 140
            · by_cases h136_140 : k < 138
              · by_cases h136_138 : k < 137
                · obtain rfl : k = 136 := by omega
                  exact mk1_ok mkX10_cellAfter h
                · obtain rfl : k = 137 := by omega
                  exact mk1_ok mkX10_holdsThen h
              · by_cases h138_140 : k < 139
                · obtain rfl : k = 138 := by omega
                  exact mk1_ok mkX10_wantsAnother h
                · obtain rfl : k = 139 := by omega
                  exact mk1_ok mkX11_init h
            · by_cases h140_144 : k < 142
              · by_cases h140_142 : k < 141
                · obtain rfl : k = 140 := by omega
                  exact mk1_ok mkX11_refuse h
                · obtain rfl : k = 141 := by omega
                  exact mk1_ok mkX11_in h
              · by_cases h142_144 : k < 143
                · obtain rfl : k = 142 := by omega
                  exact mk1_ok mkX11_has h
                · obtain rfl : k = 143 := by omega
                  exact mk1_ok mkX11_flag h
        · by_cases h144_160 : k < 152
          · by_cases h144_152 : k < 148
            · by_cases h144_148 : k < 146
              · by_cases h144_146 : k < 145
                · obtain rfl : k = 144 := by omega
                  exact mk1_ok mkX11_common h
                · obtain rfl : k = 145 := by omega
                  exact mk1_ok mkX11_enters h
              · by_cases h146_148 : k < 147
                · obtain rfl : k = 146 := by omega
                  exact mk1_ok mkX11_tellsFraction h
                · obtain rfl : k = 147 := by omega
                  exact mk1_ok mkX11_isMess h
            · by_cases h148_152 : k < 150
              · by_cases h148_150 : k < 149
                · obtain rfl : k = 148 := by omega
                  exact mk1_ok mkX11_sign h
                · obtain rfl : k = 149 := by omega
                  exact mk1_ok mkX11_end h
              · by_cases h150_152 : k < 151
                · obtain rfl : k = 150 := by omega
                  exact mk1_ok mkX11_begins h
                · obtain rfl : k = 151 := by omega
                  exact mk1_ok mkX11_takes h
          · by_cases h152_160 : k < 156
            · by_cases h152_156 : k < 154
              · by_cases h152_154 : k < 153
                · obtain rfl : k = 152 := by omega
                  exact mk1_ok mkX11_isDigit h
                · obtain rfl : k = 153 := by omega
                  exact mk1_ok mkX11_among h
              · by_cases h154_156 : k < 155
                · obtain rfl : k = 154 := by omega
                  exact mk1_ok mkX11_takesOf h
                · obtain rfl : k = 155 := by omega
                  exact mk1_ok mkX11_number h
            · by_cases h156_160 : k < 158
              · by_cases h156_158 : k < 157
                · obtain rfl : k = 156 := by omega
                  exact mk1_ok mkX11_numberIn h
                · obtain rfl : k = 157 := by omega
                  exact mk1_ok mkX11_faultOf h
              · by_cases h158_160 : k < 159
                · obtain rfl : k = 158 := by omega
                  exact mk1_ok mkX11_ship h
                · obtain rfl : k = 159 := by omega
                  exact mk1_ok mkX11_readsRock h
      · by_cases h160_192 : k < 176
        · by_cases h160_176 : k < 168
          · by_cases h160_168 : k < 164
            · by_cases h160_164 : k < 162
              · by_cases h160_162 : k < 161
                · obtain rfl : k = 160 := by omega
                  exact mk1_ok mkX11_readsMess h
                · obtain rfl : k = 161 := by omega
                  exact mk1_ok mkX11_rocks h
              · by_cases h162_164 : k < 163
                · obtain rfl : k = 162 := by omega
                  exact mk1_ok mkX11_messes h
                · obtain rfl : k = 163 := by omega
                  exact mk1_ok mkX11_codes h
            · by_cases h164_168 : k < 166
              · by_cases h164_166 : k < 165
                · obtain rfl : k = 164 := by omega
                  exact mk1_ok mkX11_readsThing h
                · obtain rfl : k = 165 := by omega
                  exact mk1_ok mkX11_readsRank h
              · by_cases h166_168 : k < 167
                · obtain rfl : k = 166 := by omega
                  exact mk1_ok mkX11_rule h
                · obtain rfl : k = 167 := by omega
                  exact mk1_ok mkX11_worked h
          · by_cases h168_176 : k < 172
            · by_cases h168_172 : k < 170
              · by_cases h168_170 : k < 169
                · obtain rfl : k = 168 := by omega
                  exact mk1_ok mkX11_ruled h
                · obtain rfl : k = 169 := by omega
                  exact mk1_ok mkX11_delayAt h
              · by_cases h170_172 : k < 171
                · obtain rfl : k = 170 := by omega
                  exact mk1_ok mkX11_turned h
                · obtain rfl : k = 171 := by omega
                  exact mk1_ok mkX11_post h
            · by_cases h172_176 : k < 174
              · by_cases h172_174 : k < 173
                · obtain rfl : k = 172 := by omega
                  exact mk1_ok mkX11_rock h
                · obtain rfl : k = 173 := by omega
                  exact mk1_ok mkX11_mess h
              · by_cases h174_176 : k < 175
                · obtain rfl : k = 174 := by omega
                  exact mk1_ok mkX11_isAhead h
                · obtain rfl : k = 175 := by omega
                  exact mk1_ok mkX11_way h
        · by_cases h176_192 : k < 184
          · by_cases h176_184 : k < 180
            · by_cases h176_180 : k < 178
              · by_cases h176_178 : k < 177
                · obtain rfl : k = 176 := by omega
                  exact mk1_ok mkX11_sheet h
                · obtain rfl : k = 177 := by omega
                  exact mk1_ok mkX11_putsBy h
              · by_cases h178_180 : k < 179
                · obtain rfl : k = 178 := by omega
                  exact mk1_ok mkX11_adds h
                · obtain rfl : k = 179 := by omega
                  exact mk1_ok mkX11_counts h
            · by_cases h180_184 : k < 182
              · by_cases h180_182 : k < 181
                · obtain rfl : k = 180 := by omega
                  exact mk1_ok mkX11_undo h
                · obtain rfl : k = 181 := by omega
                  exact mk1_ok mkX11_put h
              · by_cases h182_184 : k < 183
                · obtain rfl : k = 182 := by omega
                  exact mk1_ok mkX11_doesDue h
                · obtain rfl : k = 183 := by omega
                  exact mk1_ok mkX11_hitsAt h
          · by_cases h184_192 : k < 188
            · by_cases h184_188 : k < 186
              · by_cases h184_186 : k < 185
                · obtain rfl : k = 184 := by omega
                  exact mk1_ok mkX11_stepGoes h
                · obtain rfl : k = 185 := by omega
                  exact mk1_ok mkX11_gives h
              · by_cases h186_188 : k < 187
                · obtain rfl : k = 186 := by omega
                  exact mk1_ok mkX11_passes h
                · obtain rfl : k = 187 := by omega
                  exact mk1_ok mkX11_cooks h
            · by_cases h188_192 : k < 190
              · by_cases h188_190 : k < 189
                · obtain rfl : k = 188 := by omega
                  exact mk1_ok mkX11_delay h
                · obtain rfl : k = 189 := by omega
                  exact mk1_ok mkX11_order h
              · by_cases h190_192 : k < 191
                · obtain rfl : k = 190 := by omega
                  exact mk1_ok mkX11_pass h
                · obtain rfl : k = 191 := by omega
                  exact mk1_ok mkX11_cook h
    · by_cases h192_256 : k < 224
      · by_cases h192_224 : k < 208
        · by_cases h192_208 : k < 200
          · by_cases h192_200 : k < 196
            · by_cases h192_196 : k < 194
              · by_cases h192_194 : k < 193
                · obtain rfl : k = 192 := by omega
                  exact mk1_ok mkX11_startsCounting h
                · obtain rfl : k = 193 := by omega
                  exact mk1_ok mkX11_steps h
              · by_cases h194_196 : k < 195
                · obtain rfl : k = 194 := by omega
                  exact mk1_ok mkX11_readsAct h
                · obtain rfl : k = 195 := by omega
                  exact mk1_ok mkX11_does h
            · by_cases h196_200 : k < 198
              · by_cases h196_198 : k < 197
                · obtain rfl : k = 196 := by omega
                  exact mk1_ok mkX11_voyage h
                · obtain rfl : k = 197 := by omega
                  exact mk1_ok mkX11_puts h
              · by_cases h198_200 : k < 199
                · obtain rfl : k = 198 := by omega
                  exact mk1_ok mkX11_lane h
                · obtain rfl : k = 199 := by omega
                  exact mk1_ok mkX11_strikes h
          · by_cases h200_208 : k < 204
            · by_cases h200_204 : k < 202
              · by_cases h200_202 : k < 201
                · obtain rfl : k = 200 := by omega
                  exact mk1_ok mkX11_moved h
                · obtain rfl : k = 201 := by omega
                  exact mk1_ok mkX11_movedByDue h
              · by_cases h202_204 : k < 203
                · obtain rfl : k = 202 := by omega
                  exact mk1_ok mkX11_mayGive h
                · obtain rfl : k = 203 := by omega
                  exact mk1_ok mkX11_comesAt h
            · by_cases h204_208 : k < 206
              · by_cases h204_206 : k < 205
                · obtain rfl : k = 204 := by omega
                  exact mk1_ok mkX11_clears h
                · obtain rfl : k = 205 := by omega
                  exact mk1_ok mkX11_goesBy h
              · by_cases h206_208 : k < 207
                · obtain rfl : k = 206 := by omega
                  exact mk1_ok mkX11_laysLeast h
                · obtain rfl : k = 207 := by omega
                  exact mk1_ok mkX11_fewestOrders h
        · by_cases h208_224 : k < 216
          · by_cases h208_216 : k < 212
            · by_cases h208_212 : k < 210
              · by_cases h208_210 : k < 209
                · obtain rfl : k = 208 := by omega
                  exact mk1_ok mkX11_choosesAny h
                · obtain rfl : k = 209 := by omega
                  exact mk1_ok mkX11_plan h
              · by_cases h210_212 : k < 211
                · obtain rfl : k = 210 := by omega
                  exact mk1_ok mkX11_latest h
                · obtain rfl : k = 211 := by omega
                  exact mk1_ok mkX11_lanes h
            · by_cases h212_216 : k < 214
              · by_cases h212_214 : k < 213
                · obtain rfl : k = 212 := by omega
                  exact mk1_ok mkX11_rocksIn h
                · obtain rfl : k = 213 := by omega
                  exact mk1_ok mkX11_safest h
              · by_cases h214_216 : k < 215
                · obtain rfl : k = 214 := by omega
                  exact mk1_ok mkX11_late h
                · obtain rfl : k = 215 := by omega
                  exact mk1_ok mkX11_comes h
          · by_cases h216_224 : k < 220
            · by_cases h216_220 : k < 218
              · by_cases h216_218 : k < 217
                · obtain rfl : k = 216 := by omega
                  exact mk1_ok mkX11_postsFor h
                · obtain rfl : k = 217 := by omega
                  exact mk1_ok mkX11_relay h
              · by_cases h218_220 : k < 219
                · obtain rfl : k = 218 := by omega
                  exact mk1_ok mkX11_fewest h
                · obtain rfl : k = 219 := by omega
                  exact mk1_ok mkX11_bets h
            · by_cases h220_224 : k < 222
              · by_cases h220_222 : k < 221
                · obtain rfl : k = 220 := by omega
                  exact mk1_ok mkX11_word h
                · obtain rfl : k = 221 := by omega
                  exact mk1_ok mkX11_survives h
              · by_cases h222_224 : k < 223
                · obtain rfl : k = 222 := by omega
                  exact mk1_ok mkX11_lastsFor h
                · obtain rfl : k = 223 := by omega
                  exact mk1_ok mkX11_lives h
      · by_cases h224_256 : k < 240
        · by_cases h224_240 : k < 232
          · by_cases h224_232 : k < 228
            · by_cases h224_228 : k < 226
              · by_cases h224_226 : k < 225
                · obtain rfl : k = 224 := by omega
                  exact mk1_ok mkX11_spare h
                · obtain rfl : k = 225 := by omega
                  exact mk1_ok mkX11_laysFlows h
              · by_cases h226_228 : k < 227
                · obtain rfl : k = 226 := by omega
                  exact mk1_ok mkX11_flow h
                · obtain rfl : k = 227 := by omega
                  exact mk1_ok mkX11_shares h
            · by_cases h228_232 : k < 230
              · by_cases h228_230 : k < 229
                · obtain rfl : k = 228 := by omega
                  exact mk1_ok mkX11_fast h
                · obtain rfl : k = 229 := by omega
                  exact mk1_ok mkX11_seenIn h
              · by_cases h230_232 : k < 231
                · obtain rfl : k = 230 := by omega
                  exact mk1_ok mkX11_seen h
                · obtain rfl : k = 231 := by omega
                  exact mk1_ok mkX11_forget h
          · by_cases h232_240 : k < 236
            · by_cases h232_236 : k < 234
              · by_cases h232_234 : k < 233
                · obtain rfl : k = 232 := by omega
                  exact mk1_ok mkX11_lastSeen h
                · obtain rfl : k = 233 := by omega
                  exact mk1_ok mkX11_isFine h
              · by_cases h234_236 : k < 235
                · obtain rfl : k = 234 := by omega
                  exact mk1_ok mkX11_laysSeen h
                · obtain rfl : k = 235 := by omega
                  exact mk1_ok mkX11_ordered h
            · by_cases h236_240 : k < 238
              · by_cases h236_238 : k < 237
                · obtain rfl : k = 236 := by omega
                  exact mk1_ok mkX11_unsure h
                · obtain rfl : k = 237 := by omega
                  exact mk1_ok mkX11_boyBegins h
              · by_cases h238_240 : k < 239
                · obtain rfl : k = 238 := by omega
                  exact mk1_ok mkX11_boyGoes h
                · obtain rfl : k = 239 := by omega
                  exact mk1_ok mkX11_canRest h
        · by_cases h240_256 : k < 248
          · by_cases h240_248 : k < 244
            · by_cases h240_244 : k < 242
              · by_cases h240_242 : k < 241
                · obtain rfl : k = 240 := by omega
                  exact mk1_ok mkX11_boy h
                · obtain rfl : k = 241 := by omega
                  exact mk1_ok mkX11_meets h
              · by_cases h242_244 : k < 243
                · obtain rfl : k = 242 := by omega
                  exact mk1_ok mkX11_knows h
                · obtain rfl : k = 243 := by omega
                  exact mk1_ok mkX11_keeps h
            · by_cases h244_248 : k < 246
              · by_cases h244_246 : k < 245
                · obtain rfl : k = 244 := by omega
                  exact mk1_ok mkX11_isRest h
                · obtain rfl : k = 245 := by omega
                  exact mk1_ok mkX11_mutiny h
              · by_cases h246_248 : k < 247
                · obtain rfl : k = 246 := by omega
                  exact mk1_ok mkX11_chance h
                · obtain rfl : k = 247 := by omega
                  exact mk1_ok mkX11_voyages h
          · by_cases h248_256 : k < 252
            · by_cases h248_252 : k < 250
              · by_cases h248_250 : k < 249
                · obtain rfl : k = 248 := by omega
                  exact mk1_ok mkX11_keep h
                · obtain rfl : k = 249 := by omega
                  exact mk1_ok mkX11_again h
              · by_cases h250_252 : k < 251
                · obtain rfl : k = 250 := by omega
                  exact mk1_ok mkX11_count h
                · obtain rfl : k = 251 := by omega
                  exact mk1_ok mkX11_row h
            · by_cases h252_256 : k < 254
              · by_cases h252_254 : k < 253
                · obtain rfl : k = 252 := by omega
                  exact mk1_ok mkJ6_bitCount_0f7a4 h
                · obtain rfl : k = 253 := by omega
                  exact mk1_ok mkJ0_length_8abf5 h
              · by_cases h254_256 : k < 255
                · obtain rfl : k = 254 := by omega
                  exact mk1_ok mkJ0_charAt_5068e h
                · obtain rfl : k = 255 := by omega
                  exact mk1_ok mkJ7_fill_53178 h
end
