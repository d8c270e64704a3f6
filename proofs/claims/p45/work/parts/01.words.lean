-- ===== PART A: goes FIRST, ahead of the names: the tables' words, and 'selects' of the private methods out of them =====
/-- a private method of a class that the tables say can be made, by its rows of tables_1 -/
def lw_okq (q : MethodName × Nat) : Prop := (q.1.cls ≠ "java/lang/invoke/MethodHandle" ∧ q.1.cls ≠ "java/lang/invoke/VarHandle") ∧ Cond.instantiable q.1.cls q.2 ∈ tables_1 ∧ Cond.privateMethod q.1 ∈ tables_1 ∧ Cond.instanceMethod q.1 ∈ tables_1
theorem lw_p0 : lw_okq (⟨"CellHandover$Network", "setDefaults", "()V"⟩, 17) := ⟨⟨by decide +kernel, by decide +kernel⟩, List.mem_of_getElem? (i := 69) (by decide +kernel), List.mem_of_getElem? (i := 232) (by decide +kernel), List.mem_of_getElem? (i := 233) (by decide +kernel)⟩
theorem lw_p1 : lw_okq (⟨"CellHandover", "requireTicks", "(II)V"⟩, 8) := ⟨⟨by decide +kernel, by decide +kernel⟩, List.mem_of_getElem? (i := 27) (by decide +kernel), List.mem_of_getElem? (i := 407) (by decide +kernel), List.mem_of_getElem? (i := 408) (by decide +kernel)⟩
theorem lw_p2 : lw_okq (⟨"java/lang/Throwable", "fillInStackTrace", "(I)Ljava/lang/Throwable;"⟩, 6) := ⟨⟨by decide +kernel, by decide +kernel⟩, List.mem_of_getElem? (i := 451) (by decide +kernel), List.mem_of_getElem? (i := 449) (by decide +kernel), List.mem_of_getElem? (i := 450) (by decide +kernel)⟩
theorem lw_p3 : lw_okq (⟨"CellHandover$Simulator", "moveMobiles", "(LCellHandover$Network;)V"⟩, 1) := ⟨⟨by decide +kernel, by decide +kernel⟩, List.mem_of_getElem? (i := 329) (by decide +kernel), List.mem_of_getElem? (i := 533) (by decide +kernel), List.mem_of_getElem? (i := 534) (by decide +kernel)⟩
theorem lw_p4 : lw_okq (⟨"CellHandover$Simulator", "measureLevels", "(LCellHandover$Network;)V"⟩, 1) := ⟨⟨by decide +kernel, by decide +kernel⟩, List.mem_of_getElem? (i := 329) (by decide +kernel), List.mem_of_getElem? (i := 542) (by decide +kernel), List.mem_of_getElem? (i := 543) (by decide +kernel)⟩
theorem lw_p5 : lw_okq (⟨"CellHandover$Simulator", "measure", "(LCellHandover$Network;LCellHandover$Mobile;)V"⟩, 1) := ⟨⟨by decide +kernel, by decide +kernel⟩, List.mem_of_getElem? (i := 329) (by decide +kernel), List.mem_of_getElem? (i := 546) (by decide +kernel), List.mem_of_getElem? (i := 547) (by decide +kernel)⟩
theorem lw_p6 : lw_okq (⟨"CellHandover$Mobile", "dropOldest", "(II)V"⟩, 13) := ⟨⟨by decide +kernel, by decide +kernel⟩, List.mem_of_getElem? (i := 159) (by decide +kernel), List.mem_of_getElem? (i := 568) (by decide +kernel), List.mem_of_getElem? (i := 569) (by decide +kernel)⟩
theorem lw_p7 : lw_okq (⟨"CellHandover$Simulator", "completeCalls", "(LCellHandover$Network;)V"⟩, 1) := ⟨⟨by decide +kernel, by decide +kernel⟩, List.mem_of_getElem? (i := 329) (by decide +kernel), List.mem_of_getElem? (i := 576) (by decide +kernel), List.mem_of_getElem? (i := 577) (by decide +kernel)⟩
theorem lw_p8 : lw_okq (⟨"CellHandover$Mobile", "clearMeasurements", "()V"⟩, 13) := ⟨⟨by decide +kernel, by decide +kernel⟩, List.mem_of_getElem? (i := 159) (by decide +kernel), List.mem_of_getElem? (i := 584) (by decide +kernel), List.mem_of_getElem? (i := 585) (by decide +kernel)⟩
theorem lw_p9 : lw_okq (⟨"CellHandover$Simulator", "dropCalls", "(LCellHandover$Network;)V"⟩, 1) := ⟨⟨by decide +kernel, by decide +kernel⟩, List.mem_of_getElem? (i := 329) (by decide +kernel), List.mem_of_getElem? (i := 595) (by decide +kernel), List.mem_of_getElem? (i := 596) (by decide +kernel)⟩
theorem lw_p10 : lw_okq (⟨"CellHandover$Simulator", "serveQueues", "(LCellHandover$Network;)V"⟩, 1) := ⟨⟨by decide +kernel, by decide +kernel⟩, List.mem_of_getElem? (i := 329) (by decide +kernel), List.mem_of_getElem? (i := 603) (by decide +kernel), List.mem_of_getElem? (i := 604) (by decide +kernel)⟩
theorem lw_p11 : lw_okq (⟨"CellHandover$Network", "requestsBefore", "(I)I"⟩, 17) := ⟨⟨by decide +kernel, by decide +kernel⟩, List.mem_of_getElem? (i := 69) (by decide +kernel), List.mem_of_getElem? (i := 619) (by decide +kernel), List.mem_of_getElem? (i := 620) (by decide +kernel)⟩
theorem lw_p12 : lw_okq (⟨"CellHandover$Network", "comesBefore", "(II)Z"⟩, 17) := ⟨⟨by decide +kernel, by decide +kernel⟩, List.mem_of_getElem? (i := 69) (by decide +kernel), List.mem_of_getElem? (i := 623) (by decide +kernel), List.mem_of_getElem? (i := 624) (by decide +kernel)⟩
theorem lw_p13 : lw_okq (⟨"CellHandover$Simulator", "serve", "(LCellHandover$Network;LCellHandover$Mobile;I)V"⟩, 1) := ⟨⟨by decide +kernel, by decide +kernel⟩, List.mem_of_getElem? (i := 329) (by decide +kernel), List.mem_of_getElem? (i := 627) (by decide +kernel), List.mem_of_getElem? (i := 628) (by decide +kernel)⟩
theorem lw_p14 : lw_okq (⟨"CellHandover$Simulator", "decideHandovers", "(LCellHandover$Network;)V"⟩, 1) := ⟨⟨by decide +kernel, by decide +kernel⟩, List.mem_of_getElem? (i := 329) (by decide +kernel), List.mem_of_getElem? (i := 648) (by decide +kernel), List.mem_of_getElem? (i := 649) (by decide +kernel)⟩
theorem lw_p15 : lw_okq (⟨"CellHandover$Simulator", "considerHandover", "(LCellHandover$Network;LCellHandover$Mobile;)V"⟩, 1) := ⟨⟨by decide +kernel, by decide +kernel⟩, List.mem_of_getElem? (i := 329) (by decide +kernel), List.mem_of_getElem? (i := 652) (by decide +kernel), List.mem_of_getElem? (i := 653) (by decide +kernel)⟩
def lw_privs_1 : List (MethodName × Nat) := [(⟨"CellHandover$Network", "setDefaults", "()V"⟩, 17), (⟨"CellHandover", "requireTicks", "(II)V"⟩, 8), (⟨"java/lang/Throwable", "fillInStackTrace", "(I)Ljava/lang/Throwable;"⟩, 6), (⟨"CellHandover$Simulator", "moveMobiles", "(LCellHandover$Network;)V"⟩, 1), (⟨"CellHandover$Simulator", "measureLevels", "(LCellHandover$Network;)V"⟩, 1), (⟨"CellHandover$Simulator", "measure", "(LCellHandover$Network;LCellHandover$Mobile;)V"⟩, 1), (⟨"CellHandover$Mobile", "dropOldest", "(II)V"⟩, 13), (⟨"CellHandover$Simulator", "completeCalls", "(LCellHandover$Network;)V"⟩, 1), (⟨"CellHandover$Mobile", "clearMeasurements", "()V"⟩, 13), (⟨"CellHandover$Simulator", "dropCalls", "(LCellHandover$Network;)V"⟩, 1), (⟨"CellHandover$Simulator", "serveQueues", "(LCellHandover$Network;)V"⟩, 1), (⟨"CellHandover$Network", "requestsBefore", "(I)I"⟩, 17), (⟨"CellHandover$Network", "comesBefore", "(II)Z"⟩, 17), (⟨"CellHandover$Simulator", "serve", "(LCellHandover$Network;LCellHandover$Mobile;I)V"⟩, 1), (⟨"CellHandover$Simulator", "decideHandovers", "(LCellHandover$Network;)V"⟩, 1), (⟨"CellHandover$Simulator", "considerHandover", "(LCellHandover$Network;LCellHandover$Mobile;)V"⟩, 1)]
theorem lw_r1 : ∀ q ∈ lw_privs_1, lw_okq q := List.forall_mem_cons.mpr ⟨lw_p0, List.forall_mem_cons.mpr ⟨lw_p1, List.forall_mem_cons.mpr ⟨lw_p2, List.forall_mem_cons.mpr ⟨lw_p3, List.forall_mem_cons.mpr ⟨lw_p4, List.forall_mem_cons.mpr ⟨lw_p5, List.forall_mem_cons.mpr ⟨lw_p6, List.forall_mem_cons.mpr ⟨lw_p7, List.forall_mem_cons.mpr ⟨lw_p8, List.forall_mem_cons.mpr ⟨lw_p9, List.forall_mem_cons.mpr ⟨lw_p10, List.forall_mem_cons.mpr ⟨lw_p11, List.forall_mem_cons.mpr ⟨lw_p12, List.forall_mem_cons.mpr ⟨lw_p13, List.forall_mem_cons.mpr ⟨lw_p14, List.forall_mem_cons.mpr ⟨lw_p15, fun _ h => absurd h List.not_mem_nil⟩⟩⟩⟩⟩⟩⟩⟩⟩⟩⟩⟩⟩⟩⟩⟩
theorem lw_p16 : lw_okq (⟨"CellHandover$Ranking", "marginOf", "(LCellHandover$Network;LCellHandover$Mobile;I)I"⟩, 4) := ⟨⟨by decide +kernel, by decide +kernel⟩, List.mem_of_getElem? (i := 335) (by decide +kernel), List.mem_of_getElem? (i := 662) (by decide +kernel), List.mem_of_getElem? (i := 663) (by decide +kernel)⟩
theorem lw_p17 : lw_okq (⟨"CellHandover$Ranking", "insert", "(II)V"⟩, 4) := ⟨⟨by decide +kernel, by decide +kernel⟩, List.mem_of_getElem? (i := 335) (by decide +kernel), List.mem_of_getElem? (i := 669) (by decide +kernel), List.mem_of_getElem? (i := 670) (by decide +kernel)⟩
theorem lw_p18 : lw_okq (⟨"CellHandover$Simulator", "countCongestion", "(LCellHandover$Network;)V"⟩, 1) := ⟨⟨by decide +kernel, by decide +kernel⟩, List.mem_of_getElem? (i := 329) (by decide +kernel), List.mem_of_getElem? (i := 689) (by decide +kernel), List.mem_of_getElem? (i := 690) (by decide +kernel)⟩
theorem lw_p19 : lw_okq (⟨"CellHandover$Simulator", "expireRequests", "(LCellHandover$Network;)V"⟩, 1) := ⟨⟨by decide +kernel, by decide +kernel⟩, List.mem_of_getElem? (i := 329) (by decide +kernel), List.mem_of_getElem? (i := 693) (by decide +kernel), List.mem_of_getElem? (i := 694) (by decide +kernel)⟩
theorem lw_p20 : lw_okq (⟨"CellHandover$Simulator", "expire", "(LCellHandover$Network;LCellHandover$Mobile;)V"⟩, 1) := ⟨⟨by decide +kernel, by decide +kernel⟩, List.mem_of_getElem? (i := 329) (by decide +kernel), List.mem_of_getElem? (i := 697) (by decide +kernel), List.mem_of_getElem? (i := 698) (by decide +kernel)⟩
theorem lw_p21 : lw_okq (⟨"CellHandoverLaw$Own", "step", "()V"⟩, 16) := ⟨⟨by decide +kernel, by decide +kernel⟩, List.mem_of_getElem? (i := 728) (by decide +kernel), List.mem_of_getElem? (i := 726) (by decide +kernel), List.mem_of_getElem? (i := 727) (by decide +kernel)⟩
theorem lw_p22 : lw_okq (⟨"CellHandoverLaw$Own", "level", "(III)I"⟩, 16) := ⟨⟨by decide +kernel, by decide +kernel⟩, List.mem_of_getElem? (i := 728) (by decide +kernel), List.mem_of_getElem? (i := 732) (by decide +kernel), List.mem_of_getElem? (i := 733) (by decide +kernel)⟩
theorem lw_p23 : lw_okq (⟨"CellHandoverLaw$Mobile", "ends", "()V"⟩, 13) := ⟨⟨by decide +kernel, by decide +kernel⟩, List.mem_of_getElem? (i := 739) (by decide +kernel), List.mem_of_getElem? (i := 737) (by decide +kernel), List.mem_of_getElem? (i := 738) (by decide +kernel)⟩
theorem lw_p24 : lw_okq (⟨"CellHandoverLaw$Mobile", "average", "(I)I"⟩, 13) := ⟨⟨by decide +kernel, by decide +kernel⟩, List.mem_of_getElem? (i := 739) (by decide +kernel), List.mem_of_getElem? (i := 742) (by decide +kernel), List.mem_of_getElem? (i := 743) (by decide +kernel)⟩
theorem lw_p25 : lw_okq (⟨"CellHandoverLaw$Own", "free", "(I)Z"⟩, 16) := ⟨⟨by decide +kernel, by decide +kernel⟩, List.mem_of_getElem? (i := 728) (by decide +kernel), List.mem_of_getElem? (i := 746) (by decide +kernel), List.mem_of_getElem? (i := 747) (by decide +kernel)⟩
theorem lw_p26 : lw_okq (⟨"CellHandoverLaw$Own", "busy", "(I)I"⟩, 16) := ⟨⟨by decide +kernel, by decide +kernel⟩, List.mem_of_getElem? (i := 728) (by decide +kernel), List.mem_of_getElem? (i := 750) (by decide +kernel), List.mem_of_getElem? (i := 751) (by decide +kernel)⟩
theorem lw_p27 : lw_okq (⟨"CellHandoverLaw$Own", "waits", "(I)I"⟩, 16) := ⟨⟨by decide +kernel, by decide +kernel⟩, List.mem_of_getElem? (i := 728) (by decide +kernel), List.mem_of_getElem? (i := 754) (by decide +kernel), List.mem_of_getElem? (i := 755) (by decide +kernel)⟩
theorem lw_p28 : lw_okq (⟨"CellHandoverLaw$Own", "queue", "(I)[I"⟩, 16) := ⟨⟨by decide +kernel, by decide +kernel⟩, List.mem_of_getElem? (i := 728) (by decide +kernel), List.mem_of_getElem? (i := 758) (by decide +kernel), List.mem_of_getElem? (i := 759) (by decide +kernel)⟩
theorem lw_p29 : lw_okq (⟨"CellHandoverLaw$Own", "hands", "(II)V"⟩, 16) := ⟨⟨by decide +kernel, by decide +kernel⟩, List.mem_of_getElem? (i := 728) (by decide +kernel), List.mem_of_getElem? (i := 762) (by decide +kernel), List.mem_of_getElem? (i := 763) (by decide +kernel)⟩
theorem lw_p30 : lw_okq (⟨"CellHandoverLaw$Mobile", "begins", "(I)V"⟩, 13) := ⟨⟨by decide +kernel, by decide +kernel⟩, List.mem_of_getElem? (i := 739) (by decide +kernel), List.mem_of_getElem? (i := 766) (by decide +kernel), List.mem_of_getElem? (i := 767) (by decide +kernel)⟩
theorem lw_p31 : lw_okq (⟨"CellHandoverLaw$Own", "considers", "(I)V"⟩, 16) := ⟨⟨by decide +kernel, by decide +kernel⟩, List.mem_of_getElem? (i := 728) (by decide +kernel), List.mem_of_getElem? (i := 770) (by decide +kernel), List.mem_of_getElem? (i := 771) (by decide +kernel)⟩
def lw_privs_2 : List (MethodName × Nat) := [(⟨"CellHandover$Ranking", "marginOf", "(LCellHandover$Network;LCellHandover$Mobile;I)I"⟩, 4), (⟨"CellHandover$Ranking", "insert", "(II)V"⟩, 4), (⟨"CellHandover$Simulator", "countCongestion", "(LCellHandover$Network;)V"⟩, 1), (⟨"CellHandover$Simulator", "expireRequests", "(LCellHandover$Network;)V"⟩, 1), (⟨"CellHandover$Simulator", "expire", "(LCellHandover$Network;LCellHandover$Mobile;)V"⟩, 1), (⟨"CellHandoverLaw$Own", "step", "()V"⟩, 16), (⟨"CellHandoverLaw$Own", "level", "(III)I"⟩, 16), (⟨"CellHandoverLaw$Mobile", "ends", "()V"⟩, 13), (⟨"CellHandoverLaw$Mobile", "average", "(I)I"⟩, 13), (⟨"CellHandoverLaw$Own", "free", "(I)Z"⟩, 16), (⟨"CellHandoverLaw$Own", "busy", "(I)I"⟩, 16), (⟨"CellHandoverLaw$Own", "waits", "(I)I"⟩, 16), (⟨"CellHandoverLaw$Own", "queue", "(I)[I"⟩, 16), (⟨"CellHandoverLaw$Own", "hands", "(II)V"⟩, 16), (⟨"CellHandoverLaw$Mobile", "begins", "(I)V"⟩, 13), (⟨"CellHandoverLaw$Own", "considers", "(I)V"⟩, 16)]
theorem lw_r2 : ∀ q ∈ lw_privs_2, lw_okq q := List.forall_mem_cons.mpr ⟨lw_p16, List.forall_mem_cons.mpr ⟨lw_p17, List.forall_mem_cons.mpr ⟨lw_p18, List.forall_mem_cons.mpr ⟨lw_p19, List.forall_mem_cons.mpr ⟨lw_p20, List.forall_mem_cons.mpr ⟨lw_p21, List.forall_mem_cons.mpr ⟨lw_p22, List.forall_mem_cons.mpr ⟨lw_p23, List.forall_mem_cons.mpr ⟨lw_p24, List.forall_mem_cons.mpr ⟨lw_p25, List.forall_mem_cons.mpr ⟨lw_p26, List.forall_mem_cons.mpr ⟨lw_p27, List.forall_mem_cons.mpr ⟨lw_p28, List.forall_mem_cons.mpr ⟨lw_p29, List.forall_mem_cons.mpr ⟨lw_p30, List.forall_mem_cons.mpr ⟨lw_p31, fun _ h => absurd h List.not_mem_nil⟩⟩⟩⟩⟩⟩⟩⟩⟩⟩⟩⟩⟩⟩⟩⟩
theorem lw_p32 : lw_okq (⟨"CellHandoverLaw$Own", "ranked", "(I)[I"⟩, 16) := ⟨⟨by decide +kernel, by decide +kernel⟩, List.mem_of_getElem? (i := 728) (by decide +kernel), List.mem_of_getElem? (i := 774) (by decide +kernel), List.mem_of_getElem? (i := 775) (by decide +kernel)⟩
theorem lw_p33 : lw_okq (⟨"CellHandover$Text", "byteAt", "(I)I"⟩, 8) := ⟨⟨by decide +kernel, by decide +kernel⟩, List.mem_of_getElem? (i := 35) (by decide +kernel), List.mem_of_getElem? (i := 947) (by decide +kernel), List.mem_of_getElem? (i := 948) (by decide +kernel)⟩
theorem lw_p34 : lw_okq (⟨"CellHandover$NetworkReader", "readClause", "()V"⟩, 2) := ⟨⟨by decide +kernel, by decide +kernel⟩, List.mem_of_getElem? (i := 955) (by decide +kernel), List.mem_of_getElem? (i := 985) (by decide +kernel), List.mem_of_getElem? (i := 986) (by decide +kernel)⟩
theorem lw_p35 : lw_okq (⟨"CellHandover$NetworkReader", "readCell", "()V"⟩, 2) := ⟨⟨by decide +kernel, by decide +kernel⟩, List.mem_of_getElem? (i := 955) (by decide +kernel), List.mem_of_getElem? (i := 996) (by decide +kernel), List.mem_of_getElem? (i := 997) (by decide +kernel)⟩
theorem lw_p36 : lw_okq (⟨"CellHandover$NetworkReader", "readRelation", "()V"⟩, 2) := ⟨⟨by decide +kernel, by decide +kernel⟩, List.mem_of_getElem? (i := 955) (by decide +kernel), List.mem_of_getElem? (i := 1017) (by decide +kernel), List.mem_of_getElem? (i := 1018) (by decide +kernel)⟩
theorem lw_p37 : lw_okq (⟨"CellHandover$NetworkReader", "readSettings", "()V"⟩, 2) := ⟨⟨by decide +kernel, by decide +kernel⟩, List.mem_of_getElem? (i := 955) (by decide +kernel), List.mem_of_getElem? (i := 1024) (by decide +kernel), List.mem_of_getElem? (i := 1025) (by decide +kernel)⟩
theorem lw_p38 : lw_okq (⟨"CellHandoverLaw$Own", "call", "(II)I"⟩, 16) := ⟨⟨by decide +kernel, by decide +kernel⟩, List.mem_of_getElem? (i := 728) (by decide +kernel), List.mem_of_getElem? (i := 1109) (by decide +kernel), List.mem_of_getElem? (i := 1110) (by decide +kernel)⟩
theorem lw_p39 : lw_okq (⟨"CellHandoverLaw$Own", "covers", "(II)I"⟩, 16) := ⟨⟨by decide +kernel, by decide +kernel⟩, List.mem_of_getElem? (i := 728) (by decide +kernel), List.mem_of_getElem? (i := 1113) (by decide +kernel), List.mem_of_getElem? (i := 1114) (by decide +kernel)⟩
theorem lw_p40 : lw_okq (⟨"CellHandoverLaw$Own", "strongest", "(II)I"⟩, 16) := ⟨⟨by decide +kernel, by decide +kernel⟩, List.mem_of_getElem? (i := 728) (by decide +kernel), List.mem_of_getElem? (i := 1117) (by decide +kernel), List.mem_of_getElem? (i := 1118) (by decide +kernel)⟩
theorem lw_p41 : lw_okq (⟨"CellHandover", "requireMobile", "(I)V"⟩, 8) := ⟨⟨by decide +kernel, by decide +kernel⟩, List.mem_of_getElem? (i := 27) (by decide +kernel), List.mem_of_getElem? (i := 1125) (by decide +kernel), List.mem_of_getElem? (i := 1126) (by decide +kernel)⟩
theorem lw_p42 : lw_okq (⟨"CellHandover$Network", "canBeUsed", "(III)Z"⟩, 17) := ⟨⟨by decide +kernel, by decide +kernel⟩, List.mem_of_getElem? (i := 69) (by decide +kernel), List.mem_of_getElem? (i := 1154) (by decide +kernel), List.mem_of_getElem? (i := 1155) (by decide +kernel)⟩
theorem lw_p43 : lw_okq (⟨"CellHandover$Network", "retryCell", "(III)I"⟩, 17) := ⟨⟨by decide +kernel, by decide +kernel⟩, List.mem_of_getElem? (i := 69) (by decide +kernel), List.mem_of_getElem? (i := 1163) (by decide +kernel), List.mem_of_getElem? (i := 1164) (by decide +kernel)⟩
theorem lw_p44 : lw_okq (⟨"CellHandover", "requireCell", "(I)V"⟩, 8) := ⟨⟨by decide +kernel, by decide +kernel⟩, List.mem_of_getElem? (i := 27) (by decide +kernel), List.mem_of_getElem? (i := 1188) (by decide +kernel), List.mem_of_getElem? (i := 1189) (by decide +kernel)⟩
def lw_privs_3 : List (MethodName × Nat) := [(⟨"CellHandoverLaw$Own", "ranked", "(I)[I"⟩, 16), (⟨"CellHandover$Text", "byteAt", "(I)I"⟩, 8), (⟨"CellHandover$NetworkReader", "readClause", "()V"⟩, 2), (⟨"CellHandover$NetworkReader", "readCell", "()V"⟩, 2), (⟨"CellHandover$NetworkReader", "readRelation", "()V"⟩, 2), (⟨"CellHandover$NetworkReader", "readSettings", "()V"⟩, 2), (⟨"CellHandoverLaw$Own", "call", "(II)I"⟩, 16), (⟨"CellHandoverLaw$Own", "covers", "(II)I"⟩, 16), (⟨"CellHandoverLaw$Own", "strongest", "(II)I"⟩, 16), (⟨"CellHandover", "requireMobile", "(I)V"⟩, 8), (⟨"CellHandover$Network", "canBeUsed", "(III)Z"⟩, 17), (⟨"CellHandover$Network", "retryCell", "(III)I"⟩, 17), (⟨"CellHandover", "requireCell", "(I)V"⟩, 8)]
theorem lw_r3 : ∀ q ∈ lw_privs_3, lw_okq q := List.forall_mem_cons.mpr ⟨lw_p32, List.forall_mem_cons.mpr ⟨lw_p33, List.forall_mem_cons.mpr ⟨lw_p34, List.forall_mem_cons.mpr ⟨lw_p35, List.forall_mem_cons.mpr ⟨lw_p36, List.forall_mem_cons.mpr ⟨lw_p37, List.forall_mem_cons.mpr ⟨lw_p38, List.forall_mem_cons.mpr ⟨lw_p39, List.forall_mem_cons.mpr ⟨lw_p40, List.forall_mem_cons.mpr ⟨lw_p41, List.forall_mem_cons.mpr ⟨lw_p42, List.forall_mem_cons.mpr ⟨lw_p43, List.forall_mem_cons.mpr ⟨lw_p44, fun _ h => absurd h List.not_mem_nil⟩⟩⟩⟩⟩⟩⟩⟩⟩⟩⟩⟩⟩
def lw_privs : List (MethodName × Nat) := lw_privs_1 ++ (lw_privs_2 ++ (lw_privs_3))
def lw_tbl : List Cond := k2_sels lw_privs ++ tables_1
theorem lw_privs_ok : ∀ q ∈ lw_privs, lw_okq q := by
  show ∀ q ∈ lw_privs_1 ++ (lw_privs_2 ++ (lw_privs_3)), lw_okq q
  exact List.forall_mem_append.mpr ⟨lw_r1, List.forall_mem_append.mpr ⟨lw_r2, lw_r3⟩⟩

def ch_GL : List Cond := lw_tbl.filter goodWord
theorem ch_GLg {w : Cond} (h : w ∈ ch_GL) : goodWord w = true := (List.mem_filter.mp h).2
theorem ch_GLt {w : Cond} (h : w ∈ ch_GL) : w ∈ lw_tbl := (List.mem_filter.mp h).1
theorem ch_t1 {w : Cond} (h : w ∈ tables_1_1) : w ∈ tables_1 := List.mem_append_left _ h
theorem ch_c1 {w : Cond} (i : Nat) (h : tables_1_1[i]? = some w) (g : goodWord w = true) : w ∈ ch_GL := List.mem_filter.mpr ⟨List.mem_append_right _ (ch_t1 (List.mem_of_getElem? h)), g⟩
theorem ch_b1 {w : Cond} (i : Nat) (h : tables_1_1[i]? = some w) : w ∈ lw_tbl := List.mem_append_right _ (ch_t1 (List.mem_of_getElem? h))
theorem ch_t2 {w : Cond} (h : w ∈ tables_1_2) : w ∈ tables_1 := List.mem_append_right _ (List.mem_append_left _ h)
theorem ch_c2 {w : Cond} (i : Nat) (h : tables_1_2[i]? = some w) (g : goodWord w = true) : w ∈ ch_GL := List.mem_filter.mpr ⟨List.mem_append_right _ (ch_t2 (List.mem_of_getElem? h)), g⟩
theorem ch_b2 {w : Cond} (i : Nat) (h : tables_1_2[i]? = some w) : w ∈ lw_tbl := List.mem_append_right _ (ch_t2 (List.mem_of_getElem? h))
theorem ch_t3 {w : Cond} (h : w ∈ tables_1_3) : w ∈ tables_1 := List.mem_append_right _ (List.mem_append_right _ (List.mem_append_left _ h))
theorem ch_c3 {w : Cond} (i : Nat) (h : tables_1_3[i]? = some w) (g : goodWord w = true) : w ∈ ch_GL := List.mem_filter.mpr ⟨List.mem_append_right _ (ch_t3 (List.mem_of_getElem? h)), g⟩
theorem ch_b3 {w : Cond} (i : Nat) (h : tables_1_3[i]? = some w) : w ∈ lw_tbl := List.mem_append_right _ (ch_t3 (List.mem_of_getElem? h))
theorem ch_t4 {w : Cond} (h : w ∈ tables_1_4) : w ∈ tables_1 := List.mem_append_right _ (List.mem_append_right _ (List.mem_append_right _ (List.mem_append_left _ h)))
theorem ch_c4 {w : Cond} (i : Nat) (h : tables_1_4[i]? = some w) (g : goodWord w = true) : w ∈ ch_GL := List.mem_filter.mpr ⟨List.mem_append_right _ (ch_t4 (List.mem_of_getElem? h)), g⟩
theorem ch_b4 {w : Cond} (i : Nat) (h : tables_1_4[i]? = some w) : w ∈ lw_tbl := List.mem_append_right _ (ch_t4 (List.mem_of_getElem? h))
theorem ch_t5 {w : Cond} (h : w ∈ tables_1_5) : w ∈ tables_1 := List.mem_append_right _ (List.mem_append_right _ (List.mem_append_right _ (List.mem_append_right _ (List.mem_append_left _ h))))
theorem ch_c5 {w : Cond} (i : Nat) (h : tables_1_5[i]? = some w) (g : goodWord w = true) : w ∈ ch_GL := List.mem_filter.mpr ⟨List.mem_append_right _ (ch_t5 (List.mem_of_getElem? h)), g⟩
theorem ch_b5 {w : Cond} (i : Nat) (h : tables_1_5[i]? = some w) : w ∈ lw_tbl := List.mem_append_right _ (ch_t5 (List.mem_of_getElem? h))
theorem ch_t6 {w : Cond} (h : w ∈ tables_1_6) : w ∈ tables_1 := List.mem_append_right _ (List.mem_append_right _ (List.mem_append_right _ (List.mem_append_right _ (List.mem_append_right _ (h)))))
theorem ch_c6 {w : Cond} (i : Nat) (h : tables_1_6[i]? = some w) (g : goodWord w = true) : w ∈ ch_GL := List.mem_filter.mpr ⟨List.mem_append_right _ (ch_t6 (List.mem_of_getElem? h)), g⟩
theorem ch_b6 {w : Cond} (i : Nat) (h : tables_1_6[i]? = some w) : w ∈ lw_tbl := List.mem_append_right _ (ch_t6 (List.mem_of_getElem? h))
theorem ch_cs {w : Cond} (h : w ∈ k2_sels lw_privs) (g : goodWord w = true) : w ∈ ch_GL := List.mem_filter.mpr ⟨List.mem_append_left _ h, g⟩
theorem ch_sel {q : MethodName × Nat} (h : q ∈ lw_privs) : Cond.selects q.1.cls q.1 q.1 ∈ ch_GL := ch_cs (List.mem_map.mpr ⟨q, h, rfl⟩) rfl
theorem kw_0 : (Cond.initialized "CellHandoverLaw") ∈ ch_GL := ch_c1 0 rfl rfl
theorem kw_1 : (Cond.initialized "CellHandover") ∈ ch_GL := ch_c1 1 rfl rfl
theorem kw_2 : (Cond.initialized "CellHandover$Text") ∈ ch_GL := ch_c1 2 rfl rfl
theorem kw_3 : (Cond.initialized "CellHandover$Network") ∈ ch_GL := ch_c1 3 rfl rfl
theorem kw_4 : (Cond.initialized "CellHandover$Cell") ∈ ch_GL := ch_c1 4 rfl rfl
theorem kw_5 : (Cond.initialized "CellHandover$Relation") ∈ ch_GL := ch_c1 5 rfl rfl
theorem kw_6 : (Cond.initialized "CellHandover$Mobile") ∈ ch_GL := ch_c1 6 rfl rfl
theorem kw_7 : (Cond.initialized "CellHandover$History") ∈ ch_GL := ch_c1 7 rfl rfl
theorem kw_8 : (Cond.initialized "CellHandover$Simulator") ∈ ch_GL := ch_c1 8 rfl rfl
theorem kw_9 : (Cond.initialized "CellHandover$Ranking") ∈ ch_GL := ch_c1 9 rfl rfl
theorem kw_10 : (Cond.initialized "CellHandover$Survey") ∈ ch_GL := ch_c1 10 rfl rfl
theorem kw_11 : (Cond.initialized "java/lang/Throwable") ∈ ch_GL := ch_c1 11 rfl rfl
theorem kw_12 : (Cond.initialized "java/lang/Exception") ∈ ch_GL := ch_c1 12 rfl rfl
theorem kw_13 : (Cond.initialized "java/lang/RuntimeException") ∈ ch_GL := ch_c1 13 rfl rfl
theorem kw_14 : (Cond.initialized "java/lang/IllegalArgumentException") ∈ ch_GL := ch_c1 14 rfl rfl
theorem kw_15 : (Cond.initialized "java/lang/Math") ∈ ch_GL := ch_c1 15 rfl rfl
theorem kw_16 : (Cond.initialized "java/lang/System") ∈ ch_GL := ch_c1 16 rfl rfl
theorem kw_17 : (Cond.initialized "java/util/Arrays") ∈ ch_GL := ch_c1 17 rfl rfl
theorem kw_18 : (Cond.initialized "CellHandoverLaw$Own") ∈ ch_GL := ch_c1 18 rfl rfl
theorem kw_19 : (Cond.initialized "java/lang/String") ∈ ch_GL := ch_c1 19 rfl rfl
theorem kw_20 : (Cond.initialized "java/lang/StringLatin1") ∈ ch_GL := ch_c1 20 rfl rfl
theorem kw_21 : (Cond.initialized "jdk/internal/util/Preconditions") ∈ ch_GL := ch_c1 21 rfl rfl
theorem kw_22 : (Cond.initialized "java/lang/StringUTF16") ∈ ch_GL := ch_c1 22 rfl rfl
theorem kw_23 : (Cond.initialized "CellHandover$NetworkReader") ∈ ch_GL := ch_c1 23 rfl rfl
theorem kw_24 : (Cond.initialized "java/util/NoSuchElementException") ∈ ch_GL := ch_c1 24 rfl rfl
theorem kw_25 : (Cond.initialized "CellHandoverLaw$Mobile") ∈ ch_GL := ch_c1 25 rfl rfl
theorem kw_26 : (Cond.classLink "CellHandoverLaw" (9 : Nat) "CellHandover") ∈ ch_GL := ch_c1 26 rfl rfl
theorem kw_27 : (Cond.instantiable "CellHandover" (8 : Nat)) ∈ ch_GL := ch_c1 27 rfl rfl
theorem kw_28 : (Cond.methodLink "CellHandoverLaw" (264 : Nat) ({ cls := "CellHandover", name := "<init>", desc := "()V" } : MethodName)) ∈ ch_GL := ch_c1 28 rfl rfl
theorem kw_29 : (Cond.instanceMethod ({ cls := "CellHandover", name := "<init>", desc := "()V" } : MethodName)) ∈ ch_GL := ch_c1 29 rfl rfl
theorem kw_30 : (Cond.code ({ cls := "CellHandover", name := "<init>", desc := "()V" } : MethodName) prog_1_method_1_code (1 : Nat) (Option.none : Option FieldType)) ∈ ch_GL := ch_c1 30 rfl rfl
theorem kw_31 : (Cond.methodLink "CellHandover" (1 : Nat) ({ cls := "java/lang/Object", name := "<init>", desc := "()V" } : MethodName)) ∈ ch_GL := ch_c1 31 rfl rfl
theorem kw_32 : (Cond.instanceMethod ({ cls := "java/lang/Object", name := "<init>", desc := "()V" } : MethodName)) ∈ ch_GL := ch_c1 32 rfl rfl
theorem kw_33 : (Cond.code ({ cls := "java/lang/Object", name := "<init>", desc := "()V" } : MethodName) object_method_1_code (1 : Nat) (Option.none : Option FieldType)) ∈ ch_GL := ch_c1 33 rfl rfl
theorem kw_34 : (Cond.classLink "CellHandover" (7 : Nat) "CellHandover$Text") ∈ ch_GL := ch_c1 34 rfl rfl
theorem kw_35 : (Cond.instantiable "CellHandover$Text" (8 : Nat)) ∈ ch_GL := ch_c1 35 rfl rfl
theorem kb_36 : (Cond.methodLinkNest "CellHandover" (9 : Nat) ({ cls := "CellHandover$Text", name := "<init>", desc := "()V" } : MethodName) "CellHandover") ∈ lw_tbl := ch_b1 36 rfl
theorem kw_37 : (Cond.instanceMethod ({ cls := "CellHandover$Text", name := "<init>", desc := "()V" } : MethodName)) ∈ ch_GL := ch_c1 37 rfl rfl
theorem kw_38 : (Cond.code ({ cls := "CellHandover$Text", name := "<init>", desc := "()V" } : MethodName) prog_12_method_1_code (1 : Nat) (Option.none : Option FieldType)) ∈ ch_GL := ch_c1 38 rfl rfl
theorem kw_39 : (Cond.methodLink "CellHandover$Text" (3 : Nat) ({ cls := "java/lang/Object", name := "<init>", desc := "()V" } : MethodName)) ∈ ch_GL := ch_c1 39 rfl rfl
theorem kw_40 : (Cond.fieldLink "CellHandover" (54 : Nat) "CellHandover$Text" "fed" "I") ∈ ch_GL := ch_c1 40 rfl rfl
theorem kw_41 : (Cond.fieldLink "CellHandover$Text" (19 : Nat) "CellHandover$Text" "fed" "I") ∈ ch_GL := ch_c1 41 rfl rfl
theorem kw_42 : (Cond.fieldLink "CellHandover$Text" (28 : Nat) "CellHandover$Text" "error" "I") ∈ ch_GL := ch_c1 42 rfl rfl
theorem kw_43 : (Cond.fieldLink "CellHandover" (80 : Nat) "CellHandover$Text" "error" "I") ∈ ch_GL := ch_c1 43 rfl rfl
theorem kw_44 : (Cond.fieldLink "CellHandover$Text" (9 : Nat) "CellHandover$Text" "errorAt" "I") ∈ ch_GL := ch_c1 44 rfl rfl
theorem kw_45 : (Cond.fieldLink "CellHandover$Text" (15 : Nat) "CellHandover$Text" "bytes" "[I") ∈ ch_GL := ch_c1 45 rfl rfl
theorem kw_46 : (Cond.fieldLink "CellHandover$Text" (22 : Nat) "CellHandover$Text" "end" "I") ∈ ch_GL := ch_c1 46 rfl rfl
theorem kw_47 : (Cond.fieldLink "CellHandover$Text" (34 : Nat) "CellHandover$Text" "start" "I") ∈ ch_GL := ch_c1 47 rfl rfl
theorem kw_48 : (Cond.fieldLink "CellHandover$Text" (25 : Nat) "CellHandover$Text" "next" "I") ∈ ch_GL := ch_c1 48 rfl rfl
theorem kw_49 : (Cond.fieldLink "CellHandover$Text" (50 : Nat) "CellHandover$Text" "kind" "I") ∈ ch_GL := ch_c1 49 rfl rfl
theorem kw_50 : (Cond.lays "CellHandover$Text" "CellHandover$Text" "fed" "I") ∈ ch_GL := ch_c1 50 rfl rfl
theorem kw_51 : (Cond.soleField "CellHandover$Text" "fed") ∈ ch_GL := ch_c1 51 rfl rfl
theorem kw_52 : (Cond.lays "CellHandover$Text" "CellHandover$Text" "error" "I") ∈ ch_GL := ch_c1 52 rfl rfl
theorem kw_53 : (Cond.soleField "CellHandover$Text" "error") ∈ ch_GL := ch_c1 53 rfl rfl
theorem kw_54 : (Cond.lays "CellHandover$Text" "CellHandover$Text" "errorAt" "I") ∈ ch_GL := ch_c1 54 rfl rfl
theorem kw_55 : (Cond.soleField "CellHandover$Text" "errorAt") ∈ ch_GL := ch_c1 55 rfl rfl
theorem kw_56 : (Cond.laysFinal "CellHandover$Text" "CellHandover$Text" "bytes" "[I") ∈ ch_GL := ch_c1 56 rfl rfl
theorem kw_57 : (Cond.soleField "CellHandover$Text" "bytes") ∈ ch_GL := ch_c1 57 rfl rfl
theorem kw_58 : (Cond.lays "CellHandover$Text" "CellHandover$Text" "end" "I") ∈ ch_GL := ch_c1 58 rfl rfl
theorem kw_59 : (Cond.soleField "CellHandover$Text" "end") ∈ ch_GL := ch_c1 59 rfl rfl
theorem kw_60 : (Cond.lays "CellHandover$Text" "CellHandover$Text" "start" "I") ∈ ch_GL := ch_c1 60 rfl rfl
theorem kw_61 : (Cond.soleField "CellHandover$Text" "start") ∈ ch_GL := ch_c1 61 rfl rfl
theorem kw_62 : (Cond.lays "CellHandover$Text" "CellHandover$Text" "next" "I") ∈ ch_GL := ch_c1 62 rfl rfl
theorem kw_63 : (Cond.soleField "CellHandover$Text" "next") ∈ ch_GL := ch_c1 63 rfl rfl
theorem kw_64 : (Cond.lays "CellHandover$Text" "CellHandover$Text" "kind" "I") ∈ ch_GL := ch_c1 64 rfl rfl
theorem kw_65 : (Cond.soleField "CellHandover$Text" "kind") ∈ ch_GL := ch_c1 65 rfl rfl
theorem kw_66 : (Cond.superclass "CellHandover$Text" "java/lang/Object") ∈ ch_GL := ch_c1 66 rfl rfl
theorem kw_67 : (Cond.arrayClass FieldType.int) ∈ ch_GL := ch_c1 67 rfl rfl
theorem kw_68 : (Cond.classLink "CellHandover" (16 : Nat) "CellHandover$Network") ∈ ch_GL := ch_c1 68 rfl rfl
theorem kw_69 : (Cond.instantiable "CellHandover$Network" (17 : Nat)) ∈ ch_GL := ch_c1 69 rfl rfl
theorem kw_70 : (Cond.methodLink "CellHandover" (18 : Nat) ({ cls := "CellHandover$Network", name := "<init>", desc := "()V" } : MethodName)) ∈ ch_GL := ch_c1 70 rfl rfl
theorem kw_71 : (Cond.instanceMethod ({ cls := "CellHandover$Network", name := "<init>", desc := "()V" } : MethodName)) ∈ ch_GL := ch_c1 71 rfl rfl
theorem kw_72 : (Cond.code ({ cls := "CellHandover$Network", name := "<init>", desc := "()V" } : MethodName) prog_5_method_1_code (2 : Nat) (Option.none : Option FieldType)) ∈ ch_GL := ch_c1 72 rfl rfl
theorem kw_73 : (Cond.methodLink "CellHandover$Network" (3 : Nat) ({ cls := "java/lang/Object", name := "<init>", desc := "()V" } : MethodName)) ∈ ch_GL := ch_c1 73 rfl rfl
theorem kw_74 : (Cond.classLink "CellHandover$Network" (9 : Nat) "CellHandover$Cell") ∈ ch_GL := ch_c1 74 rfl rfl
theorem kb_75 : (Cond.arrayOver (FieldType.object "CellHandover$Cell")) ∈ lw_tbl := ch_b1 75 rfl
theorem kw_76 : (Cond.classLink "CellHandover$Network" (17 : Nat) "CellHandover$Relation") ∈ ch_GL := ch_c1 76 rfl rfl
theorem kb_77 : (Cond.arrayOver (FieldType.object "CellHandover$Relation")) ∈ lw_tbl := ch_b1 77 rfl
theorem kw_78 : (Cond.classLink "CellHandover$Network" (23 : Nat) "CellHandover$Mobile") ∈ ch_GL := ch_c1 78 rfl rfl
theorem kb_79 : (Cond.arrayOver (FieldType.object "CellHandover$Mobile")) ∈ lw_tbl := ch_b1 79 rfl
theorem kw_80 : (Cond.instantiable "CellHandover$Cell" (9 : Nat)) ∈ ch_GL := ch_c1 80 rfl rfl
theorem kb_81 : (Cond.methodLinkNest "CellHandover$Network" (33 : Nat) ({ cls := "CellHandover$Cell", name := "<init>", desc := "()V" } : MethodName) "CellHandover") ∈ lw_tbl := ch_b1 81 rfl
theorem kw_82 : (Cond.instanceMethod ({ cls := "CellHandover$Cell", name := "<init>", desc := "()V" } : MethodName)) ∈ ch_GL := ch_c1 82 rfl rfl
theorem kw_83 : (Cond.code ({ cls := "CellHandover$Cell", name := "<init>", desc := "()V" } : MethodName) prog_2_method_1_code (1 : Nat) (Option.none : Option FieldType)) ∈ ch_GL := ch_c1 83 rfl rfl
theorem kw_84 : (Cond.methodLink "CellHandover$Cell" (1 : Nat) ({ cls := "java/lang/Object", name := "<init>", desc := "()V" } : MethodName)) ∈ ch_GL := ch_c1 84 rfl rfl
theorem kw_85 : (Cond.fieldLink "CellHandover$Cell" (7 : Nat) "CellHandover$Cell" "x" "I") ∈ ch_GL := ch_c1 85 rfl rfl
theorem kw_86 : (Cond.fieldLink "CellHandover$NetworkReader" (77 : Nat) "CellHandover$Cell" "x" "I") ∈ ch_GL := ch_c1 86 rfl rfl
theorem kw_87 : (Cond.fieldLink "CellHandover$Cell" (19 : Nat) "CellHandover$Cell" "y" "I") ∈ ch_GL := ch_c1 87 rfl rfl
theorem kw_88 : (Cond.fieldLink "CellHandover$NetworkReader" (82 : Nat) "CellHandover$Cell" "y" "I") ∈ ch_GL := ch_c1 88 rfl rfl
theorem kw_89 : (Cond.fieldLink "CellHandover$Cell" (22 : Nat) "CellHandover$Cell" "power" "I") ∈ ch_GL := ch_c1 89 rfl rfl
theorem kw_90 : (Cond.fieldLink "CellHandover$NetworkReader" (85 : Nat) "CellHandover$Cell" "power" "I") ∈ ch_GL := ch_c1 90 rfl rfl
theorem kw_91 : (Cond.fieldLink "CellHandover$Cell" (25 : Nat) "CellHandover$Cell" "slope" "I") ∈ ch_GL := ch_c1 91 rfl rfl
theorem kw_92 : (Cond.fieldLink "CellHandover$NetworkReader" (88 : Nat) "CellHandover$Cell" "slope" "I") ∈ ch_GL := ch_c1 92 rfl rfl
theorem kw_93 : (Cond.fieldLink "CellHandover$Cell" (32 : Nat) "CellHandover$Cell" "channels" "I") ∈ ch_GL := ch_c1 93 rfl rfl
theorem kw_94 : (Cond.fieldLink "CellHandover$NetworkReader" (91 : Nat) "CellHandover$Cell" "channels" "I") ∈ ch_GL := ch_c1 94 rfl rfl
theorem kw_95 : (Cond.fieldLink "CellHandover$Network" (141 : Nat) "CellHandover$Cell" "channels" "I") ∈ ch_GL := ch_c1 95 rfl rfl
theorem kw_96 : (Cond.fieldLink "CellHandover$Cell" (35 : Nat) "CellHandover$Cell" "capacity" "I") ∈ ch_GL := ch_c1 96 rfl rfl
theorem kw_97 : (Cond.fieldLink "CellHandover$NetworkReader" (94 : Nat) "CellHandover$Cell" "capacity" "I") ∈ ch_GL := ch_c1 97 rfl rfl
theorem kw_98 : (Cond.fieldLink "CellHandover$Network" (150 : Nat) "CellHandover$Cell" "capacity" "I") ∈ ch_GL := ch_c1 98 rfl rfl
theorem kw_99 : (Cond.fieldLink "CellHandover$Cell" (38 : Nat) "CellHandover$Cell" "accessLevel" "I") ∈ ch_GL := ch_c1 99 rfl rfl
theorem kw_100 : (Cond.fieldLink "CellHandover$Ranking" (79 : Nat) "CellHandover$Cell" "accessLevel" "I") ∈ ch_GL := ch_c1 100 rfl rfl
theorem kw_101 : (Cond.fieldLink "CellHandover$NetworkReader" (97 : Nat) "CellHandover$Cell" "accessLevel" "I") ∈ ch_GL := ch_c1 101 rfl rfl
theorem kw_102 : (Cond.fieldLink "CellHandover$Network" (128 : Nat) "CellHandover$Cell" "accessLevel" "I") ∈ ch_GL := ch_c1 102 rfl rfl
theorem kw_103 : (Cond.fieldLink "CellHandover$Ranking" (41 : Nat) "CellHandover$Cell" "lowLevel" "I") ∈ ch_GL := ch_c1 103 rfl rfl
theorem kw_104 : (Cond.fieldLink "CellHandover$Cell" (41 : Nat) "CellHandover$Cell" "lowLevel" "I") ∈ ch_GL := ch_c1 104 rfl rfl
theorem kw_105 : (Cond.fieldLink "CellHandover$NetworkReader" (100 : Nat) "CellHandover$Cell" "lowLevel" "I") ∈ ch_GL := ch_c1 105 rfl rfl
theorem kw_106 : (Cond.fieldLink "CellHandover$Cell" (44 : Nat) "CellHandover$Cell" "congestedTicks" "I") ∈ ch_GL := ch_c1 106 rfl rfl
theorem kw_107 : (Cond.fieldLink "CellHandover$NetworkReader" (103 : Nat) "CellHandover$Cell" "congestedTicks" "I") ∈ ch_GL := ch_c1 107 rfl rfl
theorem kw_108 : (Cond.fieldLink "CellHandover$Simulator" (189 : Nat) "CellHandover$Cell" "congestedTicks" "I") ∈ ch_GL := ch_c1 108 rfl rfl
theorem kw_109 : (Cond.fieldLink "CellHandover" (231 : Nat) "CellHandover$Cell" "congestedTicks" "I") ∈ ch_GL := ch_c1 109 rfl rfl
theorem kw_110 : (Cond.lays "CellHandover$Cell" "CellHandover$Cell" "x" "I") ∈ ch_GL := ch_c1 110 rfl rfl
theorem kw_111 : (Cond.soleField "CellHandover$Cell" "x") ∈ ch_GL := ch_c1 111 rfl rfl
theorem kw_112 : (Cond.lays "CellHandover$Cell" "CellHandover$Cell" "y" "I") ∈ ch_GL := ch_c1 112 rfl rfl
theorem kw_113 : (Cond.soleField "CellHandover$Cell" "y") ∈ ch_GL := ch_c1 113 rfl rfl
theorem kw_114 : (Cond.lays "CellHandover$Cell" "CellHandover$Cell" "power" "I") ∈ ch_GL := ch_c1 114 rfl rfl
theorem kw_115 : (Cond.soleField "CellHandover$Cell" "power") ∈ ch_GL := ch_c1 115 rfl rfl
theorem kw_116 : (Cond.lays "CellHandover$Cell" "CellHandover$Cell" "slope" "I") ∈ ch_GL := ch_c1 116 rfl rfl
theorem kw_117 : (Cond.soleField "CellHandover$Cell" "slope") ∈ ch_GL := ch_c1 117 rfl rfl
theorem kw_118 : (Cond.lays "CellHandover$Cell" "CellHandover$Cell" "channels" "I") ∈ ch_GL := ch_c1 118 rfl rfl
theorem kw_119 : (Cond.soleField "CellHandover$Cell" "channels") ∈ ch_GL := ch_c1 119 rfl rfl
theorem kw_120 : (Cond.lays "CellHandover$Cell" "CellHandover$Cell" "capacity" "I") ∈ ch_GL := ch_c1 120 rfl rfl
theorem kw_121 : (Cond.soleField "CellHandover$Cell" "capacity") ∈ ch_GL := ch_c1 121 rfl rfl
theorem kw_122 : (Cond.lays "CellHandover$Cell" "CellHandover$Cell" "accessLevel" "I") ∈ ch_GL := ch_c1 122 rfl rfl
theorem kw_123 : (Cond.soleField "CellHandover$Cell" "accessLevel") ∈ ch_GL := ch_c1 123 rfl rfl
theorem kw_124 : (Cond.lays "CellHandover$Cell" "CellHandover$Cell" "lowLevel" "I") ∈ ch_GL := ch_c1 124 rfl rfl
theorem kw_125 : (Cond.soleField "CellHandover$Cell" "lowLevel") ∈ ch_GL := ch_c1 125 rfl rfl
theorem kw_126 : (Cond.lays "CellHandover$Cell" "CellHandover$Cell" "congestedTicks" "I") ∈ ch_GL := ch_c1 126 rfl rfl
theorem kw_127 : (Cond.soleField "CellHandover$Cell" "congestedTicks") ∈ ch_GL := ch_c1 127 rfl rfl
theorem kw_128 : (Cond.superclass "CellHandover$Cell" "java/lang/Object") ∈ ch_GL := ch_c1 128 rfl rfl
theorem kw_129 : (Cond.instantiable "CellHandover$Relation" (4 : Nat)) ∈ ch_GL := ch_c1 129 rfl rfl
theorem kb_130 : (Cond.methodLinkNest "CellHandover$Network" (38 : Nat) ({ cls := "CellHandover$Relation", name := "<init>", desc := "()V" } : MethodName) "CellHandover") ∈ lw_tbl := ch_b1 130 rfl
theorem kw_131 : (Cond.instanceMethod ({ cls := "CellHandover$Relation", name := "<init>", desc := "()V" } : MethodName)) ∈ ch_GL := ch_c1 131 rfl rfl
theorem kw_132 : (Cond.code ({ cls := "CellHandover$Relation", name := "<init>", desc := "()V" } : MethodName) prog_9_method_1_code (1 : Nat) (Option.none : Option FieldType)) ∈ ch_GL := ch_c1 132 rfl rfl
theorem kw_133 : (Cond.methodLink "CellHandover$Relation" (1 : Nat) ({ cls := "java/lang/Object", name := "<init>", desc := "()V" } : MethodName)) ∈ ch_GL := ch_c1 133 rfl rfl
theorem kw_134 : (Cond.fieldLink "CellHandover$Relation" (7 : Nat) "CellHandover$Relation" "exists" "Z") ∈ ch_GL := ch_c1 134 rfl rfl
theorem kw_135 : (Cond.fieldLink "CellHandover$Ranking" (61 : Nat) "CellHandover$Relation" "exists" "Z") ∈ ch_GL := ch_c1 135 rfl rfl
theorem kw_136 : (Cond.fieldLink "CellHandover$NetworkReader" (116 : Nat) "CellHandover$Relation" "exists" "Z") ∈ ch_GL := ch_c1 136 rfl rfl
theorem kw_137 : (Cond.fieldLink "CellHandover$Simulator" (103 : Nat) "CellHandover$Relation" "exists" "Z") ∈ ch_GL := ch_c1 137 rfl rfl
theorem kw_138 : (Cond.fieldLink "CellHandover" (112 : Nat) "CellHandover$Relation" "exists" "Z") ∈ ch_GL := ch_c1 138 rfl rfl
theorem kw_139 : (Cond.fieldLink "CellHandover$Network" (194 : Nat) "CellHandover$Relation" "exists" "Z") ∈ ch_GL := ch_c1 139 rfl rfl
theorem kw_140 : (Cond.fieldLink "CellHandover$Relation" (13 : Nat) "CellHandover$Relation" "hysteresis" "I") ∈ ch_GL := ch_c1 140 rfl rfl
theorem kw_141 : (Cond.fieldLink "CellHandover$Ranking" (82 : Nat) "CellHandover$Relation" "hysteresis" "I") ∈ ch_GL := ch_c1 141 rfl rfl
theorem kw_142 : (Cond.fieldLink "CellHandover$NetworkReader" (122 : Nat) "CellHandover$Relation" "hysteresis" "I") ∈ ch_GL := ch_c1 142 rfl rfl
theorem kw_143 : (Cond.fieldLink "CellHandover" (117 : Nat) "CellHandover$Relation" "hysteresis" "I") ∈ ch_GL := ch_c1 143 rfl rfl
theorem kw_144 : (Cond.fieldLink "CellHandover$Relation" (17 : Nat) "CellHandover$Relation" "successes" "I") ∈ ch_GL := ch_c1 144 rfl rfl
theorem kw_145 : (Cond.fieldLink "CellHandover$Network" (207 : Nat) "CellHandover$Relation" "successes" "I") ∈ ch_GL := ch_c1 145 rfl rfl
theorem kw_146 : (Cond.fieldLink "CellHandover" (225 : Nat) "CellHandover$Relation" "successes" "I") ∈ ch_GL := ch_c1 146 rfl rfl
theorem kw_147 : (Cond.fieldLink "CellHandover$Relation" (20 : Nat) "CellHandover$Relation" "refusals" "I") ∈ ch_GL := ch_c1 147 rfl rfl
theorem kw_148 : (Cond.fieldLink "CellHandover$Simulator" (176 : Nat) "CellHandover$Relation" "refusals" "I") ∈ ch_GL := ch_c1 148 rfl rfl
theorem kw_149 : (Cond.fieldLink "CellHandover" (228 : Nat) "CellHandover$Relation" "refusals" "I") ∈ ch_GL := ch_c1 149 rfl rfl
theorem kw_150 : (Cond.lays "CellHandover$Relation" "CellHandover$Relation" "exists" "Z") ∈ ch_GL := ch_c1 150 rfl rfl
theorem kw_151 : (Cond.soleField "CellHandover$Relation" "exists") ∈ ch_GL := ch_c1 151 rfl rfl
theorem kw_152 : (Cond.lays "CellHandover$Relation" "CellHandover$Relation" "hysteresis" "I") ∈ ch_GL := ch_c1 152 rfl rfl
theorem kw_153 : (Cond.soleField "CellHandover$Relation" "hysteresis") ∈ ch_GL := ch_c1 153 rfl rfl
theorem kw_154 : (Cond.lays "CellHandover$Relation" "CellHandover$Relation" "successes" "I") ∈ ch_GL := ch_c1 154 rfl rfl
theorem kw_155 : (Cond.soleField "CellHandover$Relation" "successes") ∈ ch_GL := ch_c1 155 rfl rfl
theorem kw_156 : (Cond.lays "CellHandover$Relation" "CellHandover$Relation" "refusals" "I") ∈ ch_GL := ch_c1 156 rfl rfl
theorem kw_157 : (Cond.soleField "CellHandover$Relation" "refusals") ∈ ch_GL := ch_c1 157 rfl rfl
theorem kw_158 : (Cond.superclass "CellHandover$Relation" "java/lang/Object") ∈ ch_GL := ch_c1 158 rfl rfl
theorem kw_159 : (Cond.instantiable "CellHandover$Mobile" (13 : Nat)) ∈ ch_GL := ch_c1 159 rfl rfl
theorem kw_160 : (Cond.methodLink "CellHandover$Network" (43 : Nat) ({ cls := "CellHandover$Mobile", name := "<init>", desc := "()V" } : MethodName)) ∈ ch_GL := ch_c1 160 rfl rfl
theorem kw_161 : (Cond.instanceMethod ({ cls := "CellHandover$Mobile", name := "<init>", desc := "()V" } : MethodName)) ∈ ch_GL := ch_c1 161 rfl rfl
theorem kw_162 : (Cond.code ({ cls := "CellHandover$Mobile", name := "<init>", desc := "()V" } : MethodName) prog_4_method_1_code (1 : Nat) (Option.none : Option FieldType)) ∈ ch_GL := ch_c1 162 rfl rfl
theorem kw_163 : (Cond.methodLink "CellHandover$Mobile" (3 : Nat) ({ cls := "java/lang/Object", name := "<init>", desc := "()V" } : MethodName)) ∈ ch_GL := ch_c1 163 rfl rfl
theorem kw_164 : (Cond.fieldLink "CellHandover$Mobile" (28 : Nat) "CellHandover$Mobile" "x" "I") ∈ ch_GL := ch_c1 164 rfl rfl
theorem kw_165 : (Cond.fieldLink "CellHandover$Simulator" (64 : Nat) "CellHandover$Mobile" "x" "I") ∈ ch_GL := ch_c1 165 rfl rfl
theorem kw_166 : (Cond.fieldLink "CellHandover" (165 : Nat) "CellHandover$Mobile" "x" "I") ∈ ch_GL := ch_c1 166 rfl rfl
theorem kw_167 : (Cond.fieldLink "CellHandover$Network" (167 : Nat) "CellHandover$Mobile" "x" "I") ∈ ch_GL := ch_c1 167 rfl rfl
theorem kw_168 : (Cond.fieldLink "CellHandover$Mobile" (31 : Nat) "CellHandover$Mobile" "y" "I") ∈ ch_GL := ch_c1 168 rfl rfl
theorem kw_169 : (Cond.fieldLink "CellHandover$Simulator" (81 : Nat) "CellHandover$Mobile" "y" "I") ∈ ch_GL := ch_c1 169 rfl rfl
theorem kw_170 : (Cond.fieldLink "CellHandover" (168 : Nat) "CellHandover$Mobile" "y" "I") ∈ ch_GL := ch_c1 170 rfl rfl
theorem kw_171 : (Cond.fieldLink "CellHandover$Network" (170 : Nat) "CellHandover$Mobile" "y" "I") ∈ ch_GL := ch_c1 171 rfl rfl
theorem kw_172 : (Cond.fieldLink "CellHandover$Mobile" (34 : Nat) "CellHandover$Mobile" "vx" "I") ∈ ch_GL := ch_c1 172 rfl rfl
theorem kw_173 : (Cond.fieldLink "CellHandover$Simulator" (69 : Nat) "CellHandover$Mobile" "vx" "I") ∈ ch_GL := ch_c1 173 rfl rfl
theorem kw_174 : (Cond.fieldLink "CellHandover" (156 : Nat) "CellHandover$Mobile" "vx" "I") ∈ ch_GL := ch_c1 174 rfl rfl
theorem kw_175 : (Cond.fieldLink "CellHandover$Mobile" (37 : Nat) "CellHandover$Mobile" "vy" "I") ∈ ch_GL := ch_c1 175 rfl rfl
theorem kw_176 : (Cond.fieldLink "CellHandover$Simulator" (84 : Nat) "CellHandover$Mobile" "vy" "I") ∈ ch_GL := ch_c1 176 rfl rfl
theorem kw_177 : (Cond.fieldLink "CellHandover" (159 : Nat) "CellHandover$Mobile" "vy" "I") ∈ ch_GL := ch_c1 177 rfl rfl
theorem kw_178 : (Cond.fieldLink "CellHandover$Mobile" (43 : Nat) "CellHandover$Mobile" "state" "I") ∈ ch_GL := ch_c1 178 rfl rfl
theorem kw_179 : (Cond.fieldLink "CellHandover$Simulator" (87 : Nat) "CellHandover$Mobile" "state" "I") ∈ ch_GL := ch_c1 179 rfl rfl
theorem kw_180 : (Cond.fieldLink "CellHandover$Network" (131 : Nat) "CellHandover$Mobile" "state" "I") ∈ ch_GL := ch_c1 180 rfl rfl
theorem kw_181 : (Cond.fieldLink "CellHandover" (162 : Nat) "CellHandover$Mobile" "state" "I") ∈ ch_GL := ch_c1 181 rfl rfl
theorem kw_182 : (Cond.fieldLink "CellHandover$Mobile" (21 : Nat) "CellHandover$Mobile" "serving" "I") ∈ ch_GL := ch_c1 182 rfl rfl
theorem kw_183 : (Cond.fieldLink "CellHandover$Ranking" (26 : Nat) "CellHandover$Mobile" "serving" "I") ∈ ch_GL := ch_c1 183 rfl rfl
theorem kw_184 : (Cond.fieldLink "CellHandover$Simulator" (96 : Nat) "CellHandover$Mobile" "serving" "I") ∈ ch_GL := ch_c1 184 rfl rfl
theorem kw_185 : (Cond.fieldLink "CellHandover$Network" (134 : Nat) "CellHandover$Mobile" "serving" "I") ∈ ch_GL := ch_c1 185 rfl rfl
theorem kw_186 : (Cond.fieldLink "CellHandover" (190 : Nat) "CellHandover$Mobile" "serving" "I") ∈ ch_GL := ch_c1 186 rfl rfl
theorem kw_187 : (Cond.fieldLink "CellHandover$Mobile" (46 : Nat) "CellHandover$Mobile" "remaining" "I") ∈ ch_GL := ch_c1 187 rfl rfl
theorem kw_188 : (Cond.fieldLink "CellHandover$Simulator" (129 : Nat) "CellHandover$Mobile" "remaining" "I") ∈ ch_GL := ch_c1 188 rfl rfl
theorem kw_189 : (Cond.fieldLink "CellHandover$Network" (181 : Nat) "CellHandover$Mobile" "remaining" "I") ∈ ch_GL := ch_c1 189 rfl rfl
theorem kw_190 : (Cond.fieldLink "CellHandover" (193 : Nat) "CellHandover$Mobile" "remaining" "I") ∈ ch_GL := ch_c1 190 rfl rfl
theorem kw_191 : (Cond.fieldLink "CellHandover$Mobile" (49 : Nat) "CellHandover$Mobile" "badTicks" "I") ∈ ch_GL := ch_c1 191 rfl rfl
theorem kw_192 : (Cond.fieldLink "CellHandover$Simulator" (144 : Nat) "CellHandover$Mobile" "badTicks" "I") ∈ ch_GL := ch_c1 192 rfl rfl
theorem kw_193 : (Cond.fieldLink "CellHandover$Network" (204 : Nat) "CellHandover$Mobile" "badTicks" "I") ∈ ch_GL := ch_c1 193 rfl rfl
theorem kw_194 : (Cond.fieldLink "CellHandover$Mobile" (25 : Nat) "CellHandover$Mobile" "requestCell" "I") ∈ ch_GL := ch_c1 194 rfl rfl
theorem kw_195 : (Cond.fieldLink "CellHandover$Simulator" (168 : Nat) "CellHandover$Mobile" "requestCell" "I") ∈ ch_GL := ch_c1 195 rfl rfl
theorem kw_196 : (Cond.fieldLink "CellHandover$Network" (144 : Nat) "CellHandover$Mobile" "requestCell" "I") ∈ ch_GL := ch_c1 196 rfl rfl
theorem kw_197 : (Cond.fieldLink "CellHandover" (196 : Nat) "CellHandover$Mobile" "requestCell" "I") ∈ ch_GL := ch_c1 197 rfl rfl
theorem kw_198 : (Cond.fieldLink "CellHandover$Mobile" (52 : Nat) "CellHandover$Mobile" "requestTick" "I") ∈ ch_GL := ch_c1 198 rfl rfl
theorem kw_199 : (Cond.fieldLink "CellHandover$Simulator" (192 : Nat) "CellHandover$Mobile" "requestTick" "I") ∈ ch_GL := ch_c1 199 rfl rfl
theorem kw_200 : (Cond.fieldLink "CellHandover$Network" (160 : Nat) "CellHandover$Mobile" "requestTick" "I") ∈ ch_GL := ch_c1 200 rfl rfl
theorem kw_201 : (Cond.fieldLink "CellHandover$Mobile" (9 : Nat) "CellHandover$Mobile" "levels" "[I") ∈ ch_GL := ch_c1 201 rfl rfl
theorem kw_202 : (Cond.fieldLink "CellHandover$Mobile" (15 : Nat) "CellHandover$Mobile" "reportCounts" "[I") ∈ ch_GL := ch_c1 202 rfl rfl
theorem kw_203 : (Cond.fieldLink "CellHandover$Mobile" (18 : Nat) "CellHandover$Mobile" "barredUntil" "[I") ∈ ch_GL := ch_c1 203 rfl rfl
theorem kw_204 : (Cond.lays "CellHandover$Mobile" "CellHandover$Mobile" "x" "I") ∈ ch_GL := ch_c1 204 rfl rfl
theorem kw_205 : (Cond.soleField "CellHandover$Mobile" "x") ∈ ch_GL := ch_c1 205 rfl rfl
theorem kw_206 : (Cond.lays "CellHandover$Mobile" "CellHandover$Mobile" "y" "I") ∈ ch_GL := ch_c1 206 rfl rfl
theorem kw_207 : (Cond.soleField "CellHandover$Mobile" "y") ∈ ch_GL := ch_c1 207 rfl rfl
theorem kw_208 : (Cond.lays "CellHandover$Mobile" "CellHandover$Mobile" "vx" "I") ∈ ch_GL := ch_c1 208 rfl rfl
theorem kw_209 : (Cond.soleField "CellHandover$Mobile" "vx") ∈ ch_GL := ch_c1 209 rfl rfl
theorem kw_210 : (Cond.lays "CellHandover$Mobile" "CellHandover$Mobile" "vy" "I") ∈ ch_GL := ch_c1 210 rfl rfl
theorem kw_211 : (Cond.soleField "CellHandover$Mobile" "vy") ∈ ch_GL := ch_c1 211 rfl rfl
theorem kw_212 : (Cond.lays "CellHandover$Mobile" "CellHandover$Mobile" "state" "I") ∈ ch_GL := ch_c1 212 rfl rfl
theorem kw_213 : (Cond.soleField "CellHandover$Mobile" "state") ∈ ch_GL := ch_c1 213 rfl rfl
theorem kw_214 : (Cond.lays "CellHandover$Mobile" "CellHandover$Mobile" "serving" "I") ∈ ch_GL := ch_c1 214 rfl rfl
theorem kw_215 : (Cond.soleField "CellHandover$Mobile" "serving") ∈ ch_GL := ch_c1 215 rfl rfl
theorem kw_216 : (Cond.lays "CellHandover$Mobile" "CellHandover$Mobile" "remaining" "I") ∈ ch_GL := ch_c1 216 rfl rfl
theorem kw_217 : (Cond.soleField "CellHandover$Mobile" "remaining") ∈ ch_GL := ch_c1 217 rfl rfl
theorem kw_218 : (Cond.lays "CellHandover$Mobile" "CellHandover$Mobile" "badTicks" "I") ∈ ch_GL := ch_c1 218 rfl rfl
theorem kw_219 : (Cond.soleField "CellHandover$Mobile" "badTicks") ∈ ch_GL := ch_c1 219 rfl rfl
theorem kw_220 : (Cond.lays "CellHandover$Mobile" "CellHandover$Mobile" "requestCell" "I") ∈ ch_GL := ch_c1 220 rfl rfl
theorem kw_221 : (Cond.soleField "CellHandover$Mobile" "requestCell") ∈ ch_GL := ch_c1 221 rfl rfl
theorem kw_222 : (Cond.lays "CellHandover$Mobile" "CellHandover$Mobile" "requestTick" "I") ∈ ch_GL := ch_c1 222 rfl rfl
theorem kw_223 : (Cond.soleField "CellHandover$Mobile" "requestTick") ∈ ch_GL := ch_c1 223 rfl rfl
theorem kw_224 : (Cond.laysFinal "CellHandover$Mobile" "CellHandover$Mobile" "levels" "[I") ∈ ch_GL := ch_c1 224 rfl rfl
theorem kw_225 : (Cond.soleField "CellHandover$Mobile" "levels") ∈ ch_GL := ch_c1 225 rfl rfl
theorem kw_226 : (Cond.laysFinal "CellHandover$Mobile" "CellHandover$Mobile" "reportCounts" "[I") ∈ ch_GL := ch_c1 226 rfl rfl
theorem kw_227 : (Cond.soleField "CellHandover$Mobile" "reportCounts") ∈ ch_GL := ch_c1 227 rfl rfl
theorem kw_228 : (Cond.laysFinal "CellHandover$Mobile" "CellHandover$Mobile" "barredUntil" "[I") ∈ ch_GL := ch_c1 228 rfl rfl
theorem kw_229 : (Cond.soleField "CellHandover$Mobile" "barredUntil") ∈ ch_GL := ch_c1 229 rfl rfl
theorem kw_230 : (Cond.superclass "CellHandover$Mobile" "java/lang/Object") ∈ ch_GL := ch_c1 230 rfl rfl
theorem kw_231 : (Cond.methodLink "CellHandover$Network" (48 : Nat) ({ cls := "CellHandover$Network", name := "setDefaults", desc := "()V" } : MethodName)) ∈ ch_GL := ch_c1 231 rfl rfl
theorem kb_232 : (Cond.privateMethod ({ cls := "CellHandover$Network", name := "setDefaults", desc := "()V" } : MethodName)) ∈ lw_tbl := ch_b1 232 rfl
theorem kw_233 : (Cond.instanceMethod ({ cls := "CellHandover$Network", name := "setDefaults", desc := "()V" } : MethodName)) ∈ ch_GL := ch_c1 233 rfl rfl
theorem kw_234 : (Cond.code ({ cls := "CellHandover$Network", name := "setDefaults", desc := "()V" } : MethodName) prog_5_method_2_code (1 : Nat) (Option.none : Option FieldType)) ∈ ch_GL := ch_c1 234 rfl rfl
theorem kw_235 : (Cond.fieldLink "CellHandover$Ranking" (46 : Nat) "CellHandover$Network" "cellCount" "I") ∈ ch_GL := ch_c1 235 rfl rfl
theorem kw_236 : (Cond.fieldLink "CellHandover" (90 : Nat) "CellHandover$Network" "cellCount" "I") ∈ ch_GL := ch_c1 236 rfl rfl
theorem kw_237 : (Cond.fieldLink "CellHandover$NetworkReader" (62 : Nat) "CellHandover$Network" "cellCount" "I") ∈ ch_GL := ch_c1 237 rfl rfl
theorem kw_238 : (Cond.fieldLink "CellHandover$Simulator" (93 : Nat) "CellHandover$Network" "cellCount" "I") ∈ ch_GL := ch_c1 238 rfl rfl
theorem kw_239 : (Cond.fieldLink "CellHandover$Network" (70 : Nat) "CellHandover$Network" "cellCount" "I") ∈ ch_GL := ch_c1 239 rfl rfl
theorem kw_240 : (Cond.fieldLink "CellHandover$NetworkReader" (106 : Nat) "CellHandover$Network" "relationCount" "I") ∈ ch_GL := ch_c2 0 rfl rfl
theorem kw_241 : (Cond.fieldLink "CellHandover$Network" (73 : Nat) "CellHandover$Network" "relationCount" "I") ∈ ch_GL := ch_c2 1 rfl rfl
theorem kw_242 : (Cond.fieldLink "CellHandover$Simulator" (61 : Nat) "CellHandover$Network" "mobileCount" "I") ∈ ch_GL := ch_c2 2 rfl rfl
theorem kw_243 : (Cond.fieldLink "CellHandover" (99 : Nat) "CellHandover$Network" "mobileCount" "I") ∈ ch_GL := ch_c2 3 rfl rfl
theorem kw_244 : (Cond.fieldLink "CellHandover$Network" (76 : Nat) "CellHandover$Network" "mobileCount" "I") ∈ ch_GL := ch_c2 4 rfl rfl
theorem kw_245 : (Cond.fieldLink "CellHandover$Simulator" (43 : Nat) "CellHandover$Network" "clock" "I") ∈ ch_GL := ch_c2 5 rfl rfl
theorem kw_246 : (Cond.fieldLink "CellHandover$Ranking" (72 : Nat) "CellHandover$Network" "clock" "I") ∈ ch_GL := ch_c2 6 rfl rfl
theorem kw_247 : (Cond.fieldLink "CellHandover" (102 : Nat) "CellHandover$Network" "clock" "I") ∈ ch_GL := ch_c2 7 rfl rfl
theorem kw_248 : (Cond.fieldLink "CellHandover$Network" (79 : Nat) "CellHandover$Network" "clock" "I") ∈ ch_GL := ch_c2 8 rfl rfl
theorem kw_249 : (Cond.fieldLink "CellHandover$Network" (51 : Nat) "CellHandover$Network" "window" "I") ∈ ch_GL := ch_c2 9 rfl rfl
theorem kw_250 : (Cond.fieldLink "CellHandover$NetworkReader" (125 : Nat) "CellHandover$Network" "window" "I") ∈ ch_GL := ch_c2 10 rfl rfl
theorem kw_251 : (Cond.fieldLink "CellHandover$Simulator" (118 : Nat) "CellHandover$Network" "window" "I") ∈ ch_GL := ch_c2 11 rfl rfl
theorem kw_252 : (Cond.fieldLink "CellHandover$Network" (55 : Nat) "CellHandover$Network" "minReports" "I") ∈ ch_GL := ch_c2 12 rfl rfl
theorem kw_253 : (Cond.fieldLink "CellHandover$Ranking" (69 : Nat) "CellHandover$Network" "minReports" "I") ∈ ch_GL := ch_c2 13 rfl rfl
theorem kw_254 : (Cond.fieldLink "CellHandover$NetworkReader" (128 : Nat) "CellHandover$Network" "minReports" "I") ∈ ch_GL := ch_c2 14 rfl rfl
theorem kw_255 : (Cond.fieldLink "CellHandover$Network" (58 : Nat) "CellHandover$Network" "pingPongTime" "I") ∈ ch_GL := ch_c2 15 rfl rfl
theorem kw_256 : (Cond.fieldLink "CellHandover$NetworkReader" (131 : Nat) "CellHandover$Network" "pingPongTime" "I") ∈ ch_GL := ch_c2 16 rfl rfl
theorem kw_257 : (Cond.fieldLink "CellHandover$Network" (61 : Nat) "CellHandover$Network" "queueTime" "I") ∈ ch_GL := ch_c2 17 rfl rfl
theorem kw_258 : (Cond.fieldLink "CellHandover$NetworkReader" (134 : Nat) "CellHandover$Network" "queueTime" "I") ∈ ch_GL := ch_c2 18 rfl rfl
theorem kw_259 : (Cond.fieldLink "CellHandover$Simulator" (195 : Nat) "CellHandover$Network" "queueTime" "I") ∈ ch_GL := ch_c2 19 rfl rfl
theorem kw_260 : (Cond.fieldLink "CellHandover$Network" (64 : Nat) "CellHandover$Network" "dropLevel" "I") ∈ ch_GL := ch_c2 20 rfl rfl
theorem kw_261 : (Cond.fieldLink "CellHandover$NetworkReader" (137 : Nat) "CellHandover$Network" "dropLevel" "I") ∈ ch_GL := ch_c2 21 rfl rfl
theorem kw_262 : (Cond.fieldLink "CellHandover$Simulator" (141 : Nat) "CellHandover$Network" "dropLevel" "I") ∈ ch_GL := ch_c2 22 rfl rfl
theorem kw_263 : (Cond.fieldLink "CellHandover$Network" (67 : Nat) "CellHandover$Network" "dropTime" "I") ∈ ch_GL := ch_c2 23 rfl rfl
theorem kw_264 : (Cond.fieldLink "CellHandover$NetworkReader" (140 : Nat) "CellHandover$Network" "dropTime" "I") ∈ ch_GL := ch_c2 24 rfl rfl
theorem kw_265 : (Cond.fieldLink "CellHandover$Simulator" (147 : Nat) "CellHandover$Network" "dropTime" "I") ∈ ch_GL := ch_c2 25 rfl rfl
theorem kw_266 : (Cond.fieldLink "CellHandover$Network" (11 : Nat) "CellHandover$Network" "cells" "[LCellHandover$Cell;") ∈ ch_GL := ch_c2 26 rfl rfl
theorem kw_267 : (Cond.fieldLink "CellHandover$Network" (19 : Nat) "CellHandover$Network" "relations" "[LCellHandover$Relation;") ∈ ch_GL := ch_c2 27 rfl rfl
theorem kw_268 : (Cond.fieldLink "CellHandover$Network" (25 : Nat) "CellHandover$Network" "mobiles" "[LCellHandover$Mobile;") ∈ ch_GL := ch_c2 28 rfl rfl
theorem kw_269 : (Cond.fieldLink "CellHandover$Network" (29 : Nat) "CellHandover$Network" "totals" "[I") ∈ ch_GL := ch_c2 29 rfl rfl
theorem kw_270 : (Cond.fieldLink "CellHandover$Network" (34 : Nat) "CellHandover$Network" "noCell" "LCellHandover$Cell;") ∈ ch_GL := ch_c2 30 rfl rfl
theorem kw_271 : (Cond.fieldLink "CellHandover$Network" (39 : Nat) "CellHandover$Network" "noRelation" "LCellHandover$Relation;") ∈ ch_GL := ch_c2 31 rfl rfl
theorem kw_272 : (Cond.fieldLink "CellHandover$Network" (44 : Nat) "CellHandover$Network" "noMobile" "LCellHandover$Mobile;") ∈ ch_GL := ch_c2 32 rfl rfl
theorem kw_273 : (Cond.lays "CellHandover$Network" "CellHandover$Network" "cellCount" "I") ∈ ch_GL := ch_c2 33 rfl rfl
theorem kw_274 : (Cond.soleField "CellHandover$Network" "cellCount") ∈ ch_GL := ch_c2 34 rfl rfl
theorem kw_275 : (Cond.lays "CellHandover$Network" "CellHandover$Network" "relationCount" "I") ∈ ch_GL := ch_c2 35 rfl rfl
theorem kw_276 : (Cond.soleField "CellHandover$Network" "relationCount") ∈ ch_GL := ch_c2 36 rfl rfl
theorem kw_277 : (Cond.lays "CellHandover$Network" "CellHandover$Network" "mobileCount" "I") ∈ ch_GL := ch_c2 37 rfl rfl
theorem kw_278 : (Cond.soleField "CellHandover$Network" "mobileCount") ∈ ch_GL := ch_c2 38 rfl rfl
theorem kw_279 : (Cond.lays "CellHandover$Network" "CellHandover$Network" "clock" "I") ∈ ch_GL := ch_c2 39 rfl rfl
theorem kw_280 : (Cond.soleField "CellHandover$Network" "clock") ∈ ch_GL := ch_c2 40 rfl rfl
theorem kw_281 : (Cond.lays "CellHandover$Network" "CellHandover$Network" "window" "I") ∈ ch_GL := ch_c2 41 rfl rfl
theorem kw_282 : (Cond.soleField "CellHandover$Network" "window") ∈ ch_GL := ch_c2 42 rfl rfl
theorem kw_283 : (Cond.lays "CellHandover$Network" "CellHandover$Network" "minReports" "I") ∈ ch_GL := ch_c2 43 rfl rfl
theorem kw_284 : (Cond.soleField "CellHandover$Network" "minReports") ∈ ch_GL := ch_c2 44 rfl rfl
theorem kw_285 : (Cond.lays "CellHandover$Network" "CellHandover$Network" "pingPongTime" "I") ∈ ch_GL := ch_c2 45 rfl rfl
theorem kw_286 : (Cond.soleField "CellHandover$Network" "pingPongTime") ∈ ch_GL := ch_c2 46 rfl rfl
theorem kw_287 : (Cond.lays "CellHandover$Network" "CellHandover$Network" "queueTime" "I") ∈ ch_GL := ch_c2 47 rfl rfl
theorem kw_288 : (Cond.soleField "CellHandover$Network" "queueTime") ∈ ch_GL := ch_c2 48 rfl rfl
theorem kw_289 : (Cond.lays "CellHandover$Network" "CellHandover$Network" "dropLevel" "I") ∈ ch_GL := ch_c2 49 rfl rfl
theorem kw_290 : (Cond.soleField "CellHandover$Network" "dropLevel") ∈ ch_GL := ch_c2 50 rfl rfl
theorem kw_291 : (Cond.lays "CellHandover$Network" "CellHandover$Network" "dropTime" "I") ∈ ch_GL := ch_c2 51 rfl rfl
theorem kw_292 : (Cond.soleField "CellHandover$Network" "dropTime") ∈ ch_GL := ch_c2 52 rfl rfl
theorem kw_293 : (Cond.laysFinal "CellHandover$Network" "CellHandover$Network" "cells" "[LCellHandover$Cell;") ∈ ch_GL := ch_c2 53 rfl rfl
theorem kw_294 : (Cond.soleField "CellHandover$Network" "cells") ∈ ch_GL := ch_c2 54 rfl rfl
theorem kw_295 : (Cond.laysFinal "CellHandover$Network" "CellHandover$Network" "relations" "[LCellHandover$Relation;") ∈ ch_GL := ch_c2 55 rfl rfl
theorem kw_296 : (Cond.soleField "CellHandover$Network" "relations") ∈ ch_GL := ch_c2 56 rfl rfl
theorem kw_297 : (Cond.laysFinal "CellHandover$Network" "CellHandover$Network" "mobiles" "[LCellHandover$Mobile;") ∈ ch_GL := ch_c2 57 rfl rfl
theorem kw_298 : (Cond.soleField "CellHandover$Network" "mobiles") ∈ ch_GL := ch_c2 58 rfl rfl
theorem kw_299 : (Cond.laysFinal "CellHandover$Network" "CellHandover$Network" "totals" "[I") ∈ ch_GL := ch_c2 59 rfl rfl
theorem kw_300 : (Cond.soleField "CellHandover$Network" "totals") ∈ ch_GL := ch_c2 60 rfl rfl
theorem kw_301 : (Cond.laysFinal "CellHandover$Network" "CellHandover$Network" "noCell" "LCellHandover$Cell;") ∈ ch_GL := ch_c2 61 rfl rfl
theorem kw_302 : (Cond.soleField "CellHandover$Network" "noCell") ∈ ch_GL := ch_c2 62 rfl rfl
theorem kw_303 : (Cond.laysFinal "CellHandover$Network" "CellHandover$Network" "noRelation" "LCellHandover$Relation;") ∈ ch_GL := ch_c2 63 rfl rfl
theorem kw_304 : (Cond.soleField "CellHandover$Network" "noRelation") ∈ ch_GL := ch_c2 64 rfl rfl
theorem kw_305 : (Cond.laysFinal "CellHandover$Network" "CellHandover$Network" "noMobile" "LCellHandover$Mobile;") ∈ ch_GL := ch_c2 65 rfl rfl
theorem kw_306 : (Cond.soleField "CellHandover$Network" "noMobile") ∈ ch_GL := ch_c2 66 rfl rfl
theorem kw_307 : (Cond.superclass "CellHandover$Network" "java/lang/Object") ∈ ch_GL := ch_c2 67 rfl rfl
theorem kw_308 : (Cond.classLink "CellHandover" (29 : Nat) "CellHandover$History") ∈ ch_GL := ch_c2 68 rfl rfl
theorem kw_309 : (Cond.instantiable "CellHandover$History" (3 : Nat)) ∈ ch_GL := ch_c2 69 rfl rfl
theorem kw_310 : (Cond.methodLink "CellHandover" (31 : Nat) ({ cls := "CellHandover$History", name := "<init>", desc := "()V" } : MethodName)) ∈ ch_GL := ch_c2 70 rfl rfl
theorem kw_311 : (Cond.instanceMethod ({ cls := "CellHandover$History", name := "<init>", desc := "()V" } : MethodName)) ∈ ch_GL := ch_c2 71 rfl rfl
theorem kw_312 : (Cond.code ({ cls := "CellHandover$History", name := "<init>", desc := "()V" } : MethodName) prog_3_method_1_code (2 : Nat) (Option.none : Option FieldType)) ∈ ch_GL := ch_c2 72 rfl rfl
theorem kw_313 : (Cond.methodLink "CellHandover$History" (3 : Nat) ({ cls := "java/lang/Object", name := "<init>", desc := "()V" } : MethodName)) ∈ ch_GL := ch_c2 73 rfl rfl
theorem kw_314 : (Cond.classLink "CellHandover$History" (9 : Nat) "CellHandover$Network") ∈ ch_GL := ch_c2 74 rfl rfl
theorem kb_315 : (Cond.arrayOver (FieldType.object "CellHandover$Network")) ∈ lw_tbl := ch_b2 75 rfl
theorem kw_316 : (Cond.methodLink "CellHandover$History" (17 : Nat) ({ cls := "CellHandover$Network", name := "<init>", desc := "()V" } : MethodName)) ∈ ch_GL := ch_c2 76 rfl rfl
theorem kw_317 : (Cond.fieldLink "CellHandover$History" (18 : Nat) "CellHandover$History" "count" "I") ∈ ch_GL := ch_c2 77 rfl rfl
theorem kw_318 : (Cond.fieldLink "CellHandover" (234 : Nat) "CellHandover$History" "count" "I") ∈ ch_GL := ch_c2 78 rfl rfl
theorem kw_319 : (Cond.fieldLink "CellHandover$History" (22 : Nat) "CellHandover$History" "next" "I") ∈ ch_GL := ch_c2 79 rfl rfl
theorem kw_320 : (Cond.fieldLink "CellHandover$History" (11 : Nat) "CellHandover$History" "states" "[LCellHandover$Network;") ∈ ch_GL := ch_c2 80 rfl rfl
theorem kw_321 : (Cond.lays "CellHandover$History" "CellHandover$History" "count" "I") ∈ ch_GL := ch_c2 81 rfl rfl
theorem kw_322 : (Cond.soleField "CellHandover$History" "count") ∈ ch_GL := ch_c2 82 rfl rfl
theorem kw_323 : (Cond.lays "CellHandover$History" "CellHandover$History" "next" "I") ∈ ch_GL := ch_c2 83 rfl rfl
theorem kw_324 : (Cond.soleField "CellHandover$History" "next") ∈ ch_GL := ch_c2 84 rfl rfl
theorem kw_325 : (Cond.laysFinal "CellHandover$History" "CellHandover$History" "states" "[LCellHandover$Network;") ∈ ch_GL := ch_c2 85 rfl rfl
theorem kw_326 : (Cond.soleField "CellHandover$History" "states") ∈ ch_GL := ch_c2 86 rfl rfl
theorem kw_327 : (Cond.superclass "CellHandover$History" "java/lang/Object") ∈ ch_GL := ch_c2 87 rfl rfl
theorem kw_328 : (Cond.classLink "CellHandover" (36 : Nat) "CellHandover$Simulator") ∈ ch_GL := ch_c2 88 rfl rfl
theorem kw_329 : (Cond.instantiable "CellHandover$Simulator" (1 : Nat)) ∈ ch_GL := ch_c2 89 rfl rfl
theorem kb_330 : (Cond.methodLinkNest "CellHandover" (38 : Nat) ({ cls := "CellHandover$Simulator", name := "<init>", desc := "()V" } : MethodName) "CellHandover") ∈ lw_tbl := ch_b2 90 rfl
theorem kw_331 : (Cond.instanceMethod ({ cls := "CellHandover$Simulator", name := "<init>", desc := "()V" } : MethodName)) ∈ ch_GL := ch_c2 91 rfl rfl
theorem kw_332 : (Cond.code ({ cls := "CellHandover$Simulator", name := "<init>", desc := "()V" } : MethodName) prog_10_method_1_code (1 : Nat) (Option.none : Option FieldType)) ∈ ch_GL := ch_c2 92 rfl rfl
theorem kw_333 : (Cond.methodLink "CellHandover$Simulator" (3 : Nat) ({ cls := "java/lang/Object", name := "<init>", desc := "()V" } : MethodName)) ∈ ch_GL := ch_c2 93 rfl rfl
theorem kw_334 : (Cond.classLink "CellHandover$Simulator" (9 : Nat) "CellHandover$Ranking") ∈ ch_GL := ch_c2 94 rfl rfl
theorem kw_335 : (Cond.instantiable "CellHandover$Ranking" (4 : Nat)) ∈ ch_GL := ch_c2 95 rfl rfl
theorem kb_336 : (Cond.methodLinkNest "CellHandover$Simulator" (11 : Nat) ({ cls := "CellHandover$Ranking", name := "<init>", desc := "()V" } : MethodName) "CellHandover") ∈ lw_tbl := ch_b2 96 rfl
theorem kw_337 : (Cond.instanceMethod ({ cls := "CellHandover$Ranking", name := "<init>", desc := "()V" } : MethodName)) ∈ ch_GL := ch_c2 97 rfl rfl
theorem kw_338 : (Cond.code ({ cls := "CellHandover$Ranking", name := "<init>", desc := "()V" } : MethodName) prog_8_method_1_code (1 : Nat) (Option.none : Option FieldType)) ∈ ch_GL := ch_c2 98 rfl rfl
theorem kw_339 : (Cond.methodLink "CellHandover$Ranking" (3 : Nat) ({ cls := "java/lang/Object", name := "<init>", desc := "()V" } : MethodName)) ∈ ch_GL := ch_c2 99 rfl rfl
theorem kw_340 : (Cond.fieldLink "CellHandover$Ranking" (18 : Nat) "CellHandover$Ranking" "count" "I") ∈ ch_GL := ch_c2 100 rfl rfl
theorem kw_341 : (Cond.fieldLink "CellHandover$Simulator" (174 : Nat) "CellHandover$Ranking" "count" "I") ∈ ch_GL := ch_c2 101 rfl rfl
theorem kw_342 : (Cond.fieldLink "CellHandover$Ranking" (22 : Nat) "CellHandover$Ranking" "emergency" "Z") ∈ ch_GL := ch_c2 102 rfl rfl
theorem kw_343 : (Cond.fieldLink "CellHandover$Simulator" (179 : Nat) "CellHandover$Ranking" "emergency" "Z") ∈ ch_GL := ch_c2 103 rfl rfl
theorem kw_344 : (Cond.fieldLink "CellHandover$Ranking" (9 : Nat) "CellHandover$Ranking" "cells" "[I") ∈ ch_GL := ch_c2 104 rfl rfl
theorem kw_345 : (Cond.fieldLink "CellHandover$Ranking" (15 : Nat) "CellHandover$Ranking" "margins" "[I") ∈ ch_GL := ch_c2 105 rfl rfl
theorem kw_346 : (Cond.lays "CellHandover$Ranking" "CellHandover$Ranking" "count" "I") ∈ ch_GL := ch_c2 106 rfl rfl
theorem kw_347 : (Cond.soleField "CellHandover$Ranking" "count") ∈ ch_GL := ch_c2 107 rfl rfl
theorem kw_348 : (Cond.lays "CellHandover$Ranking" "CellHandover$Ranking" "emergency" "Z") ∈ ch_GL := ch_c2 108 rfl rfl
theorem kw_349 : (Cond.soleField "CellHandover$Ranking" "emergency") ∈ ch_GL := ch_c2 109 rfl rfl
theorem kw_350 : (Cond.laysFinal "CellHandover$Ranking" "CellHandover$Ranking" "cells" "[I") ∈ ch_GL := ch_c2 110 rfl rfl
theorem kw_351 : (Cond.soleField "CellHandover$Ranking" "cells") ∈ ch_GL := ch_c2 111 rfl rfl
theorem kw_352 : (Cond.laysFinal "CellHandover$Ranking" "CellHandover$Ranking" "margins" "[I") ∈ ch_GL := ch_c2 112 rfl rfl
theorem kw_353 : (Cond.soleField "CellHandover$Ranking" "margins") ∈ ch_GL := ch_c2 113 rfl rfl
theorem kw_354 : (Cond.superclass "CellHandover$Ranking" "java/lang/Object") ∈ ch_GL := ch_c2 114 rfl rfl
theorem kw_355 : (Cond.fieldLink "CellHandover$Simulator" (12 : Nat) "CellHandover$Simulator" "ranking" "LCellHandover$Ranking;") ∈ ch_GL := ch_c2 115 rfl rfl
theorem kw_356 : (Cond.laysFinal "CellHandover$Simulator" "CellHandover$Simulator" "ranking" "LCellHandover$Ranking;") ∈ ch_GL := ch_c2 116 rfl rfl
theorem kw_357 : (Cond.soleField "CellHandover$Simulator" "ranking") ∈ ch_GL := ch_c2 117 rfl rfl
theorem kw_358 : (Cond.superclass "CellHandover$Simulator" "java/lang/Object") ∈ ch_GL := ch_c2 118 rfl rfl
theorem kw_359 : (Cond.classLink "CellHandover" (43 : Nat) "CellHandover$Survey") ∈ ch_GL := ch_c2 119 rfl rfl
theorem kw_360 : (Cond.instantiable "CellHandover$Survey" (1 : Nat)) ∈ ch_GL := ch_c2 120 rfl rfl
theorem kb_361 : (Cond.methodLinkNest "CellHandover" (45 : Nat) ({ cls := "CellHandover$Survey", name := "<init>", desc := "()V" } : MethodName) "CellHandover") ∈ lw_tbl := ch_b2 121 rfl
theorem kw_362 : (Cond.instanceMethod ({ cls := "CellHandover$Survey", name := "<init>", desc := "()V" } : MethodName)) ∈ ch_GL := ch_c2 122 rfl rfl
theorem kw_363 : (Cond.code ({ cls := "CellHandover$Survey", name := "<init>", desc := "()V" } : MethodName) prog_11_method_1_code (1 : Nat) (Option.none : Option FieldType)) ∈ ch_GL := ch_c2 123 rfl rfl
theorem kw_364 : (Cond.methodLink "CellHandover$Survey" (3 : Nat) ({ cls := "java/lang/Object", name := "<init>", desc := "()V" } : MethodName)) ∈ ch_GL := ch_c2 124 rfl rfl
theorem kw_365 : (Cond.fieldLink "CellHandover$Survey" (9 : Nat) "CellHandover$Survey" "nearPoints" "[I") ∈ ch_GL := ch_c2 125 rfl rfl
theorem kw_366 : (Cond.laysFinal "CellHandover$Survey" "CellHandover$Survey" "nearPoints" "[I") ∈ ch_GL := ch_c2 126 rfl rfl
theorem kw_367 : (Cond.soleField "CellHandover$Survey" "nearPoints") ∈ ch_GL := ch_c2 127 rfl rfl
theorem kw_368 : (Cond.superclass "CellHandover$Survey" "java/lang/Object") ∈ ch_GL := ch_c2 128 rfl rfl
theorem kw_369 : (Cond.fieldLink "CellHandover" (10 : Nat) "CellHandover" "text" "LCellHandover$Text;") ∈ ch_GL := ch_c2 129 rfl rfl
theorem kw_370 : (Cond.fieldLink "CellHandover" (19 : Nat) "CellHandover" "now" "LCellHandover$Network;") ∈ ch_GL := ch_c2 130 rfl rfl
theorem kw_371 : (Cond.fieldLink "CellHandover" (23 : Nat) "CellHandover" "trial" "LCellHandover$Network;") ∈ ch_GL := ch_c2 131 rfl rfl
theorem kw_372 : (Cond.fieldLink "CellHandover" (26 : Nat) "CellHandover" "snapshot" "LCellHandover$Network;") ∈ ch_GL := ch_c2 132 rfl rfl
theorem kw_373 : (Cond.fieldLink "CellHandover" (32 : Nat) "CellHandover" "history" "LCellHandover$History;") ∈ ch_GL := ch_c2 133 rfl rfl
theorem kw_374 : (Cond.fieldLink "CellHandover" (39 : Nat) "CellHandover" "simulator" "LCellHandover$Simulator;") ∈ ch_GL := ch_c2 134 rfl rfl
theorem kw_375 : (Cond.fieldLink "CellHandover" (46 : Nat) "CellHandover" "survey" "LCellHandover$Survey;") ∈ ch_GL := ch_c2 135 rfl rfl
theorem kw_376 : (Cond.fieldLink "CellHandover" (50 : Nat) "CellHandover" "hasSnapshot" "Z") ∈ ch_GL := ch_c2 136 rfl rfl
theorem kw_377 : (Cond.laysFinal "CellHandover" "CellHandover" "text" "LCellHandover$Text;") ∈ ch_GL := ch_c2 137 rfl rfl
theorem kw_378 : (Cond.soleField "CellHandover" "text") ∈ ch_GL := ch_c2 138 rfl rfl
theorem kw_379 : (Cond.laysFinal "CellHandover" "CellHandover" "now" "LCellHandover$Network;") ∈ ch_GL := ch_c2 139 rfl rfl
theorem kw_380 : (Cond.soleField "CellHandover" "now") ∈ ch_GL := ch_c2 140 rfl rfl
theorem kw_381 : (Cond.laysFinal "CellHandover" "CellHandover" "trial" "LCellHandover$Network;") ∈ ch_GL := ch_c2 141 rfl rfl
theorem kw_382 : (Cond.soleField "CellHandover" "trial") ∈ ch_GL := ch_c2 142 rfl rfl
theorem kw_383 : (Cond.laysFinal "CellHandover" "CellHandover" "snapshot" "LCellHandover$Network;") ∈ ch_GL := ch_c2 143 rfl rfl
theorem kw_384 : (Cond.soleField "CellHandover" "snapshot") ∈ ch_GL := ch_c2 144 rfl rfl
theorem kw_385 : (Cond.laysFinal "CellHandover" "CellHandover" "history" "LCellHandover$History;") ∈ ch_GL := ch_c2 145 rfl rfl
theorem kw_386 : (Cond.soleField "CellHandover" "history") ∈ ch_GL := ch_c2 146 rfl rfl
theorem kw_387 : (Cond.laysFinal "CellHandover" "CellHandover" "simulator" "LCellHandover$Simulator;") ∈ ch_GL := ch_c2 147 rfl rfl
theorem kw_388 : (Cond.soleField "CellHandover" "simulator") ∈ ch_GL := ch_c2 148 rfl rfl
theorem kw_389 : (Cond.laysFinal "CellHandover" "CellHandover" "survey" "LCellHandover$Survey;") ∈ ch_GL := ch_c2 149 rfl rfl
theorem kw_390 : (Cond.soleField "CellHandover" "survey") ∈ ch_GL := ch_c2 150 rfl rfl
theorem kw_391 : (Cond.lays "CellHandover" "CellHandover" "hasSnapshot" "Z") ∈ ch_GL := ch_c2 151 rfl rfl
theorem kw_392 : (Cond.soleField "CellHandover" "hasSnapshot") ∈ ch_GL := ch_c2 152 rfl rfl
theorem kw_393 : (Cond.superclass "CellHandover" "java/lang/Object") ∈ ch_GL := ch_c2 153 rfl rfl
theorem kw_394 : (Cond.methodLink "CellHandoverLaw" (102 : Nat) ({ cls := "CellHandover", name := "mobileCount", desc := "()I" } : MethodName)) ∈ ch_GL := ch_c2 154 rfl rfl
theorem kw_395 : (Cond.instanceMethod ({ cls := "CellHandover", name := "mobileCount", desc := "()I" } : MethodName)) ∈ ch_GL := ch_c2 155 rfl rfl
theorem kw_396 : (Cond.selects "CellHandover" ({ cls := "CellHandover", name := "mobileCount", desc := "()I" } : MethodName) ({ cls := "CellHandover", name := "mobileCount", desc := "()I" } : MethodName)) ∈ ch_GL := ch_c2 156 rfl rfl
theorem kw_397 : (Cond.code ({ cls := "CellHandover", name := "mobileCount", desc := "()I" } : MethodName) prog_1_method_7_code (1 : Nat) (Option.some FieldType.int)) ∈ ch_GL := ch_c2 157 rfl rfl
theorem kw_398 : (Cond.methodLink "CellHandoverLaw" (108 : Nat) ({ cls := "CellHandover", name := "clock", desc := "()I" } : MethodName)) ∈ ch_GL := ch_c2 158 rfl rfl
theorem kw_399 : (Cond.instanceMethod ({ cls := "CellHandover", name := "clock", desc := "()I" } : MethodName)) ∈ ch_GL := ch_c2 159 rfl rfl
theorem kw_400 : (Cond.selects "CellHandover" ({ cls := "CellHandover", name := "clock", desc := "()I" } : MethodName) ({ cls := "CellHandover", name := "clock", desc := "()I" } : MethodName)) ∈ ch_GL := ch_c2 160 rfl rfl
theorem kw_401 : (Cond.code ({ cls := "CellHandover", name := "clock", desc := "()I" } : MethodName) prog_1_method_8_code (1 : Nat) (Option.some FieldType.int)) ∈ ch_GL := ch_c2 161 rfl rfl
theorem kw_402 : (Cond.methodLink "CellHandoverLaw" (245 : Nat) ({ cls := "CellHandover", name := "run", desc := "(I)I" } : MethodName)) ∈ ch_GL := ch_c2 162 rfl rfl
theorem kw_403 : (Cond.instanceMethod ({ cls := "CellHandover", name := "run", desc := "(I)I" } : MethodName)) ∈ ch_GL := ch_c2 163 rfl rfl
theorem kw_404 : (Cond.selects "CellHandover" ({ cls := "CellHandover", name := "run", desc := "(I)I" } : MethodName) ({ cls := "CellHandover", name := "run", desc := "(I)I" } : MethodName)) ∈ ch_GL := ch_c2 164 rfl rfl
theorem kw_405 : (Cond.code ({ cls := "CellHandover", name := "run", desc := "(I)I" } : MethodName) prog_1_method_19_code (3 : Nat) (Option.some FieldType.int)) ∈ ch_GL := ch_c2 165 rfl rfl
theorem kw_406 : (Cond.methodLink "CellHandover" (178 : Nat) ({ cls := "CellHandover", name := "requireTicks", desc := "(II)V" } : MethodName)) ∈ ch_GL := ch_c2 166 rfl rfl
theorem kb_407 : (Cond.privateMethod ({ cls := "CellHandover", name := "requireTicks", desc := "(II)V" } : MethodName)) ∈ lw_tbl := ch_b2 167 rfl
theorem kw_408 : (Cond.instanceMethod ({ cls := "CellHandover", name := "requireTicks", desc := "(II)V" } : MethodName)) ∈ ch_GL := ch_c2 168 rfl rfl
theorem kw_409 : (Cond.code ({ cls := "CellHandover", name := "requireTicks", desc := "(II)V" } : MethodName) prog_1_method_46_code (3 : Nat) (Option.none : Option FieldType)) ∈ ch_GL := ch_c2 169 rfl rfl
theorem kw_410 : (Cond.methodLink "CellHandover" (62 : Nat) ({ cls := "CellHandover", name := "requireRange", desc := "(III)V" } : MethodName)) ∈ ch_GL := ch_c2 170 rfl rfl
theorem kw_411 : (Cond.static ({ cls := "CellHandover", name := "requireRange", desc := "(III)V" } : MethodName)) ∈ ch_GL := ch_c2 171 rfl rfl
theorem kw_412 : (Cond.code ({ cls := "CellHandover", name := "requireRange", desc := "(III)V" } : MethodName) prog_1_method_48_code (3 : Nat) (Option.none : Option FieldType)) ∈ ch_GL := ch_c2 172 rfl rfl
theorem kw_413 : (Cond.classLink "CellHandover" (265 : Nat) "java/lang/IllegalArgumentException") ∈ ch_GL := ch_c2 173 rfl rfl
theorem kw_414 : (Cond.instantiable "java/lang/IllegalArgumentException" (6 : Nat)) ∈ ch_GL := ch_c2 174 rfl rfl
theorem kb_415 : (Cond.castable "java/lang/IllegalArgumentException" "java/lang/IllegalArgumentException") ∈ lw_tbl := ch_b2 175 rfl
theorem kb_416 : (Cond.declares ({ cls := "java/lang/RuntimeException", name := "<init>", desc := "()V" } : MethodName)) ∈ lw_tbl := ch_b2 176 rfl
theorem kb_417 : (Cond.declares ({ cls := "java/lang/RuntimeException", name := "<init>", desc := "(Ljava/lang/String;)V" } : MethodName)) ∈ lw_tbl := ch_b2 177 rfl
theorem kb_418 : (Cond.declares ({ cls := "java/lang/Exception", name := "<init>", desc := "()V" } : MethodName)) ∈ lw_tbl := ch_b2 178 rfl
theorem kb_419 : (Cond.declares ({ cls := "java/lang/Exception", name := "<init>", desc := "(Ljava/lang/String;)V" } : MethodName)) ∈ lw_tbl := ch_b2 179 rfl
theorem kb_420 : (Cond.declares ({ cls := "java/lang/Throwable", name := "<init>", desc := "()V" } : MethodName)) ∈ lw_tbl := ch_b2 180 rfl
theorem kb_421 : (Cond.declares ({ cls := "java/lang/Throwable", name := "<init>", desc := "(Ljava/lang/String;)V" } : MethodName)) ∈ lw_tbl := ch_b2 181 rfl
theorem kw_422 : (Cond.selects "java/lang/IllegalArgumentException" ({ cls := "java/lang/Throwable", name := "fillInStackTrace", desc := "(I)Ljava/lang/Throwable;" } : MethodName) ({ cls := "java/lang/Throwable", name := "fillInStackTrace", desc := "(I)Ljava/lang/Throwable;" } : MethodName)) ∈ ch_GL := ch_c2 182 rfl rfl
theorem kw_423 : (Cond.selects "java/lang/IllegalArgumentException" ({ cls := "java/lang/Throwable", name := "fillInStackTrace", desc := "()Ljava/lang/Throwable;" } : MethodName) ({ cls := "java/lang/Throwable", name := "fillInStackTrace", desc := "()Ljava/lang/Throwable;" } : MethodName)) ∈ ch_GL := ch_c2 183 rfl rfl
theorem kw_424 : (Cond.lays "java/lang/IllegalArgumentException" "java/lang/Throwable" "cause" "Ljava/lang/Throwable;") ∈ ch_GL := ch_c2 184 rfl rfl
theorem kw_425 : (Cond.lays "java/lang/Throwable" "java/lang/Throwable" "cause" "Ljava/lang/Throwable;") ∈ ch_GL := ch_c2 185 rfl rfl
theorem kw_426 : (Cond.lays "java/lang/IllegalArgumentException" "java/lang/Throwable" "stackTrace" "[Ljava/lang/StackTraceElement;") ∈ ch_GL := ch_c2 186 rfl rfl
theorem kw_427 : (Cond.lays "java/lang/Throwable" "java/lang/Throwable" "stackTrace" "[Ljava/lang/StackTraceElement;") ∈ ch_GL := ch_c2 187 rfl rfl
theorem kw_428 : (Cond.lays "java/lang/IllegalArgumentException" "java/lang/Throwable" "suppressedExceptions" "Ljava/util/List;") ∈ ch_GL := ch_c2 188 rfl rfl
theorem kw_429 : (Cond.lays "java/lang/Throwable" "java/lang/Throwable" "suppressedExceptions" "Ljava/util/List;") ∈ ch_GL := ch_c2 189 rfl rfl
theorem kw_430 : (Cond.lays "java/lang/IllegalArgumentException" "java/lang/Throwable" "detailMessage" "Ljava/lang/String;") ∈ ch_GL := ch_c2 190 rfl rfl
theorem kw_431 : (Cond.lays "java/lang/Throwable" "java/lang/Throwable" "detailMessage" "Ljava/lang/String;") ∈ ch_GL := ch_c2 191 rfl rfl
theorem kw_432 : (Cond.lays "java/lang/IllegalArgumentException" "java/lang/Throwable" "backtrace" "Ljava/lang/Object;") ∈ ch_GL := ch_c2 192 rfl rfl
theorem kw_433 : (Cond.lays "java/lang/Throwable" "java/lang/Throwable" "backtrace" "Ljava/lang/Object;") ∈ ch_GL := ch_c2 193 rfl rfl
theorem kw_434 : (Cond.fieldLink "java/lang/Throwable" (198 : Nat) "java/lang/Throwable" "backtrace" "Ljava/lang/Object;") ∈ ch_GL := ch_c2 194 rfl rfl
theorem kw_435 : (Cond.superclass "java/lang/Throwable" "java/lang/Object") ∈ ch_GL := ch_c2 195 rfl rfl
theorem kw_436 : (Cond.instanceMethod ({ cls := "java/lang/Throwable", name := "<init>", desc := "()V" } : MethodName)) ∈ ch_GL := ch_c2 196 rfl rfl
theorem kw_437 : (Cond.code ({ cls := "java/lang/Throwable", name := "<init>", desc := "()V" } : MethodName) prog_28_method_1_code (1 : Nat) (Option.none : Option FieldType)) ∈ ch_GL := ch_c2 197 rfl rfl
theorem kw_438 : (Cond.methodLink "java/lang/Throwable" (1 : Nat) ({ cls := "java/lang/Object", name := "<init>", desc := "()V" } : MethodName)) ∈ ch_GL := ch_c2 198 rfl rfl
theorem kw_439 : (Cond.fieldLink "java/lang/Throwable" (13 : Nat) "java/lang/Throwable" "UNASSIGNED_STACK" "[Ljava/lang/StackTraceElement;") ∈ ch_GL := ch_c2 199 rfl rfl
theorem kb_440 : (Cond.laysStatic "java/lang/Throwable" "UNASSIGNED_STACK" "[Ljava/lang/StackTraceElement;") ∈ lw_tbl := ch_b2 200 rfl
theorem kw_441 : (Cond.fieldLink "java/lang/Throwable" (20 : Nat) "java/lang/Throwable" "SUPPRESSED_SENTINEL" "Ljava/util/List;") ∈ ch_GL := ch_c2 201 rfl rfl
theorem kb_442 : (Cond.laysStatic "java/lang/Throwable" "SUPPRESSED_SENTINEL" "Ljava/util/List;") ∈ lw_tbl := ch_b2 202 rfl
theorem kw_443 : (Cond.methodLink "java/lang/Throwable" (27 : Nat) ({ cls := "java/lang/Throwable", name := "fillInStackTrace", desc := "()Ljava/lang/Throwable;" } : MethodName)) ∈ ch_GL := ch_c2 203 rfl rfl
theorem kw_444 : (Cond.instanceMethod ({ cls := "java/lang/Throwable", name := "fillInStackTrace", desc := "()Ljava/lang/Throwable;" } : MethodName)) ∈ ch_GL := ch_c2 204 rfl rfl
theorem kw_445 : (Cond.sameMethod "java/lang/Throwable" "java/lang/Throwable" "fillInStackTrace" "()Ljava/lang/Throwable;") ∈ ch_GL := ch_c2 205 rfl rfl
theorem kw_446 : (Cond.selects "java/util/NoSuchElementException" ({ cls := "java/lang/Throwable", name := "fillInStackTrace", desc := "()Ljava/lang/Throwable;" } : MethodName) ({ cls := "java/lang/Throwable", name := "fillInStackTrace", desc := "()Ljava/lang/Throwable;" } : MethodName)) ∈ ch_GL := ch_c2 206 rfl rfl
theorem kw_447 : (Cond.codeSync ({ cls := "java/lang/Throwable", name := "fillInStackTrace", desc := "()Ljava/lang/Throwable;" } : MethodName) prog_28_method_18_code (1 : Nat) (Option.some (FieldType.object "java/lang/Throwable"))) ∈ ch_GL := ch_c2 207 rfl rfl
theorem kw_448 : (Cond.methodLink "java/lang/Throwable" (202 : Nat) ({ cls := "java/lang/Throwable", name := "fillInStackTrace", desc := "(I)Ljava/lang/Throwable;" } : MethodName)) ∈ ch_GL := ch_c2 208 rfl rfl
theorem kb_449 : (Cond.privateMethod ({ cls := "java/lang/Throwable", name := "fillInStackTrace", desc := "(I)Ljava/lang/Throwable;" } : MethodName)) ∈ lw_tbl := ch_b2 209 rfl
theorem kw_450 : (Cond.instanceMethod ({ cls := "java/lang/Throwable", name := "fillInStackTrace", desc := "(I)Ljava/lang/Throwable;" } : MethodName)) ∈ ch_GL := ch_c2 210 rfl rfl
theorem kw_451 : (Cond.instantiable "java/lang/Throwable" (6 : Nat)) ∈ ch_GL := ch_c2 211 rfl rfl
theorem kw_452 : (Cond.native ({ cls := "java/lang/Throwable", name := "fillInStackTrace", desc := "(I)Ljava/lang/Throwable;" } : MethodName)) ∈ ch_GL := ch_c2 212 rfl rfl
theorem kb_453 : (Cond.stringRef "CellHandover" (267 : Nat) "out of range") ∈ lw_tbl := ch_b2 213 rfl
theorem kw_454 : (Cond.methodLink "CellHandover" (269 : Nat) ({ cls := "java/lang/IllegalArgumentException", name := "<init>", desc := "(Ljava/lang/String;)V" } : MethodName)) ∈ ch_GL := ch_c2 214 rfl rfl
theorem kw_455 : (Cond.instanceMethod ({ cls := "java/lang/IllegalArgumentException", name := "<init>", desc := "(Ljava/lang/String;)V" } : MethodName)) ∈ ch_GL := ch_c2 215 rfl rfl
theorem kw_456 : (Cond.code ({ cls := "java/lang/IllegalArgumentException", name := "<init>", desc := "(Ljava/lang/String;)V" } : MethodName) prog_21_method_2_code (2 : Nat) (Option.none : Option FieldType)) ∈ ch_GL := ch_c2 216 rfl rfl
theorem kw_457 : (Cond.methodLink "java/lang/IllegalArgumentException" (7 : Nat) ({ cls := "java/lang/RuntimeException", name := "<init>", desc := "(Ljava/lang/String;)V" } : MethodName)) ∈ ch_GL := ch_c2 217 rfl rfl
theorem kw_458 : (Cond.instanceMethod ({ cls := "java/lang/RuntimeException", name := "<init>", desc := "(Ljava/lang/String;)V" } : MethodName)) ∈ ch_GL := ch_c2 218 rfl rfl
theorem kw_459 : (Cond.code ({ cls := "java/lang/RuntimeException", name := "<init>", desc := "(Ljava/lang/String;)V" } : MethodName) prog_23_method_2_code (2 : Nat) (Option.none : Option FieldType)) ∈ ch_GL := ch_c2 219 rfl rfl
theorem kw_460 : (Cond.methodLink "java/lang/RuntimeException" (7 : Nat) ({ cls := "java/lang/Exception", name := "<init>", desc := "(Ljava/lang/String;)V" } : MethodName)) ∈ ch_GL := ch_c2 220 rfl rfl
theorem kw_461 : (Cond.instanceMethod ({ cls := "java/lang/Exception", name := "<init>", desc := "(Ljava/lang/String;)V" } : MethodName)) ∈ ch_GL := ch_c2 221 rfl rfl
theorem kw_462 : (Cond.code ({ cls := "java/lang/Exception", name := "<init>", desc := "(Ljava/lang/String;)V" } : MethodName) prog_20_method_2_code (2 : Nat) (Option.none : Option FieldType)) ∈ ch_GL := ch_c2 222 rfl rfl
theorem kw_463 : (Cond.methodLink "java/lang/Exception" (7 : Nat) ({ cls := "java/lang/Throwable", name := "<init>", desc := "(Ljava/lang/String;)V" } : MethodName)) ∈ ch_GL := ch_c2 223 rfl rfl
theorem kw_464 : (Cond.instanceMethod ({ cls := "java/lang/Throwable", name := "<init>", desc := "(Ljava/lang/String;)V" } : MethodName)) ∈ ch_GL := ch_c2 224 rfl rfl
theorem kw_465 : (Cond.code ({ cls := "java/lang/Throwable", name := "<init>", desc := "(Ljava/lang/String;)V" } : MethodName) prog_28_method_2_code (2 : Nat) (Option.none : Option FieldType)) ∈ ch_GL := ch_c2 225 rfl rfl
theorem kw_466 : (Cond.fieldLink "java/lang/Throwable" (198 : Nat) "java/lang/Throwable" "backtrace" "Ljava/lang/Object;") ∈ ch_GL := ch_c2 226 rfl rfl
theorem kw_467 : (Cond.fieldLink "java/lang/Throwable" (31 : Nat) "java/lang/Throwable" "detailMessage" "Ljava/lang/String;") ∈ ch_GL := ch_c2 227 rfl rfl
theorem kw_468 : (Cond.fieldLink "java/lang/Throwable" (7 : Nat) "java/lang/Throwable" "cause" "Ljava/lang/Throwable;") ∈ ch_GL := ch_c2 228 rfl rfl
theorem kw_469 : (Cond.fieldLink "java/lang/Throwable" (17 : Nat) "java/lang/Throwable" "stackTrace" "[Ljava/lang/StackTraceElement;") ∈ ch_GL := ch_c2 229 rfl rfl
theorem kw_470 : (Cond.fieldLink "java/lang/Throwable" (24 : Nat) "java/lang/Throwable" "suppressedExceptions" "Ljava/util/List;") ∈ ch_GL := ch_c2 230 rfl rfl
theorem kw_471 : (Cond.soleField "java/lang/Throwable" "backtrace") ∈ ch_GL := ch_c2 231 rfl rfl
theorem kw_472 : (Cond.soleField "java/lang/Throwable" "detailMessage") ∈ ch_GL := ch_c2 232 rfl rfl
theorem kw_473 : (Cond.soleField "java/lang/Throwable" "cause") ∈ ch_GL := ch_c2 233 rfl rfl
theorem kw_474 : (Cond.soleField "java/lang/Throwable" "stackTrace") ∈ ch_GL := ch_c2 234 rfl rfl
theorem kw_475 : (Cond.lays "java/lang/IllegalArgumentException" "java/lang/Throwable" "depth" "I") ∈ ch_GL := ch_c2 235 rfl rfl
theorem kw_476 : (Cond.soleField "java/lang/Throwable" "depth") ∈ ch_GL := ch_c2 236 rfl rfl
theorem kw_477 : (Cond.soleField "java/lang/Throwable" "suppressedExceptions") ∈ ch_GL := ch_c2 237 rfl rfl
theorem kw_478 : (Cond.superclass "java/lang/IllegalArgumentException" "java/lang/RuntimeException") ∈ ch_GL := ch_c2 238 rfl rfl
theorem kw_479 : (Cond.arrayClass FieldType.byte) ∈ ch_GL := ch_c2 239 rfl rfl
theorem kw_480 : (Cond.constant "CellHandover" (262 : Nat) (100000 : Int32)) ∈ ch_GL := ch_c3 0 rfl rfl
theorem kw_481 : (Cond.methodLink "CellHandover" (140 : Nat) ({ cls := "CellHandover$History", name := "record", desc := "(LCellHandover$Network;)V" } : MethodName)) ∈ ch_GL := ch_c3 1 rfl rfl
theorem kw_482 : (Cond.instanceMethod ({ cls := "CellHandover$History", name := "record", desc := "(LCellHandover$Network;)V" } : MethodName)) ∈ ch_GL := ch_c3 2 rfl rfl
theorem kw_483 : (Cond.selects "CellHandover$History" ({ cls := "CellHandover$History", name := "record", desc := "(LCellHandover$Network;)V" } : MethodName) ({ cls := "CellHandover$History", name := "record", desc := "(LCellHandover$Network;)V" } : MethodName)) ∈ ch_GL := ch_c3 3 rfl rfl
theorem kw_484 : (Cond.code ({ cls := "CellHandover$History", name := "record", desc := "(LCellHandover$Network;)V" } : MethodName) prog_3_method_3_code (3 : Nat) (Option.none : Option FieldType)) ∈ ch_GL := ch_c3 4 rfl rfl
theorem kw_485 : (Cond.methodLink "CellHandover$History" (25 : Nat) ({ cls := "CellHandover$Network", name := "copyFrom", desc := "(LCellHandover$Network;)V" } : MethodName)) ∈ ch_GL := ch_c3 5 rfl rfl
theorem kw_486 : (Cond.instanceMethod ({ cls := "CellHandover$Network", name := "copyFrom", desc := "(LCellHandover$Network;)V" } : MethodName)) ∈ ch_GL := ch_c3 6 rfl rfl
theorem kw_487 : (Cond.selects "CellHandover$Network" ({ cls := "CellHandover$Network", name := "copyFrom", desc := "(LCellHandover$Network;)V" } : MethodName) ({ cls := "CellHandover$Network", name := "copyFrom", desc := "(LCellHandover$Network;)V" } : MethodName)) ∈ ch_GL := ch_c3 7 rfl rfl
theorem kw_488 : (Cond.code ({ cls := "CellHandover$Network", name := "copyFrom", desc := "(LCellHandover$Network;)V" } : MethodName) prog_5_method_9_code (4 : Nat) (Option.none : Option FieldType)) ∈ ch_GL := ch_c3 8 rfl rfl
theorem kw_489 : (Cond.methodLink "CellHandover$Network" (95 : Nat) ({ cls := "CellHandover$Network", name := "cellAt", desc := "(I)LCellHandover$Cell;" } : MethodName)) ∈ ch_GL := ch_c3 9 rfl rfl
theorem kw_490 : (Cond.instanceMethod ({ cls := "CellHandover$Network", name := "cellAt", desc := "(I)LCellHandover$Cell;" } : MethodName)) ∈ ch_GL := ch_c3 10 rfl rfl
theorem kw_491 : (Cond.selects "CellHandover$Network" ({ cls := "CellHandover$Network", name := "cellAt", desc := "(I)LCellHandover$Cell;" } : MethodName) ({ cls := "CellHandover$Network", name := "cellAt", desc := "(I)LCellHandover$Cell;" } : MethodName)) ∈ ch_GL := ch_c3 11 rfl rfl
theorem kw_492 : (Cond.code ({ cls := "CellHandover$Network", name := "cellAt", desc := "(I)LCellHandover$Cell;" } : MethodName) prog_5_method_3_code (3 : Nat) (Option.some (FieldType.object "CellHandover$Cell"))) ∈ ch_GL := ch_c3 12 rfl rfl
theorem kw_493 : (Cond.methodLink "CellHandover$Network" (99 : Nat) ({ cls := "CellHandover$Cell", name := "copyFrom", desc := "(LCellHandover$Cell;)V" } : MethodName)) ∈ ch_GL := ch_c3 13 rfl rfl
theorem kw_494 : (Cond.instanceMethod ({ cls := "CellHandover$Cell", name := "copyFrom", desc := "(LCellHandover$Cell;)V" } : MethodName)) ∈ ch_GL := ch_c3 14 rfl rfl
theorem kw_495 : (Cond.selects "CellHandover$Cell" ({ cls := "CellHandover$Cell", name := "copyFrom", desc := "(LCellHandover$Cell;)V" } : MethodName) ({ cls := "CellHandover$Cell", name := "copyFrom", desc := "(LCellHandover$Cell;)V" } : MethodName)) ∈ ch_GL := ch_c3 15 rfl rfl
theorem kw_496 : (Cond.code ({ cls := "CellHandover$Cell", name := "copyFrom", desc := "(LCellHandover$Cell;)V" } : MethodName) prog_2_method_3_code (2 : Nat) (Option.none : Option FieldType)) ∈ ch_GL := ch_c3 16 rfl rfl
theorem kw_497 : (Cond.methodLink "CellHandover$Network" (82 : Nat) ({ cls := "CellHandover$Network", name := "relationAt", desc := "(II)LCellHandover$Relation;" } : MethodName)) ∈ ch_GL := ch_c3 17 rfl rfl
theorem kw_498 : (Cond.instanceMethod ({ cls := "CellHandover$Network", name := "relationAt", desc := "(II)LCellHandover$Relation;" } : MethodName)) ∈ ch_GL := ch_c3 18 rfl rfl
theorem kw_499 : (Cond.selects "CellHandover$Network" ({ cls := "CellHandover$Network", name := "relationAt", desc := "(II)LCellHandover$Relation;" } : MethodName) ({ cls := "CellHandover$Network", name := "relationAt", desc := "(II)LCellHandover$Relation;" } : MethodName)) ∈ ch_GL := ch_c3 19 rfl rfl
theorem kw_500 : (Cond.code ({ cls := "CellHandover$Network", name := "relationAt", desc := "(II)LCellHandover$Relation;" } : MethodName) prog_5_method_5_code (5 : Nat) (Option.some (FieldType.object "CellHandover$Relation"))) ∈ ch_GL := ch_c3 20 rfl rfl
theorem kw_501 : (Cond.methodLink "CellHandover$Network" (103 : Nat) ({ cls := "CellHandover$Relation", name := "copyFrom", desc := "(LCellHandover$Relation;)V" } : MethodName)) ∈ ch_GL := ch_c3 21 rfl rfl
theorem kw_502 : (Cond.instanceMethod ({ cls := "CellHandover$Relation", name := "copyFrom", desc := "(LCellHandover$Relation;)V" } : MethodName)) ∈ ch_GL := ch_c3 22 rfl rfl
theorem kw_503 : (Cond.selects "CellHandover$Relation" ({ cls := "CellHandover$Relation", name := "copyFrom", desc := "(LCellHandover$Relation;)V" } : MethodName) ({ cls := "CellHandover$Relation", name := "copyFrom", desc := "(LCellHandover$Relation;)V" } : MethodName)) ∈ ch_GL := ch_c3 23 rfl rfl
theorem kw_504 : (Cond.code ({ cls := "CellHandover$Relation", name := "copyFrom", desc := "(LCellHandover$Relation;)V" } : MethodName) prog_9_method_3_code (2 : Nat) (Option.none : Option FieldType)) ∈ ch_GL := ch_c3 24 rfl rfl
theorem kw_505 : (Cond.methodLink "CellHandover$Network" (106 : Nat) ({ cls := "CellHandover$Network", name := "mobileAt", desc := "(I)LCellHandover$Mobile;" } : MethodName)) ∈ ch_GL := ch_c3 25 rfl rfl
theorem kw_506 : (Cond.instanceMethod ({ cls := "CellHandover$Network", name := "mobileAt", desc := "(I)LCellHandover$Mobile;" } : MethodName)) ∈ ch_GL := ch_c3 26 rfl rfl
theorem kw_507 : (Cond.selects "CellHandover$Network" ({ cls := "CellHandover$Network", name := "mobileAt", desc := "(I)LCellHandover$Mobile;" } : MethodName) ({ cls := "CellHandover$Network", name := "mobileAt", desc := "(I)LCellHandover$Mobile;" } : MethodName)) ∈ ch_GL := ch_c3 27 rfl rfl
theorem kw_508 : (Cond.code ({ cls := "CellHandover$Network", name := "mobileAt", desc := "(I)LCellHandover$Mobile;" } : MethodName) prog_5_method_4_code (3 : Nat) (Option.some (FieldType.object "CellHandover$Mobile"))) ∈ ch_GL := ch_c3 28 rfl rfl
theorem kw_509 : (Cond.methodLink "CellHandover$Network" (110 : Nat) ({ cls := "CellHandover$Mobile", name := "copyFrom", desc := "(LCellHandover$Mobile;)V" } : MethodName)) ∈ ch_GL := ch_c3 29 rfl rfl
theorem kw_510 : (Cond.instanceMethod ({ cls := "CellHandover$Mobile", name := "copyFrom", desc := "(LCellHandover$Mobile;)V" } : MethodName)) ∈ ch_GL := ch_c3 30 rfl rfl
theorem kw_511 : (Cond.selects "CellHandover$Mobile" ({ cls := "CellHandover$Mobile", name := "copyFrom", desc := "(LCellHandover$Mobile;)V" } : MethodName) ({ cls := "CellHandover$Mobile", name := "copyFrom", desc := "(LCellHandover$Mobile;)V" } : MethodName)) ∈ ch_GL := ch_c3 31 rfl rfl
theorem kw_512 : (Cond.code ({ cls := "CellHandover$Mobile", name := "copyFrom", desc := "(LCellHandover$Mobile;)V" } : MethodName) prog_4_method_15_code (2 : Nat) (Option.none : Option FieldType)) ∈ ch_GL := ch_c3 32 rfl rfl
theorem kb_513 : (Cond.methodLinkNest "CellHandover$Mobile" (75 : Nat) ({ cls := "CellHandover", name := "copyInts", desc := "([I[I)V" } : MethodName) "CellHandover") ∈ lw_tbl := ch_b3 33 rfl
theorem kw_514 : (Cond.static ({ cls := "CellHandover", name := "copyInts", desc := "([I[I)V" } : MethodName)) ∈ ch_GL := ch_c3 34 rfl rfl
theorem kw_515 : (Cond.code ({ cls := "CellHandover", name := "copyInts", desc := "([I[I)V" } : MethodName) prog_1_method_49_code (2 : Nat) (Option.none : Option FieldType)) ∈ ch_GL := ch_c3 35 rfl rfl
theorem kw_516 : (Cond.methodLink "CellHandover" (240 : Nat) ({ cls := "java/lang/Math", name := "min", desc := "(II)I" } : MethodName)) ∈ ch_GL := ch_c3 36 rfl rfl
theorem kw_517 : (Cond.static ({ cls := "java/lang/Math", name := "min", desc := "(II)I" } : MethodName)) ∈ ch_GL := ch_c3 37 rfl rfl
theorem kw_518 : (Cond.code ({ cls := "java/lang/Math", name := "min", desc := "(II)I" } : MethodName) prog_22_method_69_code (2 : Nat) (Option.some FieldType.int)) ∈ ch_GL := ch_c3 38 rfl rfl
theorem kw_519 : (Cond.methodLink "CellHandover" (270 : Nat) ({ cls := "java/lang/System", name := "arraycopy", desc := "(Ljava/lang/Object;ILjava/lang/Object;II)V" } : MethodName)) ∈ ch_GL := ch_c3 39 rfl rfl
theorem kw_520 : (Cond.static ({ cls := "java/lang/System", name := "arraycopy", desc := "(Ljava/lang/Object;ILjava/lang/Object;II)V" } : MethodName)) ∈ ch_GL := ch_c3 40 rfl rfl
theorem kw_521 : (Cond.native ({ cls := "java/lang/System", name := "arraycopy", desc := "(Ljava/lang/Object;ILjava/lang/Object;II)V" } : MethodName)) ∈ ch_GL := ch_c3 41 rfl rfl
theorem kb_522 : (Cond.methodLinkNest "CellHandover$Network" (113 : Nat) ({ cls := "CellHandover", name := "copyInts", desc := "([I[I)V" } : MethodName) "CellHandover") ∈ lw_tbl := ch_b3 42 rfl
theorem kw_523 : (Cond.methodLink "CellHandover$History" (29 : Nat) ({ cls := "java/lang/Math", name := "min", desc := "(II)I" } : MethodName)) ∈ ch_GL := ch_c3 43 rfl rfl
theorem kw_524 : (Cond.methodLink "CellHandover" (182 : Nat) ({ cls := "CellHandover$Network", name := "totalOf", desc := "(I)I" } : MethodName)) ∈ ch_GL := ch_c3 44 rfl rfl
theorem kw_525 : (Cond.instanceMethod ({ cls := "CellHandover$Network", name := "totalOf", desc := "(I)I" } : MethodName)) ∈ ch_GL := ch_c3 45 rfl rfl
theorem kw_526 : (Cond.selects "CellHandover$Network" ({ cls := "CellHandover$Network", name := "totalOf", desc := "(I)I" } : MethodName) ({ cls := "CellHandover$Network", name := "totalOf", desc := "(I)I" } : MethodName)) ∈ ch_GL := ch_c3 46 rfl rfl
theorem kw_527 : (Cond.code ({ cls := "CellHandover$Network", name := "totalOf", desc := "(I)I" } : MethodName) prog_5_method_6_code (2 : Nat) (Option.some FieldType.int)) ∈ ch_GL := ch_c3 47 rfl rfl
theorem kw_528 : (Cond.methodLink "CellHandover" (186 : Nat) ({ cls := "CellHandover$Simulator", name := "advance", desc := "(LCellHandover$Network;I)V" } : MethodName)) ∈ ch_GL := ch_c3 48 rfl rfl
theorem kw_529 : (Cond.instanceMethod ({ cls := "CellHandover$Simulator", name := "advance", desc := "(LCellHandover$Network;I)V" } : MethodName)) ∈ ch_GL := ch_c3 49 rfl rfl
theorem kw_530 : (Cond.selects "CellHandover$Simulator" ({ cls := "CellHandover$Simulator", name := "advance", desc := "(LCellHandover$Network;I)V" } : MethodName) ({ cls := "CellHandover$Simulator", name := "advance", desc := "(LCellHandover$Network;I)V" } : MethodName)) ∈ ch_GL := ch_c3 50 rfl rfl
theorem kw_531 : (Cond.code ({ cls := "CellHandover$Simulator", name := "advance", desc := "(LCellHandover$Network;I)V" } : MethodName) prog_10_method_2_code (4 : Nat) (Option.none : Option FieldType)) ∈ ch_GL := ch_c3 51 rfl rfl
theorem kw_532 : (Cond.methodLink "CellHandover$Simulator" (18 : Nat) ({ cls := "CellHandover$Simulator", name := "moveMobiles", desc := "(LCellHandover$Network;)V" } : MethodName)) ∈ ch_GL := ch_c3 52 rfl rfl
theorem kb_533 : (Cond.privateMethod ({ cls := "CellHandover$Simulator", name := "moveMobiles", desc := "(LCellHandover$Network;)V" } : MethodName)) ∈ lw_tbl := ch_b3 53 rfl
theorem kw_534 : (Cond.instanceMethod ({ cls := "CellHandover$Simulator", name := "moveMobiles", desc := "(LCellHandover$Network;)V" } : MethodName)) ∈ ch_GL := ch_c3 54 rfl rfl
theorem kw_535 : (Cond.code ({ cls := "CellHandover$Simulator", name := "moveMobiles", desc := "(LCellHandover$Network;)V" } : MethodName) prog_10_method_4_code (4 : Nat) (Option.none : Option FieldType)) ∈ ch_GL := ch_c3 55 rfl rfl
theorem kw_536 : (Cond.methodLink "CellHandover$Simulator" (49 : Nat) ({ cls := "CellHandover$Network", name := "mobileAt", desc := "(I)LCellHandover$Mobile;" } : MethodName)) ∈ ch_GL := ch_c3 56 rfl rfl
theorem kw_537 : (Cond.methodLink "CellHandover$Simulator" (72 : Nat) ({ cls := "java/lang/Math", name := "min", desc := "(II)I" } : MethodName)) ∈ ch_GL := ch_c3 57 rfl rfl
theorem kw_538 : (Cond.methodLink "CellHandover$Simulator" (78 : Nat) ({ cls := "java/lang/Math", name := "max", desc := "(II)I" } : MethodName)) ∈ ch_GL := ch_c3 58 rfl rfl
theorem kw_539 : (Cond.static ({ cls := "java/lang/Math", name := "max", desc := "(II)I" } : MethodName)) ∈ ch_GL := ch_c3 59 rfl rfl
theorem kw_540 : (Cond.code ({ cls := "java/lang/Math", name := "max", desc := "(II)I" } : MethodName) prog_22_method_65_code (2 : Nat) (Option.some FieldType.int)) ∈ ch_GL := ch_c3 60 rfl rfl
theorem kw_541 : (Cond.methodLink "CellHandover$Simulator" (22 : Nat) ({ cls := "CellHandover$Simulator", name := "measureLevels", desc := "(LCellHandover$Network;)V" } : MethodName)) ∈ ch_GL := ch_c3 61 rfl rfl
theorem kb_542 : (Cond.privateMethod ({ cls := "CellHandover$Simulator", name := "measureLevels", desc := "(LCellHandover$Network;)V" } : MethodName)) ∈ lw_tbl := ch_b3 62 rfl
theorem kw_543 : (Cond.instanceMethod ({ cls := "CellHandover$Simulator", name := "measureLevels", desc := "(LCellHandover$Network;)V" } : MethodName)) ∈ ch_GL := ch_c3 63 rfl rfl
theorem kw_544 : (Cond.code ({ cls := "CellHandover$Simulator", name := "measureLevels", desc := "(LCellHandover$Network;)V" } : MethodName) prog_10_method_5_code (4 : Nat) (Option.none : Option FieldType)) ∈ ch_GL := ch_c3 64 rfl rfl
theorem kw_545 : (Cond.methodLink "CellHandover$Simulator" (90 : Nat) ({ cls := "CellHandover$Simulator", name := "measure", desc := "(LCellHandover$Network;LCellHandover$Mobile;)V" } : MethodName)) ∈ ch_GL := ch_c3 65 rfl rfl
theorem kb_546 : (Cond.privateMethod ({ cls := "CellHandover$Simulator", name := "measure", desc := "(LCellHandover$Network;LCellHandover$Mobile;)V" } : MethodName)) ∈ lw_tbl := ch_b3 66 rfl
theorem kw_547 : (Cond.instanceMethod ({ cls := "CellHandover$Simulator", name := "measure", desc := "(LCellHandover$Network;LCellHandover$Mobile;)V" } : MethodName)) ∈ ch_GL := ch_c3 67 rfl rfl
theorem kw_548 : (Cond.code ({ cls := "CellHandover$Simulator", name := "measure", desc := "(LCellHandover$Network;LCellHandover$Mobile;)V" } : MethodName) prog_10_method_6_code (5 : Nat) (Option.none : Option FieldType)) ∈ ch_GL := ch_c3 68 rfl rfl
theorem kw_549 : (Cond.methodLink "CellHandover$Simulator" (99 : Nat) ({ cls := "CellHandover$Network", name := "relationAt", desc := "(II)LCellHandover$Relation;" } : MethodName)) ∈ ch_GL := ch_c3 69 rfl rfl
theorem kw_550 : (Cond.methodLink "CellHandover$Simulator" (109 : Nat) ({ cls := "CellHandover$Network", name := "cellAt", desc := "(I)LCellHandover$Cell;" } : MethodName)) ∈ ch_GL := ch_c3 70 rfl rfl
theorem kw_551 : (Cond.methodLink "CellHandover$Simulator" (113 : Nat) ({ cls := "CellHandover$Cell", name := "levelAt", desc := "(II)I" } : MethodName)) ∈ ch_GL := ch_c3 71 rfl rfl
theorem kw_552 : (Cond.instanceMethod ({ cls := "CellHandover$Cell", name := "levelAt", desc := "(II)I" } : MethodName)) ∈ ch_GL := ch_c3 72 rfl rfl
theorem kw_553 : (Cond.selects "CellHandover$Cell" ({ cls := "CellHandover$Cell", name := "levelAt", desc := "(II)I" } : MethodName) ({ cls := "CellHandover$Cell", name := "levelAt", desc := "(II)I" } : MethodName)) ∈ ch_GL := ch_c3 73 rfl rfl
theorem kw_554 : (Cond.code ({ cls := "CellHandover$Cell", name := "levelAt", desc := "(II)I" } : MethodName) prog_2_method_2_code (4 : Nat) (Option.some FieldType.int)) ∈ ch_GL := ch_c3 74 rfl rfl
theorem kw_555 : (Cond.methodLink "CellHandover$Cell" (13 : Nat) ({ cls := "java/lang/Math", name := "abs", desc := "(I)I" } : MethodName)) ∈ ch_GL := ch_c3 75 rfl rfl
theorem kw_556 : (Cond.static ({ cls := "java/lang/Math", name := "abs", desc := "(I)I" } : MethodName)) ∈ ch_GL := ch_c3 76 rfl rfl
theorem kw_557 : (Cond.code ({ cls := "java/lang/Math", name := "abs", desc := "(I)I" } : MethodName) prog_22_method_59_code (1 : Nat) (Option.some FieldType.int)) ∈ ch_GL := ch_c3 77 rfl rfl
theorem kw_558 : (Cond.methodLink "CellHandover$Cell" (28 : Nat) ({ cls := "java/lang/Math", name := "max", desc := "(II)I" } : MethodName)) ∈ ch_GL := ch_c3 78 rfl rfl
theorem kw_559 : (Cond.methodLink "CellHandover$Simulator" (121 : Nat) ({ cls := "CellHandover$Mobile", name := "addReport", desc := "(III)V" } : MethodName)) ∈ ch_GL := ch_c3 79 rfl rfl
theorem kw_560 : (Cond.instanceMethod ({ cls := "CellHandover$Mobile", name := "addReport", desc := "(III)V" } : MethodName)) ∈ ch_GL := ch_c3 80 rfl rfl
theorem kw_561 : (Cond.selects "CellHandover$Mobile" ({ cls := "CellHandover$Mobile", name := "addReport", desc := "(III)V" } : MethodName) ({ cls := "CellHandover$Mobile", name := "addReport", desc := "(III)V" } : MethodName)) ∈ ch_GL := ch_c3 81 rfl rfl
theorem kw_562 : (Cond.code ({ cls := "CellHandover$Mobile", name := "addReport", desc := "(III)V" } : MethodName) prog_4_method_7_code (7 : Nat) (Option.none : Option FieldType)) ∈ ch_GL := ch_c3 82 rfl rfl
theorem kw_563 : (Cond.methodLink "CellHandover$Mobile" (62 : Nat) ({ cls := "CellHandover$Mobile", name := "reportsOf", desc := "(I)I" } : MethodName)) ∈ ch_GL := ch_c3 83 rfl rfl
theorem kw_564 : (Cond.instanceMethod ({ cls := "CellHandover$Mobile", name := "reportsOf", desc := "(I)I" } : MethodName)) ∈ ch_GL := ch_c3 84 rfl rfl
theorem kw_565 : (Cond.selects "CellHandover$Mobile" ({ cls := "CellHandover$Mobile", name := "reportsOf", desc := "(I)I" } : MethodName) ({ cls := "CellHandover$Mobile", name := "reportsOf", desc := "(I)I" } : MethodName)) ∈ ch_GL := ch_c3 85 rfl rfl
theorem kw_566 : (Cond.code ({ cls := "CellHandover$Mobile", name := "reportsOf", desc := "(I)I" } : MethodName) prog_4_method_10_code (2 : Nat) (Option.some FieldType.int)) ∈ ch_GL := ch_c3 86 rfl rfl
theorem kw_567 : (Cond.methodLink "CellHandover$Mobile" (66 : Nat) ({ cls := "CellHandover$Mobile", name := "dropOldest", desc := "(II)V" } : MethodName)) ∈ ch_GL := ch_c3 87 rfl rfl
theorem kb_568 : (Cond.privateMethod ({ cls := "CellHandover$Mobile", name := "dropOldest", desc := "(II)V" } : MethodName)) ∈ lw_tbl := ch_b3 88 rfl
theorem kw_569 : (Cond.instanceMethod ({ cls := "CellHandover$Mobile", name := "dropOldest", desc := "(II)V" } : MethodName)) ∈ ch_GL := ch_c3 89 rfl rfl
theorem kw_570 : (Cond.code ({ cls := "CellHandover$Mobile", name := "dropOldest", desc := "(II)V" } : MethodName) prog_4_method_8_code (4 : Nat) (Option.none : Option FieldType)) ∈ ch_GL := ch_c3 90 rfl rfl
theorem kw_571 : (Cond.methodLink "CellHandover$Simulator" (125 : Nat) ({ cls := "CellHandover$Mobile", name := "clearReports", desc := "(I)V" } : MethodName)) ∈ ch_GL := ch_c3 91 rfl rfl
theorem kw_572 : (Cond.instanceMethod ({ cls := "CellHandover$Mobile", name := "clearReports", desc := "(I)V" } : MethodName)) ∈ ch_GL := ch_c3 92 rfl rfl
theorem kw_573 : (Cond.selects "CellHandover$Mobile" ({ cls := "CellHandover$Mobile", name := "clearReports", desc := "(I)V" } : MethodName) ({ cls := "CellHandover$Mobile", name := "clearReports", desc := "(I)V" } : MethodName)) ∈ ch_GL := ch_c3 93 rfl rfl
theorem kw_574 : (Cond.code ({ cls := "CellHandover$Mobile", name := "clearReports", desc := "(I)V" } : MethodName) prog_4_method_9_code (2 : Nat) (Option.none : Option FieldType)) ∈ ch_GL := ch_c3 94 rfl rfl
theorem kw_575 : (Cond.methodLink "CellHandover$Simulator" (25 : Nat) ({ cls := "CellHandover$Simulator", name := "completeCalls", desc := "(LCellHandover$Network;)V" } : MethodName)) ∈ ch_GL := ch_c3 95 rfl rfl
theorem kb_576 : (Cond.privateMethod ({ cls := "CellHandover$Simulator", name := "completeCalls", desc := "(LCellHandover$Network;)V" } : MethodName)) ∈ lw_tbl := ch_b3 96 rfl
theorem kw_577 : (Cond.instanceMethod ({ cls := "CellHandover$Simulator", name := "completeCalls", desc := "(LCellHandover$Network;)V" } : MethodName)) ∈ ch_GL := ch_c3 97 rfl rfl
theorem kw_578 : (Cond.code ({ cls := "CellHandover$Simulator", name := "completeCalls", desc := "(LCellHandover$Network;)V" } : MethodName) prog_10_method_7_code (4 : Nat) (Option.none : Option FieldType)) ∈ ch_GL := ch_c3 98 rfl rfl
theorem kw_579 : (Cond.methodLink "CellHandover$Simulator" (132 : Nat) ({ cls := "CellHandover$Mobile", name := "becomeIdle", desc := "()V" } : MethodName)) ∈ ch_GL := ch_c3 99 rfl rfl
theorem kw_580 : (Cond.instanceMethod ({ cls := "CellHandover$Mobile", name := "becomeIdle", desc := "()V" } : MethodName)) ∈ ch_GL := ch_c3 100 rfl rfl
theorem kw_581 : (Cond.selects "CellHandover$Mobile" ({ cls := "CellHandover$Mobile", name := "becomeIdle", desc := "()V" } : MethodName) ({ cls := "CellHandover$Mobile", name := "becomeIdle", desc := "()V" } : MethodName)) ∈ ch_GL := ch_c3 101 rfl rfl
theorem kw_582 : (Cond.code ({ cls := "CellHandover$Mobile", name := "becomeIdle", desc := "()V" } : MethodName) prog_4_method_3_code (1 : Nat) (Option.none : Option FieldType)) ∈ ch_GL := ch_c3 102 rfl rfl
theorem kw_583 : (Cond.methodLink "CellHandover$Mobile" (55 : Nat) ({ cls := "CellHandover$Mobile", name := "clearMeasurements", desc := "()V" } : MethodName)) ∈ ch_GL := ch_c3 103 rfl rfl
theorem kb_584 : (Cond.privateMethod ({ cls := "CellHandover$Mobile", name := "clearMeasurements", desc := "()V" } : MethodName)) ∈ lw_tbl := ch_b3 104 rfl
theorem kw_585 : (Cond.instanceMethod ({ cls := "CellHandover$Mobile", name := "clearMeasurements", desc := "()V" } : MethodName)) ∈ ch_GL := ch_c3 105 rfl rfl
theorem kw_586 : (Cond.code ({ cls := "CellHandover$Mobile", name := "clearMeasurements", desc := "()V" } : MethodName) prog_4_method_14_code (1 : Nat) (Option.none : Option FieldType)) ∈ ch_GL := ch_c3 106 rfl rfl
theorem kw_587 : (Cond.methodLink "CellHandover$Mobile" (69 : Nat) ({ cls := "java/util/Arrays", name := "fill", desc := "([II)V" } : MethodName)) ∈ ch_GL := ch_c3 107 rfl rfl
theorem kw_588 : (Cond.static ({ cls := "java/util/Arrays", name := "fill", desc := "([II)V" } : MethodName)) ∈ ch_GL := ch_c3 108 rfl rfl
theorem kw_589 : (Cond.code ({ cls := "java/util/Arrays", name := "fill", desc := "([II)V" } : MethodName) prog_31_method_103_code (4 : Nat) (Option.none : Option FieldType)) ∈ ch_GL := ch_c3 109 rfl rfl
theorem kw_590 : (Cond.methodLink "CellHandover$Simulator" (135 : Nat) ({ cls := "CellHandover$Network", name := "count", desc := "(I)V" } : MethodName)) ∈ ch_GL := ch_c3 110 rfl rfl
theorem kw_591 : (Cond.instanceMethod ({ cls := "CellHandover$Network", name := "count", desc := "(I)V" } : MethodName)) ∈ ch_GL := ch_c3 111 rfl rfl
theorem kw_592 : (Cond.selects "CellHandover$Network" ({ cls := "CellHandover$Network", name := "count", desc := "(I)V" } : MethodName) ({ cls := "CellHandover$Network", name := "count", desc := "(I)V" } : MethodName)) ∈ ch_GL := ch_c3 112 rfl rfl
theorem kw_593 : (Cond.code ({ cls := "CellHandover$Network", name := "count", desc := "(I)V" } : MethodName) prog_5_method_7_code (2 : Nat) (Option.none : Option FieldType)) ∈ ch_GL := ch_c3 113 rfl rfl
theorem kw_594 : (Cond.methodLink "CellHandover$Simulator" (28 : Nat) ({ cls := "CellHandover$Simulator", name := "dropCalls", desc := "(LCellHandover$Network;)V" } : MethodName)) ∈ ch_GL := ch_c3 114 rfl rfl
theorem kb_595 : (Cond.privateMethod ({ cls := "CellHandover$Simulator", name := "dropCalls", desc := "(LCellHandover$Network;)V" } : MethodName)) ∈ lw_tbl := ch_b3 115 rfl
theorem kw_596 : (Cond.instanceMethod ({ cls := "CellHandover$Simulator", name := "dropCalls", desc := "(LCellHandover$Network;)V" } : MethodName)) ∈ ch_GL := ch_c3 116 rfl rfl
theorem kw_597 : (Cond.code ({ cls := "CellHandover$Simulator", name := "dropCalls", desc := "(LCellHandover$Network;)V" } : MethodName) prog_10_method_8_code (5 : Nat) (Option.none : Option FieldType)) ∈ ch_GL := ch_c3 117 rfl rfl
theorem kw_598 : (Cond.methodLink "CellHandover$Simulator" (138 : Nat) ({ cls := "CellHandover$Mobile", name := "averageOf", desc := "(I)I" } : MethodName)) ∈ ch_GL := ch_c3 118 rfl rfl
theorem kw_599 : (Cond.instanceMethod ({ cls := "CellHandover$Mobile", name := "averageOf", desc := "(I)I" } : MethodName)) ∈ ch_GL := ch_c3 119 rfl rfl
theorem kw_600 : (Cond.selects "CellHandover$Mobile" ({ cls := "CellHandover$Mobile", name := "averageOf", desc := "(I)I" } : MethodName) ({ cls := "CellHandover$Mobile", name := "averageOf", desc := "(I)I" } : MethodName)) ∈ ch_GL := ch_c3 120 rfl rfl
theorem kw_601 : (Cond.code ({ cls := "CellHandover$Mobile", name := "averageOf", desc := "(I)I" } : MethodName) prog_4_method_11_code (6 : Nat) (Option.some FieldType.int)) ∈ ch_GL := ch_c3 121 rfl rfl
theorem kw_602 : (Cond.methodLink "CellHandover$Simulator" (31 : Nat) ({ cls := "CellHandover$Simulator", name := "serveQueues", desc := "(LCellHandover$Network;)V" } : MethodName)) ∈ ch_GL := ch_c3 122 rfl rfl
theorem kb_603 : (Cond.privateMethod ({ cls := "CellHandover$Simulator", name := "serveQueues", desc := "(LCellHandover$Network;)V" } : MethodName)) ∈ lw_tbl := ch_b3 123 rfl
theorem kw_604 : (Cond.instanceMethod ({ cls := "CellHandover$Simulator", name := "serveQueues", desc := "(LCellHandover$Network;)V" } : MethodName)) ∈ ch_GL := ch_c3 124 rfl rfl
theorem kw_605 : (Cond.code ({ cls := "CellHandover$Simulator", name := "serveQueues", desc := "(LCellHandover$Network;)V" } : MethodName) prog_10_method_9_code (5 : Nat) (Option.none : Option FieldType)) ∈ ch_GL := ch_c3 125 rfl rfl
theorem kw_606 : (Cond.methodLink "CellHandover$Simulator" (150 : Nat) ({ cls := "CellHandover$Network", name := "hasFreeChannel", desc := "(I)Z" } : MethodName)) ∈ ch_GL := ch_c3 126 rfl rfl
theorem kw_607 : (Cond.instanceMethod ({ cls := "CellHandover$Network", name := "hasFreeChannel", desc := "(I)Z" } : MethodName)) ∈ ch_GL := ch_c3 127 rfl rfl
theorem kw_608 : (Cond.selects "CellHandover$Network" ({ cls := "CellHandover$Network", name := "hasFreeChannel", desc := "(I)Z" } : MethodName) ({ cls := "CellHandover$Network", name := "hasFreeChannel", desc := "(I)Z" } : MethodName)) ∈ ch_GL := ch_c3 128 rfl rfl
theorem kw_609 : (Cond.code ({ cls := "CellHandover$Network", name := "hasFreeChannel", desc := "(I)Z" } : MethodName) prog_5_method_14_code (2 : Nat) (Option.some FieldType.boolean)) ∈ ch_GL := ch_c3 129 rfl rfl
theorem kw_610 : (Cond.methodLink "CellHandover$Network" (137 : Nat) ({ cls := "CellHandover$Network", name := "talkersIn", desc := "(I)I" } : MethodName)) ∈ ch_GL := ch_c3 130 rfl rfl
theorem kw_611 : (Cond.instanceMethod ({ cls := "CellHandover$Network", name := "talkersIn", desc := "(I)I" } : MethodName)) ∈ ch_GL := ch_c3 131 rfl rfl
theorem kw_612 : (Cond.selects "CellHandover$Network" ({ cls := "CellHandover$Network", name := "talkersIn", desc := "(I)I" } : MethodName) ({ cls := "CellHandover$Network", name := "talkersIn", desc := "(I)I" } : MethodName)) ∈ ch_GL := ch_c3 132 rfl rfl
theorem kw_613 : (Cond.code ({ cls := "CellHandover$Network", name := "talkersIn", desc := "(I)I" } : MethodName) prog_5_method_13_code (5 : Nat) (Option.some FieldType.int)) ∈ ch_GL := ch_c3 133 rfl rfl
theorem kw_614 : (Cond.methodLink "CellHandover$Simulator" (154 : Nat) ({ cls := "CellHandover$Network", name := "queuedMobile", desc := "(II)I" } : MethodName)) ∈ ch_GL := ch_c3 134 rfl rfl
theorem kw_615 : (Cond.instanceMethod ({ cls := "CellHandover$Network", name := "queuedMobile", desc := "(II)I" } : MethodName)) ∈ ch_GL := ch_c3 135 rfl rfl
theorem kw_616 : (Cond.selects "CellHandover$Network" ({ cls := "CellHandover$Network", name := "queuedMobile", desc := "(II)I" } : MethodName) ({ cls := "CellHandover$Network", name := "queuedMobile", desc := "(II)I" } : MethodName)) ∈ ch_GL := ch_c3 136 rfl rfl
theorem kw_617 : (Cond.code ({ cls := "CellHandover$Network", name := "queuedMobile", desc := "(II)I" } : MethodName) prog_5_method_17_code (4 : Nat) (Option.some FieldType.int)) ∈ ch_GL := ch_c3 137 rfl rfl
theorem kw_618 : (Cond.methodLink "CellHandover$Network" (153 : Nat) ({ cls := "CellHandover$Network", name := "requestsBefore", desc := "(I)I" } : MethodName)) ∈ ch_GL := ch_c3 138 rfl rfl
theorem kb_619 : (Cond.privateMethod ({ cls := "CellHandover$Network", name := "requestsBefore", desc := "(I)I" } : MethodName)) ∈ lw_tbl := ch_b3 139 rfl
theorem kw_620 : (Cond.instanceMethod ({ cls := "CellHandover$Network", name := "requestsBefore", desc := "(I)I" } : MethodName)) ∈ ch_GL := ch_c3 140 rfl rfl
theorem kw_621 : (Cond.code ({ cls := "CellHandover$Network", name := "requestsBefore", desc := "(I)I" } : MethodName) prog_5_method_18_code (5 : Nat) (Option.some FieldType.int)) ∈ ch_GL := ch_c3 141 rfl rfl
theorem kw_622 : (Cond.methodLink "CellHandover$Network" (156 : Nat) ({ cls := "CellHandover$Network", name := "comesBefore", desc := "(II)Z" } : MethodName)) ∈ ch_GL := ch_c3 142 rfl rfl
theorem kb_623 : (Cond.privateMethod ({ cls := "CellHandover$Network", name := "comesBefore", desc := "(II)Z" } : MethodName)) ∈ lw_tbl := ch_b3 143 rfl
theorem kw_624 : (Cond.instanceMethod ({ cls := "CellHandover$Network", name := "comesBefore", desc := "(II)Z" } : MethodName)) ∈ ch_GL := ch_c3 144 rfl rfl
theorem kw_625 : (Cond.code ({ cls := "CellHandover$Network", name := "comesBefore", desc := "(II)Z" } : MethodName) prog_5_method_19_code (5 : Nat) (Option.some FieldType.boolean)) ∈ ch_GL := ch_c3 145 rfl rfl
theorem kw_626 : (Cond.methodLink "CellHandover$Simulator" (157 : Nat) ({ cls := "CellHandover$Simulator", name := "serve", desc := "(LCellHandover$Network;LCellHandover$Mobile;I)V" } : MethodName)) ∈ ch_GL := ch_c3 146 rfl rfl
theorem kb_627 : (Cond.privateMethod ({ cls := "CellHandover$Simulator", name := "serve", desc := "(LCellHandover$Network;LCellHandover$Mobile;I)V" } : MethodName)) ∈ lw_tbl := ch_b3 147 rfl
theorem kw_628 : (Cond.instanceMethod ({ cls := "CellHandover$Simulator", name := "serve", desc := "(LCellHandover$Network;LCellHandover$Mobile;I)V" } : MethodName)) ∈ ch_GL := ch_c3 148 rfl rfl
theorem kw_629 : (Cond.code ({ cls := "CellHandover$Simulator", name := "serve", desc := "(LCellHandover$Network;LCellHandover$Mobile;I)V" } : MethodName) prog_10_method_10_code (4 : Nat) (Option.none : Option FieldType)) ∈ ch_GL := ch_c3 149 rfl rfl
theorem kw_630 : (Cond.methodLink "CellHandover$Simulator" (161 : Nat) ({ cls := "CellHandover$Network", name := "handOver", desc := "(LCellHandover$Mobile;I)V" } : MethodName)) ∈ ch_GL := ch_c3 150 rfl rfl
theorem kw_631 : (Cond.instanceMethod ({ cls := "CellHandover$Network", name := "handOver", desc := "(LCellHandover$Mobile;I)V" } : MethodName)) ∈ ch_GL := ch_c3 151 rfl rfl
theorem kw_632 : (Cond.selects "CellHandover$Network" ({ cls := "CellHandover$Network", name := "handOver", desc := "(LCellHandover$Mobile;I)V" } : MethodName) ({ cls := "CellHandover$Network", name := "handOver", desc := "(LCellHandover$Mobile;I)V" } : MethodName)) ∈ ch_GL := ch_c3 152 rfl rfl
theorem kw_633 : (Cond.code ({ cls := "CellHandover$Network", name := "handOver", desc := "(LCellHandover$Mobile;I)V" } : MethodName) prog_5_method_22_code (4 : Nat) (Option.none : Option FieldType)) ∈ ch_GL := ch_c3 153 rfl rfl
theorem kw_634 : (Cond.methodLink "CellHandover$Network" (198 : Nat) ({ cls := "CellHandover$Mobile", name := "isBarredAt", desc := "(II)Z" } : MethodName)) ∈ ch_GL := ch_c3 154 rfl rfl
theorem kw_635 : (Cond.instanceMethod ({ cls := "CellHandover$Mobile", name := "isBarredAt", desc := "(II)Z" } : MethodName)) ∈ ch_GL := ch_c3 155 rfl rfl
theorem kw_636 : (Cond.selects "CellHandover$Mobile" ({ cls := "CellHandover$Mobile", name := "isBarredAt", desc := "(II)Z" } : MethodName) ({ cls := "CellHandover$Mobile", name := "isBarredAt", desc := "(II)Z" } : MethodName)) ∈ ch_GL := ch_c3 156 rfl rfl
theorem kw_637 : (Cond.code ({ cls := "CellHandover$Mobile", name := "isBarredAt", desc := "(II)Z" } : MethodName) prog_4_method_13_code (3 : Nat) (Option.some FieldType.boolean)) ∈ ch_GL := ch_c3 157 rfl rfl
theorem kw_638 : (Cond.methodLink "CellHandover$Network" (177 : Nat) ({ cls := "CellHandover$Network", name := "count", desc := "(I)V" } : MethodName)) ∈ ch_GL := ch_c3 158 rfl rfl
theorem kw_639 : (Cond.methodLink "CellHandover$Network" (201 : Nat) ({ cls := "CellHandover$Mobile", name := "bar", desc := "(II)V" } : MethodName)) ∈ ch_GL := ch_c3 159 rfl rfl
theorem kw_640 : (Cond.instanceMethod ({ cls := "CellHandover$Mobile", name := "bar", desc := "(II)V" } : MethodName)) ∈ ch_GL := ch_c3 160 rfl rfl
theorem kw_641 : (Cond.selects "CellHandover$Mobile" ({ cls := "CellHandover$Mobile", name := "bar", desc := "(II)V" } : MethodName) ({ cls := "CellHandover$Mobile", name := "bar", desc := "(II)V" } : MethodName)) ∈ ch_GL := ch_c3 161 rfl rfl
theorem kw_642 : (Cond.code ({ cls := "CellHandover$Mobile", name := "bar", desc := "(II)V" } : MethodName) prog_4_method_12_code (3 : Nat) (Option.none : Option FieldType)) ∈ ch_GL := ch_c3 162 rfl rfl
theorem kw_643 : (Cond.methodLink "CellHandover$Simulator" (165 : Nat) ({ cls := "CellHandover$Mobile", name := "beginToTalk", desc := "(I)V" } : MethodName)) ∈ ch_GL := ch_c3 163 rfl rfl
theorem kw_644 : (Cond.instanceMethod ({ cls := "CellHandover$Mobile", name := "beginToTalk", desc := "(I)V" } : MethodName)) ∈ ch_GL := ch_c3 164 rfl rfl
theorem kw_645 : (Cond.selects "CellHandover$Mobile" ({ cls := "CellHandover$Mobile", name := "beginToTalk", desc := "(I)V" } : MethodName) ({ cls := "CellHandover$Mobile", name := "beginToTalk", desc := "(I)V" } : MethodName)) ∈ ch_GL := ch_c3 165 rfl rfl
theorem kw_646 : (Cond.code ({ cls := "CellHandover$Mobile", name := "beginToTalk", desc := "(I)V" } : MethodName) prog_4_method_4_code (2 : Nat) (Option.none : Option FieldType)) ∈ ch_GL := ch_c3 166 rfl rfl
theorem kw_647 : (Cond.methodLink "CellHandover$Simulator" (34 : Nat) ({ cls := "CellHandover$Simulator", name := "decideHandovers", desc := "(LCellHandover$Network;)V" } : MethodName)) ∈ ch_GL := ch_c3 167 rfl rfl
theorem kb_648 : (Cond.privateMethod ({ cls := "CellHandover$Simulator", name := "decideHandovers", desc := "(LCellHandover$Network;)V" } : MethodName)) ∈ lw_tbl := ch_b3 168 rfl
theorem kw_649 : (Cond.instanceMethod ({ cls := "CellHandover$Simulator", name := "decideHandovers", desc := "(LCellHandover$Network;)V" } : MethodName)) ∈ ch_GL := ch_c3 169 rfl rfl
theorem kw_650 : (Cond.code ({ cls := "CellHandover$Simulator", name := "decideHandovers", desc := "(LCellHandover$Network;)V" } : MethodName) prog_10_method_11_code (4 : Nat) (Option.none : Option FieldType)) ∈ ch_GL := ch_c3 170 rfl rfl
theorem kw_651 : (Cond.methodLink "CellHandover$Simulator" (171 : Nat) ({ cls := "CellHandover$Simulator", name := "considerHandover", desc := "(LCellHandover$Network;LCellHandover$Mobile;)V" } : MethodName)) ∈ ch_GL := ch_c3 171 rfl rfl
theorem kb_652 : (Cond.privateMethod ({ cls := "CellHandover$Simulator", name := "considerHandover", desc := "(LCellHandover$Network;LCellHandover$Mobile;)V" } : MethodName)) ∈ lw_tbl := ch_b3 172 rfl
theorem kw_653 : (Cond.instanceMethod ({ cls := "CellHandover$Simulator", name := "considerHandover", desc := "(LCellHandover$Network;LCellHandover$Mobile;)V" } : MethodName)) ∈ ch_GL := ch_c3 173 rfl rfl
theorem kw_654 : (Cond.code ({ cls := "CellHandover$Simulator", name := "considerHandover", desc := "(LCellHandover$Network;LCellHandover$Mobile;)V" } : MethodName) prog_10_method_12_code (5 : Nat) (Option.none : Option FieldType)) ∈ ch_GL := ch_c3 174 rfl rfl
theorem kw_655 : (Cond.methodLink "CellHandover$Simulator" (53 : Nat) ({ cls := "CellHandover$Ranking", name := "rank", desc := "(LCellHandover$Network;LCellHandover$Mobile;)V" } : MethodName)) ∈ ch_GL := ch_c3 175 rfl rfl
theorem kw_656 : (Cond.instanceMethod ({ cls := "CellHandover$Ranking", name := "rank", desc := "(LCellHandover$Network;LCellHandover$Mobile;)V" } : MethodName)) ∈ ch_GL := ch_c3 176 rfl rfl
theorem kw_657 : (Cond.selects "CellHandover$Ranking" ({ cls := "CellHandover$Ranking", name := "rank", desc := "(LCellHandover$Network;LCellHandover$Mobile;)V" } : MethodName) ({ cls := "CellHandover$Ranking", name := "rank", desc := "(LCellHandover$Network;LCellHandover$Mobile;)V" } : MethodName)) ∈ ch_GL := ch_c3 177 rfl rfl
theorem kw_658 : (Cond.code ({ cls := "CellHandover$Ranking", name := "rank", desc := "(LCellHandover$Network;LCellHandover$Mobile;)V" } : MethodName) prog_8_method_2_code (6 : Nat) (Option.none : Option FieldType)) ∈ ch_GL := ch_c3 178 rfl rfl
theorem kw_659 : (Cond.methodLink "CellHandover$Ranking" (31 : Nat) ({ cls := "CellHandover$Mobile", name := "averageOf", desc := "(I)I" } : MethodName)) ∈ ch_GL := ch_c3 179 rfl rfl
theorem kw_660 : (Cond.methodLink "CellHandover$Ranking" (35 : Nat) ({ cls := "CellHandover$Network", name := "cellAt", desc := "(I)LCellHandover$Cell;" } : MethodName)) ∈ ch_GL := ch_c3 180 rfl rfl
theorem kw_661 : (Cond.methodLink "CellHandover$Ranking" (49 : Nat) ({ cls := "CellHandover$Ranking", name := "marginOf", desc := "(LCellHandover$Network;LCellHandover$Mobile;I)I" } : MethodName)) ∈ ch_GL := ch_c3 181 rfl rfl
theorem kb_662 : (Cond.privateMethod ({ cls := "CellHandover$Ranking", name := "marginOf", desc := "(LCellHandover$Network;LCellHandover$Mobile;I)I" } : MethodName)) ∈ lw_tbl := ch_b3 182 rfl
theorem kw_663 : (Cond.instanceMethod ({ cls := "CellHandover$Ranking", name := "marginOf", desc := "(LCellHandover$Network;LCellHandover$Mobile;I)I" } : MethodName)) ∈ ch_GL := ch_c3 183 rfl rfl
theorem kw_664 : (Cond.code ({ cls := "CellHandover$Ranking", name := "marginOf", desc := "(LCellHandover$Network;LCellHandover$Mobile;I)I" } : MethodName) prog_8_method_3_code (7 : Nat) (Option.some FieldType.int)) ∈ ch_GL := ch_c3 184 rfl rfl
theorem kw_665 : (Cond.methodLink "CellHandover$Ranking" (57 : Nat) ({ cls := "CellHandover$Network", name := "relationAt", desc := "(II)LCellHandover$Relation;" } : MethodName)) ∈ ch_GL := ch_c3 185 rfl rfl
theorem kw_666 : (Cond.methodLink "CellHandover$Ranking" (66 : Nat) ({ cls := "CellHandover$Mobile", name := "reportsOf", desc := "(I)I" } : MethodName)) ∈ ch_GL := ch_c3 186 rfl rfl
theorem kw_667 : (Cond.methodLink "CellHandover$Ranking" (75 : Nat) ({ cls := "CellHandover$Mobile", name := "isBarredAt", desc := "(II)Z" } : MethodName)) ∈ ch_GL := ch_c3 187 rfl rfl
theorem kw_668 : (Cond.methodLink "CellHandover$Ranking" (53 : Nat) ({ cls := "CellHandover$Ranking", name := "insert", desc := "(II)V" } : MethodName)) ∈ ch_GL := ch_c3 188 rfl rfl
theorem kb_669 : (Cond.privateMethod ({ cls := "CellHandover$Ranking", name := "insert", desc := "(II)V" } : MethodName)) ∈ lw_tbl := ch_b3 189 rfl
theorem kw_670 : (Cond.instanceMethod ({ cls := "CellHandover$Ranking", name := "insert", desc := "(II)V" } : MethodName)) ∈ ch_GL := ch_c3 190 rfl rfl
theorem kw_671 : (Cond.code ({ cls := "CellHandover$Ranking", name := "insert", desc := "(II)V" } : MethodName) prog_8_method_4_code (4 : Nat) (Option.none : Option FieldType)) ∈ ch_GL := ch_c3 191 rfl rfl
theorem kw_672 : (Cond.methodLink "CellHandover$Simulator" (57 : Nat) ({ cls := "CellHandover$Ranking", name := "cellAtRank", desc := "(I)I" } : MethodName)) ∈ ch_GL := ch_c3 192 rfl rfl
theorem kw_673 : (Cond.instanceMethod ({ cls := "CellHandover$Ranking", name := "cellAtRank", desc := "(I)I" } : MethodName)) ∈ ch_GL := ch_c3 193 rfl rfl
theorem kw_674 : (Cond.selects "CellHandover$Ranking" ({ cls := "CellHandover$Ranking", name := "cellAtRank", desc := "(I)I" } : MethodName) ({ cls := "CellHandover$Ranking", name := "cellAtRank", desc := "(I)I" } : MethodName)) ∈ ch_GL := ch_c3 194 rfl rfl
theorem kw_675 : (Cond.code ({ cls := "CellHandover$Ranking", name := "cellAtRank", desc := "(I)I" } : MethodName) prog_8_method_5_code (2 : Nat) (Option.some FieldType.int)) ∈ ch_GL := ch_c3 195 rfl rfl
theorem kw_676 : (Cond.methodLink "CellHandover$Simulator" (182 : Nat) ({ cls := "CellHandover$Network", name := "hasQueuePlace", desc := "(I)Z" } : MethodName)) ∈ ch_GL := ch_c3 196 rfl rfl
theorem kw_677 : (Cond.instanceMethod ({ cls := "CellHandover$Network", name := "hasQueuePlace", desc := "(I)Z" } : MethodName)) ∈ ch_GL := ch_c3 197 rfl rfl
theorem kw_678 : (Cond.selects "CellHandover$Network" ({ cls := "CellHandover$Network", name := "hasQueuePlace", desc := "(I)Z" } : MethodName) ({ cls := "CellHandover$Network", name := "hasQueuePlace", desc := "(I)Z" } : MethodName)) ∈ ch_GL := ch_c3 198 rfl rfl
theorem kw_679 : (Cond.code ({ cls := "CellHandover$Network", name := "hasQueuePlace", desc := "(I)Z" } : MethodName) prog_5_method_16_code (2 : Nat) (Option.some FieldType.boolean)) ∈ ch_GL := ch_c3 199 rfl rfl
theorem kw_680 : (Cond.methodLink "CellHandover$Network" (147 : Nat) ({ cls := "CellHandover$Network", name := "requestsAt", desc := "(I)I" } : MethodName)) ∈ ch_GL := ch_c3 200 rfl rfl
theorem kw_681 : (Cond.instanceMethod ({ cls := "CellHandover$Network", name := "requestsAt", desc := "(I)I" } : MethodName)) ∈ ch_GL := ch_c3 201 rfl rfl
theorem kw_682 : (Cond.selects "CellHandover$Network" ({ cls := "CellHandover$Network", name := "requestsAt", desc := "(I)I" } : MethodName) ({ cls := "CellHandover$Network", name := "requestsAt", desc := "(I)I" } : MethodName)) ∈ ch_GL := ch_c3 202 rfl rfl
theorem kw_683 : (Cond.code ({ cls := "CellHandover$Network", name := "requestsAt", desc := "(I)I" } : MethodName) prog_5_method_15_code (4 : Nat) (Option.some FieldType.int)) ∈ ch_GL := ch_c3 203 rfl rfl
theorem kw_684 : (Cond.methodLink "CellHandover$Simulator" (185 : Nat) ({ cls := "CellHandover$Mobile", name := "makeRequest", desc := "(II)V" } : MethodName)) ∈ ch_GL := ch_c3 204 rfl rfl
theorem kw_685 : (Cond.instanceMethod ({ cls := "CellHandover$Mobile", name := "makeRequest", desc := "(II)V" } : MethodName)) ∈ ch_GL := ch_c3 205 rfl rfl
theorem kw_686 : (Cond.selects "CellHandover$Mobile" ({ cls := "CellHandover$Mobile", name := "makeRequest", desc := "(II)V" } : MethodName) ({ cls := "CellHandover$Mobile", name := "makeRequest", desc := "(II)V" } : MethodName)) ∈ ch_GL := ch_c3 206 rfl rfl
theorem kw_687 : (Cond.code ({ cls := "CellHandover$Mobile", name := "makeRequest", desc := "(II)V" } : MethodName) prog_4_method_6_code (3 : Nat) (Option.none : Option FieldType)) ∈ ch_GL := ch_c3 207 rfl rfl
theorem kw_688 : (Cond.methodLink "CellHandover$Simulator" (37 : Nat) ({ cls := "CellHandover$Simulator", name := "countCongestion", desc := "(LCellHandover$Network;)V" } : MethodName)) ∈ ch_GL := ch_c3 208 rfl rfl
theorem kb_689 : (Cond.privateMethod ({ cls := "CellHandover$Simulator", name := "countCongestion", desc := "(LCellHandover$Network;)V" } : MethodName)) ∈ lw_tbl := ch_b3 209 rfl
theorem kw_690 : (Cond.instanceMethod ({ cls := "CellHandover$Simulator", name := "countCongestion", desc := "(LCellHandover$Network;)V" } : MethodName)) ∈ ch_GL := ch_c3 210 rfl rfl
theorem kw_691 : (Cond.code ({ cls := "CellHandover$Simulator", name := "countCongestion", desc := "(LCellHandover$Network;)V" } : MethodName) prog_10_method_13_code (3 : Nat) (Option.none : Option FieldType)) ∈ ch_GL := ch_c3 211 rfl rfl
theorem kw_692 : (Cond.methodLink "CellHandover$Simulator" (40 : Nat) ({ cls := "CellHandover$Simulator", name := "expireRequests", desc := "(LCellHandover$Network;)V" } : MethodName)) ∈ ch_GL := ch_c3 212 rfl rfl
theorem kb_693 : (Cond.privateMethod ({ cls := "CellHandover$Simulator", name := "expireRequests", desc := "(LCellHandover$Network;)V" } : MethodName)) ∈ lw_tbl := ch_b3 213 rfl
theorem kw_694 : (Cond.instanceMethod ({ cls := "CellHandover$Simulator", name := "expireRequests", desc := "(LCellHandover$Network;)V" } : MethodName)) ∈ ch_GL := ch_c3 214 rfl rfl
theorem kw_695 : (Cond.code ({ cls := "CellHandover$Simulator", name := "expireRequests", desc := "(LCellHandover$Network;)V" } : MethodName) prog_10_method_14_code (4 : Nat) (Option.none : Option FieldType)) ∈ ch_GL := ch_c3 215 rfl rfl
theorem kw_696 : (Cond.methodLink "CellHandover$Simulator" (198 : Nat) ({ cls := "CellHandover$Simulator", name := "expire", desc := "(LCellHandover$Network;LCellHandover$Mobile;)V" } : MethodName)) ∈ ch_GL := ch_c3 216 rfl rfl
theorem kb_697 : (Cond.privateMethod ({ cls := "CellHandover$Simulator", name := "expire", desc := "(LCellHandover$Network;LCellHandover$Mobile;)V" } : MethodName)) ∈ lw_tbl := ch_b3 217 rfl
theorem kw_698 : (Cond.instanceMethod ({ cls := "CellHandover$Simulator", name := "expire", desc := "(LCellHandover$Network;LCellHandover$Mobile;)V" } : MethodName)) ∈ ch_GL := ch_c3 218 rfl rfl
theorem kw_699 : (Cond.code ({ cls := "CellHandover$Simulator", name := "expire", desc := "(LCellHandover$Network;LCellHandover$Mobile;)V" } : MethodName) prog_10_method_15_code (3 : Nat) (Option.none : Option FieldType)) ∈ ch_GL := ch_c3 219 rfl rfl
theorem kw_700 : (Cond.methodLink "CellHandoverLaw" (252 : Nat) ({ cls := "CellHandover", name := "undoCount", desc := "()I" } : MethodName)) ∈ ch_GL := ch_c3 220 rfl rfl
theorem kw_701 : (Cond.instanceMethod ({ cls := "CellHandover", name := "undoCount", desc := "()I" } : MethodName)) ∈ ch_GL := ch_c3 221 rfl rfl
theorem kw_702 : (Cond.selects "CellHandover" ({ cls := "CellHandover", name := "undoCount", desc := "()I" } : MethodName) ({ cls := "CellHandover", name := "undoCount", desc := "()I" } : MethodName)) ∈ ch_GL := ch_c3 222 rfl rfl
theorem kw_703 : (Cond.code ({ cls := "CellHandover", name := "undoCount", desc := "()I" } : MethodName) prog_1_method_39_code (1 : Nat) (Option.some FieldType.int)) ∈ ch_GL := ch_c3 223 rfl rfl
theorem kw_704 : (Cond.methodLink "CellHandoverLaw" (258 : Nat) ({ cls := "CellHandover", name := "undo", desc := "()I" } : MethodName)) ∈ ch_GL := ch_c3 224 rfl rfl
theorem kw_705 : (Cond.instanceMethod ({ cls := "CellHandover", name := "undo", desc := "()I" } : MethodName)) ∈ ch_GL := ch_c3 225 rfl rfl
theorem kw_706 : (Cond.selects "CellHandover" ({ cls := "CellHandover", name := "undo", desc := "()I" } : MethodName) ({ cls := "CellHandover", name := "undo", desc := "()I" } : MethodName)) ∈ ch_GL := ch_c3 226 rfl rfl
theorem kw_707 : (Cond.code ({ cls := "CellHandover", name := "undo", desc := "()I" } : MethodName) prog_1_method_40_code (1 : Nat) (Option.some FieldType.int)) ∈ ch_GL := ch_c3 227 rfl rfl
theorem kw_708 : (Cond.methodLink "CellHandover" (237 : Nat) ({ cls := "CellHandover$History", name := "takeBack", desc := "(LCellHandover$Network;)V" } : MethodName)) ∈ ch_GL := ch_c3 228 rfl rfl
theorem kw_709 : (Cond.instanceMethod ({ cls := "CellHandover$History", name := "takeBack", desc := "(LCellHandover$Network;)V" } : MethodName)) ∈ ch_GL := ch_c3 229 rfl rfl
theorem kw_710 : (Cond.selects "CellHandover$History" ({ cls := "CellHandover$History", name := "takeBack", desc := "(LCellHandover$Network;)V" } : MethodName) ({ cls := "CellHandover$History", name := "takeBack", desc := "(LCellHandover$Network;)V" } : MethodName)) ∈ ch_GL := ch_c3 230 rfl rfl
theorem kw_711 : (Cond.code ({ cls := "CellHandover$History", name := "takeBack", desc := "(LCellHandover$Network;)V" } : MethodName) prog_3_method_4_code (4 : Nat) (Option.none : Option FieldType)) ∈ ch_GL := ch_c3 231 rfl rfl
theorem kw_712 : (Cond.methodLink "CellHandoverLaw" (277 : Nat) ({ cls := "CellHandover", name := "saveSnapshot", desc := "()V" } : MethodName)) ∈ ch_GL := ch_c3 232 rfl rfl
theorem kw_713 : (Cond.instanceMethod ({ cls := "CellHandover", name := "saveSnapshot", desc := "()V" } : MethodName)) ∈ ch_GL := ch_c3 233 rfl rfl
theorem kw_714 : (Cond.selects "CellHandover" ({ cls := "CellHandover", name := "saveSnapshot", desc := "()V" } : MethodName) ({ cls := "CellHandover", name := "saveSnapshot", desc := "()V" } : MethodName)) ∈ ch_GL := ch_c3 234 rfl rfl
theorem kw_715 : (Cond.code ({ cls := "CellHandover", name := "saveSnapshot", desc := "()V" } : MethodName) prog_1_method_41_code (1 : Nat) (Option.none : Option FieldType)) ∈ ch_GL := ch_c3 235 rfl rfl
theorem kw_716 : (Cond.methodLink "CellHandover" (83 : Nat) ({ cls := "CellHandover$Network", name := "copyFrom", desc := "(LCellHandover$Network;)V" } : MethodName)) ∈ ch_GL := ch_c3 236 rfl rfl
theorem kw_717 : (Cond.methodLink "CellHandoverLaw" (298 : Nat) ({ cls := "CellHandover", name := "restoreSnapshot", desc := "()Z" } : MethodName)) ∈ ch_GL := ch_c3 237 rfl rfl
theorem kw_718 : (Cond.instanceMethod ({ cls := "CellHandover", name := "restoreSnapshot", desc := "()Z" } : MethodName)) ∈ ch_GL := ch_c3 238 rfl rfl
theorem kw_719 : (Cond.selects "CellHandover" ({ cls := "CellHandover", name := "restoreSnapshot", desc := "()Z" } : MethodName) ({ cls := "CellHandover", name := "restoreSnapshot", desc := "()Z" } : MethodName)) ∈ ch_GL := ch_c3 239 rfl rfl
theorem kw_720 : (Cond.code ({ cls := "CellHandover", name := "restoreSnapshot", desc := "()Z" } : MethodName) prog_1_method_42_code (1 : Nat) (Option.some FieldType.boolean)) ∈ ch_GL := ch_c4 0 rfl rfl
theorem kw_721 : (Cond.methodLink "CellHandover" (87 : Nat) ({ cls := "CellHandover$History", name := "forget", desc := "()V" } : MethodName)) ∈ ch_GL := ch_c4 1 rfl rfl
theorem kw_722 : (Cond.instanceMethod ({ cls := "CellHandover$History", name := "forget", desc := "()V" } : MethodName)) ∈ ch_GL := ch_c4 2 rfl rfl
theorem kw_723 : (Cond.selects "CellHandover$History" ({ cls := "CellHandover$History", name := "forget", desc := "()V" } : MethodName) ({ cls := "CellHandover$History", name := "forget", desc := "()V" } : MethodName)) ∈ ch_GL := ch_c4 3 rfl rfl
theorem kw_724 : (Cond.code ({ cls := "CellHandover$History", name := "forget", desc := "()V" } : MethodName) prog_3_method_2_code (1 : Nat) (Option.none : Option FieldType)) ∈ ch_GL := ch_c4 4 rfl rfl
theorem kb_725 : (Cond.methodLinkNest "CellHandoverLaw" (283 : Nat) ({ cls := "CellHandoverLaw$Own", name := "step", desc := "()V" } : MethodName) "CellHandoverLaw") ∈ lw_tbl := ch_b4 5 rfl
theorem kb_726 : (Cond.privateMethod ({ cls := "CellHandoverLaw$Own", name := "step", desc := "()V" } : MethodName)) ∈ lw_tbl := ch_b4 6 rfl
theorem kw_727 : (Cond.instanceMethod ({ cls := "CellHandoverLaw$Own", name := "step", desc := "()V" } : MethodName)) ∈ ch_GL := ch_c4 7 rfl rfl
theorem kw_728 : (Cond.instantiable "CellHandoverLaw$Own" (16 : Nat)) ∈ ch_GL := ch_c4 8 rfl rfl
theorem kw_729 : (Cond.code ({ cls := "CellHandoverLaw$Own", name := "step", desc := "()V" } : MethodName) prog_15_method_15_code (7 : Nat) (Option.none : Option FieldType)) ∈ ch_GL := ch_c4 9 rfl rfl
theorem kw_730 : (Cond.methodLink "CellHandoverLaw$Own" (154 : Nat) ({ cls := "java/lang/Math", name := "min", desc := "(II)I" } : MethodName)) ∈ ch_GL := ch_c4 10 rfl rfl
theorem kw_731 : (Cond.methodLink "CellHandoverLaw$Own" (80 : Nat) ({ cls := "CellHandoverLaw$Own", name := "level", desc := "(III)I" } : MethodName)) ∈ ch_GL := ch_c4 11 rfl rfl
theorem kb_732 : (Cond.privateMethod ({ cls := "CellHandoverLaw$Own", name := "level", desc := "(III)I" } : MethodName)) ∈ lw_tbl := ch_b4 12 rfl
theorem kw_733 : (Cond.instanceMethod ({ cls := "CellHandoverLaw$Own", name := "level", desc := "(III)I" } : MethodName)) ∈ ch_GL := ch_c4 13 rfl rfl
theorem kw_734 : (Cond.code ({ cls := "CellHandoverLaw$Own", name := "level", desc := "(III)I" } : MethodName) prog_15_method_3_code (5 : Nat) (Option.some FieldType.int)) ∈ ch_GL := ch_c4 14 rfl rfl
theorem kw_735 : (Cond.methodLink "CellHandoverLaw$Own" (74 : Nat) ({ cls := "java/lang/Math", name := "abs", desc := "(I)I" } : MethodName)) ∈ ch_GL := ch_c4 15 rfl rfl
theorem kb_736 : (Cond.methodLinkNest "CellHandoverLaw$Own" (157 : Nat) ({ cls := "CellHandoverLaw$Mobile", name := "ends", desc := "()V" } : MethodName) "CellHandoverLaw") ∈ lw_tbl := ch_b4 16 rfl
theorem kb_737 : (Cond.privateMethod ({ cls := "CellHandoverLaw$Mobile", name := "ends", desc := "()V" } : MethodName)) ∈ lw_tbl := ch_b4 17 rfl
theorem kw_738 : (Cond.instanceMethod ({ cls := "CellHandoverLaw$Mobile", name := "ends", desc := "()V" } : MethodName)) ∈ ch_GL := ch_c4 18 rfl rfl
theorem kw_739 : (Cond.instantiable "CellHandoverLaw$Mobile" (13 : Nat)) ∈ ch_GL := ch_c4 19 rfl rfl
theorem kw_740 : (Cond.code ({ cls := "CellHandoverLaw$Mobile", name := "ends", desc := "()V" } : MethodName) prog_14_method_4_code (1 : Nat) (Option.none : Option FieldType)) ∈ ch_GL := ch_c4 20 rfl rfl
theorem kb_741 : (Cond.methodLinkNest "CellHandoverLaw$Own" (137 : Nat) ({ cls := "CellHandoverLaw$Mobile", name := "average", desc := "(I)I" } : MethodName) "CellHandoverLaw") ∈ lw_tbl := ch_b4 21 rfl
theorem kb_742 : (Cond.privateMethod ({ cls := "CellHandoverLaw$Mobile", name := "average", desc := "(I)I" } : MethodName)) ∈ lw_tbl := ch_b4 22 rfl
theorem kw_743 : (Cond.instanceMethod ({ cls := "CellHandoverLaw$Mobile", name := "average", desc := "(I)I" } : MethodName)) ∈ ch_GL := ch_c4 23 rfl rfl
theorem kw_744 : (Cond.code ({ cls := "CellHandoverLaw$Mobile", name := "average", desc := "(I)I" } : MethodName) prog_14_method_3_code (7 : Nat) (Option.some FieldType.int)) ∈ ch_GL := ch_c4 24 rfl rfl
theorem kw_745 : (Cond.methodLink "CellHandoverLaw$Own" (117 : Nat) ({ cls := "CellHandoverLaw$Own", name := "free", desc := "(I)Z" } : MethodName)) ∈ ch_GL := ch_c4 25 rfl rfl
theorem kb_746 : (Cond.privateMethod ({ cls := "CellHandoverLaw$Own", name := "free", desc := "(I)Z" } : MethodName)) ∈ lw_tbl := ch_b4 26 rfl
theorem kw_747 : (Cond.instanceMethod ({ cls := "CellHandoverLaw$Own", name := "free", desc := "(I)Z" } : MethodName)) ∈ ch_GL := ch_c4 27 rfl rfl
theorem kw_748 : (Cond.code ({ cls := "CellHandoverLaw$Own", name := "free", desc := "(I)Z" } : MethodName) prog_15_method_8_code (2 : Nat) (Option.some FieldType.boolean)) ∈ ch_GL := ch_c4 28 rfl rfl
theorem kw_749 : (Cond.methodLink "CellHandoverLaw$Own" (93 : Nat) ({ cls := "CellHandoverLaw$Own", name := "busy", desc := "(I)I" } : MethodName)) ∈ ch_GL := ch_c4 29 rfl rfl
theorem kb_750 : (Cond.privateMethod ({ cls := "CellHandoverLaw$Own", name := "busy", desc := "(I)I" } : MethodName)) ∈ lw_tbl := ch_b4 30 rfl
theorem kw_751 : (Cond.instanceMethod ({ cls := "CellHandoverLaw$Own", name := "busy", desc := "(I)I" } : MethodName)) ∈ ch_GL := ch_c4 31 rfl rfl
theorem kw_752 : (Cond.code ({ cls := "CellHandoverLaw$Own", name := "busy", desc := "(I)I" } : MethodName) prog_15_method_7_code (4 : Nat) (Option.some FieldType.int)) ∈ ch_GL := ch_c4 32 rfl rfl
theorem kw_753 : (Cond.methodLink "CellHandoverLaw$Own" (99 : Nat) ({ cls := "CellHandoverLaw$Own", name := "waits", desc := "(I)I" } : MethodName)) ∈ ch_GL := ch_c4 33 rfl rfl
theorem kb_754 : (Cond.privateMethod ({ cls := "CellHandoverLaw$Own", name := "waits", desc := "(I)I" } : MethodName)) ∈ lw_tbl := ch_b4 34 rfl
theorem kw_755 : (Cond.instanceMethod ({ cls := "CellHandoverLaw$Own", name := "waits", desc := "(I)I" } : MethodName)) ∈ ch_GL := ch_c4 35 rfl rfl
theorem kw_756 : (Cond.code ({ cls := "CellHandoverLaw$Own", name := "waits", desc := "(I)I" } : MethodName) prog_15_method_9_code (4 : Nat) (Option.some FieldType.int)) ∈ ch_GL := ch_c4 36 rfl rfl
theorem kw_757 : (Cond.methodLink "CellHandoverLaw$Own" (160 : Nat) ({ cls := "CellHandoverLaw$Own", name := "queue", desc := "(I)[I" } : MethodName)) ∈ ch_GL := ch_c4 37 rfl rfl
theorem kb_758 : (Cond.privateMethod ({ cls := "CellHandoverLaw$Own", name := "queue", desc := "(I)[I" } : MethodName)) ∈ lw_tbl := ch_b4 38 rfl
theorem kw_759 : (Cond.instanceMethod ({ cls := "CellHandoverLaw$Own", name := "queue", desc := "(I)[I" } : MethodName)) ∈ ch_GL := ch_c4 39 rfl rfl
theorem kw_760 : (Cond.code ({ cls := "CellHandoverLaw$Own", name := "queue", desc := "(I)[I" } : MethodName) prog_15_method_10_code (7 : Nat) (Option.some (FieldType.array FieldType.int))) ∈ ch_GL := ch_c4 40 rfl rfl
theorem kw_761 : (Cond.methodLink "CellHandoverLaw$Own" (144 : Nat) ({ cls := "CellHandoverLaw$Own", name := "hands", desc := "(II)V" } : MethodName)) ∈ ch_GL := ch_c4 41 rfl rfl
theorem kb_762 : (Cond.privateMethod ({ cls := "CellHandoverLaw$Own", name := "hands", desc := "(II)V" } : MethodName)) ∈ lw_tbl := ch_b4 42 rfl
theorem kw_763 : (Cond.instanceMethod ({ cls := "CellHandoverLaw$Own", name := "hands", desc := "(II)V" } : MethodName)) ∈ ch_GL := ch_c4 43 rfl rfl
theorem kw_764 : (Cond.code ({ cls := "CellHandoverLaw$Own", name := "hands", desc := "(II)V" } : MethodName) prog_15_method_12_code (5 : Nat) (Option.none : Option FieldType)) ∈ ch_GL := ch_c4 44 rfl rfl
theorem kb_765 : (Cond.methodLinkNest "CellHandoverLaw$Own" (121 : Nat) ({ cls := "CellHandoverLaw$Mobile", name := "begins", desc := "(I)V" } : MethodName) "CellHandoverLaw") ∈ lw_tbl := ch_b4 45 rfl
theorem kb_766 : (Cond.privateMethod ({ cls := "CellHandoverLaw$Mobile", name := "begins", desc := "(I)V" } : MethodName)) ∈ lw_tbl := ch_b4 46 rfl
theorem kw_767 : (Cond.instanceMethod ({ cls := "CellHandoverLaw$Mobile", name := "begins", desc := "(I)V" } : MethodName)) ∈ ch_GL := ch_c4 47 rfl rfl
theorem kw_768 : (Cond.code ({ cls := "CellHandoverLaw$Mobile", name := "begins", desc := "(I)V" } : MethodName) prog_14_method_5_code (3 : Nat) (Option.none : Option FieldType)) ∈ ch_GL := ch_c4 48 rfl rfl
theorem kw_769 : (Cond.methodLink "CellHandoverLaw$Own" (163 : Nat) ({ cls := "CellHandoverLaw$Own", name := "considers", desc := "(I)V" } : MethodName)) ∈ ch_GL := ch_c4 49 rfl rfl
theorem kb_770 : (Cond.privateMethod ({ cls := "CellHandoverLaw$Own", name := "considers", desc := "(I)V" } : MethodName)) ∈ lw_tbl := ch_b4 50 rfl
theorem kw_771 : (Cond.instanceMethod ({ cls := "CellHandoverLaw$Own", name := "considers", desc := "(I)V" } : MethodName)) ∈ ch_GL := ch_c4 51 rfl rfl
theorem kw_772 : (Cond.code ({ cls := "CellHandoverLaw$Own", name := "considers", desc := "(I)V" } : MethodName) prog_15_method_14_code (9 : Nat) (Option.none : Option FieldType)) ∈ ch_GL := ch_c4 52 rfl rfl
theorem kw_773 : (Cond.methodLink "CellHandoverLaw$Own" (140 : Nat) ({ cls := "CellHandoverLaw$Own", name := "ranked", desc := "(I)[I" } : MethodName)) ∈ ch_GL := ch_c4 53 rfl rfl
theorem kb_774 : (Cond.privateMethod ({ cls := "CellHandoverLaw$Own", name := "ranked", desc := "(I)[I" } : MethodName)) ∈ lw_tbl := ch_b4 54 rfl
theorem kw_775 : (Cond.instanceMethod ({ cls := "CellHandoverLaw$Own", name := "ranked", desc := "(I)[I" } : MethodName)) ∈ ch_GL := ch_c4 55 rfl rfl
theorem kw_776 : (Cond.code ({ cls := "CellHandoverLaw$Own", name := "ranked", desc := "(I)[I" } : MethodName) prog_15_method_13_code (11 : Nat) (Option.some (FieldType.array FieldType.int))) ∈ ch_GL := ch_c4 56 rfl rfl
theorem kw_777 : (Cond.methodLink "CellHandoverLaw" (27 : Nat) ({ cls := "CellHandoverLaw", name := "most", desc := "(II)I" } : MethodName)) ∈ ch_GL := ch_c4 57 rfl rfl
theorem kw_778 : (Cond.static ({ cls := "CellHandoverLaw", name := "most", desc := "(II)I" } : MethodName)) ∈ ch_GL := ch_c4 58 rfl rfl
theorem kw_779 : (Cond.code ({ cls := "CellHandoverLaw", name := "most", desc := "(II)I" } : MethodName) method_2_code (2 : Nat) (Option.some FieldType.int)) ∈ ch_GL := ch_c4 59 rfl rfl
theorem kw_780 : (Cond.constant "CellHandoverLaw" (7 : Nat) (2147483647 : Int32)) ∈ ch_GL := ch_c4 60 rfl rfl
theorem kw_781 : (Cond.methodLink "CellHandoverLaw" (23 : Nat) ({ cls := "CellHandoverLaw", name := "cell", desc := "([II)I" } : MethodName)) ∈ ch_GL := ch_c4 61 rfl rfl
theorem kw_782 : (Cond.static ({ cls := "CellHandoverLaw", name := "cell", desc := "([II)I" } : MethodName)) ∈ ch_GL := ch_c4 62 rfl rfl
theorem kw_783 : (Cond.code ({ cls := "CellHandoverLaw", name := "cell", desc := "([II)I" } : MethodName) method_3_code (2 : Nat) (Option.some FieldType.int)) ∈ ch_GL := ch_c4 63 rfl rfl
theorem kw_784 : (Cond.methodLink "CellHandoverLaw" (265 : Nat) ({ cls := "CellHandoverLaw", name := "drawn", desc := "([II)LCellHandoverLaw$Own;" } : MethodName)) ∈ ch_GL := ch_c4 64 rfl rfl
theorem kw_785 : (Cond.static ({ cls := "CellHandoverLaw", name := "drawn", desc := "([II)LCellHandoverLaw$Own;" } : MethodName)) ∈ ch_GL := ch_c4 65 rfl rfl
theorem kw_786 : (Cond.code ({ cls := "CellHandoverLaw", name := "drawn", desc := "([II)LCellHandoverLaw$Own;" } : MethodName) method_8_code (7 : Nat) (Option.some (FieldType.object "CellHandoverLaw$Own"))) ∈ ch_GL := ch_c4 66 rfl rfl
theorem kw_787 : (Cond.classLink "CellHandoverLaw" (20 : Nat) "CellHandoverLaw$Own") ∈ ch_GL := ch_c4 67 rfl rfl
theorem kb_788 : (Cond.methodLinkNest "CellHandoverLaw" (22 : Nat) ({ cls := "CellHandoverLaw$Own", name := "<init>", desc := "()V" } : MethodName) "CellHandoverLaw") ∈ lw_tbl := ch_b4 68 rfl
theorem kw_789 : (Cond.instanceMethod ({ cls := "CellHandoverLaw$Own", name := "<init>", desc := "()V" } : MethodName)) ∈ ch_GL := ch_c4 69 rfl rfl
theorem kw_790 : (Cond.code ({ cls := "CellHandoverLaw$Own", name := "<init>", desc := "()V" } : MethodName) prog_15_method_1_code (1 : Nat) (Option.none : Option FieldType)) ∈ ch_GL := ch_c4 70 rfl rfl
theorem kw_791 : (Cond.methodLink "CellHandoverLaw$Own" (1 : Nat) ({ cls := "java/lang/Object", name := "<init>", desc := "()V" } : MethodName)) ∈ ch_GL := ch_c4 71 rfl rfl
theorem kw_792 : (Cond.classLink "CellHandoverLaw$Own" (28 : Nat) "[I") ∈ ch_GL := ch_c4 72 rfl rfl
theorem kb_793 : (Cond.arrayOver (FieldType.array FieldType.int)) ∈ lw_tbl := ch_b4 73 rfl
theorem kw_794 : (Cond.classLink "CellHandoverLaw$Own" (34 : Nat) "[[I") ∈ ch_GL := ch_c4 74 rfl rfl
theorem kw_795 : (Cond.classLink "CellHandoverLaw$Own" (50 : Nat) "CellHandoverLaw$Mobile") ∈ ch_GL := ch_c4 75 rfl rfl
theorem kb_796 : (Cond.arrayOver (FieldType.object "CellHandoverLaw$Mobile")) ∈ lw_tbl := ch_b4 76 rfl
theorem kw_797 : (Cond.fieldLink "CellHandoverLaw$Own" (57 : Nat) "CellHandoverLaw$Own" "cells" "I") ∈ ch_GL := ch_c4 77 rfl rfl
theorem kb_798 : (Cond.fieldLinkNest "CellHandoverLaw" (31 : Nat) "CellHandoverLaw$Own" "cells" "I" "CellHandoverLaw") ∈ lw_tbl := ch_b4 78 rfl
theorem kw_799 : (Cond.fieldLink "CellHandoverLaw$Own" (60 : Nat) "CellHandoverLaw$Own" "many" "I") ∈ ch_GL := ch_c4 79 rfl rfl
theorem kb_800 : (Cond.fieldLinkNest "CellHandoverLaw" (105 : Nat) "CellHandoverLaw$Own" "many" "I" "CellHandoverLaw") ∈ lw_tbl := ch_b4 80 rfl
theorem kw_801 : (Cond.fieldLink "CellHandoverLaw$Own" (63 : Nat) "CellHandoverLaw$Own" "clock" "I") ∈ ch_GL := ch_c4 81 rfl rfl
theorem kw_802 : (Cond.fieldLink "CellHandoverLaw$Own" (7 : Nat) "CellHandoverLaw$Own" "window" "I") ∈ ch_GL := ch_c4 82 rfl rfl
theorem kb_803 : (Cond.fieldLinkNest "CellHandoverLaw" (41 : Nat) "CellHandoverLaw$Own" "window" "I" "CellHandoverLaw") ∈ lw_tbl := ch_b4 83 rfl
theorem kw_804 : (Cond.fieldLink "CellHandoverLaw$Own" (13 : Nat) "CellHandoverLaw$Own" "least" "I") ∈ ch_GL := ch_c4 84 rfl rfl
theorem kb_805 : (Cond.fieldLinkNest "CellHandoverLaw" (44 : Nat) "CellHandoverLaw$Own" "least" "I" "CellHandoverLaw") ∈ lw_tbl := ch_b4 85 rfl
theorem kw_806 : (Cond.fieldLink "CellHandoverLaw$Own" (16 : Nat) "CellHandoverLaw$Own" "pingPong" "I") ∈ ch_GL := ch_c4 86 rfl rfl
theorem kb_807 : (Cond.fieldLinkNest "CellHandoverLaw" (47 : Nat) "CellHandoverLaw$Own" "pingPong" "I" "CellHandoverLaw") ∈ lw_tbl := ch_b4 87 rfl
theorem kw_808 : (Cond.fieldLink "CellHandoverLaw$Own" (19 : Nat) "CellHandoverLaw$Own" "queueTime" "I") ∈ ch_GL := ch_c4 88 rfl rfl
theorem kb_809 : (Cond.fieldLinkNest "CellHandoverLaw" (50 : Nat) "CellHandoverLaw$Own" "queueTime" "I" "CellHandoverLaw") ∈ lw_tbl := ch_b4 89 rfl
theorem kw_810 : (Cond.fieldLink "CellHandoverLaw$Own" (22 : Nat) "CellHandoverLaw$Own" "dropLevel" "I") ∈ ch_GL := ch_c4 90 rfl rfl
theorem kb_811 : (Cond.fieldLinkNest "CellHandoverLaw" (53 : Nat) "CellHandoverLaw$Own" "dropLevel" "I" "CellHandoverLaw") ∈ lw_tbl := ch_b4 91 rfl
theorem kw_812 : (Cond.fieldLink "CellHandoverLaw$Own" (25 : Nat) "CellHandoverLaw$Own" "dropTime" "I") ∈ ch_GL := ch_c4 92 rfl rfl
theorem kb_813 : (Cond.fieldLinkNest "CellHandoverLaw" (56 : Nat) "CellHandoverLaw$Own" "dropTime" "I" "CellHandoverLaw") ∈ lw_tbl := ch_b4 93 rfl
theorem kw_814 : (Cond.fieldLink "CellHandoverLaw$Own" (30 : Nat) "CellHandoverLaw$Own" "cell" "[[I") ∈ ch_GL := ch_c4 94 rfl rfl
theorem kb_815 : (Cond.fieldLinkNest "CellHandoverLaw" (35 : Nat) "CellHandoverLaw$Own" "cell" "[[I" "CellHandoverLaw") ∈ lw_tbl := ch_b4 95 rfl
theorem kw_816 : (Cond.fieldLink "CellHandoverLaw$Own" (35 : Nat) "CellHandoverLaw$Own" "hysteresis" "[[I") ∈ ch_GL := ch_c4 96 rfl rfl
theorem kb_817 : (Cond.fieldLinkNest "CellHandoverLaw" (38 : Nat) "CellHandoverLaw$Own" "hysteresis" "[[I" "CellHandoverLaw") ∈ lw_tbl := ch_b4 97 rfl
theorem kw_818 : (Cond.fieldLink "CellHandoverLaw$Own" (38 : Nat) "CellHandoverLaw$Own" "successes" "[[I") ∈ ch_GL := ch_c4 98 rfl rfl
theorem kw_819 : (Cond.fieldLink "CellHandoverLaw$Own" (41 : Nat) "CellHandoverLaw$Own" "refusals" "[[I") ∈ ch_GL := ch_c4 99 rfl rfl
theorem kw_820 : (Cond.fieldLink "CellHandoverLaw$Own" (44 : Nat) "CellHandoverLaw$Own" "totals" "[I") ∈ ch_GL := ch_c4 100 rfl rfl
theorem kw_821 : (Cond.fieldLink "CellHandoverLaw$Own" (47 : Nat) "CellHandoverLaw$Own" "congested" "[I") ∈ ch_GL := ch_c4 101 rfl rfl
theorem kw_822 : (Cond.fieldLink "CellHandoverLaw$Own" (52 : Nat) "CellHandoverLaw$Own" "mobiles" "[LCellHandoverLaw$Mobile;") ∈ ch_GL := ch_c4 102 rfl rfl
theorem kb_823 : (Cond.fieldLinkNest "CellHandoverLaw" (154 : Nat) "CellHandoverLaw$Own" "mobiles" "[LCellHandoverLaw$Mobile;" "CellHandoverLaw") ∈ lw_tbl := ch_b4 103 rfl
theorem kw_824 : (Cond.lays "CellHandoverLaw$Own" "CellHandoverLaw$Own" "cells" "I") ∈ ch_GL := ch_c4 104 rfl rfl
theorem kw_825 : (Cond.soleField "CellHandoverLaw$Own" "cells") ∈ ch_GL := ch_c4 105 rfl rfl
theorem kw_826 : (Cond.lays "CellHandoverLaw$Own" "CellHandoverLaw$Own" "many" "I") ∈ ch_GL := ch_c4 106 rfl rfl
theorem kw_827 : (Cond.soleField "CellHandoverLaw$Own" "many") ∈ ch_GL := ch_c4 107 rfl rfl
theorem kw_828 : (Cond.lays "CellHandoverLaw$Own" "CellHandoverLaw$Own" "clock" "I") ∈ ch_GL := ch_c4 108 rfl rfl
theorem kw_829 : (Cond.soleField "CellHandoverLaw$Own" "clock") ∈ ch_GL := ch_c4 109 rfl rfl
theorem kw_830 : (Cond.lays "CellHandoverLaw$Own" "CellHandoverLaw$Own" "window" "I") ∈ ch_GL := ch_c4 110 rfl rfl
theorem kw_831 : (Cond.soleField "CellHandoverLaw$Own" "window") ∈ ch_GL := ch_c4 111 rfl rfl
theorem kw_832 : (Cond.lays "CellHandoverLaw$Own" "CellHandoverLaw$Own" "least" "I") ∈ ch_GL := ch_c4 112 rfl rfl
theorem kw_833 : (Cond.soleField "CellHandoverLaw$Own" "least") ∈ ch_GL := ch_c4 113 rfl rfl
theorem kw_834 : (Cond.lays "CellHandoverLaw$Own" "CellHandoverLaw$Own" "pingPong" "I") ∈ ch_GL := ch_c4 114 rfl rfl
theorem kw_835 : (Cond.soleField "CellHandoverLaw$Own" "pingPong") ∈ ch_GL := ch_c4 115 rfl rfl
theorem kw_836 : (Cond.lays "CellHandoverLaw$Own" "CellHandoverLaw$Own" "queueTime" "I") ∈ ch_GL := ch_c4 116 rfl rfl
theorem kw_837 : (Cond.soleField "CellHandoverLaw$Own" "queueTime") ∈ ch_GL := ch_c4 117 rfl rfl
theorem kw_838 : (Cond.lays "CellHandoverLaw$Own" "CellHandoverLaw$Own" "dropLevel" "I") ∈ ch_GL := ch_c4 118 rfl rfl
theorem kw_839 : (Cond.soleField "CellHandoverLaw$Own" "dropLevel") ∈ ch_GL := ch_c4 119 rfl rfl
theorem kw_840 : (Cond.lays "CellHandoverLaw$Own" "CellHandoverLaw$Own" "dropTime" "I") ∈ ch_GL := ch_c4 120 rfl rfl
theorem kw_841 : (Cond.soleField "CellHandoverLaw$Own" "dropTime") ∈ ch_GL := ch_c4 121 rfl rfl
theorem kw_842 : (Cond.lays "CellHandoverLaw$Own" "CellHandoverLaw$Own" "cell" "[[I") ∈ ch_GL := ch_c4 122 rfl rfl
theorem kw_843 : (Cond.soleField "CellHandoverLaw$Own" "cell") ∈ ch_GL := ch_c4 123 rfl rfl
theorem kw_844 : (Cond.lays "CellHandoverLaw$Own" "CellHandoverLaw$Own" "hysteresis" "[[I") ∈ ch_GL := ch_c4 124 rfl rfl
theorem kw_845 : (Cond.soleField "CellHandoverLaw$Own" "hysteresis") ∈ ch_GL := ch_c4 125 rfl rfl
theorem kw_846 : (Cond.lays "CellHandoverLaw$Own" "CellHandoverLaw$Own" "successes" "[[I") ∈ ch_GL := ch_c4 126 rfl rfl
theorem kw_847 : (Cond.soleField "CellHandoverLaw$Own" "successes") ∈ ch_GL := ch_c4 127 rfl rfl
theorem kw_848 : (Cond.lays "CellHandoverLaw$Own" "CellHandoverLaw$Own" "refusals" "[[I") ∈ ch_GL := ch_c4 128 rfl rfl
theorem kw_849 : (Cond.soleField "CellHandoverLaw$Own" "refusals") ∈ ch_GL := ch_c4 129 rfl rfl
theorem kw_850 : (Cond.lays "CellHandoverLaw$Own" "CellHandoverLaw$Own" "totals" "[I") ∈ ch_GL := ch_c4 130 rfl rfl
theorem kw_851 : (Cond.soleField "CellHandoverLaw$Own" "totals") ∈ ch_GL := ch_c4 131 rfl rfl
theorem kw_852 : (Cond.lays "CellHandoverLaw$Own" "CellHandoverLaw$Own" "congested" "[I") ∈ ch_GL := ch_c4 132 rfl rfl
theorem kw_853 : (Cond.soleField "CellHandoverLaw$Own" "congested") ∈ ch_GL := ch_c4 133 rfl rfl
theorem kw_854 : (Cond.lays "CellHandoverLaw$Own" "CellHandoverLaw$Own" "mobiles" "[LCellHandoverLaw$Mobile;") ∈ ch_GL := ch_c4 134 rfl rfl
theorem kw_855 : (Cond.soleField "CellHandoverLaw$Own" "mobiles") ∈ ch_GL := ch_c4 135 rfl rfl
theorem kw_856 : (Cond.superclass "CellHandoverLaw$Own" "java/lang/Object") ∈ ch_GL := ch_c4 136 rfl rfl
theorem kw_857 : (Cond.methodLink "CellHandoverLaw" (269 : Nat) ({ cls := "CellHandoverLaw", name := "tell", desc := "(LCellHandover;[ILCellHandoverLaw$Own;)I" } : MethodName)) ∈ ch_GL := ch_c4 137 rfl rfl
theorem kw_858 : (Cond.static ({ cls := "CellHandoverLaw", name := "tell", desc := "(LCellHandover;[ILCellHandoverLaw$Own;)I" } : MethodName)) ∈ ch_GL := ch_c4 138 rfl rfl
theorem kw_859 : (Cond.code ({ cls := "CellHandoverLaw", name := "tell", desc := "(LCellHandover;[ILCellHandoverLaw$Own;)I" } : MethodName) method_11_code (5 : Nat) (Option.some FieldType.int)) ∈ ch_GL := ch_c4 139 rfl rfl
theorem kb_860 : (Cond.stringRef "CellHandoverLaw" (72 : Nat) "cell") ∈ lw_tbl := ch_b4 140 rfl
theorem kw_861 : (Cond.methodLink "CellHandoverLaw" (73 : Nat) ({ cls := "CellHandoverLaw", name := "word", desc := "(LCellHandover;[ILjava/lang/String;)V" } : MethodName)) ∈ ch_GL := ch_c4 141 rfl rfl
theorem kw_862 : (Cond.static ({ cls := "CellHandoverLaw", name := "word", desc := "(LCellHandover;[ILjava/lang/String;)V" } : MethodName)) ∈ ch_GL := ch_c4 142 rfl rfl
theorem kw_863 : (Cond.code ({ cls := "CellHandoverLaw", name := "word", desc := "(LCellHandover;[ILjava/lang/String;)V" } : MethodName) method_9_code (4 : Nat) (Option.none : Option FieldType)) ∈ ch_GL := ch_c4 143 rfl rfl
theorem kw_864 : (Cond.methodLink "CellHandoverLaw" (59 : Nat) ({ cls := "java/lang/String", name := "length", desc := "()I" } : MethodName)) ∈ ch_GL := ch_c4 144 rfl rfl
theorem kw_865 : (Cond.instanceMethod ({ cls := "java/lang/String", name := "length", desc := "()I" } : MethodName)) ∈ ch_GL := ch_c4 145 rfl rfl
theorem kw_866 : (Cond.selects "java/lang/String" ({ cls := "java/lang/String", name := "length", desc := "()I" } : MethodName) ({ cls := "java/lang/String", name := "length", desc := "()I" } : MethodName)) ∈ ch_GL := ch_c4 146 rfl rfl
theorem kw_867 : (Cond.code ({ cls := "java/lang/String", name := "length", desc := "()I" } : MethodName) prog_24_method_54_code (1 : Nat) (Option.some FieldType.int)) ∈ ch_GL := ch_c4 147 rfl rfl
theorem kw_868 : (Cond.methodLink "java/lang/String" (335 : Nat) ({ cls := "java/lang/String", name := "coder", desc := "()B" } : MethodName)) ∈ ch_GL := ch_c4 148 rfl rfl
theorem kw_869 : (Cond.instanceMethod ({ cls := "java/lang/String", name := "coder", desc := "()B" } : MethodName)) ∈ ch_GL := ch_c4 149 rfl rfl
theorem kw_870 : (Cond.selects "java/lang/String" ({ cls := "java/lang/String", name := "coder", desc := "()B" } : MethodName) ({ cls := "java/lang/String", name := "coder", desc := "()B" } : MethodName)) ∈ ch_GL := ch_c4 150 rfl rfl
theorem kw_871 : (Cond.code ({ cls := "java/lang/String", name := "coder", desc := "()B" } : MethodName) prog_24_method_152_code (1 : Nat) (Option.some FieldType.byte)) ∈ ch_GL := ch_c4 151 rfl rfl
theorem kw_872 : (Cond.fieldLink "java/lang/String" (38 : Nat) "java/lang/String" "COMPACT_STRINGS" "Z") ∈ ch_GL := ch_c4 152 rfl rfl
theorem kb_873 : (Cond.laysStatic "java/lang/String" "COMPACT_STRINGS" "Z") ∈ lw_tbl := ch_b4 153 rfl
theorem kw_874 : (Cond.methodLink "CellHandoverLaw" (65 : Nat) ({ cls := "java/lang/String", name := "charAt", desc := "(I)C" } : MethodName)) ∈ ch_GL := ch_c4 154 rfl rfl
theorem kw_875 : (Cond.instanceMethod ({ cls := "java/lang/String", name := "charAt", desc := "(I)C" } : MethodName)) ∈ ch_GL := ch_c4 155 rfl rfl
theorem kw_876 : (Cond.selects "java/lang/String" ({ cls := "java/lang/String", name := "charAt", desc := "(I)C" } : MethodName) ({ cls := "java/lang/String", name := "charAt", desc := "(I)C" } : MethodName)) ∈ ch_GL := ch_c4 156 rfl rfl
theorem kw_877 : (Cond.code ({ cls := "java/lang/String", name := "charAt", desc := "(I)C" } : MethodName) prog_24_method_56_code (2 : Nat) (Option.some FieldType.char)) ∈ ch_GL := ch_c4 157 rfl rfl
theorem kw_878 : (Cond.methodLink "java/lang/String" (492 : Nat) ({ cls := "java/lang/String", name := "isLatin1", desc := "()Z" } : MethodName)) ∈ ch_GL := ch_c4 158 rfl rfl
theorem kw_879 : (Cond.instanceMethod ({ cls := "java/lang/String", name := "isLatin1", desc := "()Z" } : MethodName)) ∈ ch_GL := ch_c4 159 rfl rfl
theorem kw_880 : (Cond.selects "java/lang/String" ({ cls := "java/lang/String", name := "isLatin1", desc := "()Z" } : MethodName) ({ cls := "java/lang/String", name := "isLatin1", desc := "()Z" } : MethodName)) ∈ ch_GL := ch_c4 160 rfl rfl
theorem kw_881 : (Cond.code ({ cls := "java/lang/String", name := "isLatin1", desc := "()Z" } : MethodName) prog_24_method_154_code (1 : Nat) (Option.some FieldType.boolean)) ∈ ch_GL := ch_c4 161 rfl rfl
theorem kw_882 : (Cond.methodLink "java/lang/String" (495 : Nat) ({ cls := "java/lang/StringLatin1", name := "charAt", desc := "([BI)C" } : MethodName)) ∈ ch_GL := ch_c4 162 rfl rfl
theorem kw_883 : (Cond.static ({ cls := "java/lang/StringLatin1", name := "charAt", desc := "([BI)C" } : MethodName)) ∈ ch_GL := ch_c4 163 rfl rfl
theorem kw_884 : (Cond.code ({ cls := "java/lang/StringLatin1", name := "charAt", desc := "([BI)C" } : MethodName) prog_25_method_2_code (2 : Nat) (Option.some FieldType.char)) ∈ ch_GL := ch_c4 164 rfl rfl
theorem kw_885 : (Cond.methodLink "java/lang/StringLatin1" (9 : Nat) ({ cls := "java/lang/String", name := "checkIndex", desc := "(II)V" } : MethodName)) ∈ ch_GL := ch_c4 165 rfl rfl
theorem kw_886 : (Cond.static ({ cls := "java/lang/String", name := "checkIndex", desc := "(II)V" } : MethodName)) ∈ ch_GL := ch_c4 166 rfl rfl
theorem kw_887 : (Cond.code ({ cls := "java/lang/String", name := "checkIndex", desc := "(II)V" } : MethodName) prog_24_method_155_code (2 : Nat) (Option.none : Option FieldType)) ∈ ch_GL := ch_c4 167 rfl rfl
theorem kw_888 : (Cond.fieldLink "java/lang/String" (1053 : Nat) "jdk/internal/util/Preconditions" "SIOOBE_FORMATTER" "Ljava/util/function/BiFunction;") ∈ ch_GL := ch_c4 168 rfl rfl
theorem kb_889 : (Cond.laysStatic "jdk/internal/util/Preconditions" "SIOOBE_FORMATTER" "Ljava/util/function/BiFunction;") ∈ lw_tbl := ch_b4 169 rfl
theorem kw_890 : (Cond.methodLink "java/lang/String" (1059 : Nat) ({ cls := "jdk/internal/util/Preconditions", name := "checkIndex", desc := "(IILjava/util/function/BiFunction;)I" } : MethodName)) ∈ ch_GL := ch_c4 170 rfl rfl
theorem kw_891 : (Cond.static ({ cls := "jdk/internal/util/Preconditions", name := "checkIndex", desc := "(IILjava/util/function/BiFunction;)I" } : MethodName)) ∈ ch_GL := ch_c4 171 rfl rfl
theorem kw_892 : (Cond.code ({ cls := "jdk/internal/util/Preconditions", name := "checkIndex", desc := "(IILjava/util/function/BiFunction;)I" } : MethodName) prog_33_method_11_code (3 : Nat) (Option.some FieldType.int)) ∈ ch_GL := ch_c4 172 rfl rfl
theorem kw_893 : (Cond.methodLink "java/lang/String" (498 : Nat) ({ cls := "java/lang/StringUTF16", name := "charAt", desc := "([BI)C" } : MethodName)) ∈ ch_GL := ch_c4 173 rfl rfl
theorem kw_894 : (Cond.static ({ cls := "java/lang/StringUTF16", name := "charAt", desc := "([BI)C" } : MethodName)) ∈ ch_GL := ch_c4 174 rfl rfl
theorem kw_895 : (Cond.code ({ cls := "java/lang/StringUTF16", name := "charAt", desc := "([BI)C" } : MethodName) prog_26_method_83_code (2 : Nat) (Option.some FieldType.char)) ∈ ch_GL := ch_c4 175 rfl rfl
theorem kw_896 : (Cond.methodLink "java/lang/StringUTF16" (67 : Nat) ({ cls := "java/lang/StringUTF16", name := "checkIndex", desc := "(I[B)V" } : MethodName)) ∈ ch_GL := ch_c4 176 rfl rfl
theorem kw_897 : (Cond.static ({ cls := "java/lang/StringUTF16", name := "checkIndex", desc := "(I[B)V" } : MethodName)) ∈ ch_GL := ch_c4 177 rfl rfl
theorem kw_898 : (Cond.code ({ cls := "java/lang/StringUTF16", name := "checkIndex", desc := "(I[B)V" } : MethodName) prog_26_method_91_code (2 : Nat) (Option.none : Option FieldType)) ∈ ch_GL := ch_c4 178 rfl rfl
theorem kw_899 : (Cond.methodLink "java/lang/StringUTF16" (48 : Nat) ({ cls := "java/lang/StringUTF16", name := "length", desc := "([B)I" } : MethodName)) ∈ ch_GL := ch_c4 179 rfl rfl
theorem kw_900 : (Cond.static ({ cls := "java/lang/StringUTF16", name := "length", desc := "([B)I" } : MethodName)) ∈ ch_GL := ch_c4 180 rfl rfl
theorem kw_901 : (Cond.code ({ cls := "java/lang/StringUTF16", name := "length", desc := "([B)I" } : MethodName) prog_26_method_6_code (1 : Nat) (Option.some FieldType.int)) ∈ ch_GL := ch_c4 181 rfl rfl
theorem kw_902 : (Cond.methodLink "java/lang/StringUTF16" (414 : Nat) ({ cls := "java/lang/String", name := "checkIndex", desc := "(II)V" } : MethodName)) ∈ ch_GL := ch_c4 182 rfl rfl
theorem kw_903 : (Cond.methodLink "java/lang/StringUTF16" (71 : Nat) ({ cls := "java/lang/StringUTF16", name := "getChar", desc := "([BI)C" } : MethodName)) ∈ ch_GL := ch_c4 183 rfl rfl
theorem kw_904 : (Cond.static ({ cls := "java/lang/StringUTF16", name := "getChar", desc := "([BI)C" } : MethodName)) ∈ ch_GL := ch_c4 184 rfl rfl
theorem kw_905 : (Cond.code ({ cls := "java/lang/StringUTF16", name := "getChar", desc := "([BI)C" } : MethodName) prog_26_method_5_code (2 : Nat) (Option.some FieldType.char)) ∈ ch_GL := ch_c4 185 rfl rfl
theorem kw_906 : (Cond.fieldLink "java/lang/StringUTF16" (44 : Nat) "java/lang/StringUTF16" "$assertionsDisabled" "Z") ∈ ch_GL := ch_c4 186 rfl rfl
theorem kb_907 : (Cond.laysStatic "java/lang/StringUTF16" "$assertionsDisabled" "Z") ∈ lw_tbl := ch_b4 187 rfl
theorem kw_908 : (Cond.fieldLink "java/lang/StringUTF16" (59 : Nat) "java/lang/StringUTF16" "HI_BYTE_SHIFT" "I") ∈ ch_GL := ch_c4 188 rfl rfl
theorem kb_909 : (Cond.laysStatic "java/lang/StringUTF16" "HI_BYTE_SHIFT" "I") ∈ lw_tbl := ch_b4 189 rfl
theorem kw_910 : (Cond.fieldLink "java/lang/StringUTF16" (63 : Nat) "java/lang/StringUTF16" "LO_BYTE_SHIFT" "I") ∈ ch_GL := ch_c4 190 rfl rfl
theorem kb_911 : (Cond.laysStatic "java/lang/StringUTF16" "LO_BYTE_SHIFT" "I") ∈ lw_tbl := ch_b4 191 rfl
theorem kw_912 : (Cond.methodLink "CellHandoverLaw" (14 : Nat) ({ cls := "CellHandoverLaw", name := "add", desc := "(LCellHandover;[II)V" } : MethodName)) ∈ ch_GL := ch_c4 192 rfl rfl
theorem kw_913 : (Cond.static ({ cls := "CellHandoverLaw", name := "add", desc := "(LCellHandover;[II)V" } : MethodName)) ∈ ch_GL := ch_c4 193 rfl rfl
theorem kw_914 : (Cond.code ({ cls := "CellHandoverLaw", name := "add", desc := "(LCellHandover;[II)V" } : MethodName) method_4_code (4 : Nat) (Option.none : Option FieldType)) ∈ ch_GL := ch_c4 194 rfl rfl
theorem kw_915 : (Cond.methodLink "CellHandoverLaw" (8 : Nat) ({ cls := "CellHandover", name := "feed", desc := "(IIIII)I" } : MethodName)) ∈ ch_GL := ch_c4 195 rfl rfl
theorem kw_916 : (Cond.instanceMethod ({ cls := "CellHandover", name := "feed", desc := "(IIIII)I" } : MethodName)) ∈ ch_GL := ch_c4 196 rfl rfl
theorem kw_917 : (Cond.selects "CellHandover" ({ cls := "CellHandover", name := "feed", desc := "(IIIII)I" } : MethodName) ({ cls := "CellHandover", name := "feed", desc := "(IIIII)I" } : MethodName)) ∈ ch_GL := ch_c4 197 rfl rfl
theorem kw_918 : (Cond.code ({ cls := "CellHandover", name := "feed", desc := "(IIIII)I" } : MethodName) prog_1_method_2_code (6 : Nat) (Option.some FieldType.int)) ∈ ch_GL := ch_c4 198 rfl rfl
theorem kw_919 : (Cond.methodLink "CellHandover" (58 : Nat) ({ cls := "CellHandover$Text", name := "append", desc := "(I)V" } : MethodName)) ∈ ch_GL := ch_c4 199 rfl rfl
theorem kw_920 : (Cond.instanceMethod ({ cls := "CellHandover$Text", name := "append", desc := "(I)V" } : MethodName)) ∈ ch_GL := ch_c4 200 rfl rfl
theorem kw_921 : (Cond.selects "CellHandover$Text" ({ cls := "CellHandover$Text", name := "append", desc := "(I)V" } : MethodName) ({ cls := "CellHandover$Text", name := "append", desc := "(I)V" } : MethodName)) ∈ ch_GL := ch_c4 201 rfl rfl
theorem kw_922 : (Cond.code ({ cls := "CellHandover$Text", name := "append", desc := "(I)V" } : MethodName) prog_12_method_2_code (3 : Nat) (Option.none : Option FieldType)) ∈ ch_GL := ch_c4 202 rfl rfl
theorem kw_923 : (Cond.methodLink "CellHandoverLaw" (77 : Nat) ({ cls := "CellHandoverLaw", name := "numbers", desc := "(LCellHandover;[I[I)V" } : MethodName)) ∈ ch_GL := ch_c4 203 rfl rfl
theorem kw_924 : (Cond.static ({ cls := "CellHandoverLaw", name := "numbers", desc := "(LCellHandover;[I[I)V" } : MethodName)) ∈ ch_GL := ch_c4 204 rfl rfl
theorem kw_925 : (Cond.code ({ cls := "CellHandoverLaw", name := "numbers", desc := "(LCellHandover;[I[I)V" } : MethodName) method_10_code (7 : Nat) (Option.none : Option FieldType)) ∈ ch_GL := ch_c4 205 rfl rfl
theorem kw_926 : (Cond.methodLink "CellHandoverLaw" (69 : Nat) ({ cls := "CellHandoverLaw", name := "number", desc := "(LCellHandover;[II)V" } : MethodName)) ∈ ch_GL := ch_c4 206 rfl rfl
theorem kw_927 : (Cond.static ({ cls := "CellHandoverLaw", name := "number", desc := "(LCellHandover;[II)V" } : MethodName)) ∈ ch_GL := ch_c4 207 rfl rfl
theorem kw_928 : (Cond.code ({ cls := "CellHandoverLaw", name := "number", desc := "(LCellHandover;[II)V" } : MethodName) method_6_code (4 : Nat) (Option.none : Option FieldType)) ∈ ch_GL := ch_c4 208 rfl rfl
theorem kb_929 : (Cond.stringRef "CellHandoverLaw" (81 : Nat) "relation") ∈ lw_tbl := ch_b4 209 rfl
theorem kb_930 : (Cond.stringRef "CellHandoverLaw" (83 : Nat) "settings") ∈ lw_tbl := ch_b4 210 rfl
theorem kw_931 : (Cond.methodLink "CellHandoverLaw" (85 : Nat) ({ cls := "CellHandoverLaw", name := "end", desc := "(LCellHandover;[I)I" } : MethodName)) ∈ ch_GL := ch_c4 211 rfl rfl
theorem kw_932 : (Cond.static ({ cls := "CellHandoverLaw", name := "end", desc := "(LCellHandover;[I)I" } : MethodName)) ∈ ch_GL := ch_c4 212 rfl rfl
theorem kw_933 : (Cond.code ({ cls := "CellHandoverLaw", name := "end", desc := "(LCellHandover;[I)I" } : MethodName) method_7_code (3 : Nat) (Option.some FieldType.int)) ∈ ch_GL := ch_c4 213 rfl rfl
theorem kw_934 : (Cond.methodLink "CellHandoverLaw" (89 : Nat) ({ cls := "CellHandover", name := "load", desc := "(I)I" } : MethodName)) ∈ ch_GL := ch_c4 214 rfl rfl
theorem kw_935 : (Cond.instanceMethod ({ cls := "CellHandover", name := "load", desc := "(I)I" } : MethodName)) ∈ ch_GL := ch_c4 215 rfl rfl
theorem kw_936 : (Cond.selects "CellHandover" ({ cls := "CellHandover", name := "load", desc := "(I)I" } : MethodName) ({ cls := "CellHandover", name := "load", desc := "(I)I" } : MethodName)) ∈ ch_GL := ch_c4 216 rfl rfl
theorem kw_937 : (Cond.code ({ cls := "CellHandover", name := "load", desc := "(I)I" } : MethodName) prog_1_method_3_code (2 : Nat) (Option.some FieldType.int)) ∈ ch_GL := ch_c4 217 rfl rfl
theorem kw_938 : (Cond.methodLink "CellHandover" (66 : Nat) ({ cls := "CellHandover$Text", name := "open", desc := "(I)V" } : MethodName)) ∈ ch_GL := ch_c4 218 rfl rfl
theorem kw_939 : (Cond.instanceMethod ({ cls := "CellHandover$Text", name := "open", desc := "(I)V" } : MethodName)) ∈ ch_GL := ch_c4 219 rfl rfl
theorem kw_940 : (Cond.selects "CellHandover$Text" ({ cls := "CellHandover$Text", name := "open", desc := "(I)V" } : MethodName) ({ cls := "CellHandover$Text", name := "open", desc := "(I)V" } : MethodName)) ∈ ch_GL := ch_c4 220 rfl rfl
theorem kw_941 : (Cond.code ({ cls := "CellHandover$Text", name := "open", desc := "(I)V" } : MethodName) prog_12_method_3_code (2 : Nat) (Option.none : Option FieldType)) ∈ ch_GL := ch_c4 221 rfl rfl
theorem kw_942 : (Cond.methodLink "CellHandover$Text" (31 : Nat) ({ cls := "CellHandover$Text", name := "advance", desc := "()V" } : MethodName)) ∈ ch_GL := ch_c4 222 rfl rfl
theorem kw_943 : (Cond.instanceMethod ({ cls := "CellHandover$Text", name := "advance", desc := "()V" } : MethodName)) ∈ ch_GL := ch_c4 223 rfl rfl
theorem kw_944 : (Cond.selects "CellHandover$Text" ({ cls := "CellHandover$Text", name := "advance", desc := "()V" } : MethodName) ({ cls := "CellHandover$Text", name := "advance", desc := "()V" } : MethodName)) ∈ ch_GL := ch_c4 224 rfl rfl
theorem kw_945 : (Cond.code ({ cls := "CellHandover$Text", name := "advance", desc := "()V" } : MethodName) prog_12_method_5_code (1 : Nat) (Option.none : Option FieldType)) ∈ ch_GL := ch_c4 225 rfl rfl
theorem kw_946 : (Cond.methodLink "CellHandover$Text" (37 : Nat) ({ cls := "CellHandover$Text", name := "byteAt", desc := "(I)I" } : MethodName)) ∈ ch_GL := ch_c4 226 rfl rfl
theorem kb_947 : (Cond.privateMethod ({ cls := "CellHandover$Text", name := "byteAt", desc := "(I)I" } : MethodName)) ∈ lw_tbl := ch_b4 227 rfl
theorem kw_948 : (Cond.instanceMethod ({ cls := "CellHandover$Text", name := "byteAt", desc := "(I)I" } : MethodName)) ∈ ch_GL := ch_c4 228 rfl rfl
theorem kw_949 : (Cond.code ({ cls := "CellHandover$Text", name := "byteAt", desc := "(I)I" } : MethodName) prog_12_method_6_code (2 : Nat) (Option.some FieldType.int)) ∈ ch_GL := ch_c4 229 rfl rfl
theorem kw_950 : (Cond.methodLink "CellHandover$Text" (41 : Nat) ({ cls := "CellHandover$Text", name := "kindOf", desc := "(I)I" } : MethodName)) ∈ ch_GL := ch_c4 230 rfl rfl
theorem kw_951 : (Cond.static ({ cls := "CellHandover$Text", name := "kindOf", desc := "(I)I" } : MethodName)) ∈ ch_GL := ch_c4 231 rfl rfl
theorem kw_952 : (Cond.code ({ cls := "CellHandover$Text", name := "kindOf", desc := "(I)I" } : MethodName) prog_12_method_7_code (1 : Nat) (Option.some FieldType.int)) ∈ ch_GL := ch_c4 232 rfl rfl
theorem kw_953 : (Cond.methodLink "CellHandover$Text" (44 : Nat) ({ cls := "java/lang/Math", name := "min", desc := "(II)I" } : MethodName)) ∈ ch_GL := ch_c4 233 rfl rfl
theorem kw_954 : (Cond.classLink "CellHandover" (69 : Nat) "CellHandover$NetworkReader") ∈ ch_GL := ch_c4 234 rfl rfl
theorem kw_955 : (Cond.instantiable "CellHandover$NetworkReader" (2 : Nat)) ∈ ch_GL := ch_c4 235 rfl rfl
theorem kw_956 : (Cond.methodLink "CellHandover" (71 : Nat) ({ cls := "CellHandover$NetworkReader", name := "<init>", desc := "(LCellHandover$Text;LCellHandover$Network;)V" } : MethodName)) ∈ ch_GL := ch_c4 236 rfl rfl
theorem kw_957 : (Cond.instanceMethod ({ cls := "CellHandover$NetworkReader", name := "<init>", desc := "(LCellHandover$Text;LCellHandover$Network;)V" } : MethodName)) ∈ ch_GL := ch_c4 237 rfl rfl
theorem kw_958 : (Cond.code ({ cls := "CellHandover$NetworkReader", name := "<init>", desc := "(LCellHandover$Text;LCellHandover$Network;)V" } : MethodName) prog_6_method_1_code (3 : Nat) (Option.none : Option FieldType)) ∈ ch_GL := ch_c4 238 rfl rfl
theorem kw_959 : (Cond.methodLink "CellHandover$NetworkReader" (3 : Nat) ({ cls := "java/lang/Object", name := "<init>", desc := "()V" } : MethodName)) ∈ ch_GL := ch_c4 239 rfl rfl
theorem kw_960 : (Cond.fieldLink "CellHandover$NetworkReader" (9 : Nat) "CellHandover$NetworkReader" "text" "LCellHandover$Text;") ∈ ch_GL := ch_c5 0 rfl rfl
theorem kw_961 : (Cond.fieldLink "CellHandover$NetworkReader" (15 : Nat) "CellHandover$NetworkReader" "network" "LCellHandover$Network;") ∈ ch_GL := ch_c5 1 rfl rfl
theorem kw_962 : (Cond.laysFinal "CellHandover$NetworkReader" "CellHandover$NetworkReader" "text" "LCellHandover$Text;") ∈ ch_GL := ch_c5 2 rfl rfl
theorem kw_963 : (Cond.soleField "CellHandover$NetworkReader" "text") ∈ ch_GL := ch_c5 3 rfl rfl
theorem kw_964 : (Cond.laysFinal "CellHandover$NetworkReader" "CellHandover$NetworkReader" "network" "LCellHandover$Network;") ∈ ch_GL := ch_c5 4 rfl rfl
theorem kw_965 : (Cond.soleField "CellHandover$NetworkReader" "network") ∈ ch_GL := ch_c5 5 rfl rfl
theorem kw_966 : (Cond.superclass "CellHandover$NetworkReader" "java/lang/Object") ∈ ch_GL := ch_c5 6 rfl rfl
theorem kw_967 : (Cond.methodLink "CellHandover" (74 : Nat) ({ cls := "CellHandover$NetworkReader", name := "readNetwork", desc := "()V" } : MethodName)) ∈ ch_GL := ch_c5 7 rfl rfl
theorem kw_968 : (Cond.instanceMethod ({ cls := "CellHandover$NetworkReader", name := "readNetwork", desc := "()V" } : MethodName)) ∈ ch_GL := ch_c5 8 rfl rfl
theorem kw_969 : (Cond.selects "CellHandover$NetworkReader" ({ cls := "CellHandover$NetworkReader", name := "readNetwork", desc := "()V" } : MethodName) ({ cls := "CellHandover$NetworkReader", name := "readNetwork", desc := "()V" } : MethodName)) ∈ ch_GL := ch_c5 9 rfl rfl
theorem kw_970 : (Cond.code ({ cls := "CellHandover$NetworkReader", name := "readNetwork", desc := "()V" } : MethodName) prog_6_method_2_code (2 : Nat) (Option.none : Option FieldType)) ∈ ch_GL := ch_c5 10 rfl rfl
theorem kw_971 : (Cond.methodLink "CellHandover$NetworkReader" (19 : Nat) ({ cls := "CellHandover$Network", name := "clear", desc := "()V" } : MethodName)) ∈ ch_GL := ch_c5 11 rfl rfl
theorem kw_972 : (Cond.instanceMethod ({ cls := "CellHandover$Network", name := "clear", desc := "()V" } : MethodName)) ∈ ch_GL := ch_c5 12 rfl rfl
theorem kw_973 : (Cond.selects "CellHandover$Network" ({ cls := "CellHandover$Network", name := "clear", desc := "()V" } : MethodName) ({ cls := "CellHandover$Network", name := "clear", desc := "()V" } : MethodName)) ∈ ch_GL := ch_c5 13 rfl rfl
theorem kw_974 : (Cond.code ({ cls := "CellHandover$Network", name := "clear", desc := "()V" } : MethodName) prog_5_method_8_code (3 : Nat) (Option.none : Option FieldType)) ∈ ch_GL := ch_c5 14 rfl rfl
theorem kw_975 : (Cond.methodLink "CellHandover$Network" (86 : Nat) ({ cls := "CellHandover$Relation", name := "clear", desc := "()V" } : MethodName)) ∈ ch_GL := ch_c5 15 rfl rfl
theorem kw_976 : (Cond.instanceMethod ({ cls := "CellHandover$Relation", name := "clear", desc := "()V" } : MethodName)) ∈ ch_GL := ch_c5 16 rfl rfl
theorem kw_977 : (Cond.selects "CellHandover$Relation" ({ cls := "CellHandover$Relation", name := "clear", desc := "()V" } : MethodName) ({ cls := "CellHandover$Relation", name := "clear", desc := "()V" } : MethodName)) ∈ ch_GL := ch_c5 17 rfl rfl
theorem kw_978 : (Cond.code ({ cls := "CellHandover$Relation", name := "clear", desc := "()V" } : MethodName) prog_9_method_2_code (1 : Nat) (Option.none : Option FieldType)) ∈ ch_GL := ch_c5 18 rfl rfl
theorem kw_979 : (Cond.methodLink "CellHandover$Network" (89 : Nat) ({ cls := "java/util/Arrays", name := "fill", desc := "([II)V" } : MethodName)) ∈ ch_GL := ch_c5 19 rfl rfl
theorem kw_980 : (Cond.methodLink "CellHandover$NetworkReader" (24 : Nat) ({ cls := "CellHandover$Text", name := "goesOn", desc := "()Z" } : MethodName)) ∈ ch_GL := ch_c5 20 rfl rfl
theorem kw_981 : (Cond.instanceMethod ({ cls := "CellHandover$Text", name := "goesOn", desc := "()Z" } : MethodName)) ∈ ch_GL := ch_c5 21 rfl rfl
theorem kw_982 : (Cond.selects "CellHandover$Text" ({ cls := "CellHandover$Text", name := "goesOn", desc := "()Z" } : MethodName) ({ cls := "CellHandover$Text", name := "goesOn", desc := "()Z" } : MethodName)) ∈ ch_GL := ch_c5 22 rfl rfl
theorem kw_983 : (Cond.code ({ cls := "CellHandover$Text", name := "goesOn", desc := "()Z" } : MethodName) prog_12_method_8_code (1 : Nat) (Option.some FieldType.boolean)) ∈ ch_GL := ch_c5 23 rfl rfl
theorem kw_984 : (Cond.methodLink "CellHandover$NetworkReader" (30 : Nat) ({ cls := "CellHandover$NetworkReader", name := "readClause", desc := "()V" } : MethodName)) ∈ ch_GL := ch_c5 24 rfl rfl
theorem kb_985 : (Cond.privateMethod ({ cls := "CellHandover$NetworkReader", name := "readClause", desc := "()V" } : MethodName)) ∈ lw_tbl := ch_b5 25 rfl
theorem kw_986 : (Cond.instanceMethod ({ cls := "CellHandover$NetworkReader", name := "readClause", desc := "()V" } : MethodName)) ∈ ch_GL := ch_c5 26 rfl rfl
theorem kw_987 : (Cond.code ({ cls := "CellHandover$NetworkReader", name := "readClause", desc := "()V" } : MethodName) prog_6_method_3_code (1 : Nat) (Option.none : Option FieldType)) ∈ ch_GL := ch_c5 27 rfl rfl
theorem kb_988 : (Cond.stringRef "CellHandover$NetworkReader" (39 : Nat) "cell") ∈ lw_tbl := ch_b5 28 rfl
theorem kw_989 : (Cond.methodLink "CellHandover$NetworkReader" (41 : Nat) ({ cls := "CellHandover$Text", name := "is", desc := "(Ljava/lang/String;)Z" } : MethodName)) ∈ ch_GL := ch_c5 29 rfl rfl
theorem kw_990 : (Cond.instanceMethod ({ cls := "CellHandover$Text", name := "is", desc := "(Ljava/lang/String;)Z" } : MethodName)) ∈ ch_GL := ch_c5 30 rfl rfl
theorem kw_991 : (Cond.selects "CellHandover$Text" ({ cls := "CellHandover$Text", name := "is", desc := "(Ljava/lang/String;)Z" } : MethodName) ({ cls := "CellHandover$Text", name := "is", desc := "(Ljava/lang/String;)Z" } : MethodName)) ∈ ch_GL := ch_c5 31 rfl rfl
theorem kw_992 : (Cond.code ({ cls := "CellHandover$Text", name := "is", desc := "(Ljava/lang/String;)Z" } : MethodName) prog_12_method_9_code (3 : Nat) (Option.some FieldType.boolean)) ∈ ch_GL := ch_c5 32 rfl rfl
theorem kw_993 : (Cond.methodLink "CellHandover$Text" (53 : Nat) ({ cls := "java/lang/String", name := "length", desc := "()I" } : MethodName)) ∈ ch_GL := ch_c5 33 rfl rfl
theorem kw_994 : (Cond.methodLink "CellHandover$Text" (59 : Nat) ({ cls := "java/lang/String", name := "charAt", desc := "(I)C" } : MethodName)) ∈ ch_GL := ch_c5 34 rfl rfl
theorem kw_995 : (Cond.methodLink "CellHandover$NetworkReader" (45 : Nat) ({ cls := "CellHandover$NetworkReader", name := "readCell", desc := "()V" } : MethodName)) ∈ ch_GL := ch_c5 35 rfl rfl
theorem kb_996 : (Cond.privateMethod ({ cls := "CellHandover$NetworkReader", name := "readCell", desc := "()V" } : MethodName)) ∈ lw_tbl := ch_b5 36 rfl
theorem kw_997 : (Cond.instanceMethod ({ cls := "CellHandover$NetworkReader", name := "readCell", desc := "()V" } : MethodName)) ∈ ch_GL := ch_c5 37 rfl rfl
theorem kw_998 : (Cond.code ({ cls := "CellHandover$NetworkReader", name := "readCell", desc := "()V" } : MethodName) prog_6_method_4_code (2 : Nat) (Option.none : Option FieldType)) ∈ ch_GL := ch_c5 38 rfl rfl
theorem kw_999 : (Cond.methodLink "CellHandover$NetworkReader" (58 : Nat) ({ cls := "CellHandover$Text", name := "fail", desc := "(I)V" } : MethodName)) ∈ ch_GL := ch_c5 39 rfl rfl
theorem kw_1000 : (Cond.instanceMethod ({ cls := "CellHandover$Text", name := "fail", desc := "(I)V" } : MethodName)) ∈ ch_GL := ch_c5 40 rfl rfl
theorem kw_1001 : (Cond.selects "CellHandover$Text" ({ cls := "CellHandover$Text", name := "fail", desc := "(I)V" } : MethodName) ({ cls := "CellHandover$Text", name := "fail", desc := "(I)V" } : MethodName)) ∈ ch_GL := ch_c5 41 rfl rfl
theorem kw_1002 : (Cond.code ({ cls := "CellHandover$Text", name := "fail", desc := "(I)V" } : MethodName) prog_12_method_10_code (2 : Nat) (Option.none : Option FieldType)) ∈ ch_GL := ch_c5 42 rfl rfl
theorem kw_1003 : (Cond.methodLink "CellHandover$NetworkReader" (66 : Nat) ({ cls := "CellHandover$Text", name := "advance", desc := "()V" } : MethodName)) ∈ ch_GL := ch_c5 43 rfl rfl
theorem kw_1004 : (Cond.methodLink "CellHandover$NetworkReader" (69 : Nat) ({ cls := "CellHandover$Network", name := "cellAt", desc := "(I)LCellHandover$Cell;" } : MethodName)) ∈ ch_GL := ch_c5 44 rfl rfl
theorem kw_1005 : (Cond.methodLink "CellHandover$NetworkReader" (73 : Nat) ({ cls := "CellHandover$Text", name := "takeNumber", desc := "(II)I" } : MethodName)) ∈ ch_GL := ch_c5 45 rfl rfl
theorem kw_1006 : (Cond.instanceMethod ({ cls := "CellHandover$Text", name := "takeNumber", desc := "(II)I" } : MethodName)) ∈ ch_GL := ch_c5 46 rfl rfl
theorem kw_1007 : (Cond.selects "CellHandover$Text" ({ cls := "CellHandover$Text", name := "takeNumber", desc := "(II)I" } : MethodName) ({ cls := "CellHandover$Text", name := "takeNumber", desc := "(II)I" } : MethodName)) ∈ ch_GL := ch_c5 47 rfl rfl
theorem kw_1008 : (Cond.code ({ cls := "CellHandover$Text", name := "takeNumber", desc := "(II)I" } : MethodName) prog_12_method_12_code (4 : Nat) (Option.some FieldType.int)) ∈ ch_GL := ch_c5 48 rfl rfl
theorem kw_1009 : (Cond.methodLink "CellHandover$Text" (71 : Nat) ({ cls := "CellHandover$Text", name := "seeNumber", desc := "(II)I" } : MethodName)) ∈ ch_GL := ch_c5 49 rfl rfl
theorem kw_1010 : (Cond.instanceMethod ({ cls := "CellHandover$Text", name := "seeNumber", desc := "(II)I" } : MethodName)) ∈ ch_GL := ch_c5 50 rfl rfl
theorem kw_1011 : (Cond.selects "CellHandover$Text" ({ cls := "CellHandover$Text", name := "seeNumber", desc := "(II)I" } : MethodName) ({ cls := "CellHandover$Text", name := "seeNumber", desc := "(II)I" } : MethodName)) ∈ ch_GL := ch_c5 51 rfl rfl
theorem kw_1012 : (Cond.code ({ cls := "CellHandover$Text", name := "seeNumber", desc := "(II)I" } : MethodName) prog_12_method_13_code (5 : Nat) (Option.some FieldType.int)) ∈ ch_GL := ch_c5 52 rfl rfl
theorem kw_1013 : (Cond.methodLink "CellHandover$Text" (67 : Nat) ({ cls := "CellHandover$Text", name := "fail", desc := "(I)V" } : MethodName)) ∈ ch_GL := ch_c5 53 rfl rfl
theorem kw_1014 : (Cond.constant "CellHandover$Text" (74 : Nat) (100000 : Int32)) ∈ ch_GL := ch_c5 54 rfl rfl
theorem kb_1015 : (Cond.stringRef "CellHandover$NetworkReader" (48 : Nat) "relation") ∈ lw_tbl := ch_b5 55 rfl
theorem kw_1016 : (Cond.methodLink "CellHandover$NetworkReader" (50 : Nat) ({ cls := "CellHandover$NetworkReader", name := "readRelation", desc := "()V" } : MethodName)) ∈ ch_GL := ch_c5 56 rfl rfl
theorem kb_1017 : (Cond.privateMethod ({ cls := "CellHandover$NetworkReader", name := "readRelation", desc := "()V" } : MethodName)) ∈ lw_tbl := ch_b5 57 rfl
theorem kw_1018 : (Cond.instanceMethod ({ cls := "CellHandover$NetworkReader", name := "readRelation", desc := "()V" } : MethodName)) ∈ ch_GL := ch_c5 58 rfl rfl
theorem kw_1019 : (Cond.code ({ cls := "CellHandover$NetworkReader", name := "readRelation", desc := "()V" } : MethodName) prog_6_method_5_code (4 : Nat) (Option.none : Option FieldType)) ∈ ch_GL := ch_c5 59 rfl rfl
theorem kw_1020 : (Cond.methodLink "CellHandover$NetworkReader" (109 : Nat) ({ cls := "CellHandover$Text", name := "seeNumber", desc := "(II)I" } : MethodName)) ∈ ch_GL := ch_c5 60 rfl rfl
theorem kw_1021 : (Cond.methodLink "CellHandover$NetworkReader" (112 : Nat) ({ cls := "CellHandover$Network", name := "relationAt", desc := "(II)LCellHandover$Relation;" } : MethodName)) ∈ ch_GL := ch_c5 61 rfl rfl
theorem kb_1022 : (Cond.stringRef "CellHandover$NetworkReader" (53 : Nat) "settings") ∈ lw_tbl := ch_b5 62 rfl
theorem kw_1023 : (Cond.methodLink "CellHandover$NetworkReader" (55 : Nat) ({ cls := "CellHandover$NetworkReader", name := "readSettings", desc := "()V" } : MethodName)) ∈ ch_GL := ch_c5 63 rfl rfl
theorem kb_1024 : (Cond.privateMethod ({ cls := "CellHandover$NetworkReader", name := "readSettings", desc := "()V" } : MethodName)) ∈ lw_tbl := ch_b5 64 rfl
theorem kw_1025 : (Cond.instanceMethod ({ cls := "CellHandover$NetworkReader", name := "readSettings", desc := "()V" } : MethodName)) ∈ ch_GL := ch_c5 65 rfl rfl
theorem kw_1026 : (Cond.code ({ cls := "CellHandover$NetworkReader", name := "readSettings", desc := "()V" } : MethodName) prog_6_method_6_code (1 : Nat) (Option.none : Option FieldType)) ∈ ch_GL := ch_c5 66 rfl rfl
theorem kb_1027 : (Cond.stringRef "CellHandover$NetworkReader" (33 : Nat) ";") ∈ lw_tbl := ch_b5 67 rfl
theorem kw_1028 : (Cond.methodLink "CellHandover$NetworkReader" (35 : Nat) ({ cls := "CellHandover$Text", name := "expect", desc := "(Ljava/lang/String;)V" } : MethodName)) ∈ ch_GL := ch_c5 68 rfl rfl
theorem kw_1029 : (Cond.instanceMethod ({ cls := "CellHandover$Text", name := "expect", desc := "(Ljava/lang/String;)V" } : MethodName)) ∈ ch_GL := ch_c5 69 rfl rfl
theorem kw_1030 : (Cond.selects "CellHandover$Text" ({ cls := "CellHandover$Text", name := "expect", desc := "(Ljava/lang/String;)V" } : MethodName) ({ cls := "CellHandover$Text", name := "expect", desc := "(Ljava/lang/String;)V" } : MethodName)) ∈ ch_GL := ch_c5 70 rfl rfl
theorem kw_1031 : (Cond.code ({ cls := "CellHandover$Text", name := "expect", desc := "(Ljava/lang/String;)V" } : MethodName) prog_12_method_11_code (2 : Nat) (Option.none : Option FieldType)) ∈ ch_GL := ch_c5 71 rfl rfl
theorem kw_1032 : (Cond.methodLink "CellHandover$Text" (63 : Nat) ({ cls := "CellHandover$Text", name := "is", desc := "(Ljava/lang/String;)Z" } : MethodName)) ∈ ch_GL := ch_c5 72 rfl rfl
theorem kw_1033 : (Cond.methodLink "CellHandover" (77 : Nat) ({ cls := "CellHandover$Text", name := "close", desc := "()V" } : MethodName)) ∈ ch_GL := ch_c5 73 rfl rfl
theorem kw_1034 : (Cond.instanceMethod ({ cls := "CellHandover$Text", name := "close", desc := "()V" } : MethodName)) ∈ ch_GL := ch_c5 74 rfl rfl
theorem kw_1035 : (Cond.selects "CellHandover$Text" ({ cls := "CellHandover$Text", name := "close", desc := "()V" } : MethodName) ({ cls := "CellHandover$Text", name := "close", desc := "()V" } : MethodName)) ∈ ch_GL := ch_c5 75 rfl rfl
theorem kw_1036 : (Cond.code ({ cls := "CellHandover$Text", name := "close", desc := "()V" } : MethodName) prog_12_method_4_code (1 : Nat) (Option.none : Option FieldType)) ∈ ch_GL := ch_c5 76 rfl rfl
theorem kw_1037 : (Cond.methodLink "CellHandoverLaw" (286 : Nat) ({ cls := "CellHandoverLaw", name := "act", desc := "(LCellHandover;LCellHandoverLaw$Own;I)I" } : MethodName)) ∈ ch_GL := ch_c5 77 rfl rfl
theorem kw_1038 : (Cond.static ({ cls := "CellHandoverLaw", name := "act", desc := "(LCellHandover;LCellHandoverLaw$Own;I)I" } : MethodName)) ∈ ch_GL := ch_c5 78 rfl rfl
theorem kw_1039 : (Cond.code ({ cls := "CellHandoverLaw", name := "act", desc := "(LCellHandover;LCellHandoverLaw$Own;I)I" } : MethodName) method_13_code (11 : Nat) (Option.some FieldType.int)) ∈ ch_GL := ch_c5 79 rfl rfl
theorem kw_1040 : (Cond.classLink "CellHandoverLaw" (162 : Nat) "CellHandoverLaw$Mobile") ∈ ch_GL := ch_c5 80 rfl rfl
theorem kb_1041 : (Cond.methodLinkNest "CellHandoverLaw" (216 : Nat) ({ cls := "CellHandoverLaw$Mobile", name := "<init>", desc := "()V" } : MethodName) "CellHandoverLaw") ∈ lw_tbl := ch_b5 81 rfl
theorem kw_1042 : (Cond.instanceMethod ({ cls := "CellHandoverLaw$Mobile", name := "<init>", desc := "()V" } : MethodName)) ∈ ch_GL := ch_c5 82 rfl rfl
theorem kw_1043 : (Cond.code ({ cls := "CellHandoverLaw$Mobile", name := "<init>", desc := "()V" } : MethodName) prog_14_method_1_code (1 : Nat) (Option.none : Option FieldType)) ∈ ch_GL := ch_c5 83 rfl rfl
theorem kw_1044 : (Cond.methodLink "CellHandoverLaw$Mobile" (1 : Nat) ({ cls := "java/lang/Object", name := "<init>", desc := "()V" } : MethodName)) ∈ ch_GL := ch_c5 84 rfl rfl
theorem kw_1045 : (Cond.classLink "CellHandoverLaw$Mobile" (20 : Nat) "[[I") ∈ ch_GL := ch_c5 85 rfl rfl
theorem kb_1046 : (Cond.fieldLinkNest "CellHandoverLaw$Own" (108 : Nat) "CellHandoverLaw$Mobile" "x" "I" "CellHandoverLaw") ∈ lw_tbl := ch_b5 86 rfl
theorem kb_1047 : (Cond.fieldLinkNest "CellHandoverLaw" (161 : Nat) "CellHandoverLaw$Mobile" "x" "I" "CellHandoverLaw") ∈ lw_tbl := ch_b5 87 rfl
theorem kb_1048 : (Cond.fieldLinkNest "CellHandoverLaw$Own" (111 : Nat) "CellHandoverLaw$Mobile" "y" "I" "CellHandoverLaw") ∈ lw_tbl := ch_b5 88 rfl
theorem kb_1049 : (Cond.fieldLinkNest "CellHandoverLaw" (168 : Nat) "CellHandoverLaw$Mobile" "y" "I" "CellHandoverLaw") ∈ lw_tbl := ch_b5 89 rfl
theorem kb_1050 : (Cond.fieldLinkNest "CellHandoverLaw" (217 : Nat) "CellHandoverLaw$Mobile" "vx" "I" "CellHandoverLaw") ∈ lw_tbl := ch_b5 90 rfl
theorem kb_1051 : (Cond.fieldLinkNest "CellHandoverLaw$Own" (148 : Nat) "CellHandoverLaw$Mobile" "vx" "I" "CellHandoverLaw") ∈ lw_tbl := ch_b5 91 rfl
theorem kb_1052 : (Cond.fieldLinkNest "CellHandoverLaw" (220 : Nat) "CellHandoverLaw$Mobile" "vy" "I" "CellHandoverLaw") ∈ lw_tbl := ch_b5 92 rfl
theorem kb_1053 : (Cond.fieldLinkNest "CellHandoverLaw$Own" (151 : Nat) "CellHandoverLaw$Mobile" "vy" "I" "CellHandoverLaw") ∈ lw_tbl := ch_b5 93 rfl
theorem kw_1054 : (Cond.fieldLink "CellHandoverLaw$Mobile" (38 : Nat) "CellHandoverLaw$Mobile" "state" "I") ∈ ch_GL := ch_c5 94 rfl rfl
theorem kb_1055 : (Cond.fieldLinkNest "CellHandoverLaw$Own" (88 : Nat) "CellHandoverLaw$Mobile" "state" "I" "CellHandoverLaw") ∈ lw_tbl := ch_b5 95 rfl
theorem kb_1056 : (Cond.fieldLinkNest "CellHandoverLaw" (173 : Nat) "CellHandoverLaw$Mobile" "state" "I" "CellHandoverLaw") ∈ lw_tbl := ch_b5 96 rfl
theorem kw_1057 : (Cond.fieldLink "CellHandoverLaw$Mobile" (7 : Nat) "CellHandoverLaw$Mobile" "cell" "I") ∈ ch_GL := ch_c5 97 rfl rfl
theorem kb_1058 : (Cond.fieldLinkNest "CellHandoverLaw$Own" (91 : Nat) "CellHandoverLaw$Mobile" "cell" "I" "CellHandoverLaw") ∈ lw_tbl := ch_b5 98 rfl
theorem kw_1059 : (Cond.fieldLink "CellHandoverLaw$Mobile" (41 : Nat) "CellHandoverLaw$Mobile" "left" "I") ∈ ch_GL := ch_c5 99 rfl rfl
theorem kb_1060 : (Cond.fieldLinkNest "CellHandoverLaw$Own" (125 : Nat) "CellHandoverLaw$Mobile" "left" "I" "CellHandoverLaw") ∈ lw_tbl := ch_b5 100 rfl
theorem kw_1061 : (Cond.fieldLink "CellHandoverLaw$Mobile" (44 : Nat) "CellHandoverLaw$Mobile" "bad" "I") ∈ ch_GL := ch_c5 101 rfl rfl
theorem kb_1062 : (Cond.fieldLinkNest "CellHandoverLaw$Own" (131 : Nat) "CellHandoverLaw$Mobile" "bad" "I" "CellHandoverLaw") ∈ lw_tbl := ch_b5 102 rfl
theorem kw_1063 : (Cond.fieldLink "CellHandoverLaw$Mobile" (13 : Nat) "CellHandoverLaw$Mobile" "at" "I") ∈ ch_GL := ch_c5 103 rfl rfl
theorem kb_1064 : (Cond.fieldLinkNest "CellHandoverLaw$Own" (96 : Nat) "CellHandoverLaw$Mobile" "at" "I" "CellHandoverLaw") ∈ lw_tbl := ch_b5 104 rfl
theorem kb_1065 : (Cond.fieldLinkNest "CellHandoverLaw$Own" (102 : Nat) "CellHandoverLaw$Mobile" "kind" "I" "CellHandoverLaw") ∈ lw_tbl := ch_b5 105 rfl
theorem kb_1066 : (Cond.fieldLinkNest "CellHandoverLaw$Own" (105 : Nat) "CellHandoverLaw$Mobile" "tick" "I" "CellHandoverLaw") ∈ lw_tbl := ch_b5 106 rfl
theorem kw_1067 : (Cond.fieldLink "CellHandoverLaw$Mobile" (16 : Nat) "CellHandoverLaw$Mobile" "barred" "[I") ∈ ch_GL := ch_c5 107 rfl rfl
theorem kb_1068 : (Cond.fieldLinkNest "CellHandoverLaw$Own" (128 : Nat) "CellHandoverLaw$Mobile" "barred" "[I" "CellHandoverLaw") ∈ lw_tbl := ch_b5 108 rfl
theorem kw_1069 : (Cond.fieldLink "CellHandoverLaw$Mobile" (22 : Nat) "CellHandoverLaw$Mobile" "reports" "[[I") ∈ ch_GL := ch_c5 109 rfl rfl
theorem kb_1070 : (Cond.fieldLinkNest "CellHandoverLaw$Own" (134 : Nat) "CellHandoverLaw$Mobile" "reports" "[[I" "CellHandoverLaw") ∈ lw_tbl := ch_b5 110 rfl
theorem kw_1071 : (Cond.lays "CellHandoverLaw$Mobile" "CellHandoverLaw$Mobile" "x" "I") ∈ ch_GL := ch_c5 111 rfl rfl
theorem kw_1072 : (Cond.soleField "CellHandoverLaw$Mobile" "x") ∈ ch_GL := ch_c5 112 rfl rfl
theorem kw_1073 : (Cond.lays "CellHandoverLaw$Mobile" "CellHandoverLaw$Mobile" "y" "I") ∈ ch_GL := ch_c5 113 rfl rfl
theorem kw_1074 : (Cond.soleField "CellHandoverLaw$Mobile" "y") ∈ ch_GL := ch_c5 114 rfl rfl
theorem kw_1075 : (Cond.lays "CellHandoverLaw$Mobile" "CellHandoverLaw$Mobile" "vx" "I") ∈ ch_GL := ch_c5 115 rfl rfl
theorem kw_1076 : (Cond.soleField "CellHandoverLaw$Mobile" "vx") ∈ ch_GL := ch_c5 116 rfl rfl
theorem kw_1077 : (Cond.lays "CellHandoverLaw$Mobile" "CellHandoverLaw$Mobile" "vy" "I") ∈ ch_GL := ch_c5 117 rfl rfl
theorem kw_1078 : (Cond.soleField "CellHandoverLaw$Mobile" "vy") ∈ ch_GL := ch_c5 118 rfl rfl
theorem kw_1079 : (Cond.lays "CellHandoverLaw$Mobile" "CellHandoverLaw$Mobile" "state" "I") ∈ ch_GL := ch_c5 119 rfl rfl
theorem kw_1080 : (Cond.soleField "CellHandoverLaw$Mobile" "state") ∈ ch_GL := ch_c5 120 rfl rfl
theorem kw_1081 : (Cond.lays "CellHandoverLaw$Mobile" "CellHandoverLaw$Mobile" "cell" "I") ∈ ch_GL := ch_c5 121 rfl rfl
theorem kw_1082 : (Cond.soleField "CellHandoverLaw$Mobile" "cell") ∈ ch_GL := ch_c5 122 rfl rfl
theorem kw_1083 : (Cond.lays "CellHandoverLaw$Mobile" "CellHandoverLaw$Mobile" "left" "I") ∈ ch_GL := ch_c5 123 rfl rfl
theorem kw_1084 : (Cond.soleField "CellHandoverLaw$Mobile" "left") ∈ ch_GL := ch_c5 124 rfl rfl
theorem kw_1085 : (Cond.lays "CellHandoverLaw$Mobile" "CellHandoverLaw$Mobile" "bad" "I") ∈ ch_GL := ch_c5 125 rfl rfl
theorem kw_1086 : (Cond.soleField "CellHandoverLaw$Mobile" "bad") ∈ ch_GL := ch_c5 126 rfl rfl
theorem kw_1087 : (Cond.lays "CellHandoverLaw$Mobile" "CellHandoverLaw$Mobile" "at" "I") ∈ ch_GL := ch_c5 127 rfl rfl
theorem kw_1088 : (Cond.soleField "CellHandoverLaw$Mobile" "at") ∈ ch_GL := ch_c5 128 rfl rfl
theorem kw_1089 : (Cond.lays "CellHandoverLaw$Mobile" "CellHandoverLaw$Mobile" "kind" "I") ∈ ch_GL := ch_c5 129 rfl rfl
theorem kw_1090 : (Cond.soleField "CellHandoverLaw$Mobile" "kind") ∈ ch_GL := ch_c5 130 rfl rfl
theorem kw_1091 : (Cond.lays "CellHandoverLaw$Mobile" "CellHandoverLaw$Mobile" "tick" "I") ∈ ch_GL := ch_c5 131 rfl rfl
theorem kw_1092 : (Cond.soleField "CellHandoverLaw$Mobile" "tick") ∈ ch_GL := ch_c5 132 rfl rfl
theorem kw_1093 : (Cond.lays "CellHandoverLaw$Mobile" "CellHandoverLaw$Mobile" "barred" "[I") ∈ ch_GL := ch_c5 133 rfl rfl
theorem kw_1094 : (Cond.soleField "CellHandoverLaw$Mobile" "barred") ∈ ch_GL := ch_c5 134 rfl rfl
theorem kw_1095 : (Cond.lays "CellHandoverLaw$Mobile" "CellHandoverLaw$Mobile" "reports" "[[I") ∈ ch_GL := ch_c5 135 rfl rfl
theorem kw_1096 : (Cond.soleField "CellHandoverLaw$Mobile" "reports") ∈ ch_GL := ch_c5 136 rfl rfl
theorem kw_1097 : (Cond.superclass "CellHandoverLaw$Mobile" "java/lang/Object") ∈ ch_GL := ch_c5 137 rfl rfl
theorem kw_1098 : (Cond.methodLink "CellHandoverLaw" (223 : Nat) ({ cls := "CellHandover", name := "addMobile", desc := "(IIII)I" } : MethodName)) ∈ ch_GL := ch_c5 138 rfl rfl
theorem kw_1099 : (Cond.instanceMethod ({ cls := "CellHandover", name := "addMobile", desc := "(IIII)I" } : MethodName)) ∈ ch_GL := ch_c5 139 rfl rfl
theorem kw_1100 : (Cond.selects "CellHandover" ({ cls := "CellHandover", name := "addMobile", desc := "(IIII)I" } : MethodName) ({ cls := "CellHandover", name := "addMobile", desc := "(IIII)I" } : MethodName)) ∈ ch_GL := ch_c5 140 rfl rfl
theorem kw_1101 : (Cond.code ({ cls := "CellHandover", name := "addMobile", desc := "(IIII)I" } : MethodName) prog_1_method_14_code (6 : Nat) (Option.some FieldType.int)) ∈ ch_GL := ch_c5 141 rfl rfl
theorem kw_1102 : (Cond.methodLink "CellHandover" (143 : Nat) ({ cls := "CellHandover$Network", name := "mobileAt", desc := "(I)LCellHandover$Mobile;" } : MethodName)) ∈ ch_GL := ch_c5 142 rfl rfl
theorem kw_1103 : (Cond.methodLink "CellHandover" (147 : Nat) ({ cls := "CellHandover$Mobile", name := "place", desc := "(IIII)V" } : MethodName)) ∈ ch_GL := ch_c5 143 rfl rfl
theorem kw_1104 : (Cond.instanceMethod ({ cls := "CellHandover$Mobile", name := "place", desc := "(IIII)V" } : MethodName)) ∈ ch_GL := ch_c5 144 rfl rfl
theorem kw_1105 : (Cond.selects "CellHandover$Mobile" ({ cls := "CellHandover$Mobile", name := "place", desc := "(IIII)V" } : MethodName) ({ cls := "CellHandover$Mobile", name := "place", desc := "(IIII)V" } : MethodName)) ∈ ch_GL := ch_c5 145 rfl rfl
theorem kw_1106 : (Cond.code ({ cls := "CellHandover$Mobile", name := "place", desc := "(IIII)V" } : MethodName) prog_4_method_2_code (5 : Nat) (Option.none : Option FieldType)) ∈ ch_GL := ch_c5 146 rfl rfl
theorem kw_1107 : (Cond.methodLink "CellHandover$Mobile" (40 : Nat) ({ cls := "CellHandover$Mobile", name := "becomeIdle", desc := "()V" } : MethodName)) ∈ ch_GL := ch_c5 147 rfl rfl
theorem kb_1108 : (Cond.methodLinkNest "CellHandoverLaw" (227 : Nat) ({ cls := "CellHandoverLaw$Own", name := "call", desc := "(II)I" } : MethodName) "CellHandoverLaw") ∈ lw_tbl := ch_b5 148 rfl
theorem kb_1109 : (Cond.privateMethod ({ cls := "CellHandoverLaw$Own", name := "call", desc := "(II)I" } : MethodName)) ∈ lw_tbl := ch_b5 149 rfl
theorem kw_1110 : (Cond.instanceMethod ({ cls := "CellHandoverLaw$Own", name := "call", desc := "(II)I" } : MethodName)) ∈ ch_GL := ch_c5 150 rfl rfl
theorem kw_1111 : (Cond.code ({ cls := "CellHandoverLaw$Own", name := "call", desc := "(II)I" } : MethodName) prog_15_method_11_code (7 : Nat) (Option.some FieldType.int)) ∈ ch_GL := ch_c5 151 rfl rfl
theorem kw_1112 : (Cond.methodLink "CellHandoverLaw$Own" (114 : Nat) ({ cls := "CellHandoverLaw$Own", name := "covers", desc := "(II)I" } : MethodName)) ∈ ch_GL := ch_c5 152 rfl rfl
theorem kb_1113 : (Cond.privateMethod ({ cls := "CellHandoverLaw$Own", name := "covers", desc := "(II)I" } : MethodName)) ∈ lw_tbl := ch_b5 153 rfl
theorem kw_1114 : (Cond.instanceMethod ({ cls := "CellHandoverLaw$Own", name := "covers", desc := "(II)I" } : MethodName)) ∈ ch_GL := ch_c5 154 rfl rfl
theorem kw_1115 : (Cond.code ({ cls := "CellHandoverLaw$Own", name := "covers", desc := "(II)I" } : MethodName) prog_15_method_5_code (4 : Nat) (Option.some FieldType.int)) ∈ ch_GL := ch_c5 155 rfl rfl
theorem kw_1116 : (Cond.methodLink "CellHandoverLaw$Own" (84 : Nat) ({ cls := "CellHandoverLaw$Own", name := "strongest", desc := "(II)I" } : MethodName)) ∈ ch_GL := ch_c5 156 rfl rfl
theorem kb_1117 : (Cond.privateMethod ({ cls := "CellHandoverLaw$Own", name := "strongest", desc := "(II)I" } : MethodName)) ∈ lw_tbl := ch_b5 157 rfl
theorem kw_1118 : (Cond.instanceMethod ({ cls := "CellHandoverLaw$Own", name := "strongest", desc := "(II)I" } : MethodName)) ∈ ch_GL := ch_c5 158 rfl rfl
theorem kw_1119 : (Cond.code ({ cls := "CellHandoverLaw$Own", name := "strongest", desc := "(II)I" } : MethodName) prog_15_method_4_code (5 : Nat) (Option.some FieldType.int)) ∈ ch_GL := ch_c5 159 rfl rfl
theorem kw_1120 : (Cond.methodLink "CellHandoverLaw" (230 : Nat) ({ cls := "CellHandover", name := "call", desc := "(II)I" } : MethodName)) ∈ ch_GL := ch_c5 160 rfl rfl
theorem kw_1121 : (Cond.instanceMethod ({ cls := "CellHandover", name := "call", desc := "(II)I" } : MethodName)) ∈ ch_GL := ch_c5 161 rfl rfl
theorem kw_1122 : (Cond.selects "CellHandover" ({ cls := "CellHandover", name := "call", desc := "(II)I" } : MethodName) ({ cls := "CellHandover", name := "call", desc := "(II)I" } : MethodName)) ∈ ch_GL := ch_c5 162 rfl rfl
theorem kw_1123 : (Cond.code ({ cls := "CellHandover", name := "call", desc := "(II)I" } : MethodName) prog_1_method_16_code (5 : Nat) (Option.some FieldType.int)) ∈ ch_GL := ch_c5 163 rfl rfl
theorem kw_1124 : (Cond.methodLink "CellHandover" (153 : Nat) ({ cls := "CellHandover", name := "requireMobile", desc := "(I)V" } : MethodName)) ∈ ch_GL := ch_c5 164 rfl rfl
theorem kb_1125 : (Cond.privateMethod ({ cls := "CellHandover", name := "requireMobile", desc := "(I)V" } : MethodName)) ∈ lw_tbl := ch_b5 165 rfl
theorem kw_1126 : (Cond.instanceMethod ({ cls := "CellHandover", name := "requireMobile", desc := "(I)V" } : MethodName)) ∈ ch_GL := ch_c5 166 rfl rfl
theorem kw_1127 : (Cond.code ({ cls := "CellHandover", name := "requireMobile", desc := "(I)V" } : MethodName) prog_1_method_45_code (2 : Nat) (Option.none : Option FieldType)) ∈ ch_GL := ch_c5 167 rfl rfl
theorem kw_1128 : (Cond.classLink "CellHandover" (253 : Nat) "java/util/NoSuchElementException") ∈ ch_GL := ch_c5 168 rfl rfl
theorem kw_1129 : (Cond.instantiable "java/util/NoSuchElementException" (6 : Nat)) ∈ ch_GL := ch_c5 169 rfl rfl
theorem kb_1130 : (Cond.castable "java/util/NoSuchElementException" "java/util/NoSuchElementException") ∈ lw_tbl := ch_b5 170 rfl
theorem kw_1131 : (Cond.selects "java/util/NoSuchElementException" ({ cls := "java/lang/Throwable", name := "fillInStackTrace", desc := "(I)Ljava/lang/Throwable;" } : MethodName) ({ cls := "java/lang/Throwable", name := "fillInStackTrace", desc := "(I)Ljava/lang/Throwable;" } : MethodName)) ∈ ch_GL := ch_c5 171 rfl rfl
theorem kw_1132 : (Cond.lays "java/util/NoSuchElementException" "java/lang/Throwable" "cause" "Ljava/lang/Throwable;") ∈ ch_GL := ch_c5 172 rfl rfl
theorem kw_1133 : (Cond.lays "java/util/NoSuchElementException" "java/lang/Throwable" "stackTrace" "[Ljava/lang/StackTraceElement;") ∈ ch_GL := ch_c5 173 rfl rfl
theorem kw_1134 : (Cond.lays "java/util/NoSuchElementException" "java/lang/Throwable" "suppressedExceptions" "Ljava/util/List;") ∈ ch_GL := ch_c5 174 rfl rfl
theorem kw_1135 : (Cond.lays "java/util/NoSuchElementException" "java/lang/Throwable" "detailMessage" "Ljava/lang/String;") ∈ ch_GL := ch_c5 175 rfl rfl
theorem kw_1136 : (Cond.lays "java/util/NoSuchElementException" "java/lang/Throwable" "backtrace" "Ljava/lang/Object;") ∈ ch_GL := ch_c5 176 rfl rfl
theorem kb_1137 : (Cond.stringRef "CellHandover" (260 : Nat) "no such mobile") ∈ lw_tbl := ch_b5 177 rfl
theorem kw_1138 : (Cond.methodLink "CellHandover" (257 : Nat) ({ cls := "java/util/NoSuchElementException", name := "<init>", desc := "(Ljava/lang/String;)V" } : MethodName)) ∈ ch_GL := ch_c5 178 rfl rfl
theorem kw_1139 : (Cond.instanceMethod ({ cls := "java/util/NoSuchElementException", name := "<init>", desc := "(Ljava/lang/String;)V" } : MethodName)) ∈ ch_GL := ch_c5 179 rfl rfl
theorem kw_1140 : (Cond.code ({ cls := "java/util/NoSuchElementException", name := "<init>", desc := "(Ljava/lang/String;)V" } : MethodName) prog_32_method_4_code (2 : Nat) (Option.none : Option FieldType)) ∈ ch_GL := ch_c5 180 rfl rfl
theorem kw_1141 : (Cond.methodLink "java/util/NoSuchElementException" (13 : Nat) ({ cls := "java/lang/RuntimeException", name := "<init>", desc := "(Ljava/lang/String;)V" } : MethodName)) ∈ ch_GL := ch_c5 181 rfl rfl
theorem kw_1142 : (Cond.lays "java/util/NoSuchElementException" "java/lang/Throwable" "depth" "I") ∈ ch_GL := ch_c5 182 rfl rfl
theorem kw_1143 : (Cond.superclass "java/util/NoSuchElementException" "java/lang/RuntimeException") ∈ ch_GL := ch_c5 183 rfl rfl
theorem kw_1144 : (Cond.methodLink "CellHandover" (130 : Nat) ({ cls := "CellHandover$Network", name := "coveringCell", desc := "(II)I" } : MethodName)) ∈ ch_GL := ch_c5 184 rfl rfl
theorem kw_1145 : (Cond.instanceMethod ({ cls := "CellHandover$Network", name := "coveringCell", desc := "(II)I" } : MethodName)) ∈ ch_GL := ch_c5 185 rfl rfl
theorem kw_1146 : (Cond.selects "CellHandover$Network" ({ cls := "CellHandover$Network", name := "coveringCell", desc := "(II)I" } : MethodName) ({ cls := "CellHandover$Network", name := "coveringCell", desc := "(II)I" } : MethodName)) ∈ ch_GL := ch_c5 186 rfl rfl
theorem kw_1147 : (Cond.code ({ cls := "CellHandover$Network", name := "coveringCell", desc := "(II)I" } : MethodName) prog_5_method_11_code (4 : Nat) (Option.some FieldType.int)) ∈ ch_GL := ch_c5 187 rfl rfl
theorem kw_1148 : (Cond.methodLink "CellHandover$Network" (121 : Nat) ({ cls := "CellHandover$Network", name := "loudestCell", desc := "(II)I" } : MethodName)) ∈ ch_GL := ch_c5 188 rfl rfl
theorem kw_1149 : (Cond.instanceMethod ({ cls := "CellHandover$Network", name := "loudestCell", desc := "(II)I" } : MethodName)) ∈ ch_GL := ch_c5 189 rfl rfl
theorem kw_1150 : (Cond.selects "CellHandover$Network" ({ cls := "CellHandover$Network", name := "loudestCell", desc := "(II)I" } : MethodName) ({ cls := "CellHandover$Network", name := "loudestCell", desc := "(II)I" } : MethodName)) ∈ ch_GL := ch_c5 190 rfl rfl
theorem kw_1151 : (Cond.code ({ cls := "CellHandover$Network", name := "loudestCell", desc := "(II)I" } : MethodName) prog_5_method_10_code (7 : Nat) (Option.some FieldType.int)) ∈ ch_GL := ch_c5 191 rfl rfl
theorem kw_1152 : (Cond.methodLink "CellHandover$Network" (117 : Nat) ({ cls := "CellHandover$Cell", name := "levelAt", desc := "(II)I" } : MethodName)) ∈ ch_GL := ch_c5 192 rfl rfl
theorem kw_1153 : (Cond.methodLink "CellHandover$Network" (124 : Nat) ({ cls := "CellHandover$Network", name := "canBeUsed", desc := "(III)Z" } : MethodName)) ∈ ch_GL := ch_c5 193 rfl rfl
theorem kb_1154 : (Cond.privateMethod ({ cls := "CellHandover$Network", name := "canBeUsed", desc := "(III)Z" } : MethodName)) ∈ lw_tbl := ch_b5 194 rfl
theorem kw_1155 : (Cond.instanceMethod ({ cls := "CellHandover$Network", name := "canBeUsed", desc := "(III)Z" } : MethodName)) ∈ ch_GL := ch_c5 195 rfl rfl
theorem kw_1156 : (Cond.code ({ cls := "CellHandover$Network", name := "canBeUsed", desc := "(III)Z" } : MethodName) prog_5_method_12_code (5 : Nat) (Option.some FieldType.boolean)) ∈ ch_GL := ch_c5 196 rfl rfl
theorem kw_1157 : (Cond.methodLink "CellHandover" (171 : Nat) ({ cls := "CellHandover$Network", name := "setUpCall", desc := "(LCellHandover$Mobile;II)I" } : MethodName)) ∈ ch_GL := ch_c5 197 rfl rfl
theorem kw_1158 : (Cond.instanceMethod ({ cls := "CellHandover$Network", name := "setUpCall", desc := "(LCellHandover$Mobile;II)I" } : MethodName)) ∈ ch_GL := ch_c5 198 rfl rfl
theorem kw_1159 : (Cond.selects "CellHandover$Network" ({ cls := "CellHandover$Network", name := "setUpCall", desc := "(LCellHandover$Mobile;II)I" } : MethodName) ({ cls := "CellHandover$Network", name := "setUpCall", desc := "(LCellHandover$Mobile;II)I" } : MethodName)) ∈ ch_GL := ch_c5 199 rfl rfl
theorem kw_1160 : (Cond.code ({ cls := "CellHandover$Network", name := "setUpCall", desc := "(LCellHandover$Mobile;II)I" } : MethodName) prog_5_method_20_code (5 : Nat) (Option.some FieldType.int)) ∈ ch_GL := ch_c5 200 rfl rfl
theorem kw_1161 : (Cond.methodLink "CellHandover$Network" (163 : Nat) ({ cls := "CellHandover$Network", name := "hasFreeChannel", desc := "(I)Z" } : MethodName)) ∈ ch_GL := ch_c5 201 rfl rfl
theorem kw_1162 : (Cond.methodLink "CellHandover$Network" (173 : Nat) ({ cls := "CellHandover$Network", name := "retryCell", desc := "(III)I" } : MethodName)) ∈ ch_GL := ch_c5 202 rfl rfl
theorem kb_1163 : (Cond.privateMethod ({ cls := "CellHandover$Network", name := "retryCell", desc := "(III)I" } : MethodName)) ∈ lw_tbl := ch_b5 203 rfl
theorem kw_1164 : (Cond.instanceMethod ({ cls := "CellHandover$Network", name := "retryCell", desc := "(III)I" } : MethodName)) ∈ ch_GL := ch_c5 204 rfl rfl
theorem kw_1165 : (Cond.code ({ cls := "CellHandover$Network", name := "retryCell", desc := "(III)I" } : MethodName) prog_5_method_21_code (8 : Nat) (Option.some FieldType.int)) ∈ ch_GL := ch_c5 205 rfl rfl
theorem kw_1166 : (Cond.methodLink "CellHandover$Network" (184 : Nat) ({ cls := "CellHandover$Mobile", name := "beginToTalk", desc := "(I)V" } : MethodName)) ∈ ch_GL := ch_c5 206 rfl rfl
theorem kw_1167 : (Cond.methodLink "CellHandover$Network" (187 : Nat) ({ cls := "CellHandover$Network", name := "hasQueuePlace", desc := "(I)Z" } : MethodName)) ∈ ch_GL := ch_c5 207 rfl rfl
theorem kw_1168 : (Cond.methodLink "CellHandover$Network" (190 : Nat) ({ cls := "CellHandover$Mobile", name := "waitForSetUp", desc := "(II)V" } : MethodName)) ∈ ch_GL := ch_c5 208 rfl rfl
theorem kw_1169 : (Cond.instanceMethod ({ cls := "CellHandover$Mobile", name := "waitForSetUp", desc := "(II)V" } : MethodName)) ∈ ch_GL := ch_c5 209 rfl rfl
theorem kw_1170 : (Cond.selects "CellHandover$Mobile" ({ cls := "CellHandover$Mobile", name := "waitForSetUp", desc := "(II)V" } : MethodName) ({ cls := "CellHandover$Mobile", name := "waitForSetUp", desc := "(II)V" } : MethodName)) ∈ ch_GL := ch_c5 210 rfl rfl
theorem kw_1171 : (Cond.code ({ cls := "CellHandover$Mobile", name := "waitForSetUp", desc := "(II)V" } : MethodName) prog_4_method_5_code (3 : Nat) (Option.none : Option FieldType)) ∈ ch_GL := ch_c5 211 rfl rfl
theorem kw_1172 : (Cond.methodLink "CellHandover$Mobile" (58 : Nat) ({ cls := "CellHandover$Mobile", name := "makeRequest", desc := "(II)V" } : MethodName)) ∈ ch_GL := ch_c5 212 rfl rfl
theorem kb_1173 : (Cond.methodLinkNest "CellHandoverLaw" (231 : Nat) ({ cls := "CellHandoverLaw$Mobile", name := "ends", desc := "()V" } : MethodName) "CellHandoverLaw") ∈ lw_tbl := ch_b5 213 rfl
theorem kw_1174 : (Cond.methodLink "CellHandoverLaw" (234 : Nat) ({ cls := "CellHandover", name := "hangUp", desc := "(I)I" } : MethodName)) ∈ ch_GL := ch_c5 214 rfl rfl
theorem kw_1175 : (Cond.instanceMethod ({ cls := "CellHandover", name := "hangUp", desc := "(I)I" } : MethodName)) ∈ ch_GL := ch_c5 215 rfl rfl
theorem kw_1176 : (Cond.selects "CellHandover" ({ cls := "CellHandover", name := "hangUp", desc := "(I)I" } : MethodName) ({ cls := "CellHandover", name := "hangUp", desc := "(I)I" } : MethodName)) ∈ ch_GL := ch_c5 216 rfl rfl
theorem kw_1177 : (Cond.code ({ cls := "CellHandover", name := "hangUp", desc := "(I)I" } : MethodName) prog_1_method_17_code (4 : Nat) (Option.some FieldType.int)) ∈ ch_GL := ch_c5 217 rfl rfl
theorem kw_1178 : (Cond.methodLink "CellHandover" (175 : Nat) ({ cls := "CellHandover$Mobile", name := "becomeIdle", desc := "()V" } : MethodName)) ∈ ch_GL := ch_c5 218 rfl rfl
theorem kw_1179 : (Cond.methodLink "CellHandoverLaw" (237 : Nat) ({ cls := "CellHandover", name := "setVelocity", desc := "(III)I" } : MethodName)) ∈ ch_GL := ch_c5 219 rfl rfl
theorem kw_1180 : (Cond.instanceMethod ({ cls := "CellHandover", name := "setVelocity", desc := "(III)I" } : MethodName)) ∈ ch_GL := ch_c5 220 rfl rfl
theorem kw_1181 : (Cond.selects "CellHandover" ({ cls := "CellHandover", name := "setVelocity", desc := "(III)I" } : MethodName) ({ cls := "CellHandover", name := "setVelocity", desc := "(III)I" } : MethodName)) ∈ ch_GL := ch_c5 221 rfl rfl
theorem kw_1182 : (Cond.code ({ cls := "CellHandover", name := "setVelocity", desc := "(III)I" } : MethodName) prog_1_method_15_code (5 : Nat) (Option.some FieldType.int)) ∈ ch_GL := ch_c5 222 rfl rfl
theorem kw_1183 : (Cond.methodLink "CellHandoverLaw" (241 : Nat) ({ cls := "CellHandover", name := "setHysteresis", desc := "(III)I" } : MethodName)) ∈ ch_GL := ch_c5 223 rfl rfl
theorem kw_1184 : (Cond.instanceMethod ({ cls := "CellHandover", name := "setHysteresis", desc := "(III)I" } : MethodName)) ∈ ch_GL := ch_c5 224 rfl rfl
theorem kw_1185 : (Cond.selects "CellHandover" ({ cls := "CellHandover", name := "setHysteresis", desc := "(III)I" } : MethodName) ({ cls := "CellHandover", name := "setHysteresis", desc := "(III)I" } : MethodName)) ∈ ch_GL := ch_c5 225 rfl rfl
theorem kw_1186 : (Cond.code ({ cls := "CellHandover", name := "setHysteresis", desc := "(III)I" } : MethodName) prog_1_method_18_code (6 : Nat) (Option.some FieldType.int)) ∈ ch_GL := ch_c5 226 rfl rfl
theorem kw_1187 : (Cond.methodLink "CellHandover" (105 : Nat) ({ cls := "CellHandover", name := "requireCell", desc := "(I)V" } : MethodName)) ∈ ch_GL := ch_c5 227 rfl rfl
theorem kb_1188 : (Cond.privateMethod ({ cls := "CellHandover", name := "requireCell", desc := "(I)V" } : MethodName)) ∈ lw_tbl := ch_b5 228 rfl
theorem kw_1189 : (Cond.instanceMethod ({ cls := "CellHandover", name := "requireCell", desc := "(I)V" } : MethodName)) ∈ ch_GL := ch_c5 229 rfl rfl
theorem kw_1190 : (Cond.code ({ cls := "CellHandover", name := "requireCell", desc := "(I)V" } : MethodName) prog_1_method_44_code (2 : Nat) (Option.none : Option FieldType)) ∈ ch_GL := ch_c5 230 rfl rfl
theorem kb_1191 : (Cond.stringRef "CellHandover" (255 : Nat) "no such cell") ∈ lw_tbl := ch_b5 231 rfl
theorem kw_1192 : (Cond.methodLink "CellHandover" (108 : Nat) ({ cls := "CellHandover$Network", name := "relationAt", desc := "(II)LCellHandover$Relation;" } : MethodName)) ∈ ch_GL := ch_c5 232 rfl rfl
theorem kw_1193 : (Cond.methodLink "CellHandoverLaw" (248 : Nat) ({ cls := "CellHandoverLaw", name := "all", desc := "(LCellHandover;LCellHandoverLaw$Own;)I" } : MethodName)) ∈ ch_GL := ch_c5 233 rfl rfl
theorem kw_1194 : (Cond.static ({ cls := "CellHandoverLaw", name := "all", desc := "(LCellHandover;LCellHandoverLaw$Own;)I" } : MethodName)) ∈ ch_GL := ch_c5 234 rfl rfl
theorem kw_1195 : (Cond.code ({ cls := "CellHandoverLaw", name := "all", desc := "(LCellHandover;LCellHandoverLaw$Own;)I" } : MethodName) method_14_code (5 : Nat) (Option.some FieldType.int)) ∈ ch_GL := ch_c5 235 rfl rfl
theorem kw_1196 : (Cond.methodLink "CellHandoverLaw" (113 : Nat) ({ cls := "CellHandover", name := "total", desc := "(I)I" } : MethodName)) ∈ ch_GL := ch_c5 236 rfl rfl
theorem kw_1197 : (Cond.instanceMethod ({ cls := "CellHandover", name := "total", desc := "(I)I" } : MethodName)) ∈ ch_GL := ch_c5 237 rfl rfl
theorem kw_1198 : (Cond.selects "CellHandover" ({ cls := "CellHandover", name := "total", desc := "(I)I" } : MethodName) ({ cls := "CellHandover", name := "total", desc := "(I)I" } : MethodName)) ∈ ch_GL := ch_c5 238 rfl rfl
theorem kw_1199 : (Cond.code ({ cls := "CellHandover", name := "total", desc := "(I)I" } : MethodName) prog_1_method_35_code (2 : Nat) (Option.some FieldType.int)) ∈ ch_GL := ch_c5 239 rfl rfl
theorem kw_1200 : (Cond.methodLink "CellHandoverLaw" (158 : Nat) ({ cls := "CellHandover", name := "x", desc := "(I)I" } : MethodName)) ∈ ch_GL := ch_c6 0 rfl rfl
theorem kw_1201 : (Cond.instanceMethod ({ cls := "CellHandover", name := "x", desc := "(I)I" } : MethodName)) ∈ ch_GL := ch_c6 1 rfl rfl
theorem kw_1202 : (Cond.selects "CellHandover" ({ cls := "CellHandover", name := "x", desc := "(I)I" } : MethodName) ({ cls := "CellHandover", name := "x", desc := "(I)I" } : MethodName)) ∈ ch_GL := ch_c6 2 rfl rfl
theorem kw_1203 : (Cond.code ({ cls := "CellHandover", name := "x", desc := "(I)I" } : MethodName) prog_1_method_20_code (2 : Nat) (Option.some FieldType.int)) ∈ ch_GL := ch_c6 3 rfl rfl
theorem kw_1204 : (Cond.methodLink "CellHandoverLaw" (165 : Nat) ({ cls := "CellHandover", name := "y", desc := "(I)I" } : MethodName)) ∈ ch_GL := ch_c6 4 rfl rfl
theorem kw_1205 : (Cond.instanceMethod ({ cls := "CellHandover", name := "y", desc := "(I)I" } : MethodName)) ∈ ch_GL := ch_c6 5 rfl rfl
theorem kw_1206 : (Cond.selects "CellHandover" ({ cls := "CellHandover", name := "y", desc := "(I)I" } : MethodName) ({ cls := "CellHandover", name := "y", desc := "(I)I" } : MethodName)) ∈ ch_GL := ch_c6 6 rfl rfl
theorem kw_1207 : (Cond.code ({ cls := "CellHandover", name := "y", desc := "(I)I" } : MethodName) prog_1_method_21_code (2 : Nat) (Option.some FieldType.int)) ∈ ch_GL := ch_c6 7 rfl rfl
theorem kw_1208 : (Cond.methodLink "CellHandoverLaw" (170 : Nat) ({ cls := "CellHandover", name := "state", desc := "(I)I" } : MethodName)) ∈ ch_GL := ch_c6 8 rfl rfl
theorem kw_1209 : (Cond.instanceMethod ({ cls := "CellHandover", name := "state", desc := "(I)I" } : MethodName)) ∈ ch_GL := ch_c6 9 rfl rfl
theorem kw_1210 : (Cond.selects "CellHandover" ({ cls := "CellHandover", name := "state", desc := "(I)I" } : MethodName) ({ cls := "CellHandover", name := "state", desc := "(I)I" } : MethodName)) ∈ ch_GL := ch_c6 10 rfl rfl
theorem kw_1211 : (Cond.code ({ cls := "CellHandover", name := "state", desc := "(I)I" } : MethodName) prog_1_method_22_code (2 : Nat) (Option.some FieldType.int)) ∈ ch_GL := ch_c6 11 rfl rfl
theorem kw_1212 : (Cond.methodLink "CellHandoverLaw" (175 : Nat) ({ cls := "CellHandover", name := "servingCell", desc := "(I)I" } : MethodName)) ∈ ch_GL := ch_c6 12 rfl rfl
theorem kw_1213 : (Cond.instanceMethod ({ cls := "CellHandover", name := "servingCell", desc := "(I)I" } : MethodName)) ∈ ch_GL := ch_c6 13 rfl rfl
theorem kw_1214 : (Cond.selects "CellHandover" ({ cls := "CellHandover", name := "servingCell", desc := "(I)I" } : MethodName) ({ cls := "CellHandover", name := "servingCell", desc := "(I)I" } : MethodName)) ∈ ch_GL := ch_c6 14 rfl rfl
theorem kw_1215 : (Cond.code ({ cls := "CellHandover", name := "servingCell", desc := "(I)I" } : MethodName) prog_1_method_23_code (2 : Nat) (Option.some FieldType.int)) ∈ ch_GL := ch_c6 15 rfl rfl
theorem kw_1216 : (Cond.methodLink "CellHandoverLaw" (180 : Nat) ({ cls := "CellHandover", name := "remaining", desc := "(I)I" } : MethodName)) ∈ ch_GL := ch_c6 16 rfl rfl
theorem kw_1217 : (Cond.instanceMethod ({ cls := "CellHandover", name := "remaining", desc := "(I)I" } : MethodName)) ∈ ch_GL := ch_c6 17 rfl rfl
theorem kw_1218 : (Cond.selects "CellHandover" ({ cls := "CellHandover", name := "remaining", desc := "(I)I" } : MethodName) ({ cls := "CellHandover", name := "remaining", desc := "(I)I" } : MethodName)) ∈ ch_GL := ch_c6 18 rfl rfl
theorem kw_1219 : (Cond.code ({ cls := "CellHandover", name := "remaining", desc := "(I)I" } : MethodName) prog_1_method_24_code (2 : Nat) (Option.some FieldType.int)) ∈ ch_GL := ch_c6 19 rfl rfl
theorem kw_1220 : (Cond.methodLink "CellHandoverLaw" (186 : Nat) ({ cls := "CellHandover", name := "requestCell", desc := "(I)I" } : MethodName)) ∈ ch_GL := ch_c6 20 rfl rfl
theorem kw_1221 : (Cond.instanceMethod ({ cls := "CellHandover", name := "requestCell", desc := "(I)I" } : MethodName)) ∈ ch_GL := ch_c6 21 rfl rfl
theorem kw_1222 : (Cond.selects "CellHandover" ({ cls := "CellHandover", name := "requestCell", desc := "(I)I" } : MethodName) ({ cls := "CellHandover", name := "requestCell", desc := "(I)I" } : MethodName)) ∈ ch_GL := ch_c6 22 rfl rfl
theorem kw_1223 : (Cond.code ({ cls := "CellHandover", name := "requestCell", desc := "(I)I" } : MethodName) prog_1_method_25_code (2 : Nat) (Option.some FieldType.int)) ∈ ch_GL := ch_c6 23 rfl rfl
theorem kw_1224 : (Cond.methodLink "CellHandoverLaw" (198 : Nat) ({ cls := "CellHandover", name := "average", desc := "(II)I" } : MethodName)) ∈ ch_GL := ch_c6 24 rfl rfl
theorem kw_1225 : (Cond.instanceMethod ({ cls := "CellHandover", name := "average", desc := "(II)I" } : MethodName)) ∈ ch_GL := ch_c6 25 rfl rfl
theorem kw_1226 : (Cond.selects "CellHandover" ({ cls := "CellHandover", name := "average", desc := "(II)I" } : MethodName) ({ cls := "CellHandover", name := "average", desc := "(II)I" } : MethodName)) ∈ ch_GL := ch_c6 26 rfl rfl
theorem kw_1227 : (Cond.code ({ cls := "CellHandover", name := "average", desc := "(II)I" } : MethodName) prog_1_method_26_code (3 : Nat) (Option.some FieldType.int)) ∈ ch_GL := ch_c6 27 rfl rfl
theorem kw_1228 : (Cond.methodLink "CellHandover" (199 : Nat) ({ cls := "CellHandover$Mobile", name := "averageOf", desc := "(I)I" } : MethodName)) ∈ ch_GL := ch_c6 28 rfl rfl
theorem kw_1229 : (Cond.methodLink "CellHandoverLaw" (195 : Nat) ({ cls := "CellHandover", name := "reportCount", desc := "(II)I" } : MethodName)) ∈ ch_GL := ch_c6 29 rfl rfl
theorem kw_1230 : (Cond.instanceMethod ({ cls := "CellHandover", name := "reportCount", desc := "(II)I" } : MethodName)) ∈ ch_GL := ch_c6 30 rfl rfl
theorem kw_1231 : (Cond.selects "CellHandover" ({ cls := "CellHandover", name := "reportCount", desc := "(II)I" } : MethodName) ({ cls := "CellHandover", name := "reportCount", desc := "(II)I" } : MethodName)) ∈ ch_GL := ch_c6 31 rfl rfl
theorem kw_1232 : (Cond.code ({ cls := "CellHandover", name := "reportCount", desc := "(II)I" } : MethodName) prog_1_method_27_code (3 : Nat) (Option.some FieldType.int)) ∈ ch_GL := ch_c6 32 rfl rfl
theorem kw_1233 : (Cond.methodLink "CellHandover" (202 : Nat) ({ cls := "CellHandover$Mobile", name := "reportsOf", desc := "(I)I" } : MethodName)) ∈ ch_GL := ch_c6 33 rfl rfl
theorem kw_1234 : (Cond.methodLink "CellHandoverLaw" (203 : Nat) ({ cls := "CellHandover", name := "isBarred", desc := "(II)Z" } : MethodName)) ∈ ch_GL := ch_c6 34 rfl rfl
theorem kw_1235 : (Cond.instanceMethod ({ cls := "CellHandover", name := "isBarred", desc := "(II)Z" } : MethodName)) ∈ ch_GL := ch_c6 35 rfl rfl
theorem kw_1236 : (Cond.selects "CellHandover" ({ cls := "CellHandover", name := "isBarred", desc := "(II)Z" } : MethodName) ({ cls := "CellHandover", name := "isBarred", desc := "(II)Z" } : MethodName)) ∈ ch_GL := ch_c6 36 rfl rfl
theorem kw_1237 : (Cond.code ({ cls := "CellHandover", name := "isBarred", desc := "(II)Z" } : MethodName) prog_1_method_28_code (3 : Nat) (Option.some FieldType.boolean)) ∈ ch_GL := ch_c6 37 rfl rfl
theorem kw_1238 : (Cond.methodLink "CellHandover" (205 : Nat) ({ cls := "CellHandover$Mobile", name := "isBarredAt", desc := "(II)Z" } : MethodName)) ∈ ch_GL := ch_c6 38 rfl rfl
theorem kw_1239 : (Cond.methodLink "CellHandoverLaw" (133 : Nat) ({ cls := "CellHandover", name := "congestedTicks", desc := "(I)I" } : MethodName)) ∈ ch_GL := ch_c6 39 rfl rfl
theorem kw_1240 : (Cond.instanceMethod ({ cls := "CellHandover", name := "congestedTicks", desc := "(I)I" } : MethodName)) ∈ ch_GL := ch_c6 40 rfl rfl
theorem kw_1241 : (Cond.selects "CellHandover" ({ cls := "CellHandover", name := "congestedTicks", desc := "(I)I" } : MethodName) ({ cls := "CellHandover", name := "congestedTicks", desc := "(I)I" } : MethodName)) ∈ ch_GL := ch_c6 41 rfl rfl
theorem kw_1242 : (Cond.code ({ cls := "CellHandover", name := "congestedTicks", desc := "(I)I" } : MethodName) prog_1_method_36_code (2 : Nat) (Option.some FieldType.int)) ∈ ch_GL := ch_c6 42 rfl rfl
theorem kw_1243 : (Cond.methodLink "CellHandover" (120 : Nat) ({ cls := "CellHandover$Network", name := "cellAt", desc := "(I)LCellHandover$Cell;" } : MethodName)) ∈ ch_GL := ch_c6 43 rfl rfl
theorem kw_1244 : (Cond.methodLink "CellHandoverLaw" (142 : Nat) ({ cls := "CellHandover", name := "hysteresis", desc := "(II)I" } : MethodName)) ∈ ch_GL := ch_c6 44 rfl rfl
theorem kw_1245 : (Cond.instanceMethod ({ cls := "CellHandover", name := "hysteresis", desc := "(II)I" } : MethodName)) ∈ ch_GL := ch_c6 45 rfl rfl
theorem kw_1246 : (Cond.selects "CellHandover" ({ cls := "CellHandover", name := "hysteresis", desc := "(II)I" } : MethodName) ({ cls := "CellHandover", name := "hysteresis", desc := "(II)I" } : MethodName)) ∈ ch_GL := ch_c6 46 rfl rfl
theorem kw_1247 : (Cond.code ({ cls := "CellHandover", name := "hysteresis", desc := "(II)I" } : MethodName) prog_1_method_9_code (4 : Nat) (Option.some FieldType.int)) ∈ ch_GL := ch_c6 47 rfl rfl
theorem kw_1248 : (Cond.methodLink "CellHandoverLaw" (144 : Nat) ({ cls := "CellHandover", name := "successes", desc := "(II)I" } : MethodName)) ∈ ch_GL := ch_c6 48 rfl rfl
theorem kw_1249 : (Cond.instanceMethod ({ cls := "CellHandover", name := "successes", desc := "(II)I" } : MethodName)) ∈ ch_GL := ch_c6 49 rfl rfl
theorem kw_1250 : (Cond.selects "CellHandover" ({ cls := "CellHandover", name := "successes", desc := "(II)I" } : MethodName) ({ cls := "CellHandover", name := "successes", desc := "(II)I" } : MethodName)) ∈ ch_GL := ch_c6 50 rfl rfl
theorem kw_1251 : (Cond.code ({ cls := "CellHandover", name := "successes", desc := "(II)I" } : MethodName) prog_1_method_33_code (3 : Nat) (Option.some FieldType.int)) ∈ ch_GL := ch_c6 51 rfl rfl
theorem kw_1252 : (Cond.methodLink "CellHandoverLaw" (149 : Nat) ({ cls := "CellHandover", name := "refusals", desc := "(II)I" } : MethodName)) ∈ ch_GL := ch_c6 52 rfl rfl
theorem kw_1253 : (Cond.instanceMethod ({ cls := "CellHandover", name := "refusals", desc := "(II)I" } : MethodName)) ∈ ch_GL := ch_c6 53 rfl rfl
theorem kw_1254 : (Cond.selects "CellHandover" ({ cls := "CellHandover", name := "refusals", desc := "(II)I" } : MethodName) ({ cls := "CellHandover", name := "refusals", desc := "(II)I" } : MethodName)) ∈ ch_GL := ch_c6 54 rfl rfl
theorem kw_1255 : (Cond.code ({ cls := "CellHandover", name := "refusals", desc := "(II)I" } : MethodName) prog_1_method_34_code (3 : Nat) (Option.some FieldType.int)) ∈ ch_GL := ch_c6 55 rfl rfl
theorem kw_1256 : (Cond.methodLink "CellHandoverLaw" (273 : Nat) ({ cls := "CellHandoverLaw", name := "isSound", desc := "(LCellHandover;LCellHandoverLaw$Own;)Z" } : MethodName)) ∈ ch_GL := ch_c6 56 rfl rfl
theorem kw_1257 : (Cond.static ({ cls := "CellHandoverLaw", name := "isSound", desc := "(LCellHandover;LCellHandoverLaw$Own;)Z" } : MethodName)) ∈ ch_GL := ch_c6 57 rfl rfl
theorem kw_1258 : (Cond.code ({ cls := "CellHandoverLaw", name := "isSound", desc := "(LCellHandover;LCellHandoverLaw$Own;)Z" } : MethodName) method_15_code (14 : Nat) (Option.some FieldType.boolean)) ∈ ch_GL := ch_c6 58 rfl rfl
theorem kw_1259 : (Cond.methodLink "CellHandoverLaw" (130 : Nat) ({ cls := "CellHandover", name := "queueLength", desc := "(I)I" } : MethodName)) ∈ ch_GL := ch_c6 59 rfl rfl
theorem kw_1260 : (Cond.instanceMethod ({ cls := "CellHandover", name := "queueLength", desc := "(I)I" } : MethodName)) ∈ ch_GL := ch_c6 60 rfl rfl
theorem kw_1261 : (Cond.selects "CellHandover" ({ cls := "CellHandover", name := "queueLength", desc := "(I)I" } : MethodName) ({ cls := "CellHandover", name := "queueLength", desc := "(I)I" } : MethodName)) ∈ ch_GL := ch_c6 61 rfl rfl
theorem kw_1262 : (Cond.code ({ cls := "CellHandover", name := "queueLength", desc := "(I)I" } : MethodName) prog_1_method_31_code (2 : Nat) (Option.some FieldType.int)) ∈ ch_GL := ch_c6 62 rfl rfl
theorem kw_1263 : (Cond.methodLink "CellHandover" (219 : Nat) ({ cls := "CellHandover$Network", name := "requestsAt", desc := "(I)I" } : MethodName)) ∈ ch_GL := ch_c6 63 rfl rfl
theorem kw_1264 : (Cond.methodLink "CellHandoverLaw" (124 : Nat) ({ cls := "CellHandover", name := "busyChannels", desc := "(I)I" } : MethodName)) ∈ ch_GL := ch_c6 64 rfl rfl
theorem kw_1265 : (Cond.instanceMethod ({ cls := "CellHandover", name := "busyChannels", desc := "(I)I" } : MethodName)) ∈ ch_GL := ch_c6 65 rfl rfl
theorem kw_1266 : (Cond.selects "CellHandover" ({ cls := "CellHandover", name := "busyChannels", desc := "(I)I" } : MethodName) ({ cls := "CellHandover", name := "busyChannels", desc := "(I)I" } : MethodName)) ∈ ch_GL := ch_c6 66 rfl rfl
theorem kw_1267 : (Cond.code ({ cls := "CellHandover", name := "busyChannels", desc := "(I)I" } : MethodName) prog_1_method_30_code (2 : Nat) (Option.some FieldType.int)) ∈ ch_GL := ch_c6 67 rfl rfl
theorem kw_1268 : (Cond.methodLink "CellHandover" (216 : Nat) ({ cls := "CellHandover$Network", name := "talkersIn", desc := "(I)I" } : MethodName)) ∈ ch_GL := ch_c6 68 rfl rfl
theorem kw_1269 : (Cond.methodLink "CellHandoverLaw" (139 : Nat) ({ cls := "CellHandover", name := "queued", desc := "(II)I" } : MethodName)) ∈ ch_GL := ch_c6 69 rfl rfl
theorem kw_1270 : (Cond.instanceMethod ({ cls := "CellHandover", name := "queued", desc := "(II)I" } : MethodName)) ∈ ch_GL := ch_c6 70 rfl rfl
theorem kw_1271 : (Cond.selects "CellHandover" ({ cls := "CellHandover", name := "queued", desc := "(II)I" } : MethodName) ({ cls := "CellHandover", name := "queued", desc := "(II)I" } : MethodName)) ∈ ch_GL := ch_c6 71 rfl rfl
theorem kw_1272 : (Cond.code ({ cls := "CellHandover", name := "queued", desc := "(II)I" } : MethodName) prog_1_method_32_code (3 : Nat) (Option.some FieldType.int)) ∈ ch_GL := ch_c6 72 rfl rfl
theorem kw_1273 : (Cond.methodLink "CellHandover" (209 : Nat) ({ cls := "CellHandover", name := "requireIndex", desc := "(I)V" } : MethodName)) ∈ ch_GL := ch_c6 73 rfl rfl
theorem kw_1274 : (Cond.static ({ cls := "CellHandover", name := "requireIndex", desc := "(I)V" } : MethodName)) ∈ ch_GL := ch_c6 74 rfl rfl
theorem kw_1275 : (Cond.code ({ cls := "CellHandover", name := "requireIndex", desc := "(I)V" } : MethodName) prog_1_method_47_code (1 : Nat) (Option.none : Option FieldType)) ∈ ch_GL := ch_c6 75 rfl rfl
theorem kb_1276 : (Cond.stringRef "CellHandover" (263 : Nat) "negative index") ∈ lw_tbl := ch_b6 76 rfl
theorem kw_1277 : (Cond.methodLink "CellHandover" (222 : Nat) ({ cls := "CellHandover$Network", name := "queuedMobile", desc := "(II)I" } : MethodName)) ∈ ch_GL := ch_c6 77 rfl rfl
theorem kw_1278 : (Cond.methodLink "CellHandoverLaw" (213 : Nat) ({ cls := "CellHandover", name := "candidate", desc := "(II)I" } : MethodName)) ∈ ch_GL := ch_c6 78 rfl rfl
theorem kw_1279 : (Cond.instanceMethod ({ cls := "CellHandover", name := "candidate", desc := "(II)I" } : MethodName)) ∈ ch_GL := ch_c6 79 rfl rfl
theorem kw_1280 : (Cond.selects "CellHandover" ({ cls := "CellHandover", name := "candidate", desc := "(II)I" } : MethodName) ({ cls := "CellHandover", name := "candidate", desc := "(II)I" } : MethodName)) ∈ ch_GL := ch_c6 80 rfl rfl
theorem kw_1281 : (Cond.code ({ cls := "CellHandover", name := "candidate", desc := "(II)I" } : MethodName) prog_1_method_29_code (3 : Nat) (Option.some FieldType.int)) ∈ ch_GL := ch_c6 81 rfl rfl
theorem kw_1282 : (Cond.methodLink "CellHandover" (212 : Nat) ({ cls := "CellHandover$Simulator", name := "candidateAt", desc := "(LCellHandover$Network;II)I" } : MethodName)) ∈ ch_GL := ch_c6 82 rfl rfl
theorem kw_1283 : (Cond.instanceMethod ({ cls := "CellHandover$Simulator", name := "candidateAt", desc := "(LCellHandover$Network;II)I" } : MethodName)) ∈ ch_GL := ch_c6 83 rfl rfl
theorem kw_1284 : (Cond.selects "CellHandover$Simulator" ({ cls := "CellHandover$Simulator", name := "candidateAt", desc := "(LCellHandover$Network;II)I" } : MethodName) ({ cls := "CellHandover$Simulator", name := "candidateAt", desc := "(LCellHandover$Network;II)I" } : MethodName)) ∈ ch_GL := ch_c6 84 rfl rfl
theorem kw_1285 : (Cond.code ({ cls := "CellHandover$Simulator", name := "candidateAt", desc := "(LCellHandover$Network;II)I" } : MethodName) prog_10_method_3_code (4 : Nat) (Option.some FieldType.int)) ∈ ch_GL := ch_c6 85 rfl rfl
theorem kw_1286 : (Cond.methodLink "CellHandoverLaw" (280 : Nat) ({ cls := "CellHandoverLaw", name := "isTick", desc := "(LCellHandover;LCellHandoverLaw$Own;)Z" } : MethodName)) ∈ ch_GL := ch_c6 86 rfl rfl
theorem kw_1287 : (Cond.static ({ cls := "CellHandoverLaw", name := "isTick", desc := "(LCellHandover;LCellHandoverLaw$Own;)Z" } : MethodName)) ∈ ch_GL := ch_c6 87 rfl rfl
theorem kw_1288 : (Cond.code ({ cls := "CellHandoverLaw", name := "isTick", desc := "(LCellHandover;LCellHandoverLaw$Own;)Z" } : MethodName) method_16_code (15 : Nat) (Option.some FieldType.boolean)) ∈ ch_GL := ch_c6 88 rfl rfl
theorem kw_1289 : (Cond.classLink "CellHandoverLaw" (244 : Nat) "[[I") ∈ ch_GL := ch_c6 89 rfl rfl
theorem kw_1290 : (Cond.methodLink "CellHandoverLaw" (290 : Nat) ({ cls := "CellHandoverLaw", name := "isForecast", desc := "(LCellHandover;LCellHandoverLaw$Own;II)Z" } : MethodName)) ∈ ch_GL := ch_c6 90 rfl rfl
theorem kw_1291 : (Cond.static ({ cls := "CellHandoverLaw", name := "isForecast", desc := "(LCellHandover;LCellHandoverLaw$Own;II)Z" } : MethodName)) ∈ ch_GL := ch_c6 91 rfl rfl
theorem kw_1292 : (Cond.code ({ cls := "CellHandoverLaw", name := "isForecast", desc := "(LCellHandover;LCellHandoverLaw$Own;II)Z" } : MethodName) method_17_code (8 : Nat) (Option.some FieldType.boolean)) ∈ ch_GL := ch_c6 92 rfl rfl
theorem kw_1293 : (Cond.methodLink "CellHandoverLaw" (255 : Nat) ({ cls := "CellHandover", name := "forecastCell", desc := "(II)I" } : MethodName)) ∈ ch_GL := ch_c6 93 rfl rfl
theorem kw_1294 : (Cond.instanceMethod ({ cls := "CellHandover", name := "forecastCell", desc := "(II)I" } : MethodName)) ∈ ch_GL := ch_c6 94 rfl rfl
theorem kw_1295 : (Cond.selects "CellHandover" ({ cls := "CellHandover", name := "forecastCell", desc := "(II)I" } : MethodName) ({ cls := "CellHandover", name := "forecastCell", desc := "(II)I" } : MethodName)) ∈ ch_GL := ch_c6 95 rfl rfl
theorem kw_1296 : (Cond.code ({ cls := "CellHandover", name := "forecastCell", desc := "(II)I" } : MethodName) prog_1_method_37_code (3 : Nat) (Option.some FieldType.int)) ∈ ch_GL := ch_c6 96 rfl rfl
theorem kw_1297 : (Cond.methodLink "CellHandoverLaw" (294 : Nat) ({ cls := "CellHandoverLaw", name := "isBest", desc := "(LCellHandover;LCellHandoverLaw$Own;III)Z" } : MethodName)) ∈ ch_GL := ch_c6 97 rfl rfl
theorem kw_1298 : (Cond.static ({ cls := "CellHandoverLaw", name := "isBest", desc := "(LCellHandover;LCellHandoverLaw$Own;III)Z" } : MethodName)) ∈ ch_GL := ch_c6 98 rfl rfl
theorem kw_1299 : (Cond.code ({ cls := "CellHandoverLaw", name := "isBest", desc := "(LCellHandover;LCellHandoverLaw$Own;III)Z" } : MethodName) method_18_code (13 : Nat) (Option.some FieldType.boolean)) ∈ ch_GL := ch_c6 99 rfl rfl
theorem kw_1300 : (Cond.methodLink "CellHandoverLaw" (261 : Nat) ({ cls := "CellHandover", name := "bestHysteresis", desc := "(III)I" } : MethodName)) ∈ ch_GL := ch_c6 100 rfl rfl
theorem kw_1301 : (Cond.instanceMethod ({ cls := "CellHandover", name := "bestHysteresis", desc := "(III)I" } : MethodName)) ∈ ch_GL := ch_c6 101 rfl rfl
theorem kw_1302 : (Cond.selects "CellHandover" ({ cls := "CellHandover", name := "bestHysteresis", desc := "(III)I" } : MethodName) ({ cls := "CellHandover", name := "bestHysteresis", desc := "(III)I" } : MethodName)) ∈ ch_GL := ch_c6 102 rfl rfl
theorem kw_1303 : (Cond.code ({ cls := "CellHandover", name := "bestHysteresis", desc := "(III)I" } : MethodName) prog_1_method_38_code (10 : Nat) (Option.some FieldType.int)) ∈ ch_GL := ch_c6 103 rfl rfl
theorem kw_1304 : (Cond.sameMethod "java/lang/Throwable" "java/lang/Throwable" "fillInStackTrace" "(I)Ljava/lang/Throwable;") ∈ ch_GL := ch_c6 104 rfl rfl
theorem kb_1305 : (Cond.castable "CellHandover" "java/lang/Object") ∈ lw_tbl := ch_b6 105 rfl
theorem kb_1306 : (Cond.castable "CellHandover$Text" "java/lang/Object") ∈ lw_tbl := ch_b6 106 rfl
theorem kb_1307 : (Cond.castable "CellHandover$Network" "java/lang/Object") ∈ lw_tbl := ch_b6 107 rfl
theorem kb_1308 : (Cond.castable "CellHandover$Cell" "java/lang/Object") ∈ lw_tbl := ch_b6 108 rfl
theorem kb_1309 : (Cond.castable "CellHandover$Relation" "java/lang/Object") ∈ lw_tbl := ch_b6 109 rfl
theorem kb_1310 : (Cond.castable "CellHandover$Mobile" "java/lang/Object") ∈ lw_tbl := ch_b6 110 rfl
theorem kb_1311 : (Cond.castable "CellHandover$History" "java/lang/Object") ∈ lw_tbl := ch_b6 111 rfl
theorem kb_1312 : (Cond.castable "CellHandover$Simulator" "java/lang/Object") ∈ lw_tbl := ch_b6 112 rfl
theorem kb_1313 : (Cond.castable "CellHandover$Ranking" "java/lang/Object") ∈ lw_tbl := ch_b6 113 rfl
theorem kb_1314 : (Cond.castable "CellHandover$Survey" "java/lang/Object") ∈ lw_tbl := ch_b6 114 rfl
theorem kb_1315 : (Cond.castable "java/lang/IllegalArgumentException" "java/lang/Object") ∈ lw_tbl := ch_b6 115 rfl
theorem kb_1316 : (Cond.castable "CellHandoverLaw$Own" "java/lang/Object") ∈ lw_tbl := ch_b6 116 rfl
theorem kb_1317 : (Cond.castable "CellHandover$NetworkReader" "java/lang/Object") ∈ lw_tbl := ch_b6 117 rfl
theorem kb_1318 : (Cond.castable "java/util/NoSuchElementException" "java/lang/Object") ∈ lw_tbl := ch_b6 118 rfl
theorem kb_1319 : (Cond.castable "CellHandoverLaw$Mobile" "java/lang/Object") ∈ lw_tbl := ch_b6 119 rfl
theorem kb_1320 : (Cond.castable "java/lang/Throwable" "java/lang/Object") ∈ lw_tbl := ch_b6 120 rfl
theorem kb_1321 : (Cond.castable "java/lang/String" "java/lang/Object") ∈ lw_tbl := ch_b6 121 rfl
theorem kw_1322 : (Cond.fieldLink "java/lang/String" (9 : Nat) "java/lang/String" "value" "[B") ∈ ch_GL := ch_c6 122 rfl rfl
theorem kw_1323 : (Cond.fieldLink "java/lang/String" (15 : Nat) "java/lang/String" "coder" "B") ∈ ch_GL := ch_c6 123 rfl rfl
theorem ks_0 : Cond.selects (⟨"CellHandover$Network", "setDefaults", "()V"⟩ : MethodName).cls ⟨"CellHandover$Network", "setDefaults", "()V"⟩ ⟨"CellHandover$Network", "setDefaults", "()V"⟩ ∈ ch_GL := ch_sel (q := (⟨"CellHandover$Network", "setDefaults", "()V"⟩, 17)) (List.mem_of_getElem? (i := 0) rfl)
theorem ks_1 : Cond.selects (⟨"CellHandover", "requireTicks", "(II)V"⟩ : MethodName).cls ⟨"CellHandover", "requireTicks", "(II)V"⟩ ⟨"CellHandover", "requireTicks", "(II)V"⟩ ∈ ch_GL := ch_sel (q := (⟨"CellHandover", "requireTicks", "(II)V"⟩, 8)) (List.mem_of_getElem? (i := 1) rfl)
theorem ks_2 : Cond.selects (⟨"java/lang/Throwable", "fillInStackTrace", "(I)Ljava/lang/Throwable;"⟩ : MethodName).cls ⟨"java/lang/Throwable", "fillInStackTrace", "(I)Ljava/lang/Throwable;"⟩ ⟨"java/lang/Throwable", "fillInStackTrace", "(I)Ljava/lang/Throwable;"⟩ ∈ ch_GL := ch_sel (q := (⟨"java/lang/Throwable", "fillInStackTrace", "(I)Ljava/lang/Throwable;"⟩, 6)) (List.mem_of_getElem? (i := 2) rfl)
theorem ks_3 : Cond.selects (⟨"CellHandover$Simulator", "moveMobiles", "(LCellHandover$Network;)V"⟩ : MethodName).cls ⟨"CellHandover$Simulator", "moveMobiles", "(LCellHandover$Network;)V"⟩ ⟨"CellHandover$Simulator", "moveMobiles", "(LCellHandover$Network;)V"⟩ ∈ ch_GL := ch_sel (q := (⟨"CellHandover$Simulator", "moveMobiles", "(LCellHandover$Network;)V"⟩, 1)) (List.mem_of_getElem? (i := 3) rfl)
theorem ks_4 : Cond.selects (⟨"CellHandover$Simulator", "measureLevels", "(LCellHandover$Network;)V"⟩ : MethodName).cls ⟨"CellHandover$Simulator", "measureLevels", "(LCellHandover$Network;)V"⟩ ⟨"CellHandover$Simulator", "measureLevels", "(LCellHandover$Network;)V"⟩ ∈ ch_GL := ch_sel (q := (⟨"CellHandover$Simulator", "measureLevels", "(LCellHandover$Network;)V"⟩, 1)) (List.mem_of_getElem? (i := 4) rfl)
theorem ks_5 : Cond.selects (⟨"CellHandover$Simulator", "measure", "(LCellHandover$Network;LCellHandover$Mobile;)V"⟩ : MethodName).cls ⟨"CellHandover$Simulator", "measure", "(LCellHandover$Network;LCellHandover$Mobile;)V"⟩ ⟨"CellHandover$Simulator", "measure", "(LCellHandover$Network;LCellHandover$Mobile;)V"⟩ ∈ ch_GL := ch_sel (q := (⟨"CellHandover$Simulator", "measure", "(LCellHandover$Network;LCellHandover$Mobile;)V"⟩, 1)) (List.mem_of_getElem? (i := 5) rfl)
theorem ks_6 : Cond.selects (⟨"CellHandover$Mobile", "dropOldest", "(II)V"⟩ : MethodName).cls ⟨"CellHandover$Mobile", "dropOldest", "(II)V"⟩ ⟨"CellHandover$Mobile", "dropOldest", "(II)V"⟩ ∈ ch_GL := ch_sel (q := (⟨"CellHandover$Mobile", "dropOldest", "(II)V"⟩, 13)) (List.mem_of_getElem? (i := 6) rfl)
theorem ks_7 : Cond.selects (⟨"CellHandover$Simulator", "completeCalls", "(LCellHandover$Network;)V"⟩ : MethodName).cls ⟨"CellHandover$Simulator", "completeCalls", "(LCellHandover$Network;)V"⟩ ⟨"CellHandover$Simulator", "completeCalls", "(LCellHandover$Network;)V"⟩ ∈ ch_GL := ch_sel (q := (⟨"CellHandover$Simulator", "completeCalls", "(LCellHandover$Network;)V"⟩, 1)) (List.mem_of_getElem? (i := 7) rfl)
theorem ks_8 : Cond.selects (⟨"CellHandover$Mobile", "clearMeasurements", "()V"⟩ : MethodName).cls ⟨"CellHandover$Mobile", "clearMeasurements", "()V"⟩ ⟨"CellHandover$Mobile", "clearMeasurements", "()V"⟩ ∈ ch_GL := ch_sel (q := (⟨"CellHandover$Mobile", "clearMeasurements", "()V"⟩, 13)) (List.mem_of_getElem? (i := 8) rfl)
theorem ks_9 : Cond.selects (⟨"CellHandover$Simulator", "dropCalls", "(LCellHandover$Network;)V"⟩ : MethodName).cls ⟨"CellHandover$Simulator", "dropCalls", "(LCellHandover$Network;)V"⟩ ⟨"CellHandover$Simulator", "dropCalls", "(LCellHandover$Network;)V"⟩ ∈ ch_GL := ch_sel (q := (⟨"CellHandover$Simulator", "dropCalls", "(LCellHandover$Network;)V"⟩, 1)) (List.mem_of_getElem? (i := 9) rfl)
theorem ks_10 : Cond.selects (⟨"CellHandover$Simulator", "serveQueues", "(LCellHandover$Network;)V"⟩ : MethodName).cls ⟨"CellHandover$Simulator", "serveQueues", "(LCellHandover$Network;)V"⟩ ⟨"CellHandover$Simulator", "serveQueues", "(LCellHandover$Network;)V"⟩ ∈ ch_GL := ch_sel (q := (⟨"CellHandover$Simulator", "serveQueues", "(LCellHandover$Network;)V"⟩, 1)) (List.mem_of_getElem? (i := 10) rfl)
theorem ks_11 : Cond.selects (⟨"CellHandover$Network", "requestsBefore", "(I)I"⟩ : MethodName).cls ⟨"CellHandover$Network", "requestsBefore", "(I)I"⟩ ⟨"CellHandover$Network", "requestsBefore", "(I)I"⟩ ∈ ch_GL := ch_sel (q := (⟨"CellHandover$Network", "requestsBefore", "(I)I"⟩, 17)) (List.mem_of_getElem? (i := 11) rfl)
theorem ks_12 : Cond.selects (⟨"CellHandover$Network", "comesBefore", "(II)Z"⟩ : MethodName).cls ⟨"CellHandover$Network", "comesBefore", "(II)Z"⟩ ⟨"CellHandover$Network", "comesBefore", "(II)Z"⟩ ∈ ch_GL := ch_sel (q := (⟨"CellHandover$Network", "comesBefore", "(II)Z"⟩, 17)) (List.mem_of_getElem? (i := 12) rfl)
theorem ks_13 : Cond.selects (⟨"CellHandover$Simulator", "serve", "(LCellHandover$Network;LCellHandover$Mobile;I)V"⟩ : MethodName).cls ⟨"CellHandover$Simulator", "serve", "(LCellHandover$Network;LCellHandover$Mobile;I)V"⟩ ⟨"CellHandover$Simulator", "serve", "(LCellHandover$Network;LCellHandover$Mobile;I)V"⟩ ∈ ch_GL := ch_sel (q := (⟨"CellHandover$Simulator", "serve", "(LCellHandover$Network;LCellHandover$Mobile;I)V"⟩, 1)) (List.mem_of_getElem? (i := 13) rfl)
theorem ks_14 : Cond.selects (⟨"CellHandover$Simulator", "decideHandovers", "(LCellHandover$Network;)V"⟩ : MethodName).cls ⟨"CellHandover$Simulator", "decideHandovers", "(LCellHandover$Network;)V"⟩ ⟨"CellHandover$Simulator", "decideHandovers", "(LCellHandover$Network;)V"⟩ ∈ ch_GL := ch_sel (q := (⟨"CellHandover$Simulator", "decideHandovers", "(LCellHandover$Network;)V"⟩, 1)) (List.mem_of_getElem? (i := 14) rfl)
theorem ks_15 : Cond.selects (⟨"CellHandover$Simulator", "considerHandover", "(LCellHandover$Network;LCellHandover$Mobile;)V"⟩ : MethodName).cls ⟨"CellHandover$Simulator", "considerHandover", "(LCellHandover$Network;LCellHandover$Mobile;)V"⟩ ⟨"CellHandover$Simulator", "considerHandover", "(LCellHandover$Network;LCellHandover$Mobile;)V"⟩ ∈ ch_GL := ch_sel (q := (⟨"CellHandover$Simulator", "considerHandover", "(LCellHandover$Network;LCellHandover$Mobile;)V"⟩, 1)) (List.mem_of_getElem? (i := 15) rfl)
theorem ks_16 : Cond.selects (⟨"CellHandover$Ranking", "marginOf", "(LCellHandover$Network;LCellHandover$Mobile;I)I"⟩ : MethodName).cls ⟨"CellHandover$Ranking", "marginOf", "(LCellHandover$Network;LCellHandover$Mobile;I)I"⟩ ⟨"CellHandover$Ranking", "marginOf", "(LCellHandover$Network;LCellHandover$Mobile;I)I"⟩ ∈ ch_GL := ch_sel (q := (⟨"CellHandover$Ranking", "marginOf", "(LCellHandover$Network;LCellHandover$Mobile;I)I"⟩, 4)) (List.mem_of_getElem? (i := 16) rfl)
theorem ks_17 : Cond.selects (⟨"CellHandover$Ranking", "insert", "(II)V"⟩ : MethodName).cls ⟨"CellHandover$Ranking", "insert", "(II)V"⟩ ⟨"CellHandover$Ranking", "insert", "(II)V"⟩ ∈ ch_GL := ch_sel (q := (⟨"CellHandover$Ranking", "insert", "(II)V"⟩, 4)) (List.mem_of_getElem? (i := 17) rfl)
theorem ks_18 : Cond.selects (⟨"CellHandover$Simulator", "countCongestion", "(LCellHandover$Network;)V"⟩ : MethodName).cls ⟨"CellHandover$Simulator", "countCongestion", "(LCellHandover$Network;)V"⟩ ⟨"CellHandover$Simulator", "countCongestion", "(LCellHandover$Network;)V"⟩ ∈ ch_GL := ch_sel (q := (⟨"CellHandover$Simulator", "countCongestion", "(LCellHandover$Network;)V"⟩, 1)) (List.mem_of_getElem? (i := 18) rfl)
theorem ks_19 : Cond.selects (⟨"CellHandover$Simulator", "expireRequests", "(LCellHandover$Network;)V"⟩ : MethodName).cls ⟨"CellHandover$Simulator", "expireRequests", "(LCellHandover$Network;)V"⟩ ⟨"CellHandover$Simulator", "expireRequests", "(LCellHandover$Network;)V"⟩ ∈ ch_GL := ch_sel (q := (⟨"CellHandover$Simulator", "expireRequests", "(LCellHandover$Network;)V"⟩, 1)) (List.mem_of_getElem? (i := 19) rfl)
theorem ks_20 : Cond.selects (⟨"CellHandover$Simulator", "expire", "(LCellHandover$Network;LCellHandover$Mobile;)V"⟩ : MethodName).cls ⟨"CellHandover$Simulator", "expire", "(LCellHandover$Network;LCellHandover$Mobile;)V"⟩ ⟨"CellHandover$Simulator", "expire", "(LCellHandover$Network;LCellHandover$Mobile;)V"⟩ ∈ ch_GL := ch_sel (q := (⟨"CellHandover$Simulator", "expire", "(LCellHandover$Network;LCellHandover$Mobile;)V"⟩, 1)) (List.mem_of_getElem? (i := 20) rfl)
theorem ks_21 : Cond.selects (⟨"CellHandoverLaw$Own", "step", "()V"⟩ : MethodName).cls ⟨"CellHandoverLaw$Own", "step", "()V"⟩ ⟨"CellHandoverLaw$Own", "step", "()V"⟩ ∈ ch_GL := ch_sel (q := (⟨"CellHandoverLaw$Own", "step", "()V"⟩, 16)) (List.mem_of_getElem? (i := 21) rfl)
theorem ks_22 : Cond.selects (⟨"CellHandoverLaw$Own", "level", "(III)I"⟩ : MethodName).cls ⟨"CellHandoverLaw$Own", "level", "(III)I"⟩ ⟨"CellHandoverLaw$Own", "level", "(III)I"⟩ ∈ ch_GL := ch_sel (q := (⟨"CellHandoverLaw$Own", "level", "(III)I"⟩, 16)) (List.mem_of_getElem? (i := 22) rfl)
theorem ks_23 : Cond.selects (⟨"CellHandoverLaw$Mobile", "ends", "()V"⟩ : MethodName).cls ⟨"CellHandoverLaw$Mobile", "ends", "()V"⟩ ⟨"CellHandoverLaw$Mobile", "ends", "()V"⟩ ∈ ch_GL := ch_sel (q := (⟨"CellHandoverLaw$Mobile", "ends", "()V"⟩, 13)) (List.mem_of_getElem? (i := 23) rfl)
theorem ks_24 : Cond.selects (⟨"CellHandoverLaw$Mobile", "average", "(I)I"⟩ : MethodName).cls ⟨"CellHandoverLaw$Mobile", "average", "(I)I"⟩ ⟨"CellHandoverLaw$Mobile", "average", "(I)I"⟩ ∈ ch_GL := ch_sel (q := (⟨"CellHandoverLaw$Mobile", "average", "(I)I"⟩, 13)) (List.mem_of_getElem? (i := 24) rfl)
theorem ks_25 : Cond.selects (⟨"CellHandoverLaw$Own", "free", "(I)Z"⟩ : MethodName).cls ⟨"CellHandoverLaw$Own", "free", "(I)Z"⟩ ⟨"CellHandoverLaw$Own", "free", "(I)Z"⟩ ∈ ch_GL := ch_sel (q := (⟨"CellHandoverLaw$Own", "free", "(I)Z"⟩, 16)) (List.mem_of_getElem? (i := 25) rfl)
theorem ks_26 : Cond.selects (⟨"CellHandoverLaw$Own", "busy", "(I)I"⟩ : MethodName).cls ⟨"CellHandoverLaw$Own", "busy", "(I)I"⟩ ⟨"CellHandoverLaw$Own", "busy", "(I)I"⟩ ∈ ch_GL := ch_sel (q := (⟨"CellHandoverLaw$Own", "busy", "(I)I"⟩, 16)) (List.mem_of_getElem? (i := 26) rfl)
theorem ks_27 : Cond.selects (⟨"CellHandoverLaw$Own", "waits", "(I)I"⟩ : MethodName).cls ⟨"CellHandoverLaw$Own", "waits", "(I)I"⟩ ⟨"CellHandoverLaw$Own", "waits", "(I)I"⟩ ∈ ch_GL := ch_sel (q := (⟨"CellHandoverLaw$Own", "waits", "(I)I"⟩, 16)) (List.mem_of_getElem? (i := 27) rfl)
theorem ks_28 : Cond.selects (⟨"CellHandoverLaw$Own", "queue", "(I)[I"⟩ : MethodName).cls ⟨"CellHandoverLaw$Own", "queue", "(I)[I"⟩ ⟨"CellHandoverLaw$Own", "queue", "(I)[I"⟩ ∈ ch_GL := ch_sel (q := (⟨"CellHandoverLaw$Own", "queue", "(I)[I"⟩, 16)) (List.mem_of_getElem? (i := 28) rfl)
theorem ks_29 : Cond.selects (⟨"CellHandoverLaw$Own", "hands", "(II)V"⟩ : MethodName).cls ⟨"CellHandoverLaw$Own", "hands", "(II)V"⟩ ⟨"CellHandoverLaw$Own", "hands", "(II)V"⟩ ∈ ch_GL := ch_sel (q := (⟨"CellHandoverLaw$Own", "hands", "(II)V"⟩, 16)) (List.mem_of_getElem? (i := 29) rfl)
theorem ks_30 : Cond.selects (⟨"CellHandoverLaw$Mobile", "begins", "(I)V"⟩ : MethodName).cls ⟨"CellHandoverLaw$Mobile", "begins", "(I)V"⟩ ⟨"CellHandoverLaw$Mobile", "begins", "(I)V"⟩ ∈ ch_GL := ch_sel (q := (⟨"CellHandoverLaw$Mobile", "begins", "(I)V"⟩, 13)) (List.mem_of_getElem? (i := 30) rfl)
theorem ks_31 : Cond.selects (⟨"CellHandoverLaw$Own", "considers", "(I)V"⟩ : MethodName).cls ⟨"CellHandoverLaw$Own", "considers", "(I)V"⟩ ⟨"CellHandoverLaw$Own", "considers", "(I)V"⟩ ∈ ch_GL := ch_sel (q := (⟨"CellHandoverLaw$Own", "considers", "(I)V"⟩, 16)) (List.mem_of_getElem? (i := 31) rfl)
theorem ks_32 : Cond.selects (⟨"CellHandoverLaw$Own", "ranked", "(I)[I"⟩ : MethodName).cls ⟨"CellHandoverLaw$Own", "ranked", "(I)[I"⟩ ⟨"CellHandoverLaw$Own", "ranked", "(I)[I"⟩ ∈ ch_GL := ch_sel (q := (⟨"CellHandoverLaw$Own", "ranked", "(I)[I"⟩, 16)) (List.mem_of_getElem? (i := 32) rfl)
theorem ks_33 : Cond.selects (⟨"CellHandover$Text", "byteAt", "(I)I"⟩ : MethodName).cls ⟨"CellHandover$Text", "byteAt", "(I)I"⟩ ⟨"CellHandover$Text", "byteAt", "(I)I"⟩ ∈ ch_GL := ch_sel (q := (⟨"CellHandover$Text", "byteAt", "(I)I"⟩, 8)) (List.mem_of_getElem? (i := 33) rfl)
theorem ks_34 : Cond.selects (⟨"CellHandover$NetworkReader", "readClause", "()V"⟩ : MethodName).cls ⟨"CellHandover$NetworkReader", "readClause", "()V"⟩ ⟨"CellHandover$NetworkReader", "readClause", "()V"⟩ ∈ ch_GL := ch_sel (q := (⟨"CellHandover$NetworkReader", "readClause", "()V"⟩, 2)) (List.mem_of_getElem? (i := 34) rfl)
theorem ks_35 : Cond.selects (⟨"CellHandover$NetworkReader", "readCell", "()V"⟩ : MethodName).cls ⟨"CellHandover$NetworkReader", "readCell", "()V"⟩ ⟨"CellHandover$NetworkReader", "readCell", "()V"⟩ ∈ ch_GL := ch_sel (q := (⟨"CellHandover$NetworkReader", "readCell", "()V"⟩, 2)) (List.mem_of_getElem? (i := 35) rfl)
theorem ks_36 : Cond.selects (⟨"CellHandover$NetworkReader", "readRelation", "()V"⟩ : MethodName).cls ⟨"CellHandover$NetworkReader", "readRelation", "()V"⟩ ⟨"CellHandover$NetworkReader", "readRelation", "()V"⟩ ∈ ch_GL := ch_sel (q := (⟨"CellHandover$NetworkReader", "readRelation", "()V"⟩, 2)) (List.mem_of_getElem? (i := 36) rfl)
theorem ks_37 : Cond.selects (⟨"CellHandover$NetworkReader", "readSettings", "()V"⟩ : MethodName).cls ⟨"CellHandover$NetworkReader", "readSettings", "()V"⟩ ⟨"CellHandover$NetworkReader", "readSettings", "()V"⟩ ∈ ch_GL := ch_sel (q := (⟨"CellHandover$NetworkReader", "readSettings", "()V"⟩, 2)) (List.mem_of_getElem? (i := 37) rfl)
theorem ks_38 : Cond.selects (⟨"CellHandoverLaw$Own", "call", "(II)I"⟩ : MethodName).cls ⟨"CellHandoverLaw$Own", "call", "(II)I"⟩ ⟨"CellHandoverLaw$Own", "call", "(II)I"⟩ ∈ ch_GL := ch_sel (q := (⟨"CellHandoverLaw$Own", "call", "(II)I"⟩, 16)) (List.mem_of_getElem? (i := 38) rfl)
theorem ks_39 : Cond.selects (⟨"CellHandoverLaw$Own", "covers", "(II)I"⟩ : MethodName).cls ⟨"CellHandoverLaw$Own", "covers", "(II)I"⟩ ⟨"CellHandoverLaw$Own", "covers", "(II)I"⟩ ∈ ch_GL := ch_sel (q := (⟨"CellHandoverLaw$Own", "covers", "(II)I"⟩, 16)) (List.mem_of_getElem? (i := 39) rfl)
theorem ks_40 : Cond.selects (⟨"CellHandoverLaw$Own", "strongest", "(II)I"⟩ : MethodName).cls ⟨"CellHandoverLaw$Own", "strongest", "(II)I"⟩ ⟨"CellHandoverLaw$Own", "strongest", "(II)I"⟩ ∈ ch_GL := ch_sel (q := (⟨"CellHandoverLaw$Own", "strongest", "(II)I"⟩, 16)) (List.mem_of_getElem? (i := 40) rfl)
theorem ks_41 : Cond.selects (⟨"CellHandover", "requireMobile", "(I)V"⟩ : MethodName).cls ⟨"CellHandover", "requireMobile", "(I)V"⟩ ⟨"CellHandover", "requireMobile", "(I)V"⟩ ∈ ch_GL := ch_sel (q := (⟨"CellHandover", "requireMobile", "(I)V"⟩, 8)) (List.mem_of_getElem? (i := 41) rfl)
theorem ks_42 : Cond.selects (⟨"CellHandover$Network", "canBeUsed", "(III)Z"⟩ : MethodName).cls ⟨"CellHandover$Network", "canBeUsed", "(III)Z"⟩ ⟨"CellHandover$Network", "canBeUsed", "(III)Z"⟩ ∈ ch_GL := ch_sel (q := (⟨"CellHandover$Network", "canBeUsed", "(III)Z"⟩, 17)) (List.mem_of_getElem? (i := 42) rfl)
theorem ks_43 : Cond.selects (⟨"CellHandover$Network", "retryCell", "(III)I"⟩ : MethodName).cls ⟨"CellHandover$Network", "retryCell", "(III)I"⟩ ⟨"CellHandover$Network", "retryCell", "(III)I"⟩ ∈ ch_GL := ch_sel (q := (⟨"CellHandover$Network", "retryCell", "(III)I"⟩, 17)) (List.mem_of_getElem? (i := 43) rfl)
theorem ks_44 : Cond.selects (⟨"CellHandover", "requireCell", "(I)V"⟩ : MethodName).cls ⟨"CellHandover", "requireCell", "(I)V"⟩ ⟨"CellHandover", "requireCell", "(I)V"⟩ ∈ ch_GL := ch_sel (q := (⟨"CellHandover", "requireCell", "(I)V"⟩, 8)) (List.mem_of_getElem? (i := 44) rfl)
