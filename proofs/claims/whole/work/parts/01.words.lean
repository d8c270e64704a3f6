-- ===== PART A: goes FIRST, ahead of the names: the tables' words, and 'selects' of the private methods out of them =====
/-- a private method of a class that the tables say can be made, by its rows of tables_1 -/
def lw_okq (q : MethodName × Nat) : Prop := (q.1.cls ≠ "java/lang/invoke/MethodHandle" ∧ q.1.cls ≠ "java/lang/invoke/VarHandle") ∧ Cond.instantiable q.1.cls q.2 ∈ tables_1 ∧ Cond.privateMethod q.1 ∈ tables_1 ∧ Cond.instanceMethod q.1 ∈ tables_1
theorem lw_p0 : lw_okq (⟨"CellHandover$Network", "setDefaults", "()V"⟩, 17) := ⟨⟨by decide +kernel, by decide +kernel⟩, List.mem_of_getElem? (i := 71) (by decide +kernel), List.mem_of_getElem? (i := 241) (by decide +kernel), List.mem_of_getElem? (i := 242) (by decide +kernel)⟩
theorem lw_p1 : lw_okq (⟨"java/lang/Throwable", "fillInStackTrace", "(I)Ljava/lang/Throwable;"⟩, 6) := ⟨⟨by decide +kernel, by decide +kernel⟩, List.mem_of_getElem? (i := 554) (by decide +kernel), List.mem_of_getElem? (i := 552) (by decide +kernel), List.mem_of_getElem? (i := 553) (by decide +kernel)⟩
theorem lw_p2 : lw_okq (⟨"CellHandover$Text", "byteAt", "(I)I"⟩, 8) := ⟨⟨by decide +kernel, by decide +kernel⟩, List.mem_of_getElem? (i := 36) (by decide +kernel), List.mem_of_getElem? (i := 592) (by decide +kernel), List.mem_of_getElem? (i := 593) (by decide +kernel)⟩
theorem lw_p3 : lw_okq (⟨"CellHandover$NetworkReader", "readClause", "()V"⟩, 2) := ⟨⟨by decide +kernel, by decide +kernel⟩, List.mem_of_getElem? (i := 600) (by decide +kernel), List.mem_of_getElem? (i := 632) (by decide +kernel), List.mem_of_getElem? (i := 633) (by decide +kernel)⟩
theorem lw_p4 : lw_okq (⟨"CellHandover$NetworkReader", "readCell", "()V"⟩, 2) := ⟨⟨by decide +kernel, by decide +kernel⟩, List.mem_of_getElem? (i := 600) (by decide +kernel), List.mem_of_getElem? (i := 689) (by decide +kernel), List.mem_of_getElem? (i := 690) (by decide +kernel)⟩
theorem lw_p5 : lw_okq (⟨"CellHandover$NetworkReader", "readRelation", "()V"⟩, 2) := ⟨⟨by decide +kernel, by decide +kernel⟩, List.mem_of_getElem? (i := 600) (by decide +kernel), List.mem_of_getElem? (i := 710) (by decide +kernel), List.mem_of_getElem? (i := 711) (by decide +kernel)⟩
theorem lw_p6 : lw_okq (⟨"CellHandover$NetworkReader", "readSettings", "()V"⟩, 2) := ⟨⟨by decide +kernel, by decide +kernel⟩, List.mem_of_getElem? (i := 600) (by decide +kernel), List.mem_of_getElem? (i := 717) (by decide +kernel), List.mem_of_getElem? (i := 718) (by decide +kernel)⟩
theorem lw_p7 : lw_okq (⟨"CellHandover", "requireCell", "(I)V"⟩, 8) := ⟨⟨by decide +kernel, by decide +kernel⟩, List.mem_of_getElem? (i := 28) (by decide +kernel), List.mem_of_getElem? (i := 739) (by decide +kernel), List.mem_of_getElem? (i := 740) (by decide +kernel)⟩
theorem lw_p8 : lw_okq (⟨"CellHandover$Network", "canBeUsed", "(III)Z"⟩, 17) := ⟨⟨by decide +kernel, by decide +kernel⟩, List.mem_of_getElem? (i := 71) (by decide +kernel), List.mem_of_getElem? (i := 794) (by decide +kernel), List.mem_of_getElem? (i := 795) (by decide +kernel)⟩
theorem lw_p9 : lw_okq (⟨"CellHandover$Survey", "countNear", "(LCellHandover$Network;III)V"⟩, 1) := ⟨⟨by decide +kernel, by decide +kernel⟩, List.mem_of_getElem? (i := 372) (by decide +kernel), List.mem_of_getElem? (i := 822) (by decide +kernel), List.mem_of_getElem? (i := 823) (by decide +kernel)⟩
theorem lw_p10 : lw_okq (⟨"CellHandover$Mobile", "clearMeasurements", "()V"⟩, 13) := ⟨⟨by decide +kernel, by decide +kernel⟩, List.mem_of_getElem? (i := 162) (by decide +kernel), List.mem_of_getElem? (i := 851) (by decide +kernel), List.mem_of_getElem? (i := 852) (by decide +kernel)⟩
theorem lw_p11 : lw_okq (⟨"CellHandover", "requireMobile", "(I)V"⟩, 8) := ⟨⟨by decide +kernel, by decide +kernel⟩, List.mem_of_getElem? (i := 28) (by decide +kernel), List.mem_of_getElem? (i := 863) (by decide +kernel), List.mem_of_getElem? (i := 864) (by decide +kernel)⟩
theorem lw_p12 : lw_okq (⟨"CellHandover$Network", "retryCell", "(III)I"⟩, 17) := ⟨⟨by decide +kernel, by decide +kernel⟩, List.mem_of_getElem? (i := 71) (by decide +kernel), List.mem_of_getElem? (i := 887) (by decide +kernel), List.mem_of_getElem? (i := 888) (by decide +kernel)⟩
theorem lw_p13 : lw_okq (⟨"CellHandover", "requireTicks", "(II)V"⟩, 8) := ⟨⟨by decide +kernel, by decide +kernel⟩, List.mem_of_getElem? (i := 28) (by decide +kernel), List.mem_of_getElem? (i := 937) (by decide +kernel), List.mem_of_getElem? (i := 938) (by decide +kernel)⟩
theorem lw_p14 : lw_okq (⟨"CellHandover$Simulator", "moveMobiles", "(LCellHandover$Network;)V"⟩, 1) := ⟨⟨by decide +kernel, by decide +kernel⟩, List.mem_of_getElem? (i := 341) (by decide +kernel), List.mem_of_getElem? (i := 946) (by decide +kernel), List.mem_of_getElem? (i := 947) (by decide +kernel)⟩
theorem lw_p15 : lw_okq (⟨"CellHandover$Simulator", "measureLevels", "(LCellHandover$Network;)V"⟩, 1) := ⟨⟨by decide +kernel, by decide +kernel⟩, List.mem_of_getElem? (i := 341) (by decide +kernel), List.mem_of_getElem? (i := 953) (by decide +kernel), List.mem_of_getElem? (i := 954) (by decide +kernel)⟩
def lw_privs_1 : List (MethodName × Nat) := [(⟨"CellHandover$Network", "setDefaults", "()V"⟩, 17), (⟨"java/lang/Throwable", "fillInStackTrace", "(I)Ljava/lang/Throwable;"⟩, 6), (⟨"CellHandover$Text", "byteAt", "(I)I"⟩, 8), (⟨"CellHandover$NetworkReader", "readClause", "()V"⟩, 2), (⟨"CellHandover$NetworkReader", "readCell", "()V"⟩, 2), (⟨"CellHandover$NetworkReader", "readRelation", "()V"⟩, 2), (⟨"CellHandover$NetworkReader", "readSettings", "()V"⟩, 2), (⟨"CellHandover", "requireCell", "(I)V"⟩, 8), (⟨"CellHandover$Network", "canBeUsed", "(III)Z"⟩, 17), (⟨"CellHandover$Survey", "countNear", "(LCellHandover$Network;III)V"⟩, 1), (⟨"CellHandover$Mobile", "clearMeasurements", "()V"⟩, 13), (⟨"CellHandover", "requireMobile", "(I)V"⟩, 8), (⟨"CellHandover$Network", "retryCell", "(III)I"⟩, 17), (⟨"CellHandover", "requireTicks", "(II)V"⟩, 8), (⟨"CellHandover$Simulator", "moveMobiles", "(LCellHandover$Network;)V"⟩, 1), (⟨"CellHandover$Simulator", "measureLevels", "(LCellHandover$Network;)V"⟩, 1)]
theorem lw_r1 : ∀ q ∈ lw_privs_1, lw_okq q := List.forall_mem_cons.mpr ⟨lw_p0, List.forall_mem_cons.mpr ⟨lw_p1, List.forall_mem_cons.mpr ⟨lw_p2, List.forall_mem_cons.mpr ⟨lw_p3, List.forall_mem_cons.mpr ⟨lw_p4, List.forall_mem_cons.mpr ⟨lw_p5, List.forall_mem_cons.mpr ⟨lw_p6, List.forall_mem_cons.mpr ⟨lw_p7, List.forall_mem_cons.mpr ⟨lw_p8, List.forall_mem_cons.mpr ⟨lw_p9, List.forall_mem_cons.mpr ⟨lw_p10, List.forall_mem_cons.mpr ⟨lw_p11, List.forall_mem_cons.mpr ⟨lw_p12, List.forall_mem_cons.mpr ⟨lw_p13, List.forall_mem_cons.mpr ⟨lw_p14, List.forall_mem_cons.mpr ⟨lw_p15, fun _ h => absurd h List.not_mem_nil⟩⟩⟩⟩⟩⟩⟩⟩⟩⟩⟩⟩⟩⟩⟩⟩
theorem lw_p16 : lw_okq (⟨"CellHandover$Simulator", "measure", "(LCellHandover$Network;LCellHandover$Mobile;)V"⟩, 1) := ⟨⟨by decide +kernel, by decide +kernel⟩, List.mem_of_getElem? (i := 341) (by decide +kernel), List.mem_of_getElem? (i := 957) (by decide +kernel), List.mem_of_getElem? (i := 958) (by decide +kernel)⟩
theorem lw_p17 : lw_okq (⟨"CellHandover$Mobile", "dropOldest", "(II)V"⟩, 13) := ⟨⟨by decide +kernel, by decide +kernel⟩, List.mem_of_getElem? (i := 162) (by decide +kernel), List.mem_of_getElem? (i := 972) (by decide +kernel), List.mem_of_getElem? (i := 973) (by decide +kernel)⟩
theorem lw_p18 : lw_okq (⟨"CellHandover$Simulator", "completeCalls", "(LCellHandover$Network;)V"⟩, 1) := ⟨⟨by decide +kernel, by decide +kernel⟩, List.mem_of_getElem? (i := 341) (by decide +kernel), List.mem_of_getElem? (i := 980) (by decide +kernel), List.mem_of_getElem? (i := 981) (by decide +kernel)⟩
theorem lw_p19 : lw_okq (⟨"CellHandover$Simulator", "dropCalls", "(LCellHandover$Network;)V"⟩, 1) := ⟨⟨by decide +kernel, by decide +kernel⟩, List.mem_of_getElem? (i := 341) (by decide +kernel), List.mem_of_getElem? (i := 986) (by decide +kernel), List.mem_of_getElem? (i := 987) (by decide +kernel)⟩
theorem lw_p20 : lw_okq (⟨"CellHandover$Simulator", "serveQueues", "(LCellHandover$Network;)V"⟩, 1) := ⟨⟨by decide +kernel, by decide +kernel⟩, List.mem_of_getElem? (i := 341) (by decide +kernel), List.mem_of_getElem? (i := 994) (by decide +kernel), List.mem_of_getElem? (i := 995) (by decide +kernel)⟩
theorem lw_p21 : lw_okq (⟨"CellHandover$Network", "requestsBefore", "(I)I"⟩, 17) := ⟨⟨by decide +kernel, by decide +kernel⟩, List.mem_of_getElem? (i := 71) (by decide +kernel), List.mem_of_getElem? (i := 1003) (by decide +kernel), List.mem_of_getElem? (i := 1004) (by decide +kernel)⟩
theorem lw_p22 : lw_okq (⟨"CellHandover$Network", "comesBefore", "(II)Z"⟩, 17) := ⟨⟨by decide +kernel, by decide +kernel⟩, List.mem_of_getElem? (i := 71) (by decide +kernel), List.mem_of_getElem? (i := 1007) (by decide +kernel), List.mem_of_getElem? (i := 1008) (by decide +kernel)⟩
theorem lw_p23 : lw_okq (⟨"CellHandover$Simulator", "serve", "(LCellHandover$Network;LCellHandover$Mobile;I)V"⟩, 1) := ⟨⟨by decide +kernel, by decide +kernel⟩, List.mem_of_getElem? (i := 341) (by decide +kernel), List.mem_of_getElem? (i := 1011) (by decide +kernel), List.mem_of_getElem? (i := 1012) (by decide +kernel)⟩
theorem lw_p24 : lw_okq (⟨"CellHandover$Simulator", "decideHandovers", "(LCellHandover$Network;)V"⟩, 1) := ⟨⟨by decide +kernel, by decide +kernel⟩, List.mem_of_getElem? (i := 341) (by decide +kernel), List.mem_of_getElem? (i := 1028) (by decide +kernel), List.mem_of_getElem? (i := 1029) (by decide +kernel)⟩
theorem lw_p25 : lw_okq (⟨"CellHandover$Simulator", "considerHandover", "(LCellHandover$Network;LCellHandover$Mobile;)V"⟩, 1) := ⟨⟨by decide +kernel, by decide +kernel⟩, List.mem_of_getElem? (i := 341) (by decide +kernel), List.mem_of_getElem? (i := 1032) (by decide +kernel), List.mem_of_getElem? (i := 1033) (by decide +kernel)⟩
theorem lw_p26 : lw_okq (⟨"CellHandover$Ranking", "marginOf", "(LCellHandover$Network;LCellHandover$Mobile;I)I"⟩, 4) := ⟨⟨by decide +kernel, by decide +kernel⟩, List.mem_of_getElem? (i := 347) (by decide +kernel), List.mem_of_getElem? (i := 1042) (by decide +kernel), List.mem_of_getElem? (i := 1043) (by decide +kernel)⟩
theorem lw_p27 : lw_okq (⟨"CellHandover$Ranking", "insert", "(II)V"⟩, 4) := ⟨⟨by decide +kernel, by decide +kernel⟩, List.mem_of_getElem? (i := 347) (by decide +kernel), List.mem_of_getElem? (i := 1049) (by decide +kernel), List.mem_of_getElem? (i := 1050) (by decide +kernel)⟩
theorem lw_p28 : lw_okq (⟨"CellHandover$Simulator", "countCongestion", "(LCellHandover$Network;)V"⟩, 1) := ⟨⟨by decide +kernel, by decide +kernel⟩, List.mem_of_getElem? (i := 341) (by decide +kernel), List.mem_of_getElem? (i := 1059) (by decide +kernel), List.mem_of_getElem? (i := 1060) (by decide +kernel)⟩
theorem lw_p29 : lw_okq (⟨"CellHandover$Simulator", "expireRequests", "(LCellHandover$Network;)V"⟩, 1) := ⟨⟨by decide +kernel, by decide +kernel⟩, List.mem_of_getElem? (i := 341) (by decide +kernel), List.mem_of_getElem? (i := 1063) (by decide +kernel), List.mem_of_getElem? (i := 1064) (by decide +kernel)⟩
theorem lw_p30 : lw_okq (⟨"CellHandover$Simulator", "expire", "(LCellHandover$Network;LCellHandover$Mobile;)V"⟩, 1) := ⟨⟨by decide +kernel, by decide +kernel⟩, List.mem_of_getElem? (i := 341) (by decide +kernel), List.mem_of_getElem? (i := 1067) (by decide +kernel), List.mem_of_getElem? (i := 1068) (by decide +kernel)⟩
theorem lw_p31 : lw_okq (⟨"CellHandover$QueryReader", "test", "(I)I"⟩, 2) := ⟨⟨by decide +kernel, by decide +kernel⟩, List.mem_of_getElem? (i := 1218) (by decide +kernel), List.mem_of_getElem? (i := 1240) (by decide +kernel), List.mem_of_getElem? (i := 1241) (by decide +kernel)⟩
def lw_privs_2 : List (MethodName × Nat) := [(⟨"CellHandover$Simulator", "measure", "(LCellHandover$Network;LCellHandover$Mobile;)V"⟩, 1), (⟨"CellHandover$Mobile", "dropOldest", "(II)V"⟩, 13), (⟨"CellHandover$Simulator", "completeCalls", "(LCellHandover$Network;)V"⟩, 1), (⟨"CellHandover$Simulator", "dropCalls", "(LCellHandover$Network;)V"⟩, 1), (⟨"CellHandover$Simulator", "serveQueues", "(LCellHandover$Network;)V"⟩, 1), (⟨"CellHandover$Network", "requestsBefore", "(I)I"⟩, 17), (⟨"CellHandover$Network", "comesBefore", "(II)Z"⟩, 17), (⟨"CellHandover$Simulator", "serve", "(LCellHandover$Network;LCellHandover$Mobile;I)V"⟩, 1), (⟨"CellHandover$Simulator", "decideHandovers", "(LCellHandover$Network;)V"⟩, 1), (⟨"CellHandover$Simulator", "considerHandover", "(LCellHandover$Network;LCellHandover$Mobile;)V"⟩, 1), (⟨"CellHandover$Ranking", "marginOf", "(LCellHandover$Network;LCellHandover$Mobile;I)I"⟩, 4), (⟨"CellHandover$Ranking", "insert", "(II)V"⟩, 4), (⟨"CellHandover$Simulator", "countCongestion", "(LCellHandover$Network;)V"⟩, 1), (⟨"CellHandover$Simulator", "expireRequests", "(LCellHandover$Network;)V"⟩, 1), (⟨"CellHandover$Simulator", "expire", "(LCellHandover$Network;LCellHandover$Mobile;)V"⟩, 1), (⟨"CellHandover$QueryReader", "test", "(I)I"⟩, 2)]
theorem lw_r2 : ∀ q ∈ lw_privs_2, lw_okq q := List.forall_mem_cons.mpr ⟨lw_p16, List.forall_mem_cons.mpr ⟨lw_p17, List.forall_mem_cons.mpr ⟨lw_p18, List.forall_mem_cons.mpr ⟨lw_p19, List.forall_mem_cons.mpr ⟨lw_p20, List.forall_mem_cons.mpr ⟨lw_p21, List.forall_mem_cons.mpr ⟨lw_p22, List.forall_mem_cons.mpr ⟨lw_p23, List.forall_mem_cons.mpr ⟨lw_p24, List.forall_mem_cons.mpr ⟨lw_p25, List.forall_mem_cons.mpr ⟨lw_p26, List.forall_mem_cons.mpr ⟨lw_p27, List.forall_mem_cons.mpr ⟨lw_p28, List.forall_mem_cons.mpr ⟨lw_p29, List.forall_mem_cons.mpr ⟨lw_p30, List.forall_mem_cons.mpr ⟨lw_p31, fun _ h => absurd h List.not_mem_nil⟩⟩⟩⟩⟩⟩⟩⟩⟩⟩⟩⟩⟩⟩⟩⟩
theorem lw_p32 : lw_okq (⟨"CellHandover$QueryReader", "factor", "(I)I"⟩, 2) := ⟨⟨by decide +kernel, by decide +kernel⟩, List.mem_of_getElem? (i := 1218) (by decide +kernel), List.mem_of_getElem? (i := 1244) (by decide +kernel), List.mem_of_getElem? (i := 1245) (by decide +kernel)⟩
theorem lw_p33 : lw_okq (⟨"CellHandover$QueryReader", "comparison", "()I"⟩, 2) := ⟨⟨by decide +kernel, by decide +kernel⟩, List.mem_of_getElem? (i := 1218) (by decide +kernel), List.mem_of_getElem? (i := 1250) (by decide +kernel), List.mem_of_getElem? (i := 1251) (by decide +kernel)⟩
theorem lw_p34 : lw_okq (⟨"CellHandover$QueryReader", "seeValue", "()I"⟩, 2) := ⟨⟨by decide +kernel, by decide +kernel⟩, List.mem_of_getElem? (i := 1218) (by decide +kernel), List.mem_of_getElem? (i := 1254) (by decide +kernel), List.mem_of_getElem? (i := 1255) (by decide +kernel)⟩
theorem lw_p35 : lw_okq (⟨"CellHandover$QueryReader", "valueFor", "(II)I"⟩, 2) := ⟨⟨by decide +kernel, by decide +kernel⟩, List.mem_of_getElem? (i := 1218) (by decide +kernel), List.mem_of_getElem? (i := 1273) (by decide +kernel), List.mem_of_getElem? (i := 1274) (by decide +kernel)⟩
theorem lw_p36 : lw_okq (⟨"CellHandover$QueryReader", "everyMobile", "()I"⟩, 2) := ⟨⟨by decide +kernel, by decide +kernel⟩, List.mem_of_getElem? (i := 1218) (by decide +kernel), List.mem_of_getElem? (i := 1279) (by decide +kernel), List.mem_of_getElem? (i := 1280) (by decide +kernel)⟩
theorem lw_p37 : lw_okq (⟨"CellHandover$QueryReader", "firstOf", "(I)I"⟩, 2) := ⟨⟨by decide +kernel, by decide +kernel⟩, List.mem_of_getElem? (i := 1218) (by decide +kernel), List.mem_of_getElem? (i := 1294) (by decide +kernel), List.mem_of_getElem? (i := 1295) (by decide +kernel)⟩
theorem lw_p38 : lw_okq (⟨"CellHandoverModel", "isCell", "(I)Z"⟩, 25) := ⟨⟨by decide +kernel, by decide +kernel⟩, List.mem_of_getElem? (i := 1299) (by decide +kernel), List.mem_of_getElem? (i := 1402) (by decide +kernel), List.mem_of_getElem? (i := 1403) (by decide +kernel)⟩
theorem lw_p39 : lw_okq (⟨"CellHandoverModel", "raise", "(I)I"⟩, 25) := ⟨⟨by decide +kernel, by decide +kernel⟩, List.mem_of_getElem? (i := 1299) (by decide +kernel), List.mem_of_getElem? (i := 1409) (by decide +kernel), List.mem_of_getElem? (i := 1410) (by decide +kernel)⟩
theorem lw_p40 : lw_okq (⟨"CellHandoverModel", "levelAt", "(III)I"⟩, 25) := ⟨⟨by decide +kernel, by decide +kernel⟩, List.mem_of_getElem? (i := 1299) (by decide +kernel), List.mem_of_getElem? (i := 1416) (by decide +kernel), List.mem_of_getElem? (i := 1417) (by decide +kernel)⟩
theorem lw_p41 : lw_okq (⟨"CellHandoverModel", "ofCell", "(II)I"⟩, 25) := ⟨⟨by decide +kernel, by decide +kernel⟩, List.mem_of_getElem? (i := 1299) (by decide +kernel), List.mem_of_getElem? (i := 1420) (by decide +kernel), List.mem_of_getElem? (i := 1421) (by decide +kernel)⟩
theorem lw_p42 : lw_okq (⟨"CellHandoverModel", "covering", "(II)I"⟩, 25) := ⟨⟨by decide +kernel, by decide +kernel⟩, List.mem_of_getElem? (i := 1299) (by decide +kernel), List.mem_of_getElem? (i := 1430) (by decide +kernel), List.mem_of_getElem? (i := 1431) (by decide +kernel)⟩
theorem lw_p43 : lw_okq (⟨"CellHandoverModel", "strongest", "(II)I"⟩, 25) := ⟨⟨by decide +kernel, by decide +kernel⟩, List.mem_of_getElem? (i := 1299) (by decide +kernel), List.mem_of_getElem? (i := 1434) (by decide +kernel), List.mem_of_getElem? (i := 1435) (by decide +kernel)⟩
theorem lw_p44 : lw_okq (⟨"CellHandoverModel", "isNeighbour", "(II)Z"⟩, 25) := ⟨⟨by decide +kernel, by decide +kernel⟩, List.mem_of_getElem? (i := 1299) (by decide +kernel), List.mem_of_getElem? (i := 1446) (by decide +kernel), List.mem_of_getElem? (i := 1447) (by decide +kernel)⟩
theorem lw_p45 : lw_okq (⟨"CellHandoverModel", "relationOf", "([III)I"⟩, 25) := ⟨⟨by decide +kernel, by decide +kernel⟩, List.mem_of_getElem? (i := 1299) (by decide +kernel), List.mem_of_getElem? (i := 1450) (by decide +kernel), List.mem_of_getElem? (i := 1451) (by decide +kernel)⟩
theorem lw_p46 : lw_okq (⟨"CellHandoverModel", "isMissing", "(III)Z"⟩, 25) := ⟨⟨by decide +kernel, by decide +kernel⟩, List.mem_of_getElem? (i := 1299) (by decide +kernel), List.mem_of_getElem? (i := 1454) (by decide +kernel), List.mem_of_getElem? (i := 1455) (by decide +kernel)⟩
theorem lw_p47 : lw_okq (⟨"CellHandoverModel", "isNear", "(IIIII)Z"⟩, 25) := ⟨⟨by decide +kernel, by decide +kernel⟩, List.mem_of_getElem? (i := 1299) (by decide +kernel), List.mem_of_getElem? (i := 1458) (by decide +kernel), List.mem_of_getElem? (i := 1459) (by decide +kernel)⟩
def lw_privs_3 : List (MethodName × Nat) := [(⟨"CellHandover$QueryReader", "factor", "(I)I"⟩, 2), (⟨"CellHandover$QueryReader", "comparison", "()I"⟩, 2), (⟨"CellHandover$QueryReader", "seeValue", "()I"⟩, 2), (⟨"CellHandover$QueryReader", "valueFor", "(II)I"⟩, 2), (⟨"CellHandover$QueryReader", "everyMobile", "()I"⟩, 2), (⟨"CellHandover$QueryReader", "firstOf", "(I)I"⟩, 2), (⟨"CellHandoverModel", "isCell", "(I)Z"⟩, 25), (⟨"CellHandoverModel", "raise", "(I)I"⟩, 25), (⟨"CellHandoverModel", "levelAt", "(III)I"⟩, 25), (⟨"CellHandoverModel", "ofCell", "(II)I"⟩, 25), (⟨"CellHandoverModel", "covering", "(II)I"⟩, 25), (⟨"CellHandoverModel", "strongest", "(II)I"⟩, 25), (⟨"CellHandoverModel", "isNeighbour", "(II)Z"⟩, 25), (⟨"CellHandoverModel", "relationOf", "([III)I"⟩, 25), (⟨"CellHandoverModel", "isMissing", "(III)Z"⟩, 25), (⟨"CellHandoverModel", "isNear", "(IIIII)Z"⟩, 25)]
theorem lw_r3 : ∀ q ∈ lw_privs_3, lw_okq q := List.forall_mem_cons.mpr ⟨lw_p32, List.forall_mem_cons.mpr ⟨lw_p33, List.forall_mem_cons.mpr ⟨lw_p34, List.forall_mem_cons.mpr ⟨lw_p35, List.forall_mem_cons.mpr ⟨lw_p36, List.forall_mem_cons.mpr ⟨lw_p37, List.forall_mem_cons.mpr ⟨lw_p38, List.forall_mem_cons.mpr ⟨lw_p39, List.forall_mem_cons.mpr ⟨lw_p40, List.forall_mem_cons.mpr ⟨lw_p41, List.forall_mem_cons.mpr ⟨lw_p42, List.forall_mem_cons.mpr ⟨lw_p43, List.forall_mem_cons.mpr ⟨lw_p44, List.forall_mem_cons.mpr ⟨lw_p45, List.forall_mem_cons.mpr ⟨lw_p46, List.forall_mem_cons.mpr ⟨lw_p47, fun _ h => absurd h List.not_mem_nil⟩⟩⟩⟩⟩⟩⟩⟩⟩⟩⟩⟩⟩⟩⟩⟩
theorem lw_p48 : lw_okq (⟨"CellHandoverModel", "tellRelation", "(IIII)I"⟩, 25) := ⟨⟨by decide +kernel, by decide +kernel⟩, List.mem_of_getElem? (i := 1299) (by decide +kernel), List.mem_of_getElem? (i := 1482) (by decide +kernel), List.mem_of_getElem? (i := 1483) (by decide +kernel)⟩
theorem lw_p49 : lw_okq (⟨"CellHandoverModel", "ofRelation", "(II)I"⟩, 25) := ⟨⟨by decide +kernel, by decide +kernel⟩, List.mem_of_getElem? (i := 1299) (by decide +kernel), List.mem_of_getElem? (i := 1486) (by decide +kernel), List.mem_of_getElem? (i := 1487) (by decide +kernel)⟩
theorem lw_p50 : lw_okq (⟨"CellHandoverModel", "busy", "(I)I"⟩, 25) := ⟨⟨by decide +kernel, by decide +kernel⟩, List.mem_of_getElem? (i := 1299) (by decide +kernel), List.mem_of_getElem? (i := 1510) (by decide +kernel), List.mem_of_getElem? (i := 1511) (by decide +kernel)⟩
theorem lw_p51 : lw_okq (⟨"CellHandoverModel", "talks", "(I)Z"⟩, 25) := ⟨⟨by decide +kernel, by decide +kernel⟩, List.mem_of_getElem? (i := 1299) (by decide +kernel), List.mem_of_getElem? (i := 1514) (by decide +kernel), List.mem_of_getElem? (i := 1515) (by decide +kernel)⟩
theorem lw_p52 : lw_okq (⟨"CellHandoverModel", "of", "(II)I"⟩, 25) := ⟨⟨by decide +kernel, by decide +kernel⟩, List.mem_of_getElem? (i := 1299) (by decide +kernel), List.mem_of_getElem? (i := 1518) (by decide +kernel), List.mem_of_getElem? (i := 1519) (by decide +kernel)⟩
theorem lw_p53 : lw_okq (⟨"CellHandoverModel", "waitingAt", "(I)I"⟩, 25) := ⟨⟨by decide +kernel, by decide +kernel⟩, List.mem_of_getElem? (i := 1299) (by decide +kernel), List.mem_of_getElem? (i := 1526) (by decide +kernel), List.mem_of_getElem? (i := 1527) (by decide +kernel)⟩
theorem lw_p54 : lw_okq (⟨"CellHandoverModel", "requestAt", "(II)I"⟩, 25) := ⟨⟨by decide +kernel, by decide +kernel⟩, List.mem_of_getElem? (i := 1299) (by decide +kernel), List.mem_of_getElem? (i := 1534) (by decide +kernel), List.mem_of_getElem? (i := 1535) (by decide +kernel)⟩
theorem lw_p55 : lw_okq (⟨"CellHandoverModel", "isAhead", "(II)Z"⟩, 25) := ⟨⟨by decide +kernel, by decide +kernel⟩, List.mem_of_getElem? (i := 1299) (by decide +kernel), List.mem_of_getElem? (i := 1538) (by decide +kernel), List.mem_of_getElem? (i := 1539) (by decide +kernel)⟩
theorem lw_p56 : lw_okq (⟨"CellHandoverModel", "isMobile", "(I)Z"⟩, 25) := ⟨⟨by decide +kernel, by decide +kernel⟩, List.mem_of_getElem? (i := 1299) (by decide +kernel), List.mem_of_getElem? (i := 1546) (by decide +kernel), List.mem_of_getElem? (i := 1547) (by decide +kernel)⟩
theorem lw_p57 : lw_okq (⟨"CellHandoverModel", "record", "()V"⟩, 25) := ⟨⟨by decide +kernel, by decide +kernel⟩, List.mem_of_getElem? (i := 1299) (by decide +kernel), List.mem_of_getElem? (i := 1550) (by decide +kernel), List.mem_of_getElem? (i := 1551) (by decide +kernel)⟩
theorem lw_p58 : lw_okq (⟨"CellHandoverModel", "put", "(III)V"⟩, 25) := ⟨⟨by decide +kernel, by decide +kernel⟩, List.mem_of_getElem? (i := 1299) (by decide +kernel), List.mem_of_getElem? (i := 1557) (by decide +kernel), List.mem_of_getElem? (i := 1558) (by decide +kernel)⟩
theorem lw_p59 : lw_okq (⟨"CellHandoverModel", "hasFreeChannel", "(I)Z"⟩, 25) := ⟨⟨by decide +kernel, by decide +kernel⟩, List.mem_of_getElem? (i := 1299) (by decide +kernel), List.mem_of_getElem? (i := 1561) (by decide +kernel), List.mem_of_getElem? (i := 1562) (by decide +kernel)⟩
theorem lw_p60 : lw_okq (⟨"CellHandoverModel", "begin", "(II)V"⟩, 25) := ⟨⟨by decide +kernel, by decide +kernel⟩, List.mem_of_getElem? (i := 1299) (by decide +kernel), List.mem_of_getElem? (i := 1565) (by decide +kernel), List.mem_of_getElem? (i := 1566) (by decide +kernel)⟩
theorem lw_p61 : lw_okq (⟨"CellHandoverModel", "withdraw", "(I)V"⟩, 25) := ⟨⟨by decide +kernel, by decide +kernel⟩, List.mem_of_getElem? (i := 1299) (by decide +kernel), List.mem_of_getElem? (i := 1569) (by decide +kernel), List.mem_of_getElem? (i := 1570) (by decide +kernel)⟩
theorem lw_p62 : lw_okq (⟨"CellHandoverModel", "retryCell", "(II)I"⟩, 25) := ⟨⟨by decide +kernel, by decide +kernel⟩, List.mem_of_getElem? (i := 1299) (by decide +kernel), List.mem_of_getElem? (i := 1573) (by decide +kernel), List.mem_of_getElem? (i := 1574) (by decide +kernel)⟩
theorem lw_p63 : lw_okq (⟨"CellHandoverModel", "levelFor", "(II)I"⟩, 25) := ⟨⟨by decide +kernel, by decide +kernel⟩, List.mem_of_getElem? (i := 1299) (by decide +kernel), List.mem_of_getElem? (i := 1577) (by decide +kernel), List.mem_of_getElem? (i := 1578) (by decide +kernel)⟩
def lw_privs_4 : List (MethodName × Nat) := [(⟨"CellHandoverModel", "tellRelation", "(IIII)I"⟩, 25), (⟨"CellHandoverModel", "ofRelation", "(II)I"⟩, 25), (⟨"CellHandoverModel", "busy", "(I)I"⟩, 25), (⟨"CellHandoverModel", "talks", "(I)Z"⟩, 25), (⟨"CellHandoverModel", "of", "(II)I"⟩, 25), (⟨"CellHandoverModel", "waitingAt", "(I)I"⟩, 25), (⟨"CellHandoverModel", "requestAt", "(II)I"⟩, 25), (⟨"CellHandoverModel", "isAhead", "(II)Z"⟩, 25), (⟨"CellHandoverModel", "isMobile", "(I)Z"⟩, 25), (⟨"CellHandoverModel", "record", "()V"⟩, 25), (⟨"CellHandoverModel", "put", "(III)V"⟩, 25), (⟨"CellHandoverModel", "hasFreeChannel", "(I)Z"⟩, 25), (⟨"CellHandoverModel", "begin", "(II)V"⟩, 25), (⟨"CellHandoverModel", "withdraw", "(I)V"⟩, 25), (⟨"CellHandoverModel", "retryCell", "(II)I"⟩, 25), (⟨"CellHandoverModel", "levelFor", "(II)I"⟩, 25)]
theorem lw_r4 : ∀ q ∈ lw_privs_4, lw_okq q := List.forall_mem_cons.mpr ⟨lw_p48, List.forall_mem_cons.mpr ⟨lw_p49, List.forall_mem_cons.mpr ⟨lw_p50, List.forall_mem_cons.mpr ⟨lw_p51, List.forall_mem_cons.mpr ⟨lw_p52, List.forall_mem_cons.mpr ⟨lw_p53, List.forall_mem_cons.mpr ⟨lw_p54, List.forall_mem_cons.mpr ⟨lw_p55, List.forall_mem_cons.mpr ⟨lw_p56, List.forall_mem_cons.mpr ⟨lw_p57, List.forall_mem_cons.mpr ⟨lw_p58, List.forall_mem_cons.mpr ⟨lw_p59, List.forall_mem_cons.mpr ⟨lw_p60, List.forall_mem_cons.mpr ⟨lw_p61, List.forall_mem_cons.mpr ⟨lw_p62, List.forall_mem_cons.mpr ⟨lw_p63, fun _ h => absurd h List.not_mem_nil⟩⟩⟩⟩⟩⟩⟩⟩⟩⟩⟩⟩⟩⟩⟩⟩
theorem lw_p64 : lw_okq (⟨"CellHandoverModel", "count", "(I)V"⟩, 25) := ⟨⟨by decide +kernel, by decide +kernel⟩, List.mem_of_getElem? (i := 1299) (by decide +kernel), List.mem_of_getElem? (i := 1581) (by decide +kernel), List.mem_of_getElem? (i := 1582) (by decide +kernel)⟩
theorem lw_p65 : lw_okq (⟨"CellHandoverModel", "hasRoom", "(I)Z"⟩, 25) := ⟨⟨by decide +kernel, by decide +kernel⟩, List.mem_of_getElem? (i := 1299) (by decide +kernel), List.mem_of_getElem? (i := 1585) (by decide +kernel), List.mem_of_getElem? (i := 1586) (by decide +kernel)⟩
theorem lw_p66 : lw_okq (⟨"CellHandoverModel", "request", "(III)V"⟩, 25) := ⟨⟨by decide +kernel, by decide +kernel⟩, List.mem_of_getElem? (i := 1299) (by decide +kernel), List.mem_of_getElem? (i := 1589) (by decide +kernel), List.mem_of_getElem? (i := 1590) (by decide +kernel)⟩
theorem lw_p67 : lw_okq (⟨"CellHandoverModel", "tell", "(II)I"⟩, 25) := ⟨⟨by decide +kernel, by decide +kernel⟩, List.mem_of_getElem? (i := 1299) (by decide +kernel), List.mem_of_getElem? (i := 1597) (by decide +kernel), List.mem_of_getElem? (i := 1598) (by decide +kernel)⟩
theorem lw_p68 : lw_okq (⟨"CellHandoverModel", "end", "(I)V"⟩, 25) := ⟨⟨by decide +kernel, by decide +kernel⟩, List.mem_of_getElem? (i := 1299) (by decide +kernel), List.mem_of_getElem? (i := 1601) (by decide +kernel), List.mem_of_getElem? (i := 1602) (by decide +kernel)⟩
theorem lw_p69 : lw_okq (⟨"CellHandoverModel", "canRun", "(II)Z"⟩, 25) := ⟨⟨by decide +kernel, by decide +kernel⟩, List.mem_of_getElem? (i := 1299) (by decide +kernel), List.mem_of_getElem? (i := 1609) (by decide +kernel), List.mem_of_getElem? (i := 1610) (by decide +kernel)⟩
theorem lw_p70 : lw_okq (⟨"CellHandoverModel", "pass", "(I)V"⟩, 25) := ⟨⟨by decide +kernel, by decide +kernel⟩, List.mem_of_getElem? (i := 1299) (by decide +kernel), List.mem_of_getElem? (i := 1614) (by decide +kernel), List.mem_of_getElem? (i := 1615) (by decide +kernel)⟩
theorem lw_p71 : lw_okq (⟨"CellHandoverModel", "passTick", "()V"⟩, 25) := ⟨⟨by decide +kernel, by decide +kernel⟩, List.mem_of_getElem? (i := 1299) (by decide +kernel), List.mem_of_getElem? (i := 1618) (by decide +kernel), List.mem_of_getElem? (i := 1619) (by decide +kernel)⟩
theorem lw_p72 : lw_okq (⟨"CellHandoverModel", "measure", "(I)V"⟩, 25) := ⟨⟨by decide +kernel, by decide +kernel⟩, List.mem_of_getElem? (i := 1299) (by decide +kernel), List.mem_of_getElem? (i := 1626) (by decide +kernel), List.mem_of_getElem? (i := 1627) (by decide +kernel)⟩
theorem lw_p73 : lw_okq (⟨"CellHandoverModel", "report", "(III)V"⟩, 25) := ⟨⟨by decide +kernel, by decide +kernel⟩, List.mem_of_getElem? (i := 1299) (by decide +kernel), List.mem_of_getElem? (i := 1630) (by decide +kernel), List.mem_of_getElem? (i := 1631) (by decide +kernel)⟩
theorem lw_p74 : lw_okq (⟨"CellHandoverModel", "reportsOf", "(II)I"⟩, 25) := ⟨⟨by decide +kernel, by decide +kernel⟩, List.mem_of_getElem? (i := 1299) (by decide +kernel), List.mem_of_getElem? (i := 1634) (by decide +kernel), List.mem_of_getElem? (i := 1635) (by decide +kernel)⟩
theorem lw_p75 : lw_okq (⟨"CellHandoverModel", "finish", "(I)V"⟩, 25) := ⟨⟨by decide +kernel, by decide +kernel⟩, List.mem_of_getElem? (i := 1299) (by decide +kernel), List.mem_of_getElem? (i := 1638) (by decide +kernel), List.mem_of_getElem? (i := 1639) (by decide +kernel)⟩
theorem lw_p76 : lw_okq (⟨"CellHandoverModel", "checkDrop", "(I)V"⟩, 25) := ⟨⟨by decide +kernel, by decide +kernel⟩, List.mem_of_getElem? (i := 1299) (by decide +kernel), List.mem_of_getElem? (i := 1642) (by decide +kernel), List.mem_of_getElem? (i := 1643) (by decide +kernel)⟩
theorem lw_p77 : lw_okq (⟨"CellHandoverModel", "averageOf", "(II)I"⟩, 25) := ⟨⟨by decide +kernel, by decide +kernel⟩, List.mem_of_getElem? (i := 1299) (by decide +kernel), List.mem_of_getElem? (i := 1646) (by decide +kernel), List.mem_of_getElem? (i := 1647) (by decide +kernel)⟩
theorem lw_p78 : lw_okq (⟨"CellHandoverModel", "serve", "(I)V"⟩, 25) := ⟨⟨by decide +kernel, by decide +kernel⟩, List.mem_of_getElem? (i := 1299) (by decide +kernel), List.mem_of_getElem? (i := 1650) (by decide +kernel), List.mem_of_getElem? (i := 1651) (by decide +kernel)⟩
theorem lw_p79 : lw_okq (⟨"CellHandoverModel", "handOver", "(II)V"⟩, 25) := ⟨⟨by decide +kernel, by decide +kernel⟩, List.mem_of_getElem? (i := 1299) (by decide +kernel), List.mem_of_getElem? (i := 1654) (by decide +kernel), List.mem_of_getElem? (i := 1655) (by decide +kernel)⟩
def lw_privs_5 : List (MethodName × Nat) := [(⟨"CellHandoverModel", "count", "(I)V"⟩, 25), (⟨"CellHandoverModel", "hasRoom", "(I)Z"⟩, 25), (⟨"CellHandoverModel", "request", "(III)V"⟩, 25), (⟨"CellHandoverModel", "tell", "(II)I"⟩, 25), (⟨"CellHandoverModel", "end", "(I)V"⟩, 25), (⟨"CellHandoverModel", "canRun", "(II)Z"⟩, 25), (⟨"CellHandoverModel", "pass", "(I)V"⟩, 25), (⟨"CellHandoverModel", "passTick", "()V"⟩, 25), (⟨"CellHandoverModel", "measure", "(I)V"⟩, 25), (⟨"CellHandoverModel", "report", "(III)V"⟩, 25), (⟨"CellHandoverModel", "reportsOf", "(II)I"⟩, 25), (⟨"CellHandoverModel", "finish", "(I)V"⟩, 25), (⟨"CellHandoverModel", "checkDrop", "(I)V"⟩, 25), (⟨"CellHandoverModel", "averageOf", "(II)I"⟩, 25), (⟨"CellHandoverModel", "serve", "(I)V"⟩, 25), (⟨"CellHandoverModel", "handOver", "(II)V"⟩, 25)]
theorem lw_r5 : ∀ q ∈ lw_privs_5, lw_okq q := List.forall_mem_cons.mpr ⟨lw_p64, List.forall_mem_cons.mpr ⟨lw_p65, List.forall_mem_cons.mpr ⟨lw_p66, List.forall_mem_cons.mpr ⟨lw_p67, List.forall_mem_cons.mpr ⟨lw_p68, List.forall_mem_cons.mpr ⟨lw_p69, List.forall_mem_cons.mpr ⟨lw_p70, List.forall_mem_cons.mpr ⟨lw_p71, List.forall_mem_cons.mpr ⟨lw_p72, List.forall_mem_cons.mpr ⟨lw_p73, List.forall_mem_cons.mpr ⟨lw_p74, List.forall_mem_cons.mpr ⟨lw_p75, List.forall_mem_cons.mpr ⟨lw_p76, List.forall_mem_cons.mpr ⟨lw_p77, List.forall_mem_cons.mpr ⟨lw_p78, List.forall_mem_cons.mpr ⟨lw_p79, fun _ h => absurd h List.not_mem_nil⟩⟩⟩⟩⟩⟩⟩⟩⟩⟩⟩⟩⟩⟩⟩⟩
theorem lw_p80 : lw_okq (⟨"CellHandoverModel", "isBarredNow", "(II)Z"⟩, 25) := ⟨⟨by decide +kernel, by decide +kernel⟩, List.mem_of_getElem? (i := 1299) (by decide +kernel), List.mem_of_getElem? (i := 1658) (by decide +kernel), List.mem_of_getElem? (i := 1659) (by decide +kernel)⟩
theorem lw_p81 : lw_okq (⟨"CellHandoverModel", "addToRelation", "(II)V"⟩, 25) := ⟨⟨by decide +kernel, by decide +kernel⟩, List.mem_of_getElem? (i := 1299) (by decide +kernel), List.mem_of_getElem? (i := 1662) (by decide +kernel), List.mem_of_getElem? (i := 1663) (by decide +kernel)⟩
theorem lw_p82 : lw_okq (⟨"CellHandoverModel", "hasRequest", "(I)Z"⟩, 25) := ⟨⟨by decide +kernel, by decide +kernel⟩, List.mem_of_getElem? (i := 1299) (by decide +kernel), List.mem_of_getElem? (i := 1666) (by decide +kernel), List.mem_of_getElem? (i := 1667) (by decide +kernel)⟩
theorem lw_p83 : lw_okq (⟨"CellHandoverModel", "consider", "(I)V"⟩, 25) := ⟨⟨by decide +kernel, by decide +kernel⟩, List.mem_of_getElem? (i := 1299) (by decide +kernel), List.mem_of_getElem? (i := 1670) (by decide +kernel), List.mem_of_getElem? (i := 1671) (by decide +kernel)⟩
theorem lw_p84 : lw_okq (⟨"CellHandoverModel", "rank", "(I)V"⟩, 25) := ⟨⟨by decide +kernel, by decide +kernel⟩, List.mem_of_getElem? (i := 1299) (by decide +kernel), List.mem_of_getElem? (i := 1674) (by decide +kernel), List.mem_of_getElem? (i := 1675) (by decide +kernel)⟩
theorem lw_p85 : lw_okq (⟨"CellHandoverModel", "isEmergency", "(I)Z"⟩, 25) := ⟨⟨by decide +kernel, by decide +kernel⟩, List.mem_of_getElem? (i := 1299) (by decide +kernel), List.mem_of_getElem? (i := 1678) (by decide +kernel), List.mem_of_getElem? (i := 1679) (by decide +kernel)⟩
theorem lw_p86 : lw_okq (⟨"CellHandoverModel", "marginOf", "(IIZ)I"⟩, 25) := ⟨⟨by decide +kernel, by decide +kernel⟩, List.mem_of_getElem? (i := 1299) (by decide +kernel), List.mem_of_getElem? (i := 1682) (by decide +kernel), List.mem_of_getElem? (i := 1683) (by decide +kernel)⟩
theorem lw_p87 : lw_okq (⟨"CellHandoverModel", "expire", "(I)V"⟩, 25) := ⟨⟨by decide +kernel, by decide +kernel⟩, List.mem_of_getElem? (i := 1299) (by decide +kernel), List.mem_of_getElem? (i := 1686) (by decide +kernel), List.mem_of_getElem? (i := 1687) (by decide +kernel)⟩
theorem lw_p88 : lw_okq (⟨"CellHandoverModel", "arePair", "(II)Z"⟩, 25) := ⟨⟨by decide +kernel, by decide +kernel⟩, List.mem_of_getElem? (i := 1299) (by decide +kernel), List.mem_of_getElem? (i := 1733) (by decide +kernel), List.mem_of_getElem? (i := 1734) (by decide +kernel)⟩
theorem lw_p89 : lw_okq (⟨"CellHandoverModel", "start", "(I)V"⟩, 25) := ⟨⟨by decide +kernel, by decide +kernel⟩, List.mem_of_getElem? (i := 1299) (by decide +kernel), List.mem_of_getElem? (i := 1785) (by decide +kernel), List.mem_of_getElem? (i := 1786) (by decide +kernel)⟩
theorem lw_p90 : lw_okq (⟨"CellHandoverModel", "scan", "()V"⟩, 25) := ⟨⟨by decide +kernel, by decide +kernel⟩, List.mem_of_getElem? (i := 1299) (by decide +kernel), List.mem_of_getElem? (i := 1789) (by decide +kernel), List.mem_of_getElem? (i := 1790) (by decide +kernel)⟩
theorem lw_p91 : lw_okq (⟨"CellHandoverModel", "byteAt", "(I)I"⟩, 25) := ⟨⟨by decide +kernel, by decide +kernel⟩, List.mem_of_getElem? (i := 1299) (by decide +kernel), List.mem_of_getElem? (i := 1793) (by decide +kernel), List.mem_of_getElem? (i := 1794) (by decide +kernel)⟩
theorem lw_p92 : lw_okq (⟨"CellHandoverModel", "isLetter", "(I)Z"⟩, 25) := ⟨⟨by decide +kernel, by decide +kernel⟩, List.mem_of_getElem? (i := 1299) (by decide +kernel), List.mem_of_getElem? (i := 1797) (by decide +kernel), List.mem_of_getElem? (i := 1798) (by decide +kernel)⟩
theorem lw_p93 : lw_okq (⟨"CellHandoverModel", "isDigit", "(I)Z"⟩, 25) := ⟨⟨by decide +kernel, by decide +kernel⟩, List.mem_of_getElem? (i := 1299) (by decide +kernel), List.mem_of_getElem? (i := 1801) (by decide +kernel), List.mem_of_getElem? (i := 1802) (by decide +kernel)⟩
theorem lw_p94 : lw_okq (⟨"CellHandoverModel", "isWord", "(Ljava/lang/String;)Z"⟩, 25) := ⟨⟨by decide +kernel, by decide +kernel⟩, List.mem_of_getElem? (i := 1299) (by decide +kernel), List.mem_of_getElem? (i := 1805) (by decide +kernel), List.mem_of_getElem? (i := 1806) (by decide +kernel)⟩
theorem lw_p95 : lw_okq (⟨"CellHandoverModel", "readCell", "()V"⟩, 25) := ⟨⟨by decide +kernel, by decide +kernel⟩, List.mem_of_getElem? (i := 1299) (by decide +kernel), List.mem_of_getElem? (i := 1811) (by decide +kernel), List.mem_of_getElem? (i := 1812) (by decide +kernel)⟩
def lw_privs_6 : List (MethodName × Nat) := [(⟨"CellHandoverModel", "isBarredNow", "(II)Z"⟩, 25), (⟨"CellHandoverModel", "addToRelation", "(II)V"⟩, 25), (⟨"CellHandoverModel", "hasRequest", "(I)Z"⟩, 25), (⟨"CellHandoverModel", "consider", "(I)V"⟩, 25), (⟨"CellHandoverModel", "rank", "(I)V"⟩, 25), (⟨"CellHandoverModel", "isEmergency", "(I)Z"⟩, 25), (⟨"CellHandoverModel", "marginOf", "(IIZ)I"⟩, 25), (⟨"CellHandoverModel", "expire", "(I)V"⟩, 25), (⟨"CellHandoverModel", "arePair", "(II)Z"⟩, 25), (⟨"CellHandoverModel", "start", "(I)V"⟩, 25), (⟨"CellHandoverModel", "scan", "()V"⟩, 25), (⟨"CellHandoverModel", "byteAt", "(I)I"⟩, 25), (⟨"CellHandoverModel", "isLetter", "(I)Z"⟩, 25), (⟨"CellHandoverModel", "isDigit", "(I)Z"⟩, 25), (⟨"CellHandoverModel", "isWord", "(Ljava/lang/String;)Z"⟩, 25), (⟨"CellHandoverModel", "readCell", "()V"⟩, 25)]
theorem lw_r6 : ∀ q ∈ lw_privs_6, lw_okq q := List.forall_mem_cons.mpr ⟨lw_p80, List.forall_mem_cons.mpr ⟨lw_p81, List.forall_mem_cons.mpr ⟨lw_p82, List.forall_mem_cons.mpr ⟨lw_p83, List.forall_mem_cons.mpr ⟨lw_p84, List.forall_mem_cons.mpr ⟨lw_p85, List.forall_mem_cons.mpr ⟨lw_p86, List.forall_mem_cons.mpr ⟨lw_p87, List.forall_mem_cons.mpr ⟨lw_p88, List.forall_mem_cons.mpr ⟨lw_p89, List.forall_mem_cons.mpr ⟨lw_p90, List.forall_mem_cons.mpr ⟨lw_p91, List.forall_mem_cons.mpr ⟨lw_p92, List.forall_mem_cons.mpr ⟨lw_p93, List.forall_mem_cons.mpr ⟨lw_p94, List.forall_mem_cons.mpr ⟨lw_p95, fun _ h => absurd h List.not_mem_nil⟩⟩⟩⟩⟩⟩⟩⟩⟩⟩⟩⟩⟩⟩⟩⟩
theorem lw_p96 : lw_okq (⟨"CellHandoverModel", "check", "(ZI)V"⟩, 25) := ⟨⟨by decide +kernel, by decide +kernel⟩, List.mem_of_getElem? (i := 1299) (by decide +kernel), List.mem_of_getElem? (i := 1815) (by decide +kernel), List.mem_of_getElem? (i := 1816) (by decide +kernel)⟩
theorem lw_p97 : lw_okq (⟨"CellHandoverModel", "fail", "(I)V"⟩, 25) := ⟨⟨by decide +kernel, by decide +kernel⟩, List.mem_of_getElem? (i := 1299) (by decide +kernel), List.mem_of_getElem? (i := 1819) (by decide +kernel), List.mem_of_getElem? (i := 1820) (by decide +kernel)⟩
theorem lw_p98 : lw_okq (⟨"CellHandoverModel", "advance", "()V"⟩, 25) := ⟨⟨by decide +kernel, by decide +kernel⟩, List.mem_of_getElem? (i := 1299) (by decide +kernel), List.mem_of_getElem? (i := 1823) (by decide +kernel), List.mem_of_getElem? (i := 1824) (by decide +kernel)⟩
theorem lw_p99 : lw_okq (⟨"CellHandoverModel", "putNumber", "(III)V"⟩, 25) := ⟨⟨by decide +kernel, by decide +kernel⟩, List.mem_of_getElem? (i := 1299) (by decide +kernel), List.mem_of_getElem? (i := 1827) (by decide +kernel), List.mem_of_getElem? (i := 1828) (by decide +kernel)⟩
theorem lw_p100 : lw_okq (⟨"CellHandoverModel", "number", "(II)I"⟩, 25) := ⟨⟨by decide +kernel, by decide +kernel⟩, List.mem_of_getElem? (i := 1299) (by decide +kernel), List.mem_of_getElem? (i := 1831) (by decide +kernel), List.mem_of_getElem? (i := 1832) (by decide +kernel)⟩
theorem lw_p101 : lw_okq (⟨"CellHandoverModel", "value", "()I"⟩, 25) := ⟨⟨by decide +kernel, by decide +kernel⟩, List.mem_of_getElem? (i := 1299) (by decide +kernel), List.mem_of_getElem? (i := 1835) (by decide +kernel), List.mem_of_getElem? (i := 1836) (by decide +kernel)⟩
theorem lw_p102 : lw_okq (⟨"CellHandoverModel", "readRelation", "()V"⟩, 25) := ⟨⟨by decide +kernel, by decide +kernel⟩, List.mem_of_getElem? (i := 1299) (by decide +kernel), List.mem_of_getElem? (i := 1841) (by decide +kernel), List.mem_of_getElem? (i := 1842) (by decide +kernel)⟩
theorem lw_p103 : lw_okq (⟨"CellHandoverModel", "existing", "()I"⟩, 25) := ⟨⟨by decide +kernel, by decide +kernel⟩, List.mem_of_getElem? (i := 1299) (by decide +kernel), List.mem_of_getElem? (i := 1845) (by decide +kernel), List.mem_of_getElem? (i := 1846) (by decide +kernel)⟩
theorem lw_p104 : lw_okq (⟨"CellHandoverModel", "readSettings", "()V"⟩, 25) := ⟨⟨by decide +kernel, by decide +kernel⟩, List.mem_of_getElem? (i := 1299) (by decide +kernel), List.mem_of_getElem? (i := 1849) (by decide +kernel), List.mem_of_getElem? (i := 1850) (by decide +kernel)⟩
theorem lw_p105 : lw_okq (⟨"CellHandoverModel", "expectWord", "(Ljava/lang/String;)V"⟩, 25) := ⟨⟨by decide +kernel, by decide +kernel⟩, List.mem_of_getElem? (i := 1299) (by decide +kernel), List.mem_of_getElem? (i := 1854) (by decide +kernel), List.mem_of_getElem? (i := 1855) (by decide +kernel)⟩
theorem lw_p106 : lw_okq (⟨"CellHandoverModel", "expect", "(I)V"⟩, 25) := ⟨⟨by decide +kernel, by decide +kernel⟩, List.mem_of_getElem? (i := 1299) (by decide +kernel), List.mem_of_getElem? (i := 1858) (by decide +kernel), List.mem_of_getElem? (i := 1859) (by decide +kernel)⟩
theorem lw_p107 : lw_okq (⟨"CellHandoverModel", "isSymbol", "(I)Z"⟩, 25) := ⟨⟨by decide +kernel, by decide +kernel⟩, List.mem_of_getElem? (i := 1299) (by decide +kernel), List.mem_of_getElem? (i := 1862) (by decide +kernel), List.mem_of_getElem? (i := 1863) (by decide +kernel)⟩
theorem lw_p108 : lw_okq (⟨"CellHandoverModel", "finish", "()I"⟩, 25) := ⟨⟨by decide +kernel, by decide +kernel⟩, List.mem_of_getElem? (i := 1299) (by decide +kernel), List.mem_of_getElem? (i := 1866) (by decide +kernel), List.mem_of_getElem? (i := 1867) (by decide +kernel)⟩
theorem lw_p109 : lw_okq (⟨"CellHandoverModel", "compileTest", "()V"⟩, 25) := ⟨⟨by decide +kernel, by decide +kernel⟩, List.mem_of_getElem? (i := 1299) (by decide +kernel), List.mem_of_getElem? (i := 1876) (by decide +kernel), List.mem_of_getElem? (i := 1877) (by decide +kernel)⟩
theorem lw_p110 : lw_okq (⟨"CellHandoverModel", "compileConjunction", "()V"⟩, 25) := ⟨⟨by decide +kernel, by decide +kernel⟩, List.mem_of_getElem? (i := 1299) (by decide +kernel), List.mem_of_getElem? (i := 1880) (by decide +kernel), List.mem_of_getElem? (i := 1881) (by decide +kernel)⟩
theorem lw_p111 : lw_okq (⟨"CellHandoverModel", "compileFactor", "()V"⟩, 25) := ⟨⟨by decide +kernel, by decide +kernel⟩, List.mem_of_getElem? (i := 1299) (by decide +kernel), List.mem_of_getElem? (i := 1884) (by decide +kernel), List.mem_of_getElem? (i := 1885) (by decide +kernel)⟩
def lw_privs_7 : List (MethodName × Nat) := [(⟨"CellHandoverModel", "check", "(ZI)V"⟩, 25), (⟨"CellHandoverModel", "fail", "(I)V"⟩, 25), (⟨"CellHandoverModel", "advance", "()V"⟩, 25), (⟨"CellHandoverModel", "putNumber", "(III)V"⟩, 25), (⟨"CellHandoverModel", "number", "(II)I"⟩, 25), (⟨"CellHandoverModel", "value", "()I"⟩, 25), (⟨"CellHandoverModel", "readRelation", "()V"⟩, 25), (⟨"CellHandoverModel", "existing", "()I"⟩, 25), (⟨"CellHandoverModel", "readSettings", "()V"⟩, 25), (⟨"CellHandoverModel", "expectWord", "(Ljava/lang/String;)V"⟩, 25), (⟨"CellHandoverModel", "expect", "(I)V"⟩, 25), (⟨"CellHandoverModel", "isSymbol", "(I)Z"⟩, 25), (⟨"CellHandoverModel", "finish", "()I"⟩, 25), (⟨"CellHandoverModel", "compileTest", "()V"⟩, 25), (⟨"CellHandoverModel", "compileConjunction", "()V"⟩, 25), (⟨"CellHandoverModel", "compileFactor", "()V"⟩, 25)]
theorem lw_r7 : ∀ q ∈ lw_privs_7, lw_okq q := List.forall_mem_cons.mpr ⟨lw_p96, List.forall_mem_cons.mpr ⟨lw_p97, List.forall_mem_cons.mpr ⟨lw_p98, List.forall_mem_cons.mpr ⟨lw_p99, List.forall_mem_cons.mpr ⟨lw_p100, List.forall_mem_cons.mpr ⟨lw_p101, List.forall_mem_cons.mpr ⟨lw_p102, List.forall_mem_cons.mpr ⟨lw_p103, List.forall_mem_cons.mpr ⟨lw_p104, List.forall_mem_cons.mpr ⟨lw_p105, List.forall_mem_cons.mpr ⟨lw_p106, List.forall_mem_cons.mpr ⟨lw_p107, List.forall_mem_cons.mpr ⟨lw_p108, List.forall_mem_cons.mpr ⟨lw_p109, List.forall_mem_cons.mpr ⟨lw_p110, List.forall_mem_cons.mpr ⟨lw_p111, fun _ h => absurd h List.not_mem_nil⟩⟩⟩⟩⟩⟩⟩⟩⟩⟩⟩⟩⟩⟩⟩⟩
theorem lw_p112 : lw_okq (⟨"CellHandoverModel", "enter", "()V"⟩, 25) := ⟨⟨by decide +kernel, by decide +kernel⟩, List.mem_of_getElem? (i := 1299) (by decide +kernel), List.mem_of_getElem? (i := 1889) (by decide +kernel), List.mem_of_getElem? (i := 1890) (by decide +kernel)⟩
theorem lw_p113 : lw_okq (⟨"CellHandoverModel", "emit", "(I)V"⟩, 25) := ⟨⟨by decide +kernel, by decide +kernel⟩, List.mem_of_getElem? (i := 1299) (by decide +kernel), List.mem_of_getElem? (i := 1893) (by decide +kernel), List.mem_of_getElem? (i := 1894) (by decide +kernel)⟩
theorem lw_p114 : lw_okq (⟨"CellHandoverModel", "compileValue", "()V"⟩, 25) := ⟨⟨by decide +kernel, by decide +kernel⟩, List.mem_of_getElem? (i := 1299) (by decide +kernel), List.mem_of_getElem? (i := 1897) (by decide +kernel), List.mem_of_getElem? (i := 1898) (by decide +kernel)⟩
theorem lw_p115 : lw_okq (⟨"CellHandoverModel", "accept", "(Ljava/lang/String;)Z"⟩, 25) := ⟨⟨by decide +kernel, by decide +kernel⟩, List.mem_of_getElem? (i := 1299) (by decide +kernel), List.mem_of_getElem? (i := 1902) (by decide +kernel), List.mem_of_getElem? (i := 1903) (by decide +kernel)⟩
theorem lw_p116 : lw_okq (⟨"CellHandoverModel", "holds", "(I)Z"⟩, 25) := ⟨⟨by decide +kernel, by decide +kernel⟩, List.mem_of_getElem? (i := 1299) (by decide +kernel), List.mem_of_getElem? (i := 1908) (by decide +kernel), List.mem_of_getElem? (i := 1909) (by decide +kernel)⟩
theorem lw_p117 : lw_okq (⟨"CellHandoverModel", "property", "(II)I"⟩, 25) := ⟨⟨by decide +kernel, by decide +kernel⟩, List.mem_of_getElem? (i := 1299) (by decide +kernel), List.mem_of_getElem? (i := 1912) (by decide +kernel), List.mem_of_getElem? (i := 1913) (by decide +kernel)⟩
def lw_privs_8 : List (MethodName × Nat) := [(⟨"CellHandoverModel", "enter", "()V"⟩, 25), (⟨"CellHandoverModel", "emit", "(I)V"⟩, 25), (⟨"CellHandoverModel", "compileValue", "()V"⟩, 25), (⟨"CellHandoverModel", "accept", "(Ljava/lang/String;)Z"⟩, 25), (⟨"CellHandoverModel", "holds", "(I)Z"⟩, 25), (⟨"CellHandoverModel", "property", "(II)I"⟩, 25)]
theorem lw_r8 : ∀ q ∈ lw_privs_8, lw_okq q := List.forall_mem_cons.mpr ⟨lw_p112, List.forall_mem_cons.mpr ⟨lw_p113, List.forall_mem_cons.mpr ⟨lw_p114, List.forall_mem_cons.mpr ⟨lw_p115, List.forall_mem_cons.mpr ⟨lw_p116, List.forall_mem_cons.mpr ⟨lw_p117, fun _ h => absurd h List.not_mem_nil⟩⟩⟩⟩⟩⟩
def lw_privs : List (MethodName × Nat) := lw_privs_1 ++ (lw_privs_2 ++ (lw_privs_3 ++ (lw_privs_4 ++ (lw_privs_5 ++ (lw_privs_6 ++ (lw_privs_7 ++ (lw_privs_8)))))))
def lw_tbl : List Cond := k2_sels lw_privs ++ tables_1
theorem lw_privs_ok : ∀ q ∈ lw_privs, lw_okq q := by
  show ∀ q ∈ lw_privs_1 ++ (lw_privs_2 ++ (lw_privs_3 ++ (lw_privs_4 ++ (lw_privs_5 ++ (lw_privs_6 ++ (lw_privs_7 ++ (lw_privs_8))))))), lw_okq q
  exact List.forall_mem_append.mpr ⟨lw_r1, List.forall_mem_append.mpr ⟨lw_r2, List.forall_mem_append.mpr ⟨lw_r3, List.forall_mem_append.mpr ⟨lw_r4, List.forall_mem_append.mpr ⟨lw_r5, List.forall_mem_append.mpr ⟨lw_r6, List.forall_mem_append.mpr ⟨lw_r7, lw_r8⟩⟩⟩⟩⟩⟩⟩

def ch_GL : List Cond := lw_tbl.filter goodWord
theorem ch_GLg {w : Cond} (h : w ∈ ch_GL) : goodWord w = true := (List.mem_filter.mp h).2
theorem ch_GLt {w : Cond} (h : w ∈ ch_GL) : w ∈ lw_tbl := (List.mem_filter.mp h).1
theorem ch_t1 {w : Cond} (h : w ∈ tables_1_1) : w ∈ tables_1 := List.mem_append_left _ h
theorem ch_c1 {w : Cond} (i : Nat) (h : tables_1_1[i]? = some w) (g : goodWord w = true) : w ∈ ch_GL := List.mem_filter.mpr ⟨List.mem_append_right _ (ch_t1 (List.mem_of_getElem? h)), g⟩
theorem ch_b1 {w : Cond} (i : Nat) (h : tables_1_1[i]? = some w) : w ∈ lw_tbl := List.mem_append_right _ (ch_t1 (List.mem_of_getElem? h))
theorem ch_t2 {w : Cond} (h : w ∈ tables_1_2) : w ∈ tables_1 := List.mem_append_right _ (List.mem_append_left _ h)
theorem ch_c2 {w : Cond} (i : Nat) (h : tables_1_2[i]? = some w) (g : goodWord w = true) : w ∈ ch_GL := List.mem_filter.mpr ⟨List.mem_append_right _ (ch_t2 (List.mem_of_getElem? h)), g⟩
theorem ch_b2 {w : Cond} (i : Nat) (h : tables_1_2[i]? = some w) : w ∈ lw_tbl := List.mem_append_right _ (ch_t2 (List.mem_of_getElem? h))
theorem ch_t3 {w : Cond} (h : w ∈ tables_1_3) : w ∈ tables_1 := List.mem_append_right _ (List.mem_append_right _ (List.mem_append_left _ h))
theorem ch_c3 {w : Cond} (i : Nat) (h : tables_1_3[i]? = some w) (g : goodWord w = true) : w ∈ ch_GL := List.mem_filter.mpr ⟨List.mem_append_right _ (ch_t3 (List.mem_of_getElem? h)), g⟩
theorem ch_b3 {w : Cond} (i : Nat) (h : tables_1_3[i]? = some w) : w ∈ lw_tbl := List.mem_append_right _ (ch_t3 (List.mem_of_getElem? h))
theorem ch_t4 {w : Cond} (h : w ∈ tables_1_4) : w ∈ tables_1 := List.mem_append_right _ (List.mem_append_right _ (List.mem_append_right _ (List.mem_append_left _ h)))
theorem ch_c4 {w : Cond} (i : Nat) (h : tables_1_4[i]? = some w) (g : goodWord w = true) : w ∈ ch_GL := List.mem_filter.mpr ⟨List.mem_append_right _ (ch_t4 (List.mem_of_getElem? h)), g⟩
theorem ch_b4 {w : Cond} (i : Nat) (h : tables_1_4[i]? = some w) : w ∈ lw_tbl := List.mem_append_right _ (ch_t4 (List.mem_of_getElem? h))
theorem ch_t5 {w : Cond} (h : w ∈ tables_1_5) : w ∈ tables_1 := List.mem_append_right _ (List.mem_append_right _ (List.mem_append_right _ (List.mem_append_right _ (List.mem_append_left _ h))))
theorem ch_c5 {w : Cond} (i : Nat) (h : tables_1_5[i]? = some w) (g : goodWord w = true) : w ∈ ch_GL := List.mem_filter.mpr ⟨List.mem_append_right _ (ch_t5 (List.mem_of_getElem? h)), g⟩
theorem ch_b5 {w : Cond} (i : Nat) (h : tables_1_5[i]? = some w) : w ∈ lw_tbl := List.mem_append_right _ (ch_t5 (List.mem_of_getElem? h))
theorem ch_t6 {w : Cond} (h : w ∈ tables_1_6) : w ∈ tables_1 := List.mem_append_right _ (List.mem_append_right _ (List.mem_append_right _ (List.mem_append_right _ (List.mem_append_right _ (List.mem_append_left _ h)))))
theorem ch_c6 {w : Cond} (i : Nat) (h : tables_1_6[i]? = some w) (g : goodWord w = true) : w ∈ ch_GL := List.mem_filter.mpr ⟨List.mem_append_right _ (ch_t6 (List.mem_of_getElem? h)), g⟩
theorem ch_b6 {w : Cond} (i : Nat) (h : tables_1_6[i]? = some w) : w ∈ lw_tbl := List.mem_append_right _ (ch_t6 (List.mem_of_getElem? h))
theorem ch_t7 {w : Cond} (h : w ∈ tables_1_7) : w ∈ tables_1 := List.mem_append_right _ (List.mem_append_right _ (List.mem_append_right _ (List.mem_append_right _ (List.mem_append_right _ (List.mem_append_right _ (List.mem_append_left _ h))))))
theorem ch_c7 {w : Cond} (i : Nat) (h : tables_1_7[i]? = some w) (g : goodWord w = true) : w ∈ ch_GL := List.mem_filter.mpr ⟨List.mem_append_right _ (ch_t7 (List.mem_of_getElem? h)), g⟩
theorem ch_b7 {w : Cond} (i : Nat) (h : tables_1_7[i]? = some w) : w ∈ lw_tbl := List.mem_append_right _ (ch_t7 (List.mem_of_getElem? h))
theorem ch_t8 {w : Cond} (h : w ∈ tables_1_8) : w ∈ tables_1 := List.mem_append_right _ (List.mem_append_right _ (List.mem_append_right _ (List.mem_append_right _ (List.mem_append_right _ (List.mem_append_right _ (List.mem_append_right _ (List.mem_append_left _ h)))))))
theorem ch_c8 {w : Cond} (i : Nat) (h : tables_1_8[i]? = some w) (g : goodWord w = true) : w ∈ ch_GL := List.mem_filter.mpr ⟨List.mem_append_right _ (ch_t8 (List.mem_of_getElem? h)), g⟩
theorem ch_b8 {w : Cond} (i : Nat) (h : tables_1_8[i]? = some w) : w ∈ lw_tbl := List.mem_append_right _ (ch_t8 (List.mem_of_getElem? h))
theorem ch_t9 {w : Cond} (h : w ∈ tables_1_9) : w ∈ tables_1 := List.mem_append_right _ (List.mem_append_right _ (List.mem_append_right _ (List.mem_append_right _ (List.mem_append_right _ (List.mem_append_right _ (List.mem_append_right _ (List.mem_append_right _ (h))))))))
theorem ch_c9 {w : Cond} (i : Nat) (h : tables_1_9[i]? = some w) (g : goodWord w = true) : w ∈ ch_GL := List.mem_filter.mpr ⟨List.mem_append_right _ (ch_t9 (List.mem_of_getElem? h)), g⟩
theorem ch_b9 {w : Cond} (i : Nat) (h : tables_1_9[i]? = some w) : w ∈ lw_tbl := List.mem_append_right _ (ch_t9 (List.mem_of_getElem? h))
theorem ch_cs {w : Cond} (h : w ∈ k2_sels lw_privs) (g : goodWord w = true) : w ∈ ch_GL := List.mem_filter.mpr ⟨List.mem_append_left _ h, g⟩
theorem ch_sel {q : MethodName × Nat} (h : q ∈ lw_privs) : Cond.selects q.1.cls q.1 q.1 ∈ ch_GL := ch_cs (List.mem_map.mpr ⟨q, h, rfl⟩) rfl
theorem kw_0 : (Cond.initialized "CellHandoverLaw") ∈ ch_GL := ch_c1 0 rfl rfl
theorem kw_1 : (Cond.initialized "CellHandover") ∈ ch_GL := ch_c1 1 rfl rfl
theorem kw_2 : (Cond.initialized "CellHandover$Text") ∈ ch_GL := ch_c1 2 rfl rfl
theorem kw_3 : (Cond.initialized "CellHandover$Network") ∈ ch_GL := ch_c1 3 rfl rfl
theorem kw_4 : (Cond.initialized "CellHandover$Cell") ∈ ch_GL := ch_c1 4 rfl rfl
theorem kw_5 : (Cond.initialized "CellHandover$Relation") ∈ ch_GL := ch_c1 5 rfl rfl
theorem kw_6 : (Cond.initialized "CellHandover$Mobile") ∈ ch_GL := ch_c1 6 rfl rfl
theorem kw_7 : (Cond.initialized "CellHandover$History") ∈ ch_GL := ch_c1 7 rfl rfl
theorem kw_8 : (Cond.initialized "CellHandover$Simulator") ∈ ch_GL := ch_c1 8 rfl rfl
theorem kw_9 : (Cond.initialized "CellHandover$Ranking") ∈ ch_GL := ch_c1 9 rfl rfl
theorem kw_10 : (Cond.initialized "CellHandover$Survey") ∈ ch_GL := ch_c1 10 rfl rfl
theorem kw_11 : (Cond.initialized "CellHandoverModel") ∈ ch_GL := ch_c1 11 rfl rfl
theorem kw_12 : (Cond.initialized "java/lang/Throwable") ∈ ch_GL := ch_c1 12 rfl rfl
theorem kw_13 : (Cond.initialized "java/lang/Exception") ∈ ch_GL := ch_c1 13 rfl rfl
theorem kw_14 : (Cond.initialized "java/lang/RuntimeException") ∈ ch_GL := ch_c1 14 rfl rfl
theorem kw_15 : (Cond.initialized "java/lang/IllegalArgumentException") ∈ ch_GL := ch_c1 15 rfl rfl
theorem kw_16 : (Cond.initialized "java/lang/Math") ∈ ch_GL := ch_c1 16 rfl rfl
theorem kw_17 : (Cond.initialized "CellHandover$NetworkReader") ∈ ch_GL := ch_c1 17 rfl rfl
theorem kw_18 : (Cond.initialized "java/util/Arrays") ∈ ch_GL := ch_c1 18 rfl rfl
theorem kw_19 : (Cond.initialized "java/lang/String") ∈ ch_GL := ch_c1 19 rfl rfl
theorem kw_20 : (Cond.initialized "java/lang/StringLatin1") ∈ ch_GL := ch_c1 20 rfl rfl
theorem kw_21 : (Cond.initialized "jdk/internal/util/Preconditions") ∈ ch_GL := ch_c1 21 rfl rfl
theorem kw_22 : (Cond.initialized "java/lang/StringUTF16") ∈ ch_GL := ch_c1 22 rfl rfl
theorem kw_23 : (Cond.initialized "java/lang/System") ∈ ch_GL := ch_c1 23 rfl rfl
theorem kw_24 : (Cond.initialized "java/util/NoSuchElementException") ∈ ch_GL := ch_c1 24 rfl rfl
theorem kw_25 : (Cond.initialized "CellHandover$QueryReader") ∈ ch_GL := ch_c1 25 rfl rfl
theorem kw_26 : (Cond.initialized "java/lang/Integer") ∈ ch_GL := ch_c1 26 rfl rfl
theorem kw_27 : (Cond.classLink "CellHandoverLaw" (8 : Nat) "CellHandover") ∈ ch_GL := ch_c1 27 rfl rfl
theorem kw_28 : (Cond.instantiable "CellHandover" (8 : Nat)) ∈ ch_GL := ch_c1 28 rfl rfl
theorem kw_29 : (Cond.methodLink "CellHandoverLaw" (111 : Nat) ({ cls := "CellHandover", name := "<init>", desc := "()V" } : MethodName)) ∈ ch_GL := ch_c1 29 rfl rfl
theorem kw_30 : (Cond.instanceMethod ({ cls := "CellHandover", name := "<init>", desc := "()V" } : MethodName)) ∈ ch_GL := ch_c1 30 rfl rfl
theorem kw_31 : (Cond.code ({ cls := "CellHandover", name := "<init>", desc := "()V" } : MethodName) prog_1_method_1_code (1 : Nat) (Option.none : Option FieldType)) ∈ ch_GL := ch_c1 31 rfl rfl
theorem kw_32 : (Cond.methodLink "CellHandover" (1 : Nat) ({ cls := "java/lang/Object", name := "<init>", desc := "()V" } : MethodName)) ∈ ch_GL := ch_c1 32 rfl rfl
theorem kw_33 : (Cond.instanceMethod ({ cls := "java/lang/Object", name := "<init>", desc := "()V" } : MethodName)) ∈ ch_GL := ch_c1 33 rfl rfl
theorem kw_34 : (Cond.code ({ cls := "java/lang/Object", name := "<init>", desc := "()V" } : MethodName) object_method_1_code (1 : Nat) (Option.none : Option FieldType)) ∈ ch_GL := ch_c1 34 rfl rfl
theorem kw_35 : (Cond.classLink "CellHandover" (7 : Nat) "CellHandover$Text") ∈ ch_GL := ch_c1 35 rfl rfl
theorem kw_36 : (Cond.instantiable "CellHandover$Text" (8 : Nat)) ∈ ch_GL := ch_c1 36 rfl rfl
theorem kb_37 : (Cond.methodLinkNest "CellHandover" (9 : Nat) ({ cls := "CellHandover$Text", name := "<init>", desc := "()V" } : MethodName) "CellHandover") ∈ lw_tbl := ch_b1 37 rfl
theorem kw_38 : (Cond.instanceMethod ({ cls := "CellHandover$Text", name := "<init>", desc := "()V" } : MethodName)) ∈ ch_GL := ch_c1 38 rfl rfl
theorem kw_39 : (Cond.code ({ cls := "CellHandover$Text", name := "<init>", desc := "()V" } : MethodName) prog_12_method_1_code (1 : Nat) (Option.none : Option FieldType)) ∈ ch_GL := ch_c1 39 rfl rfl
theorem kw_40 : (Cond.methodLink "CellHandover$Text" (3 : Nat) ({ cls := "java/lang/Object", name := "<init>", desc := "()V" } : MethodName)) ∈ ch_GL := ch_c1 40 rfl rfl
theorem kw_41 : (Cond.fieldLink "CellHandover" (54 : Nat) "CellHandover$Text" "fed" "I") ∈ ch_GL := ch_c1 41 rfl rfl
theorem kw_42 : (Cond.fieldLink "CellHandover$Text" (19 : Nat) "CellHandover$Text" "fed" "I") ∈ ch_GL := ch_c1 42 rfl rfl
theorem kw_43 : (Cond.fieldLink "CellHandover$Text" (28 : Nat) "CellHandover$Text" "error" "I") ∈ ch_GL := ch_c1 43 rfl rfl
theorem kw_44 : (Cond.fieldLink "CellHandover" (80 : Nat) "CellHandover$Text" "error" "I") ∈ ch_GL := ch_c1 44 rfl rfl
theorem kw_45 : (Cond.fieldLink "CellHandover$Text" (9 : Nat) "CellHandover$Text" "errorAt" "I") ∈ ch_GL := ch_c1 45 rfl rfl
theorem kw_46 : (Cond.fieldLink "CellHandover" (93 : Nat) "CellHandover$Text" "errorAt" "I") ∈ ch_GL := ch_c1 46 rfl rfl
theorem kw_47 : (Cond.fieldLink "CellHandover$Text" (15 : Nat) "CellHandover$Text" "bytes" "[I") ∈ ch_GL := ch_c1 47 rfl rfl
theorem kw_48 : (Cond.fieldLink "CellHandover$Text" (22 : Nat) "CellHandover$Text" "end" "I") ∈ ch_GL := ch_c1 48 rfl rfl
theorem kw_49 : (Cond.fieldLink "CellHandover$Text" (34 : Nat) "CellHandover$Text" "start" "I") ∈ ch_GL := ch_c1 49 rfl rfl
theorem kw_50 : (Cond.fieldLink "CellHandover$Text" (25 : Nat) "CellHandover$Text" "next" "I") ∈ ch_GL := ch_c1 50 rfl rfl
theorem kw_51 : (Cond.fieldLink "CellHandover$Text" (50 : Nat) "CellHandover$Text" "kind" "I") ∈ ch_GL := ch_c1 51 rfl rfl
theorem kw_52 : (Cond.lays "CellHandover$Text" "CellHandover$Text" "fed" "I") ∈ ch_GL := ch_c1 52 rfl rfl
theorem kw_53 : (Cond.soleField "CellHandover$Text" "fed") ∈ ch_GL := ch_c1 53 rfl rfl
theorem kw_54 : (Cond.lays "CellHandover$Text" "CellHandover$Text" "error" "I") ∈ ch_GL := ch_c1 54 rfl rfl
theorem kw_55 : (Cond.soleField "CellHandover$Text" "error") ∈ ch_GL := ch_c1 55 rfl rfl
theorem kw_56 : (Cond.lays "CellHandover$Text" "CellHandover$Text" "errorAt" "I") ∈ ch_GL := ch_c1 56 rfl rfl
theorem kw_57 : (Cond.soleField "CellHandover$Text" "errorAt") ∈ ch_GL := ch_c1 57 rfl rfl
theorem kw_58 : (Cond.laysFinal "CellHandover$Text" "CellHandover$Text" "bytes" "[I") ∈ ch_GL := ch_c1 58 rfl rfl
theorem kw_59 : (Cond.soleField "CellHandover$Text" "bytes") ∈ ch_GL := ch_c1 59 rfl rfl
theorem kw_60 : (Cond.lays "CellHandover$Text" "CellHandover$Text" "end" "I") ∈ ch_GL := ch_c1 60 rfl rfl
theorem kw_61 : (Cond.soleField "CellHandover$Text" "end") ∈ ch_GL := ch_c1 61 rfl rfl
theorem kw_62 : (Cond.lays "CellHandover$Text" "CellHandover$Text" "start" "I") ∈ ch_GL := ch_c1 62 rfl rfl
theorem kw_63 : (Cond.soleField "CellHandover$Text" "start") ∈ ch_GL := ch_c1 63 rfl rfl
theorem kw_64 : (Cond.lays "CellHandover$Text" "CellHandover$Text" "next" "I") ∈ ch_GL := ch_c1 64 rfl rfl
theorem kw_65 : (Cond.soleField "CellHandover$Text" "next") ∈ ch_GL := ch_c1 65 rfl rfl
theorem kw_66 : (Cond.lays "CellHandover$Text" "CellHandover$Text" "kind" "I") ∈ ch_GL := ch_c1 66 rfl rfl
theorem kw_67 : (Cond.soleField "CellHandover$Text" "kind") ∈ ch_GL := ch_c1 67 rfl rfl
theorem kw_68 : (Cond.superclass "CellHandover$Text" "java/lang/Object") ∈ ch_GL := ch_c1 68 rfl rfl
theorem kw_69 : (Cond.arrayClass FieldType.int) ∈ ch_GL := ch_c1 69 rfl rfl
theorem kw_70 : (Cond.classLink "CellHandover" (16 : Nat) "CellHandover$Network") ∈ ch_GL := ch_c1 70 rfl rfl
theorem kw_71 : (Cond.instantiable "CellHandover$Network" (17 : Nat)) ∈ ch_GL := ch_c1 71 rfl rfl
theorem kw_72 : (Cond.methodLink "CellHandover" (18 : Nat) ({ cls := "CellHandover$Network", name := "<init>", desc := "()V" } : MethodName)) ∈ ch_GL := ch_c1 72 rfl rfl
theorem kw_73 : (Cond.instanceMethod ({ cls := "CellHandover$Network", name := "<init>", desc := "()V" } : MethodName)) ∈ ch_GL := ch_c1 73 rfl rfl
theorem kw_74 : (Cond.code ({ cls := "CellHandover$Network", name := "<init>", desc := "()V" } : MethodName) prog_5_method_1_code (2 : Nat) (Option.none : Option FieldType)) ∈ ch_GL := ch_c1 74 rfl rfl
theorem kw_75 : (Cond.methodLink "CellHandover$Network" (3 : Nat) ({ cls := "java/lang/Object", name := "<init>", desc := "()V" } : MethodName)) ∈ ch_GL := ch_c1 75 rfl rfl
theorem kw_76 : (Cond.classLink "CellHandover$Network" (9 : Nat) "CellHandover$Cell") ∈ ch_GL := ch_c1 76 rfl rfl
theorem kb_77 : (Cond.arrayOver (FieldType.object "CellHandover$Cell")) ∈ lw_tbl := ch_b1 77 rfl
theorem kw_78 : (Cond.classLink "CellHandover$Network" (17 : Nat) "CellHandover$Relation") ∈ ch_GL := ch_c1 78 rfl rfl
theorem kb_79 : (Cond.arrayOver (FieldType.object "CellHandover$Relation")) ∈ lw_tbl := ch_b1 79 rfl
theorem kw_80 : (Cond.classLink "CellHandover$Network" (23 : Nat) "CellHandover$Mobile") ∈ ch_GL := ch_c1 80 rfl rfl
theorem kb_81 : (Cond.arrayOver (FieldType.object "CellHandover$Mobile")) ∈ lw_tbl := ch_b1 81 rfl
theorem kw_82 : (Cond.instantiable "CellHandover$Cell" (9 : Nat)) ∈ ch_GL := ch_c1 82 rfl rfl
theorem kb_83 : (Cond.methodLinkNest "CellHandover$Network" (33 : Nat) ({ cls := "CellHandover$Cell", name := "<init>", desc := "()V" } : MethodName) "CellHandover") ∈ lw_tbl := ch_b1 83 rfl
theorem kw_84 : (Cond.instanceMethod ({ cls := "CellHandover$Cell", name := "<init>", desc := "()V" } : MethodName)) ∈ ch_GL := ch_c1 84 rfl rfl
theorem kw_85 : (Cond.code ({ cls := "CellHandover$Cell", name := "<init>", desc := "()V" } : MethodName) prog_2_method_1_code (1 : Nat) (Option.none : Option FieldType)) ∈ ch_GL := ch_c1 85 rfl rfl
theorem kw_86 : (Cond.methodLink "CellHandover$Cell" (1 : Nat) ({ cls := "java/lang/Object", name := "<init>", desc := "()V" } : MethodName)) ∈ ch_GL := ch_c1 86 rfl rfl
theorem kw_87 : (Cond.fieldLink "CellHandover$Cell" (7 : Nat) "CellHandover$Cell" "x" "I") ∈ ch_GL := ch_c1 87 rfl rfl
theorem kw_88 : (Cond.fieldLink "CellHandover$NetworkReader" (77 : Nat) "CellHandover$Cell" "x" "I") ∈ ch_GL := ch_c1 88 rfl rfl
theorem kw_89 : (Cond.fieldLink "CellHandover$Cell" (19 : Nat) "CellHandover$Cell" "y" "I") ∈ ch_GL := ch_c1 89 rfl rfl
theorem kw_90 : (Cond.fieldLink "CellHandover$NetworkReader" (82 : Nat) "CellHandover$Cell" "y" "I") ∈ ch_GL := ch_c1 90 rfl rfl
theorem kw_91 : (Cond.fieldLink "CellHandover$Cell" (22 : Nat) "CellHandover$Cell" "power" "I") ∈ ch_GL := ch_c1 91 rfl rfl
theorem kw_92 : (Cond.fieldLink "CellHandover$NetworkReader" (85 : Nat) "CellHandover$Cell" "power" "I") ∈ ch_GL := ch_c1 92 rfl rfl
theorem kw_93 : (Cond.fieldLink "CellHandover$Cell" (25 : Nat) "CellHandover$Cell" "slope" "I") ∈ ch_GL := ch_c1 93 rfl rfl
theorem kw_94 : (Cond.fieldLink "CellHandover$NetworkReader" (88 : Nat) "CellHandover$Cell" "slope" "I") ∈ ch_GL := ch_c1 94 rfl rfl
theorem kw_95 : (Cond.fieldLink "CellHandover$Cell" (32 : Nat) "CellHandover$Cell" "channels" "I") ∈ ch_GL := ch_c1 95 rfl rfl
theorem kw_96 : (Cond.fieldLink "CellHandover$NetworkReader" (91 : Nat) "CellHandover$Cell" "channels" "I") ∈ ch_GL := ch_c1 96 rfl rfl
theorem kw_97 : (Cond.fieldLink "CellHandover$Network" (141 : Nat) "CellHandover$Cell" "channels" "I") ∈ ch_GL := ch_c1 97 rfl rfl
theorem kw_98 : (Cond.fieldLink "CellHandover$Cell" (35 : Nat) "CellHandover$Cell" "capacity" "I") ∈ ch_GL := ch_c1 98 rfl rfl
theorem kw_99 : (Cond.fieldLink "CellHandover$NetworkReader" (94 : Nat) "CellHandover$Cell" "capacity" "I") ∈ ch_GL := ch_c1 99 rfl rfl
theorem kw_100 : (Cond.fieldLink "CellHandover$Network" (150 : Nat) "CellHandover$Cell" "capacity" "I") ∈ ch_GL := ch_c1 100 rfl rfl
theorem kw_101 : (Cond.fieldLink "CellHandover$Cell" (38 : Nat) "CellHandover$Cell" "accessLevel" "I") ∈ ch_GL := ch_c1 101 rfl rfl
theorem kw_102 : (Cond.fieldLink "CellHandover$Ranking" (79 : Nat) "CellHandover$Cell" "accessLevel" "I") ∈ ch_GL := ch_c1 102 rfl rfl
theorem kw_103 : (Cond.fieldLink "CellHandover$NetworkReader" (97 : Nat) "CellHandover$Cell" "accessLevel" "I") ∈ ch_GL := ch_c1 103 rfl rfl
theorem kw_104 : (Cond.fieldLink "CellHandover$Network" (128 : Nat) "CellHandover$Cell" "accessLevel" "I") ∈ ch_GL := ch_c1 104 rfl rfl
theorem kw_105 : (Cond.fieldLink "CellHandover$Ranking" (41 : Nat) "CellHandover$Cell" "lowLevel" "I") ∈ ch_GL := ch_c1 105 rfl rfl
theorem kw_106 : (Cond.fieldLink "CellHandover$Cell" (41 : Nat) "CellHandover$Cell" "lowLevel" "I") ∈ ch_GL := ch_c1 106 rfl rfl
theorem kw_107 : (Cond.fieldLink "CellHandover$NetworkReader" (100 : Nat) "CellHandover$Cell" "lowLevel" "I") ∈ ch_GL := ch_c1 107 rfl rfl
theorem kw_108 : (Cond.fieldLink "CellHandover$Cell" (44 : Nat) "CellHandover$Cell" "congestedTicks" "I") ∈ ch_GL := ch_c1 108 rfl rfl
theorem kw_109 : (Cond.fieldLink "CellHandover$NetworkReader" (103 : Nat) "CellHandover$Cell" "congestedTicks" "I") ∈ ch_GL := ch_c1 109 rfl rfl
theorem kw_110 : (Cond.fieldLink "CellHandover$Simulator" (189 : Nat) "CellHandover$Cell" "congestedTicks" "I") ∈ ch_GL := ch_c1 110 rfl rfl
theorem kw_111 : (Cond.fieldLink "CellHandover" (231 : Nat) "CellHandover$Cell" "congestedTicks" "I") ∈ ch_GL := ch_c1 111 rfl rfl
theorem kw_112 : (Cond.lays "CellHandover$Cell" "CellHandover$Cell" "x" "I") ∈ ch_GL := ch_c1 112 rfl rfl
theorem kw_113 : (Cond.soleField "CellHandover$Cell" "x") ∈ ch_GL := ch_c1 113 rfl rfl
theorem kw_114 : (Cond.lays "CellHandover$Cell" "CellHandover$Cell" "y" "I") ∈ ch_GL := ch_c1 114 rfl rfl
theorem kw_115 : (Cond.soleField "CellHandover$Cell" "y") ∈ ch_GL := ch_c1 115 rfl rfl
theorem kw_116 : (Cond.lays "CellHandover$Cell" "CellHandover$Cell" "power" "I") ∈ ch_GL := ch_c1 116 rfl rfl
theorem kw_117 : (Cond.soleField "CellHandover$Cell" "power") ∈ ch_GL := ch_c1 117 rfl rfl
theorem kw_118 : (Cond.lays "CellHandover$Cell" "CellHandover$Cell" "slope" "I") ∈ ch_GL := ch_c1 118 rfl rfl
theorem kw_119 : (Cond.soleField "CellHandover$Cell" "slope") ∈ ch_GL := ch_c1 119 rfl rfl
theorem kw_120 : (Cond.lays "CellHandover$Cell" "CellHandover$Cell" "channels" "I") ∈ ch_GL := ch_c1 120 rfl rfl
theorem kw_121 : (Cond.soleField "CellHandover$Cell" "channels") ∈ ch_GL := ch_c1 121 rfl rfl
theorem kw_122 : (Cond.lays "CellHandover$Cell" "CellHandover$Cell" "capacity" "I") ∈ ch_GL := ch_c1 122 rfl rfl
theorem kw_123 : (Cond.soleField "CellHandover$Cell" "capacity") ∈ ch_GL := ch_c1 123 rfl rfl
theorem kw_124 : (Cond.lays "CellHandover$Cell" "CellHandover$Cell" "accessLevel" "I") ∈ ch_GL := ch_c1 124 rfl rfl
theorem kw_125 : (Cond.soleField "CellHandover$Cell" "accessLevel") ∈ ch_GL := ch_c1 125 rfl rfl
theorem kw_126 : (Cond.lays "CellHandover$Cell" "CellHandover$Cell" "lowLevel" "I") ∈ ch_GL := ch_c1 126 rfl rfl
theorem kw_127 : (Cond.soleField "CellHandover$Cell" "lowLevel") ∈ ch_GL := ch_c1 127 rfl rfl
theorem kw_128 : (Cond.lays "CellHandover$Cell" "CellHandover$Cell" "congestedTicks" "I") ∈ ch_GL := ch_c1 128 rfl rfl
theorem kw_129 : (Cond.soleField "CellHandover$Cell" "congestedTicks") ∈ ch_GL := ch_c1 129 rfl rfl
theorem kw_130 : (Cond.superclass "CellHandover$Cell" "java/lang/Object") ∈ ch_GL := ch_c1 130 rfl rfl
theorem kw_131 : (Cond.instantiable "CellHandover$Relation" (4 : Nat)) ∈ ch_GL := ch_c1 131 rfl rfl
theorem kb_132 : (Cond.methodLinkNest "CellHandover$Network" (38 : Nat) ({ cls := "CellHandover$Relation", name := "<init>", desc := "()V" } : MethodName) "CellHandover") ∈ lw_tbl := ch_b1 132 rfl
theorem kw_133 : (Cond.instanceMethod ({ cls := "CellHandover$Relation", name := "<init>", desc := "()V" } : MethodName)) ∈ ch_GL := ch_c1 133 rfl rfl
theorem kw_134 : (Cond.code ({ cls := "CellHandover$Relation", name := "<init>", desc := "()V" } : MethodName) prog_9_method_1_code (1 : Nat) (Option.none : Option FieldType)) ∈ ch_GL := ch_c1 134 rfl rfl
theorem kw_135 : (Cond.methodLink "CellHandover$Relation" (1 : Nat) ({ cls := "java/lang/Object", name := "<init>", desc := "()V" } : MethodName)) ∈ ch_GL := ch_c1 135 rfl rfl
theorem kw_136 : (Cond.fieldLink "CellHandover$Relation" (7 : Nat) "CellHandover$Relation" "exists" "Z") ∈ ch_GL := ch_c1 136 rfl rfl
theorem kw_137 : (Cond.fieldLink "CellHandover$Ranking" (61 : Nat) "CellHandover$Relation" "exists" "Z") ∈ ch_GL := ch_c1 137 rfl rfl
theorem kw_138 : (Cond.fieldLink "CellHandover$Survey" (39 : Nat) "CellHandover$Relation" "exists" "Z") ∈ ch_GL := ch_c1 138 rfl rfl
theorem kw_139 : (Cond.fieldLink "CellHandover$NetworkReader" (116 : Nat) "CellHandover$Relation" "exists" "Z") ∈ ch_GL := ch_c1 139 rfl rfl
theorem kw_140 : (Cond.fieldLink "CellHandover$Simulator" (103 : Nat) "CellHandover$Relation" "exists" "Z") ∈ ch_GL := ch_c1 140 rfl rfl
theorem kw_141 : (Cond.fieldLink "CellHandover" (112 : Nat) "CellHandover$Relation" "exists" "Z") ∈ ch_GL := ch_c1 141 rfl rfl
theorem kw_142 : (Cond.fieldLink "CellHandover$Network" (194 : Nat) "CellHandover$Relation" "exists" "Z") ∈ ch_GL := ch_c1 142 rfl rfl
theorem kw_143 : (Cond.fieldLink "CellHandover$Relation" (13 : Nat) "CellHandover$Relation" "hysteresis" "I") ∈ ch_GL := ch_c1 143 rfl rfl
theorem kw_144 : (Cond.fieldLink "CellHandover$Ranking" (82 : Nat) "CellHandover$Relation" "hysteresis" "I") ∈ ch_GL := ch_c1 144 rfl rfl
theorem kw_145 : (Cond.fieldLink "CellHandover$NetworkReader" (122 : Nat) "CellHandover$Relation" "hysteresis" "I") ∈ ch_GL := ch_c1 145 rfl rfl
theorem kw_146 : (Cond.fieldLink "CellHandover" (117 : Nat) "CellHandover$Relation" "hysteresis" "I") ∈ ch_GL := ch_c1 146 rfl rfl
theorem kw_147 : (Cond.fieldLink "CellHandover$Relation" (17 : Nat) "CellHandover$Relation" "successes" "I") ∈ ch_GL := ch_c1 147 rfl rfl
theorem kw_148 : (Cond.fieldLink "CellHandover$Network" (207 : Nat) "CellHandover$Relation" "successes" "I") ∈ ch_GL := ch_c1 148 rfl rfl
theorem kw_149 : (Cond.fieldLink "CellHandover" (225 : Nat) "CellHandover$Relation" "successes" "I") ∈ ch_GL := ch_c1 149 rfl rfl
theorem kw_150 : (Cond.fieldLink "CellHandover$Relation" (20 : Nat) "CellHandover$Relation" "refusals" "I") ∈ ch_GL := ch_c1 150 rfl rfl
theorem kw_151 : (Cond.fieldLink "CellHandover$Simulator" (176 : Nat) "CellHandover$Relation" "refusals" "I") ∈ ch_GL := ch_c1 151 rfl rfl
theorem kw_152 : (Cond.fieldLink "CellHandover" (228 : Nat) "CellHandover$Relation" "refusals" "I") ∈ ch_GL := ch_c1 152 rfl rfl
theorem kw_153 : (Cond.lays "CellHandover$Relation" "CellHandover$Relation" "exists" "Z") ∈ ch_GL := ch_c1 153 rfl rfl
theorem kw_154 : (Cond.soleField "CellHandover$Relation" "exists") ∈ ch_GL := ch_c1 154 rfl rfl
theorem kw_155 : (Cond.lays "CellHandover$Relation" "CellHandover$Relation" "hysteresis" "I") ∈ ch_GL := ch_c1 155 rfl rfl
theorem kw_156 : (Cond.soleField "CellHandover$Relation" "hysteresis") ∈ ch_GL := ch_c1 156 rfl rfl
theorem kw_157 : (Cond.lays "CellHandover$Relation" "CellHandover$Relation" "successes" "I") ∈ ch_GL := ch_c1 157 rfl rfl
theorem kw_158 : (Cond.soleField "CellHandover$Relation" "successes") ∈ ch_GL := ch_c1 158 rfl rfl
theorem kw_159 : (Cond.lays "CellHandover$Relation" "CellHandover$Relation" "refusals" "I") ∈ ch_GL := ch_c1 159 rfl rfl
theorem kw_160 : (Cond.soleField "CellHandover$Relation" "refusals") ∈ ch_GL := ch_c1 160 rfl rfl
theorem kw_161 : (Cond.superclass "CellHandover$Relation" "java/lang/Object") ∈ ch_GL := ch_c1 161 rfl rfl
theorem kw_162 : (Cond.instantiable "CellHandover$Mobile" (13 : Nat)) ∈ ch_GL := ch_c1 162 rfl rfl
theorem kw_163 : (Cond.methodLink "CellHandover$Network" (43 : Nat) ({ cls := "CellHandover$Mobile", name := "<init>", desc := "()V" } : MethodName)) ∈ ch_GL := ch_c1 163 rfl rfl
theorem kw_164 : (Cond.instanceMethod ({ cls := "CellHandover$Mobile", name := "<init>", desc := "()V" } : MethodName)) ∈ ch_GL := ch_c1 164 rfl rfl
theorem kw_165 : (Cond.code ({ cls := "CellHandover$Mobile", name := "<init>", desc := "()V" } : MethodName) prog_4_method_1_code (1 : Nat) (Option.none : Option FieldType)) ∈ ch_GL := ch_c1 165 rfl rfl
theorem kw_166 : (Cond.methodLink "CellHandover$Mobile" (3 : Nat) ({ cls := "java/lang/Object", name := "<init>", desc := "()V" } : MethodName)) ∈ ch_GL := ch_c1 166 rfl rfl
theorem kw_167 : (Cond.fieldLink "CellHandover$Mobile" (28 : Nat) "CellHandover$Mobile" "x" "I") ∈ ch_GL := ch_c1 167 rfl rfl
theorem kw_168 : (Cond.fieldLink "CellHandover$Simulator" (64 : Nat) "CellHandover$Mobile" "x" "I") ∈ ch_GL := ch_c1 168 rfl rfl
theorem kw_169 : (Cond.fieldLink "CellHandover$QueryReader" (122 : Nat) "CellHandover$Mobile" "x" "I") ∈ ch_GL := ch_c1 169 rfl rfl
theorem kw_170 : (Cond.fieldLink "CellHandover" (165 : Nat) "CellHandover$Mobile" "x" "I") ∈ ch_GL := ch_c1 170 rfl rfl
theorem kw_171 : (Cond.fieldLink "CellHandover$Network" (167 : Nat) "CellHandover$Mobile" "x" "I") ∈ ch_GL := ch_c1 171 rfl rfl
theorem kw_172 : (Cond.fieldLink "CellHandover$Mobile" (31 : Nat) "CellHandover$Mobile" "y" "I") ∈ ch_GL := ch_c1 172 rfl rfl
theorem kw_173 : (Cond.fieldLink "CellHandover$Simulator" (81 : Nat) "CellHandover$Mobile" "y" "I") ∈ ch_GL := ch_c1 173 rfl rfl
theorem kw_174 : (Cond.fieldLink "CellHandover$QueryReader" (126 : Nat) "CellHandover$Mobile" "y" "I") ∈ ch_GL := ch_c1 174 rfl rfl
theorem kw_175 : (Cond.fieldLink "CellHandover" (168 : Nat) "CellHandover$Mobile" "y" "I") ∈ ch_GL := ch_c1 175 rfl rfl
theorem kw_176 : (Cond.fieldLink "CellHandover$Network" (170 : Nat) "CellHandover$Mobile" "y" "I") ∈ ch_GL := ch_c1 176 rfl rfl
theorem kw_177 : (Cond.fieldLink "CellHandover$Mobile" (34 : Nat) "CellHandover$Mobile" "vx" "I") ∈ ch_GL := ch_c1 177 rfl rfl
theorem kw_178 : (Cond.fieldLink "CellHandover$Simulator" (69 : Nat) "CellHandover$Mobile" "vx" "I") ∈ ch_GL := ch_c1 178 rfl rfl
theorem kw_179 : (Cond.fieldLink "CellHandover" (156 : Nat) "CellHandover$Mobile" "vx" "I") ∈ ch_GL := ch_c1 179 rfl rfl
theorem kw_180 : (Cond.fieldLink "CellHandover$Mobile" (37 : Nat) "CellHandover$Mobile" "vy" "I") ∈ ch_GL := ch_c1 180 rfl rfl
theorem kw_181 : (Cond.fieldLink "CellHandover$Simulator" (84 : Nat) "CellHandover$Mobile" "vy" "I") ∈ ch_GL := ch_c1 181 rfl rfl
theorem kw_182 : (Cond.fieldLink "CellHandover" (159 : Nat) "CellHandover$Mobile" "vy" "I") ∈ ch_GL := ch_c1 182 rfl rfl
theorem kw_183 : (Cond.fieldLink "CellHandover$Mobile" (43 : Nat) "CellHandover$Mobile" "state" "I") ∈ ch_GL := ch_c1 183 rfl rfl
theorem kw_184 : (Cond.fieldLink "CellHandover$Simulator" (87 : Nat) "CellHandover$Mobile" "state" "I") ∈ ch_GL := ch_c1 184 rfl rfl
theorem kw_185 : (Cond.fieldLink "CellHandover$QueryReader" (128 : Nat) "CellHandover$Mobile" "state" "I") ∈ ch_GL := ch_c1 185 rfl rfl
theorem kw_186 : (Cond.fieldLink "CellHandover$Network" (131 : Nat) "CellHandover$Mobile" "state" "I") ∈ ch_GL := ch_c1 186 rfl rfl
theorem kw_187 : (Cond.fieldLink "CellHandover" (162 : Nat) "CellHandover$Mobile" "state" "I") ∈ ch_GL := ch_c1 187 rfl rfl
theorem kw_188 : (Cond.fieldLink "CellHandover$Mobile" (21 : Nat) "CellHandover$Mobile" "serving" "I") ∈ ch_GL := ch_c1 188 rfl rfl
theorem kw_189 : (Cond.fieldLink "CellHandover$Ranking" (26 : Nat) "CellHandover$Mobile" "serving" "I") ∈ ch_GL := ch_c1 189 rfl rfl
theorem kw_190 : (Cond.fieldLink "CellHandover$Simulator" (96 : Nat) "CellHandover$Mobile" "serving" "I") ∈ ch_GL := ch_c1 190 rfl rfl
theorem kw_191 : (Cond.fieldLink "CellHandover$QueryReader" (130 : Nat) "CellHandover$Mobile" "serving" "I") ∈ ch_GL := ch_c1 191 rfl rfl
theorem kw_192 : (Cond.fieldLink "CellHandover$Network" (134 : Nat) "CellHandover$Mobile" "serving" "I") ∈ ch_GL := ch_c1 192 rfl rfl
theorem kw_193 : (Cond.fieldLink "CellHandover" (190 : Nat) "CellHandover$Mobile" "serving" "I") ∈ ch_GL := ch_c1 193 rfl rfl
theorem kw_194 : (Cond.fieldLink "CellHandover$Mobile" (46 : Nat) "CellHandover$Mobile" "remaining" "I") ∈ ch_GL := ch_c1 194 rfl rfl
theorem kw_195 : (Cond.fieldLink "CellHandover$Simulator" (129 : Nat) "CellHandover$Mobile" "remaining" "I") ∈ ch_GL := ch_c1 195 rfl rfl
theorem kw_196 : (Cond.fieldLink "CellHandover$QueryReader" (133 : Nat) "CellHandover$Mobile" "remaining" "I") ∈ ch_GL := ch_c1 196 rfl rfl
theorem kw_197 : (Cond.fieldLink "CellHandover$Network" (181 : Nat) "CellHandover$Mobile" "remaining" "I") ∈ ch_GL := ch_c1 197 rfl rfl
theorem kw_198 : (Cond.fieldLink "CellHandover" (193 : Nat) "CellHandover$Mobile" "remaining" "I") ∈ ch_GL := ch_c1 198 rfl rfl
theorem kw_199 : (Cond.fieldLink "CellHandover$Mobile" (49 : Nat) "CellHandover$Mobile" "badTicks" "I") ∈ ch_GL := ch_c1 199 rfl rfl
theorem kw_200 : (Cond.fieldLink "CellHandover$Simulator" (144 : Nat) "CellHandover$Mobile" "badTicks" "I") ∈ ch_GL := ch_c1 200 rfl rfl
theorem kw_201 : (Cond.fieldLink "CellHandover$Network" (204 : Nat) "CellHandover$Mobile" "badTicks" "I") ∈ ch_GL := ch_c1 201 rfl rfl
theorem kw_202 : (Cond.fieldLink "CellHandover$Mobile" (25 : Nat) "CellHandover$Mobile" "requestCell" "I") ∈ ch_GL := ch_c1 202 rfl rfl
theorem kw_203 : (Cond.fieldLink "CellHandover$QueryReader" (139 : Nat) "CellHandover$Mobile" "requestCell" "I") ∈ ch_GL := ch_c1 203 rfl rfl
theorem kw_204 : (Cond.fieldLink "CellHandover$Simulator" (168 : Nat) "CellHandover$Mobile" "requestCell" "I") ∈ ch_GL := ch_c1 204 rfl rfl
theorem kw_205 : (Cond.fieldLink "CellHandover$Network" (144 : Nat) "CellHandover$Mobile" "requestCell" "I") ∈ ch_GL := ch_c1 205 rfl rfl
theorem kw_206 : (Cond.fieldLink "CellHandover" (196 : Nat) "CellHandover$Mobile" "requestCell" "I") ∈ ch_GL := ch_c1 206 rfl rfl
theorem kw_207 : (Cond.fieldLink "CellHandover$Mobile" (52 : Nat) "CellHandover$Mobile" "requestTick" "I") ∈ ch_GL := ch_c1 207 rfl rfl
theorem kw_208 : (Cond.fieldLink "CellHandover$Simulator" (192 : Nat) "CellHandover$Mobile" "requestTick" "I") ∈ ch_GL := ch_c1 208 rfl rfl
theorem kw_209 : (Cond.fieldLink "CellHandover$Network" (160 : Nat) "CellHandover$Mobile" "requestTick" "I") ∈ ch_GL := ch_c1 209 rfl rfl
theorem kw_210 : (Cond.fieldLink "CellHandover$Mobile" (9 : Nat) "CellHandover$Mobile" "levels" "[I") ∈ ch_GL := ch_c1 210 rfl rfl
theorem kw_211 : (Cond.fieldLink "CellHandover$Mobile" (15 : Nat) "CellHandover$Mobile" "reportCounts" "[I") ∈ ch_GL := ch_c1 211 rfl rfl
theorem kw_212 : (Cond.fieldLink "CellHandover$Mobile" (18 : Nat) "CellHandover$Mobile" "barredUntil" "[I") ∈ ch_GL := ch_c1 212 rfl rfl
theorem kw_213 : (Cond.lays "CellHandover$Mobile" "CellHandover$Mobile" "x" "I") ∈ ch_GL := ch_c1 213 rfl rfl
theorem kw_214 : (Cond.soleField "CellHandover$Mobile" "x") ∈ ch_GL := ch_c1 214 rfl rfl
theorem kw_215 : (Cond.lays "CellHandover$Mobile" "CellHandover$Mobile" "y" "I") ∈ ch_GL := ch_c1 215 rfl rfl
theorem kw_216 : (Cond.soleField "CellHandover$Mobile" "y") ∈ ch_GL := ch_c1 216 rfl rfl
theorem kw_217 : (Cond.lays "CellHandover$Mobile" "CellHandover$Mobile" "vx" "I") ∈ ch_GL := ch_c1 217 rfl rfl
theorem kw_218 : (Cond.soleField "CellHandover$Mobile" "vx") ∈ ch_GL := ch_c1 218 rfl rfl
theorem kw_219 : (Cond.lays "CellHandover$Mobile" "CellHandover$Mobile" "vy" "I") ∈ ch_GL := ch_c1 219 rfl rfl
theorem kw_220 : (Cond.soleField "CellHandover$Mobile" "vy") ∈ ch_GL := ch_c1 220 rfl rfl
theorem kw_221 : (Cond.lays "CellHandover$Mobile" "CellHandover$Mobile" "state" "I") ∈ ch_GL := ch_c1 221 rfl rfl
theorem kw_222 : (Cond.soleField "CellHandover$Mobile" "state") ∈ ch_GL := ch_c1 222 rfl rfl
theorem kw_223 : (Cond.lays "CellHandover$Mobile" "CellHandover$Mobile" "serving" "I") ∈ ch_GL := ch_c1 223 rfl rfl
theorem kw_224 : (Cond.soleField "CellHandover$Mobile" "serving") ∈ ch_GL := ch_c1 224 rfl rfl
theorem kw_225 : (Cond.lays "CellHandover$Mobile" "CellHandover$Mobile" "remaining" "I") ∈ ch_GL := ch_c1 225 rfl rfl
theorem kw_226 : (Cond.soleField "CellHandover$Mobile" "remaining") ∈ ch_GL := ch_c1 226 rfl rfl
theorem kw_227 : (Cond.lays "CellHandover$Mobile" "CellHandover$Mobile" "badTicks" "I") ∈ ch_GL := ch_c1 227 rfl rfl
theorem kw_228 : (Cond.soleField "CellHandover$Mobile" "badTicks") ∈ ch_GL := ch_c1 228 rfl rfl
theorem kw_229 : (Cond.lays "CellHandover$Mobile" "CellHandover$Mobile" "requestCell" "I") ∈ ch_GL := ch_c1 229 rfl rfl
theorem kw_230 : (Cond.soleField "CellHandover$Mobile" "requestCell") ∈ ch_GL := ch_c1 230 rfl rfl
theorem kw_231 : (Cond.lays "CellHandover$Mobile" "CellHandover$Mobile" "requestTick" "I") ∈ ch_GL := ch_c1 231 rfl rfl
theorem kw_232 : (Cond.soleField "CellHandover$Mobile" "requestTick") ∈ ch_GL := ch_c1 232 rfl rfl
theorem kw_233 : (Cond.laysFinal "CellHandover$Mobile" "CellHandover$Mobile" "levels" "[I") ∈ ch_GL := ch_c1 233 rfl rfl
theorem kw_234 : (Cond.soleField "CellHandover$Mobile" "levels") ∈ ch_GL := ch_c1 234 rfl rfl
theorem kw_235 : (Cond.laysFinal "CellHandover$Mobile" "CellHandover$Mobile" "reportCounts" "[I") ∈ ch_GL := ch_c1 235 rfl rfl
theorem kw_236 : (Cond.soleField "CellHandover$Mobile" "reportCounts") ∈ ch_GL := ch_c1 236 rfl rfl
theorem kw_237 : (Cond.laysFinal "CellHandover$Mobile" "CellHandover$Mobile" "barredUntil" "[I") ∈ ch_GL := ch_c1 237 rfl rfl
theorem kw_238 : (Cond.soleField "CellHandover$Mobile" "barredUntil") ∈ ch_GL := ch_c1 238 rfl rfl
theorem kw_239 : (Cond.superclass "CellHandover$Mobile" "java/lang/Object") ∈ ch_GL := ch_c1 239 rfl rfl
theorem kw_240 : (Cond.methodLink "CellHandover$Network" (48 : Nat) ({ cls := "CellHandover$Network", name := "setDefaults", desc := "()V" } : MethodName)) ∈ ch_GL := ch_c2 0 rfl rfl
theorem kb_241 : (Cond.privateMethod ({ cls := "CellHandover$Network", name := "setDefaults", desc := "()V" } : MethodName)) ∈ lw_tbl := ch_b2 1 rfl
theorem kw_242 : (Cond.instanceMethod ({ cls := "CellHandover$Network", name := "setDefaults", desc := "()V" } : MethodName)) ∈ ch_GL := ch_c2 2 rfl rfl
theorem kw_243 : (Cond.code ({ cls := "CellHandover$Network", name := "setDefaults", desc := "()V" } : MethodName) prog_5_method_2_code (1 : Nat) (Option.none : Option FieldType)) ∈ ch_GL := ch_c2 3 rfl rfl
theorem kw_244 : (Cond.fieldLink "CellHandover$Ranking" (46 : Nat) "CellHandover$Network" "cellCount" "I") ∈ ch_GL := ch_c2 4 rfl rfl
theorem kw_245 : (Cond.fieldLink "CellHandover$Survey" (31 : Nat) "CellHandover$Network" "cellCount" "I") ∈ ch_GL := ch_c2 5 rfl rfl
theorem kw_246 : (Cond.fieldLink "CellHandover" (90 : Nat) "CellHandover$Network" "cellCount" "I") ∈ ch_GL := ch_c2 6 rfl rfl
theorem kw_247 : (Cond.fieldLink "CellHandover$NetworkReader" (62 : Nat) "CellHandover$Network" "cellCount" "I") ∈ ch_GL := ch_c2 7 rfl rfl
theorem kw_248 : (Cond.fieldLink "CellHandover$Simulator" (93 : Nat) "CellHandover$Network" "cellCount" "I") ∈ ch_GL := ch_c2 8 rfl rfl
theorem kw_249 : (Cond.fieldLink "CellHandover$Network" (70 : Nat) "CellHandover$Network" "cellCount" "I") ∈ ch_GL := ch_c2 9 rfl rfl
theorem kw_250 : (Cond.fieldLink "CellHandover$NetworkReader" (106 : Nat) "CellHandover$Network" "relationCount" "I") ∈ ch_GL := ch_c2 10 rfl rfl
theorem kw_251 : (Cond.fieldLink "CellHandover" (96 : Nat) "CellHandover$Network" "relationCount" "I") ∈ ch_GL := ch_c2 11 rfl rfl
theorem kw_252 : (Cond.fieldLink "CellHandover$Network" (73 : Nat) "CellHandover$Network" "relationCount" "I") ∈ ch_GL := ch_c2 12 rfl rfl
theorem kw_253 : (Cond.fieldLink "CellHandover$Simulator" (61 : Nat) "CellHandover$Network" "mobileCount" "I") ∈ ch_GL := ch_c2 13 rfl rfl
theorem kw_254 : (Cond.fieldLink "CellHandover$QueryReader" (85 : Nat) "CellHandover$Network" "mobileCount" "I") ∈ ch_GL := ch_c2 14 rfl rfl
theorem kw_255 : (Cond.fieldLink "CellHandover" (99 : Nat) "CellHandover$Network" "mobileCount" "I") ∈ ch_GL := ch_c2 15 rfl rfl
theorem kw_256 : (Cond.fieldLink "CellHandover$Network" (76 : Nat) "CellHandover$Network" "mobileCount" "I") ∈ ch_GL := ch_c2 16 rfl rfl
theorem kw_257 : (Cond.fieldLink "CellHandover$Simulator" (43 : Nat) "CellHandover$Network" "clock" "I") ∈ ch_GL := ch_c2 17 rfl rfl
theorem kw_258 : (Cond.fieldLink "CellHandover$Ranking" (72 : Nat) "CellHandover$Network" "clock" "I") ∈ ch_GL := ch_c2 18 rfl rfl
theorem kw_259 : (Cond.fieldLink "CellHandover" (102 : Nat) "CellHandover$Network" "clock" "I") ∈ ch_GL := ch_c2 19 rfl rfl
theorem kw_260 : (Cond.fieldLink "CellHandover$Network" (79 : Nat) "CellHandover$Network" "clock" "I") ∈ ch_GL := ch_c2 20 rfl rfl
theorem kw_261 : (Cond.fieldLink "CellHandover$Network" (51 : Nat) "CellHandover$Network" "window" "I") ∈ ch_GL := ch_c2 21 rfl rfl
theorem kw_262 : (Cond.fieldLink "CellHandover$NetworkReader" (125 : Nat) "CellHandover$Network" "window" "I") ∈ ch_GL := ch_c2 22 rfl rfl
theorem kw_263 : (Cond.fieldLink "CellHandover$Simulator" (118 : Nat) "CellHandover$Network" "window" "I") ∈ ch_GL := ch_c2 23 rfl rfl
theorem kw_264 : (Cond.fieldLink "CellHandover$Network" (55 : Nat) "CellHandover$Network" "minReports" "I") ∈ ch_GL := ch_c2 24 rfl rfl
theorem kw_265 : (Cond.fieldLink "CellHandover$Ranking" (69 : Nat) "CellHandover$Network" "minReports" "I") ∈ ch_GL := ch_c2 25 rfl rfl
theorem kw_266 : (Cond.fieldLink "CellHandover$NetworkReader" (128 : Nat) "CellHandover$Network" "minReports" "I") ∈ ch_GL := ch_c2 26 rfl rfl
theorem kw_267 : (Cond.fieldLink "CellHandover$Network" (58 : Nat) "CellHandover$Network" "pingPongTime" "I") ∈ ch_GL := ch_c2 27 rfl rfl
theorem kw_268 : (Cond.fieldLink "CellHandover$NetworkReader" (131 : Nat) "CellHandover$Network" "pingPongTime" "I") ∈ ch_GL := ch_c2 28 rfl rfl
theorem kw_269 : (Cond.fieldLink "CellHandover$Network" (61 : Nat) "CellHandover$Network" "queueTime" "I") ∈ ch_GL := ch_c2 29 rfl rfl
theorem kw_270 : (Cond.fieldLink "CellHandover$NetworkReader" (134 : Nat) "CellHandover$Network" "queueTime" "I") ∈ ch_GL := ch_c2 30 rfl rfl
theorem kw_271 : (Cond.fieldLink "CellHandover$Simulator" (195 : Nat) "CellHandover$Network" "queueTime" "I") ∈ ch_GL := ch_c2 31 rfl rfl
theorem kw_272 : (Cond.fieldLink "CellHandover$Network" (64 : Nat) "CellHandover$Network" "dropLevel" "I") ∈ ch_GL := ch_c2 32 rfl rfl
theorem kw_273 : (Cond.fieldLink "CellHandover$NetworkReader" (137 : Nat) "CellHandover$Network" "dropLevel" "I") ∈ ch_GL := ch_c2 33 rfl rfl
theorem kw_274 : (Cond.fieldLink "CellHandover$Simulator" (141 : Nat) "CellHandover$Network" "dropLevel" "I") ∈ ch_GL := ch_c2 34 rfl rfl
theorem kw_275 : (Cond.fieldLink "CellHandover$Network" (67 : Nat) "CellHandover$Network" "dropTime" "I") ∈ ch_GL := ch_c2 35 rfl rfl
theorem kw_276 : (Cond.fieldLink "CellHandover$NetworkReader" (140 : Nat) "CellHandover$Network" "dropTime" "I") ∈ ch_GL := ch_c2 36 rfl rfl
theorem kw_277 : (Cond.fieldLink "CellHandover$Simulator" (147 : Nat) "CellHandover$Network" "dropTime" "I") ∈ ch_GL := ch_c2 37 rfl rfl
theorem kw_278 : (Cond.fieldLink "CellHandover$Network" (11 : Nat) "CellHandover$Network" "cells" "[LCellHandover$Cell;") ∈ ch_GL := ch_c2 38 rfl rfl
theorem kw_279 : (Cond.fieldLink "CellHandover$Network" (19 : Nat) "CellHandover$Network" "relations" "[LCellHandover$Relation;") ∈ ch_GL := ch_c2 39 rfl rfl
theorem kw_280 : (Cond.fieldLink "CellHandover$Network" (25 : Nat) "CellHandover$Network" "mobiles" "[LCellHandover$Mobile;") ∈ ch_GL := ch_c2 40 rfl rfl
theorem kw_281 : (Cond.fieldLink "CellHandover$Network" (29 : Nat) "CellHandover$Network" "totals" "[I") ∈ ch_GL := ch_c2 41 rfl rfl
theorem kw_282 : (Cond.fieldLink "CellHandover$Network" (34 : Nat) "CellHandover$Network" "noCell" "LCellHandover$Cell;") ∈ ch_GL := ch_c2 42 rfl rfl
theorem kw_283 : (Cond.fieldLink "CellHandover$Network" (39 : Nat) "CellHandover$Network" "noRelation" "LCellHandover$Relation;") ∈ ch_GL := ch_c2 43 rfl rfl
theorem kw_284 : (Cond.fieldLink "CellHandover$Network" (44 : Nat) "CellHandover$Network" "noMobile" "LCellHandover$Mobile;") ∈ ch_GL := ch_c2 44 rfl rfl
theorem kw_285 : (Cond.lays "CellHandover$Network" "CellHandover$Network" "cellCount" "I") ∈ ch_GL := ch_c2 45 rfl rfl
theorem kw_286 : (Cond.soleField "CellHandover$Network" "cellCount") ∈ ch_GL := ch_c2 46 rfl rfl
theorem kw_287 : (Cond.lays "CellHandover$Network" "CellHandover$Network" "relationCount" "I") ∈ ch_GL := ch_c2 47 rfl rfl
theorem kw_288 : (Cond.soleField "CellHandover$Network" "relationCount") ∈ ch_GL := ch_c2 48 rfl rfl
theorem kw_289 : (Cond.lays "CellHandover$Network" "CellHandover$Network" "mobileCount" "I") ∈ ch_GL := ch_c2 49 rfl rfl
theorem kw_290 : (Cond.soleField "CellHandover$Network" "mobileCount") ∈ ch_GL := ch_c2 50 rfl rfl
theorem kw_291 : (Cond.lays "CellHandover$Network" "CellHandover$Network" "clock" "I") ∈ ch_GL := ch_c2 51 rfl rfl
theorem kw_292 : (Cond.soleField "CellHandover$Network" "clock") ∈ ch_GL := ch_c2 52 rfl rfl
theorem kw_293 : (Cond.lays "CellHandover$Network" "CellHandover$Network" "window" "I") ∈ ch_GL := ch_c2 53 rfl rfl
theorem kw_294 : (Cond.soleField "CellHandover$Network" "window") ∈ ch_GL := ch_c2 54 rfl rfl
theorem kw_295 : (Cond.lays "CellHandover$Network" "CellHandover$Network" "minReports" "I") ∈ ch_GL := ch_c2 55 rfl rfl
theorem kw_296 : (Cond.soleField "CellHandover$Network" "minReports") ∈ ch_GL := ch_c2 56 rfl rfl
theorem kw_297 : (Cond.lays "CellHandover$Network" "CellHandover$Network" "pingPongTime" "I") ∈ ch_GL := ch_c2 57 rfl rfl
theorem kw_298 : (Cond.soleField "CellHandover$Network" "pingPongTime") ∈ ch_GL := ch_c2 58 rfl rfl
theorem kw_299 : (Cond.lays "CellHandover$Network" "CellHandover$Network" "queueTime" "I") ∈ ch_GL := ch_c2 59 rfl rfl
theorem kw_300 : (Cond.soleField "CellHandover$Network" "queueTime") ∈ ch_GL := ch_c2 60 rfl rfl
theorem kw_301 : (Cond.lays "CellHandover$Network" "CellHandover$Network" "dropLevel" "I") ∈ ch_GL := ch_c2 61 rfl rfl
theorem kw_302 : (Cond.soleField "CellHandover$Network" "dropLevel") ∈ ch_GL := ch_c2 62 rfl rfl
theorem kw_303 : (Cond.lays "CellHandover$Network" "CellHandover$Network" "dropTime" "I") ∈ ch_GL := ch_c2 63 rfl rfl
theorem kw_304 : (Cond.soleField "CellHandover$Network" "dropTime") ∈ ch_GL := ch_c2 64 rfl rfl
theorem kw_305 : (Cond.laysFinal "CellHandover$Network" "CellHandover$Network" "cells" "[LCellHandover$Cell;") ∈ ch_GL := ch_c2 65 rfl rfl
theorem kw_306 : (Cond.soleField "CellHandover$Network" "cells") ∈ ch_GL := ch_c2 66 rfl rfl
theorem kw_307 : (Cond.laysFinal "CellHandover$Network" "CellHandover$Network" "relations" "[LCellHandover$Relation;") ∈ ch_GL := ch_c2 67 rfl rfl
theorem kw_308 : (Cond.soleField "CellHandover$Network" "relations") ∈ ch_GL := ch_c2 68 rfl rfl
theorem kw_309 : (Cond.laysFinal "CellHandover$Network" "CellHandover$Network" "mobiles" "[LCellHandover$Mobile;") ∈ ch_GL := ch_c2 69 rfl rfl
theorem kw_310 : (Cond.soleField "CellHandover$Network" "mobiles") ∈ ch_GL := ch_c2 70 rfl rfl
theorem kw_311 : (Cond.laysFinal "CellHandover$Network" "CellHandover$Network" "totals" "[I") ∈ ch_GL := ch_c2 71 rfl rfl
theorem kw_312 : (Cond.soleField "CellHandover$Network" "totals") ∈ ch_GL := ch_c2 72 rfl rfl
theorem kw_313 : (Cond.laysFinal "CellHandover$Network" "CellHandover$Network" "noCell" "LCellHandover$Cell;") ∈ ch_GL := ch_c2 73 rfl rfl
theorem kw_314 : (Cond.soleField "CellHandover$Network" "noCell") ∈ ch_GL := ch_c2 74 rfl rfl
theorem kw_315 : (Cond.laysFinal "CellHandover$Network" "CellHandover$Network" "noRelation" "LCellHandover$Relation;") ∈ ch_GL := ch_c2 75 rfl rfl
theorem kw_316 : (Cond.soleField "CellHandover$Network" "noRelation") ∈ ch_GL := ch_c2 76 rfl rfl
theorem kw_317 : (Cond.laysFinal "CellHandover$Network" "CellHandover$Network" "noMobile" "LCellHandover$Mobile;") ∈ ch_GL := ch_c2 77 rfl rfl
theorem kw_318 : (Cond.soleField "CellHandover$Network" "noMobile") ∈ ch_GL := ch_c2 78 rfl rfl
theorem kw_319 : (Cond.superclass "CellHandover$Network" "java/lang/Object") ∈ ch_GL := ch_c2 79 rfl rfl
theorem kw_320 : (Cond.classLink "CellHandover" (29 : Nat) "CellHandover$History") ∈ ch_GL := ch_c2 80 rfl rfl
theorem kw_321 : (Cond.instantiable "CellHandover$History" (3 : Nat)) ∈ ch_GL := ch_c2 81 rfl rfl
theorem kw_322 : (Cond.methodLink "CellHandover" (31 : Nat) ({ cls := "CellHandover$History", name := "<init>", desc := "()V" } : MethodName)) ∈ ch_GL := ch_c2 82 rfl rfl
theorem kw_323 : (Cond.instanceMethod ({ cls := "CellHandover$History", name := "<init>", desc := "()V" } : MethodName)) ∈ ch_GL := ch_c2 83 rfl rfl
theorem kw_324 : (Cond.code ({ cls := "CellHandover$History", name := "<init>", desc := "()V" } : MethodName) prog_3_method_1_code (2 : Nat) (Option.none : Option FieldType)) ∈ ch_GL := ch_c2 84 rfl rfl
theorem kw_325 : (Cond.methodLink "CellHandover$History" (3 : Nat) ({ cls := "java/lang/Object", name := "<init>", desc := "()V" } : MethodName)) ∈ ch_GL := ch_c2 85 rfl rfl
theorem kw_326 : (Cond.classLink "CellHandover$History" (9 : Nat) "CellHandover$Network") ∈ ch_GL := ch_c2 86 rfl rfl
theorem kb_327 : (Cond.arrayOver (FieldType.object "CellHandover$Network")) ∈ lw_tbl := ch_b2 87 rfl
theorem kw_328 : (Cond.methodLink "CellHandover$History" (17 : Nat) ({ cls := "CellHandover$Network", name := "<init>", desc := "()V" } : MethodName)) ∈ ch_GL := ch_c2 88 rfl rfl
theorem kw_329 : (Cond.fieldLink "CellHandover$History" (18 : Nat) "CellHandover$History" "count" "I") ∈ ch_GL := ch_c2 89 rfl rfl
theorem kw_330 : (Cond.fieldLink "CellHandover" (234 : Nat) "CellHandover$History" "count" "I") ∈ ch_GL := ch_c2 90 rfl rfl
theorem kw_331 : (Cond.fieldLink "CellHandover$History" (22 : Nat) "CellHandover$History" "next" "I") ∈ ch_GL := ch_c2 91 rfl rfl
theorem kw_332 : (Cond.fieldLink "CellHandover$History" (11 : Nat) "CellHandover$History" "states" "[LCellHandover$Network;") ∈ ch_GL := ch_c2 92 rfl rfl
theorem kw_333 : (Cond.lays "CellHandover$History" "CellHandover$History" "count" "I") ∈ ch_GL := ch_c2 93 rfl rfl
theorem kw_334 : (Cond.soleField "CellHandover$History" "count") ∈ ch_GL := ch_c2 94 rfl rfl
theorem kw_335 : (Cond.lays "CellHandover$History" "CellHandover$History" "next" "I") ∈ ch_GL := ch_c2 95 rfl rfl
theorem kw_336 : (Cond.soleField "CellHandover$History" "next") ∈ ch_GL := ch_c2 96 rfl rfl
theorem kw_337 : (Cond.laysFinal "CellHandover$History" "CellHandover$History" "states" "[LCellHandover$Network;") ∈ ch_GL := ch_c2 97 rfl rfl
theorem kw_338 : (Cond.soleField "CellHandover$History" "states") ∈ ch_GL := ch_c2 98 rfl rfl
theorem kw_339 : (Cond.superclass "CellHandover$History" "java/lang/Object") ∈ ch_GL := ch_c2 99 rfl rfl
theorem kw_340 : (Cond.classLink "CellHandover" (36 : Nat) "CellHandover$Simulator") ∈ ch_GL := ch_c2 100 rfl rfl
theorem kw_341 : (Cond.instantiable "CellHandover$Simulator" (1 : Nat)) ∈ ch_GL := ch_c2 101 rfl rfl
theorem kb_342 : (Cond.methodLinkNest "CellHandover" (38 : Nat) ({ cls := "CellHandover$Simulator", name := "<init>", desc := "()V" } : MethodName) "CellHandover") ∈ lw_tbl := ch_b2 102 rfl
theorem kw_343 : (Cond.instanceMethod ({ cls := "CellHandover$Simulator", name := "<init>", desc := "()V" } : MethodName)) ∈ ch_GL := ch_c2 103 rfl rfl
theorem kw_344 : (Cond.code ({ cls := "CellHandover$Simulator", name := "<init>", desc := "()V" } : MethodName) prog_10_method_1_code (1 : Nat) (Option.none : Option FieldType)) ∈ ch_GL := ch_c2 104 rfl rfl
theorem kw_345 : (Cond.methodLink "CellHandover$Simulator" (3 : Nat) ({ cls := "java/lang/Object", name := "<init>", desc := "()V" } : MethodName)) ∈ ch_GL := ch_c2 105 rfl rfl
theorem kw_346 : (Cond.classLink "CellHandover$Simulator" (9 : Nat) "CellHandover$Ranking") ∈ ch_GL := ch_c2 106 rfl rfl
theorem kw_347 : (Cond.instantiable "CellHandover$Ranking" (4 : Nat)) ∈ ch_GL := ch_c2 107 rfl rfl
theorem kb_348 : (Cond.methodLinkNest "CellHandover$Simulator" (11 : Nat) ({ cls := "CellHandover$Ranking", name := "<init>", desc := "()V" } : MethodName) "CellHandover") ∈ lw_tbl := ch_b2 108 rfl
theorem kw_349 : (Cond.instanceMethod ({ cls := "CellHandover$Ranking", name := "<init>", desc := "()V" } : MethodName)) ∈ ch_GL := ch_c2 109 rfl rfl
theorem kw_350 : (Cond.code ({ cls := "CellHandover$Ranking", name := "<init>", desc := "()V" } : MethodName) prog_8_method_1_code (1 : Nat) (Option.none : Option FieldType)) ∈ ch_GL := ch_c2 110 rfl rfl
theorem kw_351 : (Cond.methodLink "CellHandover$Ranking" (3 : Nat) ({ cls := "java/lang/Object", name := "<init>", desc := "()V" } : MethodName)) ∈ ch_GL := ch_c2 111 rfl rfl
theorem kw_352 : (Cond.fieldLink "CellHandover$Ranking" (18 : Nat) "CellHandover$Ranking" "count" "I") ∈ ch_GL := ch_c2 112 rfl rfl
theorem kw_353 : (Cond.fieldLink "CellHandover$Simulator" (174 : Nat) "CellHandover$Ranking" "count" "I") ∈ ch_GL := ch_c2 113 rfl rfl
theorem kw_354 : (Cond.fieldLink "CellHandover$Ranking" (22 : Nat) "CellHandover$Ranking" "emergency" "Z") ∈ ch_GL := ch_c2 114 rfl rfl
theorem kw_355 : (Cond.fieldLink "CellHandover$Simulator" (179 : Nat) "CellHandover$Ranking" "emergency" "Z") ∈ ch_GL := ch_c2 115 rfl rfl
theorem kw_356 : (Cond.fieldLink "CellHandover$Ranking" (9 : Nat) "CellHandover$Ranking" "cells" "[I") ∈ ch_GL := ch_c2 116 rfl rfl
theorem kw_357 : (Cond.fieldLink "CellHandover$Ranking" (15 : Nat) "CellHandover$Ranking" "margins" "[I") ∈ ch_GL := ch_c2 117 rfl rfl
theorem kw_358 : (Cond.lays "CellHandover$Ranking" "CellHandover$Ranking" "count" "I") ∈ ch_GL := ch_c2 118 rfl rfl
theorem kw_359 : (Cond.soleField "CellHandover$Ranking" "count") ∈ ch_GL := ch_c2 119 rfl rfl
theorem kw_360 : (Cond.lays "CellHandover$Ranking" "CellHandover$Ranking" "emergency" "Z") ∈ ch_GL := ch_c2 120 rfl rfl
theorem kw_361 : (Cond.soleField "CellHandover$Ranking" "emergency") ∈ ch_GL := ch_c2 121 rfl rfl
theorem kw_362 : (Cond.laysFinal "CellHandover$Ranking" "CellHandover$Ranking" "cells" "[I") ∈ ch_GL := ch_c2 122 rfl rfl
theorem kw_363 : (Cond.soleField "CellHandover$Ranking" "cells") ∈ ch_GL := ch_c2 123 rfl rfl
theorem kw_364 : (Cond.laysFinal "CellHandover$Ranking" "CellHandover$Ranking" "margins" "[I") ∈ ch_GL := ch_c2 124 rfl rfl
theorem kw_365 : (Cond.soleField "CellHandover$Ranking" "margins") ∈ ch_GL := ch_c2 125 rfl rfl
theorem kw_366 : (Cond.superclass "CellHandover$Ranking" "java/lang/Object") ∈ ch_GL := ch_c2 126 rfl rfl
theorem kw_367 : (Cond.fieldLink "CellHandover$Simulator" (12 : Nat) "CellHandover$Simulator" "ranking" "LCellHandover$Ranking;") ∈ ch_GL := ch_c2 127 rfl rfl
theorem kw_368 : (Cond.laysFinal "CellHandover$Simulator" "CellHandover$Simulator" "ranking" "LCellHandover$Ranking;") ∈ ch_GL := ch_c2 128 rfl rfl
theorem kw_369 : (Cond.soleField "CellHandover$Simulator" "ranking") ∈ ch_GL := ch_c2 129 rfl rfl
theorem kw_370 : (Cond.superclass "CellHandover$Simulator" "java/lang/Object") ∈ ch_GL := ch_c2 130 rfl rfl
theorem kw_371 : (Cond.classLink "CellHandover" (43 : Nat) "CellHandover$Survey") ∈ ch_GL := ch_c2 131 rfl rfl
theorem kw_372 : (Cond.instantiable "CellHandover$Survey" (1 : Nat)) ∈ ch_GL := ch_c2 132 rfl rfl
theorem kb_373 : (Cond.methodLinkNest "CellHandover" (45 : Nat) ({ cls := "CellHandover$Survey", name := "<init>", desc := "()V" } : MethodName) "CellHandover") ∈ lw_tbl := ch_b2 133 rfl
theorem kw_374 : (Cond.instanceMethod ({ cls := "CellHandover$Survey", name := "<init>", desc := "()V" } : MethodName)) ∈ ch_GL := ch_c2 134 rfl rfl
theorem kw_375 : (Cond.code ({ cls := "CellHandover$Survey", name := "<init>", desc := "()V" } : MethodName) prog_11_method_1_code (1 : Nat) (Option.none : Option FieldType)) ∈ ch_GL := ch_c2 135 rfl rfl
theorem kw_376 : (Cond.methodLink "CellHandover$Survey" (3 : Nat) ({ cls := "java/lang/Object", name := "<init>", desc := "()V" } : MethodName)) ∈ ch_GL := ch_c2 136 rfl rfl
theorem kw_377 : (Cond.fieldLink "CellHandover$Survey" (9 : Nat) "CellHandover$Survey" "nearPoints" "[I") ∈ ch_GL := ch_c2 137 rfl rfl
theorem kw_378 : (Cond.laysFinal "CellHandover$Survey" "CellHandover$Survey" "nearPoints" "[I") ∈ ch_GL := ch_c2 138 rfl rfl
theorem kw_379 : (Cond.soleField "CellHandover$Survey" "nearPoints") ∈ ch_GL := ch_c2 139 rfl rfl
theorem kw_380 : (Cond.superclass "CellHandover$Survey" "java/lang/Object") ∈ ch_GL := ch_c2 140 rfl rfl
theorem kw_381 : (Cond.fieldLink "CellHandover" (10 : Nat) "CellHandover" "text" "LCellHandover$Text;") ∈ ch_GL := ch_c2 141 rfl rfl
theorem kw_382 : (Cond.fieldLink "CellHandover" (19 : Nat) "CellHandover" "now" "LCellHandover$Network;") ∈ ch_GL := ch_c2 142 rfl rfl
theorem kw_383 : (Cond.fieldLink "CellHandover" (23 : Nat) "CellHandover" "trial" "LCellHandover$Network;") ∈ ch_GL := ch_c2 143 rfl rfl
theorem kw_384 : (Cond.fieldLink "CellHandover" (26 : Nat) "CellHandover" "snapshot" "LCellHandover$Network;") ∈ ch_GL := ch_c2 144 rfl rfl
theorem kw_385 : (Cond.fieldLink "CellHandover" (32 : Nat) "CellHandover" "history" "LCellHandover$History;") ∈ ch_GL := ch_c2 145 rfl rfl
theorem kw_386 : (Cond.fieldLink "CellHandover" (39 : Nat) "CellHandover" "simulator" "LCellHandover$Simulator;") ∈ ch_GL := ch_c2 146 rfl rfl
theorem kw_387 : (Cond.fieldLink "CellHandover" (46 : Nat) "CellHandover" "survey" "LCellHandover$Survey;") ∈ ch_GL := ch_c2 147 rfl rfl
theorem kw_388 : (Cond.fieldLink "CellHandover" (50 : Nat) "CellHandover" "hasSnapshot" "Z") ∈ ch_GL := ch_c2 148 rfl rfl
theorem kw_389 : (Cond.laysFinal "CellHandover" "CellHandover" "text" "LCellHandover$Text;") ∈ ch_GL := ch_c2 149 rfl rfl
theorem kw_390 : (Cond.soleField "CellHandover" "text") ∈ ch_GL := ch_c2 150 rfl rfl
theorem kw_391 : (Cond.laysFinal "CellHandover" "CellHandover" "now" "LCellHandover$Network;") ∈ ch_GL := ch_c2 151 rfl rfl
theorem kw_392 : (Cond.soleField "CellHandover" "now") ∈ ch_GL := ch_c2 152 rfl rfl
theorem kw_393 : (Cond.laysFinal "CellHandover" "CellHandover" "trial" "LCellHandover$Network;") ∈ ch_GL := ch_c2 153 rfl rfl
theorem kw_394 : (Cond.soleField "CellHandover" "trial") ∈ ch_GL := ch_c2 154 rfl rfl
theorem kw_395 : (Cond.laysFinal "CellHandover" "CellHandover" "snapshot" "LCellHandover$Network;") ∈ ch_GL := ch_c2 155 rfl rfl
theorem kw_396 : (Cond.soleField "CellHandover" "snapshot") ∈ ch_GL := ch_c2 156 rfl rfl
theorem kw_397 : (Cond.laysFinal "CellHandover" "CellHandover" "history" "LCellHandover$History;") ∈ ch_GL := ch_c2 157 rfl rfl
theorem kw_398 : (Cond.soleField "CellHandover" "history") ∈ ch_GL := ch_c2 158 rfl rfl
theorem kw_399 : (Cond.laysFinal "CellHandover" "CellHandover" "simulator" "LCellHandover$Simulator;") ∈ ch_GL := ch_c2 159 rfl rfl
theorem kw_400 : (Cond.soleField "CellHandover" "simulator") ∈ ch_GL := ch_c2 160 rfl rfl
theorem kw_401 : (Cond.laysFinal "CellHandover" "CellHandover" "survey" "LCellHandover$Survey;") ∈ ch_GL := ch_c2 161 rfl rfl
theorem kw_402 : (Cond.soleField "CellHandover" "survey") ∈ ch_GL := ch_c2 162 rfl rfl
theorem kw_403 : (Cond.lays "CellHandover" "CellHandover" "hasSnapshot" "Z") ∈ ch_GL := ch_c2 163 rfl rfl
theorem kw_404 : (Cond.soleField "CellHandover" "hasSnapshot") ∈ ch_GL := ch_c2 164 rfl rfl
theorem kw_405 : (Cond.superclass "CellHandover" "java/lang/Object") ∈ ch_GL := ch_c2 165 rfl rfl
theorem kw_406 : (Cond.methodLink "CellHandoverLaw" (115 : Nat) ({ cls := "CellHandover", name := "feed", desc := "(IIIII)I" } : MethodName)) ∈ ch_GL := ch_c2 166 rfl rfl
theorem kw_407 : (Cond.instanceMethod ({ cls := "CellHandover", name := "feed", desc := "(IIIII)I" } : MethodName)) ∈ ch_GL := ch_c2 167 rfl rfl
theorem kw_408 : (Cond.selects "CellHandover" ({ cls := "CellHandover", name := "feed", desc := "(IIIII)I" } : MethodName) ({ cls := "CellHandover", name := "feed", desc := "(IIIII)I" } : MethodName)) ∈ ch_GL := ch_c2 168 rfl rfl
theorem kw_409 : (Cond.code ({ cls := "CellHandover", name := "feed", desc := "(IIIII)I" } : MethodName) prog_1_method_2_code (6 : Nat) (Option.some FieldType.int)) ∈ ch_GL := ch_c2 169 rfl rfl
theorem kw_410 : (Cond.methodLink "CellHandover" (58 : Nat) ({ cls := "CellHandover$Text", name := "append", desc := "(I)V" } : MethodName)) ∈ ch_GL := ch_c2 170 rfl rfl
theorem kw_411 : (Cond.instanceMethod ({ cls := "CellHandover$Text", name := "append", desc := "(I)V" } : MethodName)) ∈ ch_GL := ch_c2 171 rfl rfl
theorem kw_412 : (Cond.selects "CellHandover$Text" ({ cls := "CellHandover$Text", name := "append", desc := "(I)V" } : MethodName) ({ cls := "CellHandover$Text", name := "append", desc := "(I)V" } : MethodName)) ∈ ch_GL := ch_c2 172 rfl rfl
theorem kw_413 : (Cond.code ({ cls := "CellHandover$Text", name := "append", desc := "(I)V" } : MethodName) prog_12_method_2_code (3 : Nat) (Option.none : Option FieldType)) ∈ ch_GL := ch_c2 173 rfl rfl
theorem kw_414 : (Cond.methodLink "CellHandoverLaw" (130 : Nat) ({ cls := "CellHandover", name := "errorPosition", desc := "()I" } : MethodName)) ∈ ch_GL := ch_c2 174 rfl rfl
theorem kw_415 : (Cond.instanceMethod ({ cls := "CellHandover", name := "errorPosition", desc := "()I" } : MethodName)) ∈ ch_GL := ch_c2 175 rfl rfl
theorem kw_416 : (Cond.selects "CellHandover" ({ cls := "CellHandover", name := "errorPosition", desc := "()I" } : MethodName) ({ cls := "CellHandover", name := "errorPosition", desc := "()I" } : MethodName)) ∈ ch_GL := ch_c2 176 rfl rfl
theorem kw_417 : (Cond.code ({ cls := "CellHandover", name := "errorPosition", desc := "()I" } : MethodName) prog_1_method_4_code (1 : Nat) (Option.some FieldType.int)) ∈ ch_GL := ch_c2 177 rfl rfl
theorem kw_418 : (Cond.methodLink "CellHandoverLaw" (134 : Nat) ({ cls := "CellHandover", name := "cellCount", desc := "()I" } : MethodName)) ∈ ch_GL := ch_c2 178 rfl rfl
theorem kw_419 : (Cond.instanceMethod ({ cls := "CellHandover", name := "cellCount", desc := "()I" } : MethodName)) ∈ ch_GL := ch_c2 179 rfl rfl
theorem kw_420 : (Cond.selects "CellHandover" ({ cls := "CellHandover", name := "cellCount", desc := "()I" } : MethodName) ({ cls := "CellHandover", name := "cellCount", desc := "()I" } : MethodName)) ∈ ch_GL := ch_c2 180 rfl rfl
theorem kw_421 : (Cond.code ({ cls := "CellHandover", name := "cellCount", desc := "()I" } : MethodName) prog_1_method_5_code (1 : Nat) (Option.some FieldType.int)) ∈ ch_GL := ch_c2 181 rfl rfl
theorem kw_422 : (Cond.methodLink "CellHandoverLaw" (138 : Nat) ({ cls := "CellHandover", name := "relationCount", desc := "()I" } : MethodName)) ∈ ch_GL := ch_c2 182 rfl rfl
theorem kw_423 : (Cond.instanceMethod ({ cls := "CellHandover", name := "relationCount", desc := "()I" } : MethodName)) ∈ ch_GL := ch_c2 183 rfl rfl
theorem kw_424 : (Cond.selects "CellHandover" ({ cls := "CellHandover", name := "relationCount", desc := "()I" } : MethodName) ({ cls := "CellHandover", name := "relationCount", desc := "()I" } : MethodName)) ∈ ch_GL := ch_c2 184 rfl rfl
theorem kw_425 : (Cond.code ({ cls := "CellHandover", name := "relationCount", desc := "()I" } : MethodName) prog_1_method_6_code (1 : Nat) (Option.some FieldType.int)) ∈ ch_GL := ch_c2 185 rfl rfl
theorem kw_426 : (Cond.methodLink "CellHandoverLaw" (142 : Nat) ({ cls := "CellHandover", name := "mobileCount", desc := "()I" } : MethodName)) ∈ ch_GL := ch_c2 186 rfl rfl
theorem kw_427 : (Cond.instanceMethod ({ cls := "CellHandover", name := "mobileCount", desc := "()I" } : MethodName)) ∈ ch_GL := ch_c2 187 rfl rfl
theorem kw_428 : (Cond.selects "CellHandover" ({ cls := "CellHandover", name := "mobileCount", desc := "()I" } : MethodName) ({ cls := "CellHandover", name := "mobileCount", desc := "()I" } : MethodName)) ∈ ch_GL := ch_c2 188 rfl rfl
theorem kw_429 : (Cond.code ({ cls := "CellHandover", name := "mobileCount", desc := "()I" } : MethodName) prog_1_method_7_code (1 : Nat) (Option.some FieldType.int)) ∈ ch_GL := ch_c2 189 rfl rfl
theorem kw_430 : (Cond.methodLink "CellHandoverLaw" (146 : Nat) ({ cls := "CellHandover", name := "clock", desc := "()I" } : MethodName)) ∈ ch_GL := ch_c2 190 rfl rfl
theorem kw_431 : (Cond.instanceMethod ({ cls := "CellHandover", name := "clock", desc := "()I" } : MethodName)) ∈ ch_GL := ch_c2 191 rfl rfl
theorem kw_432 : (Cond.selects "CellHandover" ({ cls := "CellHandover", name := "clock", desc := "()I" } : MethodName) ({ cls := "CellHandover", name := "clock", desc := "()I" } : MethodName)) ∈ ch_GL := ch_c2 192 rfl rfl
theorem kw_433 : (Cond.code ({ cls := "CellHandover", name := "clock", desc := "()I" } : MethodName) prog_1_method_8_code (1 : Nat) (Option.some FieldType.int)) ∈ ch_GL := ch_c2 193 rfl rfl
theorem kw_434 : (Cond.methodLink "CellHandoverLaw" (231 : Nat) ({ cls := "CellHandover", name := "total", desc := "(I)I" } : MethodName)) ∈ ch_GL := ch_c2 194 rfl rfl
theorem kw_435 : (Cond.instanceMethod ({ cls := "CellHandover", name := "total", desc := "(I)I" } : MethodName)) ∈ ch_GL := ch_c2 195 rfl rfl
theorem kw_436 : (Cond.selects "CellHandover" ({ cls := "CellHandover", name := "total", desc := "(I)I" } : MethodName) ({ cls := "CellHandover", name := "total", desc := "(I)I" } : MethodName)) ∈ ch_GL := ch_c2 196 rfl rfl
theorem kw_437 : (Cond.code ({ cls := "CellHandover", name := "total", desc := "(I)I" } : MethodName) prog_1_method_35_code (2 : Nat) (Option.some FieldType.int)) ∈ ch_GL := ch_c2 197 rfl rfl
theorem kw_438 : (Cond.methodLink "CellHandover" (182 : Nat) ({ cls := "CellHandover$Network", name := "totalOf", desc := "(I)I" } : MethodName)) ∈ ch_GL := ch_c2 198 rfl rfl
theorem kw_439 : (Cond.instanceMethod ({ cls := "CellHandover$Network", name := "totalOf", desc := "(I)I" } : MethodName)) ∈ ch_GL := ch_c2 199 rfl rfl
theorem kw_440 : (Cond.selects "CellHandover$Network" ({ cls := "CellHandover$Network", name := "totalOf", desc := "(I)I" } : MethodName) ({ cls := "CellHandover$Network", name := "totalOf", desc := "(I)I" } : MethodName)) ∈ ch_GL := ch_c2 200 rfl rfl
theorem kw_441 : (Cond.code ({ cls := "CellHandover$Network", name := "totalOf", desc := "(I)I" } : MethodName) prog_5_method_6_code (2 : Nat) (Option.some FieldType.int)) ∈ ch_GL := ch_c2 201 rfl rfl
theorem kw_442 : (Cond.methodLink "CellHandoverLaw" (244 : Nat) ({ cls := "CellHandover", name := "undoCount", desc := "()I" } : MethodName)) ∈ ch_GL := ch_c2 202 rfl rfl
theorem kw_443 : (Cond.instanceMethod ({ cls := "CellHandover", name := "undoCount", desc := "()I" } : MethodName)) ∈ ch_GL := ch_c2 203 rfl rfl
theorem kw_444 : (Cond.selects "CellHandover" ({ cls := "CellHandover", name := "undoCount", desc := "()I" } : MethodName) ({ cls := "CellHandover", name := "undoCount", desc := "()I" } : MethodName)) ∈ ch_GL := ch_c2 204 rfl rfl
theorem kw_445 : (Cond.code ({ cls := "CellHandover", name := "undoCount", desc := "()I" } : MethodName) prog_1_method_39_code (1 : Nat) (Option.some FieldType.int)) ∈ ch_GL := ch_c2 205 rfl rfl
theorem kw_446 : (Cond.methodLink "CellHandoverLaw" (248 : Nat) ({ cls := "CellHandover", name := "undo", desc := "()I" } : MethodName)) ∈ ch_GL := ch_c2 206 rfl rfl
theorem kw_447 : (Cond.instanceMethod ({ cls := "CellHandover", name := "undo", desc := "()I" } : MethodName)) ∈ ch_GL := ch_c2 207 rfl rfl
theorem kw_448 : (Cond.selects "CellHandover" ({ cls := "CellHandover", name := "undo", desc := "()I" } : MethodName) ({ cls := "CellHandover", name := "undo", desc := "()I" } : MethodName)) ∈ ch_GL := ch_c2 208 rfl rfl
theorem kw_449 : (Cond.code ({ cls := "CellHandover", name := "undo", desc := "()I" } : MethodName) prog_1_method_40_code (1 : Nat) (Option.some FieldType.int)) ∈ ch_GL := ch_c2 209 rfl rfl
theorem kw_450 : (Cond.methodLink "CellHandover" (237 : Nat) ({ cls := "CellHandover$History", name := "takeBack", desc := "(LCellHandover$Network;)V" } : MethodName)) ∈ ch_GL := ch_c2 210 rfl rfl
theorem kw_451 : (Cond.instanceMethod ({ cls := "CellHandover$History", name := "takeBack", desc := "(LCellHandover$Network;)V" } : MethodName)) ∈ ch_GL := ch_c2 211 rfl rfl
theorem kw_452 : (Cond.selects "CellHandover$History" ({ cls := "CellHandover$History", name := "takeBack", desc := "(LCellHandover$Network;)V" } : MethodName) ({ cls := "CellHandover$History", name := "takeBack", desc := "(LCellHandover$Network;)V" } : MethodName)) ∈ ch_GL := ch_c2 212 rfl rfl
theorem kw_453 : (Cond.code ({ cls := "CellHandover$History", name := "takeBack", desc := "(LCellHandover$Network;)V" } : MethodName) prog_3_method_4_code (4 : Nat) (Option.none : Option FieldType)) ∈ ch_GL := ch_c2 213 rfl rfl
theorem kw_454 : (Cond.methodLink "CellHandover$History" (25 : Nat) ({ cls := "CellHandover$Network", name := "copyFrom", desc := "(LCellHandover$Network;)V" } : MethodName)) ∈ ch_GL := ch_c2 214 rfl rfl
theorem kw_455 : (Cond.instanceMethod ({ cls := "CellHandover$Network", name := "copyFrom", desc := "(LCellHandover$Network;)V" } : MethodName)) ∈ ch_GL := ch_c2 215 rfl rfl
theorem kw_456 : (Cond.selects "CellHandover$Network" ({ cls := "CellHandover$Network", name := "copyFrom", desc := "(LCellHandover$Network;)V" } : MethodName) ({ cls := "CellHandover$Network", name := "copyFrom", desc := "(LCellHandover$Network;)V" } : MethodName)) ∈ ch_GL := ch_c2 216 rfl rfl
theorem kw_457 : (Cond.code ({ cls := "CellHandover$Network", name := "copyFrom", desc := "(LCellHandover$Network;)V" } : MethodName) prog_5_method_9_code (4 : Nat) (Option.none : Option FieldType)) ∈ ch_GL := ch_c2 217 rfl rfl
theorem kw_458 : (Cond.methodLink "CellHandover$Network" (95 : Nat) ({ cls := "CellHandover$Network", name := "cellAt", desc := "(I)LCellHandover$Cell;" } : MethodName)) ∈ ch_GL := ch_c2 218 rfl rfl
theorem kw_459 : (Cond.instanceMethod ({ cls := "CellHandover$Network", name := "cellAt", desc := "(I)LCellHandover$Cell;" } : MethodName)) ∈ ch_GL := ch_c2 219 rfl rfl
theorem kw_460 : (Cond.selects "CellHandover$Network" ({ cls := "CellHandover$Network", name := "cellAt", desc := "(I)LCellHandover$Cell;" } : MethodName) ({ cls := "CellHandover$Network", name := "cellAt", desc := "(I)LCellHandover$Cell;" } : MethodName)) ∈ ch_GL := ch_c2 220 rfl rfl
theorem kw_461 : (Cond.code ({ cls := "CellHandover$Network", name := "cellAt", desc := "(I)LCellHandover$Cell;" } : MethodName) prog_5_method_3_code (3 : Nat) (Option.some (FieldType.object "CellHandover$Cell"))) ∈ ch_GL := ch_c2 221 rfl rfl
theorem kw_462 : (Cond.methodLink "CellHandover$Network" (99 : Nat) ({ cls := "CellHandover$Cell", name := "copyFrom", desc := "(LCellHandover$Cell;)V" } : MethodName)) ∈ ch_GL := ch_c2 222 rfl rfl
theorem kw_463 : (Cond.instanceMethod ({ cls := "CellHandover$Cell", name := "copyFrom", desc := "(LCellHandover$Cell;)V" } : MethodName)) ∈ ch_GL := ch_c2 223 rfl rfl
theorem kw_464 : (Cond.selects "CellHandover$Cell" ({ cls := "CellHandover$Cell", name := "copyFrom", desc := "(LCellHandover$Cell;)V" } : MethodName) ({ cls := "CellHandover$Cell", name := "copyFrom", desc := "(LCellHandover$Cell;)V" } : MethodName)) ∈ ch_GL := ch_c2 224 rfl rfl
theorem kw_465 : (Cond.code ({ cls := "CellHandover$Cell", name := "copyFrom", desc := "(LCellHandover$Cell;)V" } : MethodName) prog_2_method_3_code (2 : Nat) (Option.none : Option FieldType)) ∈ ch_GL := ch_c2 225 rfl rfl
theorem kw_466 : (Cond.methodLink "CellHandover$Network" (82 : Nat) ({ cls := "CellHandover$Network", name := "relationAt", desc := "(II)LCellHandover$Relation;" } : MethodName)) ∈ ch_GL := ch_c2 226 rfl rfl
theorem kw_467 : (Cond.instanceMethod ({ cls := "CellHandover$Network", name := "relationAt", desc := "(II)LCellHandover$Relation;" } : MethodName)) ∈ ch_GL := ch_c2 227 rfl rfl
theorem kw_468 : (Cond.selects "CellHandover$Network" ({ cls := "CellHandover$Network", name := "relationAt", desc := "(II)LCellHandover$Relation;" } : MethodName) ({ cls := "CellHandover$Network", name := "relationAt", desc := "(II)LCellHandover$Relation;" } : MethodName)) ∈ ch_GL := ch_c2 228 rfl rfl
theorem kw_469 : (Cond.code ({ cls := "CellHandover$Network", name := "relationAt", desc := "(II)LCellHandover$Relation;" } : MethodName) prog_5_method_5_code (5 : Nat) (Option.some (FieldType.object "CellHandover$Relation"))) ∈ ch_GL := ch_c2 229 rfl rfl
theorem kw_470 : (Cond.methodLink "CellHandover$Network" (103 : Nat) ({ cls := "CellHandover$Relation", name := "copyFrom", desc := "(LCellHandover$Relation;)V" } : MethodName)) ∈ ch_GL := ch_c2 230 rfl rfl
theorem kw_471 : (Cond.instanceMethod ({ cls := "CellHandover$Relation", name := "copyFrom", desc := "(LCellHandover$Relation;)V" } : MethodName)) ∈ ch_GL := ch_c2 231 rfl rfl
theorem kw_472 : (Cond.selects "CellHandover$Relation" ({ cls := "CellHandover$Relation", name := "copyFrom", desc := "(LCellHandover$Relation;)V" } : MethodName) ({ cls := "CellHandover$Relation", name := "copyFrom", desc := "(LCellHandover$Relation;)V" } : MethodName)) ∈ ch_GL := ch_c2 232 rfl rfl
theorem kw_473 : (Cond.code ({ cls := "CellHandover$Relation", name := "copyFrom", desc := "(LCellHandover$Relation;)V" } : MethodName) prog_9_method_3_code (2 : Nat) (Option.none : Option FieldType)) ∈ ch_GL := ch_c2 233 rfl rfl
theorem kw_474 : (Cond.methodLink "CellHandover$Network" (106 : Nat) ({ cls := "CellHandover$Network", name := "mobileAt", desc := "(I)LCellHandover$Mobile;" } : MethodName)) ∈ ch_GL := ch_c2 234 rfl rfl
theorem kw_475 : (Cond.instanceMethod ({ cls := "CellHandover$Network", name := "mobileAt", desc := "(I)LCellHandover$Mobile;" } : MethodName)) ∈ ch_GL := ch_c2 235 rfl rfl
theorem kw_476 : (Cond.selects "CellHandover$Network" ({ cls := "CellHandover$Network", name := "mobileAt", desc := "(I)LCellHandover$Mobile;" } : MethodName) ({ cls := "CellHandover$Network", name := "mobileAt", desc := "(I)LCellHandover$Mobile;" } : MethodName)) ∈ ch_GL := ch_c2 236 rfl rfl
theorem kw_477 : (Cond.code ({ cls := "CellHandover$Network", name := "mobileAt", desc := "(I)LCellHandover$Mobile;" } : MethodName) prog_5_method_4_code (3 : Nat) (Option.some (FieldType.object "CellHandover$Mobile"))) ∈ ch_GL := ch_c2 237 rfl rfl
theorem kw_478 : (Cond.methodLink "CellHandover$Network" (110 : Nat) ({ cls := "CellHandover$Mobile", name := "copyFrom", desc := "(LCellHandover$Mobile;)V" } : MethodName)) ∈ ch_GL := ch_c2 238 rfl rfl
theorem kw_479 : (Cond.instanceMethod ({ cls := "CellHandover$Mobile", name := "copyFrom", desc := "(LCellHandover$Mobile;)V" } : MethodName)) ∈ ch_GL := ch_c2 239 rfl rfl
theorem kw_480 : (Cond.selects "CellHandover$Mobile" ({ cls := "CellHandover$Mobile", name := "copyFrom", desc := "(LCellHandover$Mobile;)V" } : MethodName) ({ cls := "CellHandover$Mobile", name := "copyFrom", desc := "(LCellHandover$Mobile;)V" } : MethodName)) ∈ ch_GL := ch_c3 0 rfl rfl
theorem kw_481 : (Cond.code ({ cls := "CellHandover$Mobile", name := "copyFrom", desc := "(LCellHandover$Mobile;)V" } : MethodName) prog_4_method_15_code (2 : Nat) (Option.none : Option FieldType)) ∈ ch_GL := ch_c3 1 rfl rfl
theorem kb_482 : (Cond.methodLinkNest "CellHandover$Mobile" (75 : Nat) ({ cls := "CellHandover", name := "copyInts", desc := "([I[I)V" } : MethodName) "CellHandover") ∈ lw_tbl := ch_b3 2 rfl
theorem kw_483 : (Cond.static ({ cls := "CellHandover", name := "copyInts", desc := "([I[I)V" } : MethodName)) ∈ ch_GL := ch_c3 3 rfl rfl
theorem kw_484 : (Cond.code ({ cls := "CellHandover", name := "copyInts", desc := "([I[I)V" } : MethodName) prog_1_method_49_code (2 : Nat) (Option.none : Option FieldType)) ∈ ch_GL := ch_c3 4 rfl rfl
theorem kw_485 : (Cond.methodLink "CellHandover" (240 : Nat) ({ cls := "java/lang/Math", name := "min", desc := "(II)I" } : MethodName)) ∈ ch_GL := ch_c3 5 rfl rfl
theorem kw_486 : (Cond.static ({ cls := "java/lang/Math", name := "min", desc := "(II)I" } : MethodName)) ∈ ch_GL := ch_c3 6 rfl rfl
theorem kw_487 : (Cond.code ({ cls := "java/lang/Math", name := "min", desc := "(II)I" } : MethodName) prog_21_method_69_code (2 : Nat) (Option.some FieldType.int)) ∈ ch_GL := ch_c3 7 rfl rfl
theorem kw_488 : (Cond.methodLink "CellHandover" (270 : Nat) ({ cls := "java/lang/System", name := "arraycopy", desc := "(Ljava/lang/Object;ILjava/lang/Object;II)V" } : MethodName)) ∈ ch_GL := ch_c3 8 rfl rfl
theorem kw_489 : (Cond.static ({ cls := "java/lang/System", name := "arraycopy", desc := "(Ljava/lang/Object;ILjava/lang/Object;II)V" } : MethodName)) ∈ ch_GL := ch_c3 9 rfl rfl
theorem kw_490 : (Cond.native ({ cls := "java/lang/System", name := "arraycopy", desc := "(Ljava/lang/Object;ILjava/lang/Object;II)V" } : MethodName)) ∈ ch_GL := ch_c3 10 rfl rfl
theorem kb_491 : (Cond.methodLinkNest "CellHandover$Network" (113 : Nat) ({ cls := "CellHandover", name := "copyInts", desc := "([I[I)V" } : MethodName) "CellHandover") ∈ lw_tbl := ch_b3 11 rfl
theorem kw_492 : (Cond.methodLink "CellHandoverLaw" (252 : Nat) ({ cls := "CellHandover", name := "saveSnapshot", desc := "()V" } : MethodName)) ∈ ch_GL := ch_c3 12 rfl rfl
theorem kw_493 : (Cond.instanceMethod ({ cls := "CellHandover", name := "saveSnapshot", desc := "()V" } : MethodName)) ∈ ch_GL := ch_c3 13 rfl rfl
theorem kw_494 : (Cond.selects "CellHandover" ({ cls := "CellHandover", name := "saveSnapshot", desc := "()V" } : MethodName) ({ cls := "CellHandover", name := "saveSnapshot", desc := "()V" } : MethodName)) ∈ ch_GL := ch_c3 14 rfl rfl
theorem kw_495 : (Cond.code ({ cls := "CellHandover", name := "saveSnapshot", desc := "()V" } : MethodName) prog_1_method_41_code (1 : Nat) (Option.none : Option FieldType)) ∈ ch_GL := ch_c3 15 rfl rfl
theorem kw_496 : (Cond.methodLink "CellHandover" (83 : Nat) ({ cls := "CellHandover$Network", name := "copyFrom", desc := "(LCellHandover$Network;)V" } : MethodName)) ∈ ch_GL := ch_c3 16 rfl rfl
theorem kw_497 : (Cond.methodLink "CellHandoverLaw" (256 : Nat) ({ cls := "CellHandover", name := "restoreSnapshot", desc := "()Z" } : MethodName)) ∈ ch_GL := ch_c3 17 rfl rfl
theorem kw_498 : (Cond.instanceMethod ({ cls := "CellHandover", name := "restoreSnapshot", desc := "()Z" } : MethodName)) ∈ ch_GL := ch_c3 18 rfl rfl
theorem kw_499 : (Cond.selects "CellHandover" ({ cls := "CellHandover", name := "restoreSnapshot", desc := "()Z" } : MethodName) ({ cls := "CellHandover", name := "restoreSnapshot", desc := "()Z" } : MethodName)) ∈ ch_GL := ch_c3 19 rfl rfl
theorem kw_500 : (Cond.code ({ cls := "CellHandover", name := "restoreSnapshot", desc := "()Z" } : MethodName) prog_1_method_42_code (1 : Nat) (Option.some FieldType.boolean)) ∈ ch_GL := ch_c3 20 rfl rfl
theorem kw_501 : (Cond.methodLink "CellHandover" (87 : Nat) ({ cls := "CellHandover$History", name := "forget", desc := "()V" } : MethodName)) ∈ ch_GL := ch_c3 21 rfl rfl
theorem kw_502 : (Cond.instanceMethod ({ cls := "CellHandover$History", name := "forget", desc := "()V" } : MethodName)) ∈ ch_GL := ch_c3 22 rfl rfl
theorem kw_503 : (Cond.selects "CellHandover$History" ({ cls := "CellHandover$History", name := "forget", desc := "()V" } : MethodName) ({ cls := "CellHandover$History", name := "forget", desc := "()V" } : MethodName)) ∈ ch_GL := ch_c3 23 rfl rfl
theorem kw_504 : (Cond.code ({ cls := "CellHandover$History", name := "forget", desc := "()V" } : MethodName) prog_3_method_2_code (1 : Nat) (Option.none : Option FieldType)) ∈ ch_GL := ch_c3 24 rfl rfl
theorem kw_505 : (Cond.methodLink "CellHandoverLaw" (120 : Nat) ({ cls := "CellHandoverLaw", name := "load", desc := "(LCellHandover;I[J)I" } : MethodName)) ∈ ch_GL := ch_c3 25 rfl rfl
theorem kw_506 : (Cond.static ({ cls := "CellHandoverLaw", name := "load", desc := "(LCellHandover;I[J)I" } : MethodName)) ∈ ch_GL := ch_c3 26 rfl rfl
theorem kw_507 : (Cond.codeWith ({ cls := "CellHandoverLaw", name := "load", desc := "(LCellHandover;I[J)I" } : MethodName) method_3_code (4 : Nat) (Option.some FieldType.int) [((0 : Nat), (9 : Nat), (12 : Nat), (13 : Nat))]) ∈ ch_GL := ch_c3 27 rfl rfl
theorem kw_508 : (Cond.classLink "CellHandoverLaw" (13 : Nat) "java/lang/IllegalArgumentException") ∈ ch_GL := ch_c3 28 rfl rfl
theorem kw_509 : (Cond.methodLink "CellHandoverLaw" (7 : Nat) ({ cls := "CellHandover", name := "load", desc := "(I)I" } : MethodName)) ∈ ch_GL := ch_c3 29 rfl rfl
theorem kw_510 : (Cond.instanceMethod ({ cls := "CellHandover", name := "load", desc := "(I)I" } : MethodName)) ∈ ch_GL := ch_c3 30 rfl rfl
theorem kw_511 : (Cond.selects "CellHandover" ({ cls := "CellHandover", name := "load", desc := "(I)I" } : MethodName) ({ cls := "CellHandover", name := "load", desc := "(I)I" } : MethodName)) ∈ ch_GL := ch_c3 31 rfl rfl
theorem kw_512 : (Cond.code ({ cls := "CellHandover", name := "load", desc := "(I)I" } : MethodName) prog_1_method_3_code (2 : Nat) (Option.some FieldType.int)) ∈ ch_GL := ch_c3 32 rfl rfl
theorem kw_513 : (Cond.methodLink "CellHandover" (62 : Nat) ({ cls := "CellHandover", name := "requireRange", desc := "(III)V" } : MethodName)) ∈ ch_GL := ch_c3 33 rfl rfl
theorem kw_514 : (Cond.static ({ cls := "CellHandover", name := "requireRange", desc := "(III)V" } : MethodName)) ∈ ch_GL := ch_c3 34 rfl rfl
theorem kw_515 : (Cond.code ({ cls := "CellHandover", name := "requireRange", desc := "(III)V" } : MethodName) prog_1_method_48_code (3 : Nat) (Option.none : Option FieldType)) ∈ ch_GL := ch_c3 35 rfl rfl
theorem kw_516 : (Cond.classLink "CellHandover" (265 : Nat) "java/lang/IllegalArgumentException") ∈ ch_GL := ch_c3 36 rfl rfl
theorem kw_517 : (Cond.instantiable "java/lang/IllegalArgumentException" (6 : Nat)) ∈ ch_GL := ch_c3 37 rfl rfl
theorem kb_518 : (Cond.castable "java/lang/IllegalArgumentException" "java/lang/IllegalArgumentException") ∈ lw_tbl := ch_b3 38 rfl
theorem kb_519 : (Cond.declares ({ cls := "java/lang/RuntimeException", name := "<init>", desc := "()V" } : MethodName)) ∈ lw_tbl := ch_b3 39 rfl
theorem kb_520 : (Cond.declares ({ cls := "java/lang/RuntimeException", name := "<init>", desc := "(Ljava/lang/String;)V" } : MethodName)) ∈ lw_tbl := ch_b3 40 rfl
theorem kb_521 : (Cond.declares ({ cls := "java/lang/Exception", name := "<init>", desc := "()V" } : MethodName)) ∈ lw_tbl := ch_b3 41 rfl
theorem kb_522 : (Cond.declares ({ cls := "java/lang/Exception", name := "<init>", desc := "(Ljava/lang/String;)V" } : MethodName)) ∈ lw_tbl := ch_b3 42 rfl
theorem kb_523 : (Cond.declares ({ cls := "java/lang/Throwable", name := "<init>", desc := "()V" } : MethodName)) ∈ lw_tbl := ch_b3 43 rfl
theorem kb_524 : (Cond.declares ({ cls := "java/lang/Throwable", name := "<init>", desc := "(Ljava/lang/String;)V" } : MethodName)) ∈ lw_tbl := ch_b3 44 rfl
theorem kw_525 : (Cond.selects "java/lang/IllegalArgumentException" ({ cls := "java/lang/Throwable", name := "fillInStackTrace", desc := "(I)Ljava/lang/Throwable;" } : MethodName) ({ cls := "java/lang/Throwable", name := "fillInStackTrace", desc := "(I)Ljava/lang/Throwable;" } : MethodName)) ∈ ch_GL := ch_c3 45 rfl rfl
theorem kw_526 : (Cond.selects "java/lang/IllegalArgumentException" ({ cls := "java/lang/Throwable", name := "fillInStackTrace", desc := "()Ljava/lang/Throwable;" } : MethodName) ({ cls := "java/lang/Throwable", name := "fillInStackTrace", desc := "()Ljava/lang/Throwable;" } : MethodName)) ∈ ch_GL := ch_c3 46 rfl rfl
theorem kw_527 : (Cond.lays "java/lang/IllegalArgumentException" "java/lang/Throwable" "cause" "Ljava/lang/Throwable;") ∈ ch_GL := ch_c3 47 rfl rfl
theorem kw_528 : (Cond.lays "java/lang/Throwable" "java/lang/Throwable" "cause" "Ljava/lang/Throwable;") ∈ ch_GL := ch_c3 48 rfl rfl
theorem kw_529 : (Cond.lays "java/lang/IllegalArgumentException" "java/lang/Throwable" "stackTrace" "[Ljava/lang/StackTraceElement;") ∈ ch_GL := ch_c3 49 rfl rfl
theorem kw_530 : (Cond.lays "java/lang/Throwable" "java/lang/Throwable" "stackTrace" "[Ljava/lang/StackTraceElement;") ∈ ch_GL := ch_c3 50 rfl rfl
theorem kw_531 : (Cond.lays "java/lang/IllegalArgumentException" "java/lang/Throwable" "suppressedExceptions" "Ljava/util/List;") ∈ ch_GL := ch_c3 51 rfl rfl
theorem kw_532 : (Cond.lays "java/lang/Throwable" "java/lang/Throwable" "suppressedExceptions" "Ljava/util/List;") ∈ ch_GL := ch_c3 52 rfl rfl
theorem kw_533 : (Cond.lays "java/lang/IllegalArgumentException" "java/lang/Throwable" "detailMessage" "Ljava/lang/String;") ∈ ch_GL := ch_c3 53 rfl rfl
theorem kw_534 : (Cond.lays "java/lang/Throwable" "java/lang/Throwable" "detailMessage" "Ljava/lang/String;") ∈ ch_GL := ch_c3 54 rfl rfl
theorem kw_535 : (Cond.lays "java/lang/IllegalArgumentException" "java/lang/Throwable" "backtrace" "Ljava/lang/Object;") ∈ ch_GL := ch_c3 55 rfl rfl
theorem kw_536 : (Cond.lays "java/lang/Throwable" "java/lang/Throwable" "backtrace" "Ljava/lang/Object;") ∈ ch_GL := ch_c3 56 rfl rfl
theorem kw_537 : (Cond.fieldLink "java/lang/Throwable" (198 : Nat) "java/lang/Throwable" "backtrace" "Ljava/lang/Object;") ∈ ch_GL := ch_c3 57 rfl rfl
theorem kw_538 : (Cond.superclass "java/lang/Throwable" "java/lang/Object") ∈ ch_GL := ch_c3 58 rfl rfl
theorem kw_539 : (Cond.instanceMethod ({ cls := "java/lang/Throwable", name := "<init>", desc := "()V" } : MethodName)) ∈ ch_GL := ch_c3 59 rfl rfl
theorem kw_540 : (Cond.code ({ cls := "java/lang/Throwable", name := "<init>", desc := "()V" } : MethodName) prog_27_method_1_code (1 : Nat) (Option.none : Option FieldType)) ∈ ch_GL := ch_c3 60 rfl rfl
theorem kw_541 : (Cond.methodLink "java/lang/Throwable" (1 : Nat) ({ cls := "java/lang/Object", name := "<init>", desc := "()V" } : MethodName)) ∈ ch_GL := ch_c3 61 rfl rfl
theorem kw_542 : (Cond.fieldLink "java/lang/Throwable" (13 : Nat) "java/lang/Throwable" "UNASSIGNED_STACK" "[Ljava/lang/StackTraceElement;") ∈ ch_GL := ch_c3 62 rfl rfl
theorem kb_543 : (Cond.laysStatic "java/lang/Throwable" "UNASSIGNED_STACK" "[Ljava/lang/StackTraceElement;") ∈ lw_tbl := ch_b3 63 rfl
theorem kw_544 : (Cond.fieldLink "java/lang/Throwable" (20 : Nat) "java/lang/Throwable" "SUPPRESSED_SENTINEL" "Ljava/util/List;") ∈ ch_GL := ch_c3 64 rfl rfl
theorem kb_545 : (Cond.laysStatic "java/lang/Throwable" "SUPPRESSED_SENTINEL" "Ljava/util/List;") ∈ lw_tbl := ch_b3 65 rfl
theorem kw_546 : (Cond.methodLink "java/lang/Throwable" (27 : Nat) ({ cls := "java/lang/Throwable", name := "fillInStackTrace", desc := "()Ljava/lang/Throwable;" } : MethodName)) ∈ ch_GL := ch_c3 66 rfl rfl
theorem kw_547 : (Cond.instanceMethod ({ cls := "java/lang/Throwable", name := "fillInStackTrace", desc := "()Ljava/lang/Throwable;" } : MethodName)) ∈ ch_GL := ch_c3 67 rfl rfl
theorem kw_548 : (Cond.sameMethod "java/lang/Throwable" "java/lang/Throwable" "fillInStackTrace" "()Ljava/lang/Throwable;") ∈ ch_GL := ch_c3 68 rfl rfl
theorem kw_549 : (Cond.selects "java/util/NoSuchElementException" ({ cls := "java/lang/Throwable", name := "fillInStackTrace", desc := "()Ljava/lang/Throwable;" } : MethodName) ({ cls := "java/lang/Throwable", name := "fillInStackTrace", desc := "()Ljava/lang/Throwable;" } : MethodName)) ∈ ch_GL := ch_c3 69 rfl rfl
theorem kw_550 : (Cond.codeSync ({ cls := "java/lang/Throwable", name := "fillInStackTrace", desc := "()Ljava/lang/Throwable;" } : MethodName) prog_27_method_18_code (1 : Nat) (Option.some (FieldType.object "java/lang/Throwable"))) ∈ ch_GL := ch_c3 70 rfl rfl
theorem kw_551 : (Cond.methodLink "java/lang/Throwable" (202 : Nat) ({ cls := "java/lang/Throwable", name := "fillInStackTrace", desc := "(I)Ljava/lang/Throwable;" } : MethodName)) ∈ ch_GL := ch_c3 71 rfl rfl
theorem kb_552 : (Cond.privateMethod ({ cls := "java/lang/Throwable", name := "fillInStackTrace", desc := "(I)Ljava/lang/Throwable;" } : MethodName)) ∈ lw_tbl := ch_b3 72 rfl
theorem kw_553 : (Cond.instanceMethod ({ cls := "java/lang/Throwable", name := "fillInStackTrace", desc := "(I)Ljava/lang/Throwable;" } : MethodName)) ∈ ch_GL := ch_c3 73 rfl rfl
theorem kw_554 : (Cond.instantiable "java/lang/Throwable" (6 : Nat)) ∈ ch_GL := ch_c3 74 rfl rfl
theorem kw_555 : (Cond.native ({ cls := "java/lang/Throwable", name := "fillInStackTrace", desc := "(I)Ljava/lang/Throwable;" } : MethodName)) ∈ ch_GL := ch_c3 75 rfl rfl
theorem kb_556 : (Cond.stringRef "CellHandover" (267 : Nat) "out of range") ∈ lw_tbl := ch_b3 76 rfl
theorem kw_557 : (Cond.methodLink "CellHandover" (269 : Nat) ({ cls := "java/lang/IllegalArgumentException", name := "<init>", desc := "(Ljava/lang/String;)V" } : MethodName)) ∈ ch_GL := ch_c3 77 rfl rfl
theorem kw_558 : (Cond.instanceMethod ({ cls := "java/lang/IllegalArgumentException", name := "<init>", desc := "(Ljava/lang/String;)V" } : MethodName)) ∈ ch_GL := ch_c3 78 rfl rfl
theorem kw_559 : (Cond.code ({ cls := "java/lang/IllegalArgumentException", name := "<init>", desc := "(Ljava/lang/String;)V" } : MethodName) prog_19_method_2_code (2 : Nat) (Option.none : Option FieldType)) ∈ ch_GL := ch_c3 79 rfl rfl
theorem kw_560 : (Cond.methodLink "java/lang/IllegalArgumentException" (7 : Nat) ({ cls := "java/lang/RuntimeException", name := "<init>", desc := "(Ljava/lang/String;)V" } : MethodName)) ∈ ch_GL := ch_c3 80 rfl rfl
theorem kw_561 : (Cond.instanceMethod ({ cls := "java/lang/RuntimeException", name := "<init>", desc := "(Ljava/lang/String;)V" } : MethodName)) ∈ ch_GL := ch_c3 81 rfl rfl
theorem kw_562 : (Cond.code ({ cls := "java/lang/RuntimeException", name := "<init>", desc := "(Ljava/lang/String;)V" } : MethodName) prog_22_method_2_code (2 : Nat) (Option.none : Option FieldType)) ∈ ch_GL := ch_c3 82 rfl rfl
theorem kw_563 : (Cond.methodLink "java/lang/RuntimeException" (7 : Nat) ({ cls := "java/lang/Exception", name := "<init>", desc := "(Ljava/lang/String;)V" } : MethodName)) ∈ ch_GL := ch_c3 83 rfl rfl
theorem kw_564 : (Cond.instanceMethod ({ cls := "java/lang/Exception", name := "<init>", desc := "(Ljava/lang/String;)V" } : MethodName)) ∈ ch_GL := ch_c3 84 rfl rfl
theorem kw_565 : (Cond.code ({ cls := "java/lang/Exception", name := "<init>", desc := "(Ljava/lang/String;)V" } : MethodName) prog_18_method_2_code (2 : Nat) (Option.none : Option FieldType)) ∈ ch_GL := ch_c3 85 rfl rfl
theorem kw_566 : (Cond.methodLink "java/lang/Exception" (7 : Nat) ({ cls := "java/lang/Throwable", name := "<init>", desc := "(Ljava/lang/String;)V" } : MethodName)) ∈ ch_GL := ch_c3 86 rfl rfl
theorem kw_567 : (Cond.instanceMethod ({ cls := "java/lang/Throwable", name := "<init>", desc := "(Ljava/lang/String;)V" } : MethodName)) ∈ ch_GL := ch_c3 87 rfl rfl
theorem kw_568 : (Cond.code ({ cls := "java/lang/Throwable", name := "<init>", desc := "(Ljava/lang/String;)V" } : MethodName) prog_27_method_2_code (2 : Nat) (Option.none : Option FieldType)) ∈ ch_GL := ch_c3 88 rfl rfl
theorem kw_569 : (Cond.fieldLink "java/lang/Throwable" (198 : Nat) "java/lang/Throwable" "backtrace" "Ljava/lang/Object;") ∈ ch_GL := ch_c3 89 rfl rfl
theorem kw_570 : (Cond.fieldLink "java/lang/Throwable" (31 : Nat) "java/lang/Throwable" "detailMessage" "Ljava/lang/String;") ∈ ch_GL := ch_c3 90 rfl rfl
theorem kw_571 : (Cond.fieldLink "java/lang/Throwable" (7 : Nat) "java/lang/Throwable" "cause" "Ljava/lang/Throwable;") ∈ ch_GL := ch_c3 91 rfl rfl
theorem kw_572 : (Cond.fieldLink "java/lang/Throwable" (17 : Nat) "java/lang/Throwable" "stackTrace" "[Ljava/lang/StackTraceElement;") ∈ ch_GL := ch_c3 92 rfl rfl
theorem kw_573 : (Cond.fieldLink "java/lang/Throwable" (24 : Nat) "java/lang/Throwable" "suppressedExceptions" "Ljava/util/List;") ∈ ch_GL := ch_c3 93 rfl rfl
theorem kw_574 : (Cond.soleField "java/lang/Throwable" "backtrace") ∈ ch_GL := ch_c3 94 rfl rfl
theorem kw_575 : (Cond.soleField "java/lang/Throwable" "detailMessage") ∈ ch_GL := ch_c3 95 rfl rfl
theorem kw_576 : (Cond.soleField "java/lang/Throwable" "cause") ∈ ch_GL := ch_c3 96 rfl rfl
theorem kw_577 : (Cond.soleField "java/lang/Throwable" "stackTrace") ∈ ch_GL := ch_c3 97 rfl rfl
theorem kw_578 : (Cond.lays "java/lang/IllegalArgumentException" "java/lang/Throwable" "depth" "I") ∈ ch_GL := ch_c3 98 rfl rfl
theorem kw_579 : (Cond.soleField "java/lang/Throwable" "depth") ∈ ch_GL := ch_c3 99 rfl rfl
theorem kw_580 : (Cond.soleField "java/lang/Throwable" "suppressedExceptions") ∈ ch_GL := ch_c3 100 rfl rfl
theorem kw_581 : (Cond.superclass "java/lang/IllegalArgumentException" "java/lang/RuntimeException") ∈ ch_GL := ch_c3 101 rfl rfl
theorem kw_582 : (Cond.arrayClass FieldType.byte) ∈ ch_GL := ch_c3 102 rfl rfl
theorem kw_583 : (Cond.methodLink "CellHandover" (66 : Nat) ({ cls := "CellHandover$Text", name := "open", desc := "(I)V" } : MethodName)) ∈ ch_GL := ch_c3 103 rfl rfl
theorem kw_584 : (Cond.instanceMethod ({ cls := "CellHandover$Text", name := "open", desc := "(I)V" } : MethodName)) ∈ ch_GL := ch_c3 104 rfl rfl
theorem kw_585 : (Cond.selects "CellHandover$Text" ({ cls := "CellHandover$Text", name := "open", desc := "(I)V" } : MethodName) ({ cls := "CellHandover$Text", name := "open", desc := "(I)V" } : MethodName)) ∈ ch_GL := ch_c3 105 rfl rfl
theorem kw_586 : (Cond.code ({ cls := "CellHandover$Text", name := "open", desc := "(I)V" } : MethodName) prog_12_method_3_code (2 : Nat) (Option.none : Option FieldType)) ∈ ch_GL := ch_c3 106 rfl rfl
theorem kw_587 : (Cond.methodLink "CellHandover$Text" (31 : Nat) ({ cls := "CellHandover$Text", name := "advance", desc := "()V" } : MethodName)) ∈ ch_GL := ch_c3 107 rfl rfl
theorem kw_588 : (Cond.instanceMethod ({ cls := "CellHandover$Text", name := "advance", desc := "()V" } : MethodName)) ∈ ch_GL := ch_c3 108 rfl rfl
theorem kw_589 : (Cond.selects "CellHandover$Text" ({ cls := "CellHandover$Text", name := "advance", desc := "()V" } : MethodName) ({ cls := "CellHandover$Text", name := "advance", desc := "()V" } : MethodName)) ∈ ch_GL := ch_c3 109 rfl rfl
theorem kw_590 : (Cond.code ({ cls := "CellHandover$Text", name := "advance", desc := "()V" } : MethodName) prog_12_method_5_code (1 : Nat) (Option.none : Option FieldType)) ∈ ch_GL := ch_c3 110 rfl rfl
theorem kw_591 : (Cond.methodLink "CellHandover$Text" (37 : Nat) ({ cls := "CellHandover$Text", name := "byteAt", desc := "(I)I" } : MethodName)) ∈ ch_GL := ch_c3 111 rfl rfl
theorem kb_592 : (Cond.privateMethod ({ cls := "CellHandover$Text", name := "byteAt", desc := "(I)I" } : MethodName)) ∈ lw_tbl := ch_b3 112 rfl
theorem kw_593 : (Cond.instanceMethod ({ cls := "CellHandover$Text", name := "byteAt", desc := "(I)I" } : MethodName)) ∈ ch_GL := ch_c3 113 rfl rfl
theorem kw_594 : (Cond.code ({ cls := "CellHandover$Text", name := "byteAt", desc := "(I)I" } : MethodName) prog_12_method_6_code (2 : Nat) (Option.some FieldType.int)) ∈ ch_GL := ch_c3 114 rfl rfl
theorem kw_595 : (Cond.methodLink "CellHandover$Text" (41 : Nat) ({ cls := "CellHandover$Text", name := "kindOf", desc := "(I)I" } : MethodName)) ∈ ch_GL := ch_c3 115 rfl rfl
theorem kw_596 : (Cond.static ({ cls := "CellHandover$Text", name := "kindOf", desc := "(I)I" } : MethodName)) ∈ ch_GL := ch_c3 116 rfl rfl
theorem kw_597 : (Cond.code ({ cls := "CellHandover$Text", name := "kindOf", desc := "(I)I" } : MethodName) prog_12_method_7_code (1 : Nat) (Option.some FieldType.int)) ∈ ch_GL := ch_c3 117 rfl rfl
theorem kw_598 : (Cond.methodLink "CellHandover$Text" (44 : Nat) ({ cls := "java/lang/Math", name := "min", desc := "(II)I" } : MethodName)) ∈ ch_GL := ch_c3 118 rfl rfl
theorem kw_599 : (Cond.classLink "CellHandover" (69 : Nat) "CellHandover$NetworkReader") ∈ ch_GL := ch_c3 119 rfl rfl
theorem kw_600 : (Cond.instantiable "CellHandover$NetworkReader" (2 : Nat)) ∈ ch_GL := ch_c3 120 rfl rfl
theorem kw_601 : (Cond.methodLink "CellHandover" (71 : Nat) ({ cls := "CellHandover$NetworkReader", name := "<init>", desc := "(LCellHandover$Text;LCellHandover$Network;)V" } : MethodName)) ∈ ch_GL := ch_c3 121 rfl rfl
theorem kw_602 : (Cond.instanceMethod ({ cls := "CellHandover$NetworkReader", name := "<init>", desc := "(LCellHandover$Text;LCellHandover$Network;)V" } : MethodName)) ∈ ch_GL := ch_c3 122 rfl rfl
theorem kw_603 : (Cond.code ({ cls := "CellHandover$NetworkReader", name := "<init>", desc := "(LCellHandover$Text;LCellHandover$Network;)V" } : MethodName) prog_6_method_1_code (3 : Nat) (Option.none : Option FieldType)) ∈ ch_GL := ch_c3 123 rfl rfl
theorem kw_604 : (Cond.methodLink "CellHandover$NetworkReader" (3 : Nat) ({ cls := "java/lang/Object", name := "<init>", desc := "()V" } : MethodName)) ∈ ch_GL := ch_c3 124 rfl rfl
theorem kw_605 : (Cond.fieldLink "CellHandover$NetworkReader" (9 : Nat) "CellHandover$NetworkReader" "text" "LCellHandover$Text;") ∈ ch_GL := ch_c3 125 rfl rfl
theorem kw_606 : (Cond.fieldLink "CellHandover$NetworkReader" (15 : Nat) "CellHandover$NetworkReader" "network" "LCellHandover$Network;") ∈ ch_GL := ch_c3 126 rfl rfl
theorem kw_607 : (Cond.laysFinal "CellHandover$NetworkReader" "CellHandover$NetworkReader" "text" "LCellHandover$Text;") ∈ ch_GL := ch_c3 127 rfl rfl
theorem kw_608 : (Cond.soleField "CellHandover$NetworkReader" "text") ∈ ch_GL := ch_c3 128 rfl rfl
theorem kw_609 : (Cond.laysFinal "CellHandover$NetworkReader" "CellHandover$NetworkReader" "network" "LCellHandover$Network;") ∈ ch_GL := ch_c3 129 rfl rfl
theorem kw_610 : (Cond.soleField "CellHandover$NetworkReader" "network") ∈ ch_GL := ch_c3 130 rfl rfl
theorem kw_611 : (Cond.superclass "CellHandover$NetworkReader" "java/lang/Object") ∈ ch_GL := ch_c3 131 rfl rfl
theorem kw_612 : (Cond.methodLink "CellHandover" (74 : Nat) ({ cls := "CellHandover$NetworkReader", name := "readNetwork", desc := "()V" } : MethodName)) ∈ ch_GL := ch_c3 132 rfl rfl
theorem kw_613 : (Cond.instanceMethod ({ cls := "CellHandover$NetworkReader", name := "readNetwork", desc := "()V" } : MethodName)) ∈ ch_GL := ch_c3 133 rfl rfl
theorem kw_614 : (Cond.selects "CellHandover$NetworkReader" ({ cls := "CellHandover$NetworkReader", name := "readNetwork", desc := "()V" } : MethodName) ({ cls := "CellHandover$NetworkReader", name := "readNetwork", desc := "()V" } : MethodName)) ∈ ch_GL := ch_c3 134 rfl rfl
theorem kw_615 : (Cond.code ({ cls := "CellHandover$NetworkReader", name := "readNetwork", desc := "()V" } : MethodName) prog_6_method_2_code (2 : Nat) (Option.none : Option FieldType)) ∈ ch_GL := ch_c3 135 rfl rfl
theorem kw_616 : (Cond.methodLink "CellHandover$NetworkReader" (19 : Nat) ({ cls := "CellHandover$Network", name := "clear", desc := "()V" } : MethodName)) ∈ ch_GL := ch_c3 136 rfl rfl
theorem kw_617 : (Cond.instanceMethod ({ cls := "CellHandover$Network", name := "clear", desc := "()V" } : MethodName)) ∈ ch_GL := ch_c3 137 rfl rfl
theorem kw_618 : (Cond.selects "CellHandover$Network" ({ cls := "CellHandover$Network", name := "clear", desc := "()V" } : MethodName) ({ cls := "CellHandover$Network", name := "clear", desc := "()V" } : MethodName)) ∈ ch_GL := ch_c3 138 rfl rfl
theorem kw_619 : (Cond.code ({ cls := "CellHandover$Network", name := "clear", desc := "()V" } : MethodName) prog_5_method_8_code (3 : Nat) (Option.none : Option FieldType)) ∈ ch_GL := ch_c3 139 rfl rfl
theorem kw_620 : (Cond.methodLink "CellHandover$Network" (86 : Nat) ({ cls := "CellHandover$Relation", name := "clear", desc := "()V" } : MethodName)) ∈ ch_GL := ch_c3 140 rfl rfl
theorem kw_621 : (Cond.instanceMethod ({ cls := "CellHandover$Relation", name := "clear", desc := "()V" } : MethodName)) ∈ ch_GL := ch_c3 141 rfl rfl
theorem kw_622 : (Cond.selects "CellHandover$Relation" ({ cls := "CellHandover$Relation", name := "clear", desc := "()V" } : MethodName) ({ cls := "CellHandover$Relation", name := "clear", desc := "()V" } : MethodName)) ∈ ch_GL := ch_c3 142 rfl rfl
theorem kw_623 : (Cond.code ({ cls := "CellHandover$Relation", name := "clear", desc := "()V" } : MethodName) prog_9_method_2_code (1 : Nat) (Option.none : Option FieldType)) ∈ ch_GL := ch_c3 143 rfl rfl
theorem kw_624 : (Cond.methodLink "CellHandover$Network" (89 : Nat) ({ cls := "java/util/Arrays", name := "fill", desc := "([II)V" } : MethodName)) ∈ ch_GL := ch_c3 144 rfl rfl
theorem kw_625 : (Cond.static ({ cls := "java/util/Arrays", name := "fill", desc := "([II)V" } : MethodName)) ∈ ch_GL := ch_c3 145 rfl rfl
theorem kw_626 : (Cond.code ({ cls := "java/util/Arrays", name := "fill", desc := "([II)V" } : MethodName) prog_30_method_103_code (4 : Nat) (Option.none : Option FieldType)) ∈ ch_GL := ch_c3 146 rfl rfl
theorem kw_627 : (Cond.methodLink "CellHandover$NetworkReader" (24 : Nat) ({ cls := "CellHandover$Text", name := "goesOn", desc := "()Z" } : MethodName)) ∈ ch_GL := ch_c3 147 rfl rfl
theorem kw_628 : (Cond.instanceMethod ({ cls := "CellHandover$Text", name := "goesOn", desc := "()Z" } : MethodName)) ∈ ch_GL := ch_c3 148 rfl rfl
theorem kw_629 : (Cond.selects "CellHandover$Text" ({ cls := "CellHandover$Text", name := "goesOn", desc := "()Z" } : MethodName) ({ cls := "CellHandover$Text", name := "goesOn", desc := "()Z" } : MethodName)) ∈ ch_GL := ch_c3 149 rfl rfl
theorem kw_630 : (Cond.code ({ cls := "CellHandover$Text", name := "goesOn", desc := "()Z" } : MethodName) prog_12_method_8_code (1 : Nat) (Option.some FieldType.boolean)) ∈ ch_GL := ch_c3 150 rfl rfl
theorem kw_631 : (Cond.methodLink "CellHandover$NetworkReader" (30 : Nat) ({ cls := "CellHandover$NetworkReader", name := "readClause", desc := "()V" } : MethodName)) ∈ ch_GL := ch_c3 151 rfl rfl
theorem kb_632 : (Cond.privateMethod ({ cls := "CellHandover$NetworkReader", name := "readClause", desc := "()V" } : MethodName)) ∈ lw_tbl := ch_b3 152 rfl
theorem kw_633 : (Cond.instanceMethod ({ cls := "CellHandover$NetworkReader", name := "readClause", desc := "()V" } : MethodName)) ∈ ch_GL := ch_c3 153 rfl rfl
theorem kw_634 : (Cond.code ({ cls := "CellHandover$NetworkReader", name := "readClause", desc := "()V" } : MethodName) prog_6_method_3_code (1 : Nat) (Option.none : Option FieldType)) ∈ ch_GL := ch_c3 154 rfl rfl
theorem kb_635 : (Cond.stringRef "CellHandover$NetworkReader" (39 : Nat) "cell") ∈ lw_tbl := ch_b3 155 rfl
theorem kw_636 : (Cond.methodLink "CellHandover$NetworkReader" (41 : Nat) ({ cls := "CellHandover$Text", name := "is", desc := "(Ljava/lang/String;)Z" } : MethodName)) ∈ ch_GL := ch_c3 156 rfl rfl
theorem kw_637 : (Cond.instanceMethod ({ cls := "CellHandover$Text", name := "is", desc := "(Ljava/lang/String;)Z" } : MethodName)) ∈ ch_GL := ch_c3 157 rfl rfl
theorem kw_638 : (Cond.selects "CellHandover$Text" ({ cls := "CellHandover$Text", name := "is", desc := "(Ljava/lang/String;)Z" } : MethodName) ({ cls := "CellHandover$Text", name := "is", desc := "(Ljava/lang/String;)Z" } : MethodName)) ∈ ch_GL := ch_c3 158 rfl rfl
theorem kw_639 : (Cond.code ({ cls := "CellHandover$Text", name := "is", desc := "(Ljava/lang/String;)Z" } : MethodName) prog_12_method_9_code (3 : Nat) (Option.some FieldType.boolean)) ∈ ch_GL := ch_c3 159 rfl rfl
theorem kw_640 : (Cond.methodLink "CellHandover$Text" (53 : Nat) ({ cls := "java/lang/String", name := "length", desc := "()I" } : MethodName)) ∈ ch_GL := ch_c3 160 rfl rfl
theorem kw_641 : (Cond.instanceMethod ({ cls := "java/lang/String", name := "length", desc := "()I" } : MethodName)) ∈ ch_GL := ch_c3 161 rfl rfl
theorem kw_642 : (Cond.selects "java/lang/String" ({ cls := "java/lang/String", name := "length", desc := "()I" } : MethodName) ({ cls := "java/lang/String", name := "length", desc := "()I" } : MethodName)) ∈ ch_GL := ch_c3 162 rfl rfl
theorem kw_643 : (Cond.code ({ cls := "java/lang/String", name := "length", desc := "()I" } : MethodName) prog_23_method_54_code (1 : Nat) (Option.some FieldType.int)) ∈ ch_GL := ch_c3 163 rfl rfl
theorem kw_644 : (Cond.methodLink "java/lang/String" (335 : Nat) ({ cls := "java/lang/String", name := "coder", desc := "()B" } : MethodName)) ∈ ch_GL := ch_c3 164 rfl rfl
theorem kw_645 : (Cond.instanceMethod ({ cls := "java/lang/String", name := "coder", desc := "()B" } : MethodName)) ∈ ch_GL := ch_c3 165 rfl rfl
theorem kw_646 : (Cond.selects "java/lang/String" ({ cls := "java/lang/String", name := "coder", desc := "()B" } : MethodName) ({ cls := "java/lang/String", name := "coder", desc := "()B" } : MethodName)) ∈ ch_GL := ch_c3 166 rfl rfl
theorem kw_647 : (Cond.code ({ cls := "java/lang/String", name := "coder", desc := "()B" } : MethodName) prog_23_method_152_code (1 : Nat) (Option.some FieldType.byte)) ∈ ch_GL := ch_c3 167 rfl rfl
theorem kw_648 : (Cond.fieldLink "java/lang/String" (38 : Nat) "java/lang/String" "COMPACT_STRINGS" "Z") ∈ ch_GL := ch_c3 168 rfl rfl
theorem kb_649 : (Cond.laysStatic "java/lang/String" "COMPACT_STRINGS" "Z") ∈ lw_tbl := ch_b3 169 rfl
theorem kw_650 : (Cond.methodLink "CellHandover$Text" (59 : Nat) ({ cls := "java/lang/String", name := "charAt", desc := "(I)C" } : MethodName)) ∈ ch_GL := ch_c3 170 rfl rfl
theorem kw_651 : (Cond.instanceMethod ({ cls := "java/lang/String", name := "charAt", desc := "(I)C" } : MethodName)) ∈ ch_GL := ch_c3 171 rfl rfl
theorem kw_652 : (Cond.selects "java/lang/String" ({ cls := "java/lang/String", name := "charAt", desc := "(I)C" } : MethodName) ({ cls := "java/lang/String", name := "charAt", desc := "(I)C" } : MethodName)) ∈ ch_GL := ch_c3 172 rfl rfl
theorem kw_653 : (Cond.code ({ cls := "java/lang/String", name := "charAt", desc := "(I)C" } : MethodName) prog_23_method_56_code (2 : Nat) (Option.some FieldType.char)) ∈ ch_GL := ch_c3 173 rfl rfl
theorem kw_654 : (Cond.methodLink "java/lang/String" (492 : Nat) ({ cls := "java/lang/String", name := "isLatin1", desc := "()Z" } : MethodName)) ∈ ch_GL := ch_c3 174 rfl rfl
theorem kw_655 : (Cond.instanceMethod ({ cls := "java/lang/String", name := "isLatin1", desc := "()Z" } : MethodName)) ∈ ch_GL := ch_c3 175 rfl rfl
theorem kw_656 : (Cond.selects "java/lang/String" ({ cls := "java/lang/String", name := "isLatin1", desc := "()Z" } : MethodName) ({ cls := "java/lang/String", name := "isLatin1", desc := "()Z" } : MethodName)) ∈ ch_GL := ch_c3 176 rfl rfl
theorem kw_657 : (Cond.code ({ cls := "java/lang/String", name := "isLatin1", desc := "()Z" } : MethodName) prog_23_method_154_code (1 : Nat) (Option.some FieldType.boolean)) ∈ ch_GL := ch_c3 177 rfl rfl
theorem kw_658 : (Cond.methodLink "java/lang/String" (495 : Nat) ({ cls := "java/lang/StringLatin1", name := "charAt", desc := "([BI)C" } : MethodName)) ∈ ch_GL := ch_c3 178 rfl rfl
theorem kw_659 : (Cond.static ({ cls := "java/lang/StringLatin1", name := "charAt", desc := "([BI)C" } : MethodName)) ∈ ch_GL := ch_c3 179 rfl rfl
theorem kw_660 : (Cond.code ({ cls := "java/lang/StringLatin1", name := "charAt", desc := "([BI)C" } : MethodName) prog_24_method_2_code (2 : Nat) (Option.some FieldType.char)) ∈ ch_GL := ch_c3 180 rfl rfl
theorem kw_661 : (Cond.methodLink "java/lang/StringLatin1" (9 : Nat) ({ cls := "java/lang/String", name := "checkIndex", desc := "(II)V" } : MethodName)) ∈ ch_GL := ch_c3 181 rfl rfl
theorem kw_662 : (Cond.static ({ cls := "java/lang/String", name := "checkIndex", desc := "(II)V" } : MethodName)) ∈ ch_GL := ch_c3 182 rfl rfl
theorem kw_663 : (Cond.code ({ cls := "java/lang/String", name := "checkIndex", desc := "(II)V" } : MethodName) prog_23_method_155_code (2 : Nat) (Option.none : Option FieldType)) ∈ ch_GL := ch_c3 183 rfl rfl
theorem kw_664 : (Cond.fieldLink "java/lang/String" (1053 : Nat) "jdk/internal/util/Preconditions" "SIOOBE_FORMATTER" "Ljava/util/function/BiFunction;") ∈ ch_GL := ch_c3 184 rfl rfl
theorem kb_665 : (Cond.laysStatic "jdk/internal/util/Preconditions" "SIOOBE_FORMATTER" "Ljava/util/function/BiFunction;") ∈ lw_tbl := ch_b3 185 rfl
theorem kw_666 : (Cond.methodLink "java/lang/String" (1059 : Nat) ({ cls := "jdk/internal/util/Preconditions", name := "checkIndex", desc := "(IILjava/util/function/BiFunction;)I" } : MethodName)) ∈ ch_GL := ch_c3 186 rfl rfl
theorem kw_667 : (Cond.static ({ cls := "jdk/internal/util/Preconditions", name := "checkIndex", desc := "(IILjava/util/function/BiFunction;)I" } : MethodName)) ∈ ch_GL := ch_c3 187 rfl rfl
theorem kw_668 : (Cond.code ({ cls := "jdk/internal/util/Preconditions", name := "checkIndex", desc := "(IILjava/util/function/BiFunction;)I" } : MethodName) prog_32_method_11_code (3 : Nat) (Option.some FieldType.int)) ∈ ch_GL := ch_c3 188 rfl rfl
theorem kw_669 : (Cond.methodLink "java/lang/String" (498 : Nat) ({ cls := "java/lang/StringUTF16", name := "charAt", desc := "([BI)C" } : MethodName)) ∈ ch_GL := ch_c3 189 rfl rfl
theorem kw_670 : (Cond.static ({ cls := "java/lang/StringUTF16", name := "charAt", desc := "([BI)C" } : MethodName)) ∈ ch_GL := ch_c3 190 rfl rfl
theorem kw_671 : (Cond.code ({ cls := "java/lang/StringUTF16", name := "charAt", desc := "([BI)C" } : MethodName) prog_25_method_83_code (2 : Nat) (Option.some FieldType.char)) ∈ ch_GL := ch_c3 191 rfl rfl
theorem kw_672 : (Cond.methodLink "java/lang/StringUTF16" (67 : Nat) ({ cls := "java/lang/StringUTF16", name := "checkIndex", desc := "(I[B)V" } : MethodName)) ∈ ch_GL := ch_c3 192 rfl rfl
theorem kw_673 : (Cond.static ({ cls := "java/lang/StringUTF16", name := "checkIndex", desc := "(I[B)V" } : MethodName)) ∈ ch_GL := ch_c3 193 rfl rfl
theorem kw_674 : (Cond.code ({ cls := "java/lang/StringUTF16", name := "checkIndex", desc := "(I[B)V" } : MethodName) prog_25_method_91_code (2 : Nat) (Option.none : Option FieldType)) ∈ ch_GL := ch_c3 194 rfl rfl
theorem kw_675 : (Cond.methodLink "java/lang/StringUTF16" (48 : Nat) ({ cls := "java/lang/StringUTF16", name := "length", desc := "([B)I" } : MethodName)) ∈ ch_GL := ch_c3 195 rfl rfl
theorem kw_676 : (Cond.static ({ cls := "java/lang/StringUTF16", name := "length", desc := "([B)I" } : MethodName)) ∈ ch_GL := ch_c3 196 rfl rfl
theorem kw_677 : (Cond.code ({ cls := "java/lang/StringUTF16", name := "length", desc := "([B)I" } : MethodName) prog_25_method_6_code (1 : Nat) (Option.some FieldType.int)) ∈ ch_GL := ch_c3 197 rfl rfl
theorem kw_678 : (Cond.methodLink "java/lang/StringUTF16" (414 : Nat) ({ cls := "java/lang/String", name := "checkIndex", desc := "(II)V" } : MethodName)) ∈ ch_GL := ch_c3 198 rfl rfl
theorem kw_679 : (Cond.methodLink "java/lang/StringUTF16" (71 : Nat) ({ cls := "java/lang/StringUTF16", name := "getChar", desc := "([BI)C" } : MethodName)) ∈ ch_GL := ch_c3 199 rfl rfl
theorem kw_680 : (Cond.static ({ cls := "java/lang/StringUTF16", name := "getChar", desc := "([BI)C" } : MethodName)) ∈ ch_GL := ch_c3 200 rfl rfl
theorem kw_681 : (Cond.code ({ cls := "java/lang/StringUTF16", name := "getChar", desc := "([BI)C" } : MethodName) prog_25_method_5_code (2 : Nat) (Option.some FieldType.char)) ∈ ch_GL := ch_c3 201 rfl rfl
theorem kw_682 : (Cond.fieldLink "java/lang/StringUTF16" (44 : Nat) "java/lang/StringUTF16" "$assertionsDisabled" "Z") ∈ ch_GL := ch_c3 202 rfl rfl
theorem kb_683 : (Cond.laysStatic "java/lang/StringUTF16" "$assertionsDisabled" "Z") ∈ lw_tbl := ch_b3 203 rfl
theorem kw_684 : (Cond.fieldLink "java/lang/StringUTF16" (59 : Nat) "java/lang/StringUTF16" "HI_BYTE_SHIFT" "I") ∈ ch_GL := ch_c3 204 rfl rfl
theorem kb_685 : (Cond.laysStatic "java/lang/StringUTF16" "HI_BYTE_SHIFT" "I") ∈ lw_tbl := ch_b3 205 rfl
theorem kw_686 : (Cond.fieldLink "java/lang/StringUTF16" (63 : Nat) "java/lang/StringUTF16" "LO_BYTE_SHIFT" "I") ∈ ch_GL := ch_c3 206 rfl rfl
theorem kb_687 : (Cond.laysStatic "java/lang/StringUTF16" "LO_BYTE_SHIFT" "I") ∈ lw_tbl := ch_b3 207 rfl
theorem kw_688 : (Cond.methodLink "CellHandover$NetworkReader" (45 : Nat) ({ cls := "CellHandover$NetworkReader", name := "readCell", desc := "()V" } : MethodName)) ∈ ch_GL := ch_c3 208 rfl rfl
theorem kb_689 : (Cond.privateMethod ({ cls := "CellHandover$NetworkReader", name := "readCell", desc := "()V" } : MethodName)) ∈ lw_tbl := ch_b3 209 rfl
theorem kw_690 : (Cond.instanceMethod ({ cls := "CellHandover$NetworkReader", name := "readCell", desc := "()V" } : MethodName)) ∈ ch_GL := ch_c3 210 rfl rfl
theorem kw_691 : (Cond.code ({ cls := "CellHandover$NetworkReader", name := "readCell", desc := "()V" } : MethodName) prog_6_method_4_code (2 : Nat) (Option.none : Option FieldType)) ∈ ch_GL := ch_c3 211 rfl rfl
theorem kw_692 : (Cond.methodLink "CellHandover$NetworkReader" (58 : Nat) ({ cls := "CellHandover$Text", name := "fail", desc := "(I)V" } : MethodName)) ∈ ch_GL := ch_c3 212 rfl rfl
theorem kw_693 : (Cond.instanceMethod ({ cls := "CellHandover$Text", name := "fail", desc := "(I)V" } : MethodName)) ∈ ch_GL := ch_c3 213 rfl rfl
theorem kw_694 : (Cond.selects "CellHandover$Text" ({ cls := "CellHandover$Text", name := "fail", desc := "(I)V" } : MethodName) ({ cls := "CellHandover$Text", name := "fail", desc := "(I)V" } : MethodName)) ∈ ch_GL := ch_c3 214 rfl rfl
theorem kw_695 : (Cond.code ({ cls := "CellHandover$Text", name := "fail", desc := "(I)V" } : MethodName) prog_12_method_10_code (2 : Nat) (Option.none : Option FieldType)) ∈ ch_GL := ch_c3 215 rfl rfl
theorem kw_696 : (Cond.methodLink "CellHandover$NetworkReader" (66 : Nat) ({ cls := "CellHandover$Text", name := "advance", desc := "()V" } : MethodName)) ∈ ch_GL := ch_c3 216 rfl rfl
theorem kw_697 : (Cond.methodLink "CellHandover$NetworkReader" (69 : Nat) ({ cls := "CellHandover$Network", name := "cellAt", desc := "(I)LCellHandover$Cell;" } : MethodName)) ∈ ch_GL := ch_c3 217 rfl rfl
theorem kw_698 : (Cond.methodLink "CellHandover$NetworkReader" (73 : Nat) ({ cls := "CellHandover$Text", name := "takeNumber", desc := "(II)I" } : MethodName)) ∈ ch_GL := ch_c3 218 rfl rfl
theorem kw_699 : (Cond.instanceMethod ({ cls := "CellHandover$Text", name := "takeNumber", desc := "(II)I" } : MethodName)) ∈ ch_GL := ch_c3 219 rfl rfl
theorem kw_700 : (Cond.selects "CellHandover$Text" ({ cls := "CellHandover$Text", name := "takeNumber", desc := "(II)I" } : MethodName) ({ cls := "CellHandover$Text", name := "takeNumber", desc := "(II)I" } : MethodName)) ∈ ch_GL := ch_c3 220 rfl rfl
theorem kw_701 : (Cond.code ({ cls := "CellHandover$Text", name := "takeNumber", desc := "(II)I" } : MethodName) prog_12_method_12_code (4 : Nat) (Option.some FieldType.int)) ∈ ch_GL := ch_c3 221 rfl rfl
theorem kw_702 : (Cond.methodLink "CellHandover$Text" (71 : Nat) ({ cls := "CellHandover$Text", name := "seeNumber", desc := "(II)I" } : MethodName)) ∈ ch_GL := ch_c3 222 rfl rfl
theorem kw_703 : (Cond.instanceMethod ({ cls := "CellHandover$Text", name := "seeNumber", desc := "(II)I" } : MethodName)) ∈ ch_GL := ch_c3 223 rfl rfl
theorem kw_704 : (Cond.selects "CellHandover$Text" ({ cls := "CellHandover$Text", name := "seeNumber", desc := "(II)I" } : MethodName) ({ cls := "CellHandover$Text", name := "seeNumber", desc := "(II)I" } : MethodName)) ∈ ch_GL := ch_c3 224 rfl rfl
theorem kw_705 : (Cond.code ({ cls := "CellHandover$Text", name := "seeNumber", desc := "(II)I" } : MethodName) prog_12_method_13_code (5 : Nat) (Option.some FieldType.int)) ∈ ch_GL := ch_c3 225 rfl rfl
theorem kw_706 : (Cond.methodLink "CellHandover$Text" (67 : Nat) ({ cls := "CellHandover$Text", name := "fail", desc := "(I)V" } : MethodName)) ∈ ch_GL := ch_c3 226 rfl rfl
theorem kw_707 : (Cond.constant "CellHandover$Text" (74 : Nat) (100000 : Int32)) ∈ ch_GL := ch_c3 227 rfl rfl
theorem kb_708 : (Cond.stringRef "CellHandover$NetworkReader" (48 : Nat) "relation") ∈ lw_tbl := ch_b3 228 rfl
theorem kw_709 : (Cond.methodLink "CellHandover$NetworkReader" (50 : Nat) ({ cls := "CellHandover$NetworkReader", name := "readRelation", desc := "()V" } : MethodName)) ∈ ch_GL := ch_c3 229 rfl rfl
theorem kb_710 : (Cond.privateMethod ({ cls := "CellHandover$NetworkReader", name := "readRelation", desc := "()V" } : MethodName)) ∈ lw_tbl := ch_b3 230 rfl
theorem kw_711 : (Cond.instanceMethod ({ cls := "CellHandover$NetworkReader", name := "readRelation", desc := "()V" } : MethodName)) ∈ ch_GL := ch_c3 231 rfl rfl
theorem kw_712 : (Cond.code ({ cls := "CellHandover$NetworkReader", name := "readRelation", desc := "()V" } : MethodName) prog_6_method_5_code (4 : Nat) (Option.none : Option FieldType)) ∈ ch_GL := ch_c3 232 rfl rfl
theorem kw_713 : (Cond.methodLink "CellHandover$NetworkReader" (109 : Nat) ({ cls := "CellHandover$Text", name := "seeNumber", desc := "(II)I" } : MethodName)) ∈ ch_GL := ch_c3 233 rfl rfl
theorem kw_714 : (Cond.methodLink "CellHandover$NetworkReader" (112 : Nat) ({ cls := "CellHandover$Network", name := "relationAt", desc := "(II)LCellHandover$Relation;" } : MethodName)) ∈ ch_GL := ch_c3 234 rfl rfl
theorem kb_715 : (Cond.stringRef "CellHandover$NetworkReader" (53 : Nat) "settings") ∈ lw_tbl := ch_b3 235 rfl
theorem kw_716 : (Cond.methodLink "CellHandover$NetworkReader" (55 : Nat) ({ cls := "CellHandover$NetworkReader", name := "readSettings", desc := "()V" } : MethodName)) ∈ ch_GL := ch_c3 236 rfl rfl
theorem kb_717 : (Cond.privateMethod ({ cls := "CellHandover$NetworkReader", name := "readSettings", desc := "()V" } : MethodName)) ∈ lw_tbl := ch_b3 237 rfl
theorem kw_718 : (Cond.instanceMethod ({ cls := "CellHandover$NetworkReader", name := "readSettings", desc := "()V" } : MethodName)) ∈ ch_GL := ch_c3 238 rfl rfl
theorem kw_719 : (Cond.code ({ cls := "CellHandover$NetworkReader", name := "readSettings", desc := "()V" } : MethodName) prog_6_method_6_code (1 : Nat) (Option.none : Option FieldType)) ∈ ch_GL := ch_c3 239 rfl rfl
theorem kb_720 : (Cond.stringRef "CellHandover$NetworkReader" (33 : Nat) ";") ∈ lw_tbl := ch_b4 0 rfl
theorem kw_721 : (Cond.methodLink "CellHandover$NetworkReader" (35 : Nat) ({ cls := "CellHandover$Text", name := "expect", desc := "(Ljava/lang/String;)V" } : MethodName)) ∈ ch_GL := ch_c4 1 rfl rfl
theorem kw_722 : (Cond.instanceMethod ({ cls := "CellHandover$Text", name := "expect", desc := "(Ljava/lang/String;)V" } : MethodName)) ∈ ch_GL := ch_c4 2 rfl rfl
theorem kw_723 : (Cond.selects "CellHandover$Text" ({ cls := "CellHandover$Text", name := "expect", desc := "(Ljava/lang/String;)V" } : MethodName) ({ cls := "CellHandover$Text", name := "expect", desc := "(Ljava/lang/String;)V" } : MethodName)) ∈ ch_GL := ch_c4 3 rfl rfl
theorem kw_724 : (Cond.code ({ cls := "CellHandover$Text", name := "expect", desc := "(Ljava/lang/String;)V" } : MethodName) prog_12_method_11_code (2 : Nat) (Option.none : Option FieldType)) ∈ ch_GL := ch_c4 4 rfl rfl
theorem kw_725 : (Cond.methodLink "CellHandover$Text" (63 : Nat) ({ cls := "CellHandover$Text", name := "is", desc := "(Ljava/lang/String;)Z" } : MethodName)) ∈ ch_GL := ch_c4 5 rfl rfl
theorem kw_726 : (Cond.methodLink "CellHandover" (77 : Nat) ({ cls := "CellHandover$Text", name := "close", desc := "()V" } : MethodName)) ∈ ch_GL := ch_c4 6 rfl rfl
theorem kw_727 : (Cond.instanceMethod ({ cls := "CellHandover$Text", name := "close", desc := "()V" } : MethodName)) ∈ ch_GL := ch_c4 7 rfl rfl
theorem kw_728 : (Cond.selects "CellHandover$Text" ({ cls := "CellHandover$Text", name := "close", desc := "()V" } : MethodName) ({ cls := "CellHandover$Text", name := "close", desc := "()V" } : MethodName)) ∈ ch_GL := ch_c4 8 rfl rfl
theorem kw_729 : (Cond.code ({ cls := "CellHandover$Text", name := "close", desc := "()V" } : MethodName) prog_12_method_4_code (1 : Nat) (Option.none : Option FieldType)) ∈ ch_GL := ch_c4 9 rfl rfl
theorem kw_730 : (Cond.methodLink "CellHandoverLaw" (150 : Nat) ({ cls := "CellHandoverLaw", name := "hysteresis", desc := "(LCellHandover;II[J)I" } : MethodName)) ∈ ch_GL := ch_c4 10 rfl rfl
theorem kw_731 : (Cond.static ({ cls := "CellHandoverLaw", name := "hysteresis", desc := "(LCellHandover;II[J)I" } : MethodName)) ∈ ch_GL := ch_c4 11 rfl rfl
theorem kw_732 : (Cond.codeWith ({ cls := "CellHandoverLaw", name := "hysteresis", desc := "(LCellHandover;II[J)I" } : MethodName) method_4_code (5 : Nat) (Option.some FieldType.int) [((0 : Nat), (10 : Nat), (13 : Nat), (19 : Nat))]) ∈ ch_GL := ch_c4 12 rfl rfl
theorem kw_733 : (Cond.classLink "CellHandoverLaw" (19 : Nat) "java/util/NoSuchElementException") ∈ ch_GL := ch_c4 13 rfl rfl
theorem kw_734 : (Cond.methodLink "CellHandoverLaw" (15 : Nat) ({ cls := "CellHandover", name := "hysteresis", desc := "(II)I" } : MethodName)) ∈ ch_GL := ch_c4 14 rfl rfl
theorem kw_735 : (Cond.instanceMethod ({ cls := "CellHandover", name := "hysteresis", desc := "(II)I" } : MethodName)) ∈ ch_GL := ch_c4 15 rfl rfl
theorem kw_736 : (Cond.selects "CellHandover" ({ cls := "CellHandover", name := "hysteresis", desc := "(II)I" } : MethodName) ({ cls := "CellHandover", name := "hysteresis", desc := "(II)I" } : MethodName)) ∈ ch_GL := ch_c4 16 rfl rfl
theorem kw_737 : (Cond.code ({ cls := "CellHandover", name := "hysteresis", desc := "(II)I" } : MethodName) prog_1_method_9_code (4 : Nat) (Option.some FieldType.int)) ∈ ch_GL := ch_c4 17 rfl rfl
theorem kw_738 : (Cond.methodLink "CellHandover" (105 : Nat) ({ cls := "CellHandover", name := "requireCell", desc := "(I)V" } : MethodName)) ∈ ch_GL := ch_c4 18 rfl rfl
theorem kb_739 : (Cond.privateMethod ({ cls := "CellHandover", name := "requireCell", desc := "(I)V" } : MethodName)) ∈ lw_tbl := ch_b4 19 rfl
theorem kw_740 : (Cond.instanceMethod ({ cls := "CellHandover", name := "requireCell", desc := "(I)V" } : MethodName)) ∈ ch_GL := ch_c4 20 rfl rfl
theorem kw_741 : (Cond.code ({ cls := "CellHandover", name := "requireCell", desc := "(I)V" } : MethodName) prog_1_method_44_code (2 : Nat) (Option.none : Option FieldType)) ∈ ch_GL := ch_c4 21 rfl rfl
theorem kw_742 : (Cond.classLink "CellHandover" (253 : Nat) "java/util/NoSuchElementException") ∈ ch_GL := ch_c4 22 rfl rfl
theorem kw_743 : (Cond.instantiable "java/util/NoSuchElementException" (6 : Nat)) ∈ ch_GL := ch_c4 23 rfl rfl
theorem kb_744 : (Cond.castable "java/util/NoSuchElementException" "java/util/NoSuchElementException") ∈ lw_tbl := ch_b4 24 rfl
theorem kw_745 : (Cond.selects "java/util/NoSuchElementException" ({ cls := "java/lang/Throwable", name := "fillInStackTrace", desc := "(I)Ljava/lang/Throwable;" } : MethodName) ({ cls := "java/lang/Throwable", name := "fillInStackTrace", desc := "(I)Ljava/lang/Throwable;" } : MethodName)) ∈ ch_GL := ch_c4 25 rfl rfl
theorem kw_746 : (Cond.lays "java/util/NoSuchElementException" "java/lang/Throwable" "cause" "Ljava/lang/Throwable;") ∈ ch_GL := ch_c4 26 rfl rfl
theorem kw_747 : (Cond.lays "java/util/NoSuchElementException" "java/lang/Throwable" "stackTrace" "[Ljava/lang/StackTraceElement;") ∈ ch_GL := ch_c4 27 rfl rfl
theorem kw_748 : (Cond.lays "java/util/NoSuchElementException" "java/lang/Throwable" "suppressedExceptions" "Ljava/util/List;") ∈ ch_GL := ch_c4 28 rfl rfl
theorem kw_749 : (Cond.lays "java/util/NoSuchElementException" "java/lang/Throwable" "detailMessage" "Ljava/lang/String;") ∈ ch_GL := ch_c4 29 rfl rfl
theorem kw_750 : (Cond.lays "java/util/NoSuchElementException" "java/lang/Throwable" "backtrace" "Ljava/lang/Object;") ∈ ch_GL := ch_c4 30 rfl rfl
theorem kb_751 : (Cond.stringRef "CellHandover" (255 : Nat) "no such cell") ∈ lw_tbl := ch_b4 31 rfl
theorem kw_752 : (Cond.methodLink "CellHandover" (257 : Nat) ({ cls := "java/util/NoSuchElementException", name := "<init>", desc := "(Ljava/lang/String;)V" } : MethodName)) ∈ ch_GL := ch_c4 32 rfl rfl
theorem kw_753 : (Cond.instanceMethod ({ cls := "java/util/NoSuchElementException", name := "<init>", desc := "(Ljava/lang/String;)V" } : MethodName)) ∈ ch_GL := ch_c4 33 rfl rfl
theorem kw_754 : (Cond.code ({ cls := "java/util/NoSuchElementException", name := "<init>", desc := "(Ljava/lang/String;)V" } : MethodName) prog_31_method_4_code (2 : Nat) (Option.none : Option FieldType)) ∈ ch_GL := ch_c4 34 rfl rfl
theorem kw_755 : (Cond.methodLink "java/util/NoSuchElementException" (13 : Nat) ({ cls := "java/lang/RuntimeException", name := "<init>", desc := "(Ljava/lang/String;)V" } : MethodName)) ∈ ch_GL := ch_c4 35 rfl rfl
theorem kw_756 : (Cond.lays "java/util/NoSuchElementException" "java/lang/Throwable" "depth" "I") ∈ ch_GL := ch_c4 36 rfl rfl
theorem kw_757 : (Cond.superclass "java/util/NoSuchElementException" "java/lang/RuntimeException") ∈ ch_GL := ch_c4 37 rfl rfl
theorem kw_758 : (Cond.methodLink "CellHandover" (108 : Nat) ({ cls := "CellHandover$Network", name := "relationAt", desc := "(II)LCellHandover$Relation;" } : MethodName)) ∈ ch_GL := ch_c4 38 rfl rfl
theorem kw_759 : (Cond.methodLink "CellHandoverLaw" (154 : Nat) ({ cls := "CellHandoverLaw", name := "level", desc := "(LCellHandover;III[J)I" } : MethodName)) ∈ ch_GL := ch_c4 39 rfl rfl
theorem kw_760 : (Cond.static ({ cls := "CellHandoverLaw", name := "level", desc := "(LCellHandover;III[J)I" } : MethodName)) ∈ ch_GL := ch_c4 40 rfl rfl
theorem kw_761 : (Cond.codeWith ({ cls := "CellHandoverLaw", name := "level", desc := "(LCellHandover;III[J)I" } : MethodName) method_5_code (6 : Nat) (Option.some FieldType.int) [((0 : Nat), (12 : Nat), (15 : Nat), (19 : Nat)), ((0 : Nat), (12 : Nat), (19 : Nat), (13 : Nat))]) ∈ ch_GL := ch_c4 41 rfl rfl
theorem kw_762 : (Cond.methodLink "CellHandoverLaw" (21 : Nat) ({ cls := "CellHandover", name := "level", desc := "(III)I" } : MethodName)) ∈ ch_GL := ch_c4 42 rfl rfl
theorem kw_763 : (Cond.instanceMethod ({ cls := "CellHandover", name := "level", desc := "(III)I" } : MethodName)) ∈ ch_GL := ch_c4 43 rfl rfl
theorem kw_764 : (Cond.selects "CellHandover" ({ cls := "CellHandover", name := "level", desc := "(III)I" } : MethodName) ({ cls := "CellHandover", name := "level", desc := "(III)I" } : MethodName)) ∈ ch_GL := ch_c4 44 rfl rfl
theorem kw_765 : (Cond.code ({ cls := "CellHandover", name := "level", desc := "(III)I" } : MethodName) prog_1_method_10_code (4 : Nat) (Option.some FieldType.int)) ∈ ch_GL := ch_c4 45 rfl rfl
theorem kw_766 : (Cond.methodLink "CellHandover" (120 : Nat) ({ cls := "CellHandover$Network", name := "cellAt", desc := "(I)LCellHandover$Cell;" } : MethodName)) ∈ ch_GL := ch_c4 46 rfl rfl
theorem kw_767 : (Cond.methodLink "CellHandover" (124 : Nat) ({ cls := "CellHandover$Cell", name := "levelAt", desc := "(II)I" } : MethodName)) ∈ ch_GL := ch_c4 47 rfl rfl
theorem kw_768 : (Cond.instanceMethod ({ cls := "CellHandover$Cell", name := "levelAt", desc := "(II)I" } : MethodName)) ∈ ch_GL := ch_c4 48 rfl rfl
theorem kw_769 : (Cond.selects "CellHandover$Cell" ({ cls := "CellHandover$Cell", name := "levelAt", desc := "(II)I" } : MethodName) ({ cls := "CellHandover$Cell", name := "levelAt", desc := "(II)I" } : MethodName)) ∈ ch_GL := ch_c4 49 rfl rfl
theorem kw_770 : (Cond.code ({ cls := "CellHandover$Cell", name := "levelAt", desc := "(II)I" } : MethodName) prog_2_method_2_code (4 : Nat) (Option.some FieldType.int)) ∈ ch_GL := ch_c4 50 rfl rfl
theorem kw_771 : (Cond.methodLink "CellHandover$Cell" (13 : Nat) ({ cls := "java/lang/Math", name := "abs", desc := "(I)I" } : MethodName)) ∈ ch_GL := ch_c4 51 rfl rfl
theorem kw_772 : (Cond.static ({ cls := "java/lang/Math", name := "abs", desc := "(I)I" } : MethodName)) ∈ ch_GL := ch_c4 52 rfl rfl
theorem kw_773 : (Cond.code ({ cls := "java/lang/Math", name := "abs", desc := "(I)I" } : MethodName) prog_21_method_59_code (1 : Nat) (Option.some FieldType.int)) ∈ ch_GL := ch_c4 53 rfl rfl
theorem kw_774 : (Cond.methodLink "CellHandover$Cell" (28 : Nat) ({ cls := "java/lang/Math", name := "max", desc := "(II)I" } : MethodName)) ∈ ch_GL := ch_c4 54 rfl rfl
theorem kw_775 : (Cond.static ({ cls := "java/lang/Math", name := "max", desc := "(II)I" } : MethodName)) ∈ ch_GL := ch_c4 55 rfl rfl
theorem kw_776 : (Cond.code ({ cls := "java/lang/Math", name := "max", desc := "(II)I" } : MethodName) prog_21_method_65_code (2 : Nat) (Option.some FieldType.int)) ∈ ch_GL := ch_c4 56 rfl rfl
theorem kw_777 : (Cond.methodLink "CellHandoverLaw" (158 : Nat) ({ cls := "CellHandoverLaw", name := "strongestCell", desc := "(LCellHandover;II[J)I" } : MethodName)) ∈ ch_GL := ch_c4 57 rfl rfl
theorem kw_778 : (Cond.static ({ cls := "CellHandoverLaw", name := "strongestCell", desc := "(LCellHandover;II[J)I" } : MethodName)) ∈ ch_GL := ch_c4 58 rfl rfl
theorem kw_779 : (Cond.codeWith ({ cls := "CellHandoverLaw", name := "strongestCell", desc := "(LCellHandover;II[J)I" } : MethodName) method_6_code (5 : Nat) (Option.some FieldType.int) [((0 : Nat), (10 : Nat), (13 : Nat), (13 : Nat))]) ∈ ch_GL := ch_c4 59 rfl rfl
theorem kw_780 : (Cond.methodLink "CellHandoverLaw" (25 : Nat) ({ cls := "CellHandover", name := "strongestCell", desc := "(II)I" } : MethodName)) ∈ ch_GL := ch_c4 60 rfl rfl
theorem kw_781 : (Cond.instanceMethod ({ cls := "CellHandover", name := "strongestCell", desc := "(II)I" } : MethodName)) ∈ ch_GL := ch_c4 61 rfl rfl
theorem kw_782 : (Cond.selects "CellHandover" ({ cls := "CellHandover", name := "strongestCell", desc := "(II)I" } : MethodName) ({ cls := "CellHandover", name := "strongestCell", desc := "(II)I" } : MethodName)) ∈ ch_GL := ch_c4 62 rfl rfl
theorem kw_783 : (Cond.code ({ cls := "CellHandover", name := "strongestCell", desc := "(II)I" } : MethodName) prog_1_method_11_code (3 : Nat) (Option.some FieldType.int)) ∈ ch_GL := ch_c4 63 rfl rfl
theorem kw_784 : (Cond.methodLink "CellHandover" (130 : Nat) ({ cls := "CellHandover$Network", name := "coveringCell", desc := "(II)I" } : MethodName)) ∈ ch_GL := ch_c4 64 rfl rfl
theorem kw_785 : (Cond.instanceMethod ({ cls := "CellHandover$Network", name := "coveringCell", desc := "(II)I" } : MethodName)) ∈ ch_GL := ch_c4 65 rfl rfl
theorem kw_786 : (Cond.selects "CellHandover$Network" ({ cls := "CellHandover$Network", name := "coveringCell", desc := "(II)I" } : MethodName) ({ cls := "CellHandover$Network", name := "coveringCell", desc := "(II)I" } : MethodName)) ∈ ch_GL := ch_c4 66 rfl rfl
theorem kw_787 : (Cond.code ({ cls := "CellHandover$Network", name := "coveringCell", desc := "(II)I" } : MethodName) prog_5_method_11_code (4 : Nat) (Option.some FieldType.int)) ∈ ch_GL := ch_c4 67 rfl rfl
theorem kw_788 : (Cond.methodLink "CellHandover$Network" (121 : Nat) ({ cls := "CellHandover$Network", name := "loudestCell", desc := "(II)I" } : MethodName)) ∈ ch_GL := ch_c4 68 rfl rfl
theorem kw_789 : (Cond.instanceMethod ({ cls := "CellHandover$Network", name := "loudestCell", desc := "(II)I" } : MethodName)) ∈ ch_GL := ch_c4 69 rfl rfl
theorem kw_790 : (Cond.selects "CellHandover$Network" ({ cls := "CellHandover$Network", name := "loudestCell", desc := "(II)I" } : MethodName) ({ cls := "CellHandover$Network", name := "loudestCell", desc := "(II)I" } : MethodName)) ∈ ch_GL := ch_c4 70 rfl rfl
theorem kw_791 : (Cond.code ({ cls := "CellHandover$Network", name := "loudestCell", desc := "(II)I" } : MethodName) prog_5_method_10_code (7 : Nat) (Option.some FieldType.int)) ∈ ch_GL := ch_c4 71 rfl rfl
theorem kw_792 : (Cond.methodLink "CellHandover$Network" (117 : Nat) ({ cls := "CellHandover$Cell", name := "levelAt", desc := "(II)I" } : MethodName)) ∈ ch_GL := ch_c4 72 rfl rfl
theorem kw_793 : (Cond.methodLink "CellHandover$Network" (124 : Nat) ({ cls := "CellHandover$Network", name := "canBeUsed", desc := "(III)Z" } : MethodName)) ∈ ch_GL := ch_c4 73 rfl rfl
theorem kb_794 : (Cond.privateMethod ({ cls := "CellHandover$Network", name := "canBeUsed", desc := "(III)Z" } : MethodName)) ∈ lw_tbl := ch_b4 74 rfl
theorem kw_795 : (Cond.instanceMethod ({ cls := "CellHandover$Network", name := "canBeUsed", desc := "(III)Z" } : MethodName)) ∈ ch_GL := ch_c4 75 rfl rfl
theorem kw_796 : (Cond.code ({ cls := "CellHandover$Network", name := "canBeUsed", desc := "(III)Z" } : MethodName) prog_5_method_12_code (5 : Nat) (Option.some FieldType.boolean)) ∈ ch_GL := ch_c4 76 rfl rfl
theorem kw_797 : (Cond.methodLink "CellHandoverLaw" (161 : Nat) ({ cls := "CellHandoverLaw", name := "coverage", desc := "(LCellHandover;I[J)I" } : MethodName)) ∈ ch_GL := ch_c4 77 rfl rfl
theorem kw_798 : (Cond.static ({ cls := "CellHandoverLaw", name := "coverage", desc := "(LCellHandover;I[J)I" } : MethodName)) ∈ ch_GL := ch_c4 78 rfl rfl
theorem kw_799 : (Cond.codeWith ({ cls := "CellHandoverLaw", name := "coverage", desc := "(LCellHandover;I[J)I" } : MethodName) method_7_code (4 : Nat) (Option.some FieldType.int) [((0 : Nat), (9 : Nat), (12 : Nat), (19 : Nat))]) ∈ ch_GL := ch_c4 79 rfl rfl
theorem kw_800 : (Cond.methodLink "CellHandoverLaw" (28 : Nat) ({ cls := "CellHandover", name := "coverage", desc := "(I)I" } : MethodName)) ∈ ch_GL := ch_c4 80 rfl rfl
theorem kw_801 : (Cond.instanceMethod ({ cls := "CellHandover", name := "coverage", desc := "(I)I" } : MethodName)) ∈ ch_GL := ch_c4 81 rfl rfl
theorem kw_802 : (Cond.selects "CellHandover" ({ cls := "CellHandover", name := "coverage", desc := "(I)I" } : MethodName) ({ cls := "CellHandover", name := "coverage", desc := "(I)I" } : MethodName)) ∈ ch_GL := ch_c4 82 rfl rfl
theorem kw_803 : (Cond.code ({ cls := "CellHandover", name := "coverage", desc := "(I)I" } : MethodName) prog_1_method_12_code (2 : Nat) (Option.some FieldType.int)) ∈ ch_GL := ch_c4 83 rfl rfl
theorem kw_804 : (Cond.methodLink "CellHandover" (133 : Nat) ({ cls := "CellHandover$Survey", name := "countCovered", desc := "(LCellHandover$Network;I)I" } : MethodName)) ∈ ch_GL := ch_c4 84 rfl rfl
theorem kw_805 : (Cond.instanceMethod ({ cls := "CellHandover$Survey", name := "countCovered", desc := "(LCellHandover$Network;I)I" } : MethodName)) ∈ ch_GL := ch_c4 85 rfl rfl
theorem kw_806 : (Cond.selects "CellHandover$Survey" ({ cls := "CellHandover$Survey", name := "countCovered", desc := "(LCellHandover$Network;I)I" } : MethodName) ({ cls := "CellHandover$Survey", name := "countCovered", desc := "(LCellHandover$Network;I)I" } : MethodName)) ∈ ch_GL := ch_c4 86 rfl rfl
theorem kw_807 : (Cond.code ({ cls := "CellHandover$Survey", name := "countCovered", desc := "(LCellHandover$Network;I)I" } : MethodName) prog_11_method_2_code (6 : Nat) (Option.some FieldType.int)) ∈ ch_GL := ch_c4 87 rfl rfl
theorem kw_808 : (Cond.methodLink "CellHandover$Survey" (15 : Nat) ({ cls := "CellHandover$Network", name := "coveringCell", desc := "(II)I" } : MethodName)) ∈ ch_GL := ch_c4 88 rfl rfl
theorem kw_809 : (Cond.methodLink "CellHandoverLaw" (164 : Nat) ({ cls := "CellHandoverLaw", name := "missingRelation", desc := "(LCellHandover;I[J)I" } : MethodName)) ∈ ch_GL := ch_c4 89 rfl rfl
theorem kw_810 : (Cond.static ({ cls := "CellHandoverLaw", name := "missingRelation", desc := "(LCellHandover;I[J)I" } : MethodName)) ∈ ch_GL := ch_c4 90 rfl rfl
theorem kw_811 : (Cond.codeWith ({ cls := "CellHandoverLaw", name := "missingRelation", desc := "(LCellHandover;I[J)I" } : MethodName) method_8_code (4 : Nat) (Option.some FieldType.int) [((0 : Nat), (9 : Nat), (12 : Nat), (13 : Nat))]) ∈ ch_GL := ch_c4 91 rfl rfl
theorem kw_812 : (Cond.methodLink "CellHandoverLaw" (31 : Nat) ({ cls := "CellHandover", name := "missingRelation", desc := "(I)I" } : MethodName)) ∈ ch_GL := ch_c4 92 rfl rfl
theorem kw_813 : (Cond.instanceMethod ({ cls := "CellHandover", name := "missingRelation", desc := "(I)I" } : MethodName)) ∈ ch_GL := ch_c4 93 rfl rfl
theorem kw_814 : (Cond.selects "CellHandover" ({ cls := "CellHandover", name := "missingRelation", desc := "(I)I" } : MethodName) ({ cls := "CellHandover", name := "missingRelation", desc := "(I)I" } : MethodName)) ∈ ch_GL := ch_c4 94 rfl rfl
theorem kw_815 : (Cond.code ({ cls := "CellHandover", name := "missingRelation", desc := "(I)I" } : MethodName) prog_1_method_13_code (2 : Nat) (Option.some FieldType.int)) ∈ ch_GL := ch_c4 95 rfl rfl
theorem kw_816 : (Cond.methodLink "CellHandover" (137 : Nat) ({ cls := "CellHandover$Survey", name := "findMissing", desc := "(LCellHandover$Network;I)I" } : MethodName)) ∈ ch_GL := ch_c4 96 rfl rfl
theorem kw_817 : (Cond.instanceMethod ({ cls := "CellHandover$Survey", name := "findMissing", desc := "(LCellHandover$Network;I)I" } : MethodName)) ∈ ch_GL := ch_c4 97 rfl rfl
theorem kw_818 : (Cond.selects "CellHandover$Survey" ({ cls := "CellHandover$Survey", name := "findMissing", desc := "(LCellHandover$Network;I)I" } : MethodName) ({ cls := "CellHandover$Survey", name := "findMissing", desc := "(LCellHandover$Network;I)I" } : MethodName)) ∈ ch_GL := ch_c4 98 rfl rfl
theorem kw_819 : (Cond.code ({ cls := "CellHandover$Survey", name := "findMissing", desc := "(LCellHandover$Network;I)I" } : MethodName) prog_11_method_3_code (6 : Nat) (Option.some FieldType.int)) ∈ ch_GL := ch_c4 99 rfl rfl
theorem kw_820 : (Cond.methodLink "CellHandover$Survey" (21 : Nat) ({ cls := "java/util/Arrays", name := "fill", desc := "([II)V" } : MethodName)) ∈ ch_GL := ch_c4 100 rfl rfl
theorem kw_821 : (Cond.methodLink "CellHandover$Survey" (27 : Nat) ({ cls := "CellHandover$Survey", name := "countNear", desc := "(LCellHandover$Network;III)V" } : MethodName)) ∈ ch_GL := ch_c4 101 rfl rfl
theorem kb_822 : (Cond.privateMethod ({ cls := "CellHandover$Survey", name := "countNear", desc := "(LCellHandover$Network;III)V" } : MethodName)) ∈ lw_tbl := ch_b4 102 rfl
theorem kw_823 : (Cond.instanceMethod ({ cls := "CellHandover$Survey", name := "countNear", desc := "(LCellHandover$Network;III)V" } : MethodName)) ∈ ch_GL := ch_c4 103 rfl rfl
theorem kw_824 : (Cond.code ({ cls := "CellHandover$Survey", name := "countNear", desc := "(LCellHandover$Network;III)V" } : MethodName) prog_11_method_4_code (10 : Nat) (Option.none : Option FieldType)) ∈ ch_GL := ch_c4 104 rfl rfl
theorem kw_825 : (Cond.methodLink "CellHandover$Survey" (45 : Nat) ({ cls := "CellHandover$Network", name := "loudestCell", desc := "(II)I" } : MethodName)) ∈ ch_GL := ch_c4 105 rfl rfl
theorem kw_826 : (Cond.methodLink "CellHandover$Survey" (48 : Nat) ({ cls := "CellHandover$Network", name := "cellAt", desc := "(I)LCellHandover$Cell;" } : MethodName)) ∈ ch_GL := ch_c4 106 rfl rfl
theorem kw_827 : (Cond.methodLink "CellHandover$Survey" (52 : Nat) ({ cls := "CellHandover$Cell", name := "levelAt", desc := "(II)I" } : MethodName)) ∈ ch_GL := ch_c4 107 rfl rfl
theorem kw_828 : (Cond.methodLink "CellHandover$Survey" (35 : Nat) ({ cls := "CellHandover$Network", name := "relationAt", desc := "(II)LCellHandover$Relation;" } : MethodName)) ∈ ch_GL := ch_c4 108 rfl rfl
theorem kw_829 : (Cond.methodLink "CellHandoverLaw" (167 : Nat) ({ cls := "CellHandoverLaw", name := "addMobile", desc := "(LCellHandover;IIII[J)I" } : MethodName)) ∈ ch_GL := ch_c4 109 rfl rfl
theorem kw_830 : (Cond.static ({ cls := "CellHandoverLaw", name := "addMobile", desc := "(LCellHandover;IIII[J)I" } : MethodName)) ∈ ch_GL := ch_c4 110 rfl rfl
theorem kw_831 : (Cond.codeWith ({ cls := "CellHandoverLaw", name := "addMobile", desc := "(LCellHandover;IIII[J)I" } : MethodName) method_9_code (7 : Nat) (Option.some FieldType.int) [((0 : Nat), (14 : Nat), (17 : Nat), (13 : Nat))]) ∈ ch_GL := ch_c4 111 rfl rfl
theorem kw_832 : (Cond.methodLink "CellHandoverLaw" (34 : Nat) ({ cls := "CellHandover", name := "addMobile", desc := "(IIII)I" } : MethodName)) ∈ ch_GL := ch_c4 112 rfl rfl
theorem kw_833 : (Cond.instanceMethod ({ cls := "CellHandover", name := "addMobile", desc := "(IIII)I" } : MethodName)) ∈ ch_GL := ch_c4 113 rfl rfl
theorem kw_834 : (Cond.selects "CellHandover" ({ cls := "CellHandover", name := "addMobile", desc := "(IIII)I" } : MethodName) ({ cls := "CellHandover", name := "addMobile", desc := "(IIII)I" } : MethodName)) ∈ ch_GL := ch_c4 114 rfl rfl
theorem kw_835 : (Cond.code ({ cls := "CellHandover", name := "addMobile", desc := "(IIII)I" } : MethodName) prog_1_method_14_code (6 : Nat) (Option.some FieldType.int)) ∈ ch_GL := ch_c4 115 rfl rfl
theorem kw_836 : (Cond.methodLink "CellHandover" (140 : Nat) ({ cls := "CellHandover$History", name := "record", desc := "(LCellHandover$Network;)V" } : MethodName)) ∈ ch_GL := ch_c4 116 rfl rfl
theorem kw_837 : (Cond.instanceMethod ({ cls := "CellHandover$History", name := "record", desc := "(LCellHandover$Network;)V" } : MethodName)) ∈ ch_GL := ch_c4 117 rfl rfl
theorem kw_838 : (Cond.selects "CellHandover$History" ({ cls := "CellHandover$History", name := "record", desc := "(LCellHandover$Network;)V" } : MethodName) ({ cls := "CellHandover$History", name := "record", desc := "(LCellHandover$Network;)V" } : MethodName)) ∈ ch_GL := ch_c4 118 rfl rfl
theorem kw_839 : (Cond.code ({ cls := "CellHandover$History", name := "record", desc := "(LCellHandover$Network;)V" } : MethodName) prog_3_method_3_code (3 : Nat) (Option.none : Option FieldType)) ∈ ch_GL := ch_c4 119 rfl rfl
theorem kw_840 : (Cond.methodLink "CellHandover$History" (29 : Nat) ({ cls := "java/lang/Math", name := "min", desc := "(II)I" } : MethodName)) ∈ ch_GL := ch_c4 120 rfl rfl
theorem kw_841 : (Cond.methodLink "CellHandover" (143 : Nat) ({ cls := "CellHandover$Network", name := "mobileAt", desc := "(I)LCellHandover$Mobile;" } : MethodName)) ∈ ch_GL := ch_c4 121 rfl rfl
theorem kw_842 : (Cond.methodLink "CellHandover" (147 : Nat) ({ cls := "CellHandover$Mobile", name := "place", desc := "(IIII)V" } : MethodName)) ∈ ch_GL := ch_c4 122 rfl rfl
theorem kw_843 : (Cond.instanceMethod ({ cls := "CellHandover$Mobile", name := "place", desc := "(IIII)V" } : MethodName)) ∈ ch_GL := ch_c4 123 rfl rfl
theorem kw_844 : (Cond.selects "CellHandover$Mobile" ({ cls := "CellHandover$Mobile", name := "place", desc := "(IIII)V" } : MethodName) ({ cls := "CellHandover$Mobile", name := "place", desc := "(IIII)V" } : MethodName)) ∈ ch_GL := ch_c4 124 rfl rfl
theorem kw_845 : (Cond.code ({ cls := "CellHandover$Mobile", name := "place", desc := "(IIII)V" } : MethodName) prog_4_method_2_code (5 : Nat) (Option.none : Option FieldType)) ∈ ch_GL := ch_c4 125 rfl rfl
theorem kw_846 : (Cond.methodLink "CellHandover$Mobile" (40 : Nat) ({ cls := "CellHandover$Mobile", name := "becomeIdle", desc := "()V" } : MethodName)) ∈ ch_GL := ch_c4 126 rfl rfl
theorem kw_847 : (Cond.instanceMethod ({ cls := "CellHandover$Mobile", name := "becomeIdle", desc := "()V" } : MethodName)) ∈ ch_GL := ch_c4 127 rfl rfl
theorem kw_848 : (Cond.selects "CellHandover$Mobile" ({ cls := "CellHandover$Mobile", name := "becomeIdle", desc := "()V" } : MethodName) ({ cls := "CellHandover$Mobile", name := "becomeIdle", desc := "()V" } : MethodName)) ∈ ch_GL := ch_c4 128 rfl rfl
theorem kw_849 : (Cond.code ({ cls := "CellHandover$Mobile", name := "becomeIdle", desc := "()V" } : MethodName) prog_4_method_3_code (1 : Nat) (Option.none : Option FieldType)) ∈ ch_GL := ch_c4 129 rfl rfl
theorem kw_850 : (Cond.methodLink "CellHandover$Mobile" (55 : Nat) ({ cls := "CellHandover$Mobile", name := "clearMeasurements", desc := "()V" } : MethodName)) ∈ ch_GL := ch_c4 130 rfl rfl
theorem kb_851 : (Cond.privateMethod ({ cls := "CellHandover$Mobile", name := "clearMeasurements", desc := "()V" } : MethodName)) ∈ lw_tbl := ch_b4 131 rfl
theorem kw_852 : (Cond.instanceMethod ({ cls := "CellHandover$Mobile", name := "clearMeasurements", desc := "()V" } : MethodName)) ∈ ch_GL := ch_c4 132 rfl rfl
theorem kw_853 : (Cond.code ({ cls := "CellHandover$Mobile", name := "clearMeasurements", desc := "()V" } : MethodName) prog_4_method_14_code (1 : Nat) (Option.none : Option FieldType)) ∈ ch_GL := ch_c4 133 rfl rfl
theorem kw_854 : (Cond.methodLink "CellHandover$Mobile" (69 : Nat) ({ cls := "java/util/Arrays", name := "fill", desc := "([II)V" } : MethodName)) ∈ ch_GL := ch_c4 134 rfl rfl
theorem kw_855 : (Cond.methodLink "CellHandoverLaw" (171 : Nat) ({ cls := "CellHandoverLaw", name := "setVelocity", desc := "(LCellHandover;III[J)I" } : MethodName)) ∈ ch_GL := ch_c4 135 rfl rfl
theorem kw_856 : (Cond.static ({ cls := "CellHandoverLaw", name := "setVelocity", desc := "(LCellHandover;III[J)I" } : MethodName)) ∈ ch_GL := ch_c4 136 rfl rfl
theorem kw_857 : (Cond.codeWith ({ cls := "CellHandoverLaw", name := "setVelocity", desc := "(LCellHandover;III[J)I" } : MethodName) method_10_code (6 : Nat) (Option.some FieldType.int) [((0 : Nat), (12 : Nat), (15 : Nat), (19 : Nat)), ((0 : Nat), (12 : Nat), (19 : Nat), (13 : Nat))]) ∈ ch_GL := ch_c4 137 rfl rfl
theorem kw_858 : (Cond.methodLink "CellHandoverLaw" (38 : Nat) ({ cls := "CellHandover", name := "setVelocity", desc := "(III)I" } : MethodName)) ∈ ch_GL := ch_c4 138 rfl rfl
theorem kw_859 : (Cond.instanceMethod ({ cls := "CellHandover", name := "setVelocity", desc := "(III)I" } : MethodName)) ∈ ch_GL := ch_c4 139 rfl rfl
theorem kw_860 : (Cond.selects "CellHandover" ({ cls := "CellHandover", name := "setVelocity", desc := "(III)I" } : MethodName) ({ cls := "CellHandover", name := "setVelocity", desc := "(III)I" } : MethodName)) ∈ ch_GL := ch_c4 140 rfl rfl
theorem kw_861 : (Cond.code ({ cls := "CellHandover", name := "setVelocity", desc := "(III)I" } : MethodName) prog_1_method_15_code (5 : Nat) (Option.some FieldType.int)) ∈ ch_GL := ch_c4 141 rfl rfl
theorem kw_862 : (Cond.methodLink "CellHandover" (153 : Nat) ({ cls := "CellHandover", name := "requireMobile", desc := "(I)V" } : MethodName)) ∈ ch_GL := ch_c4 142 rfl rfl
theorem kb_863 : (Cond.privateMethod ({ cls := "CellHandover", name := "requireMobile", desc := "(I)V" } : MethodName)) ∈ lw_tbl := ch_b4 143 rfl
theorem kw_864 : (Cond.instanceMethod ({ cls := "CellHandover", name := "requireMobile", desc := "(I)V" } : MethodName)) ∈ ch_GL := ch_c4 144 rfl rfl
theorem kw_865 : (Cond.code ({ cls := "CellHandover", name := "requireMobile", desc := "(I)V" } : MethodName) prog_1_method_45_code (2 : Nat) (Option.none : Option FieldType)) ∈ ch_GL := ch_c4 145 rfl rfl
theorem kb_866 : (Cond.stringRef "CellHandover" (260 : Nat) "no such mobile") ∈ lw_tbl := ch_b4 146 rfl
theorem kw_867 : (Cond.methodLink "CellHandoverLaw" (174 : Nat) ({ cls := "CellHandoverLaw", name := "call", desc := "(LCellHandover;II[J)I" } : MethodName)) ∈ ch_GL := ch_c4 147 rfl rfl
theorem kw_868 : (Cond.static ({ cls := "CellHandoverLaw", name := "call", desc := "(LCellHandover;II[J)I" } : MethodName)) ∈ ch_GL := ch_c4 148 rfl rfl
theorem kw_869 : (Cond.codeWith ({ cls := "CellHandoverLaw", name := "call", desc := "(LCellHandover;II[J)I" } : MethodName) method_11_code (5 : Nat) (Option.some FieldType.int) [((0 : Nat), (10 : Nat), (13 : Nat), (19 : Nat)), ((0 : Nat), (10 : Nat), (17 : Nat), (13 : Nat))]) ∈ ch_GL := ch_c4 149 rfl rfl
theorem kw_870 : (Cond.methodLink "CellHandoverLaw" (41 : Nat) ({ cls := "CellHandover", name := "call", desc := "(II)I" } : MethodName)) ∈ ch_GL := ch_c4 150 rfl rfl
theorem kw_871 : (Cond.instanceMethod ({ cls := "CellHandover", name := "call", desc := "(II)I" } : MethodName)) ∈ ch_GL := ch_c4 151 rfl rfl
theorem kw_872 : (Cond.selects "CellHandover" ({ cls := "CellHandover", name := "call", desc := "(II)I" } : MethodName) ({ cls := "CellHandover", name := "call", desc := "(II)I" } : MethodName)) ∈ ch_GL := ch_c4 152 rfl rfl
theorem kw_873 : (Cond.code ({ cls := "CellHandover", name := "call", desc := "(II)I" } : MethodName) prog_1_method_16_code (5 : Nat) (Option.some FieldType.int)) ∈ ch_GL := ch_c4 153 rfl rfl
theorem kw_874 : (Cond.methodLink "CellHandover" (171 : Nat) ({ cls := "CellHandover$Network", name := "setUpCall", desc := "(LCellHandover$Mobile;II)I" } : MethodName)) ∈ ch_GL := ch_c4 154 rfl rfl
theorem kw_875 : (Cond.instanceMethod ({ cls := "CellHandover$Network", name := "setUpCall", desc := "(LCellHandover$Mobile;II)I" } : MethodName)) ∈ ch_GL := ch_c4 155 rfl rfl
theorem kw_876 : (Cond.selects "CellHandover$Network" ({ cls := "CellHandover$Network", name := "setUpCall", desc := "(LCellHandover$Mobile;II)I" } : MethodName) ({ cls := "CellHandover$Network", name := "setUpCall", desc := "(LCellHandover$Mobile;II)I" } : MethodName)) ∈ ch_GL := ch_c4 156 rfl rfl
theorem kw_877 : (Cond.code ({ cls := "CellHandover$Network", name := "setUpCall", desc := "(LCellHandover$Mobile;II)I" } : MethodName) prog_5_method_20_code (5 : Nat) (Option.some FieldType.int)) ∈ ch_GL := ch_c4 157 rfl rfl
theorem kw_878 : (Cond.methodLink "CellHandover$Network" (163 : Nat) ({ cls := "CellHandover$Network", name := "hasFreeChannel", desc := "(I)Z" } : MethodName)) ∈ ch_GL := ch_c4 158 rfl rfl
theorem kw_879 : (Cond.instanceMethod ({ cls := "CellHandover$Network", name := "hasFreeChannel", desc := "(I)Z" } : MethodName)) ∈ ch_GL := ch_c4 159 rfl rfl
theorem kw_880 : (Cond.selects "CellHandover$Network" ({ cls := "CellHandover$Network", name := "hasFreeChannel", desc := "(I)Z" } : MethodName) ({ cls := "CellHandover$Network", name := "hasFreeChannel", desc := "(I)Z" } : MethodName)) ∈ ch_GL := ch_c4 160 rfl rfl
theorem kw_881 : (Cond.code ({ cls := "CellHandover$Network", name := "hasFreeChannel", desc := "(I)Z" } : MethodName) prog_5_method_14_code (2 : Nat) (Option.some FieldType.boolean)) ∈ ch_GL := ch_c4 161 rfl rfl
theorem kw_882 : (Cond.methodLink "CellHandover$Network" (137 : Nat) ({ cls := "CellHandover$Network", name := "talkersIn", desc := "(I)I" } : MethodName)) ∈ ch_GL := ch_c4 162 rfl rfl
theorem kw_883 : (Cond.instanceMethod ({ cls := "CellHandover$Network", name := "talkersIn", desc := "(I)I" } : MethodName)) ∈ ch_GL := ch_c4 163 rfl rfl
theorem kw_884 : (Cond.selects "CellHandover$Network" ({ cls := "CellHandover$Network", name := "talkersIn", desc := "(I)I" } : MethodName) ({ cls := "CellHandover$Network", name := "talkersIn", desc := "(I)I" } : MethodName)) ∈ ch_GL := ch_c4 164 rfl rfl
theorem kw_885 : (Cond.code ({ cls := "CellHandover$Network", name := "talkersIn", desc := "(I)I" } : MethodName) prog_5_method_13_code (5 : Nat) (Option.some FieldType.int)) ∈ ch_GL := ch_c4 165 rfl rfl
theorem kw_886 : (Cond.methodLink "CellHandover$Network" (173 : Nat) ({ cls := "CellHandover$Network", name := "retryCell", desc := "(III)I" } : MethodName)) ∈ ch_GL := ch_c4 166 rfl rfl
theorem kb_887 : (Cond.privateMethod ({ cls := "CellHandover$Network", name := "retryCell", desc := "(III)I" } : MethodName)) ∈ lw_tbl := ch_b4 167 rfl
theorem kw_888 : (Cond.instanceMethod ({ cls := "CellHandover$Network", name := "retryCell", desc := "(III)I" } : MethodName)) ∈ ch_GL := ch_c4 168 rfl rfl
theorem kw_889 : (Cond.code ({ cls := "CellHandover$Network", name := "retryCell", desc := "(III)I" } : MethodName) prog_5_method_21_code (8 : Nat) (Option.some FieldType.int)) ∈ ch_GL := ch_c4 169 rfl rfl
theorem kw_890 : (Cond.methodLink "CellHandover$Network" (177 : Nat) ({ cls := "CellHandover$Network", name := "count", desc := "(I)V" } : MethodName)) ∈ ch_GL := ch_c4 170 rfl rfl
theorem kw_891 : (Cond.instanceMethod ({ cls := "CellHandover$Network", name := "count", desc := "(I)V" } : MethodName)) ∈ ch_GL := ch_c4 171 rfl rfl
theorem kw_892 : (Cond.selects "CellHandover$Network" ({ cls := "CellHandover$Network", name := "count", desc := "(I)V" } : MethodName) ({ cls := "CellHandover$Network", name := "count", desc := "(I)V" } : MethodName)) ∈ ch_GL := ch_c4 172 rfl rfl
theorem kw_893 : (Cond.code ({ cls := "CellHandover$Network", name := "count", desc := "(I)V" } : MethodName) prog_5_method_7_code (2 : Nat) (Option.none : Option FieldType)) ∈ ch_GL := ch_c4 173 rfl rfl
theorem kw_894 : (Cond.methodLink "CellHandover$Network" (184 : Nat) ({ cls := "CellHandover$Mobile", name := "beginToTalk", desc := "(I)V" } : MethodName)) ∈ ch_GL := ch_c4 174 rfl rfl
theorem kw_895 : (Cond.instanceMethod ({ cls := "CellHandover$Mobile", name := "beginToTalk", desc := "(I)V" } : MethodName)) ∈ ch_GL := ch_c4 175 rfl rfl
theorem kw_896 : (Cond.selects "CellHandover$Mobile" ({ cls := "CellHandover$Mobile", name := "beginToTalk", desc := "(I)V" } : MethodName) ({ cls := "CellHandover$Mobile", name := "beginToTalk", desc := "(I)V" } : MethodName)) ∈ ch_GL := ch_c4 176 rfl rfl
theorem kw_897 : (Cond.code ({ cls := "CellHandover$Mobile", name := "beginToTalk", desc := "(I)V" } : MethodName) prog_4_method_4_code (2 : Nat) (Option.none : Option FieldType)) ∈ ch_GL := ch_c4 177 rfl rfl
theorem kw_898 : (Cond.methodLink "CellHandover$Network" (187 : Nat) ({ cls := "CellHandover$Network", name := "hasQueuePlace", desc := "(I)Z" } : MethodName)) ∈ ch_GL := ch_c4 178 rfl rfl
theorem kw_899 : (Cond.instanceMethod ({ cls := "CellHandover$Network", name := "hasQueuePlace", desc := "(I)Z" } : MethodName)) ∈ ch_GL := ch_c4 179 rfl rfl
theorem kw_900 : (Cond.selects "CellHandover$Network" ({ cls := "CellHandover$Network", name := "hasQueuePlace", desc := "(I)Z" } : MethodName) ({ cls := "CellHandover$Network", name := "hasQueuePlace", desc := "(I)Z" } : MethodName)) ∈ ch_GL := ch_c4 180 rfl rfl
theorem kw_901 : (Cond.code ({ cls := "CellHandover$Network", name := "hasQueuePlace", desc := "(I)Z" } : MethodName) prog_5_method_16_code (2 : Nat) (Option.some FieldType.boolean)) ∈ ch_GL := ch_c4 181 rfl rfl
theorem kw_902 : (Cond.methodLink "CellHandover$Network" (147 : Nat) ({ cls := "CellHandover$Network", name := "requestsAt", desc := "(I)I" } : MethodName)) ∈ ch_GL := ch_c4 182 rfl rfl
theorem kw_903 : (Cond.instanceMethod ({ cls := "CellHandover$Network", name := "requestsAt", desc := "(I)I" } : MethodName)) ∈ ch_GL := ch_c4 183 rfl rfl
theorem kw_904 : (Cond.selects "CellHandover$Network" ({ cls := "CellHandover$Network", name := "requestsAt", desc := "(I)I" } : MethodName) ({ cls := "CellHandover$Network", name := "requestsAt", desc := "(I)I" } : MethodName)) ∈ ch_GL := ch_c4 184 rfl rfl
theorem kw_905 : (Cond.code ({ cls := "CellHandover$Network", name := "requestsAt", desc := "(I)I" } : MethodName) prog_5_method_15_code (4 : Nat) (Option.some FieldType.int)) ∈ ch_GL := ch_c4 185 rfl rfl
theorem kw_906 : (Cond.methodLink "CellHandover$Network" (190 : Nat) ({ cls := "CellHandover$Mobile", name := "waitForSetUp", desc := "(II)V" } : MethodName)) ∈ ch_GL := ch_c4 186 rfl rfl
theorem kw_907 : (Cond.instanceMethod ({ cls := "CellHandover$Mobile", name := "waitForSetUp", desc := "(II)V" } : MethodName)) ∈ ch_GL := ch_c4 187 rfl rfl
theorem kw_908 : (Cond.selects "CellHandover$Mobile" ({ cls := "CellHandover$Mobile", name := "waitForSetUp", desc := "(II)V" } : MethodName) ({ cls := "CellHandover$Mobile", name := "waitForSetUp", desc := "(II)V" } : MethodName)) ∈ ch_GL := ch_c4 188 rfl rfl
theorem kw_909 : (Cond.code ({ cls := "CellHandover$Mobile", name := "waitForSetUp", desc := "(II)V" } : MethodName) prog_4_method_5_code (3 : Nat) (Option.none : Option FieldType)) ∈ ch_GL := ch_c4 189 rfl rfl
theorem kw_910 : (Cond.methodLink "CellHandover$Mobile" (58 : Nat) ({ cls := "CellHandover$Mobile", name := "makeRequest", desc := "(II)V" } : MethodName)) ∈ ch_GL := ch_c4 190 rfl rfl
theorem kw_911 : (Cond.instanceMethod ({ cls := "CellHandover$Mobile", name := "makeRequest", desc := "(II)V" } : MethodName)) ∈ ch_GL := ch_c4 191 rfl rfl
theorem kw_912 : (Cond.selects "CellHandover$Mobile" ({ cls := "CellHandover$Mobile", name := "makeRequest", desc := "(II)V" } : MethodName) ({ cls := "CellHandover$Mobile", name := "makeRequest", desc := "(II)V" } : MethodName)) ∈ ch_GL := ch_c4 192 rfl rfl
theorem kw_913 : (Cond.code ({ cls := "CellHandover$Mobile", name := "makeRequest", desc := "(II)V" } : MethodName) prog_4_method_6_code (3 : Nat) (Option.none : Option FieldType)) ∈ ch_GL := ch_c4 193 rfl rfl
theorem kw_914 : (Cond.methodLink "CellHandoverLaw" (177 : Nat) ({ cls := "CellHandoverLaw", name := "hangUp", desc := "(LCellHandover;I[J)I" } : MethodName)) ∈ ch_GL := ch_c4 194 rfl rfl
theorem kw_915 : (Cond.static ({ cls := "CellHandoverLaw", name := "hangUp", desc := "(LCellHandover;I[J)I" } : MethodName)) ∈ ch_GL := ch_c4 195 rfl rfl
theorem kw_916 : (Cond.codeWith ({ cls := "CellHandoverLaw", name := "hangUp", desc := "(LCellHandover;I[J)I" } : MethodName) method_12_code (4 : Nat) (Option.some FieldType.int) [((0 : Nat), (9 : Nat), (12 : Nat), (19 : Nat))]) ∈ ch_GL := ch_c4 196 rfl rfl
theorem kw_917 : (Cond.methodLink "CellHandoverLaw" (44 : Nat) ({ cls := "CellHandover", name := "hangUp", desc := "(I)I" } : MethodName)) ∈ ch_GL := ch_c4 197 rfl rfl
theorem kw_918 : (Cond.instanceMethod ({ cls := "CellHandover", name := "hangUp", desc := "(I)I" } : MethodName)) ∈ ch_GL := ch_c4 198 rfl rfl
theorem kw_919 : (Cond.selects "CellHandover" ({ cls := "CellHandover", name := "hangUp", desc := "(I)I" } : MethodName) ({ cls := "CellHandover", name := "hangUp", desc := "(I)I" } : MethodName)) ∈ ch_GL := ch_c4 199 rfl rfl
theorem kw_920 : (Cond.code ({ cls := "CellHandover", name := "hangUp", desc := "(I)I" } : MethodName) prog_1_method_17_code (4 : Nat) (Option.some FieldType.int)) ∈ ch_GL := ch_c4 200 rfl rfl
theorem kw_921 : (Cond.methodLink "CellHandover" (175 : Nat) ({ cls := "CellHandover$Mobile", name := "becomeIdle", desc := "()V" } : MethodName)) ∈ ch_GL := ch_c4 201 rfl rfl
theorem kw_922 : (Cond.methodLink "CellHandoverLaw" (180 : Nat) ({ cls := "CellHandoverLaw", name := "setHysteresis", desc := "(LCellHandover;III[J)I" } : MethodName)) ∈ ch_GL := ch_c4 202 rfl rfl
theorem kw_923 : (Cond.static ({ cls := "CellHandoverLaw", name := "setHysteresis", desc := "(LCellHandover;III[J)I" } : MethodName)) ∈ ch_GL := ch_c4 203 rfl rfl
theorem kw_924 : (Cond.codeWith ({ cls := "CellHandoverLaw", name := "setHysteresis", desc := "(LCellHandover;III[J)I" } : MethodName) method_13_code (6 : Nat) (Option.some FieldType.int) [((0 : Nat), (12 : Nat), (15 : Nat), (19 : Nat)), ((0 : Nat), (12 : Nat), (19 : Nat), (13 : Nat))]) ∈ ch_GL := ch_c4 204 rfl rfl
theorem kw_925 : (Cond.methodLink "CellHandoverLaw" (47 : Nat) ({ cls := "CellHandover", name := "setHysteresis", desc := "(III)I" } : MethodName)) ∈ ch_GL := ch_c4 205 rfl rfl
theorem kw_926 : (Cond.instanceMethod ({ cls := "CellHandover", name := "setHysteresis", desc := "(III)I" } : MethodName)) ∈ ch_GL := ch_c4 206 rfl rfl
theorem kw_927 : (Cond.selects "CellHandover" ({ cls := "CellHandover", name := "setHysteresis", desc := "(III)I" } : MethodName) ({ cls := "CellHandover", name := "setHysteresis", desc := "(III)I" } : MethodName)) ∈ ch_GL := ch_c4 207 rfl rfl
theorem kw_928 : (Cond.code ({ cls := "CellHandover", name := "setHysteresis", desc := "(III)I" } : MethodName) prog_1_method_18_code (6 : Nat) (Option.some FieldType.int)) ∈ ch_GL := ch_c4 208 rfl rfl
theorem kw_929 : (Cond.methodLink "CellHandoverLaw" (183 : Nat) ({ cls := "CellHandoverLaw", name := "run", desc := "(LCellHandover;I[J)I" } : MethodName)) ∈ ch_GL := ch_c4 209 rfl rfl
theorem kw_930 : (Cond.static ({ cls := "CellHandoverLaw", name := "run", desc := "(LCellHandover;I[J)I" } : MethodName)) ∈ ch_GL := ch_c4 210 rfl rfl
theorem kw_931 : (Cond.codeWith ({ cls := "CellHandoverLaw", name := "run", desc := "(LCellHandover;I[J)I" } : MethodName) method_14_code (4 : Nat) (Option.some FieldType.int) [((0 : Nat), (9 : Nat), (12 : Nat), (13 : Nat))]) ∈ ch_GL := ch_c4 211 rfl rfl
theorem kw_932 : (Cond.methodLink "CellHandoverLaw" (50 : Nat) ({ cls := "CellHandover", name := "run", desc := "(I)I" } : MethodName)) ∈ ch_GL := ch_c4 212 rfl rfl
theorem kw_933 : (Cond.instanceMethod ({ cls := "CellHandover", name := "run", desc := "(I)I" } : MethodName)) ∈ ch_GL := ch_c4 213 rfl rfl
theorem kw_934 : (Cond.selects "CellHandover" ({ cls := "CellHandover", name := "run", desc := "(I)I" } : MethodName) ({ cls := "CellHandover", name := "run", desc := "(I)I" } : MethodName)) ∈ ch_GL := ch_c4 214 rfl rfl
theorem kw_935 : (Cond.code ({ cls := "CellHandover", name := "run", desc := "(I)I" } : MethodName) prog_1_method_19_code (3 : Nat) (Option.some FieldType.int)) ∈ ch_GL := ch_c4 215 rfl rfl
theorem kw_936 : (Cond.methodLink "CellHandover" (178 : Nat) ({ cls := "CellHandover", name := "requireTicks", desc := "(II)V" } : MethodName)) ∈ ch_GL := ch_c4 216 rfl rfl
theorem kb_937 : (Cond.privateMethod ({ cls := "CellHandover", name := "requireTicks", desc := "(II)V" } : MethodName)) ∈ lw_tbl := ch_b4 217 rfl
theorem kw_938 : (Cond.instanceMethod ({ cls := "CellHandover", name := "requireTicks", desc := "(II)V" } : MethodName)) ∈ ch_GL := ch_c4 218 rfl rfl
theorem kw_939 : (Cond.code ({ cls := "CellHandover", name := "requireTicks", desc := "(II)V" } : MethodName) prog_1_method_46_code (3 : Nat) (Option.none : Option FieldType)) ∈ ch_GL := ch_c4 219 rfl rfl
theorem kw_940 : (Cond.constant "CellHandover" (262 : Nat) (100000 : Int32)) ∈ ch_GL := ch_c4 220 rfl rfl
theorem kw_941 : (Cond.methodLink "CellHandover" (186 : Nat) ({ cls := "CellHandover$Simulator", name := "advance", desc := "(LCellHandover$Network;I)V" } : MethodName)) ∈ ch_GL := ch_c4 221 rfl rfl
theorem kw_942 : (Cond.instanceMethod ({ cls := "CellHandover$Simulator", name := "advance", desc := "(LCellHandover$Network;I)V" } : MethodName)) ∈ ch_GL := ch_c4 222 rfl rfl
theorem kw_943 : (Cond.selects "CellHandover$Simulator" ({ cls := "CellHandover$Simulator", name := "advance", desc := "(LCellHandover$Network;I)V" } : MethodName) ({ cls := "CellHandover$Simulator", name := "advance", desc := "(LCellHandover$Network;I)V" } : MethodName)) ∈ ch_GL := ch_c4 223 rfl rfl
theorem kw_944 : (Cond.code ({ cls := "CellHandover$Simulator", name := "advance", desc := "(LCellHandover$Network;I)V" } : MethodName) prog_10_method_2_code (4 : Nat) (Option.none : Option FieldType)) ∈ ch_GL := ch_c4 224 rfl rfl
theorem kw_945 : (Cond.methodLink "CellHandover$Simulator" (18 : Nat) ({ cls := "CellHandover$Simulator", name := "moveMobiles", desc := "(LCellHandover$Network;)V" } : MethodName)) ∈ ch_GL := ch_c4 225 rfl rfl
theorem kb_946 : (Cond.privateMethod ({ cls := "CellHandover$Simulator", name := "moveMobiles", desc := "(LCellHandover$Network;)V" } : MethodName)) ∈ lw_tbl := ch_b4 226 rfl
theorem kw_947 : (Cond.instanceMethod ({ cls := "CellHandover$Simulator", name := "moveMobiles", desc := "(LCellHandover$Network;)V" } : MethodName)) ∈ ch_GL := ch_c4 227 rfl rfl
theorem kw_948 : (Cond.code ({ cls := "CellHandover$Simulator", name := "moveMobiles", desc := "(LCellHandover$Network;)V" } : MethodName) prog_10_method_4_code (4 : Nat) (Option.none : Option FieldType)) ∈ ch_GL := ch_c4 228 rfl rfl
theorem kw_949 : (Cond.methodLink "CellHandover$Simulator" (49 : Nat) ({ cls := "CellHandover$Network", name := "mobileAt", desc := "(I)LCellHandover$Mobile;" } : MethodName)) ∈ ch_GL := ch_c4 229 rfl rfl
theorem kw_950 : (Cond.methodLink "CellHandover$Simulator" (72 : Nat) ({ cls := "java/lang/Math", name := "min", desc := "(II)I" } : MethodName)) ∈ ch_GL := ch_c4 230 rfl rfl
theorem kw_951 : (Cond.methodLink "CellHandover$Simulator" (78 : Nat) ({ cls := "java/lang/Math", name := "max", desc := "(II)I" } : MethodName)) ∈ ch_GL := ch_c4 231 rfl rfl
theorem kw_952 : (Cond.methodLink "CellHandover$Simulator" (22 : Nat) ({ cls := "CellHandover$Simulator", name := "measureLevels", desc := "(LCellHandover$Network;)V" } : MethodName)) ∈ ch_GL := ch_c4 232 rfl rfl
theorem kb_953 : (Cond.privateMethod ({ cls := "CellHandover$Simulator", name := "measureLevels", desc := "(LCellHandover$Network;)V" } : MethodName)) ∈ lw_tbl := ch_b4 233 rfl
theorem kw_954 : (Cond.instanceMethod ({ cls := "CellHandover$Simulator", name := "measureLevels", desc := "(LCellHandover$Network;)V" } : MethodName)) ∈ ch_GL := ch_c4 234 rfl rfl
theorem kw_955 : (Cond.code ({ cls := "CellHandover$Simulator", name := "measureLevels", desc := "(LCellHandover$Network;)V" } : MethodName) prog_10_method_5_code (4 : Nat) (Option.none : Option FieldType)) ∈ ch_GL := ch_c4 235 rfl rfl
theorem kw_956 : (Cond.methodLink "CellHandover$Simulator" (90 : Nat) ({ cls := "CellHandover$Simulator", name := "measure", desc := "(LCellHandover$Network;LCellHandover$Mobile;)V" } : MethodName)) ∈ ch_GL := ch_c4 236 rfl rfl
theorem kb_957 : (Cond.privateMethod ({ cls := "CellHandover$Simulator", name := "measure", desc := "(LCellHandover$Network;LCellHandover$Mobile;)V" } : MethodName)) ∈ lw_tbl := ch_b4 237 rfl
theorem kw_958 : (Cond.instanceMethod ({ cls := "CellHandover$Simulator", name := "measure", desc := "(LCellHandover$Network;LCellHandover$Mobile;)V" } : MethodName)) ∈ ch_GL := ch_c4 238 rfl rfl
theorem kw_959 : (Cond.code ({ cls := "CellHandover$Simulator", name := "measure", desc := "(LCellHandover$Network;LCellHandover$Mobile;)V" } : MethodName) prog_10_method_6_code (5 : Nat) (Option.none : Option FieldType)) ∈ ch_GL := ch_c4 239 rfl rfl
theorem kw_960 : (Cond.methodLink "CellHandover$Simulator" (99 : Nat) ({ cls := "CellHandover$Network", name := "relationAt", desc := "(II)LCellHandover$Relation;" } : MethodName)) ∈ ch_GL := ch_c5 0 rfl rfl
theorem kw_961 : (Cond.methodLink "CellHandover$Simulator" (109 : Nat) ({ cls := "CellHandover$Network", name := "cellAt", desc := "(I)LCellHandover$Cell;" } : MethodName)) ∈ ch_GL := ch_c5 1 rfl rfl
theorem kw_962 : (Cond.methodLink "CellHandover$Simulator" (113 : Nat) ({ cls := "CellHandover$Cell", name := "levelAt", desc := "(II)I" } : MethodName)) ∈ ch_GL := ch_c5 2 rfl rfl
theorem kw_963 : (Cond.methodLink "CellHandover$Simulator" (121 : Nat) ({ cls := "CellHandover$Mobile", name := "addReport", desc := "(III)V" } : MethodName)) ∈ ch_GL := ch_c5 3 rfl rfl
theorem kw_964 : (Cond.instanceMethod ({ cls := "CellHandover$Mobile", name := "addReport", desc := "(III)V" } : MethodName)) ∈ ch_GL := ch_c5 4 rfl rfl
theorem kw_965 : (Cond.selects "CellHandover$Mobile" ({ cls := "CellHandover$Mobile", name := "addReport", desc := "(III)V" } : MethodName) ({ cls := "CellHandover$Mobile", name := "addReport", desc := "(III)V" } : MethodName)) ∈ ch_GL := ch_c5 5 rfl rfl
theorem kw_966 : (Cond.code ({ cls := "CellHandover$Mobile", name := "addReport", desc := "(III)V" } : MethodName) prog_4_method_7_code (7 : Nat) (Option.none : Option FieldType)) ∈ ch_GL := ch_c5 6 rfl rfl
theorem kw_967 : (Cond.methodLink "CellHandover$Mobile" (62 : Nat) ({ cls := "CellHandover$Mobile", name := "reportsOf", desc := "(I)I" } : MethodName)) ∈ ch_GL := ch_c5 7 rfl rfl
theorem kw_968 : (Cond.instanceMethod ({ cls := "CellHandover$Mobile", name := "reportsOf", desc := "(I)I" } : MethodName)) ∈ ch_GL := ch_c5 8 rfl rfl
theorem kw_969 : (Cond.selects "CellHandover$Mobile" ({ cls := "CellHandover$Mobile", name := "reportsOf", desc := "(I)I" } : MethodName) ({ cls := "CellHandover$Mobile", name := "reportsOf", desc := "(I)I" } : MethodName)) ∈ ch_GL := ch_c5 9 rfl rfl
theorem kw_970 : (Cond.code ({ cls := "CellHandover$Mobile", name := "reportsOf", desc := "(I)I" } : MethodName) prog_4_method_10_code (2 : Nat) (Option.some FieldType.int)) ∈ ch_GL := ch_c5 10 rfl rfl
theorem kw_971 : (Cond.methodLink "CellHandover$Mobile" (66 : Nat) ({ cls := "CellHandover$Mobile", name := "dropOldest", desc := "(II)V" } : MethodName)) ∈ ch_GL := ch_c5 11 rfl rfl
theorem kb_972 : (Cond.privateMethod ({ cls := "CellHandover$Mobile", name := "dropOldest", desc := "(II)V" } : MethodName)) ∈ lw_tbl := ch_b5 12 rfl
theorem kw_973 : (Cond.instanceMethod ({ cls := "CellHandover$Mobile", name := "dropOldest", desc := "(II)V" } : MethodName)) ∈ ch_GL := ch_c5 13 rfl rfl
theorem kw_974 : (Cond.code ({ cls := "CellHandover$Mobile", name := "dropOldest", desc := "(II)V" } : MethodName) prog_4_method_8_code (4 : Nat) (Option.none : Option FieldType)) ∈ ch_GL := ch_c5 14 rfl rfl
theorem kw_975 : (Cond.methodLink "CellHandover$Simulator" (125 : Nat) ({ cls := "CellHandover$Mobile", name := "clearReports", desc := "(I)V" } : MethodName)) ∈ ch_GL := ch_c5 15 rfl rfl
theorem kw_976 : (Cond.instanceMethod ({ cls := "CellHandover$Mobile", name := "clearReports", desc := "(I)V" } : MethodName)) ∈ ch_GL := ch_c5 16 rfl rfl
theorem kw_977 : (Cond.selects "CellHandover$Mobile" ({ cls := "CellHandover$Mobile", name := "clearReports", desc := "(I)V" } : MethodName) ({ cls := "CellHandover$Mobile", name := "clearReports", desc := "(I)V" } : MethodName)) ∈ ch_GL := ch_c5 17 rfl rfl
theorem kw_978 : (Cond.code ({ cls := "CellHandover$Mobile", name := "clearReports", desc := "(I)V" } : MethodName) prog_4_method_9_code (2 : Nat) (Option.none : Option FieldType)) ∈ ch_GL := ch_c5 18 rfl rfl
theorem kw_979 : (Cond.methodLink "CellHandover$Simulator" (25 : Nat) ({ cls := "CellHandover$Simulator", name := "completeCalls", desc := "(LCellHandover$Network;)V" } : MethodName)) ∈ ch_GL := ch_c5 19 rfl rfl
theorem kb_980 : (Cond.privateMethod ({ cls := "CellHandover$Simulator", name := "completeCalls", desc := "(LCellHandover$Network;)V" } : MethodName)) ∈ lw_tbl := ch_b5 20 rfl
theorem kw_981 : (Cond.instanceMethod ({ cls := "CellHandover$Simulator", name := "completeCalls", desc := "(LCellHandover$Network;)V" } : MethodName)) ∈ ch_GL := ch_c5 21 rfl rfl
theorem kw_982 : (Cond.code ({ cls := "CellHandover$Simulator", name := "completeCalls", desc := "(LCellHandover$Network;)V" } : MethodName) prog_10_method_7_code (4 : Nat) (Option.none : Option FieldType)) ∈ ch_GL := ch_c5 22 rfl rfl
theorem kw_983 : (Cond.methodLink "CellHandover$Simulator" (132 : Nat) ({ cls := "CellHandover$Mobile", name := "becomeIdle", desc := "()V" } : MethodName)) ∈ ch_GL := ch_c5 23 rfl rfl
theorem kw_984 : (Cond.methodLink "CellHandover$Simulator" (135 : Nat) ({ cls := "CellHandover$Network", name := "count", desc := "(I)V" } : MethodName)) ∈ ch_GL := ch_c5 24 rfl rfl
theorem kw_985 : (Cond.methodLink "CellHandover$Simulator" (28 : Nat) ({ cls := "CellHandover$Simulator", name := "dropCalls", desc := "(LCellHandover$Network;)V" } : MethodName)) ∈ ch_GL := ch_c5 25 rfl rfl
theorem kb_986 : (Cond.privateMethod ({ cls := "CellHandover$Simulator", name := "dropCalls", desc := "(LCellHandover$Network;)V" } : MethodName)) ∈ lw_tbl := ch_b5 26 rfl
theorem kw_987 : (Cond.instanceMethod ({ cls := "CellHandover$Simulator", name := "dropCalls", desc := "(LCellHandover$Network;)V" } : MethodName)) ∈ ch_GL := ch_c5 27 rfl rfl
theorem kw_988 : (Cond.code ({ cls := "CellHandover$Simulator", name := "dropCalls", desc := "(LCellHandover$Network;)V" } : MethodName) prog_10_method_8_code (5 : Nat) (Option.none : Option FieldType)) ∈ ch_GL := ch_c5 28 rfl rfl
theorem kw_989 : (Cond.methodLink "CellHandover$Simulator" (138 : Nat) ({ cls := "CellHandover$Mobile", name := "averageOf", desc := "(I)I" } : MethodName)) ∈ ch_GL := ch_c5 29 rfl rfl
theorem kw_990 : (Cond.instanceMethod ({ cls := "CellHandover$Mobile", name := "averageOf", desc := "(I)I" } : MethodName)) ∈ ch_GL := ch_c5 30 rfl rfl
theorem kw_991 : (Cond.selects "CellHandover$Mobile" ({ cls := "CellHandover$Mobile", name := "averageOf", desc := "(I)I" } : MethodName) ({ cls := "CellHandover$Mobile", name := "averageOf", desc := "(I)I" } : MethodName)) ∈ ch_GL := ch_c5 31 rfl rfl
theorem kw_992 : (Cond.code ({ cls := "CellHandover$Mobile", name := "averageOf", desc := "(I)I" } : MethodName) prog_4_method_11_code (6 : Nat) (Option.some FieldType.int)) ∈ ch_GL := ch_c5 32 rfl rfl
theorem kw_993 : (Cond.methodLink "CellHandover$Simulator" (31 : Nat) ({ cls := "CellHandover$Simulator", name := "serveQueues", desc := "(LCellHandover$Network;)V" } : MethodName)) ∈ ch_GL := ch_c5 33 rfl rfl
theorem kb_994 : (Cond.privateMethod ({ cls := "CellHandover$Simulator", name := "serveQueues", desc := "(LCellHandover$Network;)V" } : MethodName)) ∈ lw_tbl := ch_b5 34 rfl
theorem kw_995 : (Cond.instanceMethod ({ cls := "CellHandover$Simulator", name := "serveQueues", desc := "(LCellHandover$Network;)V" } : MethodName)) ∈ ch_GL := ch_c5 35 rfl rfl
theorem kw_996 : (Cond.code ({ cls := "CellHandover$Simulator", name := "serveQueues", desc := "(LCellHandover$Network;)V" } : MethodName) prog_10_method_9_code (5 : Nat) (Option.none : Option FieldType)) ∈ ch_GL := ch_c5 36 rfl rfl
theorem kw_997 : (Cond.methodLink "CellHandover$Simulator" (150 : Nat) ({ cls := "CellHandover$Network", name := "hasFreeChannel", desc := "(I)Z" } : MethodName)) ∈ ch_GL := ch_c5 37 rfl rfl
theorem kw_998 : (Cond.methodLink "CellHandover$Simulator" (154 : Nat) ({ cls := "CellHandover$Network", name := "queuedMobile", desc := "(II)I" } : MethodName)) ∈ ch_GL := ch_c5 38 rfl rfl
theorem kw_999 : (Cond.instanceMethod ({ cls := "CellHandover$Network", name := "queuedMobile", desc := "(II)I" } : MethodName)) ∈ ch_GL := ch_c5 39 rfl rfl
theorem kw_1000 : (Cond.selects "CellHandover$Network" ({ cls := "CellHandover$Network", name := "queuedMobile", desc := "(II)I" } : MethodName) ({ cls := "CellHandover$Network", name := "queuedMobile", desc := "(II)I" } : MethodName)) ∈ ch_GL := ch_c5 40 rfl rfl
theorem kw_1001 : (Cond.code ({ cls := "CellHandover$Network", name := "queuedMobile", desc := "(II)I" } : MethodName) prog_5_method_17_code (4 : Nat) (Option.some FieldType.int)) ∈ ch_GL := ch_c5 41 rfl rfl
theorem kw_1002 : (Cond.methodLink "CellHandover$Network" (153 : Nat) ({ cls := "CellHandover$Network", name := "requestsBefore", desc := "(I)I" } : MethodName)) ∈ ch_GL := ch_c5 42 rfl rfl
theorem kb_1003 : (Cond.privateMethod ({ cls := "CellHandover$Network", name := "requestsBefore", desc := "(I)I" } : MethodName)) ∈ lw_tbl := ch_b5 43 rfl
theorem kw_1004 : (Cond.instanceMethod ({ cls := "CellHandover$Network", name := "requestsBefore", desc := "(I)I" } : MethodName)) ∈ ch_GL := ch_c5 44 rfl rfl
theorem kw_1005 : (Cond.code ({ cls := "CellHandover$Network", name := "requestsBefore", desc := "(I)I" } : MethodName) prog_5_method_18_code (5 : Nat) (Option.some FieldType.int)) ∈ ch_GL := ch_c5 45 rfl rfl
theorem kw_1006 : (Cond.methodLink "CellHandover$Network" (156 : Nat) ({ cls := "CellHandover$Network", name := "comesBefore", desc := "(II)Z" } : MethodName)) ∈ ch_GL := ch_c5 46 rfl rfl
theorem kb_1007 : (Cond.privateMethod ({ cls := "CellHandover$Network", name := "comesBefore", desc := "(II)Z" } : MethodName)) ∈ lw_tbl := ch_b5 47 rfl
theorem kw_1008 : (Cond.instanceMethod ({ cls := "CellHandover$Network", name := "comesBefore", desc := "(II)Z" } : MethodName)) ∈ ch_GL := ch_c5 48 rfl rfl
theorem kw_1009 : (Cond.code ({ cls := "CellHandover$Network", name := "comesBefore", desc := "(II)Z" } : MethodName) prog_5_method_19_code (5 : Nat) (Option.some FieldType.boolean)) ∈ ch_GL := ch_c5 49 rfl rfl
theorem kw_1010 : (Cond.methodLink "CellHandover$Simulator" (157 : Nat) ({ cls := "CellHandover$Simulator", name := "serve", desc := "(LCellHandover$Network;LCellHandover$Mobile;I)V" } : MethodName)) ∈ ch_GL := ch_c5 50 rfl rfl
theorem kb_1011 : (Cond.privateMethod ({ cls := "CellHandover$Simulator", name := "serve", desc := "(LCellHandover$Network;LCellHandover$Mobile;I)V" } : MethodName)) ∈ lw_tbl := ch_b5 51 rfl
theorem kw_1012 : (Cond.instanceMethod ({ cls := "CellHandover$Simulator", name := "serve", desc := "(LCellHandover$Network;LCellHandover$Mobile;I)V" } : MethodName)) ∈ ch_GL := ch_c5 52 rfl rfl
theorem kw_1013 : (Cond.code ({ cls := "CellHandover$Simulator", name := "serve", desc := "(LCellHandover$Network;LCellHandover$Mobile;I)V" } : MethodName) prog_10_method_10_code (4 : Nat) (Option.none : Option FieldType)) ∈ ch_GL := ch_c5 53 rfl rfl
theorem kw_1014 : (Cond.methodLink "CellHandover$Simulator" (161 : Nat) ({ cls := "CellHandover$Network", name := "handOver", desc := "(LCellHandover$Mobile;I)V" } : MethodName)) ∈ ch_GL := ch_c5 54 rfl rfl
theorem kw_1015 : (Cond.instanceMethod ({ cls := "CellHandover$Network", name := "handOver", desc := "(LCellHandover$Mobile;I)V" } : MethodName)) ∈ ch_GL := ch_c5 55 rfl rfl
theorem kw_1016 : (Cond.selects "CellHandover$Network" ({ cls := "CellHandover$Network", name := "handOver", desc := "(LCellHandover$Mobile;I)V" } : MethodName) ({ cls := "CellHandover$Network", name := "handOver", desc := "(LCellHandover$Mobile;I)V" } : MethodName)) ∈ ch_GL := ch_c5 56 rfl rfl
theorem kw_1017 : (Cond.code ({ cls := "CellHandover$Network", name := "handOver", desc := "(LCellHandover$Mobile;I)V" } : MethodName) prog_5_method_22_code (4 : Nat) (Option.none : Option FieldType)) ∈ ch_GL := ch_c5 57 rfl rfl
theorem kw_1018 : (Cond.methodLink "CellHandover$Network" (198 : Nat) ({ cls := "CellHandover$Mobile", name := "isBarredAt", desc := "(II)Z" } : MethodName)) ∈ ch_GL := ch_c5 58 rfl rfl
theorem kw_1019 : (Cond.instanceMethod ({ cls := "CellHandover$Mobile", name := "isBarredAt", desc := "(II)Z" } : MethodName)) ∈ ch_GL := ch_c5 59 rfl rfl
theorem kw_1020 : (Cond.selects "CellHandover$Mobile" ({ cls := "CellHandover$Mobile", name := "isBarredAt", desc := "(II)Z" } : MethodName) ({ cls := "CellHandover$Mobile", name := "isBarredAt", desc := "(II)Z" } : MethodName)) ∈ ch_GL := ch_c5 60 rfl rfl
theorem kw_1021 : (Cond.code ({ cls := "CellHandover$Mobile", name := "isBarredAt", desc := "(II)Z" } : MethodName) prog_4_method_13_code (3 : Nat) (Option.some FieldType.boolean)) ∈ ch_GL := ch_c5 61 rfl rfl
theorem kw_1022 : (Cond.methodLink "CellHandover$Network" (201 : Nat) ({ cls := "CellHandover$Mobile", name := "bar", desc := "(II)V" } : MethodName)) ∈ ch_GL := ch_c5 62 rfl rfl
theorem kw_1023 : (Cond.instanceMethod ({ cls := "CellHandover$Mobile", name := "bar", desc := "(II)V" } : MethodName)) ∈ ch_GL := ch_c5 63 rfl rfl
theorem kw_1024 : (Cond.selects "CellHandover$Mobile" ({ cls := "CellHandover$Mobile", name := "bar", desc := "(II)V" } : MethodName) ({ cls := "CellHandover$Mobile", name := "bar", desc := "(II)V" } : MethodName)) ∈ ch_GL := ch_c5 64 rfl rfl
theorem kw_1025 : (Cond.code ({ cls := "CellHandover$Mobile", name := "bar", desc := "(II)V" } : MethodName) prog_4_method_12_code (3 : Nat) (Option.none : Option FieldType)) ∈ ch_GL := ch_c5 65 rfl rfl
theorem kw_1026 : (Cond.methodLink "CellHandover$Simulator" (165 : Nat) ({ cls := "CellHandover$Mobile", name := "beginToTalk", desc := "(I)V" } : MethodName)) ∈ ch_GL := ch_c5 66 rfl rfl
theorem kw_1027 : (Cond.methodLink "CellHandover$Simulator" (34 : Nat) ({ cls := "CellHandover$Simulator", name := "decideHandovers", desc := "(LCellHandover$Network;)V" } : MethodName)) ∈ ch_GL := ch_c5 67 rfl rfl
theorem kb_1028 : (Cond.privateMethod ({ cls := "CellHandover$Simulator", name := "decideHandovers", desc := "(LCellHandover$Network;)V" } : MethodName)) ∈ lw_tbl := ch_b5 68 rfl
theorem kw_1029 : (Cond.instanceMethod ({ cls := "CellHandover$Simulator", name := "decideHandovers", desc := "(LCellHandover$Network;)V" } : MethodName)) ∈ ch_GL := ch_c5 69 rfl rfl
theorem kw_1030 : (Cond.code ({ cls := "CellHandover$Simulator", name := "decideHandovers", desc := "(LCellHandover$Network;)V" } : MethodName) prog_10_method_11_code (4 : Nat) (Option.none : Option FieldType)) ∈ ch_GL := ch_c5 70 rfl rfl
theorem kw_1031 : (Cond.methodLink "CellHandover$Simulator" (171 : Nat) ({ cls := "CellHandover$Simulator", name := "considerHandover", desc := "(LCellHandover$Network;LCellHandover$Mobile;)V" } : MethodName)) ∈ ch_GL := ch_c5 71 rfl rfl
theorem kb_1032 : (Cond.privateMethod ({ cls := "CellHandover$Simulator", name := "considerHandover", desc := "(LCellHandover$Network;LCellHandover$Mobile;)V" } : MethodName)) ∈ lw_tbl := ch_b5 72 rfl
theorem kw_1033 : (Cond.instanceMethod ({ cls := "CellHandover$Simulator", name := "considerHandover", desc := "(LCellHandover$Network;LCellHandover$Mobile;)V" } : MethodName)) ∈ ch_GL := ch_c5 73 rfl rfl
theorem kw_1034 : (Cond.code ({ cls := "CellHandover$Simulator", name := "considerHandover", desc := "(LCellHandover$Network;LCellHandover$Mobile;)V" } : MethodName) prog_10_method_12_code (5 : Nat) (Option.none : Option FieldType)) ∈ ch_GL := ch_c5 74 rfl rfl
theorem kw_1035 : (Cond.methodLink "CellHandover$Simulator" (53 : Nat) ({ cls := "CellHandover$Ranking", name := "rank", desc := "(LCellHandover$Network;LCellHandover$Mobile;)V" } : MethodName)) ∈ ch_GL := ch_c5 75 rfl rfl
theorem kw_1036 : (Cond.instanceMethod ({ cls := "CellHandover$Ranking", name := "rank", desc := "(LCellHandover$Network;LCellHandover$Mobile;)V" } : MethodName)) ∈ ch_GL := ch_c5 76 rfl rfl
theorem kw_1037 : (Cond.selects "CellHandover$Ranking" ({ cls := "CellHandover$Ranking", name := "rank", desc := "(LCellHandover$Network;LCellHandover$Mobile;)V" } : MethodName) ({ cls := "CellHandover$Ranking", name := "rank", desc := "(LCellHandover$Network;LCellHandover$Mobile;)V" } : MethodName)) ∈ ch_GL := ch_c5 77 rfl rfl
theorem kw_1038 : (Cond.code ({ cls := "CellHandover$Ranking", name := "rank", desc := "(LCellHandover$Network;LCellHandover$Mobile;)V" } : MethodName) prog_8_method_2_code (6 : Nat) (Option.none : Option FieldType)) ∈ ch_GL := ch_c5 78 rfl rfl
theorem kw_1039 : (Cond.methodLink "CellHandover$Ranking" (31 : Nat) ({ cls := "CellHandover$Mobile", name := "averageOf", desc := "(I)I" } : MethodName)) ∈ ch_GL := ch_c5 79 rfl rfl
theorem kw_1040 : (Cond.methodLink "CellHandover$Ranking" (35 : Nat) ({ cls := "CellHandover$Network", name := "cellAt", desc := "(I)LCellHandover$Cell;" } : MethodName)) ∈ ch_GL := ch_c5 80 rfl rfl
theorem kw_1041 : (Cond.methodLink "CellHandover$Ranking" (49 : Nat) ({ cls := "CellHandover$Ranking", name := "marginOf", desc := "(LCellHandover$Network;LCellHandover$Mobile;I)I" } : MethodName)) ∈ ch_GL := ch_c5 81 rfl rfl
theorem kb_1042 : (Cond.privateMethod ({ cls := "CellHandover$Ranking", name := "marginOf", desc := "(LCellHandover$Network;LCellHandover$Mobile;I)I" } : MethodName)) ∈ lw_tbl := ch_b5 82 rfl
theorem kw_1043 : (Cond.instanceMethod ({ cls := "CellHandover$Ranking", name := "marginOf", desc := "(LCellHandover$Network;LCellHandover$Mobile;I)I" } : MethodName)) ∈ ch_GL := ch_c5 83 rfl rfl
theorem kw_1044 : (Cond.code ({ cls := "CellHandover$Ranking", name := "marginOf", desc := "(LCellHandover$Network;LCellHandover$Mobile;I)I" } : MethodName) prog_8_method_3_code (7 : Nat) (Option.some FieldType.int)) ∈ ch_GL := ch_c5 84 rfl rfl
theorem kw_1045 : (Cond.methodLink "CellHandover$Ranking" (57 : Nat) ({ cls := "CellHandover$Network", name := "relationAt", desc := "(II)LCellHandover$Relation;" } : MethodName)) ∈ ch_GL := ch_c5 85 rfl rfl
theorem kw_1046 : (Cond.methodLink "CellHandover$Ranking" (66 : Nat) ({ cls := "CellHandover$Mobile", name := "reportsOf", desc := "(I)I" } : MethodName)) ∈ ch_GL := ch_c5 86 rfl rfl
theorem kw_1047 : (Cond.methodLink "CellHandover$Ranking" (75 : Nat) ({ cls := "CellHandover$Mobile", name := "isBarredAt", desc := "(II)Z" } : MethodName)) ∈ ch_GL := ch_c5 87 rfl rfl
theorem kw_1048 : (Cond.methodLink "CellHandover$Ranking" (53 : Nat) ({ cls := "CellHandover$Ranking", name := "insert", desc := "(II)V" } : MethodName)) ∈ ch_GL := ch_c5 88 rfl rfl
theorem kb_1049 : (Cond.privateMethod ({ cls := "CellHandover$Ranking", name := "insert", desc := "(II)V" } : MethodName)) ∈ lw_tbl := ch_b5 89 rfl
theorem kw_1050 : (Cond.instanceMethod ({ cls := "CellHandover$Ranking", name := "insert", desc := "(II)V" } : MethodName)) ∈ ch_GL := ch_c5 90 rfl rfl
theorem kw_1051 : (Cond.code ({ cls := "CellHandover$Ranking", name := "insert", desc := "(II)V" } : MethodName) prog_8_method_4_code (4 : Nat) (Option.none : Option FieldType)) ∈ ch_GL := ch_c5 91 rfl rfl
theorem kw_1052 : (Cond.methodLink "CellHandover$Simulator" (57 : Nat) ({ cls := "CellHandover$Ranking", name := "cellAtRank", desc := "(I)I" } : MethodName)) ∈ ch_GL := ch_c5 92 rfl rfl
theorem kw_1053 : (Cond.instanceMethod ({ cls := "CellHandover$Ranking", name := "cellAtRank", desc := "(I)I" } : MethodName)) ∈ ch_GL := ch_c5 93 rfl rfl
theorem kw_1054 : (Cond.selects "CellHandover$Ranking" ({ cls := "CellHandover$Ranking", name := "cellAtRank", desc := "(I)I" } : MethodName) ({ cls := "CellHandover$Ranking", name := "cellAtRank", desc := "(I)I" } : MethodName)) ∈ ch_GL := ch_c5 94 rfl rfl
theorem kw_1055 : (Cond.code ({ cls := "CellHandover$Ranking", name := "cellAtRank", desc := "(I)I" } : MethodName) prog_8_method_5_code (2 : Nat) (Option.some FieldType.int)) ∈ ch_GL := ch_c5 95 rfl rfl
theorem kw_1056 : (Cond.methodLink "CellHandover$Simulator" (182 : Nat) ({ cls := "CellHandover$Network", name := "hasQueuePlace", desc := "(I)Z" } : MethodName)) ∈ ch_GL := ch_c5 96 rfl rfl
theorem kw_1057 : (Cond.methodLink "CellHandover$Simulator" (185 : Nat) ({ cls := "CellHandover$Mobile", name := "makeRequest", desc := "(II)V" } : MethodName)) ∈ ch_GL := ch_c5 97 rfl rfl
theorem kw_1058 : (Cond.methodLink "CellHandover$Simulator" (37 : Nat) ({ cls := "CellHandover$Simulator", name := "countCongestion", desc := "(LCellHandover$Network;)V" } : MethodName)) ∈ ch_GL := ch_c5 98 rfl rfl
theorem kb_1059 : (Cond.privateMethod ({ cls := "CellHandover$Simulator", name := "countCongestion", desc := "(LCellHandover$Network;)V" } : MethodName)) ∈ lw_tbl := ch_b5 99 rfl
theorem kw_1060 : (Cond.instanceMethod ({ cls := "CellHandover$Simulator", name := "countCongestion", desc := "(LCellHandover$Network;)V" } : MethodName)) ∈ ch_GL := ch_c5 100 rfl rfl
theorem kw_1061 : (Cond.code ({ cls := "CellHandover$Simulator", name := "countCongestion", desc := "(LCellHandover$Network;)V" } : MethodName) prog_10_method_13_code (3 : Nat) (Option.none : Option FieldType)) ∈ ch_GL := ch_c5 101 rfl rfl
theorem kw_1062 : (Cond.methodLink "CellHandover$Simulator" (40 : Nat) ({ cls := "CellHandover$Simulator", name := "expireRequests", desc := "(LCellHandover$Network;)V" } : MethodName)) ∈ ch_GL := ch_c5 102 rfl rfl
theorem kb_1063 : (Cond.privateMethod ({ cls := "CellHandover$Simulator", name := "expireRequests", desc := "(LCellHandover$Network;)V" } : MethodName)) ∈ lw_tbl := ch_b5 103 rfl
theorem kw_1064 : (Cond.instanceMethod ({ cls := "CellHandover$Simulator", name := "expireRequests", desc := "(LCellHandover$Network;)V" } : MethodName)) ∈ ch_GL := ch_c5 104 rfl rfl
theorem kw_1065 : (Cond.code ({ cls := "CellHandover$Simulator", name := "expireRequests", desc := "(LCellHandover$Network;)V" } : MethodName) prog_10_method_14_code (4 : Nat) (Option.none : Option FieldType)) ∈ ch_GL := ch_c5 105 rfl rfl
theorem kw_1066 : (Cond.methodLink "CellHandover$Simulator" (198 : Nat) ({ cls := "CellHandover$Simulator", name := "expire", desc := "(LCellHandover$Network;LCellHandover$Mobile;)V" } : MethodName)) ∈ ch_GL := ch_c5 106 rfl rfl
theorem kb_1067 : (Cond.privateMethod ({ cls := "CellHandover$Simulator", name := "expire", desc := "(LCellHandover$Network;LCellHandover$Mobile;)V" } : MethodName)) ∈ lw_tbl := ch_b5 107 rfl
theorem kw_1068 : (Cond.instanceMethod ({ cls := "CellHandover$Simulator", name := "expire", desc := "(LCellHandover$Network;LCellHandover$Mobile;)V" } : MethodName)) ∈ ch_GL := ch_c5 108 rfl rfl
theorem kw_1069 : (Cond.code ({ cls := "CellHandover$Simulator", name := "expire", desc := "(LCellHandover$Network;LCellHandover$Mobile;)V" } : MethodName) prog_10_method_15_code (3 : Nat) (Option.none : Option FieldType)) ∈ ch_GL := ch_c5 109 rfl rfl
theorem kw_1070 : (Cond.methodLink "CellHandoverLaw" (186 : Nat) ({ cls := "CellHandoverLaw", name := "x", desc := "(LCellHandover;I[J)I" } : MethodName)) ∈ ch_GL := ch_c5 110 rfl rfl
theorem kw_1071 : (Cond.static ({ cls := "CellHandoverLaw", name := "x", desc := "(LCellHandover;I[J)I" } : MethodName)) ∈ ch_GL := ch_c5 111 rfl rfl
theorem kw_1072 : (Cond.codeWith ({ cls := "CellHandoverLaw", name := "x", desc := "(LCellHandover;I[J)I" } : MethodName) method_15_code (4 : Nat) (Option.some FieldType.int) [((0 : Nat), (9 : Nat), (12 : Nat), (19 : Nat))]) ∈ ch_GL := ch_c5 112 rfl rfl
theorem kw_1073 : (Cond.methodLink "CellHandoverLaw" (53 : Nat) ({ cls := "CellHandover", name := "x", desc := "(I)I" } : MethodName)) ∈ ch_GL := ch_c5 113 rfl rfl
theorem kw_1074 : (Cond.instanceMethod ({ cls := "CellHandover", name := "x", desc := "(I)I" } : MethodName)) ∈ ch_GL := ch_c5 114 rfl rfl
theorem kw_1075 : (Cond.selects "CellHandover" ({ cls := "CellHandover", name := "x", desc := "(I)I" } : MethodName) ({ cls := "CellHandover", name := "x", desc := "(I)I" } : MethodName)) ∈ ch_GL := ch_c5 115 rfl rfl
theorem kw_1076 : (Cond.code ({ cls := "CellHandover", name := "x", desc := "(I)I" } : MethodName) prog_1_method_20_code (2 : Nat) (Option.some FieldType.int)) ∈ ch_GL := ch_c5 116 rfl rfl
theorem kw_1077 : (Cond.methodLink "CellHandoverLaw" (189 : Nat) ({ cls := "CellHandoverLaw", name := "y", desc := "(LCellHandover;I[J)I" } : MethodName)) ∈ ch_GL := ch_c5 117 rfl rfl
theorem kw_1078 : (Cond.static ({ cls := "CellHandoverLaw", name := "y", desc := "(LCellHandover;I[J)I" } : MethodName)) ∈ ch_GL := ch_c5 118 rfl rfl
theorem kw_1079 : (Cond.codeWith ({ cls := "CellHandoverLaw", name := "y", desc := "(LCellHandover;I[J)I" } : MethodName) method_16_code (4 : Nat) (Option.some FieldType.int) [((0 : Nat), (9 : Nat), (12 : Nat), (19 : Nat))]) ∈ ch_GL := ch_c5 119 rfl rfl
theorem kw_1080 : (Cond.methodLink "CellHandoverLaw" (56 : Nat) ({ cls := "CellHandover", name := "y", desc := "(I)I" } : MethodName)) ∈ ch_GL := ch_c5 120 rfl rfl
theorem kw_1081 : (Cond.instanceMethod ({ cls := "CellHandover", name := "y", desc := "(I)I" } : MethodName)) ∈ ch_GL := ch_c5 121 rfl rfl
theorem kw_1082 : (Cond.selects "CellHandover" ({ cls := "CellHandover", name := "y", desc := "(I)I" } : MethodName) ({ cls := "CellHandover", name := "y", desc := "(I)I" } : MethodName)) ∈ ch_GL := ch_c5 122 rfl rfl
theorem kw_1083 : (Cond.code ({ cls := "CellHandover", name := "y", desc := "(I)I" } : MethodName) prog_1_method_21_code (2 : Nat) (Option.some FieldType.int)) ∈ ch_GL := ch_c5 123 rfl rfl
theorem kw_1084 : (Cond.methodLink "CellHandoverLaw" (192 : Nat) ({ cls := "CellHandoverLaw", name := "state", desc := "(LCellHandover;I[J)I" } : MethodName)) ∈ ch_GL := ch_c5 124 rfl rfl
theorem kw_1085 : (Cond.static ({ cls := "CellHandoverLaw", name := "state", desc := "(LCellHandover;I[J)I" } : MethodName)) ∈ ch_GL := ch_c5 125 rfl rfl
theorem kw_1086 : (Cond.codeWith ({ cls := "CellHandoverLaw", name := "state", desc := "(LCellHandover;I[J)I" } : MethodName) method_17_code (4 : Nat) (Option.some FieldType.int) [((0 : Nat), (9 : Nat), (12 : Nat), (19 : Nat))]) ∈ ch_GL := ch_c5 126 rfl rfl
theorem kw_1087 : (Cond.methodLink "CellHandoverLaw" (59 : Nat) ({ cls := "CellHandover", name := "state", desc := "(I)I" } : MethodName)) ∈ ch_GL := ch_c5 127 rfl rfl
theorem kw_1088 : (Cond.instanceMethod ({ cls := "CellHandover", name := "state", desc := "(I)I" } : MethodName)) ∈ ch_GL := ch_c5 128 rfl rfl
theorem kw_1089 : (Cond.selects "CellHandover" ({ cls := "CellHandover", name := "state", desc := "(I)I" } : MethodName) ({ cls := "CellHandover", name := "state", desc := "(I)I" } : MethodName)) ∈ ch_GL := ch_c5 129 rfl rfl
theorem kw_1090 : (Cond.code ({ cls := "CellHandover", name := "state", desc := "(I)I" } : MethodName) prog_1_method_22_code (2 : Nat) (Option.some FieldType.int)) ∈ ch_GL := ch_c5 130 rfl rfl
theorem kw_1091 : (Cond.methodLink "CellHandoverLaw" (195 : Nat) ({ cls := "CellHandoverLaw", name := "servingCell", desc := "(LCellHandover;I[J)I" } : MethodName)) ∈ ch_GL := ch_c5 131 rfl rfl
theorem kw_1092 : (Cond.static ({ cls := "CellHandoverLaw", name := "servingCell", desc := "(LCellHandover;I[J)I" } : MethodName)) ∈ ch_GL := ch_c5 132 rfl rfl
theorem kw_1093 : (Cond.codeWith ({ cls := "CellHandoverLaw", name := "servingCell", desc := "(LCellHandover;I[J)I" } : MethodName) method_18_code (4 : Nat) (Option.some FieldType.int) [((0 : Nat), (9 : Nat), (12 : Nat), (19 : Nat))]) ∈ ch_GL := ch_c5 133 rfl rfl
theorem kw_1094 : (Cond.methodLink "CellHandoverLaw" (62 : Nat) ({ cls := "CellHandover", name := "servingCell", desc := "(I)I" } : MethodName)) ∈ ch_GL := ch_c5 134 rfl rfl
theorem kw_1095 : (Cond.instanceMethod ({ cls := "CellHandover", name := "servingCell", desc := "(I)I" } : MethodName)) ∈ ch_GL := ch_c5 135 rfl rfl
theorem kw_1096 : (Cond.selects "CellHandover" ({ cls := "CellHandover", name := "servingCell", desc := "(I)I" } : MethodName) ({ cls := "CellHandover", name := "servingCell", desc := "(I)I" } : MethodName)) ∈ ch_GL := ch_c5 136 rfl rfl
theorem kw_1097 : (Cond.code ({ cls := "CellHandover", name := "servingCell", desc := "(I)I" } : MethodName) prog_1_method_23_code (2 : Nat) (Option.some FieldType.int)) ∈ ch_GL := ch_c5 137 rfl rfl
theorem kw_1098 : (Cond.methodLink "CellHandoverLaw" (198 : Nat) ({ cls := "CellHandoverLaw", name := "remaining", desc := "(LCellHandover;I[J)I" } : MethodName)) ∈ ch_GL := ch_c5 138 rfl rfl
theorem kw_1099 : (Cond.static ({ cls := "CellHandoverLaw", name := "remaining", desc := "(LCellHandover;I[J)I" } : MethodName)) ∈ ch_GL := ch_c5 139 rfl rfl
theorem kw_1100 : (Cond.codeWith ({ cls := "CellHandoverLaw", name := "remaining", desc := "(LCellHandover;I[J)I" } : MethodName) method_19_code (4 : Nat) (Option.some FieldType.int) [((0 : Nat), (9 : Nat), (12 : Nat), (19 : Nat))]) ∈ ch_GL := ch_c5 140 rfl rfl
theorem kw_1101 : (Cond.methodLink "CellHandoverLaw" (65 : Nat) ({ cls := "CellHandover", name := "remaining", desc := "(I)I" } : MethodName)) ∈ ch_GL := ch_c5 141 rfl rfl
theorem kw_1102 : (Cond.instanceMethod ({ cls := "CellHandover", name := "remaining", desc := "(I)I" } : MethodName)) ∈ ch_GL := ch_c5 142 rfl rfl
theorem kw_1103 : (Cond.selects "CellHandover" ({ cls := "CellHandover", name := "remaining", desc := "(I)I" } : MethodName) ({ cls := "CellHandover", name := "remaining", desc := "(I)I" } : MethodName)) ∈ ch_GL := ch_c5 143 rfl rfl
theorem kw_1104 : (Cond.code ({ cls := "CellHandover", name := "remaining", desc := "(I)I" } : MethodName) prog_1_method_24_code (2 : Nat) (Option.some FieldType.int)) ∈ ch_GL := ch_c5 144 rfl rfl
theorem kw_1105 : (Cond.methodLink "CellHandoverLaw" (201 : Nat) ({ cls := "CellHandoverLaw", name := "requestCell", desc := "(LCellHandover;I[J)I" } : MethodName)) ∈ ch_GL := ch_c5 145 rfl rfl
theorem kw_1106 : (Cond.static ({ cls := "CellHandoverLaw", name := "requestCell", desc := "(LCellHandover;I[J)I" } : MethodName)) ∈ ch_GL := ch_c5 146 rfl rfl
theorem kw_1107 : (Cond.codeWith ({ cls := "CellHandoverLaw", name := "requestCell", desc := "(LCellHandover;I[J)I" } : MethodName) method_20_code (4 : Nat) (Option.some FieldType.int) [((0 : Nat), (9 : Nat), (12 : Nat), (19 : Nat))]) ∈ ch_GL := ch_c5 147 rfl rfl
theorem kw_1108 : (Cond.methodLink "CellHandoverLaw" (68 : Nat) ({ cls := "CellHandover", name := "requestCell", desc := "(I)I" } : MethodName)) ∈ ch_GL := ch_c5 148 rfl rfl
theorem kw_1109 : (Cond.instanceMethod ({ cls := "CellHandover", name := "requestCell", desc := "(I)I" } : MethodName)) ∈ ch_GL := ch_c5 149 rfl rfl
theorem kw_1110 : (Cond.selects "CellHandover" ({ cls := "CellHandover", name := "requestCell", desc := "(I)I" } : MethodName) ({ cls := "CellHandover", name := "requestCell", desc := "(I)I" } : MethodName)) ∈ ch_GL := ch_c5 150 rfl rfl
theorem kw_1111 : (Cond.code ({ cls := "CellHandover", name := "requestCell", desc := "(I)I" } : MethodName) prog_1_method_25_code (2 : Nat) (Option.some FieldType.int)) ∈ ch_GL := ch_c5 151 rfl rfl
theorem kw_1112 : (Cond.methodLink "CellHandoverLaw" (204 : Nat) ({ cls := "CellHandoverLaw", name := "average", desc := "(LCellHandover;II[J)I" } : MethodName)) ∈ ch_GL := ch_c5 152 rfl rfl
theorem kw_1113 : (Cond.static ({ cls := "CellHandoverLaw", name := "average", desc := "(LCellHandover;II[J)I" } : MethodName)) ∈ ch_GL := ch_c5 153 rfl rfl
theorem kw_1114 : (Cond.codeWith ({ cls := "CellHandoverLaw", name := "average", desc := "(LCellHandover;II[J)I" } : MethodName) method_21_code (5 : Nat) (Option.some FieldType.int) [((0 : Nat), (10 : Nat), (13 : Nat), (19 : Nat))]) ∈ ch_GL := ch_c5 154 rfl rfl
theorem kw_1115 : (Cond.methodLink "CellHandoverLaw" (71 : Nat) ({ cls := "CellHandover", name := "average", desc := "(II)I" } : MethodName)) ∈ ch_GL := ch_c5 155 rfl rfl
theorem kw_1116 : (Cond.instanceMethod ({ cls := "CellHandover", name := "average", desc := "(II)I" } : MethodName)) ∈ ch_GL := ch_c5 156 rfl rfl
theorem kw_1117 : (Cond.selects "CellHandover" ({ cls := "CellHandover", name := "average", desc := "(II)I" } : MethodName) ({ cls := "CellHandover", name := "average", desc := "(II)I" } : MethodName)) ∈ ch_GL := ch_c5 157 rfl rfl
theorem kw_1118 : (Cond.code ({ cls := "CellHandover", name := "average", desc := "(II)I" } : MethodName) prog_1_method_26_code (3 : Nat) (Option.some FieldType.int)) ∈ ch_GL := ch_c5 158 rfl rfl
theorem kw_1119 : (Cond.methodLink "CellHandover" (199 : Nat) ({ cls := "CellHandover$Mobile", name := "averageOf", desc := "(I)I" } : MethodName)) ∈ ch_GL := ch_c5 159 rfl rfl
theorem kw_1120 : (Cond.methodLink "CellHandoverLaw" (207 : Nat) ({ cls := "CellHandoverLaw", name := "reportCount", desc := "(LCellHandover;II[J)I" } : MethodName)) ∈ ch_GL := ch_c5 160 rfl rfl
theorem kw_1121 : (Cond.static ({ cls := "CellHandoverLaw", name := "reportCount", desc := "(LCellHandover;II[J)I" } : MethodName)) ∈ ch_GL := ch_c5 161 rfl rfl
theorem kw_1122 : (Cond.codeWith ({ cls := "CellHandoverLaw", name := "reportCount", desc := "(LCellHandover;II[J)I" } : MethodName) method_22_code (5 : Nat) (Option.some FieldType.int) [((0 : Nat), (10 : Nat), (13 : Nat), (19 : Nat))]) ∈ ch_GL := ch_c5 162 rfl rfl
theorem kw_1123 : (Cond.methodLink "CellHandoverLaw" (74 : Nat) ({ cls := "CellHandover", name := "reportCount", desc := "(II)I" } : MethodName)) ∈ ch_GL := ch_c5 163 rfl rfl
theorem kw_1124 : (Cond.instanceMethod ({ cls := "CellHandover", name := "reportCount", desc := "(II)I" } : MethodName)) ∈ ch_GL := ch_c5 164 rfl rfl
theorem kw_1125 : (Cond.selects "CellHandover" ({ cls := "CellHandover", name := "reportCount", desc := "(II)I" } : MethodName) ({ cls := "CellHandover", name := "reportCount", desc := "(II)I" } : MethodName)) ∈ ch_GL := ch_c5 165 rfl rfl
theorem kw_1126 : (Cond.code ({ cls := "CellHandover", name := "reportCount", desc := "(II)I" } : MethodName) prog_1_method_27_code (3 : Nat) (Option.some FieldType.int)) ∈ ch_GL := ch_c5 166 rfl rfl
theorem kw_1127 : (Cond.methodLink "CellHandover" (202 : Nat) ({ cls := "CellHandover$Mobile", name := "reportsOf", desc := "(I)I" } : MethodName)) ∈ ch_GL := ch_c5 167 rfl rfl
theorem kw_1128 : (Cond.methodLink "CellHandoverLaw" (210 : Nat) ({ cls := "CellHandoverLaw", name := "isBarred", desc := "(LCellHandover;II[J)I" } : MethodName)) ∈ ch_GL := ch_c5 168 rfl rfl
theorem kw_1129 : (Cond.static ({ cls := "CellHandoverLaw", name := "isBarred", desc := "(LCellHandover;II[J)I" } : MethodName)) ∈ ch_GL := ch_c5 169 rfl rfl
theorem kw_1130 : (Cond.codeWith ({ cls := "CellHandoverLaw", name := "isBarred", desc := "(LCellHandover;II[J)I" } : MethodName) method_23_code (5 : Nat) (Option.some FieldType.int) [((0 : Nat), (17 : Nat), (20 : Nat), (19 : Nat))]) ∈ ch_GL := ch_c5 170 rfl rfl
theorem kw_1131 : (Cond.methodLink "CellHandoverLaw" (77 : Nat) ({ cls := "CellHandover", name := "isBarred", desc := "(II)Z" } : MethodName)) ∈ ch_GL := ch_c5 171 rfl rfl
theorem kw_1132 : (Cond.instanceMethod ({ cls := "CellHandover", name := "isBarred", desc := "(II)Z" } : MethodName)) ∈ ch_GL := ch_c5 172 rfl rfl
theorem kw_1133 : (Cond.selects "CellHandover" ({ cls := "CellHandover", name := "isBarred", desc := "(II)Z" } : MethodName) ({ cls := "CellHandover", name := "isBarred", desc := "(II)Z" } : MethodName)) ∈ ch_GL := ch_c5 173 rfl rfl
theorem kw_1134 : (Cond.code ({ cls := "CellHandover", name := "isBarred", desc := "(II)Z" } : MethodName) prog_1_method_28_code (3 : Nat) (Option.some FieldType.boolean)) ∈ ch_GL := ch_c5 174 rfl rfl
theorem kw_1135 : (Cond.methodLink "CellHandover" (205 : Nat) ({ cls := "CellHandover$Mobile", name := "isBarredAt", desc := "(II)Z" } : MethodName)) ∈ ch_GL := ch_c5 175 rfl rfl
theorem kw_1136 : (Cond.methodLink "CellHandoverLaw" (213 : Nat) ({ cls := "CellHandoverLaw", name := "candidate", desc := "(LCellHandover;II[J)I" } : MethodName)) ∈ ch_GL := ch_c5 176 rfl rfl
theorem kw_1137 : (Cond.static ({ cls := "CellHandoverLaw", name := "candidate", desc := "(LCellHandover;II[J)I" } : MethodName)) ∈ ch_GL := ch_c5 177 rfl rfl
theorem kw_1138 : (Cond.codeWith ({ cls := "CellHandoverLaw", name := "candidate", desc := "(LCellHandover;II[J)I" } : MethodName) method_24_code (5 : Nat) (Option.some FieldType.int) [((0 : Nat), (10 : Nat), (13 : Nat), (19 : Nat))]) ∈ ch_GL := ch_c5 178 rfl rfl
theorem kw_1139 : (Cond.methodLink "CellHandoverLaw" (81 : Nat) ({ cls := "CellHandover", name := "candidate", desc := "(II)I" } : MethodName)) ∈ ch_GL := ch_c5 179 rfl rfl
theorem kw_1140 : (Cond.instanceMethod ({ cls := "CellHandover", name := "candidate", desc := "(II)I" } : MethodName)) ∈ ch_GL := ch_c5 180 rfl rfl
theorem kw_1141 : (Cond.selects "CellHandover" ({ cls := "CellHandover", name := "candidate", desc := "(II)I" } : MethodName) ({ cls := "CellHandover", name := "candidate", desc := "(II)I" } : MethodName)) ∈ ch_GL := ch_c5 181 rfl rfl
theorem kw_1142 : (Cond.code ({ cls := "CellHandover", name := "candidate", desc := "(II)I" } : MethodName) prog_1_method_29_code (3 : Nat) (Option.some FieldType.int)) ∈ ch_GL := ch_c5 182 rfl rfl
theorem kw_1143 : (Cond.methodLink "CellHandover" (209 : Nat) ({ cls := "CellHandover", name := "requireIndex", desc := "(I)V" } : MethodName)) ∈ ch_GL := ch_c5 183 rfl rfl
theorem kw_1144 : (Cond.static ({ cls := "CellHandover", name := "requireIndex", desc := "(I)V" } : MethodName)) ∈ ch_GL := ch_c5 184 rfl rfl
theorem kw_1145 : (Cond.code ({ cls := "CellHandover", name := "requireIndex", desc := "(I)V" } : MethodName) prog_1_method_47_code (1 : Nat) (Option.none : Option FieldType)) ∈ ch_GL := ch_c5 185 rfl rfl
theorem kb_1146 : (Cond.stringRef "CellHandover" (263 : Nat) "negative index") ∈ lw_tbl := ch_b5 186 rfl
theorem kw_1147 : (Cond.methodLink "CellHandover" (212 : Nat) ({ cls := "CellHandover$Simulator", name := "candidateAt", desc := "(LCellHandover$Network;II)I" } : MethodName)) ∈ ch_GL := ch_c5 187 rfl rfl
theorem kw_1148 : (Cond.instanceMethod ({ cls := "CellHandover$Simulator", name := "candidateAt", desc := "(LCellHandover$Network;II)I" } : MethodName)) ∈ ch_GL := ch_c5 188 rfl rfl
theorem kw_1149 : (Cond.selects "CellHandover$Simulator" ({ cls := "CellHandover$Simulator", name := "candidateAt", desc := "(LCellHandover$Network;II)I" } : MethodName) ({ cls := "CellHandover$Simulator", name := "candidateAt", desc := "(LCellHandover$Network;II)I" } : MethodName)) ∈ ch_GL := ch_c5 189 rfl rfl
theorem kw_1150 : (Cond.code ({ cls := "CellHandover$Simulator", name := "candidateAt", desc := "(LCellHandover$Network;II)I" } : MethodName) prog_10_method_3_code (4 : Nat) (Option.some FieldType.int)) ∈ ch_GL := ch_c5 190 rfl rfl
theorem kw_1151 : (Cond.methodLink "CellHandoverLaw" (216 : Nat) ({ cls := "CellHandoverLaw", name := "busyChannels", desc := "(LCellHandover;I[J)I" } : MethodName)) ∈ ch_GL := ch_c5 191 rfl rfl
theorem kw_1152 : (Cond.static ({ cls := "CellHandoverLaw", name := "busyChannels", desc := "(LCellHandover;I[J)I" } : MethodName)) ∈ ch_GL := ch_c5 192 rfl rfl
theorem kw_1153 : (Cond.codeWith ({ cls := "CellHandoverLaw", name := "busyChannels", desc := "(LCellHandover;I[J)I" } : MethodName) method_25_code (4 : Nat) (Option.some FieldType.int) [((0 : Nat), (9 : Nat), (12 : Nat), (19 : Nat))]) ∈ ch_GL := ch_c5 193 rfl rfl
theorem kw_1154 : (Cond.methodLink "CellHandoverLaw" (84 : Nat) ({ cls := "CellHandover", name := "busyChannels", desc := "(I)I" } : MethodName)) ∈ ch_GL := ch_c5 194 rfl rfl
theorem kw_1155 : (Cond.instanceMethod ({ cls := "CellHandover", name := "busyChannels", desc := "(I)I" } : MethodName)) ∈ ch_GL := ch_c5 195 rfl rfl
theorem kw_1156 : (Cond.selects "CellHandover" ({ cls := "CellHandover", name := "busyChannels", desc := "(I)I" } : MethodName) ({ cls := "CellHandover", name := "busyChannels", desc := "(I)I" } : MethodName)) ∈ ch_GL := ch_c5 196 rfl rfl
theorem kw_1157 : (Cond.code ({ cls := "CellHandover", name := "busyChannels", desc := "(I)I" } : MethodName) prog_1_method_30_code (2 : Nat) (Option.some FieldType.int)) ∈ ch_GL := ch_c5 197 rfl rfl
theorem kw_1158 : (Cond.methodLink "CellHandover" (216 : Nat) ({ cls := "CellHandover$Network", name := "talkersIn", desc := "(I)I" } : MethodName)) ∈ ch_GL := ch_c5 198 rfl rfl
theorem kw_1159 : (Cond.methodLink "CellHandoverLaw" (219 : Nat) ({ cls := "CellHandoverLaw", name := "queueLength", desc := "(LCellHandover;I[J)I" } : MethodName)) ∈ ch_GL := ch_c5 199 rfl rfl
theorem kw_1160 : (Cond.static ({ cls := "CellHandoverLaw", name := "queueLength", desc := "(LCellHandover;I[J)I" } : MethodName)) ∈ ch_GL := ch_c5 200 rfl rfl
theorem kw_1161 : (Cond.codeWith ({ cls := "CellHandoverLaw", name := "queueLength", desc := "(LCellHandover;I[J)I" } : MethodName) method_26_code (4 : Nat) (Option.some FieldType.int) [((0 : Nat), (9 : Nat), (12 : Nat), (19 : Nat))]) ∈ ch_GL := ch_c5 201 rfl rfl
theorem kw_1162 : (Cond.methodLink "CellHandoverLaw" (87 : Nat) ({ cls := "CellHandover", name := "queueLength", desc := "(I)I" } : MethodName)) ∈ ch_GL := ch_c5 202 rfl rfl
theorem kw_1163 : (Cond.instanceMethod ({ cls := "CellHandover", name := "queueLength", desc := "(I)I" } : MethodName)) ∈ ch_GL := ch_c5 203 rfl rfl
theorem kw_1164 : (Cond.selects "CellHandover" ({ cls := "CellHandover", name := "queueLength", desc := "(I)I" } : MethodName) ({ cls := "CellHandover", name := "queueLength", desc := "(I)I" } : MethodName)) ∈ ch_GL := ch_c5 204 rfl rfl
theorem kw_1165 : (Cond.code ({ cls := "CellHandover", name := "queueLength", desc := "(I)I" } : MethodName) prog_1_method_31_code (2 : Nat) (Option.some FieldType.int)) ∈ ch_GL := ch_c5 205 rfl rfl
theorem kw_1166 : (Cond.methodLink "CellHandover" (219 : Nat) ({ cls := "CellHandover$Network", name := "requestsAt", desc := "(I)I" } : MethodName)) ∈ ch_GL := ch_c5 206 rfl rfl
theorem kw_1167 : (Cond.methodLink "CellHandoverLaw" (222 : Nat) ({ cls := "CellHandoverLaw", name := "queued", desc := "(LCellHandover;II[J)I" } : MethodName)) ∈ ch_GL := ch_c5 207 rfl rfl
theorem kw_1168 : (Cond.static ({ cls := "CellHandoverLaw", name := "queued", desc := "(LCellHandover;II[J)I" } : MethodName)) ∈ ch_GL := ch_c5 208 rfl rfl
theorem kw_1169 : (Cond.codeWith ({ cls := "CellHandoverLaw", name := "queued", desc := "(LCellHandover;II[J)I" } : MethodName) method_27_code (5 : Nat) (Option.some FieldType.int) [((0 : Nat), (10 : Nat), (13 : Nat), (19 : Nat))]) ∈ ch_GL := ch_c5 209 rfl rfl
theorem kw_1170 : (Cond.methodLink "CellHandoverLaw" (90 : Nat) ({ cls := "CellHandover", name := "queued", desc := "(II)I" } : MethodName)) ∈ ch_GL := ch_c5 210 rfl rfl
theorem kw_1171 : (Cond.instanceMethod ({ cls := "CellHandover", name := "queued", desc := "(II)I" } : MethodName)) ∈ ch_GL := ch_c5 211 rfl rfl
theorem kw_1172 : (Cond.selects "CellHandover" ({ cls := "CellHandover", name := "queued", desc := "(II)I" } : MethodName) ({ cls := "CellHandover", name := "queued", desc := "(II)I" } : MethodName)) ∈ ch_GL := ch_c5 212 rfl rfl
theorem kw_1173 : (Cond.code ({ cls := "CellHandover", name := "queued", desc := "(II)I" } : MethodName) prog_1_method_32_code (3 : Nat) (Option.some FieldType.int)) ∈ ch_GL := ch_c5 213 rfl rfl
theorem kw_1174 : (Cond.methodLink "CellHandover" (222 : Nat) ({ cls := "CellHandover$Network", name := "queuedMobile", desc := "(II)I" } : MethodName)) ∈ ch_GL := ch_c5 214 rfl rfl
theorem kw_1175 : (Cond.methodLink "CellHandoverLaw" (225 : Nat) ({ cls := "CellHandoverLaw", name := "successes", desc := "(LCellHandover;II[J)I" } : MethodName)) ∈ ch_GL := ch_c5 215 rfl rfl
theorem kw_1176 : (Cond.static ({ cls := "CellHandoverLaw", name := "successes", desc := "(LCellHandover;II[J)I" } : MethodName)) ∈ ch_GL := ch_c5 216 rfl rfl
theorem kw_1177 : (Cond.codeWith ({ cls := "CellHandoverLaw", name := "successes", desc := "(LCellHandover;II[J)I" } : MethodName) method_28_code (5 : Nat) (Option.some FieldType.int) [((0 : Nat), (10 : Nat), (13 : Nat), (19 : Nat))]) ∈ ch_GL := ch_c5 217 rfl rfl
theorem kw_1178 : (Cond.methodLink "CellHandoverLaw" (93 : Nat) ({ cls := "CellHandover", name := "successes", desc := "(II)I" } : MethodName)) ∈ ch_GL := ch_c5 218 rfl rfl
theorem kw_1179 : (Cond.instanceMethod ({ cls := "CellHandover", name := "successes", desc := "(II)I" } : MethodName)) ∈ ch_GL := ch_c5 219 rfl rfl
theorem kw_1180 : (Cond.selects "CellHandover" ({ cls := "CellHandover", name := "successes", desc := "(II)I" } : MethodName) ({ cls := "CellHandover", name := "successes", desc := "(II)I" } : MethodName)) ∈ ch_GL := ch_c5 220 rfl rfl
theorem kw_1181 : (Cond.code ({ cls := "CellHandover", name := "successes", desc := "(II)I" } : MethodName) prog_1_method_33_code (3 : Nat) (Option.some FieldType.int)) ∈ ch_GL := ch_c5 221 rfl rfl
theorem kw_1182 : (Cond.methodLink "CellHandoverLaw" (228 : Nat) ({ cls := "CellHandoverLaw", name := "refusals", desc := "(LCellHandover;II[J)I" } : MethodName)) ∈ ch_GL := ch_c5 222 rfl rfl
theorem kw_1183 : (Cond.static ({ cls := "CellHandoverLaw", name := "refusals", desc := "(LCellHandover;II[J)I" } : MethodName)) ∈ ch_GL := ch_c5 223 rfl rfl
theorem kw_1184 : (Cond.codeWith ({ cls := "CellHandoverLaw", name := "refusals", desc := "(LCellHandover;II[J)I" } : MethodName) method_29_code (5 : Nat) (Option.some FieldType.int) [((0 : Nat), (10 : Nat), (13 : Nat), (19 : Nat))]) ∈ ch_GL := ch_c5 224 rfl rfl
theorem kw_1185 : (Cond.methodLink "CellHandoverLaw" (96 : Nat) ({ cls := "CellHandover", name := "refusals", desc := "(II)I" } : MethodName)) ∈ ch_GL := ch_c5 225 rfl rfl
theorem kw_1186 : (Cond.instanceMethod ({ cls := "CellHandover", name := "refusals", desc := "(II)I" } : MethodName)) ∈ ch_GL := ch_c5 226 rfl rfl
theorem kw_1187 : (Cond.selects "CellHandover" ({ cls := "CellHandover", name := "refusals", desc := "(II)I" } : MethodName) ({ cls := "CellHandover", name := "refusals", desc := "(II)I" } : MethodName)) ∈ ch_GL := ch_c5 227 rfl rfl
theorem kw_1188 : (Cond.code ({ cls := "CellHandover", name := "refusals", desc := "(II)I" } : MethodName) prog_1_method_34_code (3 : Nat) (Option.some FieldType.int)) ∈ ch_GL := ch_c5 228 rfl rfl
theorem kw_1189 : (Cond.methodLink "CellHandoverLaw" (235 : Nat) ({ cls := "CellHandoverLaw", name := "congestedTicks", desc := "(LCellHandover;I[J)I" } : MethodName)) ∈ ch_GL := ch_c5 229 rfl rfl
theorem kw_1190 : (Cond.static ({ cls := "CellHandoverLaw", name := "congestedTicks", desc := "(LCellHandover;I[J)I" } : MethodName)) ∈ ch_GL := ch_c5 230 rfl rfl
theorem kw_1191 : (Cond.codeWith ({ cls := "CellHandoverLaw", name := "congestedTicks", desc := "(LCellHandover;I[J)I" } : MethodName) method_30_code (4 : Nat) (Option.some FieldType.int) [((0 : Nat), (9 : Nat), (12 : Nat), (19 : Nat))]) ∈ ch_GL := ch_c5 231 rfl rfl
theorem kw_1192 : (Cond.methodLink "CellHandoverLaw" (99 : Nat) ({ cls := "CellHandover", name := "congestedTicks", desc := "(I)I" } : MethodName)) ∈ ch_GL := ch_c5 232 rfl rfl
theorem kw_1193 : (Cond.instanceMethod ({ cls := "CellHandover", name := "congestedTicks", desc := "(I)I" } : MethodName)) ∈ ch_GL := ch_c5 233 rfl rfl
theorem kw_1194 : (Cond.selects "CellHandover" ({ cls := "CellHandover", name := "congestedTicks", desc := "(I)I" } : MethodName) ({ cls := "CellHandover", name := "congestedTicks", desc := "(I)I" } : MethodName)) ∈ ch_GL := ch_c5 234 rfl rfl
theorem kw_1195 : (Cond.code ({ cls := "CellHandover", name := "congestedTicks", desc := "(I)I" } : MethodName) prog_1_method_36_code (2 : Nat) (Option.some FieldType.int)) ∈ ch_GL := ch_c5 235 rfl rfl
theorem kw_1196 : (Cond.methodLink "CellHandoverLaw" (238 : Nat) ({ cls := "CellHandoverLaw", name := "forecastCell", desc := "(LCellHandover;II[J)I" } : MethodName)) ∈ ch_GL := ch_c5 236 rfl rfl
theorem kw_1197 : (Cond.static ({ cls := "CellHandoverLaw", name := "forecastCell", desc := "(LCellHandover;II[J)I" } : MethodName)) ∈ ch_GL := ch_c5 237 rfl rfl
theorem kw_1198 : (Cond.codeWith ({ cls := "CellHandoverLaw", name := "forecastCell", desc := "(LCellHandover;II[J)I" } : MethodName) method_31_code (5 : Nat) (Option.some FieldType.int) [((0 : Nat), (10 : Nat), (13 : Nat), (19 : Nat)), ((0 : Nat), (10 : Nat), (17 : Nat), (13 : Nat))]) ∈ ch_GL := ch_c5 238 rfl rfl
theorem kw_1199 : (Cond.methodLink "CellHandoverLaw" (102 : Nat) ({ cls := "CellHandover", name := "forecastCell", desc := "(II)I" } : MethodName)) ∈ ch_GL := ch_c5 239 rfl rfl
theorem kw_1200 : (Cond.instanceMethod ({ cls := "CellHandover", name := "forecastCell", desc := "(II)I" } : MethodName)) ∈ ch_GL := ch_c6 0 rfl rfl
theorem kw_1201 : (Cond.selects "CellHandover" ({ cls := "CellHandover", name := "forecastCell", desc := "(II)I" } : MethodName) ({ cls := "CellHandover", name := "forecastCell", desc := "(II)I" } : MethodName)) ∈ ch_GL := ch_c6 1 rfl rfl
theorem kw_1202 : (Cond.code ({ cls := "CellHandover", name := "forecastCell", desc := "(II)I" } : MethodName) prog_1_method_37_code (3 : Nat) (Option.some FieldType.int)) ∈ ch_GL := ch_c6 2 rfl rfl
theorem kw_1203 : (Cond.methodLink "CellHandoverLaw" (241 : Nat) ({ cls := "CellHandoverLaw", name := "bestHysteresis", desc := "(LCellHandover;III[J)I" } : MethodName)) ∈ ch_GL := ch_c6 3 rfl rfl
theorem kw_1204 : (Cond.static ({ cls := "CellHandoverLaw", name := "bestHysteresis", desc := "(LCellHandover;III[J)I" } : MethodName)) ∈ ch_GL := ch_c6 4 rfl rfl
theorem kw_1205 : (Cond.codeWith ({ cls := "CellHandoverLaw", name := "bestHysteresis", desc := "(LCellHandover;III[J)I" } : MethodName) method_32_code (6 : Nat) (Option.some FieldType.int) [((0 : Nat), (12 : Nat), (15 : Nat), (19 : Nat)), ((0 : Nat), (12 : Nat), (19 : Nat), (13 : Nat))]) ∈ ch_GL := ch_c6 5 rfl rfl
theorem kw_1206 : (Cond.methodLink "CellHandoverLaw" (105 : Nat) ({ cls := "CellHandover", name := "bestHysteresis", desc := "(III)I" } : MethodName)) ∈ ch_GL := ch_c6 6 rfl rfl
theorem kw_1207 : (Cond.instanceMethod ({ cls := "CellHandover", name := "bestHysteresis", desc := "(III)I" } : MethodName)) ∈ ch_GL := ch_c6 7 rfl rfl
theorem kw_1208 : (Cond.selects "CellHandover" ({ cls := "CellHandover", name := "bestHysteresis", desc := "(III)I" } : MethodName) ({ cls := "CellHandover", name := "bestHysteresis", desc := "(III)I" } : MethodName)) ∈ ch_GL := ch_c6 8 rfl rfl
theorem kw_1209 : (Cond.code ({ cls := "CellHandover", name := "bestHysteresis", desc := "(III)I" } : MethodName) prog_1_method_38_code (10 : Nat) (Option.some FieldType.int)) ∈ ch_GL := ch_c6 9 rfl rfl
theorem kw_1210 : (Cond.methodLink "CellHandoverLaw" (261 : Nat) ({ cls := "CellHandoverLaw", name := "query", desc := "(LCellHandover;I[J)I" } : MethodName)) ∈ ch_GL := ch_c6 10 rfl rfl
theorem kw_1211 : (Cond.static ({ cls := "CellHandoverLaw", name := "query", desc := "(LCellHandover;I[J)I" } : MethodName)) ∈ ch_GL := ch_c6 11 rfl rfl
theorem kw_1212 : (Cond.codeWith ({ cls := "CellHandoverLaw", name := "query", desc := "(LCellHandover;I[J)I" } : MethodName) method_33_code (4 : Nat) (Option.some FieldType.int) [((0 : Nat), (9 : Nat), (12 : Nat), (13 : Nat))]) ∈ ch_GL := ch_c6 12 rfl rfl
theorem kw_1213 : (Cond.methodLink "CellHandoverLaw" (108 : Nat) ({ cls := "CellHandover", name := "query", desc := "(I)I" } : MethodName)) ∈ ch_GL := ch_c6 13 rfl rfl
theorem kw_1214 : (Cond.instanceMethod ({ cls := "CellHandover", name := "query", desc := "(I)I" } : MethodName)) ∈ ch_GL := ch_c6 14 rfl rfl
theorem kw_1215 : (Cond.selects "CellHandover" ({ cls := "CellHandover", name := "query", desc := "(I)I" } : MethodName) ({ cls := "CellHandover", name := "query", desc := "(I)I" } : MethodName)) ∈ ch_GL := ch_c6 15 rfl rfl
theorem kw_1216 : (Cond.code ({ cls := "CellHandover", name := "query", desc := "(I)I" } : MethodName) prog_1_method_43_code (3 : Nat) (Option.some FieldType.int)) ∈ ch_GL := ch_c6 16 rfl rfl
theorem kw_1217 : (Cond.classLink "CellHandover" (245 : Nat) "CellHandover$QueryReader") ∈ ch_GL := ch_c6 17 rfl rfl
theorem kw_1218 : (Cond.instantiable "CellHandover$QueryReader" (2 : Nat)) ∈ ch_GL := ch_c6 18 rfl rfl
theorem kw_1219 : (Cond.methodLink "CellHandover" (247 : Nat) ({ cls := "CellHandover$QueryReader", name := "<init>", desc := "(LCellHandover$Text;LCellHandover$Network;)V" } : MethodName)) ∈ ch_GL := ch_c6 19 rfl rfl
theorem kw_1220 : (Cond.instanceMethod ({ cls := "CellHandover$QueryReader", name := "<init>", desc := "(LCellHandover$Text;LCellHandover$Network;)V" } : MethodName)) ∈ ch_GL := ch_c6 20 rfl rfl
theorem kw_1221 : (Cond.code ({ cls := "CellHandover$QueryReader", name := "<init>", desc := "(LCellHandover$Text;LCellHandover$Network;)V" } : MethodName) prog_7_method_1_code (3 : Nat) (Option.none : Option FieldType)) ∈ ch_GL := ch_c6 21 rfl rfl
theorem kw_1222 : (Cond.methodLink "CellHandover$QueryReader" (3 : Nat) ({ cls := "java/lang/Object", name := "<init>", desc := "()V" } : MethodName)) ∈ ch_GL := ch_c6 22 rfl rfl
theorem kw_1223 : (Cond.fieldLink "CellHandover$QueryReader" (9 : Nat) "CellHandover$QueryReader" "text" "LCellHandover$Text;") ∈ ch_GL := ch_c6 23 rfl rfl
theorem kw_1224 : (Cond.fieldLink "CellHandover$QueryReader" (15 : Nat) "CellHandover$QueryReader" "network" "LCellHandover$Network;") ∈ ch_GL := ch_c6 24 rfl rfl
theorem kw_1225 : (Cond.laysFinal "CellHandover$QueryReader" "CellHandover$QueryReader" "text" "LCellHandover$Text;") ∈ ch_GL := ch_c6 25 rfl rfl
theorem kw_1226 : (Cond.soleField "CellHandover$QueryReader" "text") ∈ ch_GL := ch_c6 26 rfl rfl
theorem kw_1227 : (Cond.laysFinal "CellHandover$QueryReader" "CellHandover$QueryReader" "network" "LCellHandover$Network;") ∈ ch_GL := ch_c6 27 rfl rfl
theorem kw_1228 : (Cond.soleField "CellHandover$QueryReader" "network") ∈ ch_GL := ch_c6 28 rfl rfl
theorem kw_1229 : (Cond.superclass "CellHandover$QueryReader" "java/lang/Object") ∈ ch_GL := ch_c6 29 rfl rfl
theorem kw_1230 : (Cond.methodLink "CellHandover" (248 : Nat) ({ cls := "CellHandover$QueryReader", name := "readQuery", desc := "()I" } : MethodName)) ∈ ch_GL := ch_c6 30 rfl rfl
theorem kw_1231 : (Cond.instanceMethod ({ cls := "CellHandover$QueryReader", name := "readQuery", desc := "()I" } : MethodName)) ∈ ch_GL := ch_c6 31 rfl rfl
theorem kw_1232 : (Cond.selects "CellHandover$QueryReader" ({ cls := "CellHandover$QueryReader", name := "readQuery", desc := "()I" } : MethodName) ({ cls := "CellHandover$QueryReader", name := "readQuery", desc := "()I" } : MethodName)) ∈ ch_GL := ch_c6 32 rfl rfl
theorem kw_1233 : (Cond.code ({ cls := "CellHandover$QueryReader", name := "readQuery", desc := "()I" } : MethodName) prog_7_method_2_code (3 : Nat) (Option.some FieldType.int)) ∈ ch_GL := ch_c6 33 rfl rfl
theorem kb_1234 : (Cond.stringRef "CellHandover$QueryReader" (19 : Nat) "many") ∈ lw_tbl := ch_b6 34 rfl
theorem kw_1235 : (Cond.methodLink "CellHandover$QueryReader" (21 : Nat) ({ cls := "CellHandover$Text", name := "is", desc := "(Ljava/lang/String;)Z" } : MethodName)) ∈ ch_GL := ch_c6 35 rfl rfl
theorem kb_1236 : (Cond.stringRef "CellHandover$QueryReader" (27 : Nat) "first") ∈ lw_tbl := ch_b6 36 rfl
theorem kw_1237 : (Cond.methodLink "CellHandover$QueryReader" (29 : Nat) ({ cls := "CellHandover$Text", name := "fail", desc := "(I)V" } : MethodName)) ∈ ch_GL := ch_c6 37 rfl rfl
theorem kw_1238 : (Cond.methodLink "CellHandover$QueryReader" (33 : Nat) ({ cls := "CellHandover$Text", name := "advance", desc := "()V" } : MethodName)) ∈ ch_GL := ch_c6 38 rfl rfl
theorem kw_1239 : (Cond.methodLink "CellHandover$QueryReader" (36 : Nat) ({ cls := "CellHandover$QueryReader", name := "test", desc := "(I)I" } : MethodName)) ∈ ch_GL := ch_c6 39 rfl rfl
theorem kb_1240 : (Cond.privateMethod ({ cls := "CellHandover$QueryReader", name := "test", desc := "(I)I" } : MethodName)) ∈ lw_tbl := ch_b6 40 rfl
theorem kw_1241 : (Cond.instanceMethod ({ cls := "CellHandover$QueryReader", name := "test", desc := "(I)I" } : MethodName)) ∈ ch_GL := ch_c6 41 rfl rfl
theorem kw_1242 : (Cond.code ({ cls := "CellHandover$QueryReader", name := "test", desc := "(I)I" } : MethodName) prog_7_method_3_code (7 : Nat) (Option.some FieldType.int)) ∈ ch_GL := ch_c6 42 rfl rfl
theorem kw_1243 : (Cond.methodLink "CellHandover$QueryReader" (52 : Nat) ({ cls := "CellHandover$QueryReader", name := "factor", desc := "(I)I" } : MethodName)) ∈ ch_GL := ch_c6 43 rfl rfl
theorem kb_1244 : (Cond.privateMethod ({ cls := "CellHandover$QueryReader", name := "factor", desc := "(I)I" } : MethodName)) ∈ lw_tbl := ch_b6 44 rfl
theorem kw_1245 : (Cond.instanceMethod ({ cls := "CellHandover$QueryReader", name := "factor", desc := "(I)I" } : MethodName)) ∈ ch_GL := ch_c6 45 rfl rfl
theorem kw_1246 : (Cond.code ({ cls := "CellHandover$QueryReader", name := "factor", desc := "(I)I" } : MethodName) prog_7_method_4_code (4 : Nat) (Option.some FieldType.int)) ∈ ch_GL := ch_c6 46 rfl rfl
theorem kb_1247 : (Cond.stringRef "CellHandover$QueryReader" (59 : Nat) "not") ∈ lw_tbl := ch_b6 47 rfl
theorem kb_1248 : (Cond.stringRef "CellHandover$QueryReader" (61 : Nat) "(") ∈ lw_tbl := ch_b6 48 rfl
theorem kw_1249 : (Cond.methodLink "CellHandover$QueryReader" (63 : Nat) ({ cls := "CellHandover$QueryReader", name := "comparison", desc := "()I" } : MethodName)) ∈ ch_GL := ch_c6 49 rfl rfl
theorem kb_1250 : (Cond.privateMethod ({ cls := "CellHandover$QueryReader", name := "comparison", desc := "()I" } : MethodName)) ∈ lw_tbl := ch_b6 50 rfl
theorem kw_1251 : (Cond.instanceMethod ({ cls := "CellHandover$QueryReader", name := "comparison", desc := "()I" } : MethodName)) ∈ ch_GL := ch_c6 51 rfl rfl
theorem kw_1252 : (Cond.code ({ cls := "CellHandover$QueryReader", name := "comparison", desc := "()I" } : MethodName) prog_7_method_5_code (9 : Nat) (Option.some FieldType.int)) ∈ ch_GL := ch_c6 52 rfl rfl
theorem kw_1253 : (Cond.methodLink "CellHandover$QueryReader" (76 : Nat) ({ cls := "CellHandover$QueryReader", name := "seeValue", desc := "()I" } : MethodName)) ∈ ch_GL := ch_c6 53 rfl rfl
theorem kb_1254 : (Cond.privateMethod ({ cls := "CellHandover$QueryReader", name := "seeValue", desc := "()I" } : MethodName)) ∈ lw_tbl := ch_b6 54 rfl
theorem kw_1255 : (Cond.instanceMethod ({ cls := "CellHandover$QueryReader", name := "seeValue", desc := "()I" } : MethodName)) ∈ ch_GL := ch_c6 55 rfl rfl
theorem kw_1256 : (Cond.code ({ cls := "CellHandover$QueryReader", name := "seeValue", desc := "()I" } : MethodName) prog_7_method_6_code (2 : Nat) (Option.some FieldType.int)) ∈ ch_GL := ch_c6 56 rfl rfl
theorem kw_1257 : (Cond.methodLink "CellHandover$QueryReader" (95 : Nat) ({ cls := "CellHandover$QueryReader", name := "nameOf", desc := "(I)Ljava/lang/String;" } : MethodName)) ∈ ch_GL := ch_c6 57 rfl rfl
theorem kw_1258 : (Cond.static ({ cls := "CellHandover$QueryReader", name := "nameOf", desc := "(I)Ljava/lang/String;" } : MethodName)) ∈ ch_GL := ch_c6 58 rfl rfl
theorem kw_1259 : (Cond.code ({ cls := "CellHandover$QueryReader", name := "nameOf", desc := "(I)Ljava/lang/String;" } : MethodName) prog_7_method_9_code (1 : Nat) (Option.some (FieldType.object "java/lang/String"))) ∈ ch_GL := ch_c6 59 rfl rfl
theorem kb_1260 : (Cond.stringRef "CellHandover$QueryReader" (102 : Nat) "mobile") ∈ lw_tbl := ch_b6 60 rfl
theorem kb_1261 : (Cond.stringRef "CellHandover$QueryReader" (104 : Nat) "x") ∈ lw_tbl := ch_b6 61 rfl
theorem kb_1262 : (Cond.stringRef "CellHandover$QueryReader" (106 : Nat) "y") ∈ lw_tbl := ch_b6 62 rfl
theorem kb_1263 : (Cond.stringRef "CellHandover$QueryReader" (108 : Nat) "state") ∈ lw_tbl := ch_b6 63 rfl
theorem kb_1264 : (Cond.stringRef "CellHandover$QueryReader" (110 : Nat) "cell") ∈ lw_tbl := ch_b6 64 rfl
theorem kb_1265 : (Cond.stringRef "CellHandover$QueryReader" (112 : Nat) "left") ∈ lw_tbl := ch_b6 65 rfl
theorem kb_1266 : (Cond.stringRef "CellHandover$QueryReader" (114 : Nat) "reports") ∈ lw_tbl := ch_b6 66 rfl
theorem kb_1267 : (Cond.stringRef "CellHandover$QueryReader" (116 : Nat) "waits") ∈ lw_tbl := ch_b6 67 rfl
theorem kw_1268 : (Cond.methodLink "CellHandover$QueryReader" (99 : Nat) ({ cls := "CellHandover$Text", name := "seeNumber", desc := "(II)I" } : MethodName)) ∈ ch_GL := ch_c6 68 rfl rfl
theorem kb_1269 : (Cond.stringRef "CellHandover$QueryReader" (79 : Nat) "<") ∈ lw_tbl := ch_b6 69 rfl
theorem kb_1270 : (Cond.stringRef "CellHandover$QueryReader" (81 : Nat) "=") ∈ lw_tbl := ch_b6 70 rfl
theorem kb_1271 : (Cond.stringRef "CellHandover$QueryReader" (83 : Nat) ">") ∈ lw_tbl := ch_b6 71 rfl
theorem kw_1272 : (Cond.methodLink "CellHandover$QueryReader" (91 : Nat) ({ cls := "CellHandover$QueryReader", name := "valueFor", desc := "(II)I" } : MethodName)) ∈ ch_GL := ch_c6 72 rfl rfl
theorem kb_1273 : (Cond.privateMethod ({ cls := "CellHandover$QueryReader", name := "valueFor", desc := "(II)I" } : MethodName)) ∈ lw_tbl := ch_b6 73 rfl
theorem kw_1274 : (Cond.instanceMethod ({ cls := "CellHandover$QueryReader", name := "valueFor", desc := "(II)I" } : MethodName)) ∈ ch_GL := ch_c6 74 rfl rfl
theorem kw_1275 : (Cond.code ({ cls := "CellHandover$QueryReader", name := "valueFor", desc := "(II)I" } : MethodName) prog_7_method_10_code (4 : Nat) (Option.some FieldType.int)) ∈ ch_GL := ch_c6 75 rfl rfl
theorem kw_1276 : (Cond.methodLink "CellHandover$QueryReader" (118 : Nat) ({ cls := "CellHandover$Network", name := "mobileAt", desc := "(I)LCellHandover$Mobile;" } : MethodName)) ∈ ch_GL := ch_c6 76 rfl rfl
theorem kw_1277 : (Cond.methodLink "CellHandover$QueryReader" (136 : Nat) ({ cls := "CellHandover$Mobile", name := "reportsOf", desc := "(I)I" } : MethodName)) ∈ ch_GL := ch_c6 77 rfl rfl
theorem kw_1278 : (Cond.methodLink "CellHandover$QueryReader" (67 : Nat) ({ cls := "CellHandover$QueryReader", name := "everyMobile", desc := "()I" } : MethodName)) ∈ ch_GL := ch_c6 78 rfl rfl
theorem kb_1279 : (Cond.privateMethod ({ cls := "CellHandover$QueryReader", name := "everyMobile", desc := "()I" } : MethodName)) ∈ lw_tbl := ch_b6 79 rfl
theorem kw_1280 : (Cond.instanceMethod ({ cls := "CellHandover$QueryReader", name := "everyMobile", desc := "()I" } : MethodName)) ∈ ch_GL := ch_c6 80 rfl rfl
theorem kw_1281 : (Cond.code ({ cls := "CellHandover$QueryReader", name := "everyMobile", desc := "()I" } : MethodName) prog_7_method_8_code (1 : Nat) (Option.some FieldType.int)) ∈ ch_GL := ch_c6 81 rfl rfl
theorem kb_1282 : (Cond.stringRef "CellHandover$QueryReader" (70 : Nat) ")") ∈ lw_tbl := ch_b6 82 rfl
theorem kw_1283 : (Cond.methodLink "CellHandover$QueryReader" (72 : Nat) ({ cls := "CellHandover$Text", name := "expect", desc := "(Ljava/lang/String;)V" } : MethodName)) ∈ ch_GL := ch_c6 83 rfl rfl
theorem kb_1284 : (Cond.stringRef "CellHandover$QueryReader" (55 : Nat) "or") ∈ lw_tbl := ch_b6 84 rfl
theorem kb_1285 : (Cond.stringRef "CellHandover$QueryReader" (57 : Nat) "and") ∈ lw_tbl := ch_b6 85 rfl
theorem kw_1286 : (Cond.methodLink "CellHandover$QueryReader" (40 : Nat) ({ cls := "CellHandover$Text", name := "goesOn", desc := "()Z" } : MethodName)) ∈ ch_GL := ch_c6 86 rfl rfl
theorem kw_1287 : (Cond.methodLink "CellHandover$QueryReader" (44 : Nat) ({ cls := "java/lang/Integer", name := "bitCount", desc := "(I)I" } : MethodName)) ∈ ch_GL := ch_c6 87 rfl rfl
theorem kw_1288 : (Cond.static ({ cls := "java/lang/Integer", name := "bitCount", desc := "(I)I" } : MethodName)) ∈ ch_GL := ch_c6 88 rfl rfl
theorem kw_1289 : (Cond.code ({ cls := "java/lang/Integer", name := "bitCount", desc := "(I)I" } : MethodName) prog_20_method_49_code (1 : Nat) (Option.some FieldType.int)) ∈ ch_GL := ch_c6 89 rfl rfl
theorem kw_1290 : (Cond.constant "java/lang/Integer" (265 : Nat) (1431655765 : Int32)) ∈ ch_GL := ch_c6 90 rfl rfl
theorem kw_1291 : (Cond.constant "java/lang/Integer" (266 : Nat) (858993459 : Int32)) ∈ ch_GL := ch_c6 91 rfl rfl
theorem kw_1292 : (Cond.constant "java/lang/Integer" (267 : Nat) (252645135 : Int32)) ∈ ch_GL := ch_c6 92 rfl rfl
theorem kw_1293 : (Cond.methodLink "CellHandover$QueryReader" (49 : Nat) ({ cls := "CellHandover$QueryReader", name := "firstOf", desc := "(I)I" } : MethodName)) ∈ ch_GL := ch_c6 93 rfl rfl
theorem kb_1294 : (Cond.privateMethod ({ cls := "CellHandover$QueryReader", name := "firstOf", desc := "(I)I" } : MethodName)) ∈ lw_tbl := ch_b6 94 rfl
theorem kw_1295 : (Cond.instanceMethod ({ cls := "CellHandover$QueryReader", name := "firstOf", desc := "(I)I" } : MethodName)) ∈ ch_GL := ch_c6 95 rfl rfl
theorem kw_1296 : (Cond.code ({ cls := "CellHandover$QueryReader", name := "firstOf", desc := "(I)I" } : MethodName) prog_7_method_7_code (3 : Nat) (Option.some FieldType.int)) ∈ ch_GL := ch_c6 96 rfl rfl
theorem kw_1297 : (Cond.constant "CellHandover" (252 : Nat) (-1000000000 : Int32)) ∈ ch_GL := ch_c6 97 rfl rfl
theorem kw_1298 : (Cond.classLink "CellHandoverLaw" (112 : Nat) "CellHandoverModel") ∈ ch_GL := ch_c6 98 rfl rfl
theorem kw_1299 : (Cond.instantiable "CellHandoverModel" (25 : Nat)) ∈ ch_GL := ch_c6 99 rfl rfl
theorem kw_1300 : (Cond.methodLink "CellHandoverLaw" (114 : Nat) ({ cls := "CellHandoverModel", name := "<init>", desc := "()V" } : MethodName)) ∈ ch_GL := ch_c6 100 rfl rfl
theorem kw_1301 : (Cond.instanceMethod ({ cls := "CellHandoverModel", name := "<init>", desc := "()V" } : MethodName)) ∈ ch_GL := ch_c6 101 rfl rfl
theorem kw_1302 : (Cond.code ({ cls := "CellHandoverModel", name := "<init>", desc := "()V" } : MethodName) prog_14_method_1_code (1 : Nat) (Option.none : Option FieldType)) ∈ ch_GL := ch_c6 102 rfl rfl
theorem kw_1303 : (Cond.methodLink "CellHandoverModel" (1 : Nat) ({ cls := "java/lang/Object", name := "<init>", desc := "()V" } : MethodName)) ∈ ch_GL := ch_c6 103 rfl rfl
theorem kw_1304 : (Cond.classLink "CellHandoverModel" (38 : Nat) "java/lang/String") ∈ ch_GL := ch_c6 104 rfl rfl
theorem kb_1305 : (Cond.arrayOver (FieldType.object "java/lang/String")) ∈ lw_tbl := ch_b6 105 rfl
theorem kb_1306 : (Cond.stringRef "CellHandoverModel" (40 : Nat) "mobile") ∈ lw_tbl := ch_b6 106 rfl
theorem kb_1307 : (Cond.stringRef "CellHandoverModel" (42 : Nat) "x") ∈ lw_tbl := ch_b6 107 rfl
theorem kb_1308 : (Cond.stringRef "CellHandoverModel" (44 : Nat) "y") ∈ lw_tbl := ch_b6 108 rfl
theorem kb_1309 : (Cond.stringRef "CellHandoverModel" (46 : Nat) "state") ∈ lw_tbl := ch_b6 109 rfl
theorem kb_1310 : (Cond.stringRef "CellHandoverModel" (48 : Nat) "cell") ∈ lw_tbl := ch_b6 110 rfl
theorem kb_1311 : (Cond.stringRef "CellHandoverModel" (50 : Nat) "left") ∈ lw_tbl := ch_b6 111 rfl
theorem kb_1312 : (Cond.stringRef "CellHandoverModel" (52 : Nat) "reports") ∈ lw_tbl := ch_b6 112 rfl
theorem kb_1313 : (Cond.stringRef "CellHandoverModel" (54 : Nat) "waits") ∈ lw_tbl := ch_b6 113 rfl
theorem kw_1314 : (Cond.methodLink "CellHandoverModel" (66 : Nat) ({ cls := "CellHandoverModel", name := "clear", desc := "([I)V" } : MethodName)) ∈ ch_GL := ch_c6 114 rfl rfl
theorem kw_1315 : (Cond.static ({ cls := "CellHandoverModel", name := "clear", desc := "([I)V" } : MethodName)) ∈ ch_GL := ch_c6 115 rfl rfl
theorem kw_1316 : (Cond.code ({ cls := "CellHandoverModel", name := "clear", desc := "([I)V" } : MethodName) prog_14_method_5_code (2 : Nat) (Option.none : Option FieldType)) ∈ ch_GL := ch_c6 116 rfl rfl
theorem kw_1317 : (Cond.fieldLink "CellHandoverModel" (9 : Nat) "CellHandoverModel" "now" "[I") ∈ ch_GL := ch_c6 117 rfl rfl
theorem kw_1318 : (Cond.fieldLink "CellHandoverModel" (13 : Nat) "CellHandoverModel" "draft" "[I") ∈ ch_GL := ch_c6 118 rfl rfl
theorem kw_1319 : (Cond.fieldLink "CellHandoverModel" (16 : Nat) "CellHandoverModel" "real" "[I") ∈ ch_GL := ch_c6 119 rfl rfl
theorem kw_1320 : (Cond.fieldLink "CellHandoverModel" (19 : Nat) "CellHandoverModel" "snapshot" "[I") ∈ ch_GL := ch_c6 120 rfl rfl
theorem kw_1321 : (Cond.fieldLink "CellHandoverModel" (22 : Nat) "CellHandoverModel" "history" "[I") ∈ ch_GL := ch_c6 121 rfl rfl
theorem kw_1322 : (Cond.fieldLink "CellHandoverModel" (270 : Nat) "CellHandoverModel" "undoCount" "I") ∈ ch_GL := ch_c6 122 rfl rfl
theorem kw_1323 : (Cond.fieldLink "CellHandoverModel" (70 : Nat) "CellHandoverModel" "thrown" "I") ∈ ch_GL := ch_c6 123 rfl rfl
theorem kw_1324 : (Cond.fieldLink "CellHandoverModel" (273 : Nat) "CellHandoverModel" "hasSnapshot" "Z") ∈ ch_GL := ch_c6 124 rfl rfl
theorem kw_1325 : (Cond.fieldLink "CellHandoverModel" (25 : Nat) "CellHandoverModel" "ranked" "[I") ∈ ch_GL := ch_c6 125 rfl rfl
theorem kw_1326 : (Cond.fieldLink "CellHandoverModel" (28 : Nat) "CellHandoverModel" "margins" "[I") ∈ ch_GL := ch_c6 126 rfl rfl
theorem kw_1327 : (Cond.fieldLink "CellHandoverModel" (207 : Nat) "CellHandoverModel" "candidates" "I") ∈ ch_GL := ch_c6 127 rfl rfl
theorem kw_1328 : (Cond.fieldLink "CellHandoverModel" (31 : Nat) "CellHandoverModel" "buffer" "[I") ∈ ch_GL := ch_c6 128 rfl rfl
theorem kw_1329 : (Cond.fieldLink "CellHandoverModel" (277 : Nat) "CellHandoverModel" "bufferLength" "I") ∈ ch_GL := ch_c6 129 rfl rfl
theorem kw_1330 : (Cond.fieldLink "CellHandoverModel" (280 : Nat) "CellHandoverModel" "limit" "I") ∈ ch_GL := ch_c6 130 rfl rfl
theorem kw_1331 : (Cond.fieldLink "CellHandoverModel" (286 : Nat) "CellHandoverModel" "next" "I") ∈ ch_GL := ch_c6 131 rfl rfl
theorem kw_1332 : (Cond.fieldLink "CellHandoverModel" (289 : Nat) "CellHandoverModel" "beginsAt" "I") ∈ ch_GL := ch_c6 132 rfl rfl
theorem kw_1333 : (Cond.fieldLink "CellHandoverModel" (292 : Nat) "CellHandoverModel" "token" "I") ∈ ch_GL := ch_c6 133 rfl rfl
theorem kw_1334 : (Cond.fieldLink "CellHandoverModel" (301 : Nat) "CellHandoverModel" "error" "I") ∈ ch_GL := ch_c6 134 rfl rfl
theorem kw_1335 : (Cond.fieldLink "CellHandoverModel" (310 : Nat) "CellHandoverModel" "errorAt" "I") ∈ ch_GL := ch_c6 135 rfl rfl
theorem kw_1336 : (Cond.fieldLink "CellHandoverModel" (34 : Nat) "CellHandoverModel" "errorPosition" "I") ∈ ch_GL := ch_c6 136 rfl rfl
theorem kw_1337 : (Cond.fieldLink "CellHandoverModel" (304 : Nat) "CellHandoverModel" "nested" "I") ∈ ch_GL := ch_c6 137 rfl rfl
theorem kw_1338 : (Cond.fieldLink "CellHandoverModel" (56 : Nat) "CellHandoverModel" "names" "[Ljava/lang/String;") ∈ ch_GL := ch_c6 138 rfl rfl
theorem kw_1339 : (Cond.fieldLink "CellHandoverModel" (60 : Nat) "CellHandoverModel" "codes" "[I") ∈ ch_GL := ch_c6 139 rfl rfl
theorem kw_1340 : (Cond.fieldLink "CellHandoverModel" (63 : Nat) "CellHandoverModel" "stack" "[I") ∈ ch_GL := ch_c6 140 rfl rfl
theorem kw_1341 : (Cond.fieldLink "CellHandoverModel" (376 : Nat) "CellHandoverModel" "codeCount" "I") ∈ ch_GL := ch_c6 141 rfl rfl
theorem kw_1342 : (Cond.laysFinal "CellHandoverModel" "CellHandoverModel" "now" "[I") ∈ ch_GL := ch_c6 142 rfl rfl
theorem kw_1343 : (Cond.soleField "CellHandoverModel" "now") ∈ ch_GL := ch_c6 143 rfl rfl
theorem kw_1344 : (Cond.laysFinal "CellHandoverModel" "CellHandoverModel" "draft" "[I") ∈ ch_GL := ch_c6 144 rfl rfl
theorem kw_1345 : (Cond.soleField "CellHandoverModel" "draft") ∈ ch_GL := ch_c6 145 rfl rfl
theorem kw_1346 : (Cond.laysFinal "CellHandoverModel" "CellHandoverModel" "real" "[I") ∈ ch_GL := ch_c6 146 rfl rfl
theorem kw_1347 : (Cond.soleField "CellHandoverModel" "real") ∈ ch_GL := ch_c6 147 rfl rfl
theorem kw_1348 : (Cond.laysFinal "CellHandoverModel" "CellHandoverModel" "snapshot" "[I") ∈ ch_GL := ch_c6 148 rfl rfl
theorem kw_1349 : (Cond.soleField "CellHandoverModel" "snapshot") ∈ ch_GL := ch_c6 149 rfl rfl
theorem kw_1350 : (Cond.laysFinal "CellHandoverModel" "CellHandoverModel" "history" "[I") ∈ ch_GL := ch_c6 150 rfl rfl
theorem kw_1351 : (Cond.soleField "CellHandoverModel" "history") ∈ ch_GL := ch_c6 151 rfl rfl
theorem kw_1352 : (Cond.lays "CellHandoverModel" "CellHandoverModel" "undoCount" "I") ∈ ch_GL := ch_c6 152 rfl rfl
theorem kw_1353 : (Cond.soleField "CellHandoverModel" "undoCount") ∈ ch_GL := ch_c6 153 rfl rfl
theorem kw_1354 : (Cond.lays "CellHandoverModel" "CellHandoverModel" "thrown" "I") ∈ ch_GL := ch_c6 154 rfl rfl
theorem kw_1355 : (Cond.soleField "CellHandoverModel" "thrown") ∈ ch_GL := ch_c6 155 rfl rfl
theorem kw_1356 : (Cond.lays "CellHandoverModel" "CellHandoverModel" "hasSnapshot" "Z") ∈ ch_GL := ch_c6 156 rfl rfl
theorem kw_1357 : (Cond.soleField "CellHandoverModel" "hasSnapshot") ∈ ch_GL := ch_c6 157 rfl rfl
theorem kw_1358 : (Cond.laysFinal "CellHandoverModel" "CellHandoverModel" "ranked" "[I") ∈ ch_GL := ch_c6 158 rfl rfl
theorem kw_1359 : (Cond.soleField "CellHandoverModel" "ranked") ∈ ch_GL := ch_c6 159 rfl rfl
theorem kw_1360 : (Cond.laysFinal "CellHandoverModel" "CellHandoverModel" "margins" "[I") ∈ ch_GL := ch_c6 160 rfl rfl
theorem kw_1361 : (Cond.soleField "CellHandoverModel" "margins") ∈ ch_GL := ch_c6 161 rfl rfl
theorem kw_1362 : (Cond.lays "CellHandoverModel" "CellHandoverModel" "candidates" "I") ∈ ch_GL := ch_c6 162 rfl rfl
theorem kw_1363 : (Cond.soleField "CellHandoverModel" "candidates") ∈ ch_GL := ch_c6 163 rfl rfl
theorem kw_1364 : (Cond.laysFinal "CellHandoverModel" "CellHandoverModel" "buffer" "[I") ∈ ch_GL := ch_c6 164 rfl rfl
theorem kw_1365 : (Cond.soleField "CellHandoverModel" "buffer") ∈ ch_GL := ch_c6 165 rfl rfl
theorem kw_1366 : (Cond.lays "CellHandoverModel" "CellHandoverModel" "bufferLength" "I") ∈ ch_GL := ch_c6 166 rfl rfl
theorem kw_1367 : (Cond.soleField "CellHandoverModel" "bufferLength") ∈ ch_GL := ch_c6 167 rfl rfl
theorem kw_1368 : (Cond.lays "CellHandoverModel" "CellHandoverModel" "limit" "I") ∈ ch_GL := ch_c6 168 rfl rfl
theorem kw_1369 : (Cond.soleField "CellHandoverModel" "limit") ∈ ch_GL := ch_c6 169 rfl rfl
theorem kw_1370 : (Cond.lays "CellHandoverModel" "CellHandoverModel" "next" "I") ∈ ch_GL := ch_c6 170 rfl rfl
theorem kw_1371 : (Cond.soleField "CellHandoverModel" "next") ∈ ch_GL := ch_c6 171 rfl rfl
theorem kw_1372 : (Cond.lays "CellHandoverModel" "CellHandoverModel" "beginsAt" "I") ∈ ch_GL := ch_c6 172 rfl rfl
theorem kw_1373 : (Cond.soleField "CellHandoverModel" "beginsAt") ∈ ch_GL := ch_c6 173 rfl rfl
theorem kw_1374 : (Cond.lays "CellHandoverModel" "CellHandoverModel" "token" "I") ∈ ch_GL := ch_c6 174 rfl rfl
theorem kw_1375 : (Cond.soleField "CellHandoverModel" "token") ∈ ch_GL := ch_c6 175 rfl rfl
theorem kw_1376 : (Cond.lays "CellHandoverModel" "CellHandoverModel" "error" "I") ∈ ch_GL := ch_c6 176 rfl rfl
theorem kw_1377 : (Cond.soleField "CellHandoverModel" "error") ∈ ch_GL := ch_c6 177 rfl rfl
theorem kw_1378 : (Cond.lays "CellHandoverModel" "CellHandoverModel" "errorAt" "I") ∈ ch_GL := ch_c6 178 rfl rfl
theorem kw_1379 : (Cond.soleField "CellHandoverModel" "errorAt") ∈ ch_GL := ch_c6 179 rfl rfl
theorem kw_1380 : (Cond.lays "CellHandoverModel" "CellHandoverModel" "errorPosition" "I") ∈ ch_GL := ch_c6 180 rfl rfl
theorem kw_1381 : (Cond.soleField "CellHandoverModel" "errorPosition") ∈ ch_GL := ch_c6 181 rfl rfl
theorem kw_1382 : (Cond.lays "CellHandoverModel" "CellHandoverModel" "nested" "I") ∈ ch_GL := ch_c6 182 rfl rfl
theorem kw_1383 : (Cond.soleField "CellHandoverModel" "nested") ∈ ch_GL := ch_c6 183 rfl rfl
theorem kw_1384 : (Cond.laysFinal "CellHandoverModel" "CellHandoverModel" "names" "[Ljava/lang/String;") ∈ ch_GL := ch_c6 184 rfl rfl
theorem kw_1385 : (Cond.soleField "CellHandoverModel" "names") ∈ ch_GL := ch_c6 185 rfl rfl
theorem kw_1386 : (Cond.laysFinal "CellHandoverModel" "CellHandoverModel" "codes" "[I") ∈ ch_GL := ch_c6 186 rfl rfl
theorem kw_1387 : (Cond.soleField "CellHandoverModel" "codes") ∈ ch_GL := ch_c6 187 rfl rfl
theorem kw_1388 : (Cond.laysFinal "CellHandoverModel" "CellHandoverModel" "stack" "[I") ∈ ch_GL := ch_c6 188 rfl rfl
theorem kw_1389 : (Cond.soleField "CellHandoverModel" "stack") ∈ ch_GL := ch_c6 189 rfl rfl
theorem kw_1390 : (Cond.lays "CellHandoverModel" "CellHandoverModel" "codeCount" "I") ∈ ch_GL := ch_c6 190 rfl rfl
theorem kw_1391 : (Cond.soleField "CellHandoverModel" "codeCount") ∈ ch_GL := ch_c6 191 rfl rfl
theorem kw_1392 : (Cond.superclass "CellHandoverModel" "java/lang/Object") ∈ ch_GL := ch_c6 192 rfl rfl
theorem kw_1393 : (Cond.methodLink "CellHandoverLaw" (126 : Nat) ({ cls := "CellHandoverModel", name := "thrown", desc := "()I" } : MethodName)) ∈ ch_GL := ch_c6 193 rfl rfl
theorem kw_1394 : (Cond.instanceMethod ({ cls := "CellHandoverModel", name := "thrown", desc := "()I" } : MethodName)) ∈ ch_GL := ch_c6 194 rfl rfl
theorem kw_1395 : (Cond.selects "CellHandoverModel" ({ cls := "CellHandoverModel", name := "thrown", desc := "()I" } : MethodName) ({ cls := "CellHandoverModel", name := "thrown", desc := "()I" } : MethodName)) ∈ ch_GL := ch_c6 195 rfl rfl
theorem kw_1396 : (Cond.code ({ cls := "CellHandoverModel", name := "thrown", desc := "()I" } : MethodName) prog_14_method_2_code (1 : Nat) (Option.some FieldType.int)) ∈ ch_GL := ch_c6 196 rfl rfl
theorem kw_1397 : (Cond.methodLink "CellHandoverLaw" (157 : Nat) ({ cls := "CellHandoverModel", name := "level", desc := "(III)I" } : MethodName)) ∈ ch_GL := ch_c6 197 rfl rfl
theorem kw_1398 : (Cond.instanceMethod ({ cls := "CellHandoverModel", name := "level", desc := "(III)I" } : MethodName)) ∈ ch_GL := ch_c6 198 rfl rfl
theorem kw_1399 : (Cond.selects "CellHandoverModel" ({ cls := "CellHandoverModel", name := "level", desc := "(III)I" } : MethodName) ({ cls := "CellHandoverModel", name := "level", desc := "(III)I" } : MethodName)) ∈ ch_GL := ch_c6 199 rfl rfl
theorem kw_1400 : (Cond.code ({ cls := "CellHandoverModel", name := "level", desc := "(III)I" } : MethodName) prog_14_method_22_code (4 : Nat) (Option.some FieldType.int)) ∈ ch_GL := ch_c6 200 rfl rfl
theorem kw_1401 : (Cond.methodLink "CellHandoverModel" (104 : Nat) ({ cls := "CellHandoverModel", name := "isCell", desc := "(I)Z" } : MethodName)) ∈ ch_GL := ch_c6 201 rfl rfl
theorem kb_1402 : (Cond.privateMethod ({ cls := "CellHandoverModel", name := "isCell", desc := "(I)Z" } : MethodName)) ∈ lw_tbl := ch_b6 202 rfl
theorem kw_1403 : (Cond.instanceMethod ({ cls := "CellHandoverModel", name := "isCell", desc := "(I)Z" } : MethodName)) ∈ ch_GL := ch_c6 203 rfl rfl
theorem kw_1404 : (Cond.code ({ cls := "CellHandoverModel", name := "isCell", desc := "(I)Z" } : MethodName) prog_14_method_11_code (2 : Nat) (Option.some FieldType.boolean)) ∈ ch_GL := ch_c6 204 rfl rfl
theorem kw_1405 : (Cond.methodLink "CellHandoverModel" (73 : Nat) ({ cls := "CellHandoverModel", name := "inRange", desc := "(III)Z" } : MethodName)) ∈ ch_GL := ch_c6 205 rfl rfl
theorem kw_1406 : (Cond.static ({ cls := "CellHandoverModel", name := "inRange", desc := "(III)Z" } : MethodName)) ∈ ch_GL := ch_c6 206 rfl rfl
theorem kw_1407 : (Cond.code ({ cls := "CellHandoverModel", name := "inRange", desc := "(III)Z" } : MethodName) prog_14_method_4_code (3 : Nat) (Option.some FieldType.boolean)) ∈ ch_GL := ch_c6 207 rfl rfl
theorem kw_1408 : (Cond.methodLink "CellHandoverModel" (108 : Nat) ({ cls := "CellHandoverModel", name := "raise", desc := "(I)I" } : MethodName)) ∈ ch_GL := ch_c6 208 rfl rfl
theorem kb_1409 : (Cond.privateMethod ({ cls := "CellHandoverModel", name := "raise", desc := "(I)I" } : MethodName)) ∈ lw_tbl := ch_b6 209 rfl
theorem kw_1410 : (Cond.instanceMethod ({ cls := "CellHandoverModel", name := "raise", desc := "(I)I" } : MethodName)) ∈ ch_GL := ch_c6 210 rfl rfl
theorem kw_1411 : (Cond.code ({ cls := "CellHandoverModel", name := "raise", desc := "(I)I" } : MethodName) prog_14_method_3_code (2 : Nat) (Option.some FieldType.int)) ∈ ch_GL := ch_c6 211 rfl rfl
theorem kw_1412 : (Cond.methodLink "CellHandoverModel" (111 : Nat) ({ cls := "CellHandoverModel", name := "isCoordinate", desc := "(I)Z" } : MethodName)) ∈ ch_GL := ch_c6 212 rfl rfl
theorem kw_1413 : (Cond.static ({ cls := "CellHandoverModel", name := "isCoordinate", desc := "(I)Z" } : MethodName)) ∈ ch_GL := ch_c6 213 rfl rfl
theorem kw_1414 : (Cond.code ({ cls := "CellHandoverModel", name := "isCoordinate", desc := "(I)Z" } : MethodName) prog_14_method_21_code (1 : Nat) (Option.some FieldType.boolean)) ∈ ch_GL := ch_c6 214 rfl rfl
theorem kw_1415 : (Cond.methodLink "CellHandoverModel" (97 : Nat) ({ cls := "CellHandoverModel", name := "levelAt", desc := "(III)I" } : MethodName)) ∈ ch_GL := ch_c6 215 rfl rfl
theorem kb_1416 : (Cond.privateMethod ({ cls := "CellHandoverModel", name := "levelAt", desc := "(III)I" } : MethodName)) ∈ lw_tbl := ch_b6 216 rfl
theorem kw_1417 : (Cond.instanceMethod ({ cls := "CellHandoverModel", name := "levelAt", desc := "(III)I" } : MethodName)) ∈ ch_GL := ch_c6 217 rfl rfl
theorem kw_1418 : (Cond.code ({ cls := "CellHandoverModel", name := "levelAt", desc := "(III)I" } : MethodName) prog_14_method_17_code (5 : Nat) (Option.some FieldType.int)) ∈ ch_GL := ch_c6 218 rfl rfl
theorem kw_1419 : (Cond.methodLink "CellHandoverModel" (85 : Nat) ({ cls := "CellHandoverModel", name := "ofCell", desc := "(II)I" } : MethodName)) ∈ ch_GL := ch_c6 219 rfl rfl
theorem kb_1420 : (Cond.privateMethod ({ cls := "CellHandoverModel", name := "ofCell", desc := "(II)I" } : MethodName)) ∈ lw_tbl := ch_b6 220 rfl
theorem kw_1421 : (Cond.instanceMethod ({ cls := "CellHandoverModel", name := "ofCell", desc := "(II)I" } : MethodName)) ∈ ch_GL := ch_c6 221 rfl rfl
theorem kw_1422 : (Cond.code ({ cls := "CellHandoverModel", name := "ofCell", desc := "(II)I" } : MethodName) prog_14_method_6_code (3 : Nat) (Option.some FieldType.int)) ∈ ch_GL := ch_c6 222 rfl rfl
theorem kw_1423 : (Cond.methodLink "CellHandoverModel" (88 : Nat) ({ cls := "java/lang/Math", name := "abs", desc := "(I)I" } : MethodName)) ∈ ch_GL := ch_c6 223 rfl rfl
theorem kw_1424 : (Cond.methodLink "CellHandoverModel" (94 : Nat) ({ cls := "java/lang/Math", name := "max", desc := "(II)I" } : MethodName)) ∈ ch_GL := ch_c6 224 rfl rfl
theorem kw_1425 : (Cond.methodLink "CellHandoverLaw" (160 : Nat) ({ cls := "CellHandoverModel", name := "strongestCell", desc := "(II)I" } : MethodName)) ∈ ch_GL := ch_c6 225 rfl rfl
theorem kw_1426 : (Cond.instanceMethod ({ cls := "CellHandoverModel", name := "strongestCell", desc := "(II)I" } : MethodName)) ∈ ch_GL := ch_c6 226 rfl rfl
theorem kw_1427 : (Cond.selects "CellHandoverModel" ({ cls := "CellHandoverModel", name := "strongestCell", desc := "(II)I" } : MethodName) ({ cls := "CellHandoverModel", name := "strongestCell", desc := "(II)I" } : MethodName)) ∈ ch_GL := ch_c6 227 rfl rfl
theorem kw_1428 : (Cond.code ({ cls := "CellHandoverModel", name := "strongestCell", desc := "(II)I" } : MethodName) prog_14_method_23_code (3 : Nat) (Option.some FieldType.int)) ∈ ch_GL := ch_c6 228 rfl rfl
theorem kw_1429 : (Cond.methodLink "CellHandoverModel" (114 : Nat) ({ cls := "CellHandoverModel", name := "covering", desc := "(II)I" } : MethodName)) ∈ ch_GL := ch_c6 229 rfl rfl
theorem kb_1430 : (Cond.privateMethod ({ cls := "CellHandoverModel", name := "covering", desc := "(II)I" } : MethodName)) ∈ lw_tbl := ch_b6 230 rfl
theorem kw_1431 : (Cond.instanceMethod ({ cls := "CellHandoverModel", name := "covering", desc := "(II)I" } : MethodName)) ∈ ch_GL := ch_c6 231 rfl rfl
theorem kw_1432 : (Cond.code ({ cls := "CellHandoverModel", name := "covering", desc := "(II)I" } : MethodName) prog_14_method_20_code (4 : Nat) (Option.some FieldType.int)) ∈ ch_GL := ch_c6 232 rfl rfl
theorem kw_1433 : (Cond.methodLink "CellHandoverModel" (101 : Nat) ({ cls := "CellHandoverModel", name := "strongest", desc := "(II)I" } : MethodName)) ∈ ch_GL := ch_c6 233 rfl rfl
theorem kb_1434 : (Cond.privateMethod ({ cls := "CellHandoverModel", name := "strongest", desc := "(II)I" } : MethodName)) ∈ lw_tbl := ch_b6 234 rfl
theorem kw_1435 : (Cond.instanceMethod ({ cls := "CellHandoverModel", name := "strongest", desc := "(II)I" } : MethodName)) ∈ ch_GL := ch_c6 235 rfl rfl
theorem kw_1436 : (Cond.code ({ cls := "CellHandoverModel", name := "strongest", desc := "(II)I" } : MethodName) prog_14_method_19_code (5 : Nat) (Option.some FieldType.int)) ∈ ch_GL := ch_c6 236 rfl rfl
theorem kw_1437 : (Cond.methodLink "CellHandoverLaw" (163 : Nat) ({ cls := "CellHandoverModel", name := "coverage", desc := "(I)I" } : MethodName)) ∈ ch_GL := ch_c6 237 rfl rfl
theorem kw_1438 : (Cond.instanceMethod ({ cls := "CellHandoverModel", name := "coverage", desc := "(I)I" } : MethodName)) ∈ ch_GL := ch_c6 238 rfl rfl
theorem kw_1439 : (Cond.selects "CellHandoverModel" ({ cls := "CellHandoverModel", name := "coverage", desc := "(I)I" } : MethodName) ({ cls := "CellHandoverModel", name := "coverage", desc := "(I)I" } : MethodName)) ∈ ch_GL := ch_c6 239 rfl rfl
theorem kw_1440 : (Cond.code ({ cls := "CellHandoverModel", name := "coverage", desc := "(I)I" } : MethodName) prog_14_method_24_code (5 : Nat) (Option.some FieldType.int)) ∈ ch_GL := ch_c7 0 rfl rfl
theorem kw_1441 : (Cond.methodLink "CellHandoverLaw" (166 : Nat) ({ cls := "CellHandoverModel", name := "missingRelation", desc := "(I)I" } : MethodName)) ∈ ch_GL := ch_c7 1 rfl rfl
theorem kw_1442 : (Cond.instanceMethod ({ cls := "CellHandoverModel", name := "missingRelation", desc := "(I)I" } : MethodName)) ∈ ch_GL := ch_c7 2 rfl rfl
theorem kw_1443 : (Cond.selects "CellHandoverModel" ({ cls := "CellHandoverModel", name := "missingRelation", desc := "(I)I" } : MethodName) ({ cls := "CellHandoverModel", name := "missingRelation", desc := "(I)I" } : MethodName)) ∈ ch_GL := ch_c7 3 rfl rfl
theorem kw_1444 : (Cond.code ({ cls := "CellHandoverModel", name := "missingRelation", desc := "(I)I" } : MethodName) prog_14_method_27_code (4 : Nat) (Option.some FieldType.int)) ∈ ch_GL := ch_c7 4 rfl rfl
theorem kw_1445 : (Cond.methodLink "CellHandoverModel" (121 : Nat) ({ cls := "CellHandoverModel", name := "isNeighbour", desc := "(II)Z" } : MethodName)) ∈ ch_GL := ch_c7 5 rfl rfl
theorem kb_1446 : (Cond.privateMethod ({ cls := "CellHandoverModel", name := "isNeighbour", desc := "(II)Z" } : MethodName)) ∈ lw_tbl := ch_b7 6 rfl
theorem kw_1447 : (Cond.instanceMethod ({ cls := "CellHandoverModel", name := "isNeighbour", desc := "(II)Z" } : MethodName)) ∈ ch_GL := ch_c7 7 rfl rfl
theorem kw_1448 : (Cond.code ({ cls := "CellHandoverModel", name := "isNeighbour", desc := "(II)Z" } : MethodName) prog_14_method_16_code (3 : Nat) (Option.some FieldType.boolean)) ∈ ch_GL := ch_c7 8 rfl rfl
theorem kw_1449 : (Cond.methodLink "CellHandoverModel" (81 : Nat) ({ cls := "CellHandoverModel", name := "relationOf", desc := "([III)I" } : MethodName)) ∈ ch_GL := ch_c7 9 rfl rfl
theorem kb_1450 : (Cond.privateMethod ({ cls := "CellHandoverModel", name := "relationOf", desc := "([III)I" } : MethodName)) ∈ lw_tbl := ch_b7 10 rfl
theorem kw_1451 : (Cond.instanceMethod ({ cls := "CellHandoverModel", name := "relationOf", desc := "([III)I" } : MethodName)) ∈ ch_GL := ch_c7 11 rfl rfl
theorem kw_1452 : (Cond.code ({ cls := "CellHandoverModel", name := "relationOf", desc := "([III)I" } : MethodName) prog_14_method_15_code (6 : Nat) (Option.some FieldType.int)) ∈ ch_GL := ch_c7 12 rfl rfl
theorem kw_1453 : (Cond.methodLink "CellHandoverModel" (125 : Nat) ({ cls := "CellHandoverModel", name := "isMissing", desc := "(III)Z" } : MethodName)) ∈ ch_GL := ch_c7 13 rfl rfl
theorem kb_1454 : (Cond.privateMethod ({ cls := "CellHandoverModel", name := "isMissing", desc := "(III)Z" } : MethodName)) ∈ lw_tbl := ch_b7 14 rfl
theorem kw_1455 : (Cond.instanceMethod ({ cls := "CellHandoverModel", name := "isMissing", desc := "(III)Z" } : MethodName)) ∈ ch_GL := ch_c7 15 rfl rfl
theorem kw_1456 : (Cond.code ({ cls := "CellHandoverModel", name := "isMissing", desc := "(III)Z" } : MethodName) prog_14_method_26_code (7 : Nat) (Option.some FieldType.boolean)) ∈ ch_GL := ch_c7 16 rfl rfl
theorem kw_1457 : (Cond.methodLink "CellHandoverModel" (117 : Nat) ({ cls := "CellHandoverModel", name := "isNear", desc := "(IIIII)Z" } : MethodName)) ∈ ch_GL := ch_c7 17 rfl rfl
theorem kb_1458 : (Cond.privateMethod ({ cls := "CellHandoverModel", name := "isNear", desc := "(IIIII)Z" } : MethodName)) ∈ lw_tbl := ch_b7 18 rfl
theorem kw_1459 : (Cond.instanceMethod ({ cls := "CellHandoverModel", name := "isNear", desc := "(IIIII)Z" } : MethodName)) ∈ ch_GL := ch_c7 19 rfl rfl
theorem kw_1460 : (Cond.code ({ cls := "CellHandoverModel", name := "isNear", desc := "(IIIII)Z" } : MethodName) prog_14_method_25_code (7 : Nat) (Option.some FieldType.boolean)) ∈ ch_GL := ch_c7 20 rfl rfl
theorem kw_1461 : (Cond.methodLink "CellHandoverLaw" (137 : Nat) ({ cls := "CellHandoverModel", name := "cellCount", desc := "()I" } : MethodName)) ∈ ch_GL := ch_c7 21 rfl rfl
theorem kw_1462 : (Cond.instanceMethod ({ cls := "CellHandoverModel", name := "cellCount", desc := "()I" } : MethodName)) ∈ ch_GL := ch_c7 22 rfl rfl
theorem kw_1463 : (Cond.selects "CellHandoverModel" ({ cls := "CellHandoverModel", name := "cellCount", desc := "()I" } : MethodName) ({ cls := "CellHandoverModel", name := "cellCount", desc := "()I" } : MethodName)) ∈ ch_GL := ch_c7 23 rfl rfl
theorem kw_1464 : (Cond.code ({ cls := "CellHandoverModel", name := "cellCount", desc := "()I" } : MethodName) prog_14_method_28_code (1 : Nat) (Option.some FieldType.int)) ∈ ch_GL := ch_c7 24 rfl rfl
theorem kw_1465 : (Cond.methodLink "CellHandoverLaw" (141 : Nat) ({ cls := "CellHandoverModel", name := "relationCount", desc := "()I" } : MethodName)) ∈ ch_GL := ch_c7 25 rfl rfl
theorem kw_1466 : (Cond.instanceMethod ({ cls := "CellHandoverModel", name := "relationCount", desc := "()I" } : MethodName)) ∈ ch_GL := ch_c7 26 rfl rfl
theorem kw_1467 : (Cond.selects "CellHandoverModel" ({ cls := "CellHandoverModel", name := "relationCount", desc := "()I" } : MethodName) ({ cls := "CellHandoverModel", name := "relationCount", desc := "()I" } : MethodName)) ∈ ch_GL := ch_c7 27 rfl rfl
theorem kw_1468 : (Cond.code ({ cls := "CellHandoverModel", name := "relationCount", desc := "()I" } : MethodName) prog_14_method_29_code (1 : Nat) (Option.some FieldType.int)) ∈ ch_GL := ch_c7 28 rfl rfl
theorem kw_1469 : (Cond.methodLink "CellHandoverLaw" (145 : Nat) ({ cls := "CellHandoverModel", name := "mobileCount", desc := "()I" } : MethodName)) ∈ ch_GL := ch_c7 29 rfl rfl
theorem kw_1470 : (Cond.instanceMethod ({ cls := "CellHandoverModel", name := "mobileCount", desc := "()I" } : MethodName)) ∈ ch_GL := ch_c7 30 rfl rfl
theorem kw_1471 : (Cond.selects "CellHandoverModel" ({ cls := "CellHandoverModel", name := "mobileCount", desc := "()I" } : MethodName) ({ cls := "CellHandoverModel", name := "mobileCount", desc := "()I" } : MethodName)) ∈ ch_GL := ch_c7 31 rfl rfl
theorem kw_1472 : (Cond.code ({ cls := "CellHandoverModel", name := "mobileCount", desc := "()I" } : MethodName) prog_14_method_30_code (1 : Nat) (Option.some FieldType.int)) ∈ ch_GL := ch_c7 32 rfl rfl
theorem kw_1473 : (Cond.methodLink "CellHandoverLaw" (149 : Nat) ({ cls := "CellHandoverModel", name := "clock", desc := "()I" } : MethodName)) ∈ ch_GL := ch_c7 33 rfl rfl
theorem kw_1474 : (Cond.instanceMethod ({ cls := "CellHandoverModel", name := "clock", desc := "()I" } : MethodName)) ∈ ch_GL := ch_c7 34 rfl rfl
theorem kw_1475 : (Cond.selects "CellHandoverModel" ({ cls := "CellHandoverModel", name := "clock", desc := "()I" } : MethodName) ({ cls := "CellHandoverModel", name := "clock", desc := "()I" } : MethodName)) ∈ ch_GL := ch_c7 35 rfl rfl
theorem kw_1476 : (Cond.code ({ cls := "CellHandoverModel", name := "clock", desc := "()I" } : MethodName) prog_14_method_31_code (1 : Nat) (Option.some FieldType.int)) ∈ ch_GL := ch_c7 36 rfl rfl
theorem kw_1477 : (Cond.methodLink "CellHandoverLaw" (153 : Nat) ({ cls := "CellHandoverModel", name := "hysteresis", desc := "(II)I" } : MethodName)) ∈ ch_GL := ch_c7 37 rfl rfl
theorem kw_1478 : (Cond.instanceMethod ({ cls := "CellHandoverModel", name := "hysteresis", desc := "(II)I" } : MethodName)) ∈ ch_GL := ch_c7 38 rfl rfl
theorem kw_1479 : (Cond.selects "CellHandoverModel" ({ cls := "CellHandoverModel", name := "hysteresis", desc := "(II)I" } : MethodName) ({ cls := "CellHandoverModel", name := "hysteresis", desc := "(II)I" } : MethodName)) ∈ ch_GL := ch_c7 39 rfl rfl
theorem kw_1480 : (Cond.code ({ cls := "CellHandoverModel", name := "hysteresis", desc := "(II)I" } : MethodName) prog_14_method_33_code (3 : Nat) (Option.some FieldType.int)) ∈ ch_GL := ch_c7 40 rfl rfl
theorem kw_1481 : (Cond.methodLink "CellHandoverModel" (131 : Nat) ({ cls := "CellHandoverModel", name := "tellRelation", desc := "(IIII)I" } : MethodName)) ∈ ch_GL := ch_c7 41 rfl rfl
theorem kb_1482 : (Cond.privateMethod ({ cls := "CellHandoverModel", name := "tellRelation", desc := "(IIII)I" } : MethodName)) ∈ lw_tbl := ch_b7 42 rfl
theorem kw_1483 : (Cond.instanceMethod ({ cls := "CellHandoverModel", name := "tellRelation", desc := "(IIII)I" } : MethodName)) ∈ ch_GL := ch_c7 43 rfl rfl
theorem kw_1484 : (Cond.code ({ cls := "CellHandoverModel", name := "tellRelation", desc := "(IIII)I" } : MethodName) prog_14_method_32_code (6 : Nat) (Option.some FieldType.int)) ∈ ch_GL := ch_c7 44 rfl rfl
theorem kw_1485 : (Cond.methodLink "CellHandoverModel" (128 : Nat) ({ cls := "CellHandoverModel", name := "ofRelation", desc := "(II)I" } : MethodName)) ∈ ch_GL := ch_c7 45 rfl rfl
theorem kb_1486 : (Cond.privateMethod ({ cls := "CellHandoverModel", name := "ofRelation", desc := "(II)I" } : MethodName)) ∈ lw_tbl := ch_b7 46 rfl
theorem kw_1487 : (Cond.instanceMethod ({ cls := "CellHandoverModel", name := "ofRelation", desc := "(II)I" } : MethodName)) ∈ ch_GL := ch_c7 47 rfl rfl
theorem kw_1488 : (Cond.code ({ cls := "CellHandoverModel", name := "ofRelation", desc := "(II)I" } : MethodName) prog_14_method_7_code (3 : Nat) (Option.some FieldType.int)) ∈ ch_GL := ch_c7 48 rfl rfl
theorem kw_1489 : (Cond.methodLink "CellHandoverLaw" (227 : Nat) ({ cls := "CellHandoverModel", name := "successes", desc := "(II)I" } : MethodName)) ∈ ch_GL := ch_c7 49 rfl rfl
theorem kw_1490 : (Cond.instanceMethod ({ cls := "CellHandoverModel", name := "successes", desc := "(II)I" } : MethodName)) ∈ ch_GL := ch_c7 50 rfl rfl
theorem kw_1491 : (Cond.selects "CellHandoverModel" ({ cls := "CellHandoverModel", name := "successes", desc := "(II)I" } : MethodName) ({ cls := "CellHandoverModel", name := "successes", desc := "(II)I" } : MethodName)) ∈ ch_GL := ch_c7 51 rfl rfl
theorem kw_1492 : (Cond.code ({ cls := "CellHandoverModel", name := "successes", desc := "(II)I" } : MethodName) prog_14_method_34_code (3 : Nat) (Option.some FieldType.int)) ∈ ch_GL := ch_c7 52 rfl rfl
theorem kw_1493 : (Cond.methodLink "CellHandoverLaw" (230 : Nat) ({ cls := "CellHandoverModel", name := "refusals", desc := "(II)I" } : MethodName)) ∈ ch_GL := ch_c7 53 rfl rfl
theorem kw_1494 : (Cond.instanceMethod ({ cls := "CellHandoverModel", name := "refusals", desc := "(II)I" } : MethodName)) ∈ ch_GL := ch_c7 54 rfl rfl
theorem kw_1495 : (Cond.selects "CellHandoverModel" ({ cls := "CellHandoverModel", name := "refusals", desc := "(II)I" } : MethodName) ({ cls := "CellHandoverModel", name := "refusals", desc := "(II)I" } : MethodName)) ∈ ch_GL := ch_c7 55 rfl rfl
theorem kw_1496 : (Cond.code ({ cls := "CellHandoverModel", name := "refusals", desc := "(II)I" } : MethodName) prog_14_method_35_code (3 : Nat) (Option.some FieldType.int)) ∈ ch_GL := ch_c7 56 rfl rfl
theorem kw_1497 : (Cond.methodLink "CellHandoverLaw" (234 : Nat) ({ cls := "CellHandoverModel", name := "total", desc := "(I)I" } : MethodName)) ∈ ch_GL := ch_c7 57 rfl rfl
theorem kw_1498 : (Cond.instanceMethod ({ cls := "CellHandoverModel", name := "total", desc := "(I)I" } : MethodName)) ∈ ch_GL := ch_c7 58 rfl rfl
theorem kw_1499 : (Cond.selects "CellHandoverModel" ({ cls := "CellHandoverModel", name := "total", desc := "(I)I" } : MethodName) ({ cls := "CellHandoverModel", name := "total", desc := "(I)I" } : MethodName)) ∈ ch_GL := ch_c7 59 rfl rfl
theorem kw_1500 : (Cond.code ({ cls := "CellHandoverModel", name := "total", desc := "(I)I" } : MethodName) prog_14_method_36_code (2 : Nat) (Option.some FieldType.int)) ∈ ch_GL := ch_c7 60 rfl rfl
theorem kw_1501 : (Cond.methodLink "CellHandoverLaw" (237 : Nat) ({ cls := "CellHandoverModel", name := "congestedTicks", desc := "(I)I" } : MethodName)) ∈ ch_GL := ch_c7 61 rfl rfl
theorem kw_1502 : (Cond.instanceMethod ({ cls := "CellHandoverModel", name := "congestedTicks", desc := "(I)I" } : MethodName)) ∈ ch_GL := ch_c7 62 rfl rfl
theorem kw_1503 : (Cond.selects "CellHandoverModel" ({ cls := "CellHandoverModel", name := "congestedTicks", desc := "(I)I" } : MethodName) ({ cls := "CellHandoverModel", name := "congestedTicks", desc := "(I)I" } : MethodName)) ∈ ch_GL := ch_c7 63 rfl rfl
theorem kw_1504 : (Cond.code ({ cls := "CellHandoverModel", name := "congestedTicks", desc := "(I)I" } : MethodName) prog_14_method_38_code (2 : Nat) (Option.some FieldType.int)) ∈ ch_GL := ch_c7 64 rfl rfl
theorem kw_1505 : (Cond.methodLink "CellHandoverLaw" (218 : Nat) ({ cls := "CellHandoverModel", name := "busyChannels", desc := "(I)I" } : MethodName)) ∈ ch_GL := ch_c7 65 rfl rfl
theorem kw_1506 : (Cond.instanceMethod ({ cls := "CellHandoverModel", name := "busyChannels", desc := "(I)I" } : MethodName)) ∈ ch_GL := ch_c7 66 rfl rfl
theorem kw_1507 : (Cond.selects "CellHandoverModel" ({ cls := "CellHandoverModel", name := "busyChannels", desc := "(I)I" } : MethodName) ({ cls := "CellHandoverModel", name := "busyChannels", desc := "(I)I" } : MethodName)) ∈ ch_GL := ch_c7 67 rfl rfl
theorem kw_1508 : (Cond.code ({ cls := "CellHandoverModel", name := "busyChannels", desc := "(I)I" } : MethodName) prog_14_method_47_code (2 : Nat) (Option.some FieldType.int)) ∈ ch_GL := ch_c7 68 rfl rfl
theorem kw_1509 : (Cond.methodLink "CellHandoverModel" (138 : Nat) ({ cls := "CellHandoverModel", name := "busy", desc := "(I)I" } : MethodName)) ∈ ch_GL := ch_c7 69 rfl rfl
theorem kb_1510 : (Cond.privateMethod ({ cls := "CellHandoverModel", name := "busy", desc := "(I)I" } : MethodName)) ∈ lw_tbl := ch_b7 70 rfl
theorem kw_1511 : (Cond.instanceMethod ({ cls := "CellHandoverModel", name := "busy", desc := "(I)I" } : MethodName)) ∈ ch_GL := ch_c7 71 rfl rfl
theorem kw_1512 : (Cond.code ({ cls := "CellHandoverModel", name := "busy", desc := "(I)I" } : MethodName) prog_14_method_39_code (4 : Nat) (Option.some FieldType.int)) ∈ ch_GL := ch_c7 72 rfl rfl
theorem kw_1513 : (Cond.methodLink "CellHandoverModel" (135 : Nat) ({ cls := "CellHandoverModel", name := "talks", desc := "(I)Z" } : MethodName)) ∈ ch_GL := ch_c7 73 rfl rfl
theorem kb_1514 : (Cond.privateMethod ({ cls := "CellHandoverModel", name := "talks", desc := "(I)Z" } : MethodName)) ∈ lw_tbl := ch_b7 74 rfl
theorem kw_1515 : (Cond.instanceMethod ({ cls := "CellHandoverModel", name := "talks", desc := "(I)Z" } : MethodName)) ∈ ch_GL := ch_c7 75 rfl rfl
theorem kw_1516 : (Cond.code ({ cls := "CellHandoverModel", name := "talks", desc := "(I)Z" } : MethodName) prog_14_method_13_code (2 : Nat) (Option.some FieldType.boolean)) ∈ ch_GL := ch_c7 76 rfl rfl
theorem kw_1517 : (Cond.methodLink "CellHandoverModel" (77 : Nat) ({ cls := "CellHandoverModel", name := "of", desc := "(II)I" } : MethodName)) ∈ ch_GL := ch_c7 77 rfl rfl
theorem kb_1518 : (Cond.privateMethod ({ cls := "CellHandoverModel", name := "of", desc := "(II)I" } : MethodName)) ∈ lw_tbl := ch_b7 78 rfl
theorem kw_1519 : (Cond.instanceMethod ({ cls := "CellHandoverModel", name := "of", desc := "(II)I" } : MethodName)) ∈ ch_GL := ch_c7 79 rfl rfl
theorem kw_1520 : (Cond.code ({ cls := "CellHandoverModel", name := "of", desc := "(II)I" } : MethodName) prog_14_method_9_code (3 : Nat) (Option.some FieldType.int)) ∈ ch_GL := ch_c7 80 rfl rfl
theorem kw_1521 : (Cond.methodLink "CellHandoverLaw" (221 : Nat) ({ cls := "CellHandoverModel", name := "queueLength", desc := "(I)I" } : MethodName)) ∈ ch_GL := ch_c7 81 rfl rfl
theorem kw_1522 : (Cond.instanceMethod ({ cls := "CellHandoverModel", name := "queueLength", desc := "(I)I" } : MethodName)) ∈ ch_GL := ch_c7 82 rfl rfl
theorem kw_1523 : (Cond.selects "CellHandoverModel" ({ cls := "CellHandoverModel", name := "queueLength", desc := "(I)I" } : MethodName) ({ cls := "CellHandoverModel", name := "queueLength", desc := "(I)I" } : MethodName)) ∈ ch_GL := ch_c7 83 rfl rfl
theorem kw_1524 : (Cond.code ({ cls := "CellHandoverModel", name := "queueLength", desc := "(I)I" } : MethodName) prog_14_method_48_code (2 : Nat) (Option.some FieldType.int)) ∈ ch_GL := ch_c7 84 rfl rfl
theorem kw_1525 : (Cond.methodLink "CellHandoverModel" (141 : Nat) ({ cls := "CellHandoverModel", name := "waitingAt", desc := "(I)I" } : MethodName)) ∈ ch_GL := ch_c7 85 rfl rfl
theorem kb_1526 : (Cond.privateMethod ({ cls := "CellHandoverModel", name := "waitingAt", desc := "(I)I" } : MethodName)) ∈ lw_tbl := ch_b7 86 rfl
theorem kw_1527 : (Cond.instanceMethod ({ cls := "CellHandoverModel", name := "waitingAt", desc := "(I)I" } : MethodName)) ∈ ch_GL := ch_c7 87 rfl rfl
theorem kw_1528 : (Cond.code ({ cls := "CellHandoverModel", name := "waitingAt", desc := "(I)I" } : MethodName) prog_14_method_41_code (4 : Nat) (Option.some FieldType.int)) ∈ ch_GL := ch_c7 88 rfl rfl
theorem kw_1529 : (Cond.methodLink "CellHandoverLaw" (224 : Nat) ({ cls := "CellHandoverModel", name := "queued", desc := "(II)I" } : MethodName)) ∈ ch_GL := ch_c7 89 rfl rfl
theorem kw_1530 : (Cond.instanceMethod ({ cls := "CellHandoverModel", name := "queued", desc := "(II)I" } : MethodName)) ∈ ch_GL := ch_c7 90 rfl rfl
theorem kw_1531 : (Cond.selects "CellHandoverModel" ({ cls := "CellHandoverModel", name := "queued", desc := "(II)I" } : MethodName) ({ cls := "CellHandoverModel", name := "queued", desc := "(II)I" } : MethodName)) ∈ ch_GL := ch_c7 91 rfl rfl
theorem kw_1532 : (Cond.code ({ cls := "CellHandoverModel", name := "queued", desc := "(II)I" } : MethodName) prog_14_method_49_code (3 : Nat) (Option.some FieldType.int)) ∈ ch_GL := ch_c7 92 rfl rfl
theorem kw_1533 : (Cond.methodLink "CellHandoverModel" (151 : Nat) ({ cls := "CellHandoverModel", name := "requestAt", desc := "(II)I" } : MethodName)) ∈ ch_GL := ch_c7 93 rfl rfl
theorem kb_1534 : (Cond.privateMethod ({ cls := "CellHandoverModel", name := "requestAt", desc := "(II)I" } : MethodName)) ∈ lw_tbl := ch_b7 94 rfl
theorem kw_1535 : (Cond.instanceMethod ({ cls := "CellHandoverModel", name := "requestAt", desc := "(II)I" } : MethodName)) ∈ ch_GL := ch_c7 95 rfl rfl
theorem kw_1536 : (Cond.code ({ cls := "CellHandoverModel", name := "requestAt", desc := "(II)I" } : MethodName) prog_14_method_44_code (6 : Nat) (Option.some FieldType.int)) ∈ ch_GL := ch_c7 96 rfl rfl
theorem kw_1537 : (Cond.methodLink "CellHandoverModel" (144 : Nat) ({ cls := "CellHandoverModel", name := "isAhead", desc := "(II)Z" } : MethodName)) ∈ ch_GL := ch_c7 97 rfl rfl
theorem kb_1538 : (Cond.privateMethod ({ cls := "CellHandoverModel", name := "isAhead", desc := "(II)Z" } : MethodName)) ∈ lw_tbl := ch_b7 98 rfl
theorem kw_1539 : (Cond.instanceMethod ({ cls := "CellHandoverModel", name := "isAhead", desc := "(II)Z" } : MethodName)) ∈ ch_GL := ch_c7 99 rfl rfl
theorem kw_1540 : (Cond.code ({ cls := "CellHandoverModel", name := "isAhead", desc := "(II)Z" } : MethodName) prog_14_method_43_code (3 : Nat) (Option.some FieldType.boolean)) ∈ ch_GL := ch_c7 100 rfl rfl
theorem kw_1541 : (Cond.methodLink "CellHandoverLaw" (176 : Nat) ({ cls := "CellHandoverModel", name := "call", desc := "(II)I" } : MethodName)) ∈ ch_GL := ch_c7 101 rfl rfl
theorem kw_1542 : (Cond.instanceMethod ({ cls := "CellHandoverModel", name := "call", desc := "(II)I" } : MethodName)) ∈ ch_GL := ch_c7 102 rfl rfl
theorem kw_1543 : (Cond.selects "CellHandoverModel" ({ cls := "CellHandoverModel", name := "call", desc := "(II)I" } : MethodName) ({ cls := "CellHandoverModel", name := "call", desc := "(II)I" } : MethodName)) ∈ ch_GL := ch_c7 103 rfl rfl
theorem kw_1544 : (Cond.code ({ cls := "CellHandoverModel", name := "call", desc := "(II)I" } : MethodName) prog_14_method_58_code (5 : Nat) (Option.some FieldType.int)) ∈ ch_GL := ch_c7 104 rfl rfl
theorem kw_1545 : (Cond.methodLink "CellHandoverModel" (170 : Nat) ({ cls := "CellHandoverModel", name := "isMobile", desc := "(I)Z" } : MethodName)) ∈ ch_GL := ch_c7 105 rfl rfl
theorem kb_1546 : (Cond.privateMethod ({ cls := "CellHandoverModel", name := "isMobile", desc := "(I)Z" } : MethodName)) ∈ lw_tbl := ch_b7 106 rfl
theorem kw_1547 : (Cond.instanceMethod ({ cls := "CellHandoverModel", name := "isMobile", desc := "(I)Z" } : MethodName)) ∈ ch_GL := ch_c7 107 rfl rfl
theorem kw_1548 : (Cond.code ({ cls := "CellHandoverModel", name := "isMobile", desc := "(I)Z" } : MethodName) prog_14_method_12_code (2 : Nat) (Option.some FieldType.boolean)) ∈ ch_GL := ch_c7 108 rfl rfl
theorem kw_1549 : (Cond.methodLink "CellHandoverModel" (173 : Nat) ({ cls := "CellHandoverModel", name := "record", desc := "()V" } : MethodName)) ∈ ch_GL := ch_c7 109 rfl rfl
theorem kb_1550 : (Cond.privateMethod ({ cls := "CellHandoverModel", name := "record", desc := "()V" } : MethodName)) ∈ lw_tbl := ch_b7 110 rfl
theorem kw_1551 : (Cond.instanceMethod ({ cls := "CellHandoverModel", name := "record", desc := "()V" } : MethodName)) ∈ ch_GL := ch_c7 111 rfl rfl
theorem kw_1552 : (Cond.code ({ cls := "CellHandoverModel", name := "record", desc := "()V" } : MethodName) prog_14_method_93_code (2 : Nat) (Option.none : Option FieldType)) ∈ ch_GL := ch_c7 112 rfl rfl
theorem kw_1553 : (Cond.methodLink "CellHandoverModel" (266 : Nat) ({ cls := "CellHandoverModel", name := "copy", desc := "([II[II)V" } : MethodName)) ∈ ch_GL := ch_c7 113 rfl rfl
theorem kw_1554 : (Cond.static ({ cls := "CellHandoverModel", name := "copy", desc := "([II[II)V" } : MethodName)) ∈ ch_GL := ch_c7 114 rfl rfl
theorem kw_1555 : (Cond.code ({ cls := "CellHandoverModel", name := "copy", desc := "([II[II)V" } : MethodName) prog_14_method_92_code (5 : Nat) (Option.none : Option FieldType)) ∈ ch_GL := ch_c7 115 rfl rfl
theorem kw_1556 : (Cond.methodLink "CellHandoverModel" (147 : Nat) ({ cls := "CellHandoverModel", name := "put", desc := "(III)V" } : MethodName)) ∈ ch_GL := ch_c7 116 rfl rfl
theorem kb_1557 : (Cond.privateMethod ({ cls := "CellHandoverModel", name := "put", desc := "(III)V" } : MethodName)) ∈ lw_tbl := ch_b7 117 rfl
theorem kw_1558 : (Cond.instanceMethod ({ cls := "CellHandoverModel", name := "put", desc := "(III)V" } : MethodName)) ∈ ch_GL := ch_c7 118 rfl rfl
theorem kw_1559 : (Cond.code ({ cls := "CellHandoverModel", name := "put", desc := "(III)V" } : MethodName) prog_14_method_10_code (4 : Nat) (Option.none : Option FieldType)) ∈ ch_GL := ch_c7 119 rfl rfl
theorem kw_1560 : (Cond.methodLink "CellHandoverModel" (167 : Nat) ({ cls := "CellHandoverModel", name := "hasFreeChannel", desc := "(I)Z" } : MethodName)) ∈ ch_GL := ch_c7 120 rfl rfl
theorem kb_1561 : (Cond.privateMethod ({ cls := "CellHandoverModel", name := "hasFreeChannel", desc := "(I)Z" } : MethodName)) ∈ lw_tbl := ch_b7 121 rfl
theorem kw_1562 : (Cond.instanceMethod ({ cls := "CellHandoverModel", name := "hasFreeChannel", desc := "(I)Z" } : MethodName)) ∈ ch_GL := ch_c7 122 rfl rfl
theorem kw_1563 : (Cond.code ({ cls := "CellHandoverModel", name := "hasFreeChannel", desc := "(I)Z" } : MethodName) prog_14_method_40_code (2 : Nat) (Option.some FieldType.boolean)) ∈ ch_GL := ch_c7 123 rfl rfl
theorem kw_1564 : (Cond.methodLink "CellHandoverModel" (176 : Nat) ({ cls := "CellHandoverModel", name := "begin", desc := "(II)V" } : MethodName)) ∈ ch_GL := ch_c7 124 rfl rfl
theorem kb_1565 : (Cond.privateMethod ({ cls := "CellHandoverModel", name := "begin", desc := "(II)V" } : MethodName)) ∈ lw_tbl := ch_b7 125 rfl
theorem kw_1566 : (Cond.instanceMethod ({ cls := "CellHandoverModel", name := "begin", desc := "(II)V" } : MethodName)) ∈ ch_GL := ch_c7 126 rfl rfl
theorem kw_1567 : (Cond.code ({ cls := "CellHandoverModel", name := "begin", desc := "(II)V" } : MethodName) prog_14_method_55_code (4 : Nat) (Option.none : Option FieldType)) ∈ ch_GL := ch_c7 127 rfl rfl
theorem kw_1568 : (Cond.methodLink "CellHandoverModel" (163 : Nat) ({ cls := "CellHandoverModel", name := "withdraw", desc := "(I)V" } : MethodName)) ∈ ch_GL := ch_c7 128 rfl rfl
theorem kb_1569 : (Cond.privateMethod ({ cls := "CellHandoverModel", name := "withdraw", desc := "(I)V" } : MethodName)) ∈ lw_tbl := ch_b7 129 rfl
theorem kw_1570 : (Cond.instanceMethod ({ cls := "CellHandoverModel", name := "withdraw", desc := "(I)V" } : MethodName)) ∈ ch_GL := ch_c7 130 rfl rfl
theorem kw_1571 : (Cond.code ({ cls := "CellHandoverModel", name := "withdraw", desc := "(I)V" } : MethodName) prog_14_method_46_code (2 : Nat) (Option.none : Option FieldType)) ∈ ch_GL := ch_c7 131 rfl rfl
theorem kw_1572 : (Cond.methodLink "CellHandoverModel" (180 : Nat) ({ cls := "CellHandoverModel", name := "retryCell", desc := "(II)I" } : MethodName)) ∈ ch_GL := ch_c7 132 rfl rfl
theorem kb_1573 : (Cond.privateMethod ({ cls := "CellHandoverModel", name := "retryCell", desc := "(II)I" } : MethodName)) ∈ lw_tbl := ch_b7 133 rfl
theorem kw_1574 : (Cond.instanceMethod ({ cls := "CellHandoverModel", name := "retryCell", desc := "(II)I" } : MethodName)) ∈ ch_GL := ch_c7 134 rfl rfl
theorem kw_1575 : (Cond.code ({ cls := "CellHandoverModel", name := "retryCell", desc := "(II)I" } : MethodName) prog_14_method_57_code (6 : Nat) (Option.some FieldType.int)) ∈ ch_GL := ch_c7 135 rfl rfl
theorem kw_1576 : (Cond.methodLink "CellHandoverModel" (157 : Nat) ({ cls := "CellHandoverModel", name := "levelFor", desc := "(II)I" } : MethodName)) ∈ ch_GL := ch_c7 136 rfl rfl
theorem kb_1577 : (Cond.privateMethod ({ cls := "CellHandoverModel", name := "levelFor", desc := "(II)I" } : MethodName)) ∈ lw_tbl := ch_b7 137 rfl
theorem kw_1578 : (Cond.instanceMethod ({ cls := "CellHandoverModel", name := "levelFor", desc := "(II)I" } : MethodName)) ∈ ch_GL := ch_c7 138 rfl rfl
theorem kw_1579 : (Cond.code ({ cls := "CellHandoverModel", name := "levelFor", desc := "(II)I" } : MethodName) prog_14_method_18_code (3 : Nat) (Option.some FieldType.int)) ∈ ch_GL := ch_c7 139 rfl rfl
theorem kw_1580 : (Cond.methodLink "CellHandoverModel" (183 : Nat) ({ cls := "CellHandoverModel", name := "count", desc := "(I)V" } : MethodName)) ∈ ch_GL := ch_c7 140 rfl rfl
theorem kb_1581 : (Cond.privateMethod ({ cls := "CellHandoverModel", name := "count", desc := "(I)V" } : MethodName)) ∈ lw_tbl := ch_b7 141 rfl
theorem kw_1582 : (Cond.instanceMethod ({ cls := "CellHandoverModel", name := "count", desc := "(I)V" } : MethodName)) ∈ ch_GL := ch_c7 142 rfl rfl
theorem kw_1583 : (Cond.code ({ cls := "CellHandoverModel", name := "count", desc := "(I)V" } : MethodName) prog_14_method_37_code (2 : Nat) (Option.none : Option FieldType)) ∈ ch_GL := ch_c7 143 rfl rfl
theorem kw_1584 : (Cond.methodLink "CellHandoverModel" (186 : Nat) ({ cls := "CellHandoverModel", name := "hasRoom", desc := "(I)Z" } : MethodName)) ∈ ch_GL := ch_c7 144 rfl rfl
theorem kb_1585 : (Cond.privateMethod ({ cls := "CellHandoverModel", name := "hasRoom", desc := "(I)Z" } : MethodName)) ∈ lw_tbl := ch_b7 145 rfl
theorem kw_1586 : (Cond.instanceMethod ({ cls := "CellHandoverModel", name := "hasRoom", desc := "(I)Z" } : MethodName)) ∈ ch_GL := ch_c7 146 rfl rfl
theorem kw_1587 : (Cond.code ({ cls := "CellHandoverModel", name := "hasRoom", desc := "(I)Z" } : MethodName) prog_14_method_42_code (2 : Nat) (Option.some FieldType.boolean)) ∈ ch_GL := ch_c7 147 rfl rfl
theorem kw_1588 : (Cond.methodLink "CellHandoverModel" (189 : Nat) ({ cls := "CellHandoverModel", name := "request", desc := "(III)V" } : MethodName)) ∈ ch_GL := ch_c7 148 rfl rfl
theorem kb_1589 : (Cond.privateMethod ({ cls := "CellHandoverModel", name := "request", desc := "(III)V" } : MethodName)) ∈ lw_tbl := ch_b7 149 rfl
theorem kw_1590 : (Cond.instanceMethod ({ cls := "CellHandoverModel", name := "request", desc := "(III)V" } : MethodName)) ∈ ch_GL := ch_c7 150 rfl rfl
theorem kw_1591 : (Cond.code ({ cls := "CellHandoverModel", name := "request", desc := "(III)V" } : MethodName) prog_14_method_45_code (4 : Nat) (Option.none : Option FieldType)) ∈ ch_GL := ch_c7 151 rfl rfl
theorem kw_1592 : (Cond.methodLink "CellHandoverLaw" (179 : Nat) ({ cls := "CellHandoverModel", name := "hangUp", desc := "(I)I" } : MethodName)) ∈ ch_GL := ch_c7 152 rfl rfl
theorem kw_1593 : (Cond.instanceMethod ({ cls := "CellHandoverModel", name := "hangUp", desc := "(I)I" } : MethodName)) ∈ ch_GL := ch_c7 153 rfl rfl
theorem kw_1594 : (Cond.selects "CellHandoverModel" ({ cls := "CellHandoverModel", name := "hangUp", desc := "(I)I" } : MethodName) ({ cls := "CellHandoverModel", name := "hangUp", desc := "(I)I" } : MethodName)) ∈ ch_GL := ch_c7 154 rfl rfl
theorem kw_1595 : (Cond.code ({ cls := "CellHandoverModel", name := "hangUp", desc := "(I)I" } : MethodName) prog_14_method_59_code (3 : Nat) (Option.some FieldType.int)) ∈ ch_GL := ch_c7 155 rfl rfl
theorem kw_1596 : (Cond.methodLink "CellHandoverModel" (192 : Nat) ({ cls := "CellHandoverModel", name := "tell", desc := "(II)I" } : MethodName)) ∈ ch_GL := ch_c7 156 rfl rfl
theorem kb_1597 : (Cond.privateMethod ({ cls := "CellHandoverModel", name := "tell", desc := "(II)I" } : MethodName)) ∈ lw_tbl := ch_b7 157 rfl
theorem kw_1598 : (Cond.instanceMethod ({ cls := "CellHandoverModel", name := "tell", desc := "(II)I" } : MethodName)) ∈ ch_GL := ch_c7 158 rfl rfl
theorem kw_1599 : (Cond.code ({ cls := "CellHandoverModel", name := "tell", desc := "(II)I" } : MethodName) prog_14_method_78_code (3 : Nat) (Option.some FieldType.int)) ∈ ch_GL := ch_c7 159 rfl rfl
theorem kw_1600 : (Cond.methodLink "CellHandoverModel" (195 : Nat) ({ cls := "CellHandoverModel", name := "end", desc := "(I)V" } : MethodName)) ∈ ch_GL := ch_c7 160 rfl rfl
theorem kb_1601 : (Cond.privateMethod ({ cls := "CellHandoverModel", name := "end", desc := "(I)V" } : MethodName)) ∈ lw_tbl := ch_b7 161 rfl
theorem kw_1602 : (Cond.instanceMethod ({ cls := "CellHandoverModel", name := "end", desc := "(I)V" } : MethodName)) ∈ ch_GL := ch_c7 162 rfl rfl
theorem kw_1603 : (Cond.code ({ cls := "CellHandoverModel", name := "end", desc := "(I)V" } : MethodName) prog_14_method_56_code (2 : Nat) (Option.none : Option FieldType)) ∈ ch_GL := ch_c7 163 rfl rfl
theorem kw_1604 : (Cond.methodLink "CellHandoverLaw" (185 : Nat) ({ cls := "CellHandoverModel", name := "run", desc := "(I)I" } : MethodName)) ∈ ch_GL := ch_c7 164 rfl rfl
theorem kw_1605 : (Cond.instanceMethod ({ cls := "CellHandoverModel", name := "run", desc := "(I)I" } : MethodName)) ∈ ch_GL := ch_c7 165 rfl rfl
theorem kw_1606 : (Cond.selects "CellHandoverModel" ({ cls := "CellHandoverModel", name := "run", desc := "(I)I" } : MethodName) ({ cls := "CellHandoverModel", name := "run", desc := "(I)I" } : MethodName)) ∈ ch_GL := ch_c7 166 rfl rfl
theorem kw_1607 : (Cond.code ({ cls := "CellHandoverModel", name := "run", desc := "(I)I" } : MethodName) prog_14_method_73_code (3 : Nat) (Option.some FieldType.int)) ∈ ch_GL := ch_c7 167 rfl rfl
theorem kw_1608 : (Cond.methodLink "CellHandoverModel" (254 : Nat) ({ cls := "CellHandoverModel", name := "canRun", desc := "(II)Z" } : MethodName)) ∈ ch_GL := ch_c7 168 rfl rfl
theorem kb_1609 : (Cond.privateMethod ({ cls := "CellHandoverModel", name := "canRun", desc := "(II)Z" } : MethodName)) ∈ lw_tbl := ch_b7 169 rfl
theorem kw_1610 : (Cond.instanceMethod ({ cls := "CellHandoverModel", name := "canRun", desc := "(II)Z" } : MethodName)) ∈ ch_GL := ch_c7 170 rfl rfl
theorem kw_1611 : (Cond.code ({ cls := "CellHandoverModel", name := "canRun", desc := "(II)Z" } : MethodName) prog_14_method_71_code (3 : Nat) (Option.some FieldType.boolean)) ∈ ch_GL := ch_c7 171 rfl rfl
theorem kw_1612 : (Cond.constant "CellHandoverModel" (250 : Nat) (100000 : Int32)) ∈ ch_GL := ch_c7 172 rfl rfl
theorem kw_1613 : (Cond.methodLink "CellHandoverModel" (257 : Nat) ({ cls := "CellHandoverModel", name := "pass", desc := "(I)V" } : MethodName)) ∈ ch_GL := ch_c7 173 rfl rfl
theorem kb_1614 : (Cond.privateMethod ({ cls := "CellHandoverModel", name := "pass", desc := "(I)V" } : MethodName)) ∈ lw_tbl := ch_b7 174 rfl
theorem kw_1615 : (Cond.instanceMethod ({ cls := "CellHandoverModel", name := "pass", desc := "(I)V" } : MethodName)) ∈ ch_GL := ch_c7 175 rfl rfl
theorem kw_1616 : (Cond.code ({ cls := "CellHandoverModel", name := "pass", desc := "(I)V" } : MethodName) prog_14_method_72_code (3 : Nat) (Option.none : Option FieldType)) ∈ ch_GL := ch_c7 176 rfl rfl
theorem kw_1617 : (Cond.methodLink "CellHandoverModel" (251 : Nat) ({ cls := "CellHandoverModel", name := "passTick", desc := "()V" } : MethodName)) ∈ ch_GL := ch_c7 177 rfl rfl
theorem kb_1618 : (Cond.privateMethod ({ cls := "CellHandoverModel", name := "passTick", desc := "()V" } : MethodName)) ∈ lw_tbl := ch_b7 178 rfl
theorem kw_1619 : (Cond.instanceMethod ({ cls := "CellHandoverModel", name := "passTick", desc := "()V" } : MethodName)) ∈ ch_GL := ch_c7 179 rfl rfl
theorem kw_1620 : (Cond.code ({ cls := "CellHandoverModel", name := "passTick", desc := "()V" } : MethodName) prog_14_method_70_code (3 : Nat) (Option.none : Option FieldType)) ∈ ch_GL := ch_c7 180 rfl rfl
theorem kw_1621 : (Cond.methodLink "CellHandoverModel" (229 : Nat) ({ cls := "CellHandoverModel", name := "moved", desc := "(II)I" } : MethodName)) ∈ ch_GL := ch_c7 181 rfl rfl
theorem kw_1622 : (Cond.static ({ cls := "CellHandoverModel", name := "moved", desc := "(II)I" } : MethodName)) ∈ ch_GL := ch_c7 182 rfl rfl
theorem kw_1623 : (Cond.code ({ cls := "CellHandoverModel", name := "moved", desc := "(II)I" } : MethodName) prog_14_method_65_code (2 : Nat) (Option.some FieldType.int)) ∈ ch_GL := ch_c7 183 rfl rfl
theorem kw_1624 : (Cond.methodLink "CellHandoverModel" (223 : Nat) ({ cls := "java/lang/Math", name := "min", desc := "(II)I" } : MethodName)) ∈ ch_GL := ch_c7 184 rfl rfl
theorem kw_1625 : (Cond.methodLink "CellHandoverModel" (232 : Nat) ({ cls := "CellHandoverModel", name := "measure", desc := "(I)V" } : MethodName)) ∈ ch_GL := ch_c7 185 rfl rfl
theorem kb_1626 : (Cond.privateMethod ({ cls := "CellHandoverModel", name := "measure", desc := "(I)V" } : MethodName)) ∈ lw_tbl := ch_b7 186 rfl
theorem kw_1627 : (Cond.instanceMethod ({ cls := "CellHandoverModel", name := "measure", desc := "(I)V" } : MethodName)) ∈ ch_GL := ch_c7 187 rfl rfl
theorem kw_1628 : (Cond.code ({ cls := "CellHandoverModel", name := "measure", desc := "(I)V" } : MethodName) prog_14_method_53_code (4 : Nat) (Option.none : Option FieldType)) ∈ ch_GL := ch_c7 188 rfl rfl
theorem kw_1629 : (Cond.methodLink "CellHandoverModel" (160 : Nat) ({ cls := "CellHandoverModel", name := "report", desc := "(III)V" } : MethodName)) ∈ ch_GL := ch_c7 189 rfl rfl
theorem kb_1630 : (Cond.privateMethod ({ cls := "CellHandoverModel", name := "report", desc := "(III)V" } : MethodName)) ∈ lw_tbl := ch_b7 190 rfl
theorem kw_1631 : (Cond.instanceMethod ({ cls := "CellHandoverModel", name := "report", desc := "(III)V" } : MethodName)) ∈ ch_GL := ch_c7 191 rfl rfl
theorem kw_1632 : (Cond.code ({ cls := "CellHandoverModel", name := "report", desc := "(III)V" } : MethodName) prog_14_method_52_code (6 : Nat) (Option.none : Option FieldType)) ∈ ch_GL := ch_c7 192 rfl rfl
theorem kw_1633 : (Cond.methodLink "CellHandoverModel" (154 : Nat) ({ cls := "CellHandoverModel", name := "reportsOf", desc := "(II)I" } : MethodName)) ∈ ch_GL := ch_c7 193 rfl rfl
theorem kb_1634 : (Cond.privateMethod ({ cls := "CellHandoverModel", name := "reportsOf", desc := "(II)I" } : MethodName)) ∈ lw_tbl := ch_b7 194 rfl
theorem kw_1635 : (Cond.instanceMethod ({ cls := "CellHandoverModel", name := "reportsOf", desc := "(II)I" } : MethodName)) ∈ ch_GL := ch_c7 195 rfl rfl
theorem kw_1636 : (Cond.code ({ cls := "CellHandoverModel", name := "reportsOf", desc := "(II)I" } : MethodName) prog_14_method_50_code (3 : Nat) (Option.some FieldType.int)) ∈ ch_GL := ch_c7 196 rfl rfl
theorem kw_1637 : (Cond.methodLink "CellHandoverModel" (235 : Nat) ({ cls := "CellHandoverModel", name := "finish", desc := "(I)V" } : MethodName)) ∈ ch_GL := ch_c7 197 rfl rfl
theorem kb_1638 : (Cond.privateMethod ({ cls := "CellHandoverModel", name := "finish", desc := "(I)V" } : MethodName)) ∈ lw_tbl := ch_b7 198 rfl
theorem kw_1639 : (Cond.instanceMethod ({ cls := "CellHandoverModel", name := "finish", desc := "(I)V" } : MethodName)) ∈ ch_GL := ch_c7 199 rfl rfl
theorem kw_1640 : (Cond.code ({ cls := "CellHandoverModel", name := "finish", desc := "(I)V" } : MethodName) prog_14_method_66_code (2 : Nat) (Option.none : Option FieldType)) ∈ ch_GL := ch_c7 200 rfl rfl
theorem kw_1641 : (Cond.methodLink "CellHandoverModel" (238 : Nat) ({ cls := "CellHandoverModel", name := "checkDrop", desc := "(I)V" } : MethodName)) ∈ ch_GL := ch_c7 201 rfl rfl
theorem kb_1642 : (Cond.privateMethod ({ cls := "CellHandoverModel", name := "checkDrop", desc := "(I)V" } : MethodName)) ∈ lw_tbl := ch_b7 202 rfl
theorem kw_1643 : (Cond.instanceMethod ({ cls := "CellHandoverModel", name := "checkDrop", desc := "(I)V" } : MethodName)) ∈ ch_GL := ch_c7 203 rfl rfl
theorem kw_1644 : (Cond.code ({ cls := "CellHandoverModel", name := "checkDrop", desc := "(I)V" } : MethodName) prog_14_method_67_code (3 : Nat) (Option.none : Option FieldType)) ∈ ch_GL := ch_c7 204 rfl rfl
theorem kw_1645 : (Cond.methodLink "CellHandoverModel" (204 : Nat) ({ cls := "CellHandoverModel", name := "averageOf", desc := "(II)I" } : MethodName)) ∈ ch_GL := ch_c7 205 rfl rfl
theorem kb_1646 : (Cond.privateMethod ({ cls := "CellHandoverModel", name := "averageOf", desc := "(II)I" } : MethodName)) ∈ lw_tbl := ch_b7 206 rfl
theorem kw_1647 : (Cond.instanceMethod ({ cls := "CellHandoverModel", name := "averageOf", desc := "(II)I" } : MethodName)) ∈ ch_GL := ch_c7 207 rfl rfl
theorem kw_1648 : (Cond.code ({ cls := "CellHandoverModel", name := "averageOf", desc := "(II)I" } : MethodName) prog_14_method_51_code (6 : Nat) (Option.some FieldType.int)) ∈ ch_GL := ch_c7 208 rfl rfl
theorem kw_1649 : (Cond.methodLink "CellHandoverModel" (241 : Nat) ({ cls := "CellHandoverModel", name := "serve", desc := "(I)V" } : MethodName)) ∈ ch_GL := ch_c7 209 rfl rfl
theorem kb_1650 : (Cond.privateMethod ({ cls := "CellHandoverModel", name := "serve", desc := "(I)V" } : MethodName)) ∈ lw_tbl := ch_b7 210 rfl
theorem kw_1651 : (Cond.instanceMethod ({ cls := "CellHandoverModel", name := "serve", desc := "(I)V" } : MethodName)) ∈ ch_GL := ch_c7 211 rfl rfl
theorem kw_1652 : (Cond.code ({ cls := "CellHandoverModel", name := "serve", desc := "(I)V" } : MethodName) prog_14_method_68_code (3 : Nat) (Option.none : Option FieldType)) ∈ ch_GL := ch_c7 212 rfl rfl
theorem kw_1653 : (Cond.methodLink "CellHandoverModel" (220 : Nat) ({ cls := "CellHandoverModel", name := "handOver", desc := "(II)V" } : MethodName)) ∈ ch_GL := ch_c7 213 rfl rfl
theorem kb_1654 : (Cond.privateMethod ({ cls := "CellHandoverModel", name := "handOver", desc := "(II)V" } : MethodName)) ∈ lw_tbl := ch_b7 214 rfl
theorem kw_1655 : (Cond.instanceMethod ({ cls := "CellHandoverModel", name := "handOver", desc := "(II)V" } : MethodName)) ∈ ch_GL := ch_c7 215 rfl rfl
theorem kw_1656 : (Cond.code ({ cls := "CellHandoverModel", name := "handOver", desc := "(II)V" } : MethodName) prog_14_method_60_code (4 : Nat) (Option.none : Option FieldType)) ∈ ch_GL := ch_c7 216 rfl rfl
theorem kw_1657 : (Cond.methodLink "CellHandoverModel" (198 : Nat) ({ cls := "CellHandoverModel", name := "isBarredNow", desc := "(II)Z" } : MethodName)) ∈ ch_GL := ch_c7 217 rfl rfl
theorem kb_1658 : (Cond.privateMethod ({ cls := "CellHandoverModel", name := "isBarredNow", desc := "(II)Z" } : MethodName)) ∈ lw_tbl := ch_b7 218 rfl
theorem kw_1659 : (Cond.instanceMethod ({ cls := "CellHandoverModel", name := "isBarredNow", desc := "(II)Z" } : MethodName)) ∈ ch_GL := ch_c7 219 rfl rfl
theorem kw_1660 : (Cond.code ({ cls := "CellHandoverModel", name := "isBarredNow", desc := "(II)Z" } : MethodName) prog_14_method_54_code (3 : Nat) (Option.some FieldType.boolean)) ∈ ch_GL := ch_c7 220 rfl rfl
theorem kw_1661 : (Cond.methodLink "CellHandoverModel" (201 : Nat) ({ cls := "CellHandoverModel", name := "addToRelation", desc := "(II)V" } : MethodName)) ∈ ch_GL := ch_c7 221 rfl rfl
theorem kb_1662 : (Cond.privateMethod ({ cls := "CellHandoverModel", name := "addToRelation", desc := "(II)V" } : MethodName)) ∈ lw_tbl := ch_b7 222 rfl
theorem kw_1663 : (Cond.instanceMethod ({ cls := "CellHandoverModel", name := "addToRelation", desc := "(II)V" } : MethodName)) ∈ ch_GL := ch_c7 223 rfl rfl
theorem kw_1664 : (Cond.code ({ cls := "CellHandoverModel", name := "addToRelation", desc := "(II)V" } : MethodName) prog_14_method_8_code (3 : Nat) (Option.none : Option FieldType)) ∈ ch_GL := ch_c7 224 rfl rfl
theorem kw_1665 : (Cond.methodLink "CellHandoverModel" (226 : Nat) ({ cls := "CellHandoverModel", name := "hasRequest", desc := "(I)Z" } : MethodName)) ∈ ch_GL := ch_c7 225 rfl rfl
theorem kb_1666 : (Cond.privateMethod ({ cls := "CellHandoverModel", name := "hasRequest", desc := "(I)Z" } : MethodName)) ∈ lw_tbl := ch_b7 226 rfl
theorem kw_1667 : (Cond.instanceMethod ({ cls := "CellHandoverModel", name := "hasRequest", desc := "(I)Z" } : MethodName)) ∈ ch_GL := ch_c7 227 rfl rfl
theorem kw_1668 : (Cond.code ({ cls := "CellHandoverModel", name := "hasRequest", desc := "(I)Z" } : MethodName) prog_14_method_14_code (2 : Nat) (Option.some FieldType.boolean)) ∈ ch_GL := ch_c7 228 rfl rfl
theorem kw_1669 : (Cond.methodLink "CellHandoverModel" (244 : Nat) ({ cls := "CellHandoverModel", name := "consider", desc := "(I)V" } : MethodName)) ∈ ch_GL := ch_c7 229 rfl rfl
theorem kb_1670 : (Cond.privateMethod ({ cls := "CellHandoverModel", name := "consider", desc := "(I)V" } : MethodName)) ∈ lw_tbl := ch_b7 230 rfl
theorem kw_1671 : (Cond.instanceMethod ({ cls := "CellHandoverModel", name := "consider", desc := "(I)V" } : MethodName)) ∈ ch_GL := ch_c7 231 rfl rfl
theorem kw_1672 : (Cond.code ({ cls := "CellHandoverModel", name := "consider", desc := "(I)V" } : MethodName) prog_14_method_64_code (4 : Nat) (Option.none : Option FieldType)) ∈ ch_GL := ch_c7 232 rfl rfl
theorem kw_1673 : (Cond.methodLink "CellHandoverModel" (217 : Nat) ({ cls := "CellHandoverModel", name := "rank", desc := "(I)V" } : MethodName)) ∈ ch_GL := ch_c7 233 rfl rfl
theorem kb_1674 : (Cond.privateMethod ({ cls := "CellHandoverModel", name := "rank", desc := "(I)V" } : MethodName)) ∈ lw_tbl := ch_b7 234 rfl
theorem kw_1675 : (Cond.instanceMethod ({ cls := "CellHandoverModel", name := "rank", desc := "(I)V" } : MethodName)) ∈ ch_GL := ch_c7 235 rfl rfl
theorem kw_1676 : (Cond.code ({ cls := "CellHandoverModel", name := "rank", desc := "(I)V" } : MethodName) prog_14_method_63_code (5 : Nat) (Option.none : Option FieldType)) ∈ ch_GL := ch_c7 236 rfl rfl
theorem kw_1677 : (Cond.methodLink "CellHandoverModel" (210 : Nat) ({ cls := "CellHandoverModel", name := "isEmergency", desc := "(I)Z" } : MethodName)) ∈ ch_GL := ch_c7 237 rfl rfl
theorem kb_1678 : (Cond.privateMethod ({ cls := "CellHandoverModel", name := "isEmergency", desc := "(I)Z" } : MethodName)) ∈ lw_tbl := ch_b7 238 rfl
theorem kw_1679 : (Cond.instanceMethod ({ cls := "CellHandoverModel", name := "isEmergency", desc := "(I)Z" } : MethodName)) ∈ ch_GL := ch_c7 239 rfl rfl
theorem kw_1680 : (Cond.code ({ cls := "CellHandoverModel", name := "isEmergency", desc := "(I)Z" } : MethodName) prog_14_method_61_code (3 : Nat) (Option.some FieldType.boolean)) ∈ ch_GL := ch_c8 0 rfl rfl
theorem kw_1681 : (Cond.methodLink "CellHandoverModel" (213 : Nat) ({ cls := "CellHandoverModel", name := "marginOf", desc := "(IIZ)I" } : MethodName)) ∈ ch_GL := ch_c8 1 rfl rfl
theorem kb_1682 : (Cond.privateMethod ({ cls := "CellHandoverModel", name := "marginOf", desc := "(IIZ)I" } : MethodName)) ∈ lw_tbl := ch_b8 2 rfl
theorem kw_1683 : (Cond.instanceMethod ({ cls := "CellHandoverModel", name := "marginOf", desc := "(IIZ)I" } : MethodName)) ∈ ch_GL := ch_c8 3 rfl rfl
theorem kw_1684 : (Cond.code ({ cls := "CellHandoverModel", name := "marginOf", desc := "(IIZ)I" } : MethodName) prog_14_method_62_code (7 : Nat) (Option.some FieldType.int)) ∈ ch_GL := ch_c8 4 rfl rfl
theorem kw_1685 : (Cond.methodLink "CellHandoverModel" (247 : Nat) ({ cls := "CellHandoverModel", name := "expire", desc := "(I)V" } : MethodName)) ∈ ch_GL := ch_c8 5 rfl rfl
theorem kb_1686 : (Cond.privateMethod ({ cls := "CellHandoverModel", name := "expire", desc := "(I)V" } : MethodName)) ∈ lw_tbl := ch_b8 6 rfl
theorem kw_1687 : (Cond.instanceMethod ({ cls := "CellHandoverModel", name := "expire", desc := "(I)V" } : MethodName)) ∈ ch_GL := ch_c8 7 rfl rfl
theorem kw_1688 : (Cond.code ({ cls := "CellHandoverModel", name := "expire", desc := "(I)V" } : MethodName) prog_14_method_69_code (2 : Nat) (Option.none : Option FieldType)) ∈ ch_GL := ch_c8 8 rfl rfl
theorem kw_1689 : (Cond.methodLink "CellHandoverLaw" (170 : Nat) ({ cls := "CellHandoverModel", name := "addMobile", desc := "(IIII)I" } : MethodName)) ∈ ch_GL := ch_c8 9 rfl rfl
theorem kw_1690 : (Cond.instanceMethod ({ cls := "CellHandoverModel", name := "addMobile", desc := "(IIII)I" } : MethodName)) ∈ ch_GL := ch_c8 10 rfl rfl
theorem kw_1691 : (Cond.selects "CellHandoverModel" ({ cls := "CellHandoverModel", name := "addMobile", desc := "(IIII)I" } : MethodName) ({ cls := "CellHandoverModel", name := "addMobile", desc := "(IIII)I" } : MethodName)) ∈ ch_GL := ch_c8 11 rfl rfl
theorem kw_1692 : (Cond.code ({ cls := "CellHandoverModel", name := "addMobile", desc := "(IIII)I" } : MethodName) prog_14_method_75_code (7 : Nat) (Option.some FieldType.int)) ∈ ch_GL := ch_c8 12 rfl rfl
theorem kw_1693 : (Cond.methodLink "CellHandoverModel" (260 : Nat) ({ cls := "CellHandoverModel", name := "isSpeed", desc := "(I)Z" } : MethodName)) ∈ ch_GL := ch_c8 13 rfl rfl
theorem kw_1694 : (Cond.static ({ cls := "CellHandoverModel", name := "isSpeed", desc := "(I)Z" } : MethodName)) ∈ ch_GL := ch_c8 14 rfl rfl
theorem kw_1695 : (Cond.code ({ cls := "CellHandoverModel", name := "isSpeed", desc := "(I)Z" } : MethodName) prog_14_method_74_code (1 : Nat) (Option.some FieldType.boolean)) ∈ ch_GL := ch_c8 15 rfl rfl
theorem kw_1696 : (Cond.methodLink "CellHandoverLaw" (173 : Nat) ({ cls := "CellHandoverModel", name := "setVelocity", desc := "(III)I" } : MethodName)) ∈ ch_GL := ch_c8 16 rfl rfl
theorem kw_1697 : (Cond.instanceMethod ({ cls := "CellHandoverModel", name := "setVelocity", desc := "(III)I" } : MethodName)) ∈ ch_GL := ch_c8 17 rfl rfl
theorem kw_1698 : (Cond.selects "CellHandoverModel" ({ cls := "CellHandoverModel", name := "setVelocity", desc := "(III)I" } : MethodName) ({ cls := "CellHandoverModel", name := "setVelocity", desc := "(III)I" } : MethodName)) ∈ ch_GL := ch_c8 18 rfl rfl
theorem kw_1699 : (Cond.code ({ cls := "CellHandoverModel", name := "setVelocity", desc := "(III)I" } : MethodName) prog_14_method_76_code (5 : Nat) (Option.some FieldType.int)) ∈ ch_GL := ch_c8 19 rfl rfl
theorem kw_1700 : (Cond.methodLink "CellHandoverLaw" (182 : Nat) ({ cls := "CellHandoverModel", name := "setHysteresis", desc := "(III)I" } : MethodName)) ∈ ch_GL := ch_c8 20 rfl rfl
theorem kw_1701 : (Cond.instanceMethod ({ cls := "CellHandoverModel", name := "setHysteresis", desc := "(III)I" } : MethodName)) ∈ ch_GL := ch_c8 21 rfl rfl
theorem kw_1702 : (Cond.selects "CellHandoverModel" ({ cls := "CellHandoverModel", name := "setHysteresis", desc := "(III)I" } : MethodName) ({ cls := "CellHandoverModel", name := "setHysteresis", desc := "(III)I" } : MethodName)) ∈ ch_GL := ch_c8 22 rfl rfl
theorem kw_1703 : (Cond.code ({ cls := "CellHandoverModel", name := "setHysteresis", desc := "(III)I" } : MethodName) prog_14_method_77_code (5 : Nat) (Option.some FieldType.int)) ∈ ch_GL := ch_c8 23 rfl rfl
theorem kw_1704 : (Cond.methodLink "CellHandoverLaw" (188 : Nat) ({ cls := "CellHandoverModel", name := "x", desc := "(I)I" } : MethodName)) ∈ ch_GL := ch_c8 24 rfl rfl
theorem kw_1705 : (Cond.instanceMethod ({ cls := "CellHandoverModel", name := "x", desc := "(I)I" } : MethodName)) ∈ ch_GL := ch_c8 25 rfl rfl
theorem kw_1706 : (Cond.selects "CellHandoverModel" ({ cls := "CellHandoverModel", name := "x", desc := "(I)I" } : MethodName) ({ cls := "CellHandoverModel", name := "x", desc := "(I)I" } : MethodName)) ∈ ch_GL := ch_c8 26 rfl rfl
theorem kw_1707 : (Cond.code ({ cls := "CellHandoverModel", name := "x", desc := "(I)I" } : MethodName) prog_14_method_79_code (2 : Nat) (Option.some FieldType.int)) ∈ ch_GL := ch_c8 27 rfl rfl
theorem kw_1708 : (Cond.methodLink "CellHandoverLaw" (191 : Nat) ({ cls := "CellHandoverModel", name := "y", desc := "(I)I" } : MethodName)) ∈ ch_GL := ch_c8 28 rfl rfl
theorem kw_1709 : (Cond.instanceMethod ({ cls := "CellHandoverModel", name := "y", desc := "(I)I" } : MethodName)) ∈ ch_GL := ch_c8 29 rfl rfl
theorem kw_1710 : (Cond.selects "CellHandoverModel" ({ cls := "CellHandoverModel", name := "y", desc := "(I)I" } : MethodName) ({ cls := "CellHandoverModel", name := "y", desc := "(I)I" } : MethodName)) ∈ ch_GL := ch_c8 30 rfl rfl
theorem kw_1711 : (Cond.code ({ cls := "CellHandoverModel", name := "y", desc := "(I)I" } : MethodName) prog_14_method_80_code (2 : Nat) (Option.some FieldType.int)) ∈ ch_GL := ch_c8 31 rfl rfl
theorem kw_1712 : (Cond.methodLink "CellHandoverLaw" (194 : Nat) ({ cls := "CellHandoverModel", name := "state", desc := "(I)I" } : MethodName)) ∈ ch_GL := ch_c8 32 rfl rfl
theorem kw_1713 : (Cond.instanceMethod ({ cls := "CellHandoverModel", name := "state", desc := "(I)I" } : MethodName)) ∈ ch_GL := ch_c8 33 rfl rfl
theorem kw_1714 : (Cond.selects "CellHandoverModel" ({ cls := "CellHandoverModel", name := "state", desc := "(I)I" } : MethodName) ({ cls := "CellHandoverModel", name := "state", desc := "(I)I" } : MethodName)) ∈ ch_GL := ch_c8 34 rfl rfl
theorem kw_1715 : (Cond.code ({ cls := "CellHandoverModel", name := "state", desc := "(I)I" } : MethodName) prog_14_method_81_code (2 : Nat) (Option.some FieldType.int)) ∈ ch_GL := ch_c8 35 rfl rfl
theorem kw_1716 : (Cond.methodLink "CellHandoverLaw" (197 : Nat) ({ cls := "CellHandoverModel", name := "servingCell", desc := "(I)I" } : MethodName)) ∈ ch_GL := ch_c8 36 rfl rfl
theorem kw_1717 : (Cond.instanceMethod ({ cls := "CellHandoverModel", name := "servingCell", desc := "(I)I" } : MethodName)) ∈ ch_GL := ch_c8 37 rfl rfl
theorem kw_1718 : (Cond.selects "CellHandoverModel" ({ cls := "CellHandoverModel", name := "servingCell", desc := "(I)I" } : MethodName) ({ cls := "CellHandoverModel", name := "servingCell", desc := "(I)I" } : MethodName)) ∈ ch_GL := ch_c8 38 rfl rfl
theorem kw_1719 : (Cond.code ({ cls := "CellHandoverModel", name := "servingCell", desc := "(I)I" } : MethodName) prog_14_method_82_code (2 : Nat) (Option.some FieldType.int)) ∈ ch_GL := ch_c8 39 rfl rfl
theorem kw_1720 : (Cond.methodLink "CellHandoverLaw" (200 : Nat) ({ cls := "CellHandoverModel", name := "remaining", desc := "(I)I" } : MethodName)) ∈ ch_GL := ch_c8 40 rfl rfl
theorem kw_1721 : (Cond.instanceMethod ({ cls := "CellHandoverModel", name := "remaining", desc := "(I)I" } : MethodName)) ∈ ch_GL := ch_c8 41 rfl rfl
theorem kw_1722 : (Cond.selects "CellHandoverModel" ({ cls := "CellHandoverModel", name := "remaining", desc := "(I)I" } : MethodName) ({ cls := "CellHandoverModel", name := "remaining", desc := "(I)I" } : MethodName)) ∈ ch_GL := ch_c8 42 rfl rfl
theorem kw_1723 : (Cond.code ({ cls := "CellHandoverModel", name := "remaining", desc := "(I)I" } : MethodName) prog_14_method_83_code (2 : Nat) (Option.some FieldType.int)) ∈ ch_GL := ch_c8 43 rfl rfl
theorem kw_1724 : (Cond.methodLink "CellHandoverLaw" (203 : Nat) ({ cls := "CellHandoverModel", name := "requestCell", desc := "(I)I" } : MethodName)) ∈ ch_GL := ch_c8 44 rfl rfl
theorem kw_1725 : (Cond.instanceMethod ({ cls := "CellHandoverModel", name := "requestCell", desc := "(I)I" } : MethodName)) ∈ ch_GL := ch_c8 45 rfl rfl
theorem kw_1726 : (Cond.selects "CellHandoverModel" ({ cls := "CellHandoverModel", name := "requestCell", desc := "(I)I" } : MethodName) ({ cls := "CellHandoverModel", name := "requestCell", desc := "(I)I" } : MethodName)) ∈ ch_GL := ch_c8 46 rfl rfl
theorem kw_1727 : (Cond.code ({ cls := "CellHandoverModel", name := "requestCell", desc := "(I)I" } : MethodName) prog_14_method_84_code (2 : Nat) (Option.some FieldType.int)) ∈ ch_GL := ch_c8 47 rfl rfl
theorem kw_1728 : (Cond.methodLink "CellHandoverLaw" (206 : Nat) ({ cls := "CellHandoverModel", name := "average", desc := "(II)I" } : MethodName)) ∈ ch_GL := ch_c8 48 rfl rfl
theorem kw_1729 : (Cond.instanceMethod ({ cls := "CellHandoverModel", name := "average", desc := "(II)I" } : MethodName)) ∈ ch_GL := ch_c8 49 rfl rfl
theorem kw_1730 : (Cond.selects "CellHandoverModel" ({ cls := "CellHandoverModel", name := "average", desc := "(II)I" } : MethodName) ({ cls := "CellHandoverModel", name := "average", desc := "(II)I" } : MethodName)) ∈ ch_GL := ch_c8 50 rfl rfl
theorem kw_1731 : (Cond.code ({ cls := "CellHandoverModel", name := "average", desc := "(II)I" } : MethodName) prog_14_method_86_code (3 : Nat) (Option.some FieldType.int)) ∈ ch_GL := ch_c8 51 rfl rfl
theorem kw_1732 : (Cond.methodLink "CellHandoverModel" (263 : Nat) ({ cls := "CellHandoverModel", name := "arePair", desc := "(II)Z" } : MethodName)) ∈ ch_GL := ch_c8 52 rfl rfl
theorem kb_1733 : (Cond.privateMethod ({ cls := "CellHandoverModel", name := "arePair", desc := "(II)Z" } : MethodName)) ∈ lw_tbl := ch_b8 53 rfl
theorem kw_1734 : (Cond.instanceMethod ({ cls := "CellHandoverModel", name := "arePair", desc := "(II)Z" } : MethodName)) ∈ ch_GL := ch_c8 54 rfl rfl
theorem kw_1735 : (Cond.code ({ cls := "CellHandoverModel", name := "arePair", desc := "(II)Z" } : MethodName) prog_14_method_85_code (3 : Nat) (Option.some FieldType.boolean)) ∈ ch_GL := ch_c8 55 rfl rfl
theorem kw_1736 : (Cond.methodLink "CellHandoverLaw" (209 : Nat) ({ cls := "CellHandoverModel", name := "reportCount", desc := "(II)I" } : MethodName)) ∈ ch_GL := ch_c8 56 rfl rfl
theorem kw_1737 : (Cond.instanceMethod ({ cls := "CellHandoverModel", name := "reportCount", desc := "(II)I" } : MethodName)) ∈ ch_GL := ch_c8 57 rfl rfl
theorem kw_1738 : (Cond.selects "CellHandoverModel" ({ cls := "CellHandoverModel", name := "reportCount", desc := "(II)I" } : MethodName) ({ cls := "CellHandoverModel", name := "reportCount", desc := "(II)I" } : MethodName)) ∈ ch_GL := ch_c8 58 rfl rfl
theorem kw_1739 : (Cond.code ({ cls := "CellHandoverModel", name := "reportCount", desc := "(II)I" } : MethodName) prog_14_method_87_code (3 : Nat) (Option.some FieldType.int)) ∈ ch_GL := ch_c8 59 rfl rfl
theorem kw_1740 : (Cond.methodLink "CellHandoverLaw" (212 : Nat) ({ cls := "CellHandoverModel", name := "isBarred", desc := "(II)Z" } : MethodName)) ∈ ch_GL := ch_c8 60 rfl rfl
theorem kw_1741 : (Cond.instanceMethod ({ cls := "CellHandoverModel", name := "isBarred", desc := "(II)Z" } : MethodName)) ∈ ch_GL := ch_c8 61 rfl rfl
theorem kw_1742 : (Cond.selects "CellHandoverModel" ({ cls := "CellHandoverModel", name := "isBarred", desc := "(II)Z" } : MethodName) ({ cls := "CellHandoverModel", name := "isBarred", desc := "(II)Z" } : MethodName)) ∈ ch_GL := ch_c8 62 rfl rfl
theorem kw_1743 : (Cond.code ({ cls := "CellHandoverModel", name := "isBarred", desc := "(II)Z" } : MethodName) prog_14_method_88_code (3 : Nat) (Option.some FieldType.boolean)) ∈ ch_GL := ch_c8 63 rfl rfl
theorem kw_1744 : (Cond.methodLink "CellHandoverLaw" (215 : Nat) ({ cls := "CellHandoverModel", name := "candidate", desc := "(II)I" } : MethodName)) ∈ ch_GL := ch_c8 64 rfl rfl
theorem kw_1745 : (Cond.instanceMethod ({ cls := "CellHandoverModel", name := "candidate", desc := "(II)I" } : MethodName)) ∈ ch_GL := ch_c8 65 rfl rfl
theorem kw_1746 : (Cond.selects "CellHandoverModel" ({ cls := "CellHandoverModel", name := "candidate", desc := "(II)I" } : MethodName) ({ cls := "CellHandoverModel", name := "candidate", desc := "(II)I" } : MethodName)) ∈ ch_GL := ch_c8 66 rfl rfl
theorem kw_1747 : (Cond.code ({ cls := "CellHandoverModel", name := "candidate", desc := "(II)I" } : MethodName) prog_14_method_89_code (3 : Nat) (Option.some FieldType.int)) ∈ ch_GL := ch_c8 67 rfl rfl
theorem kw_1748 : (Cond.methodLink "CellHandoverLaw" (240 : Nat) ({ cls := "CellHandoverModel", name := "forecastCell", desc := "(II)I" } : MethodName)) ∈ ch_GL := ch_c8 68 rfl rfl
theorem kw_1749 : (Cond.instanceMethod ({ cls := "CellHandoverModel", name := "forecastCell", desc := "(II)I" } : MethodName)) ∈ ch_GL := ch_c8 69 rfl rfl
theorem kw_1750 : (Cond.selects "CellHandoverModel" ({ cls := "CellHandoverModel", name := "forecastCell", desc := "(II)I" } : MethodName) ({ cls := "CellHandoverModel", name := "forecastCell", desc := "(II)I" } : MethodName)) ∈ ch_GL := ch_c8 70 rfl rfl
theorem kw_1751 : (Cond.code ({ cls := "CellHandoverModel", name := "forecastCell", desc := "(II)I" } : MethodName) prog_14_method_90_code (4 : Nat) (Option.some FieldType.int)) ∈ ch_GL := ch_c8 71 rfl rfl
theorem kw_1752 : (Cond.methodLink "CellHandoverLaw" (243 : Nat) ({ cls := "CellHandoverModel", name := "bestHysteresis", desc := "(III)I" } : MethodName)) ∈ ch_GL := ch_c8 72 rfl rfl
theorem kw_1753 : (Cond.instanceMethod ({ cls := "CellHandoverModel", name := "bestHysteresis", desc := "(III)I" } : MethodName)) ∈ ch_GL := ch_c8 73 rfl rfl
theorem kw_1754 : (Cond.selects "CellHandoverModel" ({ cls := "CellHandoverModel", name := "bestHysteresis", desc := "(III)I" } : MethodName) ({ cls := "CellHandoverModel", name := "bestHysteresis", desc := "(III)I" } : MethodName)) ∈ ch_GL := ch_c8 74 rfl rfl
theorem kw_1755 : (Cond.code ({ cls := "CellHandoverModel", name := "bestHysteresis", desc := "(III)I" } : MethodName) prog_14_method_91_code (11 : Nat) (Option.some FieldType.int)) ∈ ch_GL := ch_c8 75 rfl rfl
theorem kw_1756 : (Cond.methodLink "CellHandoverLaw" (247 : Nat) ({ cls := "CellHandoverModel", name := "undoCount", desc := "()I" } : MethodName)) ∈ ch_GL := ch_c8 76 rfl rfl
theorem kw_1757 : (Cond.instanceMethod ({ cls := "CellHandoverModel", name := "undoCount", desc := "()I" } : MethodName)) ∈ ch_GL := ch_c8 77 rfl rfl
theorem kw_1758 : (Cond.selects "CellHandoverModel" ({ cls := "CellHandoverModel", name := "undoCount", desc := "()I" } : MethodName) ({ cls := "CellHandoverModel", name := "undoCount", desc := "()I" } : MethodName)) ∈ ch_GL := ch_c8 78 rfl rfl
theorem kw_1759 : (Cond.code ({ cls := "CellHandoverModel", name := "undoCount", desc := "()I" } : MethodName) prog_14_method_94_code (1 : Nat) (Option.some FieldType.int)) ∈ ch_GL := ch_c8 79 rfl rfl
theorem kw_1760 : (Cond.methodLink "CellHandoverLaw" (251 : Nat) ({ cls := "CellHandoverModel", name := "undo", desc := "()I" } : MethodName)) ∈ ch_GL := ch_c8 80 rfl rfl
theorem kw_1761 : (Cond.instanceMethod ({ cls := "CellHandoverModel", name := "undo", desc := "()I" } : MethodName)) ∈ ch_GL := ch_c8 81 rfl rfl
theorem kw_1762 : (Cond.selects "CellHandoverModel" ({ cls := "CellHandoverModel", name := "undo", desc := "()I" } : MethodName) ({ cls := "CellHandoverModel", name := "undo", desc := "()I" } : MethodName)) ∈ ch_GL := ch_c8 82 rfl rfl
theorem kw_1763 : (Cond.code ({ cls := "CellHandoverModel", name := "undo", desc := "()I" } : MethodName) prog_14_method_95_code (1 : Nat) (Option.some FieldType.int)) ∈ ch_GL := ch_c8 83 rfl rfl
theorem kw_1764 : (Cond.methodLink "CellHandoverLaw" (255 : Nat) ({ cls := "CellHandoverModel", name := "saveSnapshot", desc := "()V" } : MethodName)) ∈ ch_GL := ch_c8 84 rfl rfl
theorem kw_1765 : (Cond.instanceMethod ({ cls := "CellHandoverModel", name := "saveSnapshot", desc := "()V" } : MethodName)) ∈ ch_GL := ch_c8 85 rfl rfl
theorem kw_1766 : (Cond.selects "CellHandoverModel" ({ cls := "CellHandoverModel", name := "saveSnapshot", desc := "()V" } : MethodName) ({ cls := "CellHandoverModel", name := "saveSnapshot", desc := "()V" } : MethodName)) ∈ ch_GL := ch_c8 86 rfl rfl
theorem kw_1767 : (Cond.code ({ cls := "CellHandoverModel", name := "saveSnapshot", desc := "()V" } : MethodName) prog_14_method_96_code (1 : Nat) (Option.none : Option FieldType)) ∈ ch_GL := ch_c8 87 rfl rfl
theorem kw_1768 : (Cond.methodLink "CellHandoverLaw" (260 : Nat) ({ cls := "CellHandoverModel", name := "restoreSnapshot", desc := "()Z" } : MethodName)) ∈ ch_GL := ch_c8 88 rfl rfl
theorem kw_1769 : (Cond.instanceMethod ({ cls := "CellHandoverModel", name := "restoreSnapshot", desc := "()Z" } : MethodName)) ∈ ch_GL := ch_c8 89 rfl rfl
theorem kw_1770 : (Cond.selects "CellHandoverModel" ({ cls := "CellHandoverModel", name := "restoreSnapshot", desc := "()Z" } : MethodName) ({ cls := "CellHandoverModel", name := "restoreSnapshot", desc := "()Z" } : MethodName)) ∈ ch_GL := ch_c8 90 rfl rfl
theorem kw_1771 : (Cond.code ({ cls := "CellHandoverModel", name := "restoreSnapshot", desc := "()Z" } : MethodName) prog_14_method_97_code (1 : Nat) (Option.some FieldType.boolean)) ∈ ch_GL := ch_c8 91 rfl rfl
theorem kw_1772 : (Cond.methodLink "CellHandoverLaw" (119 : Nat) ({ cls := "CellHandoverModel", name := "feed", desc := "(IIIII)I" } : MethodName)) ∈ ch_GL := ch_c8 92 rfl rfl
theorem kw_1773 : (Cond.instanceMethod ({ cls := "CellHandoverModel", name := "feed", desc := "(IIIII)I" } : MethodName)) ∈ ch_GL := ch_c8 93 rfl rfl
theorem kw_1774 : (Cond.selects "CellHandoverModel" ({ cls := "CellHandoverModel", name := "feed", desc := "(IIIII)I" } : MethodName) ({ cls := "CellHandoverModel", name := "feed", desc := "(IIIII)I" } : MethodName)) ∈ ch_GL := ch_c8 94 rfl rfl
theorem kw_1775 : (Cond.code ({ cls := "CellHandoverModel", name := "feed", desc := "(IIIII)I" } : MethodName) prog_14_method_98_code (8 : Nat) (Option.some FieldType.int)) ∈ ch_GL := ch_c8 95 rfl rfl
theorem kw_1776 : (Cond.methodLink "CellHandoverLaw" (133 : Nat) ({ cls := "CellHandoverModel", name := "errorPosition", desc := "()I" } : MethodName)) ∈ ch_GL := ch_c8 96 rfl rfl
theorem kw_1777 : (Cond.instanceMethod ({ cls := "CellHandoverModel", name := "errorPosition", desc := "()I" } : MethodName)) ∈ ch_GL := ch_c8 97 rfl rfl
theorem kw_1778 : (Cond.selects "CellHandoverModel" ({ cls := "CellHandoverModel", name := "errorPosition", desc := "()I" } : MethodName) ({ cls := "CellHandoverModel", name := "errorPosition", desc := "()I" } : MethodName)) ∈ ch_GL := ch_c8 98 rfl rfl
theorem kw_1779 : (Cond.code ({ cls := "CellHandoverModel", name := "errorPosition", desc := "()I" } : MethodName) prog_14_method_99_code (1 : Nat) (Option.some FieldType.int)) ∈ ch_GL := ch_c8 99 rfl rfl
theorem kw_1780 : (Cond.methodLink "CellHandoverLaw" (125 : Nat) ({ cls := "CellHandoverModel", name := "load", desc := "(I)I" } : MethodName)) ∈ ch_GL := ch_c8 100 rfl rfl
theorem kw_1781 : (Cond.instanceMethod ({ cls := "CellHandoverModel", name := "load", desc := "(I)I" } : MethodName)) ∈ ch_GL := ch_c8 101 rfl rfl
theorem kw_1782 : (Cond.selects "CellHandoverModel" ({ cls := "CellHandoverModel", name := "load", desc := "(I)I" } : MethodName) ({ cls := "CellHandoverModel", name := "load", desc := "(I)I" } : MethodName)) ∈ ch_GL := ch_c8 102 rfl rfl
theorem kw_1783 : (Cond.code ({ cls := "CellHandoverModel", name := "load", desc := "(I)I" } : MethodName) prog_14_method_121_code (2 : Nat) (Option.some FieldType.int)) ∈ ch_GL := ch_c8 103 rfl rfl
theorem kw_1784 : (Cond.methodLink "CellHandoverModel" (357 : Nat) ({ cls := "CellHandoverModel", name := "start", desc := "(I)V" } : MethodName)) ∈ ch_GL := ch_c8 104 rfl rfl
theorem kb_1785 : (Cond.privateMethod ({ cls := "CellHandoverModel", name := "start", desc := "(I)V" } : MethodName)) ∈ lw_tbl := ch_b8 105 rfl
theorem kw_1786 : (Cond.instanceMethod ({ cls := "CellHandoverModel", name := "start", desc := "(I)V" } : MethodName)) ∈ ch_GL := ch_c8 106 rfl rfl
theorem kw_1787 : (Cond.code ({ cls := "CellHandoverModel", name := "start", desc := "(I)V" } : MethodName) prog_14_method_104_code (2 : Nat) (Option.none : Option FieldType)) ∈ ch_GL := ch_c8 107 rfl rfl
theorem kw_1788 : (Cond.methodLink "CellHandoverModel" (307 : Nat) ({ cls := "CellHandoverModel", name := "scan", desc := "()V" } : MethodName)) ∈ ch_GL := ch_c8 108 rfl rfl
theorem kb_1789 : (Cond.privateMethod ({ cls := "CellHandoverModel", name := "scan", desc := "()V" } : MethodName)) ∈ lw_tbl := ch_b8 109 rfl
theorem kw_1790 : (Cond.instanceMethod ({ cls := "CellHandoverModel", name := "scan", desc := "()V" } : MethodName)) ∈ ch_GL := ch_c8 110 rfl rfl
theorem kw_1791 : (Cond.code ({ cls := "CellHandoverModel", name := "scan", desc := "()V" } : MethodName) prog_14_method_103_code (1 : Nat) (Option.none : Option FieldType)) ∈ ch_GL := ch_c8 111 rfl rfl
theorem kw_1792 : (Cond.methodLink "CellHandoverModel" (283 : Nat) ({ cls := "CellHandoverModel", name := "byteAt", desc := "(I)I" } : MethodName)) ∈ ch_GL := ch_c8 112 rfl rfl
theorem kb_1793 : (Cond.privateMethod ({ cls := "CellHandoverModel", name := "byteAt", desc := "(I)I" } : MethodName)) ∈ lw_tbl := ch_b8 113 rfl
theorem kw_1794 : (Cond.instanceMethod ({ cls := "CellHandoverModel", name := "byteAt", desc := "(I)I" } : MethodName)) ∈ ch_GL := ch_c8 114 rfl rfl
theorem kw_1795 : (Cond.code ({ cls := "CellHandoverModel", name := "byteAt", desc := "(I)I" } : MethodName) prog_14_method_100_code (2 : Nat) (Option.some FieldType.int)) ∈ ch_GL := ch_c8 115 rfl rfl
theorem kw_1796 : (Cond.methodLink "CellHandoverModel" (295 : Nat) ({ cls := "CellHandoverModel", name := "isLetter", desc := "(I)Z" } : MethodName)) ∈ ch_GL := ch_c8 116 rfl rfl
theorem kb_1797 : (Cond.privateMethod ({ cls := "CellHandoverModel", name := "isLetter", desc := "(I)Z" } : MethodName)) ∈ lw_tbl := ch_b8 117 rfl
theorem kw_1798 : (Cond.instanceMethod ({ cls := "CellHandoverModel", name := "isLetter", desc := "(I)Z" } : MethodName)) ∈ ch_GL := ch_c8 118 rfl rfl
theorem kw_1799 : (Cond.code ({ cls := "CellHandoverModel", name := "isLetter", desc := "(I)Z" } : MethodName) prog_14_method_101_code (2 : Nat) (Option.some FieldType.boolean)) ∈ ch_GL := ch_c8 119 rfl rfl
theorem kw_1800 : (Cond.methodLink "CellHandoverModel" (298 : Nat) ({ cls := "CellHandoverModel", name := "isDigit", desc := "(I)Z" } : MethodName)) ∈ ch_GL := ch_c8 120 rfl rfl
theorem kb_1801 : (Cond.privateMethod ({ cls := "CellHandoverModel", name := "isDigit", desc := "(I)Z" } : MethodName)) ∈ lw_tbl := ch_b8 121 rfl
theorem kw_1802 : (Cond.instanceMethod ({ cls := "CellHandoverModel", name := "isDigit", desc := "(I)Z" } : MethodName)) ∈ ch_GL := ch_c8 122 rfl rfl
theorem kw_1803 : (Cond.code ({ cls := "CellHandoverModel", name := "isDigit", desc := "(I)Z" } : MethodName) prog_14_method_102_code (2 : Nat) (Option.some FieldType.boolean)) ∈ ch_GL := ch_c8 123 rfl rfl
theorem kw_1804 : (Cond.methodLink "CellHandoverModel" (324 : Nat) ({ cls := "CellHandoverModel", name := "isWord", desc := "(Ljava/lang/String;)Z" } : MethodName)) ∈ ch_GL := ch_c8 124 rfl rfl
theorem kb_1805 : (Cond.privateMethod ({ cls := "CellHandoverModel", name := "isWord", desc := "(Ljava/lang/String;)Z" } : MethodName)) ∈ lw_tbl := ch_b8 125 rfl
theorem kw_1806 : (Cond.instanceMethod ({ cls := "CellHandoverModel", name := "isWord", desc := "(Ljava/lang/String;)Z" } : MethodName)) ∈ ch_GL := ch_c8 126 rfl rfl
theorem kw_1807 : (Cond.code ({ cls := "CellHandoverModel", name := "isWord", desc := "(Ljava/lang/String;)Z" } : MethodName) prog_14_method_110_code (4 : Nat) (Option.some FieldType.boolean)) ∈ ch_GL := ch_c8 127 rfl rfl
theorem kw_1808 : (Cond.methodLink "CellHandoverModel" (316 : Nat) ({ cls := "java/lang/String", name := "length", desc := "()I" } : MethodName)) ∈ ch_GL := ch_c8 128 rfl rfl
theorem kw_1809 : (Cond.methodLink "CellHandoverModel" (320 : Nat) ({ cls := "java/lang/String", name := "charAt", desc := "(I)C" } : MethodName)) ∈ ch_GL := ch_c8 129 rfl rfl
theorem kw_1810 : (Cond.methodLink "CellHandoverModel" (360 : Nat) ({ cls := "CellHandoverModel", name := "readCell", desc := "()V" } : MethodName)) ∈ ch_GL := ch_c8 130 rfl rfl
theorem kb_1811 : (Cond.privateMethod ({ cls := "CellHandoverModel", name := "readCell", desc := "()V" } : MethodName)) ∈ lw_tbl := ch_b8 131 rfl
theorem kw_1812 : (Cond.instanceMethod ({ cls := "CellHandoverModel", name := "readCell", desc := "()V" } : MethodName)) ∈ ch_GL := ch_c8 132 rfl rfl
theorem kw_1813 : (Cond.code ({ cls := "CellHandoverModel", name := "readCell", desc := "()V" } : MethodName) prog_14_method_118_code (2 : Nat) (Option.none : Option FieldType)) ∈ ch_GL := ch_c8 133 rfl rfl
theorem kw_1814 : (Cond.methodLink "CellHandoverModel" (328 : Nat) ({ cls := "CellHandoverModel", name := "check", desc := "(ZI)V" } : MethodName)) ∈ ch_GL := ch_c8 134 rfl rfl
theorem kb_1815 : (Cond.privateMethod ({ cls := "CellHandoverModel", name := "check", desc := "(ZI)V" } : MethodName)) ∈ lw_tbl := ch_b8 135 rfl
theorem kw_1816 : (Cond.instanceMethod ({ cls := "CellHandoverModel", name := "check", desc := "(ZI)V" } : MethodName)) ∈ ch_GL := ch_c8 136 rfl rfl
theorem kw_1817 : (Cond.code ({ cls := "CellHandoverModel", name := "check", desc := "(ZI)V" } : MethodName) prog_14_method_107_code (3 : Nat) (Option.none : Option FieldType)) ∈ ch_GL := ch_c8 137 rfl rfl
theorem kw_1818 : (Cond.methodLink "CellHandoverModel" (313 : Nat) ({ cls := "CellHandoverModel", name := "fail", desc := "(I)V" } : MethodName)) ∈ ch_GL := ch_c8 138 rfl rfl
theorem kb_1819 : (Cond.privateMethod ({ cls := "CellHandoverModel", name := "fail", desc := "(I)V" } : MethodName)) ∈ lw_tbl := ch_b8 139 rfl
theorem kw_1820 : (Cond.instanceMethod ({ cls := "CellHandoverModel", name := "fail", desc := "(I)V" } : MethodName)) ∈ ch_GL := ch_c8 140 rfl rfl
theorem kw_1821 : (Cond.code ({ cls := "CellHandoverModel", name := "fail", desc := "(I)V" } : MethodName) prog_14_method_106_code (2 : Nat) (Option.none : Option FieldType)) ∈ ch_GL := ch_c8 141 rfl rfl
theorem kw_1822 : (Cond.methodLink "CellHandoverModel" (332 : Nat) ({ cls := "CellHandoverModel", name := "advance", desc := "()V" } : MethodName)) ∈ ch_GL := ch_c8 142 rfl rfl
theorem kb_1823 : (Cond.privateMethod ({ cls := "CellHandoverModel", name := "advance", desc := "()V" } : MethodName)) ∈ lw_tbl := ch_b8 143 rfl
theorem kw_1824 : (Cond.instanceMethod ({ cls := "CellHandoverModel", name := "advance", desc := "()V" } : MethodName)) ∈ ch_GL := ch_c8 144 rfl rfl
theorem kw_1825 : (Cond.code ({ cls := "CellHandoverModel", name := "advance", desc := "()V" } : MethodName) prog_14_method_108_code (1 : Nat) (Option.none : Option FieldType)) ∈ ch_GL := ch_c8 145 rfl rfl
theorem kw_1826 : (Cond.methodLink "CellHandoverModel" (345 : Nat) ({ cls := "CellHandoverModel", name := "putNumber", desc := "(III)V" } : MethodName)) ∈ ch_GL := ch_c8 146 rfl rfl
theorem kb_1827 : (Cond.privateMethod ({ cls := "CellHandoverModel", name := "putNumber", desc := "(III)V" } : MethodName)) ∈ lw_tbl := ch_b8 147 rfl
theorem kw_1828 : (Cond.instanceMethod ({ cls := "CellHandoverModel", name := "putNumber", desc := "(III)V" } : MethodName)) ∈ ch_GL := ch_c8 148 rfl rfl
theorem kw_1829 : (Cond.code ({ cls := "CellHandoverModel", name := "putNumber", desc := "(III)V" } : MethodName) prog_14_method_117_code (5 : Nat) (Option.none : Option FieldType)) ∈ ch_GL := ch_c8 149 rfl rfl
theorem kw_1830 : (Cond.methodLink "CellHandoverModel" (342 : Nat) ({ cls := "CellHandoverModel", name := "number", desc := "(II)I" } : MethodName)) ∈ ch_GL := ch_c8 150 rfl rfl
theorem kb_1831 : (Cond.privateMethod ({ cls := "CellHandoverModel", name := "number", desc := "(II)I" } : MethodName)) ∈ lw_tbl := ch_b8 151 rfl
theorem kw_1832 : (Cond.instanceMethod ({ cls := "CellHandoverModel", name := "number", desc := "(II)I" } : MethodName)) ∈ ch_GL := ch_c8 152 rfl rfl
theorem kw_1833 : (Cond.code ({ cls := "CellHandoverModel", name := "number", desc := "(II)I" } : MethodName) prog_14_method_115_code (4 : Nat) (Option.some FieldType.int)) ∈ ch_GL := ch_c8 153 rfl rfl
theorem kw_1834 : (Cond.methodLink "CellHandoverModel" (339 : Nat) ({ cls := "CellHandoverModel", name := "value", desc := "()I" } : MethodName)) ∈ ch_GL := ch_c8 154 rfl rfl
theorem kb_1835 : (Cond.privateMethod ({ cls := "CellHandoverModel", name := "value", desc := "()I" } : MethodName)) ∈ lw_tbl := ch_b8 155 rfl
theorem kw_1836 : (Cond.instanceMethod ({ cls := "CellHandoverModel", name := "value", desc := "()I" } : MethodName)) ∈ ch_GL := ch_c8 156 rfl rfl
theorem kw_1837 : (Cond.code ({ cls := "CellHandoverModel", name := "value", desc := "()I" } : MethodName) prog_14_method_114_code (3 : Nat) (Option.some FieldType.int)) ∈ ch_GL := ch_c8 157 rfl rfl
theorem kw_1838 : (Cond.constant "CellHandoverModel" (338 : Nat) (1000000 : Int32)) ∈ ch_GL := ch_c8 158 rfl rfl
theorem kb_1839 : (Cond.stringRef "CellHandoverModel" (363 : Nat) "relation") ∈ lw_tbl := ch_b8 159 rfl
theorem kw_1840 : (Cond.methodLink "CellHandoverModel" (365 : Nat) ({ cls := "CellHandoverModel", name := "readRelation", desc := "()V" } : MethodName)) ∈ ch_GL := ch_c8 160 rfl rfl
theorem kb_1841 : (Cond.privateMethod ({ cls := "CellHandoverModel", name := "readRelation", desc := "()V" } : MethodName)) ∈ lw_tbl := ch_b8 161 rfl
theorem kw_1842 : (Cond.instanceMethod ({ cls := "CellHandoverModel", name := "readRelation", desc := "()V" } : MethodName)) ∈ ch_GL := ch_c8 162 rfl rfl
theorem kw_1843 : (Cond.code ({ cls := "CellHandoverModel", name := "readRelation", desc := "()V" } : MethodName) prog_14_method_119_code (4 : Nat) (Option.none : Option FieldType)) ∈ ch_GL := ch_c8 163 rfl rfl
theorem kw_1844 : (Cond.methodLink "CellHandoverModel" (348 : Nat) ({ cls := "CellHandoverModel", name := "existing", desc := "()I" } : MethodName)) ∈ ch_GL := ch_c8 164 rfl rfl
theorem kb_1845 : (Cond.privateMethod ({ cls := "CellHandoverModel", name := "existing", desc := "()I" } : MethodName)) ∈ lw_tbl := ch_b8 165 rfl
theorem kw_1846 : (Cond.instanceMethod ({ cls := "CellHandoverModel", name := "existing", desc := "()I" } : MethodName)) ∈ ch_GL := ch_c8 166 rfl rfl
theorem kw_1847 : (Cond.code ({ cls := "CellHandoverModel", name := "existing", desc := "()I" } : MethodName) prog_14_method_116_code (1 : Nat) (Option.some FieldType.int)) ∈ ch_GL := ch_c8 167 rfl rfl
theorem kw_1848 : (Cond.methodLink "CellHandoverModel" (368 : Nat) ({ cls := "CellHandoverModel", name := "readSettings", desc := "()V" } : MethodName)) ∈ ch_GL := ch_c8 168 rfl rfl
theorem kb_1849 : (Cond.privateMethod ({ cls := "CellHandoverModel", name := "readSettings", desc := "()V" } : MethodName)) ∈ lw_tbl := ch_b8 169 rfl
theorem kw_1850 : (Cond.instanceMethod ({ cls := "CellHandoverModel", name := "readSettings", desc := "()V" } : MethodName)) ∈ ch_GL := ch_c8 170 rfl rfl
theorem kw_1851 : (Cond.code ({ cls := "CellHandoverModel", name := "readSettings", desc := "()V" } : MethodName) prog_14_method_120_code (1 : Nat) (Option.none : Option FieldType)) ∈ ch_GL := ch_c8 171 rfl rfl
theorem kb_1852 : (Cond.stringRef "CellHandoverModel" (351 : Nat) "settings") ∈ lw_tbl := ch_b8 172 rfl
theorem kw_1853 : (Cond.methodLink "CellHandoverModel" (353 : Nat) ({ cls := "CellHandoverModel", name := "expectWord", desc := "(Ljava/lang/String;)V" } : MethodName)) ∈ ch_GL := ch_c8 173 rfl rfl
theorem kb_1854 : (Cond.privateMethod ({ cls := "CellHandoverModel", name := "expectWord", desc := "(Ljava/lang/String;)V" } : MethodName)) ∈ lw_tbl := ch_b8 174 rfl
theorem kw_1855 : (Cond.instanceMethod ({ cls := "CellHandoverModel", name := "expectWord", desc := "(Ljava/lang/String;)V" } : MethodName)) ∈ ch_GL := ch_c8 175 rfl rfl
theorem kw_1856 : (Cond.code ({ cls := "CellHandoverModel", name := "expectWord", desc := "(Ljava/lang/String;)V" } : MethodName) prog_14_method_112_code (2 : Nat) (Option.none : Option FieldType)) ∈ ch_GL := ch_c8 176 rfl rfl
theorem kw_1857 : (Cond.methodLink "CellHandoverModel" (371 : Nat) ({ cls := "CellHandoverModel", name := "expect", desc := "(I)V" } : MethodName)) ∈ ch_GL := ch_c8 177 rfl rfl
theorem kb_1858 : (Cond.privateMethod ({ cls := "CellHandoverModel", name := "expect", desc := "(I)V" } : MethodName)) ∈ lw_tbl := ch_b8 178 rfl
theorem kw_1859 : (Cond.instanceMethod ({ cls := "CellHandoverModel", name := "expect", desc := "(I)V" } : MethodName)) ∈ ch_GL := ch_c8 179 rfl rfl
theorem kw_1860 : (Cond.code ({ cls := "CellHandoverModel", name := "expect", desc := "(I)V" } : MethodName) prog_14_method_113_code (2 : Nat) (Option.none : Option FieldType)) ∈ ch_GL := ch_c8 180 rfl rfl
theorem kw_1861 : (Cond.methodLink "CellHandoverModel" (335 : Nat) ({ cls := "CellHandoverModel", name := "isSymbol", desc := "(I)Z" } : MethodName)) ∈ ch_GL := ch_c8 181 rfl rfl
theorem kb_1862 : (Cond.privateMethod ({ cls := "CellHandoverModel", name := "isSymbol", desc := "(I)Z" } : MethodName)) ∈ lw_tbl := ch_b8 182 rfl
theorem kw_1863 : (Cond.instanceMethod ({ cls := "CellHandoverModel", name := "isSymbol", desc := "(I)Z" } : MethodName)) ∈ ch_GL := ch_c8 183 rfl rfl
theorem kw_1864 : (Cond.code ({ cls := "CellHandoverModel", name := "isSymbol", desc := "(I)Z" } : MethodName) prog_14_method_109_code (2 : Nat) (Option.some FieldType.boolean)) ∈ ch_GL := ch_c8 184 rfl rfl
theorem kw_1865 : (Cond.methodLink "CellHandoverModel" (374 : Nat) ({ cls := "CellHandoverModel", name := "finish", desc := "()I" } : MethodName)) ∈ ch_GL := ch_c8 185 rfl rfl
theorem kb_1866 : (Cond.privateMethod ({ cls := "CellHandoverModel", name := "finish", desc := "()I" } : MethodName)) ∈ lw_tbl := ch_b8 186 rfl
theorem kw_1867 : (Cond.instanceMethod ({ cls := "CellHandoverModel", name := "finish", desc := "()I" } : MethodName)) ∈ ch_GL := ch_c8 187 rfl rfl
theorem kw_1868 : (Cond.code ({ cls := "CellHandoverModel", name := "finish", desc := "()I" } : MethodName) prog_14_method_105_code (1 : Nat) (Option.some FieldType.int)) ∈ ch_GL := ch_c8 188 rfl rfl
theorem kw_1869 : (Cond.methodLink "CellHandoverLaw" (263 : Nat) ({ cls := "CellHandoverModel", name := "query", desc := "(I)I" } : MethodName)) ∈ ch_GL := ch_c8 189 rfl rfl
theorem kw_1870 : (Cond.instanceMethod ({ cls := "CellHandoverModel", name := "query", desc := "(I)I" } : MethodName)) ∈ ch_GL := ch_c8 190 rfl rfl
theorem kw_1871 : (Cond.selects "CellHandoverModel" ({ cls := "CellHandoverModel", name := "query", desc := "(I)I" } : MethodName) ({ cls := "CellHandoverModel", name := "query", desc := "(I)I" } : MethodName)) ∈ ch_GL := ch_c8 191 rfl rfl
theorem kw_1872 : (Cond.code ({ cls := "CellHandoverModel", name := "query", desc := "(I)I" } : MethodName) prog_14_method_131_code (5 : Nat) (Option.some FieldType.int)) ∈ ch_GL := ch_c8 192 rfl rfl
theorem kb_1873 : (Cond.stringRef "CellHandoverModel" (412 : Nat) "first") ∈ lw_tbl := ch_b8 193 rfl
theorem kb_1874 : (Cond.stringRef "CellHandoverModel" (414 : Nat) "many") ∈ lw_tbl := ch_b8 194 rfl
theorem kw_1875 : (Cond.methodLink "CellHandoverModel" (390 : Nat) ({ cls := "CellHandoverModel", name := "compileTest", desc := "()V" } : MethodName)) ∈ ch_GL := ch_c8 195 rfl rfl
theorem kb_1876 : (Cond.privateMethod ({ cls := "CellHandoverModel", name := "compileTest", desc := "()V" } : MethodName)) ∈ lw_tbl := ch_b8 196 rfl
theorem kw_1877 : (Cond.instanceMethod ({ cls := "CellHandoverModel", name := "compileTest", desc := "()V" } : MethodName)) ∈ ch_GL := ch_c8 197 rfl rfl
theorem kw_1878 : (Cond.code ({ cls := "CellHandoverModel", name := "compileTest", desc := "()V" } : MethodName) prog_14_method_127_code (1 : Nat) (Option.none : Option FieldType)) ∈ ch_GL := ch_c8 198 rfl rfl
theorem kw_1879 : (Cond.methodLink "CellHandoverModel" (401 : Nat) ({ cls := "CellHandoverModel", name := "compileConjunction", desc := "()V" } : MethodName)) ∈ ch_GL := ch_c8 199 rfl rfl
theorem kb_1880 : (Cond.privateMethod ({ cls := "CellHandoverModel", name := "compileConjunction", desc := "()V" } : MethodName)) ∈ lw_tbl := ch_b8 200 rfl
theorem kw_1881 : (Cond.instanceMethod ({ cls := "CellHandoverModel", name := "compileConjunction", desc := "()V" } : MethodName)) ∈ ch_GL := ch_c8 201 rfl rfl
theorem kw_1882 : (Cond.code ({ cls := "CellHandoverModel", name := "compileConjunction", desc := "()V" } : MethodName) prog_14_method_126_code (1 : Nat) (Option.none : Option FieldType)) ∈ ch_GL := ch_c8 202 rfl rfl
theorem kw_1883 : (Cond.methodLink "CellHandoverModel" (387 : Nat) ({ cls := "CellHandoverModel", name := "compileFactor", desc := "()V" } : MethodName)) ∈ ch_GL := ch_c8 203 rfl rfl
theorem kb_1884 : (Cond.privateMethod ({ cls := "CellHandoverModel", name := "compileFactor", desc := "()V" } : MethodName)) ∈ lw_tbl := ch_b8 204 rfl
theorem kw_1885 : (Cond.instanceMethod ({ cls := "CellHandoverModel", name := "compileFactor", desc := "()V" } : MethodName)) ∈ ch_GL := ch_c8 205 rfl rfl
theorem kw_1886 : (Cond.code ({ cls := "CellHandoverModel", name := "compileFactor", desc := "()V" } : MethodName) prog_14_method_125_code (2 : Nat) (Option.none : Option FieldType)) ∈ ch_GL := ch_c8 206 rfl rfl
theorem kb_1887 : (Cond.stringRef "CellHandoverModel" (382 : Nat) "not") ∈ lw_tbl := ch_b8 207 rfl
theorem kw_1888 : (Cond.methodLink "CellHandoverModel" (384 : Nat) ({ cls := "CellHandoverModel", name := "enter", desc := "()V" } : MethodName)) ∈ ch_GL := ch_c8 208 rfl rfl
theorem kb_1889 : (Cond.privateMethod ({ cls := "CellHandoverModel", name := "enter", desc := "()V" } : MethodName)) ∈ lw_tbl := ch_b8 209 rfl
theorem kw_1890 : (Cond.instanceMethod ({ cls := "CellHandoverModel", name := "enter", desc := "()V" } : MethodName)) ∈ ch_GL := ch_c8 210 rfl rfl
theorem kw_1891 : (Cond.code ({ cls := "CellHandoverModel", name := "enter", desc := "()V" } : MethodName) prog_14_method_123_code (1 : Nat) (Option.none : Option FieldType)) ∈ ch_GL := ch_c8 211 rfl rfl
theorem kw_1892 : (Cond.methodLink "CellHandoverModel" (379 : Nat) ({ cls := "CellHandoverModel", name := "emit", desc := "(I)V" } : MethodName)) ∈ ch_GL := ch_c8 212 rfl rfl
theorem kb_1893 : (Cond.privateMethod ({ cls := "CellHandoverModel", name := "emit", desc := "(I)V" } : MethodName)) ∈ lw_tbl := ch_b8 213 rfl
theorem kw_1894 : (Cond.instanceMethod ({ cls := "CellHandoverModel", name := "emit", desc := "(I)V" } : MethodName)) ∈ ch_GL := ch_c8 214 rfl rfl
theorem kw_1895 : (Cond.code ({ cls := "CellHandoverModel", name := "emit", desc := "(I)V" } : MethodName) prog_14_method_122_code (2 : Nat) (Option.none : Option FieldType)) ∈ ch_GL := ch_c8 215 rfl rfl
theorem kw_1896 : (Cond.methodLink "CellHandoverModel" (393 : Nat) ({ cls := "CellHandoverModel", name := "compileValue", desc := "()V" } : MethodName)) ∈ ch_GL := ch_c8 216 rfl rfl
theorem kb_1897 : (Cond.privateMethod ({ cls := "CellHandoverModel", name := "compileValue", desc := "()V" } : MethodName)) ∈ lw_tbl := ch_b8 217 rfl
theorem kw_1898 : (Cond.instanceMethod ({ cls := "CellHandoverModel", name := "compileValue", desc := "()V" } : MethodName)) ∈ ch_GL := ch_c8 218 rfl rfl
theorem kw_1899 : (Cond.code ({ cls := "CellHandoverModel", name := "compileValue", desc := "()V" } : MethodName) prog_14_method_124_code (2 : Nat) (Option.none : Option FieldType)) ∈ ch_GL := ch_c8 219 rfl rfl
theorem kb_1900 : (Cond.stringRef "CellHandoverModel" (396 : Nat) "and") ∈ lw_tbl := ch_b8 220 rfl
theorem kw_1901 : (Cond.methodLink "CellHandoverModel" (398 : Nat) ({ cls := "CellHandoverModel", name := "accept", desc := "(Ljava/lang/String;)Z" } : MethodName)) ∈ ch_GL := ch_c8 221 rfl rfl
theorem kb_1902 : (Cond.privateMethod ({ cls := "CellHandoverModel", name := "accept", desc := "(Ljava/lang/String;)Z" } : MethodName)) ∈ lw_tbl := ch_b8 222 rfl
theorem kw_1903 : (Cond.instanceMethod ({ cls := "CellHandoverModel", name := "accept", desc := "(Ljava/lang/String;)Z" } : MethodName)) ∈ ch_GL := ch_c8 223 rfl rfl
theorem kw_1904 : (Cond.code ({ cls := "CellHandoverModel", name := "accept", desc := "(Ljava/lang/String;)Z" } : MethodName) prog_14_method_111_code (3 : Nat) (Option.some FieldType.boolean)) ∈ ch_GL := ch_c8 224 rfl rfl
theorem kb_1905 : (Cond.stringRef "CellHandoverModel" (404 : Nat) "or") ∈ lw_tbl := ch_b8 225 rfl
theorem kw_1906 : (Cond.constant "CellHandoverModel" (416 : Nat) (-1000000000 : Int32)) ∈ ch_GL := ch_c8 226 rfl rfl
theorem kw_1907 : (Cond.methodLink "CellHandoverModel" (417 : Nat) ({ cls := "CellHandoverModel", name := "holds", desc := "(I)Z" } : MethodName)) ∈ ch_GL := ch_c8 227 rfl rfl
theorem kb_1908 : (Cond.privateMethod ({ cls := "CellHandoverModel", name := "holds", desc := "(I)Z" } : MethodName)) ∈ lw_tbl := ch_b8 228 rfl
theorem kw_1909 : (Cond.instanceMethod ({ cls := "CellHandoverModel", name := "holds", desc := "(I)Z" } : MethodName)) ∈ ch_GL := ch_c8 229 rfl rfl
theorem kw_1910 : (Cond.code ({ cls := "CellHandoverModel", name := "holds", desc := "(I)Z" } : MethodName) prog_14_method_130_code (5 : Nat) (Option.some FieldType.boolean)) ∈ ch_GL := ch_c8 230 rfl rfl
theorem kw_1911 : (Cond.methodLink "CellHandoverModel" (406 : Nat) ({ cls := "CellHandoverModel", name := "property", desc := "(II)I" } : MethodName)) ∈ ch_GL := ch_c8 231 rfl rfl
theorem kb_1912 : (Cond.privateMethod ({ cls := "CellHandoverModel", name := "property", desc := "(II)I" } : MethodName)) ∈ lw_tbl := ch_b8 232 rfl
theorem kw_1913 : (Cond.instanceMethod ({ cls := "CellHandoverModel", name := "property", desc := "(II)I" } : MethodName)) ∈ ch_GL := ch_c8 233 rfl rfl
theorem kw_1914 : (Cond.code ({ cls := "CellHandoverModel", name := "property", desc := "(II)I" } : MethodName) prog_14_method_128_code (3 : Nat) (Option.some FieldType.int)) ∈ ch_GL := ch_c8 234 rfl rfl
theorem kw_1915 : (Cond.methodLink "CellHandoverModel" (409 : Nat) ({ cls := "CellHandoverModel", name := "operate", desc := "(III)I" } : MethodName)) ∈ ch_GL := ch_c8 235 rfl rfl
theorem kw_1916 : (Cond.static ({ cls := "CellHandoverModel", name := "operate", desc := "(III)I" } : MethodName)) ∈ ch_GL := ch_c8 236 rfl rfl
theorem kw_1917 : (Cond.code ({ cls := "CellHandoverModel", name := "operate", desc := "(III)I" } : MethodName) prog_14_method_129_code (3 : Nat) (Option.some FieldType.int)) ∈ ch_GL := ch_c8 237 rfl rfl
theorem kw_1918 : (Cond.arrayClass FieldType.long) ∈ ch_GL := ch_c8 238 rfl rfl
theorem kw_1919 : (Cond.sameMethod "java/lang/Throwable" "java/lang/Throwable" "fillInStackTrace" "(I)Ljava/lang/Throwable;") ∈ ch_GL := ch_c8 239 rfl rfl
theorem kb_1920 : (Cond.castable "CellHandover" "java/lang/Object") ∈ lw_tbl := ch_b9 0 rfl
theorem kb_1921 : (Cond.castable "CellHandover$Text" "java/lang/Object") ∈ lw_tbl := ch_b9 1 rfl
theorem kb_1922 : (Cond.castable "CellHandover$Network" "java/lang/Object") ∈ lw_tbl := ch_b9 2 rfl
theorem kb_1923 : (Cond.castable "CellHandover$Cell" "java/lang/Object") ∈ lw_tbl := ch_b9 3 rfl
theorem kb_1924 : (Cond.castable "CellHandover$Relation" "java/lang/Object") ∈ lw_tbl := ch_b9 4 rfl
theorem kb_1925 : (Cond.castable "CellHandover$Mobile" "java/lang/Object") ∈ lw_tbl := ch_b9 5 rfl
theorem kb_1926 : (Cond.castable "CellHandover$History" "java/lang/Object") ∈ lw_tbl := ch_b9 6 rfl
theorem kb_1927 : (Cond.castable "CellHandover$Simulator" "java/lang/Object") ∈ lw_tbl := ch_b9 7 rfl
theorem kb_1928 : (Cond.castable "CellHandover$Ranking" "java/lang/Object") ∈ lw_tbl := ch_b9 8 rfl
theorem kb_1929 : (Cond.castable "CellHandover$Survey" "java/lang/Object") ∈ lw_tbl := ch_b9 9 rfl
theorem kb_1930 : (Cond.castable "CellHandoverModel" "java/lang/Object") ∈ lw_tbl := ch_b9 10 rfl
theorem kb_1931 : (Cond.castable "java/lang/IllegalArgumentException" "java/lang/Object") ∈ lw_tbl := ch_b9 11 rfl
theorem kb_1932 : (Cond.castable "CellHandover$NetworkReader" "java/lang/Object") ∈ lw_tbl := ch_b9 12 rfl
theorem kb_1933 : (Cond.castable "java/util/NoSuchElementException" "java/lang/Object") ∈ lw_tbl := ch_b9 13 rfl
theorem kb_1934 : (Cond.castable "CellHandover$QueryReader" "java/lang/Object") ∈ lw_tbl := ch_b9 14 rfl
theorem kb_1935 : (Cond.castable "java/lang/Throwable" "java/lang/Object") ∈ lw_tbl := ch_b9 15 rfl
theorem kb_1936 : (Cond.castable "java/lang/String" "java/lang/Object") ∈ lw_tbl := ch_b9 16 rfl
theorem kw_1937 : (Cond.fieldLink "java/lang/String" (9 : Nat) "java/lang/String" "value" "[B") ∈ ch_GL := ch_c9 17 rfl rfl
theorem kw_1938 : (Cond.fieldLink "java/lang/String" (15 : Nat) "java/lang/String" "coder" "B") ∈ ch_GL := ch_c9 18 rfl rfl
theorem ks_0 : Cond.selects (⟨"CellHandover$Network", "setDefaults", "()V"⟩ : MethodName).cls ⟨"CellHandover$Network", "setDefaults", "()V"⟩ ⟨"CellHandover$Network", "setDefaults", "()V"⟩ ∈ ch_GL := ch_sel (q := (⟨"CellHandover$Network", "setDefaults", "()V"⟩, 17)) (List.mem_of_getElem? (i := 0) rfl)
theorem ks_1 : Cond.selects (⟨"java/lang/Throwable", "fillInStackTrace", "(I)Ljava/lang/Throwable;"⟩ : MethodName).cls ⟨"java/lang/Throwable", "fillInStackTrace", "(I)Ljava/lang/Throwable;"⟩ ⟨"java/lang/Throwable", "fillInStackTrace", "(I)Ljava/lang/Throwable;"⟩ ∈ ch_GL := ch_sel (q := (⟨"java/lang/Throwable", "fillInStackTrace", "(I)Ljava/lang/Throwable;"⟩, 6)) (List.mem_of_getElem? (i := 1) rfl)
theorem ks_2 : Cond.selects (⟨"CellHandover$Text", "byteAt", "(I)I"⟩ : MethodName).cls ⟨"CellHandover$Text", "byteAt", "(I)I"⟩ ⟨"CellHandover$Text", "byteAt", "(I)I"⟩ ∈ ch_GL := ch_sel (q := (⟨"CellHandover$Text", "byteAt", "(I)I"⟩, 8)) (List.mem_of_getElem? (i := 2) rfl)
theorem ks_3 : Cond.selects (⟨"CellHandover$NetworkReader", "readClause", "()V"⟩ : MethodName).cls ⟨"CellHandover$NetworkReader", "readClause", "()V"⟩ ⟨"CellHandover$NetworkReader", "readClause", "()V"⟩ ∈ ch_GL := ch_sel (q := (⟨"CellHandover$NetworkReader", "readClause", "()V"⟩, 2)) (List.mem_of_getElem? (i := 3) rfl)
theorem ks_4 : Cond.selects (⟨"CellHandover$NetworkReader", "readCell", "()V"⟩ : MethodName).cls ⟨"CellHandover$NetworkReader", "readCell", "()V"⟩ ⟨"CellHandover$NetworkReader", "readCell", "()V"⟩ ∈ ch_GL := ch_sel (q := (⟨"CellHandover$NetworkReader", "readCell", "()V"⟩, 2)) (List.mem_of_getElem? (i := 4) rfl)
theorem ks_5 : Cond.selects (⟨"CellHandover$NetworkReader", "readRelation", "()V"⟩ : MethodName).cls ⟨"CellHandover$NetworkReader", "readRelation", "()V"⟩ ⟨"CellHandover$NetworkReader", "readRelation", "()V"⟩ ∈ ch_GL := ch_sel (q := (⟨"CellHandover$NetworkReader", "readRelation", "()V"⟩, 2)) (List.mem_of_getElem? (i := 5) rfl)
theorem ks_6 : Cond.selects (⟨"CellHandover$NetworkReader", "readSettings", "()V"⟩ : MethodName).cls ⟨"CellHandover$NetworkReader", "readSettings", "()V"⟩ ⟨"CellHandover$NetworkReader", "readSettings", "()V"⟩ ∈ ch_GL := ch_sel (q := (⟨"CellHandover$NetworkReader", "readSettings", "()V"⟩, 2)) (List.mem_of_getElem? (i := 6) rfl)
theorem ks_7 : Cond.selects (⟨"CellHandover", "requireCell", "(I)V"⟩ : MethodName).cls ⟨"CellHandover", "requireCell", "(I)V"⟩ ⟨"CellHandover", "requireCell", "(I)V"⟩ ∈ ch_GL := ch_sel (q := (⟨"CellHandover", "requireCell", "(I)V"⟩, 8)) (List.mem_of_getElem? (i := 7) rfl)
theorem ks_8 : Cond.selects (⟨"CellHandover$Network", "canBeUsed", "(III)Z"⟩ : MethodName).cls ⟨"CellHandover$Network", "canBeUsed", "(III)Z"⟩ ⟨"CellHandover$Network", "canBeUsed", "(III)Z"⟩ ∈ ch_GL := ch_sel (q := (⟨"CellHandover$Network", "canBeUsed", "(III)Z"⟩, 17)) (List.mem_of_getElem? (i := 8) rfl)
theorem ks_9 : Cond.selects (⟨"CellHandover$Survey", "countNear", "(LCellHandover$Network;III)V"⟩ : MethodName).cls ⟨"CellHandover$Survey", "countNear", "(LCellHandover$Network;III)V"⟩ ⟨"CellHandover$Survey", "countNear", "(LCellHandover$Network;III)V"⟩ ∈ ch_GL := ch_sel (q := (⟨"CellHandover$Survey", "countNear", "(LCellHandover$Network;III)V"⟩, 1)) (List.mem_of_getElem? (i := 9) rfl)
theorem ks_10 : Cond.selects (⟨"CellHandover$Mobile", "clearMeasurements", "()V"⟩ : MethodName).cls ⟨"CellHandover$Mobile", "clearMeasurements", "()V"⟩ ⟨"CellHandover$Mobile", "clearMeasurements", "()V"⟩ ∈ ch_GL := ch_sel (q := (⟨"CellHandover$Mobile", "clearMeasurements", "()V"⟩, 13)) (List.mem_of_getElem? (i := 10) rfl)
theorem ks_11 : Cond.selects (⟨"CellHandover", "requireMobile", "(I)V"⟩ : MethodName).cls ⟨"CellHandover", "requireMobile", "(I)V"⟩ ⟨"CellHandover", "requireMobile", "(I)V"⟩ ∈ ch_GL := ch_sel (q := (⟨"CellHandover", "requireMobile", "(I)V"⟩, 8)) (List.mem_of_getElem? (i := 11) rfl)
theorem ks_12 : Cond.selects (⟨"CellHandover$Network", "retryCell", "(III)I"⟩ : MethodName).cls ⟨"CellHandover$Network", "retryCell", "(III)I"⟩ ⟨"CellHandover$Network", "retryCell", "(III)I"⟩ ∈ ch_GL := ch_sel (q := (⟨"CellHandover$Network", "retryCell", "(III)I"⟩, 17)) (List.mem_of_getElem? (i := 12) rfl)
theorem ks_13 : Cond.selects (⟨"CellHandover", "requireTicks", "(II)V"⟩ : MethodName).cls ⟨"CellHandover", "requireTicks", "(II)V"⟩ ⟨"CellHandover", "requireTicks", "(II)V"⟩ ∈ ch_GL := ch_sel (q := (⟨"CellHandover", "requireTicks", "(II)V"⟩, 8)) (List.mem_of_getElem? (i := 13) rfl)
theorem ks_14 : Cond.selects (⟨"CellHandover$Simulator", "moveMobiles", "(LCellHandover$Network;)V"⟩ : MethodName).cls ⟨"CellHandover$Simulator", "moveMobiles", "(LCellHandover$Network;)V"⟩ ⟨"CellHandover$Simulator", "moveMobiles", "(LCellHandover$Network;)V"⟩ ∈ ch_GL := ch_sel (q := (⟨"CellHandover$Simulator", "moveMobiles", "(LCellHandover$Network;)V"⟩, 1)) (List.mem_of_getElem? (i := 14) rfl)
theorem ks_15 : Cond.selects (⟨"CellHandover$Simulator", "measureLevels", "(LCellHandover$Network;)V"⟩ : MethodName).cls ⟨"CellHandover$Simulator", "measureLevels", "(LCellHandover$Network;)V"⟩ ⟨"CellHandover$Simulator", "measureLevels", "(LCellHandover$Network;)V"⟩ ∈ ch_GL := ch_sel (q := (⟨"CellHandover$Simulator", "measureLevels", "(LCellHandover$Network;)V"⟩, 1)) (List.mem_of_getElem? (i := 15) rfl)
theorem ks_16 : Cond.selects (⟨"CellHandover$Simulator", "measure", "(LCellHandover$Network;LCellHandover$Mobile;)V"⟩ : MethodName).cls ⟨"CellHandover$Simulator", "measure", "(LCellHandover$Network;LCellHandover$Mobile;)V"⟩ ⟨"CellHandover$Simulator", "measure", "(LCellHandover$Network;LCellHandover$Mobile;)V"⟩ ∈ ch_GL := ch_sel (q := (⟨"CellHandover$Simulator", "measure", "(LCellHandover$Network;LCellHandover$Mobile;)V"⟩, 1)) (List.mem_of_getElem? (i := 16) rfl)
theorem ks_17 : Cond.selects (⟨"CellHandover$Mobile", "dropOldest", "(II)V"⟩ : MethodName).cls ⟨"CellHandover$Mobile", "dropOldest", "(II)V"⟩ ⟨"CellHandover$Mobile", "dropOldest", "(II)V"⟩ ∈ ch_GL := ch_sel (q := (⟨"CellHandover$Mobile", "dropOldest", "(II)V"⟩, 13)) (List.mem_of_getElem? (i := 17) rfl)
theorem ks_18 : Cond.selects (⟨"CellHandover$Simulator", "completeCalls", "(LCellHandover$Network;)V"⟩ : MethodName).cls ⟨"CellHandover$Simulator", "completeCalls", "(LCellHandover$Network;)V"⟩ ⟨"CellHandover$Simulator", "completeCalls", "(LCellHandover$Network;)V"⟩ ∈ ch_GL := ch_sel (q := (⟨"CellHandover$Simulator", "completeCalls", "(LCellHandover$Network;)V"⟩, 1)) (List.mem_of_getElem? (i := 18) rfl)
theorem ks_19 : Cond.selects (⟨"CellHandover$Simulator", "dropCalls", "(LCellHandover$Network;)V"⟩ : MethodName).cls ⟨"CellHandover$Simulator", "dropCalls", "(LCellHandover$Network;)V"⟩ ⟨"CellHandover$Simulator", "dropCalls", "(LCellHandover$Network;)V"⟩ ∈ ch_GL := ch_sel (q := (⟨"CellHandover$Simulator", "dropCalls", "(LCellHandover$Network;)V"⟩, 1)) (List.mem_of_getElem? (i := 19) rfl)
theorem ks_20 : Cond.selects (⟨"CellHandover$Simulator", "serveQueues", "(LCellHandover$Network;)V"⟩ : MethodName).cls ⟨"CellHandover$Simulator", "serveQueues", "(LCellHandover$Network;)V"⟩ ⟨"CellHandover$Simulator", "serveQueues", "(LCellHandover$Network;)V"⟩ ∈ ch_GL := ch_sel (q := (⟨"CellHandover$Simulator", "serveQueues", "(LCellHandover$Network;)V"⟩, 1)) (List.mem_of_getElem? (i := 20) rfl)
theorem ks_21 : Cond.selects (⟨"CellHandover$Network", "requestsBefore", "(I)I"⟩ : MethodName).cls ⟨"CellHandover$Network", "requestsBefore", "(I)I"⟩ ⟨"CellHandover$Network", "requestsBefore", "(I)I"⟩ ∈ ch_GL := ch_sel (q := (⟨"CellHandover$Network", "requestsBefore", "(I)I"⟩, 17)) (List.mem_of_getElem? (i := 21) rfl)
theorem ks_22 : Cond.selects (⟨"CellHandover$Network", "comesBefore", "(II)Z"⟩ : MethodName).cls ⟨"CellHandover$Network", "comesBefore", "(II)Z"⟩ ⟨"CellHandover$Network", "comesBefore", "(II)Z"⟩ ∈ ch_GL := ch_sel (q := (⟨"CellHandover$Network", "comesBefore", "(II)Z"⟩, 17)) (List.mem_of_getElem? (i := 22) rfl)
theorem ks_23 : Cond.selects (⟨"CellHandover$Simulator", "serve", "(LCellHandover$Network;LCellHandover$Mobile;I)V"⟩ : MethodName).cls ⟨"CellHandover$Simulator", "serve", "(LCellHandover$Network;LCellHandover$Mobile;I)V"⟩ ⟨"CellHandover$Simulator", "serve", "(LCellHandover$Network;LCellHandover$Mobile;I)V"⟩ ∈ ch_GL := ch_sel (q := (⟨"CellHandover$Simulator", "serve", "(LCellHandover$Network;LCellHandover$Mobile;I)V"⟩, 1)) (List.mem_of_getElem? (i := 23) rfl)
theorem ks_24 : Cond.selects (⟨"CellHandover$Simulator", "decideHandovers", "(LCellHandover$Network;)V"⟩ : MethodName).cls ⟨"CellHandover$Simulator", "decideHandovers", "(LCellHandover$Network;)V"⟩ ⟨"CellHandover$Simulator", "decideHandovers", "(LCellHandover$Network;)V"⟩ ∈ ch_GL := ch_sel (q := (⟨"CellHandover$Simulator", "decideHandovers", "(LCellHandover$Network;)V"⟩, 1)) (List.mem_of_getElem? (i := 24) rfl)
theorem ks_25 : Cond.selects (⟨"CellHandover$Simulator", "considerHandover", "(LCellHandover$Network;LCellHandover$Mobile;)V"⟩ : MethodName).cls ⟨"CellHandover$Simulator", "considerHandover", "(LCellHandover$Network;LCellHandover$Mobile;)V"⟩ ⟨"CellHandover$Simulator", "considerHandover", "(LCellHandover$Network;LCellHandover$Mobile;)V"⟩ ∈ ch_GL := ch_sel (q := (⟨"CellHandover$Simulator", "considerHandover", "(LCellHandover$Network;LCellHandover$Mobile;)V"⟩, 1)) (List.mem_of_getElem? (i := 25) rfl)
theorem ks_26 : Cond.selects (⟨"CellHandover$Ranking", "marginOf", "(LCellHandover$Network;LCellHandover$Mobile;I)I"⟩ : MethodName).cls ⟨"CellHandover$Ranking", "marginOf", "(LCellHandover$Network;LCellHandover$Mobile;I)I"⟩ ⟨"CellHandover$Ranking", "marginOf", "(LCellHandover$Network;LCellHandover$Mobile;I)I"⟩ ∈ ch_GL := ch_sel (q := (⟨"CellHandover$Ranking", "marginOf", "(LCellHandover$Network;LCellHandover$Mobile;I)I"⟩, 4)) (List.mem_of_getElem? (i := 26) rfl)
theorem ks_27 : Cond.selects (⟨"CellHandover$Ranking", "insert", "(II)V"⟩ : MethodName).cls ⟨"CellHandover$Ranking", "insert", "(II)V"⟩ ⟨"CellHandover$Ranking", "insert", "(II)V"⟩ ∈ ch_GL := ch_sel (q := (⟨"CellHandover$Ranking", "insert", "(II)V"⟩, 4)) (List.mem_of_getElem? (i := 27) rfl)
theorem ks_28 : Cond.selects (⟨"CellHandover$Simulator", "countCongestion", "(LCellHandover$Network;)V"⟩ : MethodName).cls ⟨"CellHandover$Simulator", "countCongestion", "(LCellHandover$Network;)V"⟩ ⟨"CellHandover$Simulator", "countCongestion", "(LCellHandover$Network;)V"⟩ ∈ ch_GL := ch_sel (q := (⟨"CellHandover$Simulator", "countCongestion", "(LCellHandover$Network;)V"⟩, 1)) (List.mem_of_getElem? (i := 28) rfl)
theorem ks_29 : Cond.selects (⟨"CellHandover$Simulator", "expireRequests", "(LCellHandover$Network;)V"⟩ : MethodName).cls ⟨"CellHandover$Simulator", "expireRequests", "(LCellHandover$Network;)V"⟩ ⟨"CellHandover$Simulator", "expireRequests", "(LCellHandover$Network;)V"⟩ ∈ ch_GL := ch_sel (q := (⟨"CellHandover$Simulator", "expireRequests", "(LCellHandover$Network;)V"⟩, 1)) (List.mem_of_getElem? (i := 29) rfl)
theorem ks_30 : Cond.selects (⟨"CellHandover$Simulator", "expire", "(LCellHandover$Network;LCellHandover$Mobile;)V"⟩ : MethodName).cls ⟨"CellHandover$Simulator", "expire", "(LCellHandover$Network;LCellHandover$Mobile;)V"⟩ ⟨"CellHandover$Simulator", "expire", "(LCellHandover$Network;LCellHandover$Mobile;)V"⟩ ∈ ch_GL := ch_sel (q := (⟨"CellHandover$Simulator", "expire", "(LCellHandover$Network;LCellHandover$Mobile;)V"⟩, 1)) (List.mem_of_getElem? (i := 30) rfl)
theorem ks_31 : Cond.selects (⟨"CellHandover$QueryReader", "test", "(I)I"⟩ : MethodName).cls ⟨"CellHandover$QueryReader", "test", "(I)I"⟩ ⟨"CellHandover$QueryReader", "test", "(I)I"⟩ ∈ ch_GL := ch_sel (q := (⟨"CellHandover$QueryReader", "test", "(I)I"⟩, 2)) (List.mem_of_getElem? (i := 31) rfl)
theorem ks_32 : Cond.selects (⟨"CellHandover$QueryReader", "factor", "(I)I"⟩ : MethodName).cls ⟨"CellHandover$QueryReader", "factor", "(I)I"⟩ ⟨"CellHandover$QueryReader", "factor", "(I)I"⟩ ∈ ch_GL := ch_sel (q := (⟨"CellHandover$QueryReader", "factor", "(I)I"⟩, 2)) (List.mem_of_getElem? (i := 32) rfl)
theorem ks_33 : Cond.selects (⟨"CellHandover$QueryReader", "comparison", "()I"⟩ : MethodName).cls ⟨"CellHandover$QueryReader", "comparison", "()I"⟩ ⟨"CellHandover$QueryReader", "comparison", "()I"⟩ ∈ ch_GL := ch_sel (q := (⟨"CellHandover$QueryReader", "comparison", "()I"⟩, 2)) (List.mem_of_getElem? (i := 33) rfl)
theorem ks_34 : Cond.selects (⟨"CellHandover$QueryReader", "seeValue", "()I"⟩ : MethodName).cls ⟨"CellHandover$QueryReader", "seeValue", "()I"⟩ ⟨"CellHandover$QueryReader", "seeValue", "()I"⟩ ∈ ch_GL := ch_sel (q := (⟨"CellHandover$QueryReader", "seeValue", "()I"⟩, 2)) (List.mem_of_getElem? (i := 34) rfl)
theorem ks_35 : Cond.selects (⟨"CellHandover$QueryReader", "valueFor", "(II)I"⟩ : MethodName).cls ⟨"CellHandover$QueryReader", "valueFor", "(II)I"⟩ ⟨"CellHandover$QueryReader", "valueFor", "(II)I"⟩ ∈ ch_GL := ch_sel (q := (⟨"CellHandover$QueryReader", "valueFor", "(II)I"⟩, 2)) (List.mem_of_getElem? (i := 35) rfl)
theorem ks_36 : Cond.selects (⟨"CellHandover$QueryReader", "everyMobile", "()I"⟩ : MethodName).cls ⟨"CellHandover$QueryReader", "everyMobile", "()I"⟩ ⟨"CellHandover$QueryReader", "everyMobile", "()I"⟩ ∈ ch_GL := ch_sel (q := (⟨"CellHandover$QueryReader", "everyMobile", "()I"⟩, 2)) (List.mem_of_getElem? (i := 36) rfl)
theorem ks_37 : Cond.selects (⟨"CellHandover$QueryReader", "firstOf", "(I)I"⟩ : MethodName).cls ⟨"CellHandover$QueryReader", "firstOf", "(I)I"⟩ ⟨"CellHandover$QueryReader", "firstOf", "(I)I"⟩ ∈ ch_GL := ch_sel (q := (⟨"CellHandover$QueryReader", "firstOf", "(I)I"⟩, 2)) (List.mem_of_getElem? (i := 37) rfl)
theorem ks_38 : Cond.selects (⟨"CellHandoverModel", "isCell", "(I)Z"⟩ : MethodName).cls ⟨"CellHandoverModel", "isCell", "(I)Z"⟩ ⟨"CellHandoverModel", "isCell", "(I)Z"⟩ ∈ ch_GL := ch_sel (q := (⟨"CellHandoverModel", "isCell", "(I)Z"⟩, 25)) (List.mem_of_getElem? (i := 38) rfl)
theorem ks_39 : Cond.selects (⟨"CellHandoverModel", "raise", "(I)I"⟩ : MethodName).cls ⟨"CellHandoverModel", "raise", "(I)I"⟩ ⟨"CellHandoverModel", "raise", "(I)I"⟩ ∈ ch_GL := ch_sel (q := (⟨"CellHandoverModel", "raise", "(I)I"⟩, 25)) (List.mem_of_getElem? (i := 39) rfl)
theorem ks_40 : Cond.selects (⟨"CellHandoverModel", "levelAt", "(III)I"⟩ : MethodName).cls ⟨"CellHandoverModel", "levelAt", "(III)I"⟩ ⟨"CellHandoverModel", "levelAt", "(III)I"⟩ ∈ ch_GL := ch_sel (q := (⟨"CellHandoverModel", "levelAt", "(III)I"⟩, 25)) (List.mem_of_getElem? (i := 40) rfl)
theorem ks_41 : Cond.selects (⟨"CellHandoverModel", "ofCell", "(II)I"⟩ : MethodName).cls ⟨"CellHandoverModel", "ofCell", "(II)I"⟩ ⟨"CellHandoverModel", "ofCell", "(II)I"⟩ ∈ ch_GL := ch_sel (q := (⟨"CellHandoverModel", "ofCell", "(II)I"⟩, 25)) (List.mem_of_getElem? (i := 41) rfl)
theorem ks_42 : Cond.selects (⟨"CellHandoverModel", "covering", "(II)I"⟩ : MethodName).cls ⟨"CellHandoverModel", "covering", "(II)I"⟩ ⟨"CellHandoverModel", "covering", "(II)I"⟩ ∈ ch_GL := ch_sel (q := (⟨"CellHandoverModel", "covering", "(II)I"⟩, 25)) (List.mem_of_getElem? (i := 42) rfl)
theorem ks_43 : Cond.selects (⟨"CellHandoverModel", "strongest", "(II)I"⟩ : MethodName).cls ⟨"CellHandoverModel", "strongest", "(II)I"⟩ ⟨"CellHandoverModel", "strongest", "(II)I"⟩ ∈ ch_GL := ch_sel (q := (⟨"CellHandoverModel", "strongest", "(II)I"⟩, 25)) (List.mem_of_getElem? (i := 43) rfl)
theorem ks_44 : Cond.selects (⟨"CellHandoverModel", "isNeighbour", "(II)Z"⟩ : MethodName).cls ⟨"CellHandoverModel", "isNeighbour", "(II)Z"⟩ ⟨"CellHandoverModel", "isNeighbour", "(II)Z"⟩ ∈ ch_GL := ch_sel (q := (⟨"CellHandoverModel", "isNeighbour", "(II)Z"⟩, 25)) (List.mem_of_getElem? (i := 44) rfl)
theorem ks_45 : Cond.selects (⟨"CellHandoverModel", "relationOf", "([III)I"⟩ : MethodName).cls ⟨"CellHandoverModel", "relationOf", "([III)I"⟩ ⟨"CellHandoverModel", "relationOf", "([III)I"⟩ ∈ ch_GL := ch_sel (q := (⟨"CellHandoverModel", "relationOf", "([III)I"⟩, 25)) (List.mem_of_getElem? (i := 45) rfl)
theorem ks_46 : Cond.selects (⟨"CellHandoverModel", "isMissing", "(III)Z"⟩ : MethodName).cls ⟨"CellHandoverModel", "isMissing", "(III)Z"⟩ ⟨"CellHandoverModel", "isMissing", "(III)Z"⟩ ∈ ch_GL := ch_sel (q := (⟨"CellHandoverModel", "isMissing", "(III)Z"⟩, 25)) (List.mem_of_getElem? (i := 46) rfl)
theorem ks_47 : Cond.selects (⟨"CellHandoverModel", "isNear", "(IIIII)Z"⟩ : MethodName).cls ⟨"CellHandoverModel", "isNear", "(IIIII)Z"⟩ ⟨"CellHandoverModel", "isNear", "(IIIII)Z"⟩ ∈ ch_GL := ch_sel (q := (⟨"CellHandoverModel", "isNear", "(IIIII)Z"⟩, 25)) (List.mem_of_getElem? (i := 47) rfl)
theorem ks_48 : Cond.selects (⟨"CellHandoverModel", "tellRelation", "(IIII)I"⟩ : MethodName).cls ⟨"CellHandoverModel", "tellRelation", "(IIII)I"⟩ ⟨"CellHandoverModel", "tellRelation", "(IIII)I"⟩ ∈ ch_GL := ch_sel (q := (⟨"CellHandoverModel", "tellRelation", "(IIII)I"⟩, 25)) (List.mem_of_getElem? (i := 48) rfl)
theorem ks_49 : Cond.selects (⟨"CellHandoverModel", "ofRelation", "(II)I"⟩ : MethodName).cls ⟨"CellHandoverModel", "ofRelation", "(II)I"⟩ ⟨"CellHandoverModel", "ofRelation", "(II)I"⟩ ∈ ch_GL := ch_sel (q := (⟨"CellHandoverModel", "ofRelation", "(II)I"⟩, 25)) (List.mem_of_getElem? (i := 49) rfl)
theorem ks_50 : Cond.selects (⟨"CellHandoverModel", "busy", "(I)I"⟩ : MethodName).cls ⟨"CellHandoverModel", "busy", "(I)I"⟩ ⟨"CellHandoverModel", "busy", "(I)I"⟩ ∈ ch_GL := ch_sel (q := (⟨"CellHandoverModel", "busy", "(I)I"⟩, 25)) (List.mem_of_getElem? (i := 50) rfl)
theorem ks_51 : Cond.selects (⟨"CellHandoverModel", "talks", "(I)Z"⟩ : MethodName).cls ⟨"CellHandoverModel", "talks", "(I)Z"⟩ ⟨"CellHandoverModel", "talks", "(I)Z"⟩ ∈ ch_GL := ch_sel (q := (⟨"CellHandoverModel", "talks", "(I)Z"⟩, 25)) (List.mem_of_getElem? (i := 51) rfl)
theorem ks_52 : Cond.selects (⟨"CellHandoverModel", "of", "(II)I"⟩ : MethodName).cls ⟨"CellHandoverModel", "of", "(II)I"⟩ ⟨"CellHandoverModel", "of", "(II)I"⟩ ∈ ch_GL := ch_sel (q := (⟨"CellHandoverModel", "of", "(II)I"⟩, 25)) (List.mem_of_getElem? (i := 52) rfl)
theorem ks_53 : Cond.selects (⟨"CellHandoverModel", "waitingAt", "(I)I"⟩ : MethodName).cls ⟨"CellHandoverModel", "waitingAt", "(I)I"⟩ ⟨"CellHandoverModel", "waitingAt", "(I)I"⟩ ∈ ch_GL := ch_sel (q := (⟨"CellHandoverModel", "waitingAt", "(I)I"⟩, 25)) (List.mem_of_getElem? (i := 53) rfl)
theorem ks_54 : Cond.selects (⟨"CellHandoverModel", "requestAt", "(II)I"⟩ : MethodName).cls ⟨"CellHandoverModel", "requestAt", "(II)I"⟩ ⟨"CellHandoverModel", "requestAt", "(II)I"⟩ ∈ ch_GL := ch_sel (q := (⟨"CellHandoverModel", "requestAt", "(II)I"⟩, 25)) (List.mem_of_getElem? (i := 54) rfl)
theorem ks_55 : Cond.selects (⟨"CellHandoverModel", "isAhead", "(II)Z"⟩ : MethodName).cls ⟨"CellHandoverModel", "isAhead", "(II)Z"⟩ ⟨"CellHandoverModel", "isAhead", "(II)Z"⟩ ∈ ch_GL := ch_sel (q := (⟨"CellHandoverModel", "isAhead", "(II)Z"⟩, 25)) (List.mem_of_getElem? (i := 55) rfl)
theorem ks_56 : Cond.selects (⟨"CellHandoverModel", "isMobile", "(I)Z"⟩ : MethodName).cls ⟨"CellHandoverModel", "isMobile", "(I)Z"⟩ ⟨"CellHandoverModel", "isMobile", "(I)Z"⟩ ∈ ch_GL := ch_sel (q := (⟨"CellHandoverModel", "isMobile", "(I)Z"⟩, 25)) (List.mem_of_getElem? (i := 56) rfl)
theorem ks_57 : Cond.selects (⟨"CellHandoverModel", "record", "()V"⟩ : MethodName).cls ⟨"CellHandoverModel", "record", "()V"⟩ ⟨"CellHandoverModel", "record", "()V"⟩ ∈ ch_GL := ch_sel (q := (⟨"CellHandoverModel", "record", "()V"⟩, 25)) (List.mem_of_getElem? (i := 57) rfl)
theorem ks_58 : Cond.selects (⟨"CellHandoverModel", "put", "(III)V"⟩ : MethodName).cls ⟨"CellHandoverModel", "put", "(III)V"⟩ ⟨"CellHandoverModel", "put", "(III)V"⟩ ∈ ch_GL := ch_sel (q := (⟨"CellHandoverModel", "put", "(III)V"⟩, 25)) (List.mem_of_getElem? (i := 58) rfl)
theorem ks_59 : Cond.selects (⟨"CellHandoverModel", "hasFreeChannel", "(I)Z"⟩ : MethodName).cls ⟨"CellHandoverModel", "hasFreeChannel", "(I)Z"⟩ ⟨"CellHandoverModel", "hasFreeChannel", "(I)Z"⟩ ∈ ch_GL := ch_sel (q := (⟨"CellHandoverModel", "hasFreeChannel", "(I)Z"⟩, 25)) (List.mem_of_getElem? (i := 59) rfl)
theorem ks_60 : Cond.selects (⟨"CellHandoverModel", "begin", "(II)V"⟩ : MethodName).cls ⟨"CellHandoverModel", "begin", "(II)V"⟩ ⟨"CellHandoverModel", "begin", "(II)V"⟩ ∈ ch_GL := ch_sel (q := (⟨"CellHandoverModel", "begin", "(II)V"⟩, 25)) (List.mem_of_getElem? (i := 60) rfl)
theorem ks_61 : Cond.selects (⟨"CellHandoverModel", "withdraw", "(I)V"⟩ : MethodName).cls ⟨"CellHandoverModel", "withdraw", "(I)V"⟩ ⟨"CellHandoverModel", "withdraw", "(I)V"⟩ ∈ ch_GL := ch_sel (q := (⟨"CellHandoverModel", "withdraw", "(I)V"⟩, 25)) (List.mem_of_getElem? (i := 61) rfl)
theorem ks_62 : Cond.selects (⟨"CellHandoverModel", "retryCell", "(II)I"⟩ : MethodName).cls ⟨"CellHandoverModel", "retryCell", "(II)I"⟩ ⟨"CellHandoverModel", "retryCell", "(II)I"⟩ ∈ ch_GL := ch_sel (q := (⟨"CellHandoverModel", "retryCell", "(II)I"⟩, 25)) (List.mem_of_getElem? (i := 62) rfl)
theorem ks_63 : Cond.selects (⟨"CellHandoverModel", "levelFor", "(II)I"⟩ : MethodName).cls ⟨"CellHandoverModel", "levelFor", "(II)I"⟩ ⟨"CellHandoverModel", "levelFor", "(II)I"⟩ ∈ ch_GL := ch_sel (q := (⟨"CellHandoverModel", "levelFor", "(II)I"⟩, 25)) (List.mem_of_getElem? (i := 63) rfl)
theorem ks_64 : Cond.selects (⟨"CellHandoverModel", "count", "(I)V"⟩ : MethodName).cls ⟨"CellHandoverModel", "count", "(I)V"⟩ ⟨"CellHandoverModel", "count", "(I)V"⟩ ∈ ch_GL := ch_sel (q := (⟨"CellHandoverModel", "count", "(I)V"⟩, 25)) (List.mem_of_getElem? (i := 64) rfl)
theorem ks_65 : Cond.selects (⟨"CellHandoverModel", "hasRoom", "(I)Z"⟩ : MethodName).cls ⟨"CellHandoverModel", "hasRoom", "(I)Z"⟩ ⟨"CellHandoverModel", "hasRoom", "(I)Z"⟩ ∈ ch_GL := ch_sel (q := (⟨"CellHandoverModel", "hasRoom", "(I)Z"⟩, 25)) (List.mem_of_getElem? (i := 65) rfl)
theorem ks_66 : Cond.selects (⟨"CellHandoverModel", "request", "(III)V"⟩ : MethodName).cls ⟨"CellHandoverModel", "request", "(III)V"⟩ ⟨"CellHandoverModel", "request", "(III)V"⟩ ∈ ch_GL := ch_sel (q := (⟨"CellHandoverModel", "request", "(III)V"⟩, 25)) (List.mem_of_getElem? (i := 66) rfl)
theorem ks_67 : Cond.selects (⟨"CellHandoverModel", "tell", "(II)I"⟩ : MethodName).cls ⟨"CellHandoverModel", "tell", "(II)I"⟩ ⟨"CellHandoverModel", "tell", "(II)I"⟩ ∈ ch_GL := ch_sel (q := (⟨"CellHandoverModel", "tell", "(II)I"⟩, 25)) (List.mem_of_getElem? (i := 67) rfl)
theorem ks_68 : Cond.selects (⟨"CellHandoverModel", "end", "(I)V"⟩ : MethodName).cls ⟨"CellHandoverModel", "end", "(I)V"⟩ ⟨"CellHandoverModel", "end", "(I)V"⟩ ∈ ch_GL := ch_sel (q := (⟨"CellHandoverModel", "end", "(I)V"⟩, 25)) (List.mem_of_getElem? (i := 68) rfl)
theorem ks_69 : Cond.selects (⟨"CellHandoverModel", "canRun", "(II)Z"⟩ : MethodName).cls ⟨"CellHandoverModel", "canRun", "(II)Z"⟩ ⟨"CellHandoverModel", "canRun", "(II)Z"⟩ ∈ ch_GL := ch_sel (q := (⟨"CellHandoverModel", "canRun", "(II)Z"⟩, 25)) (List.mem_of_getElem? (i := 69) rfl)
theorem ks_70 : Cond.selects (⟨"CellHandoverModel", "pass", "(I)V"⟩ : MethodName).cls ⟨"CellHandoverModel", "pass", "(I)V"⟩ ⟨"CellHandoverModel", "pass", "(I)V"⟩ ∈ ch_GL := ch_sel (q := (⟨"CellHandoverModel", "pass", "(I)V"⟩, 25)) (List.mem_of_getElem? (i := 70) rfl)
theorem ks_71 : Cond.selects (⟨"CellHandoverModel", "passTick", "()V"⟩ : MethodName).cls ⟨"CellHandoverModel", "passTick", "()V"⟩ ⟨"CellHandoverModel", "passTick", "()V"⟩ ∈ ch_GL := ch_sel (q := (⟨"CellHandoverModel", "passTick", "()V"⟩, 25)) (List.mem_of_getElem? (i := 71) rfl)
theorem ks_72 : Cond.selects (⟨"CellHandoverModel", "measure", "(I)V"⟩ : MethodName).cls ⟨"CellHandoverModel", "measure", "(I)V"⟩ ⟨"CellHandoverModel", "measure", "(I)V"⟩ ∈ ch_GL := ch_sel (q := (⟨"CellHandoverModel", "measure", "(I)V"⟩, 25)) (List.mem_of_getElem? (i := 72) rfl)
theorem ks_73 : Cond.selects (⟨"CellHandoverModel", "report", "(III)V"⟩ : MethodName).cls ⟨"CellHandoverModel", "report", "(III)V"⟩ ⟨"CellHandoverModel", "report", "(III)V"⟩ ∈ ch_GL := ch_sel (q := (⟨"CellHandoverModel", "report", "(III)V"⟩, 25)) (List.mem_of_getElem? (i := 73) rfl)
theorem ks_74 : Cond.selects (⟨"CellHandoverModel", "reportsOf", "(II)I"⟩ : MethodName).cls ⟨"CellHandoverModel", "reportsOf", "(II)I"⟩ ⟨"CellHandoverModel", "reportsOf", "(II)I"⟩ ∈ ch_GL := ch_sel (q := (⟨"CellHandoverModel", "reportsOf", "(II)I"⟩, 25)) (List.mem_of_getElem? (i := 74) rfl)
theorem ks_75 : Cond.selects (⟨"CellHandoverModel", "finish", "(I)V"⟩ : MethodName).cls ⟨"CellHandoverModel", "finish", "(I)V"⟩ ⟨"CellHandoverModel", "finish", "(I)V"⟩ ∈ ch_GL := ch_sel (q := (⟨"CellHandoverModel", "finish", "(I)V"⟩, 25)) (List.mem_of_getElem? (i := 75) rfl)
theorem ks_76 : Cond.selects (⟨"CellHandoverModel", "checkDrop", "(I)V"⟩ : MethodName).cls ⟨"CellHandoverModel", "checkDrop", "(I)V"⟩ ⟨"CellHandoverModel", "checkDrop", "(I)V"⟩ ∈ ch_GL := ch_sel (q := (⟨"CellHandoverModel", "checkDrop", "(I)V"⟩, 25)) (List.mem_of_getElem? (i := 76) rfl)
theorem ks_77 : Cond.selects (⟨"CellHandoverModel", "averageOf", "(II)I"⟩ : MethodName).cls ⟨"CellHandoverModel", "averageOf", "(II)I"⟩ ⟨"CellHandoverModel", "averageOf", "(II)I"⟩ ∈ ch_GL := ch_sel (q := (⟨"CellHandoverModel", "averageOf", "(II)I"⟩, 25)) (List.mem_of_getElem? (i := 77) rfl)
theorem ks_78 : Cond.selects (⟨"CellHandoverModel", "serve", "(I)V"⟩ : MethodName).cls ⟨"CellHandoverModel", "serve", "(I)V"⟩ ⟨"CellHandoverModel", "serve", "(I)V"⟩ ∈ ch_GL := ch_sel (q := (⟨"CellHandoverModel", "serve", "(I)V"⟩, 25)) (List.mem_of_getElem? (i := 78) rfl)
theorem ks_79 : Cond.selects (⟨"CellHandoverModel", "handOver", "(II)V"⟩ : MethodName).cls ⟨"CellHandoverModel", "handOver", "(II)V"⟩ ⟨"CellHandoverModel", "handOver", "(II)V"⟩ ∈ ch_GL := ch_sel (q := (⟨"CellHandoverModel", "handOver", "(II)V"⟩, 25)) (List.mem_of_getElem? (i := 79) rfl)
theorem ks_80 : Cond.selects (⟨"CellHandoverModel", "isBarredNow", "(II)Z"⟩ : MethodName).cls ⟨"CellHandoverModel", "isBarredNow", "(II)Z"⟩ ⟨"CellHandoverModel", "isBarredNow", "(II)Z"⟩ ∈ ch_GL := ch_sel (q := (⟨"CellHandoverModel", "isBarredNow", "(II)Z"⟩, 25)) (List.mem_of_getElem? (i := 80) rfl)
theorem ks_81 : Cond.selects (⟨"CellHandoverModel", "addToRelation", "(II)V"⟩ : MethodName).cls ⟨"CellHandoverModel", "addToRelation", "(II)V"⟩ ⟨"CellHandoverModel", "addToRelation", "(II)V"⟩ ∈ ch_GL := ch_sel (q := (⟨"CellHandoverModel", "addToRelation", "(II)V"⟩, 25)) (List.mem_of_getElem? (i := 81) rfl)
theorem ks_82 : Cond.selects (⟨"CellHandoverModel", "hasRequest", "(I)Z"⟩ : MethodName).cls ⟨"CellHandoverModel", "hasRequest", "(I)Z"⟩ ⟨"CellHandoverModel", "hasRequest", "(I)Z"⟩ ∈ ch_GL := ch_sel (q := (⟨"CellHandoverModel", "hasRequest", "(I)Z"⟩, 25)) (List.mem_of_getElem? (i := 82) rfl)
theorem ks_83 : Cond.selects (⟨"CellHandoverModel", "consider", "(I)V"⟩ : MethodName).cls ⟨"CellHandoverModel", "consider", "(I)V"⟩ ⟨"CellHandoverModel", "consider", "(I)V"⟩ ∈ ch_GL := ch_sel (q := (⟨"CellHandoverModel", "consider", "(I)V"⟩, 25)) (List.mem_of_getElem? (i := 83) rfl)
theorem ks_84 : Cond.selects (⟨"CellHandoverModel", "rank", "(I)V"⟩ : MethodName).cls ⟨"CellHandoverModel", "rank", "(I)V"⟩ ⟨"CellHandoverModel", "rank", "(I)V"⟩ ∈ ch_GL := ch_sel (q := (⟨"CellHandoverModel", "rank", "(I)V"⟩, 25)) (List.mem_of_getElem? (i := 84) rfl)
theorem ks_85 : Cond.selects (⟨"CellHandoverModel", "isEmergency", "(I)Z"⟩ : MethodName).cls ⟨"CellHandoverModel", "isEmergency", "(I)Z"⟩ ⟨"CellHandoverModel", "isEmergency", "(I)Z"⟩ ∈ ch_GL := ch_sel (q := (⟨"CellHandoverModel", "isEmergency", "(I)Z"⟩, 25)) (List.mem_of_getElem? (i := 85) rfl)
theorem ks_86 : Cond.selects (⟨"CellHandoverModel", "marginOf", "(IIZ)I"⟩ : MethodName).cls ⟨"CellHandoverModel", "marginOf", "(IIZ)I"⟩ ⟨"CellHandoverModel", "marginOf", "(IIZ)I"⟩ ∈ ch_GL := ch_sel (q := (⟨"CellHandoverModel", "marginOf", "(IIZ)I"⟩, 25)) (List.mem_of_getElem? (i := 86) rfl)
theorem ks_87 : Cond.selects (⟨"CellHandoverModel", "expire", "(I)V"⟩ : MethodName).cls ⟨"CellHandoverModel", "expire", "(I)V"⟩ ⟨"CellHandoverModel", "expire", "(I)V"⟩ ∈ ch_GL := ch_sel (q := (⟨"CellHandoverModel", "expire", "(I)V"⟩, 25)) (List.mem_of_getElem? (i := 87) rfl)
theorem ks_88 : Cond.selects (⟨"CellHandoverModel", "arePair", "(II)Z"⟩ : MethodName).cls ⟨"CellHandoverModel", "arePair", "(II)Z"⟩ ⟨"CellHandoverModel", "arePair", "(II)Z"⟩ ∈ ch_GL := ch_sel (q := (⟨"CellHandoverModel", "arePair", "(II)Z"⟩, 25)) (List.mem_of_getElem? (i := 88) rfl)
theorem ks_89 : Cond.selects (⟨"CellHandoverModel", "start", "(I)V"⟩ : MethodName).cls ⟨"CellHandoverModel", "start", "(I)V"⟩ ⟨"CellHandoverModel", "start", "(I)V"⟩ ∈ ch_GL := ch_sel (q := (⟨"CellHandoverModel", "start", "(I)V"⟩, 25)) (List.mem_of_getElem? (i := 89) rfl)
theorem ks_90 : Cond.selects (⟨"CellHandoverModel", "scan", "()V"⟩ : MethodName).cls ⟨"CellHandoverModel", "scan", "()V"⟩ ⟨"CellHandoverModel", "scan", "()V"⟩ ∈ ch_GL := ch_sel (q := (⟨"CellHandoverModel", "scan", "()V"⟩, 25)) (List.mem_of_getElem? (i := 90) rfl)
theorem ks_91 : Cond.selects (⟨"CellHandoverModel", "byteAt", "(I)I"⟩ : MethodName).cls ⟨"CellHandoverModel", "byteAt", "(I)I"⟩ ⟨"CellHandoverModel", "byteAt", "(I)I"⟩ ∈ ch_GL := ch_sel (q := (⟨"CellHandoverModel", "byteAt", "(I)I"⟩, 25)) (List.mem_of_getElem? (i := 91) rfl)
theorem ks_92 : Cond.selects (⟨"CellHandoverModel", "isLetter", "(I)Z"⟩ : MethodName).cls ⟨"CellHandoverModel", "isLetter", "(I)Z"⟩ ⟨"CellHandoverModel", "isLetter", "(I)Z"⟩ ∈ ch_GL := ch_sel (q := (⟨"CellHandoverModel", "isLetter", "(I)Z"⟩, 25)) (List.mem_of_getElem? (i := 92) rfl)
theorem ks_93 : Cond.selects (⟨"CellHandoverModel", "isDigit", "(I)Z"⟩ : MethodName).cls ⟨"CellHandoverModel", "isDigit", "(I)Z"⟩ ⟨"CellHandoverModel", "isDigit", "(I)Z"⟩ ∈ ch_GL := ch_sel (q := (⟨"CellHandoverModel", "isDigit", "(I)Z"⟩, 25)) (List.mem_of_getElem? (i := 93) rfl)
theorem ks_94 : Cond.selects (⟨"CellHandoverModel", "isWord", "(Ljava/lang/String;)Z"⟩ : MethodName).cls ⟨"CellHandoverModel", "isWord", "(Ljava/lang/String;)Z"⟩ ⟨"CellHandoverModel", "isWord", "(Ljava/lang/String;)Z"⟩ ∈ ch_GL := ch_sel (q := (⟨"CellHandoverModel", "isWord", "(Ljava/lang/String;)Z"⟩, 25)) (List.mem_of_getElem? (i := 94) rfl)
theorem ks_95 : Cond.selects (⟨"CellHandoverModel", "readCell", "()V"⟩ : MethodName).cls ⟨"CellHandoverModel", "readCell", "()V"⟩ ⟨"CellHandoverModel", "readCell", "()V"⟩ ∈ ch_GL := ch_sel (q := (⟨"CellHandoverModel", "readCell", "()V"⟩, 25)) (List.mem_of_getElem? (i := 95) rfl)
theorem ks_96 : Cond.selects (⟨"CellHandoverModel", "check", "(ZI)V"⟩ : MethodName).cls ⟨"CellHandoverModel", "check", "(ZI)V"⟩ ⟨"CellHandoverModel", "check", "(ZI)V"⟩ ∈ ch_GL := ch_sel (q := (⟨"CellHandoverModel", "check", "(ZI)V"⟩, 25)) (List.mem_of_getElem? (i := 96) rfl)
theorem ks_97 : Cond.selects (⟨"CellHandoverModel", "fail", "(I)V"⟩ : MethodName).cls ⟨"CellHandoverModel", "fail", "(I)V"⟩ ⟨"CellHandoverModel", "fail", "(I)V"⟩ ∈ ch_GL := ch_sel (q := (⟨"CellHandoverModel", "fail", "(I)V"⟩, 25)) (List.mem_of_getElem? (i := 97) rfl)
theorem ks_98 : Cond.selects (⟨"CellHandoverModel", "advance", "()V"⟩ : MethodName).cls ⟨"CellHandoverModel", "advance", "()V"⟩ ⟨"CellHandoverModel", "advance", "()V"⟩ ∈ ch_GL := ch_sel (q := (⟨"CellHandoverModel", "advance", "()V"⟩, 25)) (List.mem_of_getElem? (i := 98) rfl)
theorem ks_99 : Cond.selects (⟨"CellHandoverModel", "putNumber", "(III)V"⟩ : MethodName).cls ⟨"CellHandoverModel", "putNumber", "(III)V"⟩ ⟨"CellHandoverModel", "putNumber", "(III)V"⟩ ∈ ch_GL := ch_sel (q := (⟨"CellHandoverModel", "putNumber", "(III)V"⟩, 25)) (List.mem_of_getElem? (i := 99) rfl)
theorem ks_100 : Cond.selects (⟨"CellHandoverModel", "number", "(II)I"⟩ : MethodName).cls ⟨"CellHandoverModel", "number", "(II)I"⟩ ⟨"CellHandoverModel", "number", "(II)I"⟩ ∈ ch_GL := ch_sel (q := (⟨"CellHandoverModel", "number", "(II)I"⟩, 25)) (List.mem_of_getElem? (i := 100) rfl)
theorem ks_101 : Cond.selects (⟨"CellHandoverModel", "value", "()I"⟩ : MethodName).cls ⟨"CellHandoverModel", "value", "()I"⟩ ⟨"CellHandoverModel", "value", "()I"⟩ ∈ ch_GL := ch_sel (q := (⟨"CellHandoverModel", "value", "()I"⟩, 25)) (List.mem_of_getElem? (i := 101) rfl)
theorem ks_102 : Cond.selects (⟨"CellHandoverModel", "readRelation", "()V"⟩ : MethodName).cls ⟨"CellHandoverModel", "readRelation", "()V"⟩ ⟨"CellHandoverModel", "readRelation", "()V"⟩ ∈ ch_GL := ch_sel (q := (⟨"CellHandoverModel", "readRelation", "()V"⟩, 25)) (List.mem_of_getElem? (i := 102) rfl)
theorem ks_103 : Cond.selects (⟨"CellHandoverModel", "existing", "()I"⟩ : MethodName).cls ⟨"CellHandoverModel", "existing", "()I"⟩ ⟨"CellHandoverModel", "existing", "()I"⟩ ∈ ch_GL := ch_sel (q := (⟨"CellHandoverModel", "existing", "()I"⟩, 25)) (List.mem_of_getElem? (i := 103) rfl)
theorem ks_104 : Cond.selects (⟨"CellHandoverModel", "readSettings", "()V"⟩ : MethodName).cls ⟨"CellHandoverModel", "readSettings", "()V"⟩ ⟨"CellHandoverModel", "readSettings", "()V"⟩ ∈ ch_GL := ch_sel (q := (⟨"CellHandoverModel", "readSettings", "()V"⟩, 25)) (List.mem_of_getElem? (i := 104) rfl)
theorem ks_105 : Cond.selects (⟨"CellHandoverModel", "expectWord", "(Ljava/lang/String;)V"⟩ : MethodName).cls ⟨"CellHandoverModel", "expectWord", "(Ljava/lang/String;)V"⟩ ⟨"CellHandoverModel", "expectWord", "(Ljava/lang/String;)V"⟩ ∈ ch_GL := ch_sel (q := (⟨"CellHandoverModel", "expectWord", "(Ljava/lang/String;)V"⟩, 25)) (List.mem_of_getElem? (i := 105) rfl)
theorem ks_106 : Cond.selects (⟨"CellHandoverModel", "expect", "(I)V"⟩ : MethodName).cls ⟨"CellHandoverModel", "expect", "(I)V"⟩ ⟨"CellHandoverModel", "expect", "(I)V"⟩ ∈ ch_GL := ch_sel (q := (⟨"CellHandoverModel", "expect", "(I)V"⟩, 25)) (List.mem_of_getElem? (i := 106) rfl)
theorem ks_107 : Cond.selects (⟨"CellHandoverModel", "isSymbol", "(I)Z"⟩ : MethodName).cls ⟨"CellHandoverModel", "isSymbol", "(I)Z"⟩ ⟨"CellHandoverModel", "isSymbol", "(I)Z"⟩ ∈ ch_GL := ch_sel (q := (⟨"CellHandoverModel", "isSymbol", "(I)Z"⟩, 25)) (List.mem_of_getElem? (i := 107) rfl)
theorem ks_108 : Cond.selects (⟨"CellHandoverModel", "finish", "()I"⟩ : MethodName).cls ⟨"CellHandoverModel", "finish", "()I"⟩ ⟨"CellHandoverModel", "finish", "()I"⟩ ∈ ch_GL := ch_sel (q := (⟨"CellHandoverModel", "finish", "()I"⟩, 25)) (List.mem_of_getElem? (i := 108) rfl)
theorem ks_109 : Cond.selects (⟨"CellHandoverModel", "compileTest", "()V"⟩ : MethodName).cls ⟨"CellHandoverModel", "compileTest", "()V"⟩ ⟨"CellHandoverModel", "compileTest", "()V"⟩ ∈ ch_GL := ch_sel (q := (⟨"CellHandoverModel", "compileTest", "()V"⟩, 25)) (List.mem_of_getElem? (i := 109) rfl)
theorem ks_110 : Cond.selects (⟨"CellHandoverModel", "compileConjunction", "()V"⟩ : MethodName).cls ⟨"CellHandoverModel", "compileConjunction", "()V"⟩ ⟨"CellHandoverModel", "compileConjunction", "()V"⟩ ∈ ch_GL := ch_sel (q := (⟨"CellHandoverModel", "compileConjunction", "()V"⟩, 25)) (List.mem_of_getElem? (i := 110) rfl)
theorem ks_111 : Cond.selects (⟨"CellHandoverModel", "compileFactor", "()V"⟩ : MethodName).cls ⟨"CellHandoverModel", "compileFactor", "()V"⟩ ⟨"CellHandoverModel", "compileFactor", "()V"⟩ ∈ ch_GL := ch_sel (q := (⟨"CellHandoverModel", "compileFactor", "()V"⟩, 25)) (List.mem_of_getElem? (i := 111) rfl)
theorem ks_112 : Cond.selects (⟨"CellHandoverModel", "enter", "()V"⟩ : MethodName).cls ⟨"CellHandoverModel", "enter", "()V"⟩ ⟨"CellHandoverModel", "enter", "()V"⟩ ∈ ch_GL := ch_sel (q := (⟨"CellHandoverModel", "enter", "()V"⟩, 25)) (List.mem_of_getElem? (i := 112) rfl)
theorem ks_113 : Cond.selects (⟨"CellHandoverModel", "emit", "(I)V"⟩ : MethodName).cls ⟨"CellHandoverModel", "emit", "(I)V"⟩ ⟨"CellHandoverModel", "emit", "(I)V"⟩ ∈ ch_GL := ch_sel (q := (⟨"CellHandoverModel", "emit", "(I)V"⟩, 25)) (List.mem_of_getElem? (i := 113) rfl)
theorem ks_114 : Cond.selects (⟨"CellHandoverModel", "compileValue", "()V"⟩ : MethodName).cls ⟨"CellHandoverModel", "compileValue", "()V"⟩ ⟨"CellHandoverModel", "compileValue", "()V"⟩ ∈ ch_GL := ch_sel (q := (⟨"CellHandoverModel", "compileValue", "()V"⟩, 25)) (List.mem_of_getElem? (i := 114) rfl)
theorem ks_115 : Cond.selects (⟨"CellHandoverModel", "accept", "(Ljava/lang/String;)Z"⟩ : MethodName).cls ⟨"CellHandoverModel", "accept", "(Ljava/lang/String;)Z"⟩ ⟨"CellHandoverModel", "accept", "(Ljava/lang/String;)Z"⟩ ∈ ch_GL := ch_sel (q := (⟨"CellHandoverModel", "accept", "(Ljava/lang/String;)Z"⟩, 25)) (List.mem_of_getElem? (i := 115) rfl)
theorem ks_116 : Cond.selects (⟨"CellHandoverModel", "holds", "(I)Z"⟩ : MethodName).cls ⟨"CellHandoverModel", "holds", "(I)Z"⟩ ⟨"CellHandoverModel", "holds", "(I)Z"⟩ ∈ ch_GL := ch_sel (q := (⟨"CellHandoverModel", "holds", "(I)Z"⟩, 25)) (List.mem_of_getElem? (i := 116) rfl)
theorem ks_117 : Cond.selects (⟨"CellHandoverModel", "property", "(II)I"⟩ : MethodName).cls ⟨"CellHandoverModel", "property", "(II)I"⟩ ⟨"CellHandoverModel", "property", "(II)I"⟩ ∈ ch_GL := ch_sel (q := (⟨"CellHandoverModel", "property", "(II)I"⟩, 25)) (List.mem_of_getElem? (i := 117) rfl)
