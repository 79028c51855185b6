section
-- ===== PART A: goes FIRST, ahead of the names: the tables' words, and 'selects' of the private methods out of them =====
/-- a private method of a class that the tables say can be made, by its rows of tables_1 -/
def lw_okq (q : MethodName × Nat) : Prop := (q.1.cls ≠ "java/lang/invoke/MethodHandle" ∧ q.1.cls ≠ "java/lang/invoke/VarHandle") ∧ Cond.instantiable q.1.cls q.2 ∈ tables_1 ∧ Cond.privateMethod q.1 ∈ tables_1 ∧ Cond.instanceMethod q.1 ∈ tables_1
theorem lw_p0 : lw_okq (⟨"java/util/ArrayList", "add", "(Ljava/lang/Object;[Ljava/lang/Object;I)V"⟩, 3) := ⟨⟨by decide +kernel, by decide +kernel⟩, List.mem_of_getElem? (i := 35) (by decide +kernel), List.mem_of_getElem? (i := 154) (by decide +kernel), List.mem_of_getElem? (i := 155) (by decide +kernel)⟩
theorem lw_p1 : lw_okq (⟨"java/util/ArrayList", "grow", "()[Ljava/lang/Object;"⟩, 3) := ⟨⟨by decide +kernel, by decide +kernel⟩, List.mem_of_getElem? (i := 35) (by decide +kernel), List.mem_of_getElem? (i := 158) (by decide +kernel), List.mem_of_getElem? (i := 159) (by decide +kernel)⟩
theorem lw_p2 : lw_okq (⟨"java/util/ArrayList", "grow", "(I)[Ljava/lang/Object;"⟩, 3) := ⟨⟨by decide +kernel, by decide +kernel⟩, List.mem_of_getElem? (i := 35) (by decide +kernel), List.mem_of_getElem? (i := 162) (by decide +kernel), List.mem_of_getElem? (i := 163) (by decide +kernel)⟩
theorem lw_p3 : lw_okq (⟨"ToolCrib", "isCutToEnd", "(LToolCrib$Pallet;)Z"⟩, 13) := ⟨⟨by decide +kernel, by decide +kernel⟩, List.mem_of_getElem? (i := 27) (by decide +kernel), List.mem_of_getElem? (i := 274) (by decide +kernel), List.mem_of_getElem? (i := 275) (by decide +kernel)⟩
theorem lw_p4 : lw_okq (⟨"ToolCrib$Walk", "enter", "(I)V"⟩, 11) := ⟨⟨by decide +kernel, by decide +kernel⟩, List.mem_of_getElem? (i := 61) (by decide +kernel), List.mem_of_getElem? (i := 286) (by decide +kernel), List.mem_of_getElem? (i := 287) (by decide +kernel)⟩
theorem lw_p5 : lw_okq (⟨"ToolCrib$Walk", "leaveEnded", "()V"⟩, 11) := ⟨⟨by decide +kernel, by decide +kernel⟩, List.mem_of_getElem? (i := 61) (by decide +kernel), List.mem_of_getElem? (i := 301) (by decide +kernel), List.mem_of_getElem? (i := 302) (by decide +kernel)⟩
theorem lw_p6 : lw_okq (⟨"java/util/ArrayList", "fastRemove", "([Ljava/lang/Object;I)V"⟩, 3) := ⟨⟨by decide +kernel, by decide +kernel⟩, List.mem_of_getElem? (i := 35) (by decide +kernel), List.mem_of_getElem? (i := 309) (by decide +kernel), List.mem_of_getElem? (i := 310) (by decide +kernel)⟩
theorem lw_p7 : lw_okq (⟨"ToolCrib$Walk", "obeyNext", "(I)V"⟩, 11) := ⟨⟨by decide +kernel, by decide +kernel⟩, List.mem_of_getElem? (i := 61) (by decide +kernel), List.mem_of_getElem? (i := 315) (by decide +kernel), List.mem_of_getElem? (i := 316) (by decide +kernel)⟩
theorem lw_p8 : lw_okq (⟨"ToolCrib$Walk", "aim", "(III)V"⟩, 11) := ⟨⟨by decide +kernel, by decide +kernel⟩, List.mem_of_getElem? (i := 61) (by decide +kernel), List.mem_of_getElem? (i := 319) (by decide +kernel), List.mem_of_getElem? (i := 320) (by decide +kernel)⟩
theorem lw_p9 : lw_okq (⟨"ToolCrib$Walk", "changeTool", "(I)V"⟩, 11) := ⟨⟨by decide +kernel, by decide +kernel⟩, List.mem_of_getElem? (i := 61) (by decide +kernel), List.mem_of_getElem? (i := 323) (by decide +kernel), List.mem_of_getElem? (i := 324) (by decide +kernel)⟩
theorem lw_p10 : lw_okq (⟨"ToolCrib", "lowestToolFor", "(I)LToolCrib$Tool;"⟩, 13) := ⟨⟨by decide +kernel, by decide +kernel⟩, List.mem_of_getElem? (i := 27) (by decide +kernel), List.mem_of_getElem? (i := 335) (by decide +kernel), List.mem_of_getElem? (i := 336) (by decide +kernel)⟩
theorem lw_p11 : lw_okq (⟨"ToolCrib", "cutBy", "(LToolCrib$Tool;LToolCrib$Pallet;)V"⟩, 13) := ⟨⟨by decide +kernel, by decide +kernel⟩, List.mem_of_getElem? (i := 27) (by decide +kernel), List.mem_of_getElem? (i := 345) (by decide +kernel), List.mem_of_getElem? (i := 346) (by decide +kernel)⟩
theorem lw_p12 : lw_okq (⟨"ToolCrib", "greatestPart", "()I"⟩, 13) := ⟨⟨by decide +kernel, by decide +kernel⟩, List.mem_of_getElem? (i := 27) (by decide +kernel), List.mem_of_getElem? (i := 350) (by decide +kernel), List.mem_of_getElem? (i := 351) (by decide +kernel)⟩
theorem lw_p13 : lw_okq (⟨"ToolCrib", "countLeft", "(I)I"⟩, 13) := ⟨⟨by decide +kernel, by decide +kernel⟩, List.mem_of_getElem? (i := 27) (by decide +kernel), List.mem_of_getElem? (i := 363) (by decide +kernel), List.mem_of_getElem? (i := 364) (by decide +kernel)⟩
theorem lw_p14 : lw_okq (⟨"ToolCrib", "isEnoughFor", "(LToolCrib$Pallet;)Z"⟩, 13) := ⟨⟨by decide +kernel, by decide +kernel⟩, List.mem_of_getElem? (i := 27) (by decide +kernel), List.mem_of_getElem? (i := 367) (by decide +kernel), List.mem_of_getElem? (i := 368) (by decide +kernel)⟩
theorem lw_p15 : lw_okq (⟨"java/lang/Throwable", "fillInStackTrace", "(I)Ljava/lang/Throwable;"⟩, 6) := ⟨⟨by decide +kernel, by decide +kernel⟩, List.mem_of_getElem? (i := 441) (by decide +kernel), List.mem_of_getElem? (i := 439) (by decide +kernel), List.mem_of_getElem? (i := 440) (by decide +kernel)⟩
def lw_privs_1 : List (MethodName × Nat) := [(⟨"java/util/ArrayList", "add", "(Ljava/lang/Object;[Ljava/lang/Object;I)V"⟩, 3), (⟨"java/util/ArrayList", "grow", "()[Ljava/lang/Object;"⟩, 3), (⟨"java/util/ArrayList", "grow", "(I)[Ljava/lang/Object;"⟩, 3), (⟨"ToolCrib", "isCutToEnd", "(LToolCrib$Pallet;)Z"⟩, 13), (⟨"ToolCrib$Walk", "enter", "(I)V"⟩, 11), (⟨"ToolCrib$Walk", "leaveEnded", "()V"⟩, 11), (⟨"java/util/ArrayList", "fastRemove", "([Ljava/lang/Object;I)V"⟩, 3), (⟨"ToolCrib$Walk", "obeyNext", "(I)V"⟩, 11), (⟨"ToolCrib$Walk", "aim", "(III)V"⟩, 11), (⟨"ToolCrib$Walk", "changeTool", "(I)V"⟩, 11), (⟨"ToolCrib", "lowestToolFor", "(I)LToolCrib$Tool;"⟩, 13), (⟨"ToolCrib", "cutBy", "(LToolCrib$Tool;LToolCrib$Pallet;)V"⟩, 13), (⟨"ToolCrib", "greatestPart", "()I"⟩, 13), (⟨"ToolCrib", "countLeft", "(I)I"⟩, 13), (⟨"ToolCrib", "isEnoughFor", "(LToolCrib$Pallet;)Z"⟩, 13), (⟨"java/lang/Throwable", "fillInStackTrace", "(I)Ljava/lang/Throwable;"⟩, 6)]
theorem lw_r1 : ∀ q ∈ lw_privs_1, lw_okq q := List.forall_mem_cons.mpr ⟨lw_p0, List.forall_mem_cons.mpr ⟨lw_p1, List.forall_mem_cons.mpr ⟨lw_p2, List.forall_mem_cons.mpr ⟨lw_p3, List.forall_mem_cons.mpr ⟨lw_p4, List.forall_mem_cons.mpr ⟨lw_p5, List.forall_mem_cons.mpr ⟨lw_p6, List.forall_mem_cons.mpr ⟨lw_p7, List.forall_mem_cons.mpr ⟨lw_p8, List.forall_mem_cons.mpr ⟨lw_p9, List.forall_mem_cons.mpr ⟨lw_p10, List.forall_mem_cons.mpr ⟨lw_p11, List.forall_mem_cons.mpr ⟨lw_p12, List.forall_mem_cons.mpr ⟨lw_p13, List.forall_mem_cons.mpr ⟨lw_p14, List.forall_mem_cons.mpr ⟨lw_p15, fun _ h => absurd h List.not_mem_nil⟩⟩⟩⟩⟩⟩⟩⟩⟩⟩⟩⟩⟩⟩⟩⟩
theorem lw_p16 : lw_okq (⟨"ToolCrib", "programAt", "(I)LToolCrib$Program;"⟩, 13) := ⟨⟨by decide +kernel, by decide +kernel⟩, List.mem_of_getElem? (i := 27) (by decide +kernel), List.mem_of_getElem? (i := 500) (by decide +kernel), List.mem_of_getElem? (i := 501) (by decide +kernel)⟩
theorem lw_p17 : lw_okq (⟨"ToolCrib", "toolAt", "(I)LToolCrib$Tool;"⟩, 13) := ⟨⟨by decide +kernel, by decide +kernel⟩, List.mem_of_getElem? (i := 27) (by decide +kernel), List.mem_of_getElem? (i := 608) (by decide +kernel), List.mem_of_getElem? (i := 609) (by decide +kernel)⟩
theorem lw_p18 : lw_okq (⟨"ToolCrib", "countLoaded", "()I"⟩, 13) := ⟨⟨by decide +kernel, by decide +kernel⟩, List.mem_of_getElem? (i := 27) (by decide +kernel), List.mem_of_getElem? (i := 613) (by decide +kernel), List.mem_of_getElem? (i := 614) (by decide +kernel)⟩
theorem lw_p19 : lw_okq (⟨"ToolCrib", "palletAt", "(I)LToolCrib$Pallet;"⟩, 13) := ⟨⟨by decide +kernel, by decide +kernel⟩, List.mem_of_getElem? (i := 27) (by decide +kernel), List.mem_of_getElem? (i := 681) (by decide +kernel), List.mem_of_getElem? (i := 682) (by decide +kernel)⟩
theorem lw_p20 : lw_okq (⟨"ToolCrib", "cellAt", "(II)I"⟩, 13) := ⟨⟨by decide +kernel, by decide +kernel⟩, List.mem_of_getElem? (i := 27) (by decide +kernel), List.mem_of_getElem? (i := 686) (by decide +kernel), List.mem_of_getElem? (i := 687) (by decide +kernel)⟩
theorem lw_p21 : lw_okq (⟨"ToolCrib", "tryWhole", "(II)V"⟩, 13) := ⟨⟨by decide +kernel, by decide +kernel⟩, List.mem_of_getElem? (i := 27) (by decide +kernel), List.mem_of_getElem? (i := 700) (by decide +kernel), List.mem_of_getElem? (i := 701) (by decide +kernel)⟩
theorem lw_p22 : lw_okq (⟨"ToolCrib", "gaugeAt", "(I)LToolCrib$Gauge;"⟩, 13) := ⟨⟨by decide +kernel, by decide +kernel⟩, List.mem_of_getElem? (i := 27) (by decide +kernel), List.mem_of_getElem? (i := 745) (by decide +kernel), List.mem_of_getElem? (i := 746) (by decide +kernel)⟩
theorem lw_p23 : lw_okq (⟨"ToolCrib", "drawingAt", "(I)LToolCrib$Drawing;"⟩, 13) := ⟨⟨by decide +kernel, by decide +kernel⟩, List.mem_of_getElem? (i := 27) (by decide +kernel), List.mem_of_getElem? (i := 796) (by decide +kernel), List.mem_of_getElem? (i := 797) (by decide +kernel)⟩
theorem lw_p24 : lw_okq (⟨"ToolCrib", "tell", "(II)V"⟩, 13) := ⟨⟨by decide +kernel, by decide +kernel⟩, List.mem_of_getElem? (i := 27) (by decide +kernel), List.mem_of_getElem? (i := 873) (by decide +kernel), List.mem_of_getElem? (i := 874) (by decide +kernel)⟩
theorem lw_p25 : lw_okq (⟨"ToolCrib$Tool", "isOneWay", "()Z"⟩, 8) := ⟨⟨by decide +kernel, by decide +kernel⟩, List.mem_of_getElem? (i := 563) (by decide +kernel), List.mem_of_getElem? (i := 902) (by decide +kernel), List.mem_of_getElem? (i := 903) (by decide +kernel)⟩
theorem lw_p26 : lw_okq (⟨"ToolCrib", "placeInQueue", "(LToolCrib$Pallet;)I"⟩, 13) := ⟨⟨by decide +kernel, by decide +kernel⟩, List.mem_of_getElem? (i := 27) (by decide +kernel), List.mem_of_getElem? (i := 930) (by decide +kernel), List.mem_of_getElem? (i := 931) (by decide +kernel)⟩
theorem lw_p27 : lw_okq (⟨"ToolCrib", "paperAt", "(I)LToolCrib$Paper;"⟩, 13) := ⟨⟨by decide +kernel, by decide +kernel⟩, List.mem_of_getElem? (i := 27) (by decide +kernel), List.mem_of_getElem? (i := 941) (by decide +kernel), List.mem_of_getElem? (i := 942) (by decide +kernel)⟩
theorem lw_p28 : lw_okq (⟨"ToolCribModel", "goes", "(ZZZ)Z"⟩, 45) := ⟨⟨by decide +kernel, by decide +kernel⟩, List.mem_of_getElem? (i := 953) (by decide +kernel), List.mem_of_getElem? (i := 1104) (by decide +kernel), List.mem_of_getElem? (i := 1105) (by decide +kernel)⟩
theorem lw_p29 : lw_okq (⟨"ToolCribModel", "isProgram", "(I)Z"⟩, 45) := ⟨⟨by decide +kernel, by decide +kernel⟩, List.mem_of_getElem? (i := 953) (by decide +kernel), List.mem_of_getElem? (i := 1112) (by decide +kernel), List.mem_of_getElem? (i := 1113) (by decide +kernel)⟩
theorem lw_p30 : lw_okq (⟨"ToolCribModel", "isTool", "(I)Z"⟩, 45) := ⟨⟨by decide +kernel, by decide +kernel⟩, List.mem_of_getElem? (i := 953) (by decide +kernel), List.mem_of_getElem? (i := 1134) (by decide +kernel), List.mem_of_getElem? (i := 1135) (by decide +kernel)⟩
theorem lw_p31 : lw_okq (⟨"ToolCribModel", "countLoaded", "()I"⟩, 45) := ⟨⟨by decide +kernel, by decide +kernel⟩, List.mem_of_getElem? (i := 953) (by decide +kernel), List.mem_of_getElem? (i := 1138) (by decide +kernel), List.mem_of_getElem? (i := 1139) (by decide +kernel)⟩
def lw_privs_2 : List (MethodName × Nat) := [(⟨"ToolCrib", "programAt", "(I)LToolCrib$Program;"⟩, 13), (⟨"ToolCrib", "toolAt", "(I)LToolCrib$Tool;"⟩, 13), (⟨"ToolCrib", "countLoaded", "()I"⟩, 13), (⟨"ToolCrib", "palletAt", "(I)LToolCrib$Pallet;"⟩, 13), (⟨"ToolCrib", "cellAt", "(II)I"⟩, 13), (⟨"ToolCrib", "tryWhole", "(II)V"⟩, 13), (⟨"ToolCrib", "gaugeAt", "(I)LToolCrib$Gauge;"⟩, 13), (⟨"ToolCrib", "drawingAt", "(I)LToolCrib$Drawing;"⟩, 13), (⟨"ToolCrib", "tell", "(II)V"⟩, 13), (⟨"ToolCrib$Tool", "isOneWay", "()Z"⟩, 8), (⟨"ToolCrib", "placeInQueue", "(LToolCrib$Pallet;)I"⟩, 13), (⟨"ToolCrib", "paperAt", "(I)LToolCrib$Paper;"⟩, 13), (⟨"ToolCribModel", "goes", "(ZZZ)Z"⟩, 45), (⟨"ToolCribModel", "isProgram", "(I)Z"⟩, 45), (⟨"ToolCribModel", "isTool", "(I)Z"⟩, 45), (⟨"ToolCribModel", "countLoaded", "()I"⟩, 45)]
theorem lw_r2 : ∀ q ∈ lw_privs_2, lw_okq q := List.forall_mem_cons.mpr ⟨lw_p16, List.forall_mem_cons.mpr ⟨lw_p17, List.forall_mem_cons.mpr ⟨lw_p18, List.forall_mem_cons.mpr ⟨lw_p19, List.forall_mem_cons.mpr ⟨lw_p20, List.forall_mem_cons.mpr ⟨lw_p21, List.forall_mem_cons.mpr ⟨lw_p22, List.forall_mem_cons.mpr ⟨lw_p23, List.forall_mem_cons.mpr ⟨lw_p24, List.forall_mem_cons.mpr ⟨lw_p25, List.forall_mem_cons.mpr ⟨lw_p26, List.forall_mem_cons.mpr ⟨lw_p27, List.forall_mem_cons.mpr ⟨lw_p28, List.forall_mem_cons.mpr ⟨lw_p29, List.forall_mem_cons.mpr ⟨lw_p30, List.forall_mem_cons.mpr ⟨lw_p31, fun _ h => absurd h List.not_mem_nil⟩⟩⟩⟩⟩⟩⟩⟩⟩⟩⟩⟩⟩⟩⟩⟩
theorem lw_p32 : lw_okq (⟨"ToolCribModel", "isPallet", "(I)Z"⟩, 45) := ⟨⟨by decide +kernel, by decide +kernel⟩, List.mem_of_getElem? (i := 953) (by decide +kernel), List.mem_of_getElem? (i := 1150) (by decide +kernel), List.mem_of_getElem? (i := 1151) (by decide +kernel)⟩
theorem lw_p33 : lw_okq (⟨"ToolCribModel", "runs", "(IIII)I"⟩, 45) := ⟨⟨by decide +kernel, by decide +kernel⟩, List.mem_of_getElem? (i := 953) (by decide +kernel), List.mem_of_getElem? (i := 1161) (by decide +kernel), List.mem_of_getElem? (i := 1162) (by decide +kernel)⟩
theorem lw_p34 : lw_okq (⟨"ToolCribModel", "moves", "(IIIII)I"⟩, 45) := ⟨⟨by decide +kernel, by decide +kernel⟩, List.mem_of_getElem? (i := 953) (by decide +kernel), List.mem_of_getElem? (i := 1165) (by decide +kernel), List.mem_of_getElem? (i := 1166) (by decide +kernel)⟩
theorem lw_p35 : lw_okq (⟨"ToolCribModel", "step", "(III)I"⟩, 45) := ⟨⟨by decide +kernel, by decide +kernel⟩, List.mem_of_getElem? (i := 953) (by decide +kernel), List.mem_of_getElem? (i := 1169) (by decide +kernel), List.mem_of_getElem? (i := 1170) (by decide +kernel)⟩
theorem lw_p36 : lw_okq (⟨"ToolCribModel", "toolFor", "(I[I)I"⟩, 45) := ⟨⟨by decide +kernel, by decide +kernel⟩, List.mem_of_getElem? (i := 953) (by decide +kernel), List.mem_of_getElem? (i := 1173) (by decide +kernel), List.mem_of_getElem? (i := 1174) (by decide +kernel)⟩
theorem lw_p37 : lw_okq (⟨"ToolCribModel", "cutsIn", "(III)V"⟩, 45) := ⟨⟨by decide +kernel, by decide +kernel⟩, List.mem_of_getElem? (i := 953) (by decide +kernel), List.mem_of_getElem? (i := 1177) (by decide +kernel), List.mem_of_getElem? (i := 1178) (by decide +kernel)⟩
theorem lw_p38 : lw_okq (⟨"ToolCribModel", "sets", "(II)I"⟩, 45) := ⟨⟨by decide +kernel, by decide +kernel⟩, List.mem_of_getElem? (i := 953) (by decide +kernel), List.mem_of_getElem? (i := 1181) (by decide +kernel), List.mem_of_getElem? (i := 1182) (by decide +kernel)⟩
theorem lw_p39 : lw_okq (⟨"ToolCribModel", "isDrawing", "(I)Z"⟩, 45) := ⟨⟨by decide +kernel, by decide +kernel⟩, List.mem_of_getElem? (i := 953) (by decide +kernel), List.mem_of_getElem? (i := 1225) (by decide +kernel), List.mem_of_getElem? (i := 1226) (by decide +kernel)⟩
theorem lw_p40 : lw_okq (⟨"ToolCribModel", "sizeOf", "(I)I"⟩, 45) := ⟨⟨by decide +kernel, by decide +kernel⟩, List.mem_of_getElem? (i := 953) (by decide +kernel), List.mem_of_getElem? (i := 1237) (by decide +kernel), List.mem_of_getElem? (i := 1238) (by decide +kernel)⟩
theorem lw_p41 : lw_okq (⟨"ToolCribModel", "tells", "(II)V"⟩, 45) := ⟨⟨by decide +kernel, by decide +kernel⟩, List.mem_of_getElem? (i := 953) (by decide +kernel), List.mem_of_getElem? (i := 1241) (by decide +kernel), List.mem_of_getElem? (i := 1242) (by decide +kernel)⟩
theorem lw_p42 : lw_okq (⟨"ToolCribModel", "verdictOf", "(I)I"⟩, 45) := ⟨⟨by decide +kernel, by decide +kernel⟩, List.mem_of_getElem? (i := 953) (by decide +kernel), List.mem_of_getElem? (i := 1245) (by decide +kernel), List.mem_of_getElem? (i := 1246) (by decide +kernel)⟩
theorem lw_p43 : lw_okq (⟨"ToolCribModel", "causeOf", "(I)I"⟩, 45) := ⟨⟨by decide +kernel, by decide +kernel⟩, List.mem_of_getElem? (i := 953) (by decide +kernel), List.mem_of_getElem? (i := 1272) (by decide +kernel), List.mem_of_getElem? (i := 1273) (by decide +kernel)⟩
def lw_privs_3 : List (MethodName × Nat) := [(⟨"ToolCribModel", "isPallet", "(I)Z"⟩, 45), (⟨"ToolCribModel", "runs", "(IIII)I"⟩, 45), (⟨"ToolCribModel", "moves", "(IIIII)I"⟩, 45), (⟨"ToolCribModel", "step", "(III)I"⟩, 45), (⟨"ToolCribModel", "toolFor", "(I[I)I"⟩, 45), (⟨"ToolCribModel", "cutsIn", "(III)V"⟩, 45), (⟨"ToolCribModel", "sets", "(II)I"⟩, 45), (⟨"ToolCribModel", "isDrawing", "(I)Z"⟩, 45), (⟨"ToolCribModel", "sizeOf", "(I)I"⟩, 45), (⟨"ToolCribModel", "tells", "(II)V"⟩, 45), (⟨"ToolCribModel", "verdictOf", "(I)I"⟩, 45), (⟨"ToolCribModel", "causeOf", "(I)I"⟩, 45)]
theorem lw_r3 : ∀ q ∈ lw_privs_3, lw_okq q := List.forall_mem_cons.mpr ⟨lw_p32, List.forall_mem_cons.mpr ⟨lw_p33, List.forall_mem_cons.mpr ⟨lw_p34, List.forall_mem_cons.mpr ⟨lw_p35, List.forall_mem_cons.mpr ⟨lw_p36, List.forall_mem_cons.mpr ⟨lw_p37, List.forall_mem_cons.mpr ⟨lw_p38, List.forall_mem_cons.mpr ⟨lw_p39, List.forall_mem_cons.mpr ⟨lw_p40, List.forall_mem_cons.mpr ⟨lw_p41, List.forall_mem_cons.mpr ⟨lw_p42, List.forall_mem_cons.mpr ⟨lw_p43, fun _ h => absurd h List.not_mem_nil⟩⟩⟩⟩⟩⟩⟩⟩⟩⟩⟩⟩
def lw_privs : List (MethodName × Nat) := lw_privs_1 ++ (lw_privs_2 ++ (lw_privs_3))
def lw_tbl : List Cond := k2_sels lw_privs ++ tables_1
theorem lw_privs_ok : ∀ q ∈ lw_privs, lw_okq q := by
  show ∀ q ∈ lw_privs_1 ++ (lw_privs_2 ++ (lw_privs_3)), lw_okq q
  exact List.forall_mem_append.mpr ⟨lw_r1, List.forall_mem_append.mpr ⟨lw_r2, lw_r3⟩⟩
end
section
/-! ===== BEGIN words of one list among another's, by their places ===== -/
theorem goodIn_r {big : List Cond} (ws : List Cond) (ps : List Nat) (hp : ws = ps.filterMap (fun i => big[i]?)) (h : ws.all goodWord = true) : GoodIn big ws := by
  intro w hw
  have h1 := List.all_eq_true.mp h w hw
  rw [hp] at hw
  obtain ⟨i, -, hi⟩ := List.mem_filterMap.mp hw
  have hm : w ∈ big := by first | exact List.mem_of_getElem? hi | exact List.getElem?_mem hi
  exact ⟨hm, good_of_word h1⟩
theorem goodIn_app {big a b : List Cond} (ha : GoodIn big a) (hb : GoodIn big b) : GoodIn big (a ++ b) := fun w h => (List.mem_append.mp h).elim (ha w) (hb w)
theorem goodIn_ca {big a b : List Cond} {c : Cond} (ha : GoodIn big (c :: a)) (hb : GoodIn big b) : GoodIn big (c :: (a ++ b)) := fun w h => (List.mem_cons.mp h).elim (fun e => ha w (List.mem_cons.mpr (Or.inl e))) (fun h => (List.mem_append.mp h).elim (fun h => ha w (List.mem_cons.mpr (Or.inr h))) (hb w))
theorem goodIn_sub {big ws : List Cond} (hm : ∀ w ∈ ws, w ∈ big) (h : ws.all goodWord = true) : GoodIn big ws := fun w hw => ⟨hm w hw, good_of_word (List.all_eq_true.mp h w hw)⟩
/-! ===== END ===== -/

/-! ===== BEGIN exceptions that leave a method, and their catching by the caller (launches without stack traces) ===== -/
section VXA
/-! The laws vx_back, vx_callV, vx_callS, vx_callSW, vx_throw0, vx_throwS follow proofs of the library, with one case more: JvmDerived/Free/Laws.lean (Back.of_free), Shelf42/LK1.lean (callV, callS), Shelf/KitTraced.lean (throwNew0V, throwNewS). -/
/-- where a method has thrown q: the class by its name, the cell, what was written, the world -/
def vx_T (XC : String → State → State → Prop) (st : State) (q : Addr) (t : State) (mc ms : Nat) (free : Addr → Prop) : Prop :=
  ∃ (E : String) (ce : Cell) (L : List Loc), XC E st t ∧ t.heap[q]? = some ce ∧ ce.vm = .none ∧ st.vm.findClass E = some ce.cls ∧ st.WarmedH t.vm ∧ st.sameButNew ({ t with vm := st.vm } : State) L mc ms ∧ ∀ z ∈ L, free z.base
def vx_Q (Qc : Array Value → State → Outcome → State → Prop) (XC : String → State → State → Prop) (mc ms : Nat) (free : Addr → Prop) : Array Value → State → Outcome → State → Prop := fun a st o t =>
  (Qc a st o t ∧ ∃ L, FrameEnd st o t L mc ms ∧ ∀ q ∈ L, free q.base) ∨ ∃ q, o = .threw q ∧ vx_T XC st q t mc ms free
/-- a callee that returns or throws -/
def vx_Met (l : Launch) (y : MethodName) (ws : List Cond) (rm : Room) (Pc : Array Value → State → Prop) (Qc : Array Value → State → Outcome → State → Prop) (XC : String → State → State → Prop) (mc ms : Nat) (free : Addr → Prop) : Prop :=
  MetFree l y (headSpec ws rm) Pc (fun _ _ _ _ _ => True) (vx_Q Qc XC mc ms free)
def vx_Post (XC : String → State → State → Prop) (mc ms : Nat) (free : Addr → Prop) : Pt → Array Value → Addr → Pt → Prop := fun A a q B =>
  ∃ (g : JFrame) (mk : MethodId) (t : State) (L : List Loc) (E : String) (ce : Cell), B.U.heap = t.heap ∧ B.U.vm = t.vm ∧ XC E (A.U.calling g mk a) t ∧ t.heap[q]? = some ce ∧ ce.vm = .none ∧ A.U.vm.findClass E = some ce.cls ∧ B.locs = A.locs ++ L ∧ (∀ z ∈ L, free z.base) ∧ B.cells = A.cells + mc ∧ B.slots = A.slots + ms
def vx_Back (l : Launch) (R : Room) (p : Program) (e : Env) (below : List Frame) (s : State) (sargs : Array Value) (y : MethodName) (len W9 : Nat)
    (Pre : Pt → Array Value → Prop) (Post : Pt → Array Value → Option Value → Pt → Prop) (PostX : Pt → Array Value → Addr → Pt → Prop) : Prop :=
  ∀ (m : MethodId) (meth : Method) (c : Code) (A : Pt) (g : JFrame) (ig : Instr) (mk : MethodId) (a : Array Value),
    Stand p l e R s m sargs below meth c A.U A.locs A.cells A.slots → g.method = m → g.locals.size = c.maxLocals → decode c.code g.pc = .ok (ig, len) →
    2 * g.monitorRoom + (g.stack.map fun v => v.category).sum ≤ W9 → A.U.methodNamed? y = some mk → Pre A a →
    (∃ (v : Option Value) (B : Pt), Stand p l e R s m sargs below meth c B.U B.locs B.cells B.slots ∧ Post A a v B ∧
      Steps p.tables e below (doInvoke e (A.U.setTop g) [] mk a).1 (B.U.setTop { g with pc := g.pc + len, stack := v.toList ++ g.stack })) ∨
    (∃ (q : Addr) (B : Pt), Stand p l e R s m sargs below meth c B.U B.locs B.cells B.slots ∧ PostX A a q B ∧
      Steps p.tables e below (doInvoke e (A.U.setTop g) [] mk a).1 ((B.U.setTop g).pushFrame (.throwing q)))
section Payer
variable {l : Launch} {R : Room} {p : Program} {e : Env} {below : List Frame} {s : State} {sargs : Array Value} {y : MethodName} {len W9 : Nat}
theorem vx_back {ws : List Cond} {rm : Room} {Pc : Array Value → State → Prop} {Qc : Array Value → State → Outcome → State → Prop} {XC : String → State → State → Prop} {mc ms : Nat} {free : Addr → Prop} {bytes : ByteArray} {maxL : Nat} {ret : Option FieldType}
    (hM : vx_Met l y ws rm Pc Qc XC mc ms free) (hblind : FrameBlind Pc) (hrc : rm.cells = mc) (hrs : rm.slots = ms)
    (hframes : rm.frames + 1 ≤ R.frames) (hlocals : W9 + (maxL + 11) + rm.locals ≤ R.locals)
    (hws : ∀ w ∈ ws, ∀ a' U, s.WarmedH U.vm → w.before a' U = true) (hcode : Cond.code y bytes maxL ret ∈ ws) (hinit : ∀ a' U, s.WarmedH U.vm → (Cond.initialized y.cls).before a' U = true) :
    vx_Back l R p e below s sargs y len W9 (PreOf R mc ms Pc) (PostOf Qc mc ms free) (vx_Post XC mc ms free) := by
  intro m meth c A g ig mk a X hg hsize hdg hW hn hp
  have h1 : (headSpec ws rm).pre.before a A.U = true := atoms_intro fun w hw => hws w hw _ _ X.warmed
  have h2 : (Cond.code y bytes maxL ret).before a A.U = true := hws _ hcode _ _ X.warmed
  have h3 : (Cond.initialized y.cls).before a A.U = true := hinit _ _ X.warmed
  have h4 : A.cells + (headSpec ws rm).room.cells ≤ R.cells := by rw [show (headSpec ws rm).room.cells = mc from hrc]; exact hp.1
  have h5 : A.slots + (headSpec ws rm).room.slots ≤ R.slots := by rw [show (headSpec ws rm).room.slots = ms from hrs]; exact hp.2.1
  have hPc : Pc a (A.U.calling g mk a) := hblind _ _ _ _ hp.2.2
  obtain ⟨U, Ls, c0, s0⟩ := A
  dsimp only [Pt.U, Pt.locs, Pt.cells, Pt.slots] at h1 h2 h3 h4 h5 X hn hPc ⊢
  obtain ⟨methY, cY, hmY, hcY, -, hlY, -, -, -, -⟩ := Cond.code_spec hn h2
  obtain ⟨kY, hkY, -⟩ := className_of_methodNamed hn
  have hinitY : kY.init = .initialized := Cond.initialized_spec (findClass_of_methodNamed hn) hkY h3
  have h : At U g.method c below := by rw [hg]; exact X.here
  have hlocals9 : W9 + (maxL + 11) + (headSpec ws rm).room.locals ≤ R.locals := hlocals
  have happ : (headSpec ws rm).appliesLoose y e.platform (U.calling g mk a) = true :=
    Spec.appliesLoose_calling (g := g) h hdg hn hkY hinitY
      (X.room_calling (g := g) (R' := (headSpec ws rm).room) hsize hmY hcY hframes (by rw [hlY]; omega) h4 h5) h1
  obtain ⟨mid, hmid⟩ := h.above
  have hfr : (U.setTop g).frames = (.java g :: mid) ++ below := by rw [State.frames_setTop' g h.top, hmid]; rfl
  obtain ⟨o, s₂, hsteps, -, hend, hq⟩ := Steps.callFree hM p X.admits X.cas X.clock (acts := []) hfr happ hPc trivial
  have hq' : vx_Q Qc XC mc ms free a (U.calling g mk a) o s₂ := hq
  rw [State.frames_setTop' g h.top] at hend
  obtain ⟨g₀, hg0⟩ := Option.isSome_iff_exists.mp h.top
  obtain ⟨r, hr⟩ := State.topJava?_eq_some.mp hg0
  have hr' : (({ U with heap := s₂.heap, slotsUsed := s₂.slotsUsed } : State).setVm s₂.vm).frames = .java g₀ :: r := hr
  rcases hq' with ⟨hqc, L, hfe, hL⟩ | ⟨q, rfl, E, ce, L, hx, hce, hcv, hcl, hW₂, hsm, hL⟩
  · obtain ⟨⟨v, rfl⟩, hW₂, e2, q2, q3, q4, q5, q6⟩ := id hfe
    have e3 : s₂ = ({ (U.calling g mk a).setFrames s₂.frames with heap := s₂.heap, slotsUsed := s₂.slotsUsed } : State).setVm s₂.vm := by
      have : s₂ = ({ s₂ with vm := (U.calling g mk a).vm } : State).setVm s₂.vm := rfl
      rw [e2] at this
      exact this
    obtain ⟨c₂, i₂, len₂, hc₂, hd₂, hf₂⟩ := hend
    have hW' : U.WarmedH s₂.vm := hW₂
    have hcc : c₂ = c := by
      have h1 : s₂.code? g.method = U.code? g.method := by
        rw [State.code?_eq, State.code?_eq, hW'.alike.method?]
      exact Option.some.inj (hc₂.symm.trans (h1.trans h.code))
    subst hcc
    have hlen : len₂ = len := by rw [hdg] at hd₂; cases hd₂; rfl
    subst hlen
    have hs₂ : s₂ = (({ U with heap := s₂.heap, slotsUsed := s₂.slotsUsed } : State).setVm s₂.vm).setTop { g with pc := g.pc + len₂, stack := v.toList ++ g.stack } := by
      refine e3.trans ?_
      rw [hf₂, State.calling_eq h.top, State.setFrames_setFrames, State.setTop_of_frames _ hr', hr]
      rfl
    have hsame : U.sameButNew ({ U with heap := s₂.heap, slotsUsed := s₂.slotsUsed } : State) L mc ms := by
      refine ⟨?_, q2, q3, q4, q5, q6⟩
      obtain ⟨t, ht, -⟩ := State.frames_cons hr
      show ({ U with heap := s₂.heap, slotsUsed := s₂.slotsUsed } : State) = { U.setFrames U.frames with heap := s₂.heap, slotsUsed := s₂.slotsUsed }
      rw [State.setFrames_self ht]
    subst hg
    refine Or.inl ⟨v, ⟨(({ U with heap := s₂.heap, slotsUsed := s₂.slotsUsed } : State).setVm s₂.vm), Ls ++ L, c0 + mc, s0 + ms⟩,
      ⟨X.admits, X.cas, X.clock, X.frames, X.room, X.hears, X.method, X.code, (X.here.setHeapUsed s₂.heap s₂.slotsUsed).setVm hW'.alike, X.tail, State.WarmedH.trans X.warmed hW', X.limits, X.bytes, X.same.trans (hsame.setVm s.vm)⟩,
      ⟨g, mk, s₂, L, rfl, rfl, hqc, rfl, hL, rfl, rfl⟩, ?_⟩
    show Steps p.tables e below _ ((({ U with heap := s₂.heap, slotsUsed := s₂.slotsUsed } : State).setVm s₂.vm).setTop { g with pc := g.pc + len₂, stack := v.toList ++ g.stack })
    rw [← hs₂]
    exact hsteps
  · obtain ⟨e2, q2, q3, q4, q5, q6⟩ := id hsm
    have e3 : s₂ = ({ (U.calling g mk a).setFrames s₂.frames with heap := s₂.heap, slotsUsed := s₂.slotsUsed } : State).setVm s₂.vm := by
      have : s₂ = ({ s₂ with vm := (U.calling g mk a).vm } : State).setVm s₂.vm := rfl
      rw [e2] at this
      exact this
    have hf₂ : s₂.frames = .throwing q :: .java g :: U.frames.tail := hend
    have hW' : U.WarmedH s₂.vm := hW₂
    have hs₂ : s₂ = ((({ U with heap := s₂.heap, slotsUsed := s₂.slotsUsed } : State).setVm s₂.vm).setTop g).pushFrame (.throwing q) := by
      refine e3.trans ?_
      rw [hf₂, State.calling_eq h.top, State.setFrames_setFrames, State.pushFrame, State.frames_setTop _ hr', State.setTop_of_frames _ hr', State.setFrames_setFrames, hr]
      rfl
    have hsame : U.sameButNew ({ U with heap := s₂.heap, slotsUsed := s₂.slotsUsed } : State) L mc ms := by
      refine ⟨?_, q2, q3, q4, q5, q6⟩
      obtain ⟨t, ht, -⟩ := State.frames_cons hr
      show ({ U with heap := s₂.heap, slotsUsed := s₂.slotsUsed } : State) = { U.setFrames U.frames with heap := s₂.heap, slotsUsed := s₂.slotsUsed }
      rw [State.setFrames_self ht]
    subst hg
    refine Or.inr ⟨q, ⟨(({ U with heap := s₂.heap, slotsUsed := s₂.slotsUsed } : State).setVm s₂.vm), Ls ++ L, c0 + mc, s0 + ms⟩,
      ⟨X.admits, X.cas, X.clock, X.frames, X.room, X.hears, X.method, X.code, (X.here.setHeapUsed s₂.heap s₂.slotsUsed).setVm hW'.alike, X.tail, State.WarmedH.trans X.warmed hW', X.limits, X.bytes, X.same.trans (hsame.setVm s.vm)⟩,
      ⟨g, mk, s₂, L, E, ce, rfl, rfl, hx, hce, hcv, hcl, rfl, hL, rfl, rfl⟩, ?_⟩
    show Steps p.tables e below _ (((({ U with heap := s₂.heap, slotsUsed := s₂.slotsUsed } : State).setVm s₂.vm).setTop g).pushFrame (.throwing q))
    rw [← hs₂]
    exact hsteps
end Payer
section Calls
variable {p : Program} {l : Launch} {e : Env} {R : Room} {s : State} {m : MethodId} {args : Array Value} {below : List Frame} {meth : Method} {c : Code} {T : State} {locs : List Loc} {cells slots : Nat}
theorem vx_callV (X : Stand p l e R s m args below meth c T locs cells slots) (hexec : p.tables.exec = Jvm.exec) {own C : String} {index : Nat} {y : MethodName} {bytes : ByteArray} {maxL : Nat} {ret : Option FieldType}
    (hown : s.vm.findClass own = some m.cls) (hlink : (Cond.methodLink own index y).before args s = true) (hinst : (Cond.instanceMethod y).before args s = true) (hsel : (Cond.selects C y y).before args s = true)
    (hcode : (Cond.code y bytes maxL ret).before args s = true) (hy : y.cls ≠ "java/lang/invoke/MethodHandle" ∧ y.cls ≠ "java/lang/invoke/VarHandle")
    {W9 : Nat} {Pre : Pt → Array Value → Prop} {Post : Pt → Array Value → Option Value → Pt → Prop} {PostX : Pt → Array Value → Addr → Pt → Prop} (hK : vx_Back l R p e below s args y 3 W9 Pre Post PostX)
    {b : Addr} {cellB : Cell} (hcell : T.heap[b]? = some cellB) (hobj : cellB.vm.isStatics = false) (hcls : s.vm.findClass C = some cellB.cls)
    {g : JFrame} (hg : g.method = m) (hsize : g.locals.size = c.maxLocals) {argsL rest : List Value} (hlen : ∀ sig, parseMethodDescriptor y.desc = some sig → argsL.length = sig.parameters.length)
    (hstack : g.stack = argsL.reverse ++ .ref b :: rest) (hW : 2 * g.monitorRoom + (rest.map fun v => v.category).sum ≤ W9) (hdg : decode c.code g.pc = .ok (.invokevirtual index, 3))
    (hpre : ∀ vm₁, s.WarmedH vm₁ → Pre ⟨T.setVm vm₁, locs, cells, slots⟩ (Value.ref b :: argsL).toArray) :
    (∃ (v : Option Value) (vm₁ : Vm) (B : Pt), s.WarmedH vm₁ ∧ Stand p l e R s m args below meth c B.U B.locs B.cells B.slots ∧ Post ⟨T.setVm vm₁, locs, cells, slots⟩ (Value.ref b :: argsL).toArray v B ∧
      ∀ target, Steps p.tables e below (B.U.setTop { g with pc := g.pc + 3, stack := v.toList ++ rest }) target → Steps p.tables e below (T.setTop g) target) ∨
    (∃ (q : Addr) (vm₁ : Vm) (B : Pt), s.WarmedH vm₁ ∧ Stand p l e R s m args below meth c B.U B.locs B.cells B.slots ∧ PostX ⟨T.setVm vm₁, locs, cells, slots⟩ (Value.ref b :: argsL).toArray q B ∧
      Steps p.tables e below (T.setTop g) ((B.U.setTop { g with stack := rest }).pushFrame (.throwing q))) := by
  obtain ⟨mk, methM, hnamed, hmethM, hstM, habM⟩ := Cond.instanceMethod_spec hinst
  obtain ⟨methM', cM, hmethM', -, -, -, -, -, -, hsigM⟩ := Cond.code_spec hnamed hcode
  cases hmethM.symm.trans hmethM'
  obtain ⟨c2, r2, m2, q1, q2, q3, q4, kP, hkP, hkPi⟩ := Cond.selects_spec hsel
  cases hcls.symm.trans q1
  cases (State.methodFound?_of_named hnamed hy).symm.trans q2
  cases hnamed.symm.trans q3
  have hselP : selectMethod e.platform s.vm cellB.cls mk = .method mk := by rw [Launch.admits_selectMethod X.admits]; exact q4
  obtain ⟨vm₁, X₁, hstep₁⟩ := X.invokevirtual hexec hown hlink hnamed hmethM hstM hkP hkPi hy (a := b) (cell := cellB) hcell
    (fun z h => by rw [h] at hobj; cases hobj) hselP hmethM habM hkP hkPi (g := g) hg (argsL := argsL) (rest := rest) (hlen _ hsigM) hstack hdg
  rcases hK m meth c ⟨T.setVm vm₁, locs, cells, slots⟩ { g with stack := rest } (.invokevirtual index) mk (Value.ref b :: argsL).toArray X₁ hg hsize hdg hW (X₁.named hnamed) (hpre vm₁ X₁.warmed) with ⟨v, B, X', hpost, hsteps⟩ | ⟨q, B, X', hpost, hsteps⟩
  · exact Or.inl ⟨v, vm₁, B, X₁.warmed, X', hpost, fun target h => hstep₁ _ fun acts => by rw [doInvoke_state]; exact hsteps.trans h⟩
  · exact Or.inr ⟨q, vm₁, B, X₁.warmed, X', hpost, hstep₁ _ fun acts => by rw [doInvoke_state]; exact hsteps⟩
theorem vx_callS (X : Stand p l e R s m args below meth c T locs cells slots) (hexec : p.tables.exec = Jvm.exec) {own : String} {index : Nat} {y : MethodName} {bytes : ByteArray} {maxL : Nat} {ret : Option FieldType}
    (hown : s.vm.findClass own = some m.cls) (hlink : (Cond.methodLink own index y).before args s = true) (hstat : (Cond.static y).before args s = true) (hinit : (Cond.initialized y.cls).before args s = true)
    (hcode : (Cond.code y bytes maxL ret).before args s = true) (hy : y.cls ≠ "java/lang/invoke/MethodHandle" ∧ y.cls ≠ "java/lang/invoke/VarHandle")
    {W9 : Nat} {Pre : Pt → Array Value → Prop} {Post : Pt → Array Value → Option Value → Pt → Prop} {PostX : Pt → Array Value → Addr → Pt → Prop} (hK : vx_Back l R p e below s args y 3 W9 Pre Post PostX)
    {g : JFrame} (hg : g.method = m) (hsize : g.locals.size = c.maxLocals) {argsL rest : List Value} (hlen : ∀ sig, parseMethodDescriptor y.desc = some sig → argsL.length = sig.parameters.length)
    (hstack : g.stack = argsL.reverse ++ rest) (hW : 2 * g.monitorRoom + (rest.map fun v => v.category).sum ≤ W9) (hdg : decode c.code g.pc = .ok (.invokestatic index, 3))
    (hpre : ∀ vm₁, s.WarmedH vm₁ → Pre ⟨T.setVm vm₁, locs, cells, slots⟩ argsL.toArray) :
    (∃ (v : Option Value) (vm₁ : Vm) (B : Pt), s.WarmedH vm₁ ∧ Stand p l e R s m args below meth c B.U B.locs B.cells B.slots ∧ Post ⟨T.setVm vm₁, locs, cells, slots⟩ argsL.toArray v B ∧
      ∀ target, Steps p.tables e below (B.U.setTop { g with pc := g.pc + 3, stack := v.toList ++ rest }) target → Steps p.tables e below (T.setTop g) target) ∨
    (∃ (q : Addr) (vm₁ : Vm) (B : Pt), s.WarmedH vm₁ ∧ Stand p l e R s m args below meth c B.U B.locs B.cells B.slots ∧ PostX ⟨T.setVm vm₁, locs, cells, slots⟩ argsL.toArray q B ∧
      Steps p.tables e below (T.setTop g) ((B.U.setTop { g with stack := rest }).pushFrame (.throwing q))) := by
  obtain ⟨mk, hnamed⟩ := Cond.code_named hcode
  obtain ⟨methM, cM, hmethM, -, -, -, -, -, -, hsigM⟩ := Cond.code_spec hnamed hcode
  have hstatic : methM.isStatic = true := Cond.static_spec hnamed hmethM hstat
  obtain ⟨kP, hkP, -⟩ := className_of_methodNamed hnamed
  have hinitP : kP.init = .initialized := Cond.initialized_spec (findClass_of_methodNamed hnamed) hkP hinit
  obtain ⟨vm₁, X₁, hstep₁⟩ := X.invokestatic hexec hown hlink hnamed hmethM hstatic hkP hinitP hy (g := g) hg (argsL := argsL) (rest := rest) (hlen _ hsigM) hstack hdg
  rcases hK m meth c ⟨T.setVm vm₁, locs, cells, slots⟩ { g with stack := rest } (.invokestatic index) mk argsL.toArray X₁ hg hsize hdg hW (X₁.named hnamed) (hpre vm₁ X₁.warmed) with ⟨v, B, X', hpost, hsteps⟩ | ⟨q, B, X', hpost, hsteps⟩
  · exact Or.inl ⟨v, vm₁, B, X₁.warmed, X', hpost, fun target h => hstep₁ _ fun acts => by rw [doInvoke_state]; exact hsteps.trans h⟩
  · exact Or.inr ⟨q, vm₁, B, X₁.warmed, X', hpost, hstep₁ _ fun acts => by rw [doInvoke_state]; exact hsteps⟩
end Calls
theorem vx_cls {s : State} {T : State} {vm₁ : Vm} {E : String} {k : ClassId} (hW : s.WarmedH vm₁) (h : (T.setVm vm₁).vm.findClass E = some k) : s.vm.findClass E = some k := by
  have h1 : vm₁.findClass E = some k := h
  rw [hW.alike.findClass] at h1
  exact h1
/-- the method's frame g, with q thrown over it -/
def vx_W (p : Program) (l : Launch) (e : Env) (R : Room) (s : State) (m : MethodId) (args : Array Value) (below : List Frame) (meth : Method) (c : Code) (H : Heap) (locs : List Loc) (cells slots : Nat) (Q : State → Prop) (g : JFrame) (q : Addr) : Prop :=
  ∀ T : State, T.heap = H → Stand p l e R s m args below meth c T locs cells slots → ∃ t, Steps p.tables e below ((T.setTop g).pushFrame (.throwing q)) t ∧ Q t
def vx_Run (p : Program) (l : Launch) (e : Env) (R : Room) (s : State) (m : MethodId) (args : Array Value) (below : List Frame) (meth : Method) (c : Code) (H : Heap) (locs : List Loc) (cells slots mc ms : Nat) (g : JFrame) (rest : List Value) (Qa : State → Outcome → State → Prop) (XC : String → State → State → Prop) (free : Addr → Prop) : Prop :=
  ∀ T : State, T.heap = H → Stand p l e R s m args below meth c T locs cells slots →
    (∃ (v : Option Value) (st₀ t T' : State) (L : List Loc), st₀.heap = H ∧ Stand p l e R s m args below meth c T' (locs ++ L) (cells + mc) (slots + ms) ∧ (∀ q ∈ L, free q.base) ∧ T'.heap = t.heap ∧ T'.vm = t.vm ∧ Qa st₀ (.returned v) t ∧
      Goes p e below T g T' { g with pc := g.pc + 3, stack := v.toList ++ rest }) ∨
    (∃ (q : Addr) (st₀ t T' : State) (L : List Loc) (E : String) (ce : Cell), st₀.heap = H ∧ Stand p l e R s m args below meth c T' (locs ++ L) (cells + mc) (slots + ms) ∧ (∀ z ∈ L, free z.base) ∧ T'.heap = t.heap ∧ T'.vm = t.vm ∧ XC E st₀ t ∧ t.heap[q]? = some ce ∧ ce.vm = .none ∧ s.vm.findClass E = some ce.cls ∧
      Steps p.tables e below (T.setTop g) ((T'.setTop { g with stack := rest }).pushFrame (.throwing q)))
def vx_X {S : Type} (px : S → Prop) (B : String → S → State → Prop) (A : Nat → Prop) : String → State → State → Prop := fun E st t => ∃ u : S, px u ∧ B E u t ∧ va_F A st t
section Runs
variable {p : Program} {l : Launch} {e : Env} {R : Room} {s : State} {m : MethodId} {args : Array Value} {below : List Frame} {meth : Method} {c : Code} {H : Heap} {locs : List Loc} {cells slots : Nat}
variable {y : MethodName} {bytes cc : ByteArray} {maxL nL mc ms n index : Nat} {ret : Option FieldType} {ws : List Cond} {rm : Room} {Pc : Array Value → State → Prop} {Qc : Array Value → State → Outcome → State → Prop} {XC : String → State → State → Prop} {free : Addr → Prop} {Ts : List Cond} {own C : String} {b : Addr} {As rest : List Value} {g : JFrame}
theorem vx_callBack (cb : CallB R s args own index y bytes maxL ret ws rm mc ms n) (hM : vx_Met l y ws rm Pc Qc XC mc ms free) (hbl : FrameBlind Pc) : vx_Back l R p e below s args y 3 8 (PreOf R mc ms Pc) (PostOf Qc mc ms free) (vx_Post XC mc ms free) := by
  obtain ⟨hrc, hrs, hfr, hlo, hws, hcw, -, hini, -⟩ := cb
  exact vx_back (bytes := bytes) (maxL := maxL) (ret := ret) hM hbl hrc hrs hfr hlo hws hcw (fun a' U hW => word_at hW (Or.inl (by first | rfl | simp [Cond.onTables, Cond.keeps, Cond.steady])) hini)
theorem vx_runV (S : CallFix p m c cc nL s args Ts own) (hM : vx_Met l y ws rm Pc Qc XC mc ms free) (cw : CallW R s args own C index y bytes maxL ret ws rm mc ms n) (hp : PreV s H C b Pc As)
    (hg : g.method = m) (hn : As.length = n) (hsize : g.locals.size = nL) (hstack : g.stack = As.reverse ++ .ref b :: rest) (hW : 2 * g.monitorRoom + (rest.map fun v => v.category).sum ≤ 8) (hdg : decode cc g.pc = .ok (.invokevirtual index, 3)) (hf : cells + mc ≤ R.cells ∧ slots + ms ≤ R.slots) :
    vx_Run p l e R s m args below meth c H locs cells slots mc ms g rest (Qc (Value.ref b :: As).toArray) XC free := by
  have hK : vx_Back l R p e below s args y 3 8 (PreOf R mc ms Pc) (PostOf Qc mc ms free) (vx_Post XC mc ms free) := vx_callBack cw.1 hM hp.1
  obtain ⟨⟨-, -, -, -, -, -, hcode, -, hy, hlen, hl⟩, hin, hse⟩ := cw
  obtain ⟨hx, hb, hml, ho, -⟩ := S
  obtain ⟨-, ⟨cellB, hcB, hoB, hclB⟩, hPc⟩ := hp
  intro T hT X
  rcases vx_callV X hx (C := C) (bytes := bytes) (maxL := maxL) (ret := ret) ho hl hin hse hcode hy hK (by rw [hT]; exact hcB) hoB hclB hg (hsize.trans hml.symm) (argsL := As) (rest := rest) (fun sig h => hn.trans (hlen sig h)) hstack hW (by rw [hb]; exact hdg)
    (fun vm₁ hW₁ => ⟨hf.1, hf.2, hPc (T.setVm vm₁) hT hW₁⟩) with ⟨v, vm₁, ⟨U', l2, c2, s2⟩, hW₁, X', ⟨g', mk, t, L, e1, e2, hq, h1, hL, h2, h3⟩, st⟩ | ⟨q, vm₁, ⟨U', l2, c2, s2⟩, hW₁, X', ⟨g', mk, t, L, E, ce, e1, e2, hq, hce, hcv, hcl, h1, hL, h2, h3⟩, st⟩
  · dsimp only [Pt.U, Pt.locs, Pt.cells, Pt.slots] at X' e1 e2 h1 h2 h3 st
    subst h1; subst h2; subst h3
    exact Or.inl ⟨v, (T.setVm vm₁).calling g' mk (Value.ref b :: As).toArray, t, U', L, hT, X', hL, e1, e2, hq, st⟩
  · dsimp only [Pt.U, Pt.locs, Pt.cells, Pt.slots] at X' e1 e2 h1 h2 h3 st hcl
    subst h1; subst h2; subst h3
    exact Or.inr ⟨q, (T.setVm vm₁).calling g' mk (Value.ref b :: As).toArray, t, U', L, E, ce, hT, X', hL, e1, e2, hq, hce, hcv, vx_cls hW₁ hcl, st⟩
theorem vx_runS (S : CallFix p m c cc nL s args Ts own) (hM : vx_Met l y ws rm Pc Qc XC mc ms free) (cw : CallB R s args own index y bytes maxL ret ws rm mc ms n ∧ (Cond.static y).before args s = true) (hp : PreS s H Pc As)
    (hg : g.method = m) (hn : As.length = n) (hsize : g.locals.size = nL) (hstack : g.stack = As.reverse ++ rest) (hW : 2 * g.monitorRoom + (rest.map fun v => v.category).sum ≤ 8) (hdg : decode cc g.pc = .ok (.invokestatic index, 3)) (hf : cells + mc ≤ R.cells ∧ slots + ms ≤ R.slots) :
    vx_Run p l e R s m args below meth c H locs cells slots mc ms g rest (Qc As.toArray) XC free := by
  have hK : vx_Back l R p e below s args y 3 8 (PreOf R mc ms Pc) (PostOf Qc mc ms free) (vx_Post XC mc ms free) := vx_callBack cw.1 hM hp.1
  obtain ⟨⟨-, -, -, -, -, -, hcode, hini, hy, hlen, hl⟩, hstt⟩ := cw
  obtain ⟨hx, hb, hml, ho, -⟩ := S
  intro T hT X
  rcases vx_callS X hx (bytes := bytes) (maxL := maxL) (ret := ret) ho hl hstt hini hcode hy hK hg (hsize.trans hml.symm) (argsL := As) (rest := rest) (fun sig h => hn.trans (hlen sig h)) hstack hW (by rw [hb]; exact hdg)
    (fun vm₁ hW₁ => ⟨hf.1, hf.2, hp.2 (T.setVm vm₁) hT hW₁⟩) with ⟨v, vm₁, ⟨U', l2, c2, s2⟩, hW₁, X', ⟨g', mk, t, L, e1, e2, hq, h1, hL, h2, h3⟩, st⟩ | ⟨q, vm₁, ⟨U', l2, c2, s2⟩, hW₁, X', ⟨g', mk, t, L, E, ce, e1, e2, hq, hce, hcv, hcl, h1, hL, h2, h3⟩, st⟩
  · dsimp only [Pt.U, Pt.locs, Pt.cells, Pt.slots] at X' e1 e2 h1 h2 h3 st
    subst h1; subst h2; subst h3
    exact Or.inl ⟨v, (T.setVm vm₁).calling g' mk As.toArray, t, U', L, hT, X', hL, e1, e2, hq, st⟩
  · dsimp only [Pt.U, Pt.locs, Pt.cells, Pt.slots] at X' e1 e2 h1 h2 h3 st hcl
    subst h1; subst h2; subst h3
    exact Or.inr ⟨q, (T.setVm vm₁).calling g' mk As.toArray, t, U', L, E, ce, hT, X', hL, e1, e2, hq, hce, hcv, vx_cls hW₁ hcl, st⟩
end Runs
section Rows
variable {p : Program} {l : Launch} {e : Env} {R : Room} {s : State} {m : MethodId} {args : Array Value} {below : List Frame} {meth : Method} {c : Code} {H : Heap} {locs : List Loc} {cells slots : Nat} {Q : State → Prop}
variable {mc ms : Nat} {free : Addr → Prop} {A0 A1 : Nat → Prop} {H0 : Heap} {a : Array Value} {pc : Nat} {ls : Array Slot} {st0 rest : List Value}
theorem vx_keep {st₀ t T' : State} {L : List Loc} (h0 : st₀.heap = H) (e1 : T'.heap = t.heap) (hS : va_S A0 H0 H locs) (hA : ∀ q, q < H.size → A1 q → A0 q) (hf : ∀ q, free q → A0 q) (hL : ∀ q ∈ L, free q.base) (hF : va_F A1 st₀ t) :
    H.size ≤ T'.heap.size ∧ (∀ q : Nat, q < H.size → ¬ A1 q → T'.heap[q]? = H[q]?) ∧ va_S A0 H0 T'.heap (locs ++ L) := by
  obtain ⟨hz, hk⟩ := hF
  rw [h0] at hz hk
  exact ⟨by rw [e1]; exact hz, fun q h1 h2 => by rw [e1]; exact hk q h1 h2,
    ⟨Nat.le_trans hS.1 (by rw [e1]; exact hz), fun q h1 h2 => by rw [e1, hk q (Nat.lt_of_lt_of_le h1 hS.1) (fun z => h2 (hA q (Nat.lt_of_lt_of_le h1 hS.1) z))]; exact hS.2.1 q h1 h2, fun q hq => by
      rcases List.mem_append.mp hq with h | h
      · exact hS.2.2 q h
      · exact hf _ (hL q h)⟩⟩
theorem vx_calli {S SX : Type} {post : Int32 → S → Prop} {px : SX → Prop} {B : S → State → Prop} {BX : String → SX → State → Prop} {AX : Nat → Prop} (hr : vx_Run p l e R s m args below meth c H locs cells slots mc ms (F0 m pc ls st0) rest (va_Qi post B A1 a) (vx_X px BX AX) free) (hS : va_S A0 H0 H locs) (hA : ∀ q, q < H.size → A1 q → A0 q) (hf : ∀ q, free q → A0 q) (hAX : ∀ q, q < H.size → AX q → A0 q)
    (kx : ∀ (E : String) (ce : Cell) (q9 : Addr) (u : SX) (t : State) (H1 : Heap) (locs1 : List Loc), t.heap = H1 → s.vm.Alike t.vm → px u → BX E u t → H.size ≤ H1.size → (∀ q : Nat, q < H.size → ¬ AX q → H1[q]? = H[q]?) → va_S A0 H0 H1 locs1 → H1[q9]? = some ce → ce.vm = .none → s.vm.findClass E = some ce.cls → vx_W p l e R s m args below meth c H1 locs1 (cells + mc) (slots + ms) Q (F0 m pc ls rest) q9)
    (kk : ∀ (r : Int32) (u : S) (t : State) (H1 : Heap) (locs1 : List Loc), t.heap = H1 → s.vm.Alike t.vm → post r u → B u t → H.size ≤ H1.size → (∀ q : Nat, q < H.size → ¬ A1 q → H1[q]? = H[q]?) → va_S A0 H0 H1 locs1 → W p l e R s m args below meth c H1 locs1 (cells + mc) (slots + ms) Q (F0 m (pc + 3) ls (.int r :: rest))) : W p l e R s m args below meth c H locs cells slots Q (F0 m pc ls st0) := by
  intro T hT X
  rcases hr T hT X with ⟨v, st₀, t, T', L, h0, X', hL, e1, e2, ⟨⟨r, u, hv, hp, hb⟩, hF⟩, st⟩ | ⟨q, st₀, t, T', L, E, ce, h0, X', hL, e1, e2, ⟨u, hp, hb, hF⟩, hce, hcv, hcl, st⟩
  · cases hv
    obtain ⟨k1, k2, k3⟩ := vx_keep h0 e1 hS hA hf hL hF
    obtain ⟨t2, a1, b1⟩ := kk r u t T'.heap (locs ++ L) e1.symm (by rw [← e2]; exact X'.warmed.alike) hp hb k1 k2 k3 T' rfl X'
    exact ⟨t2, st t2 a1, b1⟩
  · obtain ⟨k1, k2, k3⟩ := vx_keep h0 e1 hS hAX hf hL hF
    obtain ⟨t2, a1, b1⟩ := kx E ce q u t T'.heap (locs ++ L) e1.symm (by rw [← e2]; exact X'.warmed.alike) hp hb k1 k2 k3 (by rw [e1]; exact hce) hcv hcl T' rfl X'
    exact ⟨t2, st.trans a1, b1⟩
theorem vx_calll {S SX : Type} {post : Int64 → S → Prop} {px : SX → Prop} {B : S → State → Prop} {BX : String → SX → State → Prop} {AX : Nat → Prop} (hr : vx_Run p l e R s m args below meth c H locs cells slots mc ms (F0 m pc ls st0) rest (va_Ql post B A1 a) (vx_X px BX AX) free) (hS : va_S A0 H0 H locs) (hA : ∀ q, q < H.size → A1 q → A0 q) (hf : ∀ q, free q → A0 q) (hAX : ∀ q, q < H.size → AX q → A0 q)
    (kx : ∀ (E : String) (ce : Cell) (q9 : Addr) (u : SX) (t : State) (H1 : Heap) (locs1 : List Loc), t.heap = H1 → s.vm.Alike t.vm → px u → BX E u t → H.size ≤ H1.size → (∀ q : Nat, q < H.size → ¬ AX q → H1[q]? = H[q]?) → va_S A0 H0 H1 locs1 → H1[q9]? = some ce → ce.vm = .none → s.vm.findClass E = some ce.cls → vx_W p l e R s m args below meth c H1 locs1 (cells + mc) (slots + ms) Q (F0 m pc ls rest) q9)
    (kk : ∀ (r : Int64) (u : S) (t : State) (H1 : Heap) (locs1 : List Loc), t.heap = H1 → s.vm.Alike t.vm → post r u → B u t → H.size ≤ H1.size → (∀ q : Nat, q < H.size → ¬ A1 q → H1[q]? = H[q]?) → va_S A0 H0 H1 locs1 → W p l e R s m args below meth c H1 locs1 (cells + mc) (slots + ms) Q (F0 m (pc + 3) ls (.long r :: rest))) : W p l e R s m args below meth c H locs cells slots Q (F0 m pc ls st0) := by
  intro T hT X
  rcases hr T hT X with ⟨v, st₀, t, T', L, h0, X', hL, e1, e2, ⟨⟨r, u, hv, hp, hb⟩, hF⟩, st⟩ | ⟨q, st₀, t, T', L, E, ce, h0, X', hL, e1, e2, ⟨u, hp, hb, hF⟩, hce, hcv, hcl, st⟩
  · cases hv
    obtain ⟨k1, k2, k3⟩ := vx_keep h0 e1 hS hA hf hL hF
    obtain ⟨t2, a1, b1⟩ := kk r u t T'.heap (locs ++ L) e1.symm (by rw [← e2]; exact X'.warmed.alike) hp hb k1 k2 k3 T' rfl X'
    exact ⟨t2, st t2 a1, b1⟩
  · obtain ⟨k1, k2, k3⟩ := vx_keep h0 e1 hS hAX hf hL hF
    obtain ⟨t2, a1, b1⟩ := kx E ce q u t T'.heap (locs ++ L) e1.symm (by rw [← e2]; exact X'.warmed.alike) hp hb k1 k2 k3 (by rw [e1]; exact hce) hcv hcl T' rfl X'
    exact ⟨t2, st.trans a1, b1⟩
theorem vx_callf {S SX : Type} {post : UInt32 → S → Prop} {px : SX → Prop} {B : S → State → Prop} {BX : String → SX → State → Prop} {AX : Nat → Prop} (hr : vx_Run p l e R s m args below meth c H locs cells slots mc ms (F0 m pc ls st0) rest (va_Qf post B A1 a) (vx_X px BX AX) free) (hS : va_S A0 H0 H locs) (hA : ∀ q, q < H.size → A1 q → A0 q) (hf : ∀ q, free q → A0 q) (hAX : ∀ q, q < H.size → AX q → A0 q)
    (kx : ∀ (E : String) (ce : Cell) (q9 : Addr) (u : SX) (t : State) (H1 : Heap) (locs1 : List Loc), t.heap = H1 → s.vm.Alike t.vm → px u → BX E u t → H.size ≤ H1.size → (∀ q : Nat, q < H.size → ¬ AX q → H1[q]? = H[q]?) → va_S A0 H0 H1 locs1 → H1[q9]? = some ce → ce.vm = .none → s.vm.findClass E = some ce.cls → vx_W p l e R s m args below meth c H1 locs1 (cells + mc) (slots + ms) Q (F0 m pc ls rest) q9)
    (kk : ∀ (r : UInt32) (u : S) (t : State) (H1 : Heap) (locs1 : List Loc), t.heap = H1 → s.vm.Alike t.vm → post r u → B u t → H.size ≤ H1.size → (∀ q : Nat, q < H.size → ¬ A1 q → H1[q]? = H[q]?) → va_S A0 H0 H1 locs1 → W p l e R s m args below meth c H1 locs1 (cells + mc) (slots + ms) Q (F0 m (pc + 3) ls (.float r :: rest))) : W p l e R s m args below meth c H locs cells slots Q (F0 m pc ls st0) := by
  intro T hT X
  rcases hr T hT X with ⟨v, st₀, t, T', L, h0, X', hL, e1, e2, ⟨⟨r, u, hv, hp, hb⟩, hF⟩, st⟩ | ⟨q, st₀, t, T', L, E, ce, h0, X', hL, e1, e2, ⟨u, hp, hb, hF⟩, hce, hcv, hcl, st⟩
  · cases hv
    obtain ⟨k1, k2, k3⟩ := vx_keep h0 e1 hS hA hf hL hF
    obtain ⟨t2, a1, b1⟩ := kk r u t T'.heap (locs ++ L) e1.symm (by rw [← e2]; exact X'.warmed.alike) hp hb k1 k2 k3 T' rfl X'
    exact ⟨t2, st t2 a1, b1⟩
  · obtain ⟨k1, k2, k3⟩ := vx_keep h0 e1 hS hAX hf hL hF
    obtain ⟨t2, a1, b1⟩ := kx E ce q u t T'.heap (locs ++ L) e1.symm (by rw [← e2]; exact X'.warmed.alike) hp hb k1 k2 k3 (by rw [e1]; exact hce) hcv hcl T' rfl X'
    exact ⟨t2, st.trans a1, b1⟩
theorem vx_calld {S SX : Type} {post : UInt64 → S → Prop} {px : SX → Prop} {B : S → State → Prop} {BX : String → SX → State → Prop} {AX : Nat → Prop} (hr : vx_Run p l e R s m args below meth c H locs cells slots mc ms (F0 m pc ls st0) rest (va_Qd post B A1 a) (vx_X px BX AX) free) (hS : va_S A0 H0 H locs) (hA : ∀ q, q < H.size → A1 q → A0 q) (hf : ∀ q, free q → A0 q) (hAX : ∀ q, q < H.size → AX q → A0 q)
    (kx : ∀ (E : String) (ce : Cell) (q9 : Addr) (u : SX) (t : State) (H1 : Heap) (locs1 : List Loc), t.heap = H1 → s.vm.Alike t.vm → px u → BX E u t → H.size ≤ H1.size → (∀ q : Nat, q < H.size → ¬ AX q → H1[q]? = H[q]?) → va_S A0 H0 H1 locs1 → H1[q9]? = some ce → ce.vm = .none → s.vm.findClass E = some ce.cls → vx_W p l e R s m args below meth c H1 locs1 (cells + mc) (slots + ms) Q (F0 m pc ls rest) q9)
    (kk : ∀ (r : UInt64) (u : S) (t : State) (H1 : Heap) (locs1 : List Loc), t.heap = H1 → s.vm.Alike t.vm → post r u → B u t → H.size ≤ H1.size → (∀ q : Nat, q < H.size → ¬ A1 q → H1[q]? = H[q]?) → va_S A0 H0 H1 locs1 → W p l e R s m args below meth c H1 locs1 (cells + mc) (slots + ms) Q (F0 m (pc + 3) ls (.double r :: rest))) : W p l e R s m args below meth c H locs cells slots Q (F0 m pc ls st0) := by
  intro T hT X
  rcases hr T hT X with ⟨v, st₀, t, T', L, h0, X', hL, e1, e2, ⟨⟨r, u, hv, hp, hb⟩, hF⟩, st⟩ | ⟨q, st₀, t, T', L, E, ce, h0, X', hL, e1, e2, ⟨u, hp, hb, hF⟩, hce, hcv, hcl, st⟩
  · cases hv
    obtain ⟨k1, k2, k3⟩ := vx_keep h0 e1 hS hA hf hL hF
    obtain ⟨t2, a1, b1⟩ := kk r u t T'.heap (locs ++ L) e1.symm (by rw [← e2]; exact X'.warmed.alike) hp hb k1 k2 k3 T' rfl X'
    exact ⟨t2, st t2 a1, b1⟩
  · obtain ⟨k1, k2, k3⟩ := vx_keep h0 e1 hS hAX hf hL hF
    obtain ⟨t2, a1, b1⟩ := kx E ce q u t T'.heap (locs ++ L) e1.symm (by rw [← e2]; exact X'.warmed.alike) hp hb k1 k2 k3 (by rw [e1]; exact hce) hcv hcl T' rfl X'
    exact ⟨t2, st.trans a1, b1⟩
theorem vx_callv {S SX : Type} {post : S → Prop} {px : SX → Prop} {B : S → State → Prop} {BX : String → SX → State → Prop} {AX : Nat → Prop} (hr : vx_Run p l e R s m args below meth c H locs cells slots mc ms (F0 m pc ls st0) rest (va_Qv post B A1 a) (vx_X px BX AX) free) (hS : va_S A0 H0 H locs) (hA : ∀ q, q < H.size → A1 q → A0 q) (hf : ∀ q, free q → A0 q) (hAX : ∀ q, q < H.size → AX q → A0 q)
    (kx : ∀ (E : String) (ce : Cell) (q9 : Addr) (u : SX) (t : State) (H1 : Heap) (locs1 : List Loc), t.heap = H1 → s.vm.Alike t.vm → px u → BX E u t → H.size ≤ H1.size → (∀ q : Nat, q < H.size → ¬ AX q → H1[q]? = H[q]?) → va_S A0 H0 H1 locs1 → H1[q9]? = some ce → ce.vm = .none → s.vm.findClass E = some ce.cls → vx_W p l e R s m args below meth c H1 locs1 (cells + mc) (slots + ms) Q (F0 m pc ls rest) q9)
    (kk : ∀ (u : S) (t : State) (H1 : Heap) (locs1 : List Loc), t.heap = H1 → s.vm.Alike t.vm → post u → B u t → H.size ≤ H1.size → (∀ q : Nat, q < H.size → ¬ A1 q → H1[q]? = H[q]?) → va_S A0 H0 H1 locs1 → W p l e R s m args below meth c H1 locs1 (cells + mc) (slots + ms) Q (F0 m (pc + 3) ls (rest))) : W p l e R s m args below meth c H locs cells slots Q (F0 m pc ls st0) := by
  intro T hT X
  rcases hr T hT X with ⟨v, st₀, t, T', L, h0, X', hL, e1, e2, ⟨⟨u, hv, hp, hb⟩, hF⟩, st⟩ | ⟨q, st₀, t, T', L, E, ce, h0, X', hL, e1, e2, ⟨u, hp, hb, hF⟩, hce, hcv, hcl, st⟩
  · cases hv
    obtain ⟨k1, k2, k3⟩ := vx_keep h0 e1 hS hA hf hL hF
    obtain ⟨t2, a1, b1⟩ := kk u t T'.heap (locs ++ L) e1.symm (by rw [← e2]; exact X'.warmed.alike) hp hb k1 k2 k3 T' rfl X'
    exact ⟨t2, st t2 a1, b1⟩
  · obtain ⟨k1, k2, k3⟩ := vx_keep h0 e1 hS hAX hf hL hF
    obtain ⟨t2, a1, b1⟩ := kx E ce q u t T'.heap (locs ++ L) e1.symm (by rw [← e2]; exact X'.warmed.alike) hp hb k1 k2 k3 (by rw [e1]; exact hce) hcv hcl T' rfl X'
    exact ⟨t2, st.trans a1, b1⟩
/-- caught by the row x of this method's table; the rows ahead don't take it -/
theorem vx_catch {own name : String} {E : String} {ce : Cell} {q : Addr} (hown : s.vm.findClass own = some m.cls) (pre : List ExceptionTableEntry) (x : ExceptionTableEntry) (suf : List ExceptionTableEntry) (hsplit : c.exceptionTable.toList = pre ++ x :: suf)
    (hpass : ∀ z ∈ pre, covers z pc = false ∨ (z.catchType ≠ 0 ∧ ∃ nm : String, (Cond.classLink own z.catchType nm).before args s = true ∧ va_Nc E nm s)) (hx : covers x pc = true) (h0 : x.catchType ≠ 0)
    (hlink : (Cond.classLink own x.catchType name).before args s = true) (hcast : (Cond.castable E name).before args s = true) (hcell : H[q]? = some ce) (hv : ce.vm = .none) (hcl : s.vm.findClass E = some ce.cls)
    (kk : W p l e R s m args below meth c H locs cells slots Q (F0 m x.handlerPc ls [.ref q])) : vx_W p l e R s m args below meth c H locs cells slots Q (F0 m pc ls rest) q := by
  intro T hT X
  have hpl : e.platform.magicAccessors = ({} : Platform).magicAccessors := by rw [X.admits.platform]
  obtain ⟨c3, c4, hc3, hc4, hasg⟩ := Cond.castable_spec hcast
  cases Option.some.inj (hc3.symm.trans hcl)
  obtain ⟨c5, hc5, hcl5⟩ := Cond.classLink_spec hown hlink e.platform hpl
  cases Option.some.inj (hc4.symm.trans hc5)
  obtain ⟨vm', X', st⟩ := X.thenCaughtThrough q (g := F0 m pc ls rest) rfl (Steps.refl _) (by rw [hT]; exact hcell) (by rw [hv]; rfl) (by obtain ⟨k9, h9, -⟩ := Vm.findClass_spec hcl; exact ⟨k9, h9⟩) pre x suf hsplit
    (fun z hz => by
      rcases hpass z hz with h | ⟨hz0, nm, hl1, hn1⟩
      · exact Or.inl h
      · obtain ⟨c6, hc6, hcl6⟩ := Cond.classLink_spec hown hl1 e.platform hpl
        obtain ⟨a8, b8, h1, h2, h3⟩ := hn1
        cases Option.some.inj (h1.symm.trans hcl)
        cases Option.some.inj (h2.symm.trans hc6)
        exact Or.inr ⟨hz0, _, hcl6, h3⟩) hx (Or.inr ⟨h0, c4, hcl5, hasg⟩)
  obtain ⟨t, a1, b1⟩ := kk (T.setVm vm') hT X'
  exact ⟨t, st.trans a1, b1⟩
end Rows
section Ends
variable {p : Program} {l : Launch} {e : Env} {R : Room} {s : State} {m : MethodId} {args : Array Value} {below : List Frame} {meth : Method} {c : Code} {H : Heap} {locs : List Loc} {cells slots : Nat} {Q : State → Prop}
variable {mc ms : Nat} {free : Addr → Prop} {A0 A1 : Nat → Prop} {H0 : Heap} {a : Array Value} {ls : Array Slot} {st0 rest : List Value}
variable {Qc : Array Value → State → Outcome → State → Prop} {XC : String → State → State → Prop}
/-- what a body that may throw owes at its end -/
def vx_MQ (below : List Frame) (Qc : Array Value → State → Outcome → State → Prop) (XC : String → State → State → Prop) (a : Array Value) (s : State) (mc ms : Nat) (free : Addr → Prop) : State → Prop := fun t =>
  ∃ o, t.status = .running ∧ Ended t below o ∧ vx_Q Qc XC mc ms free a s o t
theorem vx_ret {g : JFrame} {mc ms : Nat} (k : W p l e R s m args below meth c H locs cells slots (MQ below Qc args s mc ms free) g) : W p l e R s m args below meth c H locs cells slots (vx_MQ below Qc XC args s mc ms free) g := by
  intro T hT X
  obtain ⟨t, a1, o, b1, b2, b3, b4⟩ := k T hT X
  exact ⟨t, a1, o, b1, b2, Or.inl ⟨b3, b4⟩⟩
/-- not caught here: it goes on to the caller -/
theorem vx_widen {g : JFrame} {q : Addr} {k n : Nat} (h1 : cells ≤ k) (h2 : slots ≤ n) (kk : vx_W p l e R s m args below meth c H locs k n Q g q) : vx_W p l e R s m args below meth c H locs cells slots Q g q := fun T hT X => kk T hT (stand_widen X h1 h2)
theorem vx_out {pc : Nat} {E : String} {ce : Cell} {q : Addr} {mc ms : Nat} (hout : ∀ x ∈ c.exceptionTable.toList, covers x pc = false) (hlocks : meth.locks = false) (hcell : H[q]? = some ce) (hv : ce.vm = .none) (hcl : s.vm.findClass E = some ce.cls)
    (hx : ∀ t : State, t.heap = H → s.vm.Alike t.vm → XC E s t) (hf : ∀ z ∈ locs, free z.base) (hc : cells ≤ mc) (hs : slots ≤ ms) :
    vx_W p l e R s m args below meth c H locs cells slots (vx_MQ below Qc XC args s mc ms free) (F0 m pc ls rest) q := by
  intro T hT X
  obtain ⟨st1, hrun, hend, hW, hsm⟩ := X.leaveThrown q (g := F0 m pc ls rest) rfl rfl rfl hout hlocks
  have hcell9 : (T.setFrames (.throwing q :: below)).heap[q]? = some ce := by
    show T.heap[q]? = some ce
    rw [hT]; exact hcell
  exact ⟨_, st1, .threw q, hrun, hend, Or.inr ⟨q, rfl, E, ce, locs, hx _ hT hW.alike, hcell9, hv, hcl, hW, hsm.mono hc hs, hf⟩⟩
theorem vx_frame {U : State} {k n : Nat} (h : s.sameButNew ({ U with vm := s.vm } : State) locs k n) : s.heap.size ≤ U.heap.size ∧ ∀ q : Nat, q < s.heap.size → (∀ z ∈ locs, z.base ≠ q) → U.heap[q]? = s.heap[q]? := by
  obtain ⟨-, h2, -, -, -, h6⟩ := h
  refine ⟨h2, fun q hq hz => ?_⟩
  obtain ⟨c9, e1, e2, e3, e4⟩ := h6 q _ (Array.getElem?_eq_getElem hq)
  have hs : c9.slots = (s.heap[q]).slots := Array.ext_getElem? fun i => e4 i fun hm => hz _ hm rfl
  have h9 : c9 = s.heap[q] := by
    rw [hs] at e2
    exact e2
  have e5 : U.heap[q]? = some c9 := e1
  rw [e5, h9, Array.getElem?_eq_getElem hq]
/-- the words of a throw but the four that speak of the heap -/
def vx_no (w : Cond) : Bool := decide (w ≠ .isRef (.static Bundle.tN "UNASSIGNED_STACK" Bundle.steD)) && decide (w ≠ .isRef (.static Bundle.tN "SUPPRESSED_SENTINEL" Bundle.listD)) && decide (w ≠ .laysStatic Bundle.tN "UNASSIGNED_STACK" Bundle.steD) && decide (w ≠ .laysStatic Bundle.tN "SUPPRESSED_SENTINEL" Bundle.listD)
def vx_at0 (own : String) (ic : Nat) (X : String) (names : List String) : List Cond := (Bundle.ownAtoms0 own ic X names).filter vx_no
def vx_atS (own : String) (ic : Nat) (X : String) (names : List String) : List Cond := (Bundle.ownAtoms own ic X names).filter vx_no
/-- a word that the tables alone decide, or a good one -/
def vx_ot (w : Cond) : Bool := w.onTables || goodWord w
theorem vx_ot_at {args a' : Array Value} {s U : State} {w : Cond} (hW : s.WarmedH U.vm) (hvm : s.vm = U.vm) (hg : vx_ot w = true) (h : w.before args s = true) : w.before a' U = true := by
  simp only [vx_ot, Bool.or_eq_true] at hg
  rcases hg with hg | hg
  · exact va_tabs hg hvm h
  · exact word_at hW (good_of_word hg) h
/-- a list's words: the good ones out of the method's own list, the others by premises of their own -/
theorem vx_hat {args : Array Value} {s : State} {L B : List Cond} (h1 : ∀ w ∈ L.filter goodWord, w.before args s = true) (h2 : ∀ w ∈ L.filter (fun w => !goodWord w), w ∈ B) (h3 : ∀ w ∈ B, w.before args s = true) : ∀ w ∈ L, w.before args s = true := by
  intro w hw
  by_cases g : goodWord w = true
  · exact h1 w (List.mem_filter.mpr ⟨hw, g⟩)
  · refine h3 w (h2 w (List.mem_filter.mpr ⟨hw, ?_⟩))
    show (!goodWord w) = true
    cases hgw : goodWord w
    · rfl
    · exact absurd hgw g
theorem vx_c {args : Array Value} {s : State} {w : Cond} {B : List Cond} (h : w.before args s = true) (t : ∀ w ∈ B, w.before args s = true) : ∀ w' ∈ w :: B, w'.before args s = true := fun w' h' => (List.mem_cons.mp h').elim (fun e => by rw [e]; exact h) (t w')
theorem vx_n {args : Array Value} {s : State} : ∀ w ∈ ([] : List Cond), w.before args s = true := fun _ h => nomatch h
theorem vx_own {args : Array Value} {s : State} {L : List Cond} (h1 : ∀ w ∈ L.filter vx_no, w.before args s = true)
    (hU : (Cond.isRef (.static Bundle.tN "UNASSIGNED_STACK" Bundle.steD)).before args s = true) (hN : (Cond.isRef (.static Bundle.tN "SUPPRESSED_SENTINEL" Bundle.listD)).before args s = true)
    (lU : (Cond.laysStatic Bundle.tN "UNASSIGNED_STACK" Bundle.steD).before args s = true) (lN : (Cond.laysStatic Bundle.tN "SUPPRESSED_SENTINEL" Bundle.listD).before args s = true) : ∀ w ∈ L, w.before args s = true := by
  intro w hw
  by_cases e1 : w = .isRef (.static Bundle.tN "UNASSIGNED_STACK" Bundle.steD)
  · rw [e1]; exact hU
  · by_cases e2 : w = .isRef (.static Bundle.tN "SUPPRESSED_SENTINEL" Bundle.listD)
    · rw [e2]; exact hN
    · by_cases e3 : w = .laysStatic Bundle.tN "UNASSIGNED_STACK" Bundle.steD
      · rw [e3]; exact lU
      · by_cases e4 : w = .laysStatic Bundle.tN "SUPPRESSED_SENTINEL" Bundle.listD
        · rw [e4]; exact lN
        · exact h1 w (List.mem_filter.mpr ⟨hw, by unfold vx_no; rw [decide_eq_true e1, decide_eq_true e2, decide_eq_true e3, decide_eq_true e4]; rfl⟩)
/-- where a static field lies, its class's statics cell in H -/
def vx_L (C n d : String) (A : Nat → Prop) (U : State) (H : Heap) : Prop := ∃ (c : ClassId) (k : Class) (i : Nat) (f : Field) (a : Nat) (cell : Cell), U.vm.findClass C = some c ∧ U.fieldFound? C n d = some (c, k, i, f) ∧ f.isStatic = true ∧ k.statics = some a ∧ H[a]? = some cell ∧ cell.vm.isStatics = true ∧ cell.cls = c ∧ f.slot < cell.slots.size ∧ k.staticTypes[f.slot]? = some f.type ∧ ¬ A a
theorem vx_L.moved {C n d : String} {A : Nat → Prop} {u U : State} {H : Heap} (hvm : u.vm.Alike U.vm) (h : vx_L C n d A u H) : vx_L C n d A U H := by
  obtain ⟨c, k, i, f, a, cell, h1, h2, h3, h4, h5, h6, h7, h8, h9, h10⟩ := h
  obtain ⟨k', hi', he⟩ := State.fieldFound?_setVm hvm h2
  exact ⟨c, k', i, f, a, cell, by rw [hvm.findClass]; exact h1, hi', h3, by rw [he]; exact h4, h5, h6, h7, h8, by rw [he]; exact h9, h10⟩
theorem vx_L.kept {C n d : String} {A : Nat → Prop} {U : State} {H H1 : Heap} (h : vx_L C n d A U H) (hq : ∀ a : Nat, a < H.size → ¬ A a → H1[a]? = H[a]?) : vx_L C n d A U H1 := by
  obtain ⟨c, k, i, f, a, cell, h1, h2, h3, h4, h5, h6, h7, h8, h9, h10⟩ := h
  exact ⟨c, k, i, f, a, cell, h1, h2, h3, h4, by rw [hq a (Array.getElem?_eq_some_iff.mp h5).1 h10]; exact h5, h6, h7, h8, h9, h10⟩
theorem vx_L.narrow {C n d : String} {A B : Nat → Prop} {U : State} {H : Heap} (h : vx_L C n d A U H) (hAB : ∀ q, B q → A q) : vx_L C n d B U H := by
  obtain ⟨c, k, i, f, a, cell, h1, h2, h3, h4, h5, h6, h7, h8, h9, h10⟩ := h
  exact ⟨c, k, i, f, a, cell, h1, h2, h3, h4, h5, h6, h7, h8, h9, fun z => h10 (hAB _ z)⟩
theorem vx_L.word {C n d : String} {A : Nat → Prop} {s : State} {args : Array Value} (h : vx_L C n d A s s.heap) : (Cond.laysStatic C n d).before args s = true := by
  obtain ⟨c, k, i, f, a, cell, h1, h2, h3, h4, h5, h6, h7, h8, h9, -⟩ := h
  show (Cond.laysStatic C n d).holds args s none s [] = true
  exact Cond.laysStatic_of h1 h2 h3 h4 h5 h6 h7 h8 h9
/-- .. and what it holds: null or some reference -/
def vx_Zq (C n d : String) (A : Nat → Prop) (U : State) (H : Heap) : Prop := va_Zq C n d A U H ∧ vx_L C n d A U H
theorem vx_Zq.moved {C n d : String} {A : Nat → Prop} {u U : State} {H : Heap} (hvm : u.vm.Alike U.vm) (h : vx_Zq C n d A u H) : vx_Zq C n d A U H := ⟨va_Zq.moved hvm h.1, vx_L.moved hvm h.2⟩
theorem vx_Zq.kept {C n d : String} {A : Nat → Prop} {U : State} {H H1 : Heap} (h : vx_Zq C n d A U H) (hq : ∀ a : Nat, a < H.size → ¬ A a → H1[a]? = H[a]?) : vx_Zq C n d A U H1 := ⟨va_Zq.kept h.1 hq, vx_L.kept h.2 hq⟩
theorem vx_Zq.narrow {C n d : String} {A B : Nat → Prop} {U : State} {H : Heap} (h : vx_Zq C n d A U H) (hAB : ∀ q, B q → A q) : vx_Zq C n d B U H := ⟨va_Zq.narrow h.1 hAB, vx_L.narrow h.2 hAB⟩
theorem vx_Zqof {args : Array Value} {s : State} {C n d : String} {A : Nat → Prop} (hl : (Cond.laysStatic C n d).before args s = true) (hini : (Cond.initialized C).before args s = true) (h : (Cond.isRef (.static C n d)).before args s = true) (hA : ∀ a : Nat, a < s.heap.size → ¬ A a) : vx_Zq C n d A s s.heap := by
  refine ⟨va_Zqof hl hini h hA, ?_⟩
  obtain ⟨c, k, i, f, a, cell, h1, h2, h3, h4, h5, h6, h7, h8, h9⟩ := Cond.laysStatic_spec hl
  exact ⟨c, k, i, f, a, cell, h1, h2, h3, h4, h5, h6, h7, h8, h9, hA a (Array.getElem?_eq_some_iff.mp h5).1⟩
theorem vx_isRef {C n d : String} {v : Value} {A : Nat → Prop} {s : State} {args : Array Value} (h : va_Z C n d v A s s.heap) (hv : v.isRef = true) : (Cond.isRef (.static C n d)).before args s = true := by
  obtain ⟨cf, kf, fi, f, a, cell, h1, h2, h3, h4, h5, h6, h7, -⟩ := h
  have he : (Term.static C n d).eval args s none [] s = some v := by
    simp [Term.eval, State.fieldNamed?, h1, h2, h4, h5, h6, h7]
  simp only [Cond.before, Cond.holds, Cond.value, he]
  cases v <;> simp_all [Value.isRef]
theorem vx_isRefq {C n d : String} {A : Nat → Prop} {s : State} {args : Array Value} (h : va_Zq C n d A s s.heap) : (Cond.isRef (.static C n d)).before args s = true := by
  rcases h with h | ⟨t, h⟩
  · exact vx_isRef h rfl
  · exact vx_isRef h rfl
/-- the same frame, seen from here: as if the method were called anew in this heap -/
theorem vx_rebase {T : State} (X : Stand p l e R s m args below meth c T locs cells slots) {R' : Room} (hf : R'.frames ≤ R.frames) (hl : R'.locals ≤ R.locals) (hc : cells + R'.cells ≤ R.cells) (hs : slots + R'.slots ≤ R.slots) :
    Stand p l e R' ((T.setVm s.vm).setFrames (.invoking m args :: below)) m args below meth c T [] 0 0 := by
  have htop : (T.setVm s.vm).topJava?.isSome := X.here.top
  have hF : ((T.setVm s.vm).setFrames (.invoking m args :: below)).frames = .invoking m args :: below := State.frames_setFrames _ (State.cur_lt_of_top htop)
  obtain ⟨g₀, hg0⟩ := Option.isSome_iff_exists.mp htop
  obtain ⟨r, hr⟩ := State.topJava?_eq_some.mp hg0
  have hl9 : e.platform.stackLimits (T.setVm s.vm).me = e.platform.stackLimits s.me := X.limits
  have hb9 : (T.setVm s.vm).me.stackBytes = s.me.stackBytes := X.bytes
  refine ⟨X.admits, X.cas, X.clock, hF, ?_, X.hears, X.method, X.code, X.here, X.tail, X.warmed, ?_, ?_, ?_⟩
  · have h := X.room
    have hU : ((T.setVm s.vm).setFrames (.invoking m args :: below)).localsInUse = s.localsInUse := by
      rw [State.localsInUse_invoking hF (meth := meth) (c := c) X.method X.code, State.localsInUse_invoking X.frames X.method X.code]
    simp only [State.hasRoom, Bool.and_eq_true, decide_eq_true_eq] at h ⊢
    obtain ⟨⟨⟨⟨h1, h2, h3, h4, h5, h6⟩, h7⟩, h8⟩, h9⟩ := h
    rw [X.frames, List.length_cons] at h2 h3
    have q1 := X.heapSize
    have q2 := X.used
    simp only [hF, hU, List.length_cons, State.stackLimits_setFrames, State.stackBytes_setFrames, hl9, hb9]
    refine ⟨⟨⟨⟨by omega, by omega, by omega, by omega, by omega, h6⟩, ?_⟩, ?_⟩, X.book⟩
    · show T.heap.size + R'.cells ≤ e.platform.maxCells
      omega
    · show T.slotsUsed + R'.slots ≤ e.platform.maxSlots
      omega
  · rw [State.stackLimits_setFrames]; rfl
  · rw [State.stackBytes_setFrames]; rfl
  · refine ⟨?_, Nat.le_refl _, Nat.le_refl _, ?_, ?_, fun a c9 h9 => ⟨c9, h9, rfl, rfl, fun _ _ => rfl⟩⟩
    · obtain ⟨t, ht, -⟩ := State.frames_cons hr
      show T.setVm s.vm = { ((T.setVm s.vm).setFrames (.invoking m args :: below)).setFrames (T.setVm s.vm).frames with heap := T.heap, slotsUsed := T.slotsUsed }
      rw [State.setFrames_setFrames, State.setFrames_self ht]
      rfl
    · show T.slotsUsed = T.slotsUsed + ((T.heap.toList.drop T.heap.size).map (·.slots.size)).sum
      rw [List.drop_eq_nil_of_le (Nat.le_of_eq Array.length_toList)]
      rfl
    · show ((T.heap.toList.drop T.heap.size).map (·.slots.size)).sum ≤ 0
      rw [List.drop_eq_nil_of_le (Nat.le_of_eq Array.length_toList)]
      exact Nat.le_refl _
/-- 'throw new E()': new; dup; invokespecial; athrow -/
theorem vx_throw0 {cc : ByteArray} {pc : Nat} (hexec : p.tables.exec = Jvm.exec) (hb : c.code = cc) (hl : l.stackTraces = false) {own cls : String} {names : List String} {ik ic mc ms : Nat} {A : Nat → Prop}
    (hown : s.vm.findClass own = some m.cls) (hcls : Bundle.fit cls = true) (hnames : ∀ n ∈ names, Bundle.fit n = true)
    (hk : (Cond.classLink own ik cls).before args s = true) (hini : (Cond.initialized cls).before args s = true) (hat : ∀ w ∈ vx_at0 own ic cls names, w.before args s = true)
    (hgood : ∀ w ∈ Cond.classLink own ik cls :: Cond.initialized cls :: vx_at0 own ic cls names, vx_ot w = true)
    (hU : vx_Zq Bundle.tN "UNASSIGNED_STACK" Bundle.steD A s s.heap) (hN : vx_Zq Bundle.tN "SUPPRESSED_SENTINEL" Bundle.listD A s s.heap) (hS : va_S A s.heap H locs) (hsize : ls.size = c.maxLocals)
    (d0 : decode cc pc = .ok (.new ik, 3)) (d3 : decode cc (pc + 3) = .ok (.dup, 1)) (d4 : decode cc (pc + 4) = .ok (.invokespecial ic, 3)) (d7 : decode cc (pc + 7) = .ok (.athrow, 1))
    (hout : ∀ x ∈ c.exceptionTable.toList, covers x (pc + 7) = false)
    (hRframes : names.length + 3 < R.frames) (hRlocals : (rest.map fun v => v.category).sum + (13 * (names.length + 1) + 42) ≤ R.locals) (hRcells : cells + 1 ≤ R.cells) (hRslots : slots + 6 ≤ R.slots) (hlocks : meth.locks = false)
    (hx : ∀ t : State, s.vm.Alike t.vm → H.size ≤ t.heap.size → (∀ q : Nat, q < H.size → t.heap[q]? = H[q]?) → XC cls s t)
    (hf : ∀ z ∈ locs, free z.base) (hc : cells + 1 ≤ mc) (hs : slots + 6 ≤ ms) :
    W p l e R s m args below meth c H locs cells slots (vx_MQ below Qc XC args s mc ms free) (F0 m pc ls rest) := by
  intro T hT X
  have htr : e.platform.stackTraces = false := (show e.platform.stackTraces = l.stackTraces by rw [X.admits.platform]).trans hl
  have Y := vx_rebase X (R' := { frames := R.frames, locals := R.locals, cells := 1, slots := 6 }) (Nat.le_refl _) (Nat.le_refl _) hRcells hRslots
  obtain ⟨s', hA⟩ : ∃ z, z = (T.setVm s.vm).setFrames (.invoking m args :: below) := ⟨_, rfl⟩
  rw [← hA] at Y
  have hvm : s'.vm = s.vm := by rw [hA]; rfl
  have hhp : s'.heap = H := by rw [hA]; exact hT
  have hW0 : s.WarmedH s'.vm := by rw [hvm]; exact State.WarmedH.refl s
  have hat' : ∀ w ∈ vx_at0 own ic cls names, w.before args s' = true := fun w hw => vx_ot_at hW0 hvm.symm (hgood w (List.mem_cons_of_mem _ (List.mem_cons_of_mem _ hw))) (hat w hw)
  have hk' : (Cond.classLink own ik cls).before args s' = true := vx_ot_at hW0 hvm.symm (hgood _ List.mem_cons_self) hk
  have hini' : (Cond.initialized cls).before args s' = true := vx_ot_at hW0 hvm.symm (hgood _ (List.mem_cons_of_mem _ List.mem_cons_self)) hini
  have hU' : vx_Zq Bundle.tN "UNASSIGNED_STACK" Bundle.steD A s' s'.heap := by rw [hhp]; exact vx_Zq.moved hW0.alike (hU.kept hS.2.1)
  have hN' : vx_Zq Bundle.tN "SUPPRESSED_SENTINEL" Bundle.listD A s' s'.heap := by rw [hhp]; exact vx_Zq.moved hW0.alike (hN.kept hS.2.1)
  have h : ∀ w ∈ Bundle.ownAtoms0 own ic cls names, w.before args s' = true := vx_own hat' (vx_isRefq hU'.1) (vx_isRefq hN'.1) hU'.2.word hN'.2.word
  have hown' : s'.vm.findClass own = some m.cls := by rw [hvm]; exact hown
  have hins : (Cond.instantiable cls 6).before args s' = true := h _ (by simp [Bundle.ownAtoms0])
  obtain ⟨vm₁, cX, kX, hfX, hkX, -, -, X₁, st1⟩ := Y.newCold hexec (own := own) (C := cls) (index := ik) (n := 6) hown' hk' hins hini'
    (g := F0 m pc ls rest) rfl (by rw [hb]; exact d0) (Nat.le_refl _) (Nat.le_refl _)
  generalize hT1 : (T.setVm vm₁).pushCell { cls := cX, slots := kX.instanceTypes.map defaultValue, vm := .none } = T1 at X₁ st1
  have hcat : (Value.ref T.heap.size).category = 1 := rfl
  have hcellA : T1.heap[T.heap.size]? = some (freshCell cX kX) := by rw [← hT1]; exact State.heap_pushCell_size _ _
  have d3' : decode c.code (pc + 3) = .ok (.dup, 1) := by rw [hb]; exact d3
  obtain ⟨U, hsteps, hrun, hend, hW, hsame, ce, hce, hO⟩ := X₁.ctorThrow0 hexec htr (own := own) (cls := cls) (names := names) (ic := ic) hown' hcls hnames h (fun x hx => nomatch hx) hfX hkX hcellA (by rw [hhp, hT]; exact Nat.le_refl _)
    (g := { method := m, pc := pc + 4, locals := ls, stack := .ref T.heap.size :: .ref T.heap.size :: rest, locked := none }) rfl hsize rfl rfl (rest := rest) rfl
    (by rw [hb]; exact d4) (by rw [hb]; exact d7) hout hRframes (by simp only [List.map_cons, List.sum_cons, hcat]; omega) hlocks
  obtain ⟨f1, f2⟩ := vx_frame hsame
  rw [hhp] at f1 f2
  have hWs : s.WarmedH U.vm := State.WarmedH.trans hW0 hW
  have hcl : s.vm.findClass cls = some ce.cls := by
    have h9 := hO.cls
    rw [hvm] at h9
    exact h9
  have hall : s.sameButNew ({ U with vm := s.vm } : State) locs mc ms := by
    subst hA
    obtain ⟨e1, e2⟩ := hsame
    rw [State.setFrames_setFrames] at e1
    have h2 : (T.setVm s.vm).sameButNew ({ U with vm := s.vm } : State) [] (0 + 1) (0 + 6) := ⟨e1, e2⟩
    have h3 := X.same.trans h2
    rw [List.append_nil] at h3
    exact h3.mono hc hs
  refine ⟨U, ?_, .threw T.heap.size, hrun, hend, Or.inr ⟨T.heap.size, rfl, cls, ce, locs, hx U hWs.alike f1 (fun q hq => f2 q hq (fun z hz => nomatch hz)), hce, hO.vm, hcl, hWs, hall, hf⟩⟩
  refine st1 _ ?_
  show Steps p.tables e below (T1.setTop { method := m, pc := pc + 3, locals := ls, stack := .ref T.heap.size :: rest, locked := none }) _
  jvm_step X₁.here [X₁.here.top, hexec, d3', Value.category]
  exact hsteps
/-- 'throw new E("text")': new; dup; ldc; invokespecial; athrow -/
theorem vx_throwS {cc : ByteArray} {pc : Nat} (hexec : p.tables.exec = Jvm.exec) (hb : c.code = cc) (hl : l.stackTraces = false) {own cls text : String} {names : List String} {ik is ic mc ms sa : Nat} {A : Nat → Prop}
    (hown : s.vm.findClass own = some m.cls) (hcls : Bundle.fit cls = true) (hnames : ∀ n ∈ names, Bundle.fit n = true)
    (hk : (Cond.classLink own ik cls).before args s = true) (hini : (Cond.initialized cls).before args s = true) (hstr : vk_R own is text sa s) (hat : ∀ w ∈ vx_atS own ic cls names, w.before args s = true)
    (hgood : ∀ w ∈ Cond.classLink own ik cls :: Cond.initialized cls :: vx_atS own ic cls names, vx_ot w = true)
    (hU : vx_Zq Bundle.tN "UNASSIGNED_STACK" Bundle.steD A s s.heap) (hN : vx_Zq Bundle.tN "SUPPRESSED_SENTINEL" Bundle.listD A s s.heap) (hS : va_S A s.heap H locs) (hsize : ls.size = c.maxLocals)
    (d0 : decode cc pc = .ok (.new ik, 3)) (d3 : decode cc (pc + 3) = .ok (.dup, 1)) (d4 : decode cc (pc + 4) = .ok (.ldc is, 2)) (d6 : decode cc (pc + 6) = .ok (.invokespecial ic, 3)) (d9 : decode cc (pc + 9) = .ok (.athrow, 1))
    (hout : ∀ x ∈ c.exceptionTable.toList, covers x (pc + 9) = false)
    (hRframes : names.length + 3 < R.frames) (hRlocals : (rest.map fun v => v.category).sum + (13 * (names.length + 1) + 43) ≤ R.locals) (hRcells : cells + 1 ≤ R.cells) (hRslots : slots + 6 ≤ R.slots) (hlocks : meth.locks = false)
    (hx : ∀ t : State, s.vm.Alike t.vm → H.size ≤ t.heap.size → (∀ q : Nat, q < H.size → t.heap[q]? = H[q]?) → XC cls s t)
    (hf : ∀ z ∈ locs, free z.base) (hc : cells + 1 ≤ mc) (hs : slots + 6 ≤ ms) :
    W p l e R s m args below meth c H locs cells slots (vx_MQ below Qc XC args s mc ms free) (F0 m pc ls rest) := by
  intro T hT X
  have htr : e.platform.stackTraces = false := (show e.platform.stackTraces = l.stackTraces by rw [X.admits.platform]).trans hl
  have Y := vx_rebase X (R' := { frames := R.frames, locals := R.locals, cells := 1, slots := 6 }) (Nat.le_refl _) (Nat.le_refl _) hRcells hRslots
  obtain ⟨s', hA⟩ : ∃ z, z = (T.setVm s.vm).setFrames (.invoking m args :: below) := ⟨_, rfl⟩
  rw [← hA] at Y
  have hvm : s'.vm = s.vm := by rw [hA]; rfl
  have hhp : s'.heap = H := by rw [hA]; exact hT
  have hW0 : s.WarmedH s'.vm := by rw [hvm]; exact State.WarmedH.refl s
  have hat' : ∀ w ∈ vx_atS own ic cls names, w.before args s' = true := fun w hw => vx_ot_at hW0 hvm.symm (hgood w (List.mem_cons_of_mem _ (List.mem_cons_of_mem _ hw))) (hat w hw)
  have hk' : (Cond.classLink own ik cls).before args s' = true := vx_ot_at hW0 hvm.symm (hgood _ List.mem_cons_self) hk
  have hini' : (Cond.initialized cls).before args s' = true := vx_ot_at hW0 hvm.symm (hgood _ (List.mem_cons_of_mem _ List.mem_cons_self)) hini
  have hU' : vx_Zq Bundle.tN "UNASSIGNED_STACK" Bundle.steD A s' s'.heap := by rw [hhp]; exact vx_Zq.moved hW0.alike (hU.kept hS.2.1)
  have hN' : vx_Zq Bundle.tN "SUPPRESSED_SENTINEL" Bundle.listD A s' s'.heap := by rw [hhp]; exact vx_Zq.moved hW0.alike (hN.kept hS.2.1)
  have h : ∀ w ∈ Bundle.ownAtoms own ic cls names, w.before args s' = true := vx_own hat' (vx_isRefq hU'.1) (vx_isRefq hN'.1) hU'.2.word hN'.2.word
  have hown' : s'.vm.findClass own = some m.cls := by rw [hvm]; exact hown
  have hins : (Cond.instantiable cls 6).before args s' = true := h _ (by simp [Bundle.ownAtoms])
  obtain ⟨vm₁, cX, kX, hfX, hkX, -, -, X₁, st1⟩ := Y.newCold hexec (own := own) (C := cls) (index := ik) (n := 6) hown' hk' hins hini'
    (g := F0 m pc ls rest) rfl (by rw [hb]; exact d0) (Nat.le_refl _) (Nat.le_refl _)
  generalize hT1 : (T.setVm vm₁).pushCell { cls := cX, slots := kX.instanceTypes.map defaultValue, vm := .none } = T1 at X₁ st1
  have hcat : (Value.ref T.heap.size).category = 1 := rfl
  have hcellA : T1.heap[T.heap.size]? = some (freshCell cX kX) := by rw [← hT1]; exact State.heap_pushCell_size _ _
  have d3' : decode c.code (pc + 3) = .ok (.dup, 1) := by rw [hb]; exact d3
  have d4' : decode c.code (pc + 4) = .ok (.ldc is, 2) := by rw [hb]; exact d4
  have hstr' : vk_R own is text sa s' := vk_R.warm hW0 hstr
  obtain ⟨U, hsteps, hrun, hend, hW, hsame, ce, hce, hO⟩ := X₁.ctorThrowS hexec htr (own := own) (cls := cls) (names := names) (ic := ic) hown' hcls hnames h (fun x hx => nomatch hx) hfX hkX hcellA (by rw [hhp, hT]; exact Nat.le_refl _) (msg := .ref sa) rfl
    (g := { method := m, pc := pc + 6, locals := ls, stack := .ref sa :: .ref T.heap.size :: .ref T.heap.size :: rest, locked := none }) rfl hsize rfl rfl (rest := rest) rfl
    (by rw [hb]; exact d6) (by rw [hb]; exact d9) hout hRframes (by simp only [List.map_cons, List.sum_cons, hcat]; omega) hlocks
  obtain ⟨f1, f2⟩ := vx_frame hsame
  rw [hhp] at f1 f2
  have hWs : s.WarmedH U.vm := State.WarmedH.trans hW0 hW
  have hcl : s.vm.findClass cls = some ce.cls := by
    have h9 := hO.cls
    rw [hvm] at h9
    exact h9
  have hall : s.sameButNew ({ U with vm := s.vm } : State) locs mc ms := by
    subst hA
    obtain ⟨e1, e2⟩ := hsame
    rw [State.setFrames_setFrames] at e1
    have h2 : (T.setVm s.vm).sameButNew ({ U with vm := s.vm } : State) [] (0 + 1) (0 + 6) := ⟨e1, e2⟩
    have h3 := X.same.trans h2
    rw [List.append_nil] at h3
    exact h3.mono hc hs
  refine ⟨U, ?_, .threw T.heap.size, hrun, hend, Or.inr ⟨T.heap.size, rfl, cls, ce, locs, hx U hWs.alike f1 (fun q hq => f2 q hq (fun z hz => nomatch hz)), hce, hO.vm, hcl, hWs, hall, hf⟩⟩
  refine st1 _ ?_
  show Steps p.tables e below (T1.setTop { method := m, pc := pc + 3, locals := ls, stack := .ref T.heap.size :: rest, locked := none }) _
  jvm_step X₁.here [X₁.here.top, hexec, d3', Value.category]
  exact X₁.ldcString hexec (own := own) (text := text) (index := is) (a := sa) hown' hstr'.1 hstr'.2
    (g := { method := m, pc := pc + 4, locals := ls, stack := .ref T.heap.size :: .ref T.heap.size :: rest, locked := none }) rfl d4' _ hsteps
/-- 'throw new E("text")', the text by a wide index -/
theorem vx_throwSW {cc : ByteArray} {pc : Nat} (hexec : p.tables.exec = Jvm.exec) (hb : c.code = cc) (hl : l.stackTraces = false) {own cls text : String} {names : List String} {ik is ic mc ms sa : Nat} {A : Nat → Prop}
    (hown : s.vm.findClass own = some m.cls) (hcls : Bundle.fit cls = true) (hnames : ∀ n ∈ names, Bundle.fit n = true)
    (hk : (Cond.classLink own ik cls).before args s = true) (hini : (Cond.initialized cls).before args s = true) (hstr : vk_R own is text sa s) (hat : ∀ w ∈ vx_atS own ic cls names, w.before args s = true)
    (hgood : ∀ w ∈ Cond.classLink own ik cls :: Cond.initialized cls :: vx_atS own ic cls names, vx_ot w = true)
    (hU : vx_Zq Bundle.tN "UNASSIGNED_STACK" Bundle.steD A s s.heap) (hN : vx_Zq Bundle.tN "SUPPRESSED_SENTINEL" Bundle.listD A s s.heap) (hS : va_S A s.heap H locs) (hsize : ls.size = c.maxLocals)
    (d0 : decode cc pc = .ok (.new ik, 3)) (d3 : decode cc (pc + 3) = .ok (.dup, 1)) (d4 : decode cc (pc + 4) = .ok (.ldc_w is, 3)) (d7 : decode cc (pc + 7) = .ok (.invokespecial ic, 3)) (d10 : decode cc (pc + 10) = .ok (.athrow, 1))
    (hout : ∀ x ∈ c.exceptionTable.toList, covers x (pc + 10) = false)
    (hRframes : names.length + 3 < R.frames) (hRlocals : (rest.map fun v => v.category).sum + (13 * (names.length + 1) + 43) ≤ R.locals) (hRcells : cells + 1 ≤ R.cells) (hRslots : slots + 6 ≤ R.slots) (hlocks : meth.locks = false)
    (hx : ∀ t : State, s.vm.Alike t.vm → H.size ≤ t.heap.size → (∀ q : Nat, q < H.size → t.heap[q]? = H[q]?) → XC cls s t)
    (hf : ∀ z ∈ locs, free z.base) (hc : cells + 1 ≤ mc) (hs : slots + 6 ≤ ms) :
    W p l e R s m args below meth c H locs cells slots (vx_MQ below Qc XC args s mc ms free) (F0 m pc ls rest) := by
  intro T hT X
  have htr : e.platform.stackTraces = false := (show e.platform.stackTraces = l.stackTraces by rw [X.admits.platform]).trans hl
  have Y := vx_rebase X (R' := { frames := R.frames, locals := R.locals, cells := 1, slots := 6 }) (Nat.le_refl _) (Nat.le_refl _) hRcells hRslots
  obtain ⟨s', hA⟩ : ∃ z, z = (T.setVm s.vm).setFrames (.invoking m args :: below) := ⟨_, rfl⟩
  rw [← hA] at Y
  have hvm : s'.vm = s.vm := by rw [hA]; rfl
  have hhp : s'.heap = H := by rw [hA]; exact hT
  have hW0 : s.WarmedH s'.vm := by rw [hvm]; exact State.WarmedH.refl s
  have hat' : ∀ w ∈ vx_atS own ic cls names, w.before args s' = true := fun w hw => vx_ot_at hW0 hvm.symm (hgood w (List.mem_cons_of_mem _ (List.mem_cons_of_mem _ hw))) (hat w hw)
  have hk' : (Cond.classLink own ik cls).before args s' = true := vx_ot_at hW0 hvm.symm (hgood _ List.mem_cons_self) hk
  have hini' : (Cond.initialized cls).before args s' = true := vx_ot_at hW0 hvm.symm (hgood _ (List.mem_cons_of_mem _ List.mem_cons_self)) hini
  have hU' : vx_Zq Bundle.tN "UNASSIGNED_STACK" Bundle.steD A s' s'.heap := by rw [hhp]; exact vx_Zq.moved hW0.alike (hU.kept hS.2.1)
  have hN' : vx_Zq Bundle.tN "SUPPRESSED_SENTINEL" Bundle.listD A s' s'.heap := by rw [hhp]; exact vx_Zq.moved hW0.alike (hN.kept hS.2.1)
  have h : ∀ w ∈ Bundle.ownAtoms own ic cls names, w.before args s' = true := vx_own hat' (vx_isRefq hU'.1) (vx_isRefq hN'.1) hU'.2.word hN'.2.word
  have hown' : s'.vm.findClass own = some m.cls := by rw [hvm]; exact hown
  have hins : (Cond.instantiable cls 6).before args s' = true := h _ (by simp [Bundle.ownAtoms])
  obtain ⟨vm₁, cX, kX, hfX, hkX, -, -, X₁, st1⟩ := Y.newCold hexec (own := own) (C := cls) (index := ik) (n := 6) hown' hk' hins hini'
    (g := F0 m pc ls rest) rfl (by rw [hb]; exact d0) (Nat.le_refl _) (Nat.le_refl _)
  generalize hT1 : (T.setVm vm₁).pushCell { cls := cX, slots := kX.instanceTypes.map defaultValue, vm := .none } = T1 at X₁ st1
  have hcat : (Value.ref T.heap.size).category = 1 := rfl
  have hcellA : T1.heap[T.heap.size]? = some (freshCell cX kX) := by rw [← hT1]; exact State.heap_pushCell_size _ _
  have d3' : decode c.code (pc + 3) = .ok (.dup, 1) := by rw [hb]; exact d3
  have d4' : decode c.code (pc + 4) = .ok (.ldc_w is, 3) := by rw [hb]; exact d4
  have hstr' : vk_R own is text sa s' := vk_R.warm hW0 hstr
  obtain ⟨U, hsteps, hrun, hend, hW, hsame, ce, hce, hO⟩ := X₁.ctorThrowS hexec htr (own := own) (cls := cls) (names := names) (ic := ic) hown' hcls hnames h (fun x hx => nomatch hx) hfX hkX hcellA (by rw [hhp, hT]; exact Nat.le_refl _) (msg := .ref sa) rfl
    (g := { method := m, pc := pc + 7, locals := ls, stack := .ref sa :: .ref T.heap.size :: .ref T.heap.size :: rest, locked := none }) rfl hsize rfl rfl (rest := rest) rfl
    (by rw [hb]; exact d7) (by rw [hb]; exact d10) hout hRframes (by simp only [List.map_cons, List.sum_cons, hcat]; omega) hlocks
  obtain ⟨f1, f2⟩ := vx_frame hsame
  rw [hhp] at f1 f2
  have hWs : s.WarmedH U.vm := State.WarmedH.trans hW0 hW
  have hcl : s.vm.findClass cls = some ce.cls := by
    have h9 := hO.cls
    rw [hvm] at h9
    exact h9
  have hall : s.sameButNew ({ U with vm := s.vm } : State) locs mc ms := by
    subst hA
    obtain ⟨e1, e2⟩ := hsame
    rw [State.setFrames_setFrames] at e1
    have h2 : (T.setVm s.vm).sameButNew ({ U with vm := s.vm } : State) [] (0 + 1) (0 + 6) := ⟨e1, e2⟩
    have h3 := X.same.trans h2
    rw [List.append_nil] at h3
    exact h3.mono hc hs
  refine ⟨U, ?_, .threw T.heap.size, hrun, hend, Or.inr ⟨T.heap.size, rfl, cls, ce, locs, hx U hWs.alike f1 (fun q hq => f2 q hq (fun z hz => nomatch hz)), hce, hO.vm, hcl, hWs, hall, hf⟩⟩
  refine st1 _ ?_
  show Steps p.tables e below (T1.setTop { method := m, pc := pc + 3, locals := ls, stack := .ref T.heap.size :: rest, locked := none }) _
  jvm_step X₁.here [X₁.here.top, hexec, d3', Value.category]
  exact X₁.ldcStringW hexec (own := own) (text := text) (index := is) (a := sa) hown' hstr'.1 hstr'.2
    (g := { method := m, pc := pc + 4, locals := ls, stack := .ref T.heap.size :: .ref T.heap.size :: rest, locked := none }) rfl d4' _ hsteps
end Ends
section Bodies
variable {l : Launch}
theorem vx_ofW {y : MethodName} {ws ws' : List Cond} {rm : Room} {Pc : Array Value → State → Prop} {Qc : Array Value → State → Outcome → State → Prop} {XC : String → State → State → Prop} {mc ms : Nat} {free : Addr → Prop} {cc : ByteArray} {maxL : Nat} {ret : Option FieldType}
    (hy : plainName y.cls = true) (hw : ws = Cond.code y cc maxL ret :: ws')
    (body : ∀ p e s m args below meth c s₁, BodyLoose p l y (headSpec ws rm) cc maxL ret e s m args below meth c s₁ → c.maxLocals = maxL → (∀ x ∈ c.exceptionTable.toList, False) → Pc args s →
      W p l e (headSpec ws rm).room s m args below meth c s.heap [] 0 0 (vx_MQ below Qc XC args s mc ms free) (entryFrame m args maxL)) : vx_Met l y ws rm Pc Qc XC mc ms free := by
  refine MetFree.of_bodyS (code := cc) (maxLocals := maxL) (ret := ret) hy ?_ ?_
  · intro args s m h hn
    obtain ⟨meth, c, h1, h2, h3, h4, h5, h6, -, -⟩ := Cond.code_spec hn (atoms_spec (ws := ws) h _ (by rw [hw]; exact List.mem_cons_self))
    exact ⟨meth, c, h1, h2, h3, h4, h5, h6⟩
  · intro p e s m args below meth c s₁ B hml hP _
    have hh0 : s₁.heap = s.heap := by rw [B.state]; rfl
    have ht : ∀ x ∈ c.exceptionTable.toList, False := by
      obtain ⟨meth9, c9, h1, h2, -, -, -, -, h7, -⟩ := Cond.code_spec B.named (atoms_spec (ws := ws) B.pre _ (by rw [hw]; exact List.mem_cons_self))
      cases Option.some.inj (h1.symm.trans B.method)
      cases Option.some.inj (h2.symm.trans (Stand.of_body B).code)
      intro x hx
      rw [Array.isEmpty_iff.mp h7] at hx
      cases hx
    obtain ⟨t, a1, o, b1, b2, b3⟩ := body p e s m args below meth c s₁ B hml ht hP s₁ hh0 (Stand.of_body B)
    exact ⟨t, o, a1, b1, b2, b3⟩
/-- the table of a body with handlers -/
theorem vx_table {p : Program} {x y : MethodName} {S : Spec} {cc bytes : ByteArray} {maxL maxL' : Nat} {ret ret' : Option FieldType} {e : Env} {s s₁ : State} {m : MethodId} {args : Array Value} {below : List Frame} {meth : Method} {c : Code} {hh : List (Nat × Nat × Nat × Nat)}
    (B : BodyLoose p l y S cc maxL ret e s m args below meth c s₁) (h : (Cond.codeWith y bytes maxL' ret' hh).before args s = true) : c.exceptionTable.toList = tableOf hh := by
  obtain ⟨m9, meth9, c9, hn9, h1, h2, -, -, h6, -⟩ := Cond.codeWith_spec h
  cases Option.some.inj (hn9.symm.trans B.named)
  cases Option.some.inj (h1.symm.trans B.method)
  cases Option.some.inj (h2.symm.trans (Stand.of_body B).code)
  rw [← h6, table_eq]
end Bodies
end VXA
/-! ===== END ===== -/
/-! ===== BEGIN a static call of a method with an exception table ===== -/
section VXS
variable {p : Program} {l : Launch} {e : Env} {R : Room} {s : State} {m : MethodId} {args : Array Value} {below : List Frame} {meth : Method} {c : Code} {T : State} {H : Heap} {locs : List Loc} {cells slots : Nat}
abbrev vx_CSW (R : Room) (s : State) (args : Array Value) (own : String) (index : Nat) (y : MethodName) (bytes : ByteArray) (maxL : Nat) (ret : Option FieldType) (hh : List (Nat × Nat × Nat × Nat)) (ws : List Cond) (rm : Room) (mc ms n : Nat) : Prop :=
  (rm.cells = mc ∧ rm.slots = ms ∧ rm.frames + 1 ≤ R.frames ∧ 8 + (maxL + 11) + rm.locals ≤ R.locals ∧ (∀ w ∈ ws, ∀ (a' : Array Value) (U : State), s.WarmedH U.vm → w.before a' U = true) ∧ Cond.codeWith y bytes maxL ret hh ∈ ws) ∧
  (Cond.codeWith y bytes maxL ret hh).before args s = true ∧ (Cond.initialized y.cls).before args s = true ∧ (y.cls ≠ "java/lang/invoke/MethodHandle" ∧ y.cls ≠ "java/lang/invoke/VarHandle") ∧
  (∀ sig, parseMethodDescriptor y.desc = some sig → n = sig.parameters.length) ∧ (Cond.methodLink own index y).before args s = true ∧ (Cond.static y).before args s = true
theorem vx_cwSW {own : String} {index maxL mc ms : Nat} {y : MethodName} {bytes : ByteArray} {ret : Option FieldType} {hh : List (Nat × Nat × Nat × Nat)} {Ts ws ws' : List Cond} {rm : Room} (n : Nat) (ht : ∀ w ∈ Ts, w.before args s = true) (hT : GoodIn Ts (va_wsS own index y ws)) (hw : ws = Cond.codeWith y bytes maxL ret hh :: ws') (hrc : rm.cells = mc) (hrs : rm.slots = ms)
    (hd : y.cls ≠ "java/lang/invoke/MethodHandle" ∧ y.cls ≠ "java/lang/invoke/VarHandle" ∧ (parseMethodDescriptor y.desc).map (fun d => d.parameters.length) = some n) (hR : rm.frames + 1 ≤ R.frames ∧ 8 + (maxL + 11) + rm.locals ≤ R.locals) :
    vx_CSW R s args own index y bytes maxL ret hh ws rm mc ms n := by
  have ok : ∀ w ∈ va_wsS own index y ws, w.before args s = true := fun w h => ht w (hT w h).1
  have hG : GoodIn Ts ws := fun w h => hT w (by unfold va_wsS; exact List.mem_append_right _ h)
  have hc : Cond.codeWith y bytes maxL ret hh ∈ ws := by rw [hw]; exact List.mem_cons_self
  refine ⟨⟨hrc, hrs, hR.1, hR.2, pay_in ht hG, hc⟩, ht _ (hG _ hc).1, ok _ (by simp [va_wsS]), ⟨hd.1, hd.2.1⟩, fun sig h => ?_, ok _ (by simp [va_wsS]), ok _ (by simp [va_wsS])⟩
  have h2 := hd.2.2
  rw [h] at h2
  exact (Option.some.inj h2).symm
theorem vx_callSW (X : Stand p l e R s m args below meth c T locs cells slots) (hexec : p.tables.exec = Jvm.exec) {own : String} {index : Nat} {y : MethodName} {bytes : ByteArray} {maxL : Nat} {ret : Option FieldType} {hh : List (Nat × Nat × Nat × Nat)}
    (hown : s.vm.findClass own = some m.cls) (hlink : (Cond.methodLink own index y).before args s = true) (hstat : (Cond.static y).before args s = true) (hinit : (Cond.initialized y.cls).before args s = true)
    (hcode : (Cond.codeWith y bytes maxL ret hh).before args s = true) (hy : y.cls ≠ "java/lang/invoke/MethodHandle" ∧ y.cls ≠ "java/lang/invoke/VarHandle")
    {W9 : Nat} {Pre : Pt → Array Value → Prop} {Post : Pt → Array Value → Option Value → Pt → Prop} (hK : Back l R p e below s args y 3 W9 Pre Post)
    {g : JFrame} (hg : g.method = m) (hsize : g.locals.size = c.maxLocals) {argsL rest : List Value} (hlen : ∀ sig, parseMethodDescriptor y.desc = some sig → argsL.length = sig.parameters.length)
    (hstack : g.stack = argsL.reverse ++ rest) (hW : 2 * g.monitorRoom + (rest.map fun v => v.category).sum ≤ W9) (hdg : decode c.code g.pc = .ok (.invokestatic index, 3))
    (hpre : ∀ vm₁, s.WarmedH vm₁ → Pre ⟨T.setVm vm₁, locs, cells, slots⟩ argsL.toArray) :
    ∃ (v : Option Value) (vm₁ : Vm) (B : Pt), s.WarmedH vm₁ ∧ Stand p l e R s m args below meth c B.U B.locs B.cells B.slots ∧ Post ⟨T.setVm vm₁, locs, cells, slots⟩ argsL.toArray v B ∧
      ∀ target, Steps p.tables e below (B.U.setTop { g with pc := g.pc + 3, stack := v.toList ++ rest }) target → Steps p.tables e below (T.setTop g) target := by
  obtain ⟨mk, methM, cM, hnamed, hmethM, -, -, -, -, -, -, hsigM⟩ := Cond.codeWith_spec hcode
  have hstatic : methM.isStatic = true := Cond.static_spec hnamed hmethM hstat
  obtain ⟨kP, hkP, -⟩ := className_of_methodNamed hnamed
  have hinitP : kP.init = .initialized := Cond.initialized_spec (findClass_of_methodNamed hnamed) hkP hinit
  obtain ⟨vm₁, X₁, hstep₁⟩ := X.invokestatic hexec hown hlink hnamed hmethM hstatic hkP hinitP hy (g := g) hg (argsL := argsL) (rest := rest) (hlen _ hsigM) hstack hdg
  obtain ⟨v, B, X', hpost, hsteps⟩ := hK m meth c ⟨T.setVm vm₁, locs, cells, slots⟩ { g with stack := rest } (.invokestatic index) mk argsL.toArray X₁ hg hsize hdg hW (X₁.named hnamed) (hpre vm₁ X₁.warmed)
  exact ⟨v, vm₁, B, X₁.warmed, X', hpost, fun target h => hstep₁ _ fun acts => by rw [doInvoke_state]; exact hsteps.trans h⟩
theorem vx_runSW {y : MethodName} {bytes cc : ByteArray} {maxL nL mc ms n index : Nat} {ret : Option FieldType} {hh : List (Nat × Nat × Nat × Nat)} {ws : List Cond} {rm : Room} {Pc : Array Value → State → Prop} {Qc : Array Value → State → Outcome → State → Prop} {free : Addr → Prop} {Ts : List Cond} {own : String} {As rest : List Value} {g : JFrame}
    (S : CallFix p m c cc nL s args Ts own) (hM : Met l y ws rm Pc Qc mc ms free) (cw : vx_CSW R s args own index y bytes maxL ret hh ws rm mc ms n) (hp : PreS s H Pc As)
    (hg : g.method = m) (hn : As.length = n) (hsize : g.locals.size = nL) (hstack : g.stack = As.reverse ++ rest) (hW : 2 * g.monitorRoom + (rest.map fun v => v.category).sum ≤ 8) (hdg : decode cc g.pc = .ok (.invokestatic index, 3)) (hf : cells + mc ≤ R.cells ∧ slots + ms ≤ R.slots) :
    va_Run p l e R s m args below meth c H locs cells slots mc ms g rest (Qc As.toArray) (free) := by
  obtain ⟨⟨hrc, hrs, hfr, hlo, hws, hcw⟩, hcode, hini, hy, hlen, hl, hstt⟩ := cw
  have hK : Back l R p e below s args y 3 8 (PreOf R mc ms Pc) (PostOf Qc mc ms free) := va_backW (hh := hh) (bytes := bytes) (maxL := maxL) (ret := ret) hM hp.1 hrc hrs hfr hlo hws hcw (fun a' U hW => word_at hW (Or.inl (by first | rfl | simp [Cond.onTables, Cond.keeps, Cond.steady])) hini)
  obtain ⟨hx, hb, hml, ho, -⟩ := S
  intro T hT X
  obtain ⟨v, vm₁, ⟨U', l2, c2, s2⟩, hW₁, X', ⟨g', mk, t, L, e1, e2, hq, h1, hL, h2, h3⟩, st⟩ := vx_callSW X hx (hh := hh) (bytes := bytes) (maxL := maxL) (ret := ret) ho hl hstt hini hcode hy hK hg (hsize.trans hml.symm) (argsL := As) (rest := rest) (fun sig h => hn.trans (hlen sig h)) hstack hW (by rw [hb]; exact hdg)
    (fun vm₁ hW₁ => ⟨hf.1, hf.2, hp.2 (T.setVm vm₁) hT hW₁⟩)
  dsimp only [Pt.U, Pt.locs, Pt.cells, Pt.slots] at X' e1 e2 h1 h2 h3 st
  subst h1; subst h2; subst h3
  exact ⟨v, (T.setVm vm₁).calling g' mk As.toArray, t, U', L, hT, X', hL, e1, e2, hq, st⟩
/-- not caught here, past rows that name other classes: it goes on to the caller -/
theorem vx_outP {p : Program} {l : Launch} {e : Env} {R : Room} {s : State} {m : MethodId} {args : Array Value} {below : List Frame} {meth : Method} {c : Code} {H : Heap} {locs : List Loc} {cells slots : Nat} {free : Addr → Prop} {ls : Array Slot} {rest : List Value} {Qc : Array Value → State → Outcome → State → Prop} {XC : String → State → State → Prop}
    {pc : Nat} {own E : String} {ce : Cell} {q : Addr} {mc ms : Nat} (hown : s.vm.findClass own = some m.cls) (hlocks : meth.locks = false)
    (hpass : ∀ z ∈ c.exceptionTable.toList, covers z pc = false ∨ (z.catchType ≠ 0 ∧ ∃ nm : String, (Cond.classLink own z.catchType nm).before args s = true ∧ va_Nc E nm s)) (hcell : H[q]? = some ce) (hv : ce.vm = .none) (hcl : s.vm.findClass E = some ce.cls)
    (hx : ∀ t : State, t.heap = H → s.vm.Alike t.vm → XC E s t) (hf : ∀ z ∈ locs, free z.base) (hc : cells ≤ mc) (hs : slots ≤ ms) :
    vx_W p l e R s m args below meth c H locs cells slots (vx_MQ below Qc XC args s mc ms free) (F0 m pc ls rest) q := by
  intro T hT X
  have hpl : e.platform.magicAccessors = ({} : Platform).magicAccessors := by rw [X.admits.platform]
  obtain ⟨vm', hW', X', st⟩ := X.outThrough hlocks q (g := F0 m pc ls rest) rfl rfl rfl (cell := ce) (by rw [hT]; exact hcell) (by rw [hv]; rfl)
    (by obtain ⟨k9, h9, -⟩ := Vm.findClass_spec hcl; exact ⟨k9, h9⟩) (fun z hz => by
      rcases hpass z hz with h | ⟨hz0, nm, hl1, hn1⟩
      · exact Or.inl h
      · obtain ⟨c6, hc6, hcl6⟩ := Cond.classLink_spec hown hl1 e.platform hpl
        obtain ⟨a8, b8, h1, h2, h3⟩ := hn1
        cases Option.some.inj (h1.symm.trans hcl)
        cases Option.some.inj (h2.symm.trans hc6)
        exact Or.inr ⟨hz0, _, hcl6, h3⟩)
  obtain ⟨g₀, hfr⟩ := X'.frames_eq
  have hcell9 : ((T.setVm vm').setFrames (.throwing q :: below)).heap[q]? = some ce := by
    show T.heap[q]? = some ce
    rw [hT]; exact hcell
  have hend : Ended ((T.setVm vm').setFrames (.throwing q :: below)) below (.threw q) := State.frames_setFrames _ (State.cur_lt_of_frames hfr)
  refine ⟨(T.setVm vm').setFrames (.throwing q :: below), ?_, .threw q, X'.here.running, hend, Or.inr ⟨q, rfl, E, ce, locs, hx _ hT (X'.ends _).1.alike, hcell9, hv, hcl, (X'.ends _).1, (X'.ends _).2.mono hc hs, hf⟩⟩
  rw [X.pushThrowing_eq]
  exact st
/-- a thing of a world lies in the heap -/
theorem vx_lt {D : va_G} {cl : List vw_C} {ws : va_W} {H1 : Heap} (h : va_P D cl ws H1) {k : Nat} {q : Nat × va_E} (hk : ws[k]? = some q) : q.1 < H1.size := (h k q hk).lt
end VXS
/-! ===== END ===== -/
/-! ===== BEGIN methods with a table of their own: called by a name, returning or throwing ===== -/
section VXH
/-! vx_backW, vx_callVX, vx_callSX, vx_callVW, vx_runVW, vx_runVX, vx_runSX, vx_ofWH follow the same proofs as their sisters above (Free/Laws.lean, Shelf42/LK1.lean); vx_outP calls Shelf42/NT130.lean (outThrough). -/
section
variable {l : Launch} {R : Room} {p : Program} {e : Env} {below : List Frame} {s : State} {sargs : Array Value} {y : MethodName} {len W9 : Nat}
theorem vx_backW {ws : List Cond} {rm : Room} {Pc : Array Value → State → Prop} {Qc : Array Value → State → Outcome → State → Prop} {XC : String → State → State → Prop} {mc ms : Nat} {free : Addr → Prop} {bytes : ByteArray} {maxL : Nat} {ret : Option FieldType} {hh : List (Nat × Nat × Nat × Nat)}
    (hM : vx_Met l y ws rm Pc Qc XC mc ms free) (hblind : FrameBlind Pc) (hrc : rm.cells = mc) (hrs : rm.slots = ms)
    (hframes : rm.frames + 1 ≤ R.frames) (hlocals : W9 + (maxL + 11) + rm.locals ≤ R.locals)
    (hws : ∀ w ∈ ws, ∀ a' U, s.WarmedH U.vm → w.before a' U = true) (hcode : Cond.codeWith y bytes maxL ret hh ∈ ws) (hinit : ∀ a' U, s.WarmedH U.vm → (Cond.initialized y.cls).before a' U = true) :
    vx_Back l R p e below s sargs y len W9 (PreOf R mc ms Pc) (PostOf Qc mc ms free) (vx_Post XC mc ms free) := by
  intro m meth c A g ig mk a X hg hsize hdg hW hn hp
  have h1 : (headSpec ws rm).pre.before a A.U = true := atoms_intro fun w hw => hws w hw _ _ X.warmed
  have h2 : (Cond.codeWith y bytes maxL ret hh).before a A.U = true := hws _ hcode _ _ X.warmed
  have h3 : (Cond.initialized y.cls).before a A.U = true := hinit _ _ X.warmed
  have h4 : A.cells + (headSpec ws rm).room.cells ≤ R.cells := by rw [show (headSpec ws rm).room.cells = mc from hrc]; exact hp.1
  have h5 : A.slots + (headSpec ws rm).room.slots ≤ R.slots := by rw [show (headSpec ws rm).room.slots = ms from hrs]; exact hp.2.1
  have hPc : Pc a (A.U.calling g mk a) := hblind _ _ _ _ hp.2.2
  obtain ⟨U, Ls, c0, s0⟩ := A
  dsimp only [Pt.U, Pt.locs, Pt.cells, Pt.slots] at h1 h2 h3 h4 h5 X hn hPc ⊢
  obtain ⟨m9, methY, cY, hn9, hmY, hcY, -, hlY, -⟩ := Cond.codeWith_spec h2
  cases Option.some.inj (hn9.symm.trans hn)
  obtain ⟨kY, hkY, -⟩ := className_of_methodNamed hn
  have hinitY : kY.init = .initialized := Cond.initialized_spec (findClass_of_methodNamed hn) hkY h3
  have h : At U g.method c below := by rw [hg]; exact X.here
  have hlocals9 : W9 + (maxL + 11) + (headSpec ws rm).room.locals ≤ R.locals := hlocals
  have happ : (headSpec ws rm).appliesLoose y e.platform (U.calling g mk a) = true :=
    Spec.appliesLoose_calling (g := g) h hdg hn hkY hinitY
      (X.room_calling (g := g) (R' := (headSpec ws rm).room) hsize hmY hcY hframes (by rw [hlY]; omega) h4 h5) h1
  obtain ⟨mid, hmid⟩ := h.above
  have hfr : (U.setTop g).frames = (.java g :: mid) ++ below := by rw [State.frames_setTop' g h.top, hmid]; rfl
  obtain ⟨o, s₂, hsteps, -, hend, hq⟩ := Steps.callFree hM p X.admits X.cas X.clock (acts := []) hfr happ hPc trivial
  have hq' : vx_Q Qc XC mc ms free a (U.calling g mk a) o s₂ := hq
  rw [State.frames_setTop' g h.top] at hend
  obtain ⟨g₀, hg0⟩ := Option.isSome_iff_exists.mp h.top
  obtain ⟨r, hr⟩ := State.topJava?_eq_some.mp hg0
  have hr' : (({ U with heap := s₂.heap, slotsUsed := s₂.slotsUsed } : State).setVm s₂.vm).frames = .java g₀ :: r := hr
  rcases hq' with ⟨hqc, L, hfe, hL⟩ | ⟨q, rfl, E, ce, L, hx, hce, hcv, hcl, hW₂, hsm, hL⟩
  · obtain ⟨⟨v, rfl⟩, hW₂, e2, q2, q3, q4, q5, q6⟩ := id hfe
    have e3 : s₂ = ({ (U.calling g mk a).setFrames s₂.frames with heap := s₂.heap, slotsUsed := s₂.slotsUsed } : State).setVm s₂.vm := by
      have : s₂ = ({ s₂ with vm := (U.calling g mk a).vm } : State).setVm s₂.vm := rfl
      rw [e2] at this
      exact this
    obtain ⟨c₂, i₂, len₂, hc₂, hd₂, hf₂⟩ := hend
    have hW' : U.WarmedH s₂.vm := hW₂
    have hcc : c₂ = c := by
      have h1 : s₂.code? g.method = U.code? g.method := by
        rw [State.code?_eq, State.code?_eq, hW'.alike.method?]
      exact Option.some.inj (hc₂.symm.trans (h1.trans h.code))
    subst hcc
    have hlen : len₂ = len := by rw [hdg] at hd₂; cases hd₂; rfl
    subst hlen
    have hs₂ : s₂ = (({ U with heap := s₂.heap, slotsUsed := s₂.slotsUsed } : State).setVm s₂.vm).setTop { g with pc := g.pc + len₂, stack := v.toList ++ g.stack } := by
      refine e3.trans ?_
      rw [hf₂, State.calling_eq h.top, State.setFrames_setFrames, State.setTop_of_frames _ hr', hr]
      rfl
    have hsame : U.sameButNew ({ U with heap := s₂.heap, slotsUsed := s₂.slotsUsed } : State) L mc ms := by
      refine ⟨?_, q2, q3, q4, q5, q6⟩
      obtain ⟨t, ht, -⟩ := State.frames_cons hr
      show ({ U with heap := s₂.heap, slotsUsed := s₂.slotsUsed } : State) = { U.setFrames U.frames with heap := s₂.heap, slotsUsed := s₂.slotsUsed }
      rw [State.setFrames_self ht]
    subst hg
    refine Or.inl ⟨v, ⟨(({ U with heap := s₂.heap, slotsUsed := s₂.slotsUsed } : State).setVm s₂.vm), Ls ++ L, c0 + mc, s0 + ms⟩,
      ⟨X.admits, X.cas, X.clock, X.frames, X.room, X.hears, X.method, X.code, (X.here.setHeapUsed s₂.heap s₂.slotsUsed).setVm hW'.alike, X.tail, State.WarmedH.trans X.warmed hW', X.limits, X.bytes, X.same.trans (hsame.setVm s.vm)⟩,
      ⟨g, mk, s₂, L, rfl, rfl, hqc, rfl, hL, rfl, rfl⟩, ?_⟩
    show Steps p.tables e below _ ((({ U with heap := s₂.heap, slotsUsed := s₂.slotsUsed } : State).setVm s₂.vm).setTop { g with pc := g.pc + len₂, stack := v.toList ++ g.stack })
    rw [← hs₂]
    exact hsteps
  · obtain ⟨e2, q2, q3, q4, q5, q6⟩ := id hsm
    have e3 : s₂ = ({ (U.calling g mk a).setFrames s₂.frames with heap := s₂.heap, slotsUsed := s₂.slotsUsed } : State).setVm s₂.vm := by
      have : s₂ = ({ s₂ with vm := (U.calling g mk a).vm } : State).setVm s₂.vm := rfl
      rw [e2] at this
      exact this
    have hf₂ : s₂.frames = .throwing q :: .java g :: U.frames.tail := hend
    have hW' : U.WarmedH s₂.vm := hW₂
    have hs₂ : s₂ = ((({ U with heap := s₂.heap, slotsUsed := s₂.slotsUsed } : State).setVm s₂.vm).setTop g).pushFrame (.throwing q) := by
      refine e3.trans ?_
      rw [hf₂, State.calling_eq h.top, State.setFrames_setFrames, State.pushFrame, State.frames_setTop _ hr', State.setTop_of_frames _ hr', State.setFrames_setFrames, hr]
      rfl
    have hsame : U.sameButNew ({ U with heap := s₂.heap, slotsUsed := s₂.slotsUsed } : State) L mc ms := by
      refine ⟨?_, q2, q3, q4, q5, q6⟩
      obtain ⟨t, ht, -⟩ := State.frames_cons hr
      show ({ U with heap := s₂.heap, slotsUsed := s₂.slotsUsed } : State) = { U.setFrames U.frames with heap := s₂.heap, slotsUsed := s₂.slotsUsed }
      rw [State.setFrames_self ht]
    subst hg
    refine Or.inr ⟨q, ⟨(({ U with heap := s₂.heap, slotsUsed := s₂.slotsUsed } : State).setVm s₂.vm), Ls ++ L, c0 + mc, s0 + ms⟩,
      ⟨X.admits, X.cas, X.clock, X.frames, X.room, X.hears, X.method, X.code, (X.here.setHeapUsed s₂.heap s₂.slotsUsed).setVm hW'.alike, X.tail, State.WarmedH.trans X.warmed hW', X.limits, X.bytes, X.same.trans (hsame.setVm s.vm)⟩,
      ⟨g, mk, s₂, L, E, ce, rfl, rfl, hx, hce, hcv, hcl, rfl, hL, rfl, rfl⟩, ?_⟩
    show Steps p.tables e below _ (((({ U with heap := s₂.heap, slotsUsed := s₂.slotsUsed } : State).setVm s₂.vm).setTop g).pushFrame (.throwing q))
    rw [← hs₂]
    exact hsteps
end
variable {p : Program} {l : Launch} {e : Env} {R : Room} {s : State} {m : MethodId} {args : Array Value} {below : List Frame} {meth : Method} {c : Code} {T : State} {H : Heap} {locs : List Loc} {cells slots : Nat}
theorem vx_callVX (X : Stand p l e R s m args below meth c T locs cells slots) (hexec : p.tables.exec = Jvm.exec) {own C : String} {index : Nat} {y : MethodName} {bytes : ByteArray} {maxL : Nat} {ret : Option FieldType} {hh : List (Nat × Nat × Nat × Nat)}
    (hown : s.vm.findClass own = some m.cls) (hlink : (Cond.methodLink own index y).before args s = true) (hinst : (Cond.instanceMethod y).before args s = true) (hsel : (Cond.selects C y y).before args s = true)
    (hcode : (Cond.codeWith y bytes maxL ret hh).before args s = true) (hy : y.cls ≠ "java/lang/invoke/MethodHandle" ∧ y.cls ≠ "java/lang/invoke/VarHandle")
    {W9 : Nat} {Pre : Pt → Array Value → Prop} {Post : Pt → Array Value → Option Value → Pt → Prop} {PostX : Pt → Array Value → Addr → Pt → Prop} (hK : vx_Back l R p e below s args y 3 W9 Pre Post PostX)
    {b : Addr} {cellB : Cell} (hcell : T.heap[b]? = some cellB) (hobj : cellB.vm.isStatics = false) (hcls : s.vm.findClass C = some cellB.cls)
    {g : JFrame} (hg : g.method = m) (hsize : g.locals.size = c.maxLocals) {argsL rest : List Value} (hlen : ∀ sig, parseMethodDescriptor y.desc = some sig → argsL.length = sig.parameters.length)
    (hstack : g.stack = argsL.reverse ++ .ref b :: rest) (hW : 2 * g.monitorRoom + (rest.map fun v => v.category).sum ≤ W9) (hdg : decode c.code g.pc = .ok (.invokevirtual index, 3))
    (hpre : ∀ vm₁, s.WarmedH vm₁ → Pre ⟨T.setVm vm₁, locs, cells, slots⟩ (Value.ref b :: argsL).toArray) :
    (∃ (v : Option Value) (vm₁ : Vm) (B : Pt), s.WarmedH vm₁ ∧ Stand p l e R s m args below meth c B.U B.locs B.cells B.slots ∧ Post ⟨T.setVm vm₁, locs, cells, slots⟩ (Value.ref b :: argsL).toArray v B ∧
      ∀ target, Steps p.tables e below (B.U.setTop { g with pc := g.pc + 3, stack := v.toList ++ rest }) target → Steps p.tables e below (T.setTop g) target) ∨
    (∃ (q : Addr) (vm₁ : Vm) (B : Pt), s.WarmedH vm₁ ∧ Stand p l e R s m args below meth c B.U B.locs B.cells B.slots ∧ PostX ⟨T.setVm vm₁, locs, cells, slots⟩ (Value.ref b :: argsL).toArray q B ∧
      Steps p.tables e below (T.setTop g) ((B.U.setTop { g with stack := rest }).pushFrame (.throwing q))) := by
  obtain ⟨mk, methM, hnamed, hmethM, hstM, habM⟩ := Cond.instanceMethod_spec hinst
  obtain ⟨m8, methM', cM, hn8, hmethM', -, -, -, -, -, -, hsigM⟩ := Cond.codeWith_spec hcode
  cases Option.some.inj (hn8.symm.trans hnamed)
  cases hmethM.symm.trans hmethM'
  obtain ⟨c2, r2, m2, q1, q2, q3, q4, kP, hkP, hkPi⟩ := Cond.selects_spec hsel
  cases hcls.symm.trans q1
  cases (State.methodFound?_of_named hnamed hy).symm.trans q2
  cases hnamed.symm.trans q3
  have hselP : selectMethod e.platform s.vm cellB.cls mk = .method mk := by rw [Launch.admits_selectMethod X.admits]; exact q4
  obtain ⟨vm₁, X₁, hstep₁⟩ := X.invokevirtual hexec hown hlink hnamed hmethM hstM hkP hkPi hy (a := b) (cell := cellB) hcell
    (fun z h => by rw [h] at hobj; cases hobj) hselP hmethM habM hkP hkPi (g := g) hg (argsL := argsL) (rest := rest) (hlen _ hsigM) hstack hdg
  rcases hK m meth c ⟨T.setVm vm₁, locs, cells, slots⟩ { g with stack := rest } (.invokevirtual index) mk (Value.ref b :: argsL).toArray X₁ hg hsize hdg hW (X₁.named hnamed) (hpre vm₁ X₁.warmed) with ⟨v, B, X', hpost, hsteps⟩ | ⟨q, B, X', hpost, hsteps⟩
  · exact Or.inl ⟨v, vm₁, B, X₁.warmed, X', hpost, fun target h => hstep₁ _ fun acts => by rw [doInvoke_state]; exact hsteps.trans h⟩
  · exact Or.inr ⟨q, vm₁, B, X₁.warmed, X', hpost, hstep₁ _ fun acts => by rw [doInvoke_state]; exact hsteps⟩
theorem vx_callSX (X : Stand p l e R s m args below meth c T locs cells slots) (hexec : p.tables.exec = Jvm.exec) {own : String} {index : Nat} {y : MethodName} {bytes : ByteArray} {maxL : Nat} {ret : Option FieldType} {hh : List (Nat × Nat × Nat × Nat)}
    (hown : s.vm.findClass own = some m.cls) (hlink : (Cond.methodLink own index y).before args s = true) (hstat : (Cond.static y).before args s = true) (hinit : (Cond.initialized y.cls).before args s = true)
    (hcode : (Cond.codeWith y bytes maxL ret hh).before args s = true) (hy : y.cls ≠ "java/lang/invoke/MethodHandle" ∧ y.cls ≠ "java/lang/invoke/VarHandle")
    {W9 : Nat} {Pre : Pt → Array Value → Prop} {Post : Pt → Array Value → Option Value → Pt → Prop} {PostX : Pt → Array Value → Addr → Pt → Prop} (hK : vx_Back l R p e below s args y 3 W9 Pre Post PostX)
    {g : JFrame} (hg : g.method = m) (hsize : g.locals.size = c.maxLocals) {argsL rest : List Value} (hlen : ∀ sig, parseMethodDescriptor y.desc = some sig → argsL.length = sig.parameters.length)
    (hstack : g.stack = argsL.reverse ++ rest) (hW : 2 * g.monitorRoom + (rest.map fun v => v.category).sum ≤ W9) (hdg : decode c.code g.pc = .ok (.invokestatic index, 3))
    (hpre : ∀ vm₁, s.WarmedH vm₁ → Pre ⟨T.setVm vm₁, locs, cells, slots⟩ argsL.toArray) :
    (∃ (v : Option Value) (vm₁ : Vm) (B : Pt), s.WarmedH vm₁ ∧ Stand p l e R s m args below meth c B.U B.locs B.cells B.slots ∧ Post ⟨T.setVm vm₁, locs, cells, slots⟩ argsL.toArray v B ∧
      ∀ target, Steps p.tables e below (B.U.setTop { g with pc := g.pc + 3, stack := v.toList ++ rest }) target → Steps p.tables e below (T.setTop g) target) ∨
    (∃ (q : Addr) (vm₁ : Vm) (B : Pt), s.WarmedH vm₁ ∧ Stand p l e R s m args below meth c B.U B.locs B.cells B.slots ∧ PostX ⟨T.setVm vm₁, locs, cells, slots⟩ argsL.toArray q B ∧
      Steps p.tables e below (T.setTop g) ((B.U.setTop { g with stack := rest }).pushFrame (.throwing q))) := by
  obtain ⟨mk, methM, cM, hnamed, hmethM, -, -, -, -, -, -, hsigM⟩ := Cond.codeWith_spec hcode
  have hstatic : methM.isStatic = true := Cond.static_spec hnamed hmethM hstat
  obtain ⟨kP, hkP, -⟩ := className_of_methodNamed hnamed
  have hinitP : kP.init = .initialized := Cond.initialized_spec (findClass_of_methodNamed hnamed) hkP hinit
  obtain ⟨vm₁, X₁, hstep₁⟩ := X.invokestatic hexec hown hlink hnamed hmethM hstatic hkP hinitP hy (g := g) hg (argsL := argsL) (rest := rest) (hlen _ hsigM) hstack hdg
  rcases hK m meth c ⟨T.setVm vm₁, locs, cells, slots⟩ { g with stack := rest } (.invokestatic index) mk argsL.toArray X₁ hg hsize hdg hW (X₁.named hnamed) (hpre vm₁ X₁.warmed) with ⟨v, B, X', hpost, hsteps⟩ | ⟨q, B, X', hpost, hsteps⟩
  · exact Or.inl ⟨v, vm₁, B, X₁.warmed, X', hpost, fun target h => hstep₁ _ fun acts => by rw [doInvoke_state]; exact hsteps.trans h⟩
  · exact Or.inr ⟨q, vm₁, B, X₁.warmed, X', hpost, hstep₁ _ fun acts => by rw [doInvoke_state]; exact hsteps⟩
theorem vx_callVW (X : Stand p l e R s m args below meth c T locs cells slots) (hexec : p.tables.exec = Jvm.exec) {own C : String} {index : Nat} {y : MethodName} {bytes : ByteArray} {maxL : Nat} {ret : Option FieldType} {hh : List (Nat × Nat × Nat × Nat)}
    (hown : s.vm.findClass own = some m.cls) (hlink : (Cond.methodLink own index y).before args s = true) (hinst : (Cond.instanceMethod y).before args s = true) (hsel : (Cond.selects C y y).before args s = true)
    (hcode : (Cond.codeWith y bytes maxL ret hh).before args s = true) (hy : y.cls ≠ "java/lang/invoke/MethodHandle" ∧ y.cls ≠ "java/lang/invoke/VarHandle")
    {W9 : Nat} {Pre : Pt → Array Value → Prop} {Post : Pt → Array Value → Option Value → Pt → Prop} (hK : Back l R p e below s args y 3 W9 Pre Post)
    {b : Addr} {cellB : Cell} (hcell : T.heap[b]? = some cellB) (hobj : cellB.vm.isStatics = false) (hcls : s.vm.findClass C = some cellB.cls)
    {g : JFrame} (hg : g.method = m) (hsize : g.locals.size = c.maxLocals) {argsL rest : List Value} (hlen : ∀ sig, parseMethodDescriptor y.desc = some sig → argsL.length = sig.parameters.length)
    (hstack : g.stack = argsL.reverse ++ .ref b :: rest) (hW : 2 * g.monitorRoom + (rest.map fun v => v.category).sum ≤ W9) (hdg : decode c.code g.pc = .ok (.invokevirtual index, 3))
    (hpre : ∀ vm₁, s.WarmedH vm₁ → Pre ⟨T.setVm vm₁, locs, cells, slots⟩ (Value.ref b :: argsL).toArray) :
    ∃ (v : Option Value) (vm₁ : Vm) (B : Pt), s.WarmedH vm₁ ∧ Stand p l e R s m args below meth c B.U B.locs B.cells B.slots ∧ Post ⟨T.setVm vm₁, locs, cells, slots⟩ (Value.ref b :: argsL).toArray v B ∧
      ∀ target, Steps p.tables e below (B.U.setTop { g with pc := g.pc + 3, stack := v.toList ++ rest }) target → Steps p.tables e below (T.setTop g) target := by
  obtain ⟨mk, methM, hnamed, hmethM, hstM, habM⟩ := Cond.instanceMethod_spec hinst
  obtain ⟨m8, methM', cM, hn8, hmethM', -, -, -, -, -, -, hsigM⟩ := Cond.codeWith_spec hcode
  cases Option.some.inj (hn8.symm.trans hnamed)
  cases hmethM.symm.trans hmethM'
  obtain ⟨c2, r2, m2, q1, q2, q3, q4, kP, hkP, hkPi⟩ := Cond.selects_spec hsel
  cases hcls.symm.trans q1
  cases (State.methodFound?_of_named hnamed hy).symm.trans q2
  cases hnamed.symm.trans q3
  have hselP : selectMethod e.platform s.vm cellB.cls mk = .method mk := by rw [Launch.admits_selectMethod X.admits]; exact q4
  obtain ⟨vm₁, X₁, hstep₁⟩ := X.invokevirtual hexec hown hlink hnamed hmethM hstM hkP hkPi hy (a := b) (cell := cellB) hcell
    (fun z h => by rw [h] at hobj; cases hobj) hselP hmethM habM hkP hkPi (g := g) hg (argsL := argsL) (rest := rest) (hlen _ hsigM) hstack hdg
  obtain ⟨v, B, X', hpost, hsteps⟩ := hK m meth c ⟨T.setVm vm₁, locs, cells, slots⟩ { g with stack := rest } (.invokevirtual index) mk (Value.ref b :: argsL).toArray X₁ hg hsize hdg hW (X₁.named hnamed) (hpre vm₁ X₁.warmed)
  exact ⟨v, vm₁, B, X₁.warmed, X', hpost, fun target h => hstep₁ _ fun acts => by rw [doInvoke_state]; exact hsteps.trans h⟩
abbrev vx_CVW (R : Room) (s : State) (args : Array Value) (own C : String) (index : Nat) (y : MethodName) (bytes : ByteArray) (maxL : Nat) (ret : Option FieldType) (hh : List (Nat × Nat × Nat × Nat)) (ws : List Cond) (rm : Room) (mc ms n : Nat) : Prop :=
  (rm.cells = mc ∧ rm.slots = ms ∧ rm.frames + 1 ≤ R.frames ∧ 8 + (maxL + 11) + rm.locals ≤ R.locals ∧ (∀ w ∈ ws, ∀ (a' : Array Value) (U : State), s.WarmedH U.vm → w.before a' U = true) ∧ Cond.codeWith y bytes maxL ret hh ∈ ws) ∧
  (Cond.codeWith y bytes maxL ret hh).before args s = true ∧ (Cond.initialized y.cls).before args s = true ∧ (y.cls ≠ "java/lang/invoke/MethodHandle" ∧ y.cls ≠ "java/lang/invoke/VarHandle") ∧
  (∀ sig, parseMethodDescriptor y.desc = some sig → n = sig.parameters.length) ∧ (Cond.methodLink own index y).before args s = true ∧ (Cond.instanceMethod y).before args s = true ∧ (Cond.selects C y y).before args s = true
theorem vx_cwVW {own C : String} {index maxL mc ms : Nat} {y : MethodName} {bytes : ByteArray} {ret : Option FieldType} {hh : List (Nat × Nat × Nat × Nat)} {Ts ws ws' : List Cond} {rm : Room} (n : Nat) (ht : ∀ w ∈ Ts, w.before args s = true) (hT : GoodIn Ts (wsV own index C y ws)) (hw : ws = Cond.codeWith y bytes maxL ret hh :: ws') (hrc : rm.cells = mc) (hrs : rm.slots = ms)
    (hd : y.cls = C ∧ y.cls ≠ "java/lang/invoke/MethodHandle" ∧ y.cls ≠ "java/lang/invoke/VarHandle" ∧ (parseMethodDescriptor y.desc).map (fun d => d.parameters.length) = some n) (hR : rm.frames + 1 ≤ R.frames ∧ 8 + (maxL + 11) + rm.locals ≤ R.locals) :
    vx_CVW R s args own C index y bytes maxL ret hh ws rm mc ms n := by
  obtain ⟨hC, hd⟩ := hd
  subst hC
  have ok : ∀ w ∈ wsV own index y.cls y ws, w.before args s = true := fun w h => ht w (hT w h).1
  have hG : GoodIn Ts ws := fun w h => hT w (by unfold wsV; exact List.mem_append_right _ h)
  have hc : Cond.codeWith y bytes maxL ret hh ∈ ws := by rw [hw]; exact List.mem_cons_self
  refine ⟨⟨hrc, hrs, hR.1, hR.2, pay_in ht hG, hc⟩, ht _ (hG _ hc).1, ok _ (by simp [wsV]), ⟨hd.1, hd.2.1⟩, fun sig h => ?_, ok _ (by simp [wsV]), ok _ (by simp [wsV]), ok _ (by simp [wsV])⟩
  have h2 := hd.2.2
  rw [h] at h2
  exact (Option.some.inj h2).symm
theorem vx_runVW {y : MethodName} {bytes cc : ByteArray} {maxL nL mc ms n index : Nat} {ret : Option FieldType} {hh : List (Nat × Nat × Nat × Nat)} {ws : List Cond} {rm : Room} {Pc : Array Value → State → Prop} {Qc : Array Value → State → Outcome → State → Prop} {free : Addr → Prop} {Ts : List Cond} {own C : String} {b : Addr} {As rest : List Value} {g : JFrame}
    (S : CallFix p m c cc nL s args Ts own) (hM : Met l y ws rm Pc Qc mc ms free) (cw : vx_CVW R s args own C index y bytes maxL ret hh ws rm mc ms n) (hp : PreV s H C b Pc As)
    (hg : g.method = m) (hn : As.length = n) (hsize : g.locals.size = nL) (hstack : g.stack = As.reverse ++ .ref b :: rest) (hW : 2 * g.monitorRoom + (rest.map fun v => v.category).sum ≤ 8) (hdg : decode cc g.pc = .ok (.invokevirtual index, 3)) (hf : cells + mc ≤ R.cells ∧ slots + ms ≤ R.slots) :
    va_Run p l e R s m args below meth c H locs cells slots mc ms g rest (Qc (Value.ref b :: As).toArray) free := by
  obtain ⟨⟨hrc, hrs, hfr, hlo, hws, hcw⟩, hcode, hini, hy, hlen, hl, hin, hse⟩ := cw
  have hK : Back l R p e below s args y 3 8 (PreOf R mc ms Pc) (PostOf Qc mc ms free) := va_backW (hh := hh) (bytes := bytes) (maxL := maxL) (ret := ret) hM hp.1 hrc hrs hfr hlo hws hcw (fun a' U hW => word_at hW (Or.inl (by first | rfl | simp [Cond.onTables, Cond.keeps, Cond.steady])) hini)
  obtain ⟨hx, hb, hml, ho, -⟩ := S
  obtain ⟨-, ⟨cellB, hcB, hoB, hclB⟩, hPc⟩ := hp
  intro T hT X
  obtain ⟨v, vm₁, ⟨U', l2, c2, s2⟩, hW₁, X', ⟨g', mk, t, L, e1, e2, hq, h1, hL, h2, h3⟩, st⟩ := vx_callVW X hx (C := C) (hh := hh) (bytes := bytes) (maxL := maxL) (ret := ret) ho hl hin hse hcode hy hK (by rw [hT]; exact hcB) hoB hclB hg (hsize.trans hml.symm) (argsL := As) (rest := rest) (fun sig h => hn.trans (hlen sig h)) hstack hW (by rw [hb]; exact hdg)
    (fun vm₁ hW₁ => ⟨hf.1, hf.2, hPc (T.setVm vm₁) hT hW₁⟩)
  dsimp only [Pt.U, Pt.locs, Pt.cells, Pt.slots] at X' e1 e2 h1 h2 h3 st
  subst h1; subst h2; subst h3
  exact ⟨v, (T.setVm vm₁).calling g' mk (Value.ref b :: As).toArray, t, U', L, hT, X', hL, e1, e2, hq, st⟩
section
variable {y : MethodName} {bytes cc : ByteArray} {maxL nL mc ms n index : Nat} {ret : Option FieldType} {ws : List Cond} {rm : Room} {Pc : Array Value → State → Prop} {Qc : Array Value → State → Outcome → State → Prop} {XC : String → State → State → Prop} {free : Addr → Prop} {Ts : List Cond} {own C : String} {b : Addr} {As rest : List Value} {g : JFrame}
theorem vx_runVX {hh : List (Nat × Nat × Nat × Nat)} (S : CallFix p m c cc nL s args Ts own) (hM : vx_Met l y ws rm Pc Qc XC mc ms free) (cw : vx_CVW R s args own C index y bytes maxL ret hh ws rm mc ms n) (hp : PreV s H C b Pc As)
    (hg : g.method = m) (hn : As.length = n) (hsize : g.locals.size = nL) (hstack : g.stack = As.reverse ++ .ref b :: rest) (hW : 2 * g.monitorRoom + (rest.map fun v => v.category).sum ≤ 8) (hdg : decode cc g.pc = .ok (.invokevirtual index, 3)) (hf : cells + mc ≤ R.cells ∧ slots + ms ≤ R.slots) :
    vx_Run p l e R s m args below meth c H locs cells slots mc ms g rest (Qc (Value.ref b :: As).toArray) XC free := by
  obtain ⟨⟨hrc, hrs, hfr, hlo, hws, hcw⟩, hcode, hini, hy, hlen, hl, hin, hse⟩ := cw
  have hK : vx_Back l R p e below s args y 3 8 (PreOf R mc ms Pc) (PostOf Qc mc ms free) (vx_Post XC mc ms free) := vx_backW (hh := hh) (bytes := bytes) (maxL := maxL) (ret := ret) hM hp.1 hrc hrs hfr hlo hws hcw (fun a' U hW => word_at hW (Or.inl (by first | rfl | simp [Cond.onTables, Cond.keeps, Cond.steady])) hini)
  obtain ⟨hx, hb, hml, ho, -⟩ := S
  obtain ⟨-, ⟨cellB, hcB, hoB, hclB⟩, hPc⟩ := hp
  intro T hT X
  rcases vx_callVX X hx (C := C) (hh := hh) (bytes := bytes) (maxL := maxL) (ret := ret) ho hl hin hse hcode hy hK (by rw [hT]; exact hcB) hoB hclB hg (hsize.trans hml.symm) (argsL := As) (rest := rest) (fun sig h => hn.trans (hlen sig h)) hstack hW (by rw [hb]; exact hdg)
    (fun vm₁ hW₁ => ⟨hf.1, hf.2, hPc (T.setVm vm₁) hT hW₁⟩) with ⟨v, vm₁, ⟨U', l2, c2, s2⟩, hW₁, X', ⟨g', mk, t, L, e1, e2, hq, h1, hL, h2, h3⟩, st⟩ | ⟨q, vm₁, ⟨U', l2, c2, s2⟩, hW₁, X', ⟨g', mk, t, L, E, ce, e1, e2, hq, hce, hcv, hcl, h1, hL, h2, h3⟩, st⟩
  · dsimp only [Pt.U, Pt.locs, Pt.cells, Pt.slots] at X' e1 e2 h1 h2 h3 st
    subst h1; subst h2; subst h3
    exact Or.inl ⟨v, (T.setVm vm₁).calling g' mk (Value.ref b :: As).toArray, t, U', L, hT, X', hL, e1, e2, hq, st⟩
  · dsimp only [Pt.U, Pt.locs, Pt.cells, Pt.slots] at X' e1 e2 h1 h2 h3 st hcl
    subst h1; subst h2; subst h3
    exact Or.inr ⟨q, (T.setVm vm₁).calling g' mk (Value.ref b :: As).toArray, t, U', L, E, ce, hT, X', hL, e1, e2, hq, hce, hcv, vx_cls hW₁ hcl, st⟩
theorem vx_runSX {hh : List (Nat × Nat × Nat × Nat)} (S : CallFix p m c cc nL s args Ts own) (hM : vx_Met l y ws rm Pc Qc XC mc ms free) (cw : vx_CSW R s args own index y bytes maxL ret hh ws rm mc ms n) (hp : PreS s H Pc As)
    (hg : g.method = m) (hn : As.length = n) (hsize : g.locals.size = nL) (hstack : g.stack = As.reverse ++ rest) (hW : 2 * g.monitorRoom + (rest.map fun v => v.category).sum ≤ 8) (hdg : decode cc g.pc = .ok (.invokestatic index, 3)) (hf : cells + mc ≤ R.cells ∧ slots + ms ≤ R.slots) :
    vx_Run p l e R s m args below meth c H locs cells slots mc ms g rest (Qc As.toArray) XC free := by
  obtain ⟨⟨hrc, hrs, hfr, hlo, hws, hcw⟩, hcode, hini, hy, hlen, hl, hstt⟩ := cw
  have hK : vx_Back l R p e below s args y 3 8 (PreOf R mc ms Pc) (PostOf Qc mc ms free) (vx_Post XC mc ms free) := vx_backW (hh := hh) (bytes := bytes) (maxL := maxL) (ret := ret) hM hp.1 hrc hrs hfr hlo hws hcw (fun a' U hW => word_at hW (Or.inl (by first | rfl | simp [Cond.onTables, Cond.keeps, Cond.steady])) hini)
  obtain ⟨hx, hb, hml, ho, -⟩ := S
  intro T hT X
  rcases vx_callSX X hx (hh := hh) (bytes := bytes) (maxL := maxL) (ret := ret) ho hl hstt hini hcode hy hK hg (hsize.trans hml.symm) (argsL := As) (rest := rest) (fun sig h => hn.trans (hlen sig h)) hstack hW (by rw [hb]; exact hdg)
    (fun vm₁ hW₁ => ⟨hf.1, hf.2, hp.2 (T.setVm vm₁) hT hW₁⟩) with ⟨v, vm₁, ⟨U', l2, c2, s2⟩, hW₁, X', ⟨g', mk, t, L, e1, e2, hq, h1, hL, h2, h3⟩, st⟩ | ⟨q, vm₁, ⟨U', l2, c2, s2⟩, hW₁, X', ⟨g', mk, t, L, E, ce, e1, e2, hq, hce, hcv, hcl, h1, hL, h2, h3⟩, st⟩
  · dsimp only [Pt.U, Pt.locs, Pt.cells, Pt.slots] at X' e1 e2 h1 h2 h3 st
    subst h1; subst h2; subst h3
    exact Or.inl ⟨v, (T.setVm vm₁).calling g' mk As.toArray, t, U', L, hT, X', hL, e1, e2, hq, st⟩
  · dsimp only [Pt.U, Pt.locs, Pt.cells, Pt.slots] at X' e1 e2 h1 h2 h3 st hcl
    subst h1; subst h2; subst h3
    exact Or.inr ⟨q, (T.setVm vm₁).calling g' mk As.toArray, t, U', L, E, ce, hT, X', hL, e1, e2, hq, hce, hcv, vx_cls hW₁ hcl, st⟩
end
end VXH
theorem vx_ofWH {l : Launch} {y : MethodName} {ws ws' : List Cond} {rm : Room} {Pc : Array Value → State → Prop} {Qc : Array Value → State → Outcome → State → Prop} {XC : String → State → State → Prop} {mc ms : Nat} {free : Addr → Prop} {cc : ByteArray} {maxL : Nat} {ret : Option FieldType} {hh : List (Nat × Nat × Nat × Nat)}
    (hy : plainName y.cls = true) (hw : ws = Cond.codeWith y cc maxL ret hh :: ws')
    (body : ∀ p e s m args below meth c s₁, BodyLoose p l y (headSpec ws rm) cc maxL ret e s m args below meth c s₁ → c.maxLocals = maxL → Pc args s →
      W p l e (headSpec ws rm).room s m args below meth c s.heap [] 0 0 (vx_MQ below Qc XC args s mc ms free) (entryFrame m args maxL)) : vx_Met l y ws rm Pc Qc XC mc ms free := by
  refine MetFree.of_bodyS (code := cc) (maxLocals := maxL) (ret := ret) hy ?_ ?_
  · intro args s m h hn
    obtain ⟨m9, meth, c, hn9, h1, h2, h3, h4, -, h5, h6, -⟩ := Cond.codeWith_spec (atoms_spec (ws := ws) h _ (by rw [hw]; exact List.mem_cons_self))
    cases hn.symm.trans hn9
    exact ⟨meth, c, h1, h2, h3, h4, h5, h6⟩
  · intro p e s m args below meth c s₁ B hml hP _
    have hh0 : s₁.heap = s.heap := by rw [B.state]; rfl
    obtain ⟨t, a1, o, b1, b2, b3⟩ := body p e s m args below meth c s₁ B hml hP s₁ hh0 (Stand.of_body B)
    exact ⟨t, o, a1, b1, b2, b3⟩
/-! ===== END ===== -/
end
section
/-! ===== BEGIN printed: names, fields, word lists, decode rows ===== -/
def RX0 : String := "ToolCrib$Drawing"
def TX0 : u_T := fun k => match k with
  | 0 => ("ToolCrib$Drawing", "cells", "[I", true)
  | 1 => ("ToolCrib$Drawing", "heights", "[I", true)
  | 2 => ("ToolCrib$Drawing", "tolerances", "[I", true)
  | 3 => ("ToolCrib$Drawing", "more", "[I", true)
  | 4 => ("ToolCrib$Drawing", "papersLeft", "[I", true)
  | _ => ("ToolCrib$Drawing", "size", "I", false)
def tyX0 : Nat → FieldType := fun k => match k with
  | 0 => .array .int
  | 1 => .array .int
  | 2 => .array .int
  | 3 => .array .int
  | 4 => .array .int
  | _ => .int
theorem nmX0 : ∀ a, a < 6 → ∀ b, b < 6 → a ≠ b → (TX0 a).2.1 ≠ (TX0 b).2.1 := by decide +kernel
theorem tyX0_ok : ∀ k, k < 6 → parseFieldDescriptor (TX0 k).2.2.1 = some (tyX0 k) := by decide +kernel
abbrev cX0_init : ByteArray := prog_2_method_1_code
def yX0_init : MethodName := ⟨RX0, "<init>", "()V"⟩
abbrev cX0_append : ByteArray := prog_2_method_2_code
def yX0_append : MethodName := ⟨RX0, "append", "(III)V"⟩
abbrev cX0_toleranceNow : ByteArray := prog_2_method_3_code
def yX0_toleranceNow : MethodName := ⟨RX0, "toleranceNow", "(I)I"⟩
abbrev cX0_spendPaper : ByteArray := prog_2_method_4_code
def yX0_spendPaper : MethodName := ⟨RX0, "spendPaper", "()V"⟩
def RX1 : String := "ToolCrib$Gauge"
def TX1 : u_T := fun k => match k with
  | 0 => ("ToolCrib$Gauge", "since", "I", false)
  | _ => ("ToolCrib$Gauge", "doubt", "I", false)
def tyX1 : Nat → FieldType := fun k => match k with
  | 0 => .int
  | _ => .int
theorem nmX1 : ∀ a, a < 2 → ∀ b, b < 2 → a ≠ b → (TX1 a).2.1 ≠ (TX1 b).2.1 := by decide +kernel
theorem tyX1_ok : ∀ k, k < 2 → parseFieldDescriptor (TX1 k).2.2.1 = some (tyX1 k) := by decide +kernel
abbrev cX1_init : ByteArray := prog_3_method_1_code
def yX1_init : MethodName := ⟨RX1, "<init>", "()V"⟩
abbrev cX1_isGood : ByteArray := prog_3_method_2_code
def yX1_isGood : MethodName := ⟨RX1, "isGood", "(I)Z"⟩
abbrev cX1_reads : ByteArray := prog_3_method_3_code
def yX1_reads : MethodName := ⟨RX1, "reads", "(II)I"⟩
def RX2 : String := "ToolCrib$Pallet"
def TX2 : u_T := fun k => match k with
  | 0 => ("ToolCrib$Pallet", "heights", "[I", true)
  | 1 => ("ToolCrib$Pallet", "sizes", "[I", true)
  | 2 => ("ToolCrib$Pallet", "cutters", "[I", true)
  | 3 => ("ToolCrib$Pallet", "causes", "[I", true)
  | 4 => ("ToolCrib$Pallet", "clamps", "[I", true)
  | 5 => ("ToolCrib$Pallet", "clamped", "I", false)
  | 6 => ("ToolCrib$Pallet", "state", "I", false)
  | 7 => ("ToolCrib$Pallet", "program", "I", false)
  | 8 => ("ToolCrib$Pallet", "gone", "I", false)
  | _ => ("ToolCrib$Pallet", "judged", "I", false)
def tyX2 : Nat → FieldType := fun k => match k with
  | 0 => .array .int
  | 1 => .array .int
  | 2 => .array .int
  | 3 => .array .int
  | 4 => .array .int
  | 5 => .int
  | 6 => .int
  | 7 => .int
  | 8 => .int
  | _ => .int
theorem nmX2 : ∀ a, a < 10 → ∀ b, b < 10 → a ≠ b → (TX2 a).2.1 ≠ (TX2 b).2.1 := by decide +kernel
theorem tyX2_ok : ∀ k, k < 10 → parseFieldDescriptor (TX2 k).2.2.1 = some (tyX2 k) := by decide +kernel
abbrev cX2_init : ByteArray := prog_4_method_1_code
def yX2_init : MethodName := ⟨RX2, "<init>", "(I)V"⟩
def RX3 : String := "ToolCrib$Paper"
def TX3 : u_T := fun k => match k with
  | 0 => ("ToolCrib$Paper", "pallet", "I", true)
  | 1 => ("ToolCrib$Paper", "drawing", "I", true)
  | 2 => ("ToolCrib$Paper", "written", "I", true)
  | 3 => ("ToolCrib$Paper", "doubt", "I", true)
  | 4 => ("ToolCrib$Paper", "aways", "[I", true)
  | 5 => ("ToolCrib$Paper", "tolerances", "[I", true)
  | _ => ("ToolCrib$Paper", "size", "I", false)
def tyX3 : Nat → FieldType := fun k => match k with
  | 0 => .int
  | 1 => .int
  | 2 => .int
  | 3 => .int
  | 4 => .array .int
  | 5 => .array .int
  | _ => .int
theorem nmX3 : ∀ a, a < 7 → ∀ b, b < 7 → a ≠ b → (TX3 a).2.1 ≠ (TX3 b).2.1 := by decide +kernel
theorem tyX3_ok : ∀ k, k < 7 → parseFieldDescriptor (TX3 k).2.2.1 = some (tyX3 k) := by decide +kernel
abbrev cX3_init : ByteArray := prog_5_method_1_code
def yX3_init : MethodName := ⟨RX3, "<init>", "(IIII)V"⟩
abbrev cX3_append : ByteArray := prog_5_method_2_code
def yX3_append : MethodName := ⟨RX3, "append", "(II)V"⟩
abbrev cX3_verdict : ByteArray := prog_5_method_3_code
def yX3_verdict : MethodName := ⟨RX3, "verdict", "()I"⟩
def RX4 : String := "ToolCrib$Program"
def TX4 : u_T := fun k => match k with
  | 0 => ("ToolCrib$Program", "words", "[I", true)
  | 1 => ("ToolCrib$Program", "values", "[I", true)
  | _ => ("ToolCrib$Program", "size", "I", false)
def tyX4 : Nat → FieldType := fun k => match k with
  | 0 => .array .int
  | 1 => .array .int
  | _ => .int
theorem nmX4 : ∀ a, a < 3 → ∀ b, b < 3 → a ≠ b → (TX4 a).2.1 ≠ (TX4 b).2.1 := by decide +kernel
theorem tyX4_ok : ∀ k, k < 3 → parseFieldDescriptor (TX4 k).2.2.1 = some (tyX4 k) := by decide +kernel
abbrev cX4_init : ByteArray := prog_6_method_1_code
def yX4_init : MethodName := ⟨RX4, "<init>", "()V"⟩
abbrev cX4_append : ByteArray := prog_6_method_2_code
def yX4_append : MethodName := ⟨RX4, "append", "(II)V"⟩
def RX5 : String := "ToolCrib$Tool"
def TX5 : u_T := fun k => match k with
  | 0 => ("ToolCrib$Tool", "number", "I", true)
  | 1 => ("ToolCrib$Tool", "kind", "I", true)
  | 2 => ("ToolCrib$Tool", "life", "I", true)
  | 3 => ("ToolCrib$Tool", "latest", "[I", true)
  | 4 => ("ToolCrib$Tool", "used", "I", false)
  | 5 => ("ToolCrib$Tool", "offset", "I", false)
  | 6 => ("ToolCrib$Tool", "told", "I", false)
  | _ => ("ToolCrib$Tool", "isIn", "Z", false)
def tyX5 : Nat → FieldType := fun k => match k with
  | 0 => .int
  | 1 => .int
  | 2 => .int
  | 3 => .array .int
  | 4 => .int
  | 5 => .int
  | 6 => .int
  | _ => .boolean
theorem nmX5 : ∀ a, a < 8 → ∀ b, b < 8 → a ≠ b → (TX5 a).2.1 ≠ (TX5 b).2.1 := by decide +kernel
theorem tyX5_ok : ∀ k, k < 8 → parseFieldDescriptor (TX5 k).2.2.1 = some (tyX5 k) := by decide +kernel
abbrev cX5_init : ByteArray := prog_7_method_1_code
def yX5_init : MethodName := ⟨RX5, "<init>", "(III)V"⟩
abbrev cX5_leftFor : ByteArray := prog_7_method_2_code
def yX5_leftFor : MethodName := ⟨RX5, "leftFor", "(I)I"⟩
abbrev cX5_hear : ByteArray := prog_7_method_3_code
def yX5_hear : MethodName := ⟨RX5, "hear", "(I)V"⟩
abbrev cX5_correctOffset : ByteArray := prog_7_method_4_code
def yX5_correctOffset : MethodName := ⟨RX5, "correctOffset", "()I"⟩
abbrev cX5_isOneWay : ByteArray := prog_7_method_5_code
def yX5_isOneWay : MethodName := ⟨RX5, "isOneWay", "()Z"⟩
def RX6 : String := "ToolCrib$Trial"
def TX6 : u_T := fun k => match k with
  | 0 => ("ToolCrib$Trial", "heights", "[I", true)
  | 1 => ("ToolCrib$Trial", "cutsByKind", "[I", true)
  | 2 => ("ToolCrib$Trial", "steps", "I", false)
  | 3 => ("ToolCrib$Trial", "cuts", "I", false)
  | _ => ("ToolCrib$Trial", "wrong", "I", false)
def tyX6 : Nat → FieldType := fun k => match k with
  | 0 => .array .int
  | 1 => .array .int
  | 2 => .int
  | 3 => .int
  | _ => .int
theorem nmX6 : ∀ a, a < 5 → ∀ b, b < 5 → a ≠ b → (TX6 a).2.1 ≠ (TX6 b).2.1 := by decide +kernel
theorem tyX6_ok : ∀ k, k < 5 → parseFieldDescriptor (TX6 k).2.2.1 = some (tyX6 k) := by decide +kernel
abbrev cX6_init : ByteArray := prog_8_method_1_code
def yX6_init : MethodName := ⟨RX6, "<init>", "()V"⟩
abbrev cX6_run : ByteArray := prog_8_method_2_code
def yX6_run : MethodName := ⟨RX6, "run", "(LToolCrib$Walk;LToolCrib$Pallet;II)V"⟩
def RX7 : String := "ToolCrib$Walk"
def TX7 : u_T := fun k => match k with
  | 0 => ("ToolCrib$Walk", "programs", "Ljava/util/ArrayList;", true)
  | 1 => ("ToolCrib$Walk", "open", "Ljava/util/ArrayList;", true)
  | 2 => ("ToolCrib$Walk", "next", "[I", true)
  | 3 => ("ToolCrib$Walk", "at", "[I", true)
  | 4 => ("ToolCrib$Walk", "axis", "I", false)
  | 5 => ("ToolCrib$Walk", "goal", "I", false)
  | 6 => ("ToolCrib$Walk", "blocksDone", "I", false)
  | 7 => ("ToolCrib$Walk", "isCutting", "Z", false)
  | 8 => ("ToolCrib$Walk", "isFromSpindle", "Z", false)
  | 9 => ("ToolCrib$Walk", "kind", "I", false)
  | _ => ("ToolCrib$Walk", "wrong", "I", false)
def tyX7 : Nat → FieldType := fun k => match k with
  | 0 => .object "java/util/ArrayList"
  | 1 => .object "java/util/ArrayList"
  | 2 => .array .int
  | 3 => .array .int
  | 4 => .int
  | 5 => .int
  | 6 => .int
  | 7 => .boolean
  | 8 => .boolean
  | 9 => .int
  | _ => .int
theorem nmX7 : ∀ a, a < 11 → ∀ b, b < 11 → a ≠ b → (TX7 a).2.1 ≠ (TX7 b).2.1 := by decide +kernel
theorem tyX7_ok : ∀ k, k < 11 → parseFieldDescriptor (TX7 k).2.2.1 = some (tyX7 k) := by decide +kernel
abbrev cX7_init : ByteArray := prog_9_method_1_code
def yX7_init : MethodName := ⟨RX7, "<init>", "()V"⟩
abbrev cX7_begin : ByteArray := prog_9_method_2_code
def yX7_begin : MethodName := ⟨RX7, "begin", "(I)V"⟩
abbrev cX7_goStep : ByteArray := prog_9_method_3_code
def yX7_goStep : MethodName := ⟨RX7, "goStep", "()Z"⟩
abbrev cX7_cellNow : ByteArray := prog_9_method_4_code
def yX7_cellNow : MethodName := ⟨RX7, "cellNow", "()I"⟩
abbrev cX7_isBelow : ByteArray := prog_9_method_5_code
def yX7_isBelow : MethodName := ⟨RX7, "isBelow", "([I)Z"⟩
abbrev cX7_canCut : ByteArray := prog_9_method_6_code
def yX7_canCut : MethodName := ⟨RX7, "canCut", "()Z"⟩
abbrev cX7_leaveEnded : ByteArray := prog_9_method_7_code
def yX7_leaveEnded : MethodName := ⟨RX7, "leaveEnded", "()V"⟩
abbrev cX7_obeyNext : ByteArray := prog_9_method_8_code
def yX7_obeyNext : MethodName := ⟨RX7, "obeyNext", "(I)V"⟩
abbrev cX7_changeTool : ByteArray := prog_9_method_9_code
def yX7_changeTool : MethodName := ⟨RX7, "changeTool", "(I)V"⟩
abbrev cX7_enter : ByteArray := prog_9_method_10_code
def yX7_enter : MethodName := ⟨RX7, "enter", "(I)V"⟩
abbrev cX7_aim : ByteArray := prog_9_method_11_code
def yX7_aim : MethodName := ⟨RX7, "aim", "(III)V"⟩
def RX8 : String := "ToolCrib"
def TX8 : u_T := fun k => match k with
  | 0 => ("ToolCrib", "tools", "Ljava/util/ArrayList;", true)
  | 1 => ("ToolCrib", "pallets", "Ljava/util/ArrayList;", true)
  | 2 => ("ToolCrib", "queue", "Ljava/util/ArrayList;", true)
  | 3 => ("ToolCrib", "gauges", "Ljava/util/ArrayList;", true)
  | 4 => ("ToolCrib", "drawings", "Ljava/util/ArrayList;", true)
  | 5 => ("ToolCrib", "papers", "Ljava/util/ArrayList;", true)
  | 6 => ("ToolCrib", "mapErrors", "[I", true)
  | 7 => ("ToolCrib", "errorParts", "[I", true)
  | 8 => ("ToolCrib", "livesLeft", "[I", true)
  | 9 => ("ToolCrib", "walk", "LToolCrib$Walk;", true)
  | 10 => ("ToolCrib", "trial", "LToolCrib$Trial;", true)
  | 11 => ("ToolCrib", "now", "I", false)
  | _ => ("ToolCrib", "heat", "I", false)
def tyX8 : Nat → FieldType := fun k => match k with
  | 0 => .object "java/util/ArrayList"
  | 1 => .object "java/util/ArrayList"
  | 2 => .object "java/util/ArrayList"
  | 3 => .object "java/util/ArrayList"
  | 4 => .object "java/util/ArrayList"
  | 5 => .object "java/util/ArrayList"
  | 6 => .array .int
  | 7 => .array .int
  | 8 => .array .int
  | 9 => .object "ToolCrib$Walk"
  | 10 => .object "ToolCrib$Trial"
  | 11 => .int
  | _ => .int
theorem nmX8 : ∀ a, a < 13 → ∀ b, b < 13 → a ≠ b → (TX8 a).2.1 ≠ (TX8 b).2.1 := by decide +kernel
theorem tyX8_ok : ∀ k, k < 13 → parseFieldDescriptor (TX8 k).2.2.1 = some (tyX8 k) := by decide +kernel
abbrev cX8_init : ByteArray := prog_1_method_1_code
def yX8_init : MethodName := ⟨RX8, "<init>", "()V"⟩
abbrev cX8_program : ByteArray := prog_1_method_2_code
def yX8_program : MethodName := ⟨RX8, "program", "()I"⟩
abbrev cX8_block : ByteArray := prog_1_method_3_code
def yX8_block : MethodName := ⟨RX8, "block", "(III)I"⟩
abbrev cX8_map : ByteArray := prog_1_method_4_code
def yX8_map : MethodName := ⟨RX8, "map", "(II)I"⟩
abbrev cX8_tool : ByteArray := prog_1_method_5_code
def yX8_tool : MethodName := ⟨RX8, "tool", "(II)I"⟩
abbrev cX8_load : ByteArray := prog_1_method_6_code
def yX8_load : MethodName := ⟨RX8, "load", "(IZ)I"⟩
abbrev cX8_pallet : ByteArray := prog_1_method_7_code
def yX8_pallet : MethodName := ⟨RX8, "pallet", "(I)I"⟩
abbrev cX8_clamp : ByteArray := prog_1_method_8_code
def yX8_clamp : MethodName := ⟨RX8, "clamp", "(IIII)I"⟩
abbrev cX8_prove : ByteArray := prog_1_method_9_code
def yX8_prove : MethodName := ⟨RX8, "prove", "(II)I"⟩
abbrev cX8_takes : ByteArray := prog_1_method_10_code
def yX8_takes : MethodName := ⟨RX8, "takes", "(II)I"⟩
abbrev cX8_plan : ByteArray := prog_1_method_11_code
def yX8_plan : MethodName := ⟨RX8, "plan", "(II)I"⟩
abbrev cX8_night : ByteArray := prog_1_method_12_code
def yX8_night : MethodName := ⟨RX8, "night", "()I"⟩
abbrev cX8_foresees : ByteArray := prog_1_method_13_code
def yX8_foresees : MethodName := ⟨RX8, "foresees", "()I"⟩
abbrev cX8_lacks : ByteArray := prog_1_method_14_code
def yX8_lacks : MethodName := ⟨RX8, "lacks", "(I)I"⟩
abbrev cX8_idle : ByteArray := prog_1_method_15_code
def yX8_idle : MethodName := ⟨RX8, "idle", "(I)I"⟩
abbrev cX8_calibrate : ByteArray := prog_1_method_16_code
def yX8_calibrate : MethodName := ⟨RX8, "calibrate", "(II)I"⟩
abbrev cX8_drawing : ByteArray := prog_1_method_17_code
def yX8_drawing : MethodName := ⟨RX8, "drawing", "()I"⟩
abbrev cX8_feature : ByteArray := prog_1_method_18_code
def yX8_feature : MethodName := ⟨RX8, "feature", "(IIIII)I"⟩
abbrev cX8_allow : ByteArray := prog_1_method_19_code
def yX8_allow : MethodName := ⟨RX8, "allow", "(IIII)I"⟩
abbrev cX8_judge : ByteArray := prog_1_method_20_code
def yX8_judge : MethodName := ⟨RX8, "judge", "(III)I"⟩
abbrev cX8_correct : ByteArray := prog_1_method_21_code
def yX8_correct : MethodName := ⟨RX8, "correct", "(I)I"⟩
abbrev cX8_minute : ByteArray := prog_1_method_22_code
def yX8_minute : MethodName := ⟨RX8, "minute", "()I"⟩
abbrev cX8_warmth : ByteArray := prog_1_method_23_code
def yX8_warmth : MethodName := ⟨RX8, "warmth", "()I"⟩
abbrev cX8_ofTool : ByteArray := prog_1_method_24_code
def yX8_ofTool : MethodName := ⟨RX8, "ofTool", "(II)I"⟩
abbrev cX8_ofCell : ByteArray := prog_1_method_25_code
def yX8_ofCell : MethodName := ⟨RX8, "ofCell", "(IIII)I"⟩
abbrev cX8_ofPallet : ByteArray := prog_1_method_26_code
def yX8_ofPallet : MethodName := ⟨RX8, "ofPallet", "(II)I"⟩
abbrev cX8_ofPaper : ByteArray := prog_1_method_27_code
def yX8_ofPaper : MethodName := ⟨RX8, "ofPaper", "(II)I"⟩
abbrev cX8_judgeAnew : ByteArray := prog_1_method_28_code
def yX8_judgeAnew : MethodName := ⟨RX8, "judgeAnew", "(I)I"⟩
abbrev cX8_programAt : ByteArray := prog_1_method_29_code
def yX8_programAt : MethodName := ⟨RX8, "programAt", "(I)LToolCrib$Program;"⟩
abbrev cX8_toolAt : ByteArray := prog_1_method_30_code
def yX8_toolAt : MethodName := ⟨RX8, "toolAt", "(I)LToolCrib$Tool;"⟩
abbrev cX8_palletAt : ByteArray := prog_1_method_31_code
def yX8_palletAt : MethodName := ⟨RX8, "palletAt", "(I)LToolCrib$Pallet;"⟩
abbrev cX8_cellAt : ByteArray := prog_1_method_32_code
def yX8_cellAt : MethodName := ⟨RX8, "cellAt", "(II)I"⟩
abbrev cX8_gaugeAt : ByteArray := prog_1_method_33_code
def yX8_gaugeAt : MethodName := ⟨RX8, "gaugeAt", "(I)LToolCrib$Gauge;"⟩
abbrev cX8_drawingAt : ByteArray := prog_1_method_34_code
def yX8_drawingAt : MethodName := ⟨RX8, "drawingAt", "(I)LToolCrib$Drawing;"⟩
abbrev cX8_paperAt : ByteArray := prog_1_method_35_code
def yX8_paperAt : MethodName := ⟨RX8, "paperAt", "(I)LToolCrib$Paper;"⟩
abbrev cX8_isWithin : ByteArray := prog_1_method_36_code
def yX8_isWithin : MethodName := ⟨RX8, "isWithin", "(III)Z"⟩
abbrev cX8_isBlock : ByteArray := prog_1_method_37_code
def yX8_isBlock : MethodName := ⟨RX8, "isBlock", "(III)Z"⟩
abbrev cX8_placeInQueue : ByteArray := prog_1_method_38_code
def yX8_placeInQueue : MethodName := ⟨RX8, "placeInQueue", "(LToolCrib$Pallet;)I"⟩
abbrev cX8_countLoaded : ByteArray := prog_1_method_39_code
def yX8_countLoaded : MethodName := ⟨RX8, "countLoaded", "()I"⟩
abbrev cX8_countLeft : ByteArray := prog_1_method_40_code
def yX8_countLeft : MethodName := ⟨RX8, "countLeft", "(I)I"⟩
abbrev cX8_lowestToolFor : ByteArray := prog_1_method_41_code
def yX8_lowestToolFor : MethodName := ⟨RX8, "lowestToolFor", "(I)LToolCrib$Tool;"⟩
abbrev cX8_tell : ByteArray := prog_1_method_42_code
def yX8_tell : MethodName := ⟨RX8, "tell", "(II)V"⟩
abbrev cX8_tryWhole : ByteArray := prog_1_method_43_code
def yX8_tryWhole : MethodName := ⟨RX8, "tryWhole", "(II)V"⟩
abbrev cX8_isEnoughFor : ByteArray := prog_1_method_44_code
def yX8_isEnoughFor : MethodName := ⟨RX8, "isEnoughFor", "(LToolCrib$Pallet;)Z"⟩
abbrev cX8_isCutToEnd : ByteArray := prog_1_method_45_code
def yX8_isCutToEnd : MethodName := ⟨RX8, "isCutToEnd", "(LToolCrib$Pallet;)Z"⟩
abbrev cX8_cutBy : ByteArray := prog_1_method_46_code
def yX8_cutBy : MethodName := ⟨RX8, "cutBy", "(LToolCrib$Tool;LToolCrib$Pallet;)V"⟩
abbrev cX8_greatestPart : ByteArray := prog_1_method_47_code
def yX8_greatestPart : MethodName := ⟨RX8, "greatestPart", "()I"⟩
def RX9 : String := "ToolCribModel"
def TX9 : u_T := fun k => match k with
  | 0 => ("ToolCribModel", "minute", "I", false)
  | 1 => ("ToolCribModel", "warmth", "I", false)
  | 2 => ("ToolCribModel", "blocks", "[I", true)
  | 3 => ("ToolCribModel", "sizes", "[I", true)
  | 4 => ("ToolCribModel", "programs", "I", false)
  | 5 => ("ToolCribModel", "maps", "[I", true)
  | 6 => ("ToolCribModel", "kinds", "[I", true)
  | 7 => ("ToolCribModel", "lives", "[I", true)
  | 8 => ("ToolCribModel", "used", "[I", true)
  | 9 => ("ToolCribModel", "spareUsed", "[I", true)
  | 10 => ("ToolCribModel", "offsets", "[I", true)
  | 11 => ("ToolCribModel", "loaded", "[Z", true)
  | 12 => ("ToolCribModel", "told", "[I", true)
  | 13 => ("ToolCribModel", "toldMany", "[I", true)
  | 14 => ("ToolCribModel", "tools", "I", false)
  | 15 => ("ToolCribModel", "stock", "[I", true)
  | 16 => ("ToolCribModel", "clamps", "[I", true)
  | 17 => ("ToolCribModel", "cutters", "[I", true)
  | 18 => ("ToolCribModel", "parts", "[I", true)
  | 19 => ("ToolCribModel", "clampMany", "[I", true)
  | 20 => ("ToolCribModel", "states", "[I", true)
  | 21 => ("ToolCribModel", "plans", "[I", true)
  | 22 => ("ToolCribModel", "gone", "[I", true)
  | 23 => ("ToolCribModel", "verdicts", "[I", true)
  | 24 => ("ToolCribModel", "pallets", "I", false)
  | 25 => ("ToolCribModel", "queue", "[I", true)
  | 26 => ("ToolCribModel", "queued", "I", false)
  | 27 => ("ToolCribModel", "calibrated", "[I", true)
  | 28 => ("ToolCribModel", "wasCalibrated", "[Z", true)
  | 29 => ("ToolCribModel", "doubts", "[I", true)
  | 30 => ("ToolCribModel", "features", "[I", true)
  | 31 => ("ToolCribModel", "featureMany", "[I", true)
  | 32 => ("ToolCribModel", "drawings", "I", false)
  | 33 => ("ToolCribModel", "papers", "[I", true)
  | 34 => ("ToolCribModel", "manyPapers", "I", false)
  | 35 => ("ToolCribModel", "trial", "[I", true)
  | 36 => ("ToolCribModel", "cuts", "[I", true)
  | 37 => ("ToolCribModel", "at", "[I", true)
  | 38 => ("ToolCribModel", "inPrograms", "[I", true)
  | 39 => ("ToolCribModel", "inBlocks", "[I", true)
  | 40 => ("ToolCribModel", "mode", "I", false)
  | 41 => ("ToolCribModel", "measure", "I", false)
  | 42 => ("ToolCribModel", "kind", "I", false)
  | 43 => ("ToolCribModel", "steps", "I", false)
  | _ => ("ToolCribModel", "last", "I", false)
def tyX9 : Nat → FieldType := fun k => match k with
  | 0 => .int
  | 1 => .int
  | 2 => .array .int
  | 3 => .array .int
  | 4 => .int
  | 5 => .array .int
  | 6 => .array .int
  | 7 => .array .int
  | 8 => .array .int
  | 9 => .array .int
  | 10 => .array .int
  | 11 => .array .boolean
  | 12 => .array .int
  | 13 => .array .int
  | 14 => .int
  | 15 => .array .int
  | 16 => .array .int
  | 17 => .array .int
  | 18 => .array .int
  | 19 => .array .int
  | 20 => .array .int
  | 21 => .array .int
  | 22 => .array .int
  | 23 => .array .int
  | 24 => .int
  | 25 => .array .int
  | 26 => .int
  | 27 => .array .int
  | 28 => .array .boolean
  | 29 => .array .int
  | 30 => .array .int
  | 31 => .array .int
  | 32 => .int
  | 33 => .array .int
  | 34 => .int
  | 35 => .array .int
  | 36 => .array .int
  | 37 => .array .int
  | 38 => .array .int
  | 39 => .array .int
  | 40 => .int
  | 41 => .int
  | 42 => .int
  | 43 => .int
  | _ => .int
theorem nmX9 : ∀ a, a < 45 → ∀ b, b < 45 → a ≠ b → (TX9 a).2.1 ≠ (TX9 b).2.1 := by decide +kernel
theorem tyX9_ok : ∀ k, k < 45 → parseFieldDescriptor (TX9 k).2.2.1 = some (tyX9 k) := by decide +kernel
abbrev cX9_init : ByteArray := prog_11_method_1_code
def yX9_init : MethodName := ⟨RX9, "<init>", "()V"⟩
abbrev cX9_thrown : ByteArray := prog_11_method_2_code
def yX9_thrown : MethodName := ⟨RX9, "thrown", "()I"⟩
abbrev cX9_in : ByteArray := prog_11_method_3_code
def yX9_in : MethodName := ⟨RX9, "in", "(III)Z"⟩
abbrev cX9_goes : ByteArray := prog_11_method_4_code
def yX9_goes : MethodName := ⟨RX9, "goes", "(ZZZ)Z"⟩
abbrev cX9_isProgram : ByteArray := prog_11_method_5_code
def yX9_isProgram : MethodName := ⟨RX9, "isProgram", "(I)Z"⟩
abbrev cX9_isTool : ByteArray := prog_11_method_6_code
def yX9_isTool : MethodName := ⟨RX9, "isTool", "(I)Z"⟩
abbrev cX9_isPallet : ByteArray := prog_11_method_7_code
def yX9_isPallet : MethodName := ⟨RX9, "isPallet", "(I)Z"⟩
abbrev cX9_isCell : ByteArray := prog_11_method_8_code
def yX9_isCell : MethodName := ⟨RX9, "isCell", "(II)Z"⟩
abbrev cX9_isDrawing : ByteArray := prog_11_method_9_code
def yX9_isDrawing : MethodName := ⟨RX9, "isDrawing", "(I)Z"⟩
abbrev cX9_size : ByteArray := prog_11_method_10_code
def yX9_size : MethodName := ⟨RX9, "size", "(I)I"⟩
abbrev cX9_program : ByteArray := prog_11_method_11_code
def yX9_program : MethodName := ⟨RX9, "program", "()I"⟩
abbrev cX9_isBlock : ByteArray := prog_11_method_12_code
def yX9_isBlock : MethodName := ⟨RX9, "isBlock", "(III)Z"⟩
abbrev cX9_block : ByteArray := prog_11_method_13_code
def yX9_block : MethodName := ⟨RX9, "block", "(III)I"⟩
abbrev cX9_map : ByteArray := prog_11_method_14_code
def yX9_map : MethodName := ⟨RX9, "map", "(II)I"⟩
abbrev cX9_tool : ByteArray := prog_11_method_15_code
def yX9_tool : MethodName := ⟨RX9, "tool", "(II)I"⟩
abbrev cX9_countLoaded : ByteArray := prog_11_method_16_code
def yX9_countLoaded : MethodName := ⟨RX9, "countLoaded", "()I"⟩
abbrev cX9_load : ByteArray := prog_11_method_17_code
def yX9_load : MethodName := ⟨RX9, "load", "(IZ)I"⟩
abbrev cX9_pallet : ByteArray := prog_11_method_18_code
def yX9_pallet : MethodName := ⟨RX9, "pallet", "(I)I"⟩
abbrev cX9_clamp : ByteArray := prog_11_method_19_code
def yX9_clamp : MethodName := ⟨RX9, "clamp", "(IIII)I"⟩
abbrev cX9_toolFor : ByteArray := prog_11_method_20_code
def yX9_toolFor : MethodName := ⟨RX9, "toolFor", "(I[I)I"⟩
abbrev cX9_cutsIn : ByteArray := prog_11_method_21_code
def yX9_cutsIn : MethodName := ⟨RX9, "cutsIn", "(III)V"⟩
abbrev cX9_step : ByteArray := prog_11_method_22_code
def yX9_step : MethodName := ⟨RX9, "step", "(III)I"⟩
abbrev cX9_moves : ByteArray := prog_11_method_23_code
def yX9_moves : MethodName := ⟨RX9, "moves", "(IIIII)I"⟩
abbrev cX9_runs : ByteArray := prog_11_method_24_code
def yX9_runs : MethodName := ⟨RX9, "runs", "(IIII)I"⟩
abbrev cX9_sets : ByteArray := prog_11_method_25_code
def yX9_sets : MethodName := ⟨RX9, "sets", "(II)I"⟩
abbrev cX9_prove : ByteArray := prog_11_method_26_code
def yX9_prove : MethodName := ⟨RX9, "prove", "(II)I"⟩
abbrev cX9_takes : ByteArray := prog_11_method_27_code
def yX9_takes : MethodName := ⟨RX9, "takes", "(II)I"⟩
abbrev cX9_plan : ByteArray := prog_11_method_28_code
def yX9_plan : MethodName := ⟨RX9, "plan", "(II)I"⟩
abbrev cX9_night : ByteArray := prog_11_method_29_code
def yX9_night : MethodName := ⟨RX9, "night", "()I"⟩
abbrev cX9_foresees : ByteArray := prog_11_method_30_code
def yX9_foresees : MethodName := ⟨RX9, "foresees", "()I"⟩
abbrev cX9_lacks : ByteArray := prog_11_method_31_code
def yX9_lacks : MethodName := ⟨RX9, "lacks", "(I)I"⟩
abbrev cX9_idle : ByteArray := prog_11_method_32_code
def yX9_idle : MethodName := ⟨RX9, "idle", "(I)I"⟩
abbrev cX9_isGauge : ByteArray := prog_11_method_33_code
def yX9_isGauge : MethodName := ⟨RX9, "isGauge", "(I)Z"⟩
abbrev cX9_calibrate : ByteArray := prog_11_method_34_code
def yX9_calibrate : MethodName := ⟨RX9, "calibrate", "(II)I"⟩
abbrev cX9_drawing : ByteArray := prog_11_method_35_code
def yX9_drawing : MethodName := ⟨RX9, "drawing", "()I"⟩
abbrev cX9_feature : ByteArray := prog_11_method_36_code
def yX9_feature : MethodName := ⟨RX9, "feature", "(IIIII)I"⟩
abbrev cX9_allow : ByteArray := prog_11_method_37_code
def yX9_allow : MethodName := ⟨RX9, "allow", "(IIII)I"⟩
abbrev cX9_sizeOf : ByteArray := prog_11_method_38_code
def yX9_sizeOf : MethodName := ⟨RX9, "sizeOf", "(I)I"⟩
abbrev cX9_tells : ByteArray := prog_11_method_39_code
def yX9_tells : MethodName := ⟨RX9, "tells", "(II)V"⟩
abbrev cX9_verdictOf : ByteArray := prog_11_method_40_code
def yX9_verdictOf : MethodName := ⟨RX9, "verdictOf", "(I)I"⟩
abbrev cX9_judge : ByteArray := prog_11_method_41_code
def yX9_judge : MethodName := ⟨RX9, "judge", "(III)I"⟩
abbrev cX9_correct : ByteArray := prog_11_method_42_code
def yX9_correct : MethodName := ⟨RX9, "correct", "(I)I"⟩
abbrev cX9_minute : ByteArray := prog_11_method_43_code
def yX9_minute : MethodName := ⟨RX9, "minute", "()I"⟩
abbrev cX9_warmth : ByteArray := prog_11_method_44_code
def yX9_warmth : MethodName := ⟨RX9, "warmth", "()I"⟩
abbrev cX9_ofTool : ByteArray := prog_11_method_45_code
def yX9_ofTool : MethodName := ⟨RX9, "ofTool", "(II)I"⟩
abbrev cX9_causeOf : ByteArray := prog_11_method_46_code
def yX9_causeOf : MethodName := ⟨RX9, "causeOf", "(I)I"⟩
abbrev cX9_ofCell : ByteArray := prog_11_method_47_code
def yX9_ofCell : MethodName := ⟨RX9, "ofCell", "(IIII)I"⟩
abbrev cX9_ofPallet : ByteArray := prog_11_method_48_code
def yX9_ofPallet : MethodName := ⟨RX9, "ofPallet", "(II)I"⟩
abbrev cX9_ofPaper : ByteArray := prog_11_method_49_code
def yX9_ofPaper : MethodName := ⟨RX9, "ofPaper", "(II)I"⟩
abbrev cX9_judgeAnew : ByteArray := prog_11_method_50_code
def yX9_judgeAnew : MethodName := ⟨RX9, "judgeAnew", "(I)I"⟩
def RJx145de : String := "java/io/Serializable"
def TJx145de : u_T := fun k => match k with
  | _ => ("", "", "", false)
def tyJx145de : Nat → FieldType := fun k => match k with
  | _ => .int
theorem nmJx145de : ∀ a, a < 0 → ∀ b, b < 0 → a ≠ b → (TJx145de a).2.1 ≠ (TJx145de b).2.1 := by decide +kernel
theorem tyJx145de_ok : ∀ k, k < 0 → parseFieldDescriptor (TJx145de k).2.2.1 = some (tyJx145de k) := by decide +kernel
def RJx8e188 : String := "java/lang/Cloneable"
def TJx8e188 : u_T := fun k => match k with
  | _ => ("", "", "", false)
def tyJx8e188 : Nat → FieldType := fun k => match k with
  | _ => .int
theorem nmJx8e188 : ∀ a, a < 0 → ∀ b, b < 0 → a ≠ b → (TJx8e188 a).2.1 ≠ (TJx8e188 b).2.1 := by decide +kernel
theorem tyJx8e188_ok : ∀ k, k < 0 → parseFieldDescriptor (TJx8e188 k).2.2.1 = some (tyJx8e188 k) := by decide +kernel
def RJxab1ab : String := "java/lang/Iterable"
def TJxab1ab : u_T := fun k => match k with
  | _ => ("", "", "", false)
def tyJxab1ab : Nat → FieldType := fun k => match k with
  | _ => .int
theorem nmJxab1ab : ∀ a, a < 0 → ∀ b, b < 0 → a ≠ b → (TJxab1ab a).2.1 ≠ (TJxab1ab b).2.1 := by decide +kernel
theorem tyJxab1ab_ok : ∀ k, k < 0 → parseFieldDescriptor (TJxab1ab k).2.2.1 = some (tyJxab1ab k) := by decide +kernel
def RJ9 : String := "java/lang/Math"
def TJ9 : u_T := fun k => match k with
  | _ => ("", "", "", false)
def tyJ9 : Nat → FieldType := fun k => match k with
  | _ => .int
theorem nmJ9 : ∀ a, a < 0 → ∀ b, b < 0 → a ≠ b → (TJ9 a).2.1 ≠ (TJ9 b).2.1 := by decide +kernel
theorem tyJ9_ok : ∀ k, k < 0 → parseFieldDescriptor (TJ9 k).2.2.1 = some (tyJ9 k) := by decide +kernel
abbrev cJ9_abs_0f7a4 : ByteArray := prog_19_method_59_code
def yJ9_abs_0f7a4 : MethodName := ⟨RJ9, "abs", "(I)I"⟩
abbrev cJ9_max_7cf53 : ByteArray := prog_19_method_65_code
def yJ9_max_7cf53 : MethodName := ⟨RJ9, "max", "(II)I"⟩
abbrev cJ9_min_7cf53 : ByteArray := prog_19_method_69_code
def yJ9_min_7cf53 : MethodName := ⟨RJ9, "min", "(II)I"⟩
def RJ0 : String := "java/lang/String"
def TJ0 : u_T := fun k => match k with
  | _ => ("", "", "", false)
def tyJ0 : Nat → FieldType := fun k => match k with
  | _ => .int
theorem nmJ0 : ∀ a, a < 0 → ∀ b, b < 0 → a ≠ b → (TJ0 a).2.1 ≠ (TJ0 b).2.1 := by decide +kernel
theorem tyJ0_ok : ∀ k, k < 0 → parseFieldDescriptor (TJ0 k).2.2.1 = some (tyJ0 k) := by decide +kernel
def RJ10 : String := "java/lang/System"
def TJ10 : u_T := fun k => match k with
  | _ => ("", "", "", false)
def tyJ10 : Nat → FieldType := fun k => match k with
  | _ => .int
theorem nmJ10 : ∀ a, a < 0 → ∀ b, b < 0 → a ≠ b → (TJ10 a).2.1 ≠ (TJ10 b).2.1 := by decide +kernel
theorem tyJ10_ok : ∀ k, k < 0 → parseFieldDescriptor (TJ10 k).2.2.1 = some (tyJ10 k) := by decide +kernel
def RJxa1e45 : String := "java/util/AbstractCollection"
def TJxa1e45 : u_T := fun k => match k with
  | _ => ("", "", "", false)
def tyJxa1e45 : Nat → FieldType := fun k => match k with
  | _ => .int
theorem nmJxa1e45 : ∀ a, a < 0 → ∀ b, b < 0 → a ≠ b → (TJxa1e45 a).2.1 ≠ (TJxa1e45 b).2.1 := by decide +kernel
theorem tyJxa1e45_ok : ∀ k, k < 0 → parseFieldDescriptor (TJxa1e45 k).2.2.1 = some (tyJxa1e45 k) := by decide +kernel
abbrev cJxa1e45_init_da8c8 : ByteArray := prog_24_method_1_code
def yJxa1e45_init_da8c8 : MethodName := ⟨RJxa1e45, "<init>", "()V"⟩
def RJxc12de : String := "java/util/AbstractList"
def TJxc12de : u_T := fun k => match k with
  | _ => ("", "", "", false)
def tyJxc12de : Nat → FieldType := fun k => match k with
  | _ => .int
theorem nmJxc12de : ∀ a, a < 0 → ∀ b, b < 0 → a ≠ b → (TJxc12de a).2.1 ≠ (TJxc12de b).2.1 := by decide +kernel
theorem tyJxc12de_ok : ∀ k, k < 0 → parseFieldDescriptor (TJxc12de k).2.2.1 = some (tyJxc12de k) := by decide +kernel
abbrev cJxc12de_init_da8c8 : ByteArray := prog_25_method_1_code
def yJxc12de_init_da8c8 : MethodName := ⟨RJxc12de, "<init>", "()V"⟩
def RJx4a65c : String := "java/util/ArrayList"
def TJx4a65c : u_T := fun k => match k with
  | 0 => ("java/util/AbstractList", "modCount", "I", false)
  | 1 => ("java/util/ArrayList", "elementData", "[Ljava/lang/Object;", false)
  | _ => ("java/util/ArrayList", "size", "I", false)
def tyJx4a65c : Nat → FieldType := fun k => match k with
  | 0 => .int
  | 1 => .array (.object "java/lang/Object")
  | _ => .int
theorem nmJx4a65c : ∀ a, a < 3 → ∀ b, b < 3 → a ≠ b → (TJx4a65c a).2.1 ≠ (TJx4a65c b).2.1 := by decide +kernel
theorem tyJx4a65c_ok : ∀ k, k < 3 → parseFieldDescriptor (TJx4a65c k).2.2.1 = some (tyJx4a65c k) := by decide +kernel
abbrev cJx4a65c_init_da8c8 : ByteArray := prog_26_method_2_code
def yJx4a65c_init_da8c8 : MethodName := ⟨RJx4a65c, "<init>", "()V"⟩
abbrev cJx4a65c_grow_92f84 : ByteArray := prog_26_method_6_code
def yJx4a65c_grow_92f84 : MethodName := ⟨RJx4a65c, "grow", "(I)[Ljava/lang/Object;"⟩
abbrev cJx4a65c_grow_d5877 : ByteArray := prog_26_method_7_code
def yJx4a65c_grow_d5877 : MethodName := ⟨RJx4a65c, "grow", "()[Ljava/lang/Object;"⟩
abbrev cJx4a65c_size_8abf5 : ByteArray := prog_26_method_8_code
def yJx4a65c_size_8abf5 : MethodName := ⟨RJx4a65c, "size", "()I"⟩
abbrev cJx4a65c_isEmpty_aae02 : ByteArray := prog_26_method_9_code
def yJx4a65c_isEmpty_aae02 : MethodName := ⟨RJx4a65c, "isEmpty", "()Z"⟩
abbrev cJx4a65c_elementData_915e3 : ByteArray := prog_26_method_18_code
def yJx4a65c_elementData_915e3 : MethodName := ⟨RJx4a65c, "elementData", "(I)Ljava/lang/Object;"⟩
abbrev cJx4a65c_get_915e3 : ByteArray := prog_26_method_20_code
def yJx4a65c_get_915e3 : MethodName := ⟨RJx4a65c, "get", "(I)Ljava/lang/Object;"⟩
abbrev cJx4a65c_add_72be8 : ByteArray := prog_26_method_24_code
def yJx4a65c_add_72be8 : MethodName := ⟨RJx4a65c, "add", "(Ljava/lang/Object;[Ljava/lang/Object;I)V"⟩
abbrev cJx4a65c_add_9ea2d : ByteArray := prog_26_method_25_code
def yJx4a65c_add_9ea2d : MethodName := ⟨RJx4a65c, "add", "(Ljava/lang/Object;)Z"⟩
abbrev cJx4a65c_remove_915e3 : ByteArray := prog_26_method_29_code
def yJx4a65c_remove_915e3 : MethodName := ⟨RJx4a65c, "remove", "(I)Ljava/lang/Object;"⟩
abbrev cJx4a65c_fastRemove_b59b0 : ByteArray := prog_26_method_39_code
def yJx4a65c_fastRemove_b59b0 : MethodName := ⟨RJx4a65c, "fastRemove", "([Ljava/lang/Object;I)V"⟩
abbrev cJx4a65c_clear_da8c8 : ByteArray := prog_26_method_40_code
def yJx4a65c_clear_da8c8 : MethodName := ⟨RJx4a65c, "clear", "()V"⟩
def RJ7 : String := "java/util/Arrays"
def TJ7 : u_T := fun k => match k with
  | _ => ("", "", "", false)
def tyJ7 : Nat → FieldType := fun k => match k with
  | _ => .int
theorem nmJ7 : ∀ a, a < 0 → ∀ b, b < 0 → a ≠ b → (TJ7 a).2.1 ≠ (TJ7 b).2.1 := by decide +kernel
theorem tyJ7_ok : ∀ k, k < 0 → parseFieldDescriptor (TJ7 k).2.2.1 = some (tyJ7 k) := by decide +kernel
abbrev cJ7_fill_53178 : ByteArray := prog_27_method_103_code
def yJ7_fill_53178 : MethodName := ⟨RJ7, "fill", "([II)V"⟩
abbrev cJ7_copyOf_1904c : ByteArray := prog_27_method_119_code
def yJ7_copyOf_1904c : MethodName := ⟨RJ7, "copyOf", "([Ljava/lang/Object;I)[Ljava/lang/Object;"⟩
abbrev cJ7_copyOf_6403c : ByteArray := prog_27_method_120_code
def yJ7_copyOf_6403c : MethodName := ⟨RJ7, "copyOf", "([Ljava/lang/Object;ILjava/lang/Class;)[Ljava/lang/Object;"⟩
def RJx5ef63 : String := "java/util/Collection"
def TJx5ef63 : u_T := fun k => match k with
  | _ => ("", "", "", false)
def tyJx5ef63 : Nat → FieldType := fun k => match k with
  | _ => .int
theorem nmJx5ef63 : ∀ a, a < 0 → ∀ b, b < 0 → a ≠ b → (TJx5ef63 a).2.1 ≠ (TJx5ef63 b).2.1 := by decide +kernel
theorem tyJx5ef63_ok : ∀ k, k < 0 → parseFieldDescriptor (TJx5ef63 k).2.2.1 = some (tyJx5ef63 k) := by decide +kernel
def RJxbd725 : String := "java/util/List"
def TJxbd725 : u_T := fun k => match k with
  | _ => ("", "", "", false)
def tyJxbd725 : Nat → FieldType := fun k => match k with
  | _ => .int
theorem nmJxbd725 : ∀ a, a < 0 → ∀ b, b < 0 → a ≠ b → (TJxbd725 a).2.1 ≠ (TJxbd725 b).2.1 := by decide +kernel
theorem tyJxbd725_ok : ∀ k, k < 0 → parseFieldDescriptor (TJxbd725 k).2.2.1 = some (tyJxbd725 k) := by decide +kernel
def RJ15 : String := "java/util/Objects"
def TJ15 : u_T := fun k => match k with
  | _ => ("", "", "", false)
def tyJ15 : Nat → FieldType := fun k => match k with
  | _ => .int
theorem nmJ15 : ∀ a, a < 0 → ∀ b, b < 0 → a ≠ b → (TJ15 a).2.1 ≠ (TJ15 b).2.1 := by decide +kernel
theorem tyJ15_ok : ∀ k, k < 0 → parseFieldDescriptor (TJ15 k).2.2.1 = some (tyJ15 k) := by decide +kernel
abbrev cJ15_checkIndex_7cf53 : ByteArray := prog_30_method_17_code
def yJ15_checkIndex_7cf53 : MethodName := ⟨RJ15, "checkIndex", "(II)I"⟩
def RJxf0a74 : String := "java/util/RandomAccess"
def TJxf0a74 : u_T := fun k => match k with
  | _ => ("", "", "", false)
def tyJxf0a74 : Nat → FieldType := fun k => match k with
  | _ => .int
theorem nmJxf0a74 : ∀ a, a < 0 → ∀ b, b < 0 → a ≠ b → (TJxf0a74 a).2.1 ≠ (TJxf0a74 b).2.1 := by decide +kernel
theorem tyJxf0a74_ok : ∀ k, k < 0 → parseFieldDescriptor (TJxf0a74 k).2.2.1 = some (tyJxf0a74 k) := by decide +kernel
def RJxa66e6 : String := "java/util/SequencedCollection"
def TJxa66e6 : u_T := fun k => match k with
  | _ => ("", "", "", false)
def tyJxa66e6 : Nat → FieldType := fun k => match k with
  | _ => .int
theorem nmJxa66e6 : ∀ a, a < 0 → ∀ b, b < 0 → a ≠ b → (TJxa66e6 a).2.1 ≠ (TJxa66e6 b).2.1 := by decide +kernel
theorem tyJxa66e6_ok : ∀ k, k < 0 → parseFieldDescriptor (TJxa66e6 k).2.2.1 = some (tyJxa66e6 k) := by decide +kernel
def RJ8 : String := "jdk/internal/util/ArraysSupport"
def TJ8 : u_T := fun k => match k with
  | _ => ("", "", "", false)
def tyJ8 : Nat → FieldType := fun k => match k with
  | _ => .int
theorem nmJ8 : ∀ a, a < 0 → ∀ b, b < 0 → a ≠ b → (TJ8 a).2.1 ≠ (TJ8 b).2.1 := by decide +kernel
theorem tyJ8_ok : ∀ k, k < 0 → parseFieldDescriptor (TJ8 k).2.2.1 = some (tyJ8 k) := by decide +kernel
abbrev cJ8_newLength_cabcc : ByteArray := prog_33_method_27_code
def yJ8_newLength_cabcc : MethodName := ⟨RJ8, "newLength", "(III)I"⟩
abbrev cJ8_hugeLength_7cf53 : ByteArray := prog_33_method_28_code
def yJ8_hugeLength_7cf53 : MethodName := ⟨RJ8, "hugeLength", "(II)I"⟩
def RJ3 : String := "jdk/internal/util/Preconditions"
def TJ3 : u_T := fun k => match k with
  | _ => ("", "", "", false)
def tyJ3 : Nat → FieldType := fun k => match k with
  | _ => .int
theorem nmJ3 : ∀ a, a < 0 → ∀ b, b < 0 → a ≠ b → (TJ3 a).2.1 ≠ (TJ3 b).2.1 := by decide +kernel
theorem tyJ3_ok : ∀ k, k < 0 → parseFieldDescriptor (TJ3 k).2.2.1 = some (tyJ3 k) := by decide +kernel
abbrev cJ3_checkIndex_8e157 : ByteArray := prog_34_method_11_code
def yJ3_checkIndex_8e157 : MethodName := ⟨RJ3, "checkIndex", "(IILjava/util/function/BiFunction;)I"⟩
def RL : String := "ToolCribLaw"
abbrev cL_program : ByteArray := method_3_code
def yL_program : MethodName := ⟨RL, "program", "(LToolCrib;[J)I"⟩
abbrev cL_block : ByteArray := method_4_code
def yL_block : MethodName := ⟨RL, "block", "(LToolCrib;III[J)I"⟩
abbrev cL_map : ByteArray := method_5_code
def yL_map : MethodName := ⟨RL, "map", "(LToolCrib;II[J)I"⟩
abbrev cL_tool : ByteArray := method_6_code
def yL_tool : MethodName := ⟨RL, "tool", "(LToolCrib;II[J)I"⟩
abbrev cL_load : ByteArray := method_7_code
def yL_load : MethodName := ⟨RL, "load", "(LToolCrib;IZ[J)I"⟩
abbrev cL_pallet : ByteArray := method_8_code
def yL_pallet : MethodName := ⟨RL, "pallet", "(LToolCrib;I[J)I"⟩
abbrev cL_clamp : ByteArray := method_9_code
def yL_clamp : MethodName := ⟨RL, "clamp", "(LToolCrib;IIII[J)I"⟩
abbrev cL_prove : ByteArray := method_10_code
def yL_prove : MethodName := ⟨RL, "prove", "(LToolCrib;II[J)I"⟩
abbrev cL_takes : ByteArray := method_11_code
def yL_takes : MethodName := ⟨RL, "takes", "(LToolCrib;II[J)I"⟩
abbrev cL_plan : ByteArray := method_12_code
def yL_plan : MethodName := ⟨RL, "plan", "(LToolCrib;II[J)I"⟩
abbrev cL_lacks : ByteArray := method_13_code
def yL_lacks : MethodName := ⟨RL, "lacks", "(LToolCrib;I[J)I"⟩
abbrev cL_idle : ByteArray := method_14_code
def yL_idle : MethodName := ⟨RL, "idle", "(LToolCrib;I[J)I"⟩
abbrev cL_calibrate : ByteArray := method_15_code
def yL_calibrate : MethodName := ⟨RL, "calibrate", "(LToolCrib;II[J)I"⟩
abbrev cL_drawing : ByteArray := method_16_code
def yL_drawing : MethodName := ⟨RL, "drawing", "(LToolCrib;[J)I"⟩
abbrev cL_feature : ByteArray := method_17_code
def yL_feature : MethodName := ⟨RL, "feature", "(LToolCrib;IIIII[J)I"⟩
abbrev cL_allow : ByteArray := method_18_code
def yL_allow : MethodName := ⟨RL, "allow", "(LToolCrib;IIII[J)I"⟩
abbrev cL_judge : ByteArray := method_19_code
def yL_judge : MethodName := ⟨RL, "judge", "(LToolCrib;III[J)I"⟩
abbrev cL_correct : ByteArray := method_20_code
def yL_correct : MethodName := ⟨RL, "correct", "(LToolCrib;I[J)I"⟩
abbrev cL_ofTool : ByteArray := method_21_code
def yL_ofTool : MethodName := ⟨RL, "ofTool", "(LToolCrib;II[J)I"⟩
abbrev cL_ofCell : ByteArray := method_22_code
def yL_ofCell : MethodName := ⟨RL, "ofCell", "(LToolCrib;IIII[J)I"⟩
abbrev cL_ofPallet : ByteArray := method_23_code
def yL_ofPallet : MethodName := ⟨RL, "ofPallet", "(LToolCrib;II[J)I"⟩
abbrev cL_ofPaper : ByteArray := method_24_code
def yL_ofPaper : MethodName := ⟨RL, "ofPaper", "(LToolCrib;II[J)I"⟩
abbrev cL_judgeAnew : ByteArray := method_25_code
def yL_judgeAnew : MethodName := ⟨RL, "judgeAnew", "(LToolCrib;I[J)I"⟩
abbrev cL_law : ByteArray := code
def yL_law : MethodName := ⟨RL, "law", "([I)Z"⟩
abbrev vwCl : List vw_C := [(RJx4a65c, TJx4a65c, 3), (RX0, TX0, 6), (RX1, TX1, 2), (RX2, TX2, 10), (RX3, TX3, 7), (RX4, TX4, 3), (RX5, TX5, 8), (RX6, TX6, 5), (RX7, TX7, 11), (RX8, TX8, 13), (RX9, TX9, 45)]
end
section
theorem dX9_init_0 : decode cX9_init 0 = .ok (.aload_n 0, 1) := by decide +kernel
theorem dX9_init_1 : decode cX9_init 1 = .ok (.invokespecial 1, 3) := by decide +kernel
theorem dX9_init_4 : decode cX9_init 4 = .ok (.aload_n 0, 1) := by decide +kernel
theorem dX9_init_5 : decode cX9_init 5 = .ok (.sipush 360, 3) := by decide +kernel
theorem dX9_init_8 : decode cX9_init 8 = .ok (.newarray .int, 2) := by decide +kernel
theorem dX9_init_10 : decode cX9_init 10 = .ok (.putfield 7, 3) := by decide +kernel
theorem dX9_init_13 : decode cX9_init 13 = .ok (.aload_n 0, 1) := by decide +kernel
theorem dX9_init_14 : decode cX9_init 14 = .ok (.bipush 6, 2) := by decide +kernel
theorem dX9_init_16 : decode cX9_init 16 = .ok (.newarray .int, 2) := by decide +kernel
theorem dX9_init_18 : decode cX9_init 18 = .ok (.putfield 13, 3) := by decide +kernel
theorem dX9_init_21 : decode cX9_init 21 = .ok (.aload_n 0, 1) := by decide +kernel
theorem dX9_init_22 : decode cX9_init 22 = .ok (.bipush 12, 2) := by decide +kernel
theorem dX9_init_24 : decode cX9_init 24 = .ok (.newarray .int, 2) := by decide +kernel
theorem dX9_init_26 : decode cX9_init 26 = .ok (.putfield 16, 3) := by decide +kernel
theorem dX9_init_29 : decode cX9_init 29 = .ok (.aload_n 0, 1) := by decide +kernel
theorem dX9_init_30 : decode cX9_init 30 = .ok (.bipush 16, 2) := by decide +kernel
theorem dX9_init_32 : decode cX9_init 32 = .ok (.newarray .int, 2) := by decide +kernel
theorem dX9_init_34 : decode cX9_init 34 = .ok (.putfield 19, 3) := by decide +kernel
theorem dX9_init_37 : decode cX9_init 37 = .ok (.aload_n 0, 1) := by decide +kernel
theorem dX9_init_38 : decode cX9_init 38 = .ok (.bipush 16, 2) := by decide +kernel
theorem dX9_init_40 : decode cX9_init 40 = .ok (.newarray .int, 2) := by decide +kernel
theorem dX9_init_42 : decode cX9_init 42 = .ok (.putfield 22, 3) := by decide +kernel
theorem dX9_init_45 : decode cX9_init 45 = .ok (.aload_n 0, 1) := by decide +kernel
theorem dX9_init_46 : decode cX9_init 46 = .ok (.bipush 16, 2) := by decide +kernel
theorem dX9_init_48 : decode cX9_init 48 = .ok (.newarray .int, 2) := by decide +kernel
theorem dX9_init_50 : decode cX9_init 50 = .ok (.putfield 25, 3) := by decide +kernel
theorem dX9_init_53 : decode cX9_init 53 = .ok (.aload_n 0, 1) := by decide +kernel
theorem dX9_init_54 : decode cX9_init 54 = .ok (.bipush 16, 2) := by decide +kernel
theorem dX9_init_56 : decode cX9_init 56 = .ok (.newarray .int, 2) := by decide +kernel
theorem dX9_init_58 : decode cX9_init 58 = .ok (.putfield 28, 3) := by decide +kernel
theorem dX9_init_61 : decode cX9_init 61 = .ok (.aload_n 0, 1) := by decide +kernel
theorem dX9_init_62 : decode cX9_init 62 = .ok (.bipush 16, 2) := by decide +kernel
theorem dX9_init_64 : decode cX9_init 64 = .ok (.newarray .int, 2) := by decide +kernel
theorem dX9_init_66 : decode cX9_init 66 = .ok (.putfield 31, 3) := by decide +kernel
theorem dX9_init_69 : decode cX9_init 69 = .ok (.aload_n 0, 1) := by decide +kernel
theorem dX9_init_70 : decode cX9_init 70 = .ok (.bipush 16, 2) := by decide +kernel
theorem dX9_init_72 : decode cX9_init 72 = .ok (.newarray .boolean, 2) := by decide +kernel
theorem dX9_init_74 : decode cX9_init 74 = .ok (.putfield 34, 3) := by decide +kernel
theorem dX9_init_77 : decode cX9_init 77 = .ok (.aload_n 0, 1) := by decide +kernel
theorem dX9_init_78 : decode cX9_init 78 = .ok (.bipush 48, 2) := by decide +kernel
theorem dX9_init_80 : decode cX9_init 80 = .ok (.newarray .int, 2) := by decide +kernel
theorem dX9_init_82 : decode cX9_init 82 = .ok (.putfield 38, 3) := by decide +kernel
theorem dX9_init_85 : decode cX9_init 85 = .ok (.aload_n 0, 1) := by decide +kernel
theorem dX9_init_86 : decode cX9_init 86 = .ok (.bipush 16, 2) := by decide +kernel
theorem dX9_init_88 : decode cX9_init 88 = .ok (.newarray .int, 2) := by decide +kernel
theorem dX9_init_90 : decode cX9_init 90 = .ok (.putfield 41, 3) := by decide +kernel
theorem dX9_init_93 : decode cX9_init 93 = .ok (.aload_n 0, 1) := by decide +kernel
theorem dX9_init_94 : decode cX9_init 94 = .ok (.sipush 864, 3) := by decide +kernel
theorem dX9_init_97 : decode cX9_init 97 = .ok (.newarray .int, 2) := by decide +kernel
theorem dX9_init_99 : decode cX9_init 99 = .ok (.putfield 44, 3) := by decide +kernel
theorem dX9_init_102 : decode cX9_init 102 = .ok (.aload_n 0, 1) := by decide +kernel
theorem dX9_init_103 : decode cX9_init 103 = .ok (.sipush 864, 3) := by decide +kernel
theorem dX9_init_106 : decode cX9_init 106 = .ok (.newarray .int, 2) := by decide +kernel
theorem dX9_init_108 : decode cX9_init 108 = .ok (.putfield 47, 3) := by decide +kernel
theorem dX9_init_111 : decode cX9_init 111 = .ok (.aload_n 0, 1) := by decide +kernel
theorem dX9_init_112 : decode cX9_init 112 = .ok (.sipush 864, 3) := by decide +kernel
theorem dX9_init_115 : decode cX9_init 115 = .ok (.newarray .int, 2) := by decide +kernel
theorem dX9_init_117 : decode cX9_init 117 = .ok (.putfield 50, 3) := by decide +kernel
theorem dX9_init_120 : decode cX9_init 120 = .ok (.aload_n 0, 1) := by decide +kernel
theorem dX9_init_121 : decode cX9_init 121 = .ok (.sipush 3456, 3) := by decide +kernel
theorem dX9_init_124 : decode cX9_init 124 = .ok (.newarray .int, 2) := by decide +kernel
theorem dX9_init_126 : decode cX9_init 126 = .ok (.putfield 53, 3) := by decide +kernel
theorem dX9_init_129 : decode cX9_init 129 = .ok (.aload_n 0, 1) := by decide +kernel
theorem dX9_init_130 : decode cX9_init 130 = .ok (.bipush 6, 2) := by decide +kernel
theorem dX9_init_132 : decode cX9_init 132 = .ok (.newarray .int, 2) := by decide +kernel
theorem dX9_init_134 : decode cX9_init 134 = .ok (.putfield 56, 3) := by decide +kernel
theorem dX9_init_137 : decode cX9_init 137 = .ok (.aload_n 0, 1) := by decide +kernel
theorem dX9_init_138 : decode cX9_init 138 = .ok (.bipush 6, 2) := by decide +kernel
theorem dX9_init_140 : decode cX9_init 140 = .ok (.newarray .int, 2) := by decide +kernel
theorem dX9_init_142 : decode cX9_init 142 = .ok (.putfield 59, 3) := by decide +kernel
theorem dX9_init_145 : decode cX9_init 145 = .ok (.aload_n 0, 1) := by decide +kernel
theorem dX9_init_146 : decode cX9_init 146 = .ok (.bipush 6, 2) := by decide +kernel
theorem dX9_init_148 : decode cX9_init 148 = .ok (.newarray .int, 2) := by decide +kernel
theorem dX9_init_150 : decode cX9_init 150 = .ok (.putfield 62, 3) := by decide +kernel
theorem dX9_init_153 : decode cX9_init 153 = .ok (.aload_n 0, 1) := by decide +kernel
theorem dX9_init_154 : decode cX9_init 154 = .ok (.bipush 6, 2) := by decide +kernel
theorem dX9_init_156 : decode cX9_init 156 = .ok (.newarray .int, 2) := by decide +kernel
theorem dX9_init_158 : decode cX9_init 158 = .ok (.putfield 65, 3) := by decide +kernel
theorem dX9_init_161 : decode cX9_init 161 = .ok (.aload_n 0, 1) := by decide +kernel
theorem dX9_init_162 : decode cX9_init 162 = .ok (.bipush 6, 2) := by decide +kernel
theorem dX9_init_164 : decode cX9_init 164 = .ok (.newarray .int, 2) := by decide +kernel
theorem dX9_init_166 : decode cX9_init 166 = .ok (.putfield 68, 3) := by decide +kernel
theorem dX9_init_169 : decode cX9_init 169 = .ok (.aload_n 0, 1) := by decide +kernel
theorem dX9_init_170 : decode cX9_init 170 = .ok (.bipush 6, 2) := by decide +kernel
theorem dX9_init_172 : decode cX9_init 172 = .ok (.newarray .int, 2) := by decide +kernel
theorem dX9_init_174 : decode cX9_init 174 = .ok (.putfield 71, 3) := by decide +kernel
theorem dX9_init_177 : decode cX9_init 177 = .ok (.aload_n 0, 1) := by decide +kernel
theorem dX9_init_178 : decode cX9_init 178 = .ok (.iconst 4, 1) := by decide +kernel
theorem dX9_init_179 : decode cX9_init 179 = .ok (.newarray .int, 2) := by decide +kernel
theorem dX9_init_181 : decode cX9_init 181 = .ok (.putfield 74, 3) := by decide +kernel
theorem dX9_init_184 : decode cX9_init 184 = .ok (.aload_n 0, 1) := by decide +kernel
theorem dX9_init_185 : decode cX9_init 185 = .ok (.iconst 4, 1) := by decide +kernel
theorem dX9_init_186 : decode cX9_init 186 = .ok (.newarray .boolean, 2) := by decide +kernel
theorem dX9_init_188 : decode cX9_init 188 = .ok (.putfield 77, 3) := by decide +kernel
theorem dX9_init_191 : decode cX9_init 191 = .ok (.aload_n 0, 1) := by decide +kernel
theorem dX9_init_192 : decode cX9_init 192 = .ok (.iconst 4, 1) := by decide +kernel
theorem dX9_init_193 : decode cX9_init 193 = .ok (.newarray .int, 2) := by decide +kernel
theorem dX9_init_195 : decode cX9_init 195 = .ok (.putfield 80, 3) := by decide +kernel
theorem dX9_init_198 : decode cX9_init 198 = .ok (.aload_n 0, 1) := by decide +kernel
theorem dX9_init_199 : decode cX9_init 199 = .ok (.sipush 144, 3) := by decide +kernel
theorem dX9_init_202 : decode cX9_init 202 = .ok (.newarray .int, 2) := by decide +kernel
theorem dX9_init_204 : decode cX9_init 204 = .ok (.putfield 83, 3) := by decide +kernel
theorem dX9_init_207 : decode cX9_init 207 = .ok (.aload_n 0, 1) := by decide +kernel
theorem dX9_init_208 : decode cX9_init 208 = .ok (.iconst 4, 1) := by decide +kernel
theorem dX9_init_209 : decode cX9_init 209 = .ok (.newarray .int, 2) := by decide +kernel
theorem dX9_init_211 : decode cX9_init 211 = .ok (.putfield 86, 3) := by decide +kernel
theorem dX9_init_214 : decode cX9_init 214 = .ok (.aload_n 0, 1) := by decide +kernel
theorem dX9_init_215 : decode cX9_init 215 = .ok (.sipush 540, 3) := by decide +kernel
theorem dX9_init_218 : decode cX9_init 218 = .ok (.newarray .int, 2) := by decide +kernel
theorem dX9_init_220 : decode cX9_init 220 = .ok (.putfield 89, 3) := by decide +kernel
theorem dX9_init_223 : decode cX9_init 223 = .ok (.aload_n 0, 1) := by decide +kernel
theorem dX9_init_224 : decode cX9_init 224 = .ok (.sipush 144, 3) := by decide +kernel
theorem dX9_init_227 : decode cX9_init 227 = .ok (.newarray .int, 2) := by decide +kernel
theorem dX9_init_229 : decode cX9_init 229 = .ok (.putfield 92, 3) := by decide +kernel
theorem dX9_init_232 : decode cX9_init 232 = .ok (.aload_n 0, 1) := by decide +kernel
theorem dX9_init_233 : decode cX9_init 233 = .ok (.iconst 4, 1) := by decide +kernel
theorem dX9_init_234 : decode cX9_init 234 = .ok (.newarray .int, 2) := by decide +kernel
theorem dX9_init_236 : decode cX9_init 236 = .ok (.putfield 95, 3) := by decide +kernel
theorem dX9_init_239 : decode cX9_init 239 = .ok (.aload_n 0, 1) := by decide +kernel
theorem dX9_init_240 : decode cX9_init 240 = .ok (.iconst 3, 1) := by decide +kernel
theorem dX9_init_241 : decode cX9_init 241 = .ok (.newarray .int, 2) := by decide +kernel
theorem dX9_init_243 : decode cX9_init 243 = .ok (.putfield 98, 3) := by decide +kernel
theorem dX9_init_246 : decode cX9_init 246 = .ok (.aload_n 0, 1) := by decide +kernel
theorem dX9_init_247 : decode cX9_init 247 = .ok (.bipush 7, 2) := by decide +kernel
theorem dX9_init_249 : decode cX9_init 249 = .ok (.newarray .int, 2) := by decide +kernel
theorem dX9_init_251 : decode cX9_init 251 = .ok (.putfield 101, 3) := by decide +kernel
theorem dX9_init_254 : decode cX9_init 254 = .ok (.aload_n 0, 1) := by decide +kernel
theorem dX9_init_255 : decode cX9_init 255 = .ok (.bipush 7, 2) := by decide +kernel
theorem dX9_init_257 : decode cX9_init 257 = .ok (.newarray .int, 2) := by decide +kernel
theorem dX9_init_259 : decode cX9_init 259 = .ok (.putfield 104, 3) := by decide +kernel
theorem dX9_init_262 : decode cX9_init 262 = .ok (.return_, 1) := by decide +kernel
theorem dX9_thrown_0 : decode cX9_thrown 0 = .ok (.aload_n 0, 1) := by decide +kernel
theorem dX9_thrown_1 : decode cX9_thrown 1 = .ok (.getfield 107, 3) := by decide +kernel
theorem dX9_thrown_4 : decode cX9_thrown 4 = .ok (.ireturn, 1) := by decide +kernel
theorem dX9_in_0 : decode cX9_in 0 = .ok (.iload_n 0, 1) := by decide +kernel
theorem dX9_in_1 : decode cX9_in 1 = .ok (.iload_n 1, 1) := by decide +kernel
theorem dX9_in_2 : decode cX9_in 2 = .ok (.if_icmp .lt 12, 3) := by decide +kernel
theorem dX9_in_5 : decode cX9_in 5 = .ok (.iload_n 0, 1) := by decide +kernel
theorem dX9_in_6 : decode cX9_in 6 = .ok (.iload_n 2, 1) := by decide +kernel
theorem dX9_in_7 : decode cX9_in 7 = .ok (.if_icmp .gt 7, 3) := by decide +kernel
theorem dX9_in_10 : decode cX9_in 10 = .ok (.iconst 1, 1) := by decide +kernel
theorem dX9_in_11 : decode cX9_in 11 = .ok (.goto 4, 3) := by decide +kernel
theorem dX9_in_14 : decode cX9_in 14 = .ok (.iconst 0, 1) := by decide +kernel
theorem dX9_in_15 : decode cX9_in 15 = .ok (.ireturn, 1) := by decide +kernel
theorem dX9_goes_0 : decode cX9_goes 0 = .ok (.aload_n 0, 1) := by decide +kernel
theorem dX9_goes_1 : decode cX9_goes 1 = .ok (.iload_n 1, 1) := by decide +kernel
theorem dX9_goes_2 : decode cX9_goes 2 = .ok (.ifCond .ne 7, 3) := by decide +kernel
theorem dX9_goes_5 : decode cX9_goes 5 = .ok (.iconst 1, 1) := by decide +kernel
theorem dX9_goes_6 : decode cX9_goes 6 = .ok (.goto 20, 3) := by decide +kernel
theorem dX9_goes_9 : decode cX9_goes 9 = .ok (.iload_n 2, 1) := by decide +kernel
theorem dX9_goes_10 : decode cX9_goes 10 = .ok (.ifCond .ne 7, 3) := by decide +kernel
theorem dX9_goes_13 : decode cX9_goes 13 = .ok (.iconst 2, 1) := by decide +kernel
theorem dX9_goes_14 : decode cX9_goes 14 = .ok (.goto 12, 3) := by decide +kernel
theorem dX9_goes_17 : decode cX9_goes 17 = .ok (.iload_n 3, 1) := by decide +kernel
theorem dX9_goes_18 : decode cX9_goes 18 = .ok (.ifCond .eq 7, 3) := by decide +kernel
theorem dX9_goes_21 : decode cX9_goes 21 = .ok (.iconst 0, 1) := by decide +kernel
theorem dX9_goes_22 : decode cX9_goes 22 = .ok (.goto 4, 3) := by decide +kernel
theorem dX9_goes_25 : decode cX9_goes 25 = .ok (.iconst 3, 1) := by decide +kernel
theorem dX9_goes_26 : decode cX9_goes 26 = .ok (.putfield 107, 3) := by decide +kernel
theorem dX9_goes_29 : decode cX9_goes 29 = .ok (.aload_n 0, 1) := by decide +kernel
theorem dX9_goes_30 : decode cX9_goes 30 = .ok (.getfield 107, 3) := by decide +kernel
theorem dX9_goes_33 : decode cX9_goes 33 = .ok (.ifCond .ne 7, 3) := by decide +kernel
theorem dX9_goes_36 : decode cX9_goes 36 = .ok (.iconst 1, 1) := by decide +kernel
theorem dX9_goes_37 : decode cX9_goes 37 = .ok (.goto 4, 3) := by decide +kernel
theorem dX9_goes_40 : decode cX9_goes 40 = .ok (.iconst 0, 1) := by decide +kernel
theorem dX9_goes_41 : decode cX9_goes 41 = .ok (.ireturn, 1) := by decide +kernel
theorem dX9_isProgram_0 : decode cX9_isProgram 0 = .ok (.iload_n 1, 1) := by decide +kernel
theorem dX9_isProgram_1 : decode cX9_isProgram 1 = .ok (.iconst 0, 1) := by decide +kernel
theorem dX9_isProgram_2 : decode cX9_isProgram 2 = .ok (.aload_n 0, 1) := by decide +kernel
theorem dX9_isProgram_3 : decode cX9_isProgram 3 = .ok (.getfield 111, 3) := by decide +kernel
theorem dX9_isProgram_6 : decode cX9_isProgram 6 = .ok (.iconst 1, 1) := by decide +kernel
theorem dX9_isProgram_7 : decode cX9_isProgram 7 = .ok (.isub, 1) := by decide +kernel
theorem dX9_isProgram_8 : decode cX9_isProgram 8 = .ok (.invokestatic 114, 3) := by decide +kernel
theorem dX9_isProgram_11 : decode cX9_isProgram 11 = .ok (.ireturn, 1) := by decide +kernel
theorem dX9_isTool_0 : decode cX9_isTool 0 = .ok (.iload_n 1, 1) := by decide +kernel
theorem dX9_isTool_1 : decode cX9_isTool 1 = .ok (.iconst 0, 1) := by decide +kernel
theorem dX9_isTool_2 : decode cX9_isTool 2 = .ok (.aload_n 0, 1) := by decide +kernel
theorem dX9_isTool_3 : decode cX9_isTool 3 = .ok (.getfield 118, 3) := by decide +kernel
theorem dX9_isTool_6 : decode cX9_isTool 6 = .ok (.iconst 1, 1) := by decide +kernel
theorem dX9_isTool_7 : decode cX9_isTool 7 = .ok (.isub, 1) := by decide +kernel
theorem dX9_isTool_8 : decode cX9_isTool 8 = .ok (.invokestatic 114, 3) := by decide +kernel
theorem dX9_isTool_11 : decode cX9_isTool 11 = .ok (.ireturn, 1) := by decide +kernel
theorem dX9_isPallet_0 : decode cX9_isPallet 0 = .ok (.iload_n 1, 1) := by decide +kernel
theorem dX9_isPallet_1 : decode cX9_isPallet 1 = .ok (.iconst 0, 1) := by decide +kernel
theorem dX9_isPallet_2 : decode cX9_isPallet 2 = .ok (.aload_n 0, 1) := by decide +kernel
theorem dX9_isPallet_3 : decode cX9_isPallet 3 = .ok (.getfield 121, 3) := by decide +kernel
theorem dX9_isPallet_6 : decode cX9_isPallet 6 = .ok (.iconst 1, 1) := by decide +kernel
theorem dX9_isPallet_7 : decode cX9_isPallet 7 = .ok (.isub, 1) := by decide +kernel
theorem dX9_isPallet_8 : decode cX9_isPallet 8 = .ok (.invokestatic 114, 3) := by decide +kernel
theorem dX9_isPallet_11 : decode cX9_isPallet 11 = .ok (.ireturn, 1) := by decide +kernel
theorem dX9_isCell_0 : decode cX9_isCell 0 = .ok (.iload_n 0, 1) := by decide +kernel
theorem dX9_isCell_1 : decode cX9_isCell 1 = .ok (.iconst 0, 1) := by decide +kernel
theorem dX9_isCell_2 : decode cX9_isCell 2 = .ok (.bipush 11, 2) := by decide +kernel
theorem dX9_isCell_4 : decode cX9_isCell 4 = .ok (.invokestatic 114, 3) := by decide +kernel
theorem dX9_isCell_7 : decode cX9_isCell 7 = .ok (.ifCond .eq 17, 3) := by decide +kernel
theorem dX9_isCell_10 : decode cX9_isCell 10 = .ok (.iload_n 1, 1) := by decide +kernel
theorem dX9_isCell_11 : decode cX9_isCell 11 = .ok (.iconst 0, 1) := by decide +kernel
theorem dX9_isCell_12 : decode cX9_isCell 12 = .ok (.bipush 11, 2) := by decide +kernel
theorem dX9_isCell_14 : decode cX9_isCell 14 = .ok (.invokestatic 114, 3) := by decide +kernel
theorem dX9_isCell_17 : decode cX9_isCell 17 = .ok (.ifCond .eq 7, 3) := by decide +kernel
theorem dX9_isCell_20 : decode cX9_isCell 20 = .ok (.iconst 1, 1) := by decide +kernel
theorem dX9_isCell_21 : decode cX9_isCell 21 = .ok (.goto 4, 3) := by decide +kernel
theorem dX9_isCell_24 : decode cX9_isCell 24 = .ok (.iconst 0, 1) := by decide +kernel
theorem dX9_isCell_25 : decode cX9_isCell 25 = .ok (.ireturn, 1) := by decide +kernel
theorem dX9_isDrawing_0 : decode cX9_isDrawing 0 = .ok (.iload_n 1, 1) := by decide +kernel
theorem dX9_isDrawing_1 : decode cX9_isDrawing 1 = .ok (.iconst 0, 1) := by decide +kernel
theorem dX9_isDrawing_2 : decode cX9_isDrawing 2 = .ok (.aload_n 0, 1) := by decide +kernel
theorem dX9_isDrawing_3 : decode cX9_isDrawing 3 = .ok (.getfield 124, 3) := by decide +kernel
theorem dX9_isDrawing_6 : decode cX9_isDrawing 6 = .ok (.iconst 1, 1) := by decide +kernel
theorem dX9_isDrawing_7 : decode cX9_isDrawing 7 = .ok (.isub, 1) := by decide +kernel
theorem dX9_isDrawing_8 : decode cX9_isDrawing 8 = .ok (.invokestatic 114, 3) := by decide +kernel
theorem dX9_isDrawing_11 : decode cX9_isDrawing 11 = .ok (.ireturn, 1) := by decide +kernel
theorem dX9_size_0 : decode cX9_size 0 = .ok (.iload_n 0, 1) := by decide +kernel
theorem dX9_size_1 : decode cX9_size 1 = .ok (.ifCond .ge 8, 3) := by decide +kernel
theorem dX9_size_4 : decode cX9_size 4 = .ok (.iload_n 0, 1) := by decide +kernel
theorem dX9_size_5 : decode cX9_size 5 = .ok (.ineg, 1) := by decide +kernel
theorem dX9_size_6 : decode cX9_size 6 = .ok (.goto 4, 3) := by decide +kernel
theorem dX9_size_9 : decode cX9_size 9 = .ok (.iload_n 0, 1) := by decide +kernel
theorem dX9_size_10 : decode cX9_size 10 = .ok (.ireturn, 1) := by decide +kernel
theorem dX9_program_0 : decode cX9_program 0 = .ok (.aload_n 0, 1) := by decide +kernel
theorem dX9_program_1 : decode cX9_program 1 = .ok (.aload_n 0, 1) := by decide +kernel
theorem dX9_program_2 : decode cX9_program 2 = .ok (.getfield 111, 3) := by decide +kernel
theorem dX9_program_5 : decode cX9_program 5 = .ok (.bipush 6, 2) := by decide +kernel
theorem dX9_program_7 : decode cX9_program 7 = .ok (.if_icmp .ge 7, 3) := by decide +kernel
theorem dX9_program_10 : decode cX9_program 10 = .ok (.iconst 1, 1) := by decide +kernel
theorem dX9_program_11 : decode cX9_program 11 = .ok (.goto 4, 3) := by decide +kernel
theorem dX9_program_14 : decode cX9_program 14 = .ok (.iconst 0, 1) := by decide +kernel
theorem dX9_program_15 : decode cX9_program 15 = .ok (.iconst 1, 1) := by decide +kernel
theorem dX9_program_16 : decode cX9_program 16 = .ok (.iconst 1, 1) := by decide +kernel
theorem dX9_program_17 : decode cX9_program 17 = .ok (.invokevirtual 127, 3) := by decide +kernel
theorem dX9_program_20 : decode cX9_program 20 = .ok (.ifCond .ne 5, 3) := by decide +kernel
theorem dX9_program_23 : decode cX9_program 23 = .ok (.iconst 0, 1) := by decide +kernel
theorem dX9_program_24 : decode cX9_program 24 = .ok (.ireturn, 1) := by decide +kernel
theorem dX9_program_25 : decode cX9_program 25 = .ok (.aload_n 0, 1) := by decide +kernel
theorem dX9_program_26 : decode cX9_program 26 = .ok (.dup, 1) := by decide +kernel
theorem dX9_program_27 : decode cX9_program 27 = .ok (.getfield 111, 3) := by decide +kernel
theorem dX9_program_30 : decode cX9_program 30 = .ok (.iconst 1, 1) := by decide +kernel
theorem dX9_program_31 : decode cX9_program 31 = .ok (.iadd, 1) := by decide +kernel
theorem dX9_program_32 : decode cX9_program 32 = .ok (.putfield 111, 3) := by decide +kernel
theorem dX9_program_35 : decode cX9_program 35 = .ok (.aload_n 0, 1) := by decide +kernel
theorem dX9_program_36 : decode cX9_program 36 = .ok (.getfield 111, 3) := by decide +kernel
theorem dX9_program_39 : decode cX9_program 39 = .ok (.iconst 1, 1) := by decide +kernel
theorem dX9_program_40 : decode cX9_program 40 = .ok (.isub, 1) := by decide +kernel
theorem dX9_program_41 : decode cX9_program 41 = .ok (.ireturn, 1) := by decide +kernel
theorem dX9_isBlock_0 : decode cX9_isBlock 0 = .ok (.iload_n 1, 1) := by decide +kernel
theorem dX9_isBlock_1 : decode cX9_isBlock 1 = .ok (.tableswitch 62 0 5 #[39, 39, 46, 46, 46, 55], 39) := by decide +kernel
theorem dX9_isBlock_40 : decode cX9_isBlock 40 = .ok (.iload_n 2, 1) := by decide +kernel
theorem dX9_isBlock_41 : decode cX9_isBlock 41 = .ok (.iconst 0, 1) := by decide +kernel
theorem dX9_isBlock_42 : decode cX9_isBlock 42 = .ok (.iconst 1, 1) := by decide +kernel
theorem dX9_isBlock_43 : decode cX9_isBlock 43 = .ok (.invokestatic 114, 3) := by decide +kernel
theorem dX9_isBlock_46 : decode cX9_isBlock 46 = .ok (.ireturn, 1) := by decide +kernel
theorem dX9_isBlock_47 : decode cX9_isBlock 47 = .ok (.iload_n 2, 1) := by decide +kernel
theorem dX9_isBlock_48 : decode cX9_isBlock 48 = .ok (.bipush (-11), 2) := by decide +kernel
theorem dX9_isBlock_50 : decode cX9_isBlock 50 = .ok (.bipush 11, 2) := by decide +kernel
theorem dX9_isBlock_52 : decode cX9_isBlock 52 = .ok (.invokestatic 114, 3) := by decide +kernel
theorem dX9_isBlock_55 : decode cX9_isBlock 55 = .ok (.ireturn, 1) := by decide +kernel
theorem dX9_isBlock_56 : decode cX9_isBlock 56 = .ok (.iload_n 2, 1) := by decide +kernel
theorem dX9_isBlock_57 : decode cX9_isBlock 57 = .ok (.iconst 0, 1) := by decide +kernel
theorem dX9_isBlock_58 : decode cX9_isBlock 58 = .ok (.iconst 3, 1) := by decide +kernel
theorem dX9_isBlock_59 : decode cX9_isBlock 59 = .ok (.invokestatic 114, 3) := by decide +kernel
theorem dX9_isBlock_62 : decode cX9_isBlock 62 = .ok (.ireturn, 1) := by decide +kernel
theorem dX9_isBlock_63 : decode cX9_isBlock 63 = .ok (.iload_n 1, 1) := by decide +kernel
theorem dX9_isBlock_64 : decode cX9_isBlock 64 = .ok (.bipush 6, 2) := by decide +kernel
theorem dX9_isBlock_66 : decode cX9_isBlock 66 = .ok (.if_icmp .ne 18, 3) := by decide +kernel
theorem dX9_isBlock_69 : decode cX9_isBlock 69 = .ok (.iload_n 2, 1) := by decide +kernel
theorem dX9_isBlock_70 : decode cX9_isBlock 70 = .ok (.iconst 0, 1) := by decide +kernel
theorem dX9_isBlock_71 : decode cX9_isBlock 71 = .ok (.iload_n 0, 1) := by decide +kernel
theorem dX9_isBlock_72 : decode cX9_isBlock 72 = .ok (.iconst 1, 1) := by decide +kernel
theorem dX9_isBlock_73 : decode cX9_isBlock 73 = .ok (.isub, 1) := by decide +kernel
theorem dX9_isBlock_74 : decode cX9_isBlock 74 = .ok (.invokestatic 114, 3) := by decide +kernel
theorem dX9_isBlock_77 : decode cX9_isBlock 77 = .ok (.ifCond .eq 7, 3) := by decide +kernel
theorem dX9_isBlock_80 : decode cX9_isBlock 80 = .ok (.iconst 1, 1) := by decide +kernel
theorem dX9_isBlock_81 : decode cX9_isBlock 81 = .ok (.goto 4, 3) := by decide +kernel
theorem dX9_isBlock_84 : decode cX9_isBlock 84 = .ok (.iconst 0, 1) := by decide +kernel
theorem dX9_isBlock_85 : decode cX9_isBlock 85 = .ok (.ireturn, 1) := by decide +kernel
theorem dX9_block_0 : decode cX9_block 0 = .ok (.aload_n 0, 1) := by decide +kernel
theorem dX9_block_1 : decode cX9_block 1 = .ok (.iload_n 1, 1) := by decide +kernel
theorem dX9_block_2 : decode cX9_block 2 = .ok (.invokevirtual 131, 3) := by decide +kernel
theorem dX9_block_5 : decode cX9_block 5 = .ok (.istore 4, 2) := by decide +kernel
theorem dX9_block_7 : decode cX9_block 7 = .ok (.aload_n 0, 1) := by decide +kernel
theorem dX9_block_8 : decode cX9_block 8 = .ok (.iload 4, 2) := by decide +kernel
theorem dX9_block_10 : decode cX9_block 10 = .ok (.iload_n 1, 1) := by decide +kernel
theorem dX9_block_11 : decode cX9_block 11 = .ok (.iload_n 2, 1) := by decide +kernel
theorem dX9_block_12 : decode cX9_block 12 = .ok (.iload_n 3, 1) := by decide +kernel
theorem dX9_block_13 : decode cX9_block 13 = .ok (.invokestatic 135, 3) := by decide +kernel
theorem dX9_block_16 : decode cX9_block 16 = .ok (.iload 4, 2) := by decide +kernel
theorem dX9_block_18 : decode cX9_block 18 = .ok (.ifCond .eq 25, 3) := by decide +kernel
theorem dX9_block_21 : decode cX9_block 21 = .ok (.aload_n 0, 1) := by decide +kernel
theorem dX9_block_22 : decode cX9_block 22 = .ok (.getfield 13, 3) := by decide +kernel
theorem dX9_block_25 : decode cX9_block 25 = .ok (.iload_n 1, 1) := by decide +kernel
theorem dX9_block_26 : decode cX9_block 26 = .ok (.iaload, 1) := by decide +kernel
theorem dX9_block_27 : decode cX9_block 27 = .ok (.bipush 30, 2) := by decide +kernel
theorem dX9_block_29 : decode cX9_block 29 = .ok (.if_icmp .ge 14, 3) := by decide +kernel
theorem dX9_block_32 : decode cX9_block 32 = .ok (.aload_n 0, 1) := by decide +kernel
theorem dX9_block_33 : decode cX9_block 33 = .ok (.getfield 138, 3) := by decide +kernel
theorem dX9_block_36 : decode cX9_block 36 = .ok (.ifCond .ne 7, 3) := by decide +kernel
theorem dX9_block_39 : decode cX9_block 39 = .ok (.iconst 1, 1) := by decide +kernel
theorem dX9_block_40 : decode cX9_block 40 = .ok (.goto 4, 3) := by decide +kernel
theorem dX9_block_43 : decode cX9_block 43 = .ok (.iconst 0, 1) := by decide +kernel
theorem dX9_block_44 : decode cX9_block 44 = .ok (.invokevirtual 127, 3) := by decide +kernel
theorem dX9_block_47 : decode cX9_block 47 = .ok (.ifCond .ne 5, 3) := by decide +kernel
theorem dX9_block_50 : decode cX9_block 50 = .ok (.iconst 0, 1) := by decide +kernel
theorem dX9_block_51 : decode cX9_block 51 = .ok (.ireturn, 1) := by decide +kernel
theorem dX9_block_52 : decode cX9_block 52 = .ok (.aload_n 0, 1) := by decide +kernel
theorem dX9_block_53 : decode cX9_block 53 = .ok (.getfield 7, 3) := by decide +kernel
theorem dX9_block_56 : decode cX9_block 56 = .ok (.bipush 60, 2) := by decide +kernel
theorem dX9_block_58 : decode cX9_block 58 = .ok (.iload_n 1, 1) := by decide +kernel
theorem dX9_block_59 : decode cX9_block 59 = .ok (.imul, 1) := by decide +kernel
theorem dX9_block_60 : decode cX9_block 60 = .ok (.iconst 2, 1) := by decide +kernel
theorem dX9_block_61 : decode cX9_block 61 = .ok (.aload_n 0, 1) := by decide +kernel
theorem dX9_block_62 : decode cX9_block 62 = .ok (.getfield 13, 3) := by decide +kernel
theorem dX9_block_65 : decode cX9_block 65 = .ok (.iload_n 1, 1) := by decide +kernel
theorem dX9_block_66 : decode cX9_block 66 = .ok (.iaload, 1) := by decide +kernel
theorem dX9_block_67 : decode cX9_block 67 = .ok (.imul, 1) := by decide +kernel
theorem dX9_block_68 : decode cX9_block 68 = .ok (.iadd, 1) := by decide +kernel
theorem dX9_block_69 : decode cX9_block 69 = .ok (.iload_n 2, 1) := by decide +kernel
theorem dX9_block_70 : decode cX9_block 70 = .ok (.iastore, 1) := by decide +kernel
theorem dX9_block_71 : decode cX9_block 71 = .ok (.aload_n 0, 1) := by decide +kernel
theorem dX9_block_72 : decode cX9_block 72 = .ok (.getfield 7, 3) := by decide +kernel
theorem dX9_block_75 : decode cX9_block 75 = .ok (.bipush 60, 2) := by decide +kernel
theorem dX9_block_77 : decode cX9_block 77 = .ok (.iload_n 1, 1) := by decide +kernel
theorem dX9_block_78 : decode cX9_block 78 = .ok (.imul, 1) := by decide +kernel
theorem dX9_block_79 : decode cX9_block 79 = .ok (.iconst 2, 1) := by decide +kernel
theorem dX9_block_80 : decode cX9_block 80 = .ok (.aload_n 0, 1) := by decide +kernel
theorem dX9_block_81 : decode cX9_block 81 = .ok (.getfield 13, 3) := by decide +kernel
theorem dX9_block_84 : decode cX9_block 84 = .ok (.iload_n 1, 1) := by decide +kernel
theorem dX9_block_85 : decode cX9_block 85 = .ok (.iaload, 1) := by decide +kernel
theorem dX9_block_86 : decode cX9_block 86 = .ok (.imul, 1) := by decide +kernel
theorem dX9_block_87 : decode cX9_block 87 = .ok (.iadd, 1) := by decide +kernel
theorem dX9_block_88 : decode cX9_block 88 = .ok (.iconst 1, 1) := by decide +kernel
theorem dX9_block_89 : decode cX9_block 89 = .ok (.iadd, 1) := by decide +kernel
theorem dX9_block_90 : decode cX9_block 90 = .ok (.iload_n 3, 1) := by decide +kernel
theorem dX9_block_91 : decode cX9_block 91 = .ok (.iastore, 1) := by decide +kernel
theorem dX9_block_92 : decode cX9_block 92 = .ok (.aload_n 0, 1) := by decide +kernel
theorem dX9_block_93 : decode cX9_block 93 = .ok (.getfield 13, 3) := by decide +kernel
theorem dX9_block_96 : decode cX9_block 96 = .ok (.iload_n 1, 1) := by decide +kernel
theorem dX9_block_97 : decode cX9_block 97 = .ok (.dup2, 1) := by decide +kernel
theorem dX9_block_98 : decode cX9_block 98 = .ok (.iaload, 1) := by decide +kernel
theorem dX9_block_99 : decode cX9_block 99 = .ok (.iconst 1, 1) := by decide +kernel
theorem dX9_block_100 : decode cX9_block 100 = .ok (.iadd, 1) := by decide +kernel
theorem dX9_block_101 : decode cX9_block 101 = .ok (.iastore, 1) := by decide +kernel
theorem dX9_block_102 : decode cX9_block 102 = .ok (.aload_n 0, 1) := by decide +kernel
theorem dX9_block_103 : decode cX9_block 103 = .ok (.getfield 13, 3) := by decide +kernel
theorem dX9_block_106 : decode cX9_block 106 = .ok (.iload_n 1, 1) := by decide +kernel
theorem dX9_block_107 : decode cX9_block 107 = .ok (.iaload, 1) := by decide +kernel
theorem dX9_block_108 : decode cX9_block 108 = .ok (.ireturn, 1) := by decide +kernel
theorem dX9_map_0 : decode cX9_map 0 = .ok (.aload_n 0, 1) := by decide +kernel
theorem dX9_map_1 : decode cX9_map 1 = .ok (.iload_n 1, 1) := by decide +kernel
theorem dX9_map_2 : decode cX9_map 2 = .ok (.iconst 0, 1) := by decide +kernel
theorem dX9_map_3 : decode cX9_map 3 = .ok (.bipush 11, 2) := by decide +kernel
theorem dX9_map_5 : decode cX9_map 5 = .ok (.invokestatic 114, 3) := by decide +kernel
theorem dX9_map_8 : decode cX9_map 8 = .ok (.ifCond .eq 18, 3) := by decide +kernel
theorem dX9_map_11 : decode cX9_map 11 = .ok (.iload_n 2, 1) := by decide +kernel
theorem dX9_map_12 : decode cX9_map 12 = .ok (.bipush (-50), 2) := by decide +kernel
theorem dX9_map_14 : decode cX9_map 14 = .ok (.bipush 50, 2) := by decide +kernel
theorem dX9_map_16 : decode cX9_map 16 = .ok (.invokestatic 114, 3) := by decide +kernel
theorem dX9_map_19 : decode cX9_map 19 = .ok (.ifCond .eq 7, 3) := by decide +kernel
theorem dX9_map_22 : decode cX9_map 22 = .ok (.iconst 1, 1) := by decide +kernel
theorem dX9_map_23 : decode cX9_map 23 = .ok (.goto 4, 3) := by decide +kernel
theorem dX9_map_26 : decode cX9_map 26 = .ok (.iconst 0, 1) := by decide +kernel
theorem dX9_map_27 : decode cX9_map 27 = .ok (.iconst 1, 1) := by decide +kernel
theorem dX9_map_28 : decode cX9_map 28 = .ok (.iconst 1, 1) := by decide +kernel
theorem dX9_map_29 : decode cX9_map 29 = .ok (.invokevirtual 127, 3) := by decide +kernel
theorem dX9_map_32 : decode cX9_map 32 = .ok (.ifCond .ne 5, 3) := by decide +kernel
theorem dX9_map_35 : decode cX9_map 35 = .ok (.iconst 0, 1) := by decide +kernel
theorem dX9_map_36 : decode cX9_map 36 = .ok (.ireturn, 1) := by decide +kernel
theorem dX9_map_37 : decode cX9_map 37 = .ok (.aload_n 0, 1) := by decide +kernel
theorem dX9_map_38 : decode cX9_map 38 = .ok (.getfield 16, 3) := by decide +kernel
theorem dX9_map_41 : decode cX9_map 41 = .ok (.iload_n 1, 1) := by decide +kernel
theorem dX9_map_42 : decode cX9_map 42 = .ok (.iaload, 1) := by decide +kernel
theorem dX9_map_43 : decode cX9_map 43 = .ok (.istore_n 3, 1) := by decide +kernel
theorem dX9_map_44 : decode cX9_map 44 = .ok (.aload_n 0, 1) := by decide +kernel
theorem dX9_map_45 : decode cX9_map 45 = .ok (.getfield 16, 3) := by decide +kernel
theorem dX9_map_48 : decode cX9_map 48 = .ok (.iload_n 1, 1) := by decide +kernel
theorem dX9_map_49 : decode cX9_map 49 = .ok (.iload_n 2, 1) := by decide +kernel
theorem dX9_map_50 : decode cX9_map 50 = .ok (.iastore, 1) := by decide +kernel
theorem dX9_map_51 : decode cX9_map 51 = .ok (.iload_n 3, 1) := by decide +kernel
theorem dX9_map_52 : decode cX9_map 52 = .ok (.ireturn, 1) := by decide +kernel
theorem dX9_tool_0 : decode cX9_tool 0 = .ok (.aload_n 0, 1) := by decide +kernel
theorem dX9_tool_1 : decode cX9_tool 1 = .ok (.iload_n 1, 1) := by decide +kernel
theorem dX9_tool_2 : decode cX9_tool 2 = .ok (.iconst 0, 1) := by decide +kernel
theorem dX9_tool_3 : decode cX9_tool 3 = .ok (.iconst 3, 1) := by decide +kernel
theorem dX9_tool_4 : decode cX9_tool 4 = .ok (.invokestatic 114, 3) := by decide +kernel
theorem dX9_tool_7 : decode cX9_tool 7 = .ok (.ifCond .eq 18, 3) := by decide +kernel
theorem dX9_tool_10 : decode cX9_tool 10 = .ok (.iload_n 2, 1) := by decide +kernel
theorem dX9_tool_11 : decode cX9_tool 11 = .ok (.iconst 1, 1) := by decide +kernel
theorem dX9_tool_12 : decode cX9_tool 12 = .ok (.sipush 500, 3) := by decide +kernel
theorem dX9_tool_15 : decode cX9_tool 15 = .ok (.invokestatic 114, 3) := by decide +kernel
theorem dX9_tool_18 : decode cX9_tool 18 = .ok (.ifCond .eq 7, 3) := by decide +kernel
theorem dX9_tool_21 : decode cX9_tool 21 = .ok (.iconst 1, 1) := by decide +kernel
theorem dX9_tool_22 : decode cX9_tool 22 = .ok (.goto 4, 3) := by decide +kernel
theorem dX9_tool_25 : decode cX9_tool 25 = .ok (.iconst 0, 1) := by decide +kernel
theorem dX9_tool_26 : decode cX9_tool 26 = .ok (.aload_n 0, 1) := by decide +kernel
theorem dX9_tool_27 : decode cX9_tool 27 = .ok (.getfield 118, 3) := by decide +kernel
theorem dX9_tool_30 : decode cX9_tool 30 = .ok (.bipush 16, 2) := by decide +kernel
theorem dX9_tool_32 : decode cX9_tool 32 = .ok (.if_icmp .ge 7, 3) := by decide +kernel
theorem dX9_tool_35 : decode cX9_tool 35 = .ok (.iconst 1, 1) := by decide +kernel
theorem dX9_tool_36 : decode cX9_tool 36 = .ok (.goto 4, 3) := by decide +kernel
theorem dX9_tool_39 : decode cX9_tool 39 = .ok (.iconst 0, 1) := by decide +kernel
theorem dX9_tool_40 : decode cX9_tool 40 = .ok (.iconst 1, 1) := by decide +kernel
theorem dX9_tool_41 : decode cX9_tool 41 = .ok (.invokevirtual 127, 3) := by decide +kernel
theorem dX9_tool_44 : decode cX9_tool 44 = .ok (.ifCond .ne 5, 3) := by decide +kernel
theorem dX9_tool_47 : decode cX9_tool 47 = .ok (.iconst 0, 1) := by decide +kernel
theorem dX9_tool_48 : decode cX9_tool 48 = .ok (.ireturn, 1) := by decide +kernel
theorem dX9_tool_49 : decode cX9_tool 49 = .ok (.aload_n 0, 1) := by decide +kernel
theorem dX9_tool_50 : decode cX9_tool 50 = .ok (.getfield 19, 3) := by decide +kernel
theorem dX9_tool_53 : decode cX9_tool 53 = .ok (.aload_n 0, 1) := by decide +kernel
theorem dX9_tool_54 : decode cX9_tool 54 = .ok (.getfield 118, 3) := by decide +kernel
theorem dX9_tool_57 : decode cX9_tool 57 = .ok (.iload_n 1, 1) := by decide +kernel
theorem dX9_tool_58 : decode cX9_tool 58 = .ok (.iastore, 1) := by decide +kernel
theorem dX9_tool_59 : decode cX9_tool 59 = .ok (.aload_n 0, 1) := by decide +kernel
theorem dX9_tool_60 : decode cX9_tool 60 = .ok (.getfield 22, 3) := by decide +kernel
theorem dX9_tool_63 : decode cX9_tool 63 = .ok (.aload_n 0, 1) := by decide +kernel
theorem dX9_tool_64 : decode cX9_tool 64 = .ok (.getfield 118, 3) := by decide +kernel
theorem dX9_tool_67 : decode cX9_tool 67 = .ok (.iload_n 2, 1) := by decide +kernel
theorem dX9_tool_68 : decode cX9_tool 68 = .ok (.iastore, 1) := by decide +kernel
theorem dX9_tool_69 : decode cX9_tool 69 = .ok (.aload_n 0, 1) := by decide +kernel
theorem dX9_tool_70 : decode cX9_tool 70 = .ok (.dup, 1) := by decide +kernel
theorem dX9_tool_71 : decode cX9_tool 71 = .ok (.getfield 118, 3) := by decide +kernel
theorem dX9_tool_74 : decode cX9_tool 74 = .ok (.iconst 1, 1) := by decide +kernel
theorem dX9_tool_75 : decode cX9_tool 75 = .ok (.iadd, 1) := by decide +kernel
theorem dX9_tool_76 : decode cX9_tool 76 = .ok (.putfield 118, 3) := by decide +kernel
theorem dX9_tool_79 : decode cX9_tool 79 = .ok (.aload_n 0, 1) := by decide +kernel
theorem dX9_tool_80 : decode cX9_tool 80 = .ok (.getfield 118, 3) := by decide +kernel
theorem dX9_tool_83 : decode cX9_tool 83 = .ok (.iconst 1, 1) := by decide +kernel
theorem dX9_tool_84 : decode cX9_tool 84 = .ok (.isub, 1) := by decide +kernel
theorem dX9_tool_85 : decode cX9_tool 85 = .ok (.ireturn, 1) := by decide +kernel
theorem dX9_countLoaded_0 : decode cX9_countLoaded 0 = .ok (.iconst 0, 1) := by decide +kernel
theorem dX9_countLoaded_1 : decode cX9_countLoaded 1 = .ok (.istore_n 1, 1) := by decide +kernel
theorem dX9_countLoaded_2 : decode cX9_countLoaded 2 = .ok (.iconst 0, 1) := by decide +kernel
theorem dX9_countLoaded_3 : decode cX9_countLoaded 3 = .ok (.istore_n 2, 1) := by decide +kernel
theorem dX9_countLoaded_4 : decode cX9_countLoaded 4 = .ok (.iload_n 2, 1) := by decide +kernel
theorem dX9_countLoaded_5 : decode cX9_countLoaded 5 = .ok (.aload_n 0, 1) := by decide +kernel
theorem dX9_countLoaded_6 : decode cX9_countLoaded 6 = .ok (.getfield 118, 3) := by decide +kernel
theorem dX9_countLoaded_9 : decode cX9_countLoaded 9 = .ok (.if_icmp .ge 26, 3) := by decide +kernel
theorem dX9_countLoaded_12 : decode cX9_countLoaded 12 = .ok (.iload_n 1, 1) := by decide +kernel
theorem dX9_countLoaded_13 : decode cX9_countLoaded 13 = .ok (.aload_n 0, 1) := by decide +kernel
theorem dX9_countLoaded_14 : decode cX9_countLoaded 14 = .ok (.getfield 34, 3) := by decide +kernel
theorem dX9_countLoaded_17 : decode cX9_countLoaded 17 = .ok (.iload_n 2, 1) := by decide +kernel
theorem dX9_countLoaded_18 : decode cX9_countLoaded 18 = .ok (.baload, 1) := by decide +kernel
theorem dX9_countLoaded_19 : decode cX9_countLoaded 19 = .ok (.ifCond .eq 7, 3) := by decide +kernel
theorem dX9_countLoaded_22 : decode cX9_countLoaded 22 = .ok (.iconst 1, 1) := by decide +kernel
theorem dX9_countLoaded_23 : decode cX9_countLoaded 23 = .ok (.goto 4, 3) := by decide +kernel
theorem dX9_countLoaded_26 : decode cX9_countLoaded 26 = .ok (.iconst 0, 1) := by decide +kernel
theorem dX9_countLoaded_27 : decode cX9_countLoaded 27 = .ok (.iadd, 1) := by decide +kernel
theorem dX9_countLoaded_28 : decode cX9_countLoaded 28 = .ok (.istore_n 1, 1) := by decide +kernel
theorem dX9_countLoaded_29 : decode cX9_countLoaded 29 = .ok (.iinc 2 1, 3) := by decide +kernel
theorem dX9_countLoaded_32 : decode cX9_countLoaded 32 = .ok (.goto (-28), 3) := by decide +kernel
theorem dX9_countLoaded_35 : decode cX9_countLoaded 35 = .ok (.iload_n 1, 1) := by decide +kernel
theorem dX9_countLoaded_36 : decode cX9_countLoaded 36 = .ok (.ireturn, 1) := by decide +kernel
theorem dX9_load_0 : decode cX9_load 0 = .ok (.aload_n 0, 1) := by decide +kernel
theorem dX9_load_1 : decode cX9_load 1 = .ok (.iload_n 1, 1) := by decide +kernel
theorem dX9_load_2 : decode cX9_load 2 = .ok (.invokevirtual 141, 3) := by decide +kernel
theorem dX9_load_5 : decode cX9_load 5 = .ok (.istore_n 3, 1) := by decide +kernel
theorem dX9_load_6 : decode cX9_load 6 = .ok (.aload_n 0, 1) := by decide +kernel
theorem dX9_load_7 : decode cX9_load 7 = .ok (.iload_n 3, 1) := by decide +kernel
theorem dX9_load_8 : decode cX9_load 8 = .ok (.iload_n 3, 1) := by decide +kernel
theorem dX9_load_9 : decode cX9_load 9 = .ok (.ifCond .eq 29, 3) := by decide +kernel
theorem dX9_load_12 : decode cX9_load 12 = .ok (.iload_n 2, 1) := by decide +kernel
theorem dX9_load_13 : decode cX9_load 13 = .ok (.ifCond .eq 21, 3) := by decide +kernel
theorem dX9_load_16 : decode cX9_load 16 = .ok (.aload_n 0, 1) := by decide +kernel
theorem dX9_load_17 : decode cX9_load 17 = .ok (.getfield 34, 3) := by decide +kernel
theorem dX9_load_20 : decode cX9_load 20 = .ok (.iload_n 1, 1) := by decide +kernel
theorem dX9_load_21 : decode cX9_load 21 = .ok (.baload, 1) := by decide +kernel
theorem dX9_load_22 : decode cX9_load 22 = .ok (.ifCond .ne 12, 3) := by decide +kernel
theorem dX9_load_25 : decode cX9_load 25 = .ok (.aload_n 0, 1) := by decide +kernel
theorem dX9_load_26 : decode cX9_load 26 = .ok (.invokevirtual 144, 3) := by decide +kernel
theorem dX9_load_29 : decode cX9_load 29 = .ok (.bipush 6, 2) := by decide +kernel
theorem dX9_load_31 : decode cX9_load 31 = .ok (.if_icmp .ge 7, 3) := by decide +kernel
theorem dX9_load_34 : decode cX9_load 34 = .ok (.iconst 1, 1) := by decide +kernel
theorem dX9_load_35 : decode cX9_load 35 = .ok (.goto 4, 3) := by decide +kernel
theorem dX9_load_38 : decode cX9_load 38 = .ok (.iconst 0, 1) := by decide +kernel
theorem dX9_load_39 : decode cX9_load 39 = .ok (.iconst 1, 1) := by decide +kernel
theorem dX9_load_40 : decode cX9_load 40 = .ok (.invokevirtual 127, 3) := by decide +kernel
theorem dX9_load_43 : decode cX9_load 43 = .ok (.ifCond .ne 5, 3) := by decide +kernel
theorem dX9_load_46 : decode cX9_load 46 = .ok (.iconst 0, 1) := by decide +kernel
theorem dX9_load_47 : decode cX9_load 47 = .ok (.ireturn, 1) := by decide +kernel
theorem dX9_load_48 : decode cX9_load 48 = .ok (.aload_n 0, 1) := by decide +kernel
theorem dX9_load_49 : decode cX9_load 49 = .ok (.getfield 34, 3) := by decide +kernel
theorem dX9_load_52 : decode cX9_load 52 = .ok (.iload_n 1, 1) := by decide +kernel
theorem dX9_load_53 : decode cX9_load 53 = .ok (.iload_n 2, 1) := by decide +kernel
theorem dX9_load_54 : decode cX9_load 54 = .ok (.bastore, 1) := by decide +kernel
theorem dX9_load_55 : decode cX9_load 55 = .ok (.aload_n 0, 1) := by decide +kernel
theorem dX9_load_56 : decode cX9_load 56 = .ok (.invokevirtual 144, 3) := by decide +kernel
theorem dX9_load_59 : decode cX9_load 59 = .ok (.ireturn, 1) := by decide +kernel
theorem dX9_pallet_0 : decode cX9_pallet 0 = .ok (.aload_n 0, 1) := by decide +kernel
theorem dX9_pallet_1 : decode cX9_pallet 1 = .ok (.iload_n 1, 1) := by decide +kernel
theorem dX9_pallet_2 : decode cX9_pallet 2 = .ok (.iconst 1, 1) := by decide +kernel
theorem dX9_pallet_3 : decode cX9_pallet 3 = .ok (.bipush 9, 2) := by decide +kernel
theorem dX9_pallet_5 : decode cX9_pallet 5 = .ok (.invokestatic 114, 3) := by decide +kernel
theorem dX9_pallet_8 : decode cX9_pallet 8 = .ok (.aload_n 0, 1) := by decide +kernel
theorem dX9_pallet_9 : decode cX9_pallet 9 = .ok (.getfield 121, 3) := by decide +kernel
theorem dX9_pallet_12 : decode cX9_pallet 12 = .ok (.bipush 6, 2) := by decide +kernel
theorem dX9_pallet_14 : decode cX9_pallet 14 = .ok (.if_icmp .ge 7, 3) := by decide +kernel
theorem dX9_pallet_17 : decode cX9_pallet 17 = .ok (.iconst 1, 1) := by decide +kernel
theorem dX9_pallet_18 : decode cX9_pallet 18 = .ok (.goto 4, 3) := by decide +kernel
theorem dX9_pallet_21 : decode cX9_pallet 21 = .ok (.iconst 0, 1) := by decide +kernel
theorem dX9_pallet_22 : decode cX9_pallet 22 = .ok (.iconst 1, 1) := by decide +kernel
theorem dX9_pallet_23 : decode cX9_pallet 23 = .ok (.invokevirtual 127, 3) := by decide +kernel
theorem dX9_pallet_26 : decode cX9_pallet 26 = .ok (.ifCond .ne 5, 3) := by decide +kernel
theorem dX9_pallet_29 : decode cX9_pallet 29 = .ok (.iconst 0, 1) := by decide +kernel
theorem dX9_pallet_30 : decode cX9_pallet 30 = .ok (.ireturn, 1) := by decide +kernel
theorem dX9_pallet_31 : decode cX9_pallet 31 = .ok (.sipush 144, 3) := by decide +kernel
theorem dX9_pallet_34 : decode cX9_pallet 34 = .ok (.aload_n 0, 1) := by decide +kernel
theorem dX9_pallet_35 : decode cX9_pallet 35 = .ok (.getfield 121, 3) := by decide +kernel
theorem dX9_pallet_38 : decode cX9_pallet 38 = .ok (.imul, 1) := by decide +kernel
theorem dX9_pallet_39 : decode cX9_pallet 39 = .ok (.istore_n 2, 1) := by decide +kernel
theorem dX9_pallet_40 : decode cX9_pallet 40 = .ok (.iload_n 2, 1) := by decide +kernel
theorem dX9_pallet_41 : decode cX9_pallet 41 = .ok (.sipush 144, 3) := by decide +kernel
theorem dX9_pallet_44 : decode cX9_pallet 44 = .ok (.aload_n 0, 1) := by decide +kernel
theorem dX9_pallet_45 : decode cX9_pallet 45 = .ok (.getfield 121, 3) := by decide +kernel
theorem dX9_pallet_48 : decode cX9_pallet 48 = .ok (.imul, 1) := by decide +kernel
theorem dX9_pallet_49 : decode cX9_pallet 49 = .ok (.sipush 144, 3) := by decide +kernel
theorem dX9_pallet_52 : decode cX9_pallet 52 = .ok (.iadd, 1) := by decide +kernel
theorem dX9_pallet_53 : decode cX9_pallet 53 = .ok (.if_icmp .ge 23, 3) := by decide +kernel
theorem dX9_pallet_56 : decode cX9_pallet 56 = .ok (.aload_n 0, 1) := by decide +kernel
theorem dX9_pallet_57 : decode cX9_pallet 57 = .ok (.getfield 44, 3) := by decide +kernel
theorem dX9_pallet_60 : decode cX9_pallet 60 = .ok (.iload_n 2, 1) := by decide +kernel
theorem dX9_pallet_61 : decode cX9_pallet 61 = .ok (.iload_n 1, 1) := by decide +kernel
theorem dX9_pallet_62 : decode cX9_pallet 62 = .ok (.iastore, 1) := by decide +kernel
theorem dX9_pallet_63 : decode cX9_pallet 63 = .ok (.aload_n 0, 1) := by decide +kernel
theorem dX9_pallet_64 : decode cX9_pallet 64 = .ok (.getfield 50, 3) := by decide +kernel
theorem dX9_pallet_67 : decode cX9_pallet 67 = .ok (.iload_n 2, 1) := by decide +kernel
theorem dX9_pallet_68 : decode cX9_pallet 68 = .ok (.iconst (-1), 1) := by decide +kernel
theorem dX9_pallet_69 : decode cX9_pallet 69 = .ok (.iastore, 1) := by decide +kernel
theorem dX9_pallet_70 : decode cX9_pallet 70 = .ok (.iinc 2 1, 3) := by decide +kernel
theorem dX9_pallet_73 : decode cX9_pallet 73 = .ok (.goto (-33), 3) := by decide +kernel
theorem dX9_pallet_76 : decode cX9_pallet 76 = .ok (.aload_n 0, 1) := by decide +kernel
theorem dX9_pallet_77 : decode cX9_pallet 77 = .ok (.getfield 68, 3) := by decide +kernel
theorem dX9_pallet_80 : decode cX9_pallet 80 = .ok (.aload_n 0, 1) := by decide +kernel
theorem dX9_pallet_81 : decode cX9_pallet 81 = .ok (.getfield 121, 3) := by decide +kernel
theorem dX9_pallet_84 : decode cX9_pallet 84 = .ok (.iconst (-1), 1) := by decide +kernel
theorem dX9_pallet_85 : decode cX9_pallet 85 = .ok (.iastore, 1) := by decide +kernel
theorem dX9_pallet_86 : decode cX9_pallet 86 = .ok (.aload_n 0, 1) := by decide +kernel
theorem dX9_pallet_87 : decode cX9_pallet 87 = .ok (.dup, 1) := by decide +kernel
theorem dX9_pallet_88 : decode cX9_pallet 88 = .ok (.getfield 121, 3) := by decide +kernel
theorem dX9_pallet_91 : decode cX9_pallet 91 = .ok (.iconst 1, 1) := by decide +kernel
theorem dX9_pallet_92 : decode cX9_pallet 92 = .ok (.iadd, 1) := by decide +kernel
theorem dX9_pallet_93 : decode cX9_pallet 93 = .ok (.putfield 121, 3) := by decide +kernel
theorem dX9_pallet_96 : decode cX9_pallet 96 = .ok (.aload_n 0, 1) := by decide +kernel
theorem dX9_pallet_97 : decode cX9_pallet 97 = .ok (.getfield 121, 3) := by decide +kernel
theorem dX9_pallet_100 : decode cX9_pallet 100 = .ok (.iconst 1, 1) := by decide +kernel
theorem dX9_pallet_101 : decode cX9_pallet 101 = .ok (.isub, 1) := by decide +kernel
theorem dX9_pallet_102 : decode cX9_pallet 102 = .ok (.ireturn, 1) := by decide +kernel
theorem dX9_clamp_0 : decode cX9_clamp 0 = .ok (.aload_n 0, 1) := by decide +kernel
theorem dX9_clamp_1 : decode cX9_clamp 1 = .ok (.iload_n 1, 1) := by decide +kernel
theorem dX9_clamp_2 : decode cX9_clamp 2 = .ok (.invokevirtual 148, 3) := by decide +kernel
theorem dX9_clamp_5 : decode cX9_clamp 5 = .ok (.ifCond .eq 15, 3) := by decide +kernel
theorem dX9_clamp_8 : decode cX9_clamp 8 = .ok (.iload_n 2, 1) := by decide +kernel
theorem dX9_clamp_9 : decode cX9_clamp 9 = .ok (.iload_n 3, 1) := by decide +kernel
theorem dX9_clamp_10 : decode cX9_clamp 10 = .ok (.invokestatic 151, 3) := by decide +kernel
theorem dX9_clamp_13 : decode cX9_clamp 13 = .ok (.ifCond .eq 7, 3) := by decide +kernel
theorem dX9_clamp_16 : decode cX9_clamp 16 = .ok (.iconst 1, 1) := by decide +kernel
theorem dX9_clamp_17 : decode cX9_clamp 17 = .ok (.goto 4, 3) := by decide +kernel
theorem dX9_clamp_20 : decode cX9_clamp 20 = .ok (.iconst 0, 1) := by decide +kernel
theorem dX9_clamp_21 : decode cX9_clamp 21 = .ok (.istore 5, 2) := by decide +kernel
theorem dX9_clamp_23 : decode cX9_clamp 23 = .ok (.iload 5, 2) := by decide +kernel
theorem dX9_clamp_25 : decode cX9_clamp 25 = .ok (.ifCond .eq 18, 3) := by decide +kernel
theorem dX9_clamp_28 : decode cX9_clamp 28 = .ok (.sipush 144, 3) := by decide +kernel
theorem dX9_clamp_31 : decode cX9_clamp 31 = .ok (.iload_n 1, 1) := by decide +kernel
theorem dX9_clamp_32 : decode cX9_clamp 32 = .ok (.imul, 1) := by decide +kernel
theorem dX9_clamp_33 : decode cX9_clamp 33 = .ok (.bipush 12, 2) := by decide +kernel
theorem dX9_clamp_35 : decode cX9_clamp 35 = .ok (.iload_n 3, 1) := by decide +kernel
theorem dX9_clamp_36 : decode cX9_clamp 36 = .ok (.imul, 1) := by decide +kernel
theorem dX9_clamp_37 : decode cX9_clamp 37 = .ok (.iadd, 1) := by decide +kernel
theorem dX9_clamp_38 : decode cX9_clamp 38 = .ok (.iload_n 2, 1) := by decide +kernel
theorem dX9_clamp_39 : decode cX9_clamp 39 = .ok (.iadd, 1) := by decide +kernel
theorem dX9_clamp_40 : decode cX9_clamp 40 = .ok (.goto 4, 3) := by decide +kernel
theorem dX9_clamp_43 : decode cX9_clamp 43 = .ok (.iconst 0, 1) := by decide +kernel
theorem dX9_clamp_44 : decode cX9_clamp 44 = .ok (.istore 6, 2) := by decide +kernel
theorem dX9_clamp_46 : decode cX9_clamp 46 = .ok (.iload 5, 2) := by decide +kernel
theorem dX9_clamp_48 : decode cX9_clamp 48 = .ok (.ifCond .eq 36, 3) := by decide +kernel
theorem dX9_clamp_51 : decode cX9_clamp 51 = .ok (.aload_n 0, 1) := by decide +kernel
theorem dX9_clamp_52 : decode cX9_clamp 52 = .ok (.getfield 59, 3) := by decide +kernel
theorem dX9_clamp_55 : decode cX9_clamp 55 = .ok (.iload_n 1, 1) := by decide +kernel
theorem dX9_clamp_56 : decode cX9_clamp 56 = .ok (.iaload, 1) := by decide +kernel
theorem dX9_clamp_57 : decode cX9_clamp 57 = .ok (.ifCond .ne 27, 3) := by decide +kernel
theorem dX9_clamp_60 : decode cX9_clamp 60 = .ok (.aload_n 0, 1) := by decide +kernel
theorem dX9_clamp_61 : decode cX9_clamp 61 = .ok (.getfield 47, 3) := by decide +kernel
theorem dX9_clamp_64 : decode cX9_clamp 64 = .ok (.iload 6, 2) := by decide +kernel
theorem dX9_clamp_66 : decode cX9_clamp 66 = .ok (.iaload, 1) := by decide +kernel
theorem dX9_clamp_67 : decode cX9_clamp 67 = .ok (.ifCond .ne 17, 3) := by decide +kernel
theorem dX9_clamp_70 : decode cX9_clamp 70 = .ok (.aload_n 0, 1) := by decide +kernel
theorem dX9_clamp_71 : decode cX9_clamp 71 = .ok (.getfield 56, 3) := by decide +kernel
theorem dX9_clamp_74 : decode cX9_clamp 74 = .ok (.iload_n 1, 1) := by decide +kernel
theorem dX9_clamp_75 : decode cX9_clamp 75 = .ok (.iaload, 1) := by decide +kernel
theorem dX9_clamp_76 : decode cX9_clamp 76 = .ok (.iconst 3, 1) := by decide +kernel
theorem dX9_clamp_77 : decode cX9_clamp 77 = .ok (.if_icmp .ge 7, 3) := by decide +kernel
theorem dX9_clamp_80 : decode cX9_clamp 80 = .ok (.iconst 1, 1) := by decide +kernel
theorem dX9_clamp_81 : decode cX9_clamp 81 = .ok (.goto 4, 3) := by decide +kernel
theorem dX9_clamp_84 : decode cX9_clamp 84 = .ok (.iconst 0, 1) := by decide +kernel
theorem dX9_clamp_85 : decode cX9_clamp 85 = .ok (.istore 7, 2) := by decide +kernel
theorem dX9_clamp_87 : decode cX9_clamp 87 = .ok (.aload_n 0, 1) := by decide +kernel
theorem dX9_clamp_88 : decode cX9_clamp 88 = .ok (.iload 5, 2) := by decide +kernel
theorem dX9_clamp_90 : decode cX9_clamp 90 = .ok (.iload 4, 2) := by decide +kernel
theorem dX9_clamp_92 : decode cX9_clamp 92 = .ok (.iconst 1, 1) := by decide +kernel
theorem dX9_clamp_93 : decode cX9_clamp 93 = .ok (.bipush 9, 2) := by decide +kernel
theorem dX9_clamp_95 : decode cX9_clamp 95 = .ok (.invokestatic 114, 3) := by decide +kernel
theorem dX9_clamp_98 : decode cX9_clamp 98 = .ok (.iload 7, 2) := by decide +kernel
theorem dX9_clamp_100 : decode cX9_clamp 100 = .ok (.invokevirtual 127, 3) := by decide +kernel
theorem dX9_clamp_103 : decode cX9_clamp 103 = .ok (.ifCond .ne 5, 3) := by decide +kernel
theorem dX9_clamp_106 : decode cX9_clamp 106 = .ok (.iconst 0, 1) := by decide +kernel
theorem dX9_clamp_107 : decode cX9_clamp 107 = .ok (.ireturn, 1) := by decide +kernel
theorem dX9_clamp_108 : decode cX9_clamp 108 = .ok (.aload_n 0, 1) := by decide +kernel
theorem dX9_clamp_109 : decode cX9_clamp 109 = .ok (.getfield 47, 3) := by decide +kernel
theorem dX9_clamp_112 : decode cX9_clamp 112 = .ok (.iload 6, 2) := by decide +kernel
theorem dX9_clamp_114 : decode cX9_clamp 114 = .ok (.iload 4, 2) := by decide +kernel
theorem dX9_clamp_116 : decode cX9_clamp 116 = .ok (.iastore, 1) := by decide +kernel
theorem dX9_clamp_117 : decode cX9_clamp 117 = .ok (.aload_n 0, 1) := by decide +kernel
theorem dX9_clamp_118 : decode cX9_clamp 118 = .ok (.getfield 56, 3) := by decide +kernel
theorem dX9_clamp_121 : decode cX9_clamp 121 = .ok (.iload_n 1, 1) := by decide +kernel
theorem dX9_clamp_122 : decode cX9_clamp 122 = .ok (.dup2, 1) := by decide +kernel
theorem dX9_clamp_123 : decode cX9_clamp 123 = .ok (.iaload, 1) := by decide +kernel
theorem dX9_clamp_124 : decode cX9_clamp 124 = .ok (.iconst 1, 1) := by decide +kernel
theorem dX9_clamp_125 : decode cX9_clamp 125 = .ok (.iadd, 1) := by decide +kernel
theorem dX9_clamp_126 : decode cX9_clamp 126 = .ok (.iastore, 1) := by decide +kernel
theorem dX9_clamp_127 : decode cX9_clamp 127 = .ok (.aload_n 0, 1) := by decide +kernel
theorem dX9_clamp_128 : decode cX9_clamp 128 = .ok (.getfield 56, 3) := by decide +kernel
theorem dX9_clamp_131 : decode cX9_clamp 131 = .ok (.iload_n 1, 1) := by decide +kernel
theorem dX9_clamp_132 : decode cX9_clamp 132 = .ok (.iaload, 1) := by decide +kernel
theorem dX9_clamp_133 : decode cX9_clamp 133 = .ok (.ireturn, 1) := by decide +kernel
theorem dX9_toolFor_0 : decode cX9_toolFor 0 = .ok (.iconst 0, 1) := by decide +kernel
theorem dX9_toolFor_1 : decode cX9_toolFor 1 = .ok (.istore_n 3, 1) := by decide +kernel
theorem dX9_toolFor_2 : decode cX9_toolFor 2 = .ok (.iload_n 3, 1) := by decide +kernel
theorem dX9_toolFor_3 : decode cX9_toolFor 3 = .ok (.aload_n 0, 1) := by decide +kernel
theorem dX9_toolFor_4 : decode cX9_toolFor 4 = .ok (.getfield 118, 3) := by decide +kernel
theorem dX9_toolFor_7 : decode cX9_toolFor 7 = .ok (.if_icmp .ge 42, 3) := by decide +kernel
theorem dX9_toolFor_10 : decode cX9_toolFor 10 = .ok (.aload_n 0, 1) := by decide +kernel
theorem dX9_toolFor_11 : decode cX9_toolFor 11 = .ok (.getfield 34, 3) := by decide +kernel
theorem dX9_toolFor_14 : decode cX9_toolFor 14 = .ok (.iload_n 3, 1) := by decide +kernel
theorem dX9_toolFor_15 : decode cX9_toolFor 15 = .ok (.baload, 1) := by decide +kernel
theorem dX9_toolFor_16 : decode cX9_toolFor 16 = .ok (.ifCond .eq 27, 3) := by decide +kernel
theorem dX9_toolFor_19 : decode cX9_toolFor 19 = .ok (.aload_n 0, 1) := by decide +kernel
theorem dX9_toolFor_20 : decode cX9_toolFor 20 = .ok (.getfield 19, 3) := by decide +kernel
theorem dX9_toolFor_23 : decode cX9_toolFor 23 = .ok (.iload_n 3, 1) := by decide +kernel
theorem dX9_toolFor_24 : decode cX9_toolFor 24 = .ok (.iaload, 1) := by decide +kernel
theorem dX9_toolFor_25 : decode cX9_toolFor 25 = .ok (.iload_n 1, 1) := by decide +kernel
theorem dX9_toolFor_26 : decode cX9_toolFor 26 = .ok (.if_icmp .ne 17, 3) := by decide +kernel
theorem dX9_toolFor_29 : decode cX9_toolFor 29 = .ok (.aload_n 2, 1) := by decide +kernel
theorem dX9_toolFor_30 : decode cX9_toolFor 30 = .ok (.iload_n 3, 1) := by decide +kernel
theorem dX9_toolFor_31 : decode cX9_toolFor 31 = .ok (.iaload, 1) := by decide +kernel
theorem dX9_toolFor_32 : decode cX9_toolFor 32 = .ok (.aload_n 0, 1) := by decide +kernel
theorem dX9_toolFor_33 : decode cX9_toolFor 33 = .ok (.getfield 22, 3) := by decide +kernel
theorem dX9_toolFor_36 : decode cX9_toolFor 36 = .ok (.iload_n 3, 1) := by decide +kernel
theorem dX9_toolFor_37 : decode cX9_toolFor 37 = .ok (.iaload, 1) := by decide +kernel
theorem dX9_toolFor_38 : decode cX9_toolFor 38 = .ok (.if_icmp .ge 5, 3) := by decide +kernel
theorem dX9_toolFor_41 : decode cX9_toolFor 41 = .ok (.iload_n 3, 1) := by decide +kernel
theorem dX9_toolFor_42 : decode cX9_toolFor 42 = .ok (.ireturn, 1) := by decide +kernel
theorem dX9_toolFor_43 : decode cX9_toolFor 43 = .ok (.iinc 3 1, 3) := by decide +kernel
theorem dX9_toolFor_46 : decode cX9_toolFor 46 = .ok (.goto (-44), 3) := by decide +kernel
theorem dX9_toolFor_49 : decode cX9_toolFor 49 = .ok (.iconst (-1), 1) := by decide +kernel
theorem dX9_toolFor_50 : decode cX9_toolFor 50 = .ok (.ireturn, 1) := by decide +kernel
theorem dX9_cutsIn_0 : decode cX9_cutsIn 0 = .ok (.sipush 144, 3) := by decide +kernel
theorem dX9_cutsIn_3 : decode cX9_cutsIn 3 = .ok (.iload_n 1, 1) := by decide +kernel
theorem dX9_cutsIn_4 : decode cX9_cutsIn 4 = .ok (.imul, 1) := by decide +kernel
theorem dX9_cutsIn_5 : decode cX9_cutsIn 5 = .ok (.iload_n 2, 1) := by decide +kernel
theorem dX9_cutsIn_6 : decode cX9_cutsIn 6 = .ok (.iadd, 1) := by decide +kernel
theorem dX9_cutsIn_7 : decode cX9_cutsIn 7 = .ok (.istore 4, 2) := by decide +kernel
theorem dX9_cutsIn_9 : decode cX9_cutsIn 9 = .ok (.iload_n 2, 1) := by decide +kernel
theorem dX9_cutsIn_10 : decode cX9_cutsIn 10 = .ok (.bipush 12, 2) := by decide +kernel
theorem dX9_cutsIn_12 : decode cX9_cutsIn 12 = .ok (.irem, 1) := by decide +kernel
theorem dX9_cutsIn_13 : decode cX9_cutsIn 13 = .ok (.istore 5, 2) := by decide +kernel
theorem dX9_cutsIn_15 : decode cX9_cutsIn 15 = .ok (.aload_n 0, 1) := by decide +kernel
theorem dX9_cutsIn_16 : decode cX9_cutsIn 16 = .ok (.getfield 50, 3) := by decide +kernel
theorem dX9_cutsIn_19 : decode cX9_cutsIn 19 = .ok (.iload 4, 2) := by decide +kernel
theorem dX9_cutsIn_21 : decode cX9_cutsIn 21 = .ok (.iload_n 3, 1) := by decide +kernel
theorem dX9_cutsIn_22 : decode cX9_cutsIn 22 = .ok (.iastore, 1) := by decide +kernel
theorem dX9_cutsIn_23 : decode cX9_cutsIn 23 = .ok (.aload_n 0, 1) := by decide +kernel
theorem dX9_cutsIn_24 : decode cX9_cutsIn 24 = .ok (.getfield 53, 3) := by decide +kernel
theorem dX9_cutsIn_27 : decode cX9_cutsIn 27 = .ok (.iconst 4, 1) := by decide +kernel
theorem dX9_cutsIn_28 : decode cX9_cutsIn 28 = .ok (.iload 4, 2) := by decide +kernel
theorem dX9_cutsIn_30 : decode cX9_cutsIn 30 = .ok (.imul, 1) := by decide +kernel
theorem dX9_cutsIn_31 : decode cX9_cutsIn 31 = .ok (.aload_n 0, 1) := by decide +kernel
theorem dX9_cutsIn_32 : decode cX9_cutsIn 32 = .ok (.getfield 16, 3) := by decide +kernel
theorem dX9_cutsIn_35 : decode cX9_cutsIn 35 = .ok (.iload 5, 2) := by decide +kernel
theorem dX9_cutsIn_37 : decode cX9_cutsIn 37 = .ok (.iaload, 1) := by decide +kernel
theorem dX9_cutsIn_38 : decode cX9_cutsIn 38 = .ok (.iastore, 1) := by decide +kernel
theorem dX9_cutsIn_39 : decode cX9_cutsIn 39 = .ok (.aload_n 0, 1) := by decide +kernel
theorem dX9_cutsIn_40 : decode cX9_cutsIn 40 = .ok (.getfield 53, 3) := by decide +kernel
theorem dX9_cutsIn_43 : decode cX9_cutsIn 43 = .ok (.iconst 4, 1) := by decide +kernel
theorem dX9_cutsIn_44 : decode cX9_cutsIn 44 = .ok (.iload 4, 2) := by decide +kernel
theorem dX9_cutsIn_46 : decode cX9_cutsIn 46 = .ok (.imul, 1) := by decide +kernel
theorem dX9_cutsIn_47 : decode cX9_cutsIn 47 = .ok (.iconst 1, 1) := by decide +kernel
theorem dX9_cutsIn_48 : decode cX9_cutsIn 48 = .ok (.iadd, 1) := by decide +kernel
theorem dX9_cutsIn_49 : decode cX9_cutsIn 49 = .ok (.aload_n 0, 1) := by decide +kernel
theorem dX9_cutsIn_50 : decode cX9_cutsIn 50 = .ok (.getfield 155, 3) := by decide +kernel
theorem dX9_cutsIn_53 : decode cX9_cutsIn 53 = .ok (.iload 5, 2) := by decide +kernel
theorem dX9_cutsIn_55 : decode cX9_cutsIn 55 = .ok (.imul, 1) := by decide +kernel
theorem dX9_cutsIn_56 : decode cX9_cutsIn 56 = .ok (.bipush 10, 2) := by decide +kernel
theorem dX9_cutsIn_58 : decode cX9_cutsIn 58 = .ok (.idiv, 1) := by decide +kernel
theorem dX9_cutsIn_59 : decode cX9_cutsIn 59 = .ok (.iastore, 1) := by decide +kernel
theorem dX9_cutsIn_60 : decode cX9_cutsIn 60 = .ok (.aload_n 0, 1) := by decide +kernel
theorem dX9_cutsIn_61 : decode cX9_cutsIn 61 = .ok (.getfield 53, 3) := by decide +kernel
theorem dX9_cutsIn_64 : decode cX9_cutsIn 64 = .ok (.iconst 4, 1) := by decide +kernel
theorem dX9_cutsIn_65 : decode cX9_cutsIn 65 = .ok (.iload 4, 2) := by decide +kernel
theorem dX9_cutsIn_67 : decode cX9_cutsIn 67 = .ok (.imul, 1) := by decide +kernel
theorem dX9_cutsIn_68 : decode cX9_cutsIn 68 = .ok (.iconst 2, 1) := by decide +kernel
theorem dX9_cutsIn_69 : decode cX9_cutsIn 69 = .ok (.iadd, 1) := by decide +kernel
theorem dX9_cutsIn_70 : decode cX9_cutsIn 70 = .ok (.aload_n 0, 1) := by decide +kernel
theorem dX9_cutsIn_71 : decode cX9_cutsIn 71 = .ok (.getfield 25, 3) := by decide +kernel
theorem dX9_cutsIn_74 : decode cX9_cutsIn 74 = .ok (.iload_n 3, 1) := by decide +kernel
theorem dX9_cutsIn_75 : decode cX9_cutsIn 75 = .ok (.iaload, 1) := by decide +kernel
theorem dX9_cutsIn_76 : decode cX9_cutsIn 76 = .ok (.iconst 4, 1) := by decide +kernel
theorem dX9_cutsIn_77 : decode cX9_cutsIn 77 = .ok (.idiv, 1) := by decide +kernel
theorem dX9_cutsIn_78 : decode cX9_cutsIn 78 = .ok (.iastore, 1) := by decide +kernel
theorem dX9_cutsIn_79 : decode cX9_cutsIn 79 = .ok (.aload_n 0, 1) := by decide +kernel
theorem dX9_cutsIn_80 : decode cX9_cutsIn 80 = .ok (.getfield 53, 3) := by decide +kernel
theorem dX9_cutsIn_83 : decode cX9_cutsIn 83 = .ok (.iconst 4, 1) := by decide +kernel
theorem dX9_cutsIn_84 : decode cX9_cutsIn 84 = .ok (.iload 4, 2) := by decide +kernel
theorem dX9_cutsIn_86 : decode cX9_cutsIn 86 = .ok (.imul, 1) := by decide +kernel
theorem dX9_cutsIn_87 : decode cX9_cutsIn 87 = .ok (.iconst 3, 1) := by decide +kernel
theorem dX9_cutsIn_88 : decode cX9_cutsIn 88 = .ok (.iadd, 1) := by decide +kernel
theorem dX9_cutsIn_89 : decode cX9_cutsIn 89 = .ok (.aload_n 0, 1) := by decide +kernel
theorem dX9_cutsIn_90 : decode cX9_cutsIn 90 = .ok (.getfield 31, 3) := by decide +kernel
theorem dX9_cutsIn_93 : decode cX9_cutsIn 93 = .ok (.iload_n 3, 1) := by decide +kernel
theorem dX9_cutsIn_94 : decode cX9_cutsIn 94 = .ok (.iaload, 1) := by decide +kernel
theorem dX9_cutsIn_95 : decode cX9_cutsIn 95 = .ok (.ineg, 1) := by decide +kernel
theorem dX9_cutsIn_96 : decode cX9_cutsIn 96 = .ok (.iastore, 1) := by decide +kernel
theorem dX9_cutsIn_97 : decode cX9_cutsIn 97 = .ok (.aload_n 0, 1) := by decide +kernel
theorem dX9_cutsIn_98 : decode cX9_cutsIn 98 = .ok (.dup, 1) := by decide +kernel
theorem dX9_cutsIn_99 : decode cX9_cutsIn 99 = .ok (.getfield 155, 3) := by decide +kernel
theorem dX9_cutsIn_102 : decode cX9_cutsIn 102 = .ok (.aload_n 0, 1) := by decide +kernel
theorem dX9_cutsIn_103 : decode cX9_cutsIn 103 = .ok (.getfield 155, 3) := by decide +kernel
theorem dX9_cutsIn_106 : decode cX9_cutsIn 106 = .ok (.bipush 99, 2) := by decide +kernel
theorem dX9_cutsIn_108 : decode cX9_cutsIn 108 = .ok (.if_icmp .ge 7, 3) := by decide +kernel
theorem dX9_cutsIn_111 : decode cX9_cutsIn 111 = .ok (.iconst 1, 1) := by decide +kernel
theorem dX9_cutsIn_112 : decode cX9_cutsIn 112 = .ok (.goto 4, 3) := by decide +kernel
theorem dX9_cutsIn_115 : decode cX9_cutsIn 115 = .ok (.iconst 0, 1) := by decide +kernel
theorem dX9_cutsIn_116 : decode cX9_cutsIn 116 = .ok (.iadd, 1) := by decide +kernel
theorem dX9_cutsIn_117 : decode cX9_cutsIn 117 = .ok (.putfield 155, 3) := by decide +kernel
theorem dX9_cutsIn_120 : decode cX9_cutsIn 120 = .ok (.aload_n 0, 1) := by decide +kernel
theorem dX9_cutsIn_121 : decode cX9_cutsIn 121 = .ok (.dup, 1) := by decide +kernel
theorem dX9_cutsIn_122 : decode cX9_cutsIn 122 = .ok (.getfield 158, 3) := by decide +kernel
theorem dX9_cutsIn_125 : decode cX9_cutsIn 125 = .ok (.iconst 1, 1) := by decide +kernel
theorem dX9_cutsIn_126 : decode cX9_cutsIn 126 = .ok (.iadd, 1) := by decide +kernel
theorem dX9_cutsIn_127 : decode cX9_cutsIn 127 = .ok (.putfield 158, 3) := by decide +kernel
theorem dX9_cutsIn_130 : decode cX9_cutsIn 130 = .ok (.return_, 1) := by decide +kernel
theorem dX9_step_0 : decode cX9_step 0 = .ok (.aload_n 0, 1) := by decide +kernel
theorem dX9_step_1 : decode cX9_step 1 = .ok (.getfield 161, 3) := by decide +kernel
theorem dX9_step_4 : decode cX9_step 4 = .ok (.iload_n 2, 1) := by decide +kernel
theorem dX9_step_5 : decode cX9_step 5 = .ok (.if_icmp .ge 15, 3) := by decide +kernel
theorem dX9_step_8 : decode cX9_step 8 = .ok (.aload_n 0, 1) := by decide +kernel
theorem dX9_step_9 : decode cX9_step 9 = .ok (.dup, 1) := by decide +kernel
theorem dX9_step_10 : decode cX9_step 10 = .ok (.getfield 161, 3) := by decide +kernel
theorem dX9_step_13 : decode cX9_step 13 = .ok (.iconst 1, 1) := by decide +kernel
theorem dX9_step_14 : decode cX9_step 14 = .ok (.iadd, 1) := by decide +kernel
theorem dX9_step_15 : decode cX9_step 15 = .ok (.putfield 161, 3) := by decide +kernel
theorem dX9_step_18 : decode cX9_step 18 = .ok (.iconst 0, 1) := by decide +kernel
theorem dX9_step_19 : decode cX9_step 19 = .ok (.ireturn, 1) := by decide +kernel
theorem dX9_step_20 : decode cX9_step 20 = .ok (.bipush 12, 2) := by decide +kernel
theorem dX9_step_22 : decode cX9_step 22 = .ok (.aload_n 0, 1) := by decide +kernel
theorem dX9_step_23 : decode cX9_step 23 = .ok (.getfield 98, 3) := by decide +kernel
theorem dX9_step_26 : decode cX9_step 26 = .ok (.iconst 1, 1) := by decide +kernel
theorem dX9_step_27 : decode cX9_step 27 = .ok (.iaload, 1) := by decide +kernel
theorem dX9_step_28 : decode cX9_step 28 = .ok (.imul, 1) := by decide +kernel
theorem dX9_step_29 : decode cX9_step 29 = .ok (.aload_n 0, 1) := by decide +kernel
theorem dX9_step_30 : decode cX9_step 30 = .ok (.getfield 98, 3) := by decide +kernel
theorem dX9_step_33 : decode cX9_step 33 = .ok (.iconst 0, 1) := by decide +kernel
theorem dX9_step_34 : decode cX9_step 34 = .ok (.iaload, 1) := by decide +kernel
theorem dX9_step_35 : decode cX9_step 35 = .ok (.iadd, 1) := by decide +kernel
theorem dX9_step_36 : decode cX9_step 36 = .ok (.istore 4, 2) := by decide +kernel
theorem dX9_step_38 : decode cX9_step 38 = .ok (.aload_n 0, 1) := by decide +kernel
theorem dX9_step_39 : decode cX9_step 39 = .ok (.getfield 98, 3) := by decide +kernel
theorem dX9_step_42 : decode cX9_step 42 = .ok (.iconst 2, 1) := by decide +kernel
theorem dX9_step_43 : decode cX9_step 43 = .ok (.iaload, 1) := by decide +kernel
theorem dX9_step_44 : decode cX9_step 44 = .ok (.aload_n 0, 1) := by decide +kernel
theorem dX9_step_45 : decode cX9_step 45 = .ok (.getfield 92, 3) := by decide +kernel
theorem dX9_step_48 : decode cX9_step 48 = .ok (.iload 4, 2) := by decide +kernel
theorem dX9_step_50 : decode cX9_step 50 = .ok (.iaload, 1) := by decide +kernel
theorem dX9_step_51 : decode cX9_step 51 = .ok (.if_icmp .ge 7, 3) := by decide +kernel
theorem dX9_step_54 : decode cX9_step 54 = .ok (.iconst 1, 1) := by decide +kernel
theorem dX9_step_55 : decode cX9_step 55 = .ok (.goto 4, 3) := by decide +kernel
theorem dX9_step_58 : decode cX9_step 58 = .ok (.iconst 0, 1) := by decide +kernel
theorem dX9_step_59 : decode cX9_step 59 = .ok (.istore 5, 2) := by decide +kernel
theorem dX9_step_61 : decode cX9_step 61 = .ok (.aload_n 0, 1) := by decide +kernel
theorem dX9_step_62 : decode cX9_step 62 = .ok (.getfield 98, 3) := by decide +kernel
theorem dX9_step_65 : decode cX9_step 65 = .ok (.iconst 2, 1) := by decide +kernel
theorem dX9_step_66 : decode cX9_step 66 = .ok (.iaload, 1) := by decide +kernel
theorem dX9_step_67 : decode cX9_step 67 = .ok (.aload_n 0, 1) := by decide +kernel
theorem dX9_step_68 : decode cX9_step 68 = .ok (.getfield 47, 3) := by decide +kernel
theorem dX9_step_71 : decode cX9_step 71 = .ok (.sipush 144, 3) := by decide +kernel
theorem dX9_step_74 : decode cX9_step 74 = .ok (.iload_n 1, 1) := by decide +kernel
theorem dX9_step_75 : decode cX9_step 75 = .ok (.imul, 1) := by decide +kernel
theorem dX9_step_76 : decode cX9_step 76 = .ok (.iload 4, 2) := by decide +kernel
theorem dX9_step_78 : decode cX9_step 78 = .ok (.iadd, 1) := by decide +kernel
theorem dX9_step_79 : decode cX9_step 79 = .ok (.iaload, 1) := by decide +kernel
theorem dX9_step_80 : decode cX9_step 80 = .ok (.if_icmp .lt 23, 3) := by decide +kernel
theorem dX9_step_83 : decode cX9_step 83 = .ok (.iload 5, 2) := by decide +kernel
theorem dX9_step_85 : decode cX9_step 85 = .ok (.ifCond .eq 20, 3) := by decide +kernel
theorem dX9_step_88 : decode cX9_step 88 = .ok (.aload_n 0, 1) := by decide +kernel
theorem dX9_step_89 : decode cX9_step 89 = .ok (.getfield 164, 3) := by decide +kernel
theorem dX9_step_92 : decode cX9_step 92 = .ok (.ifCond .eq 11, 3) := by decide +kernel
theorem dX9_step_95 : decode cX9_step 95 = .ok (.aload_n 0, 1) := by decide +kernel
theorem dX9_step_96 : decode cX9_step 96 = .ok (.getfield 167, 3) := by decide +kernel
theorem dX9_step_99 : decode cX9_step 99 = .ok (.iconst (-1), 1) := by decide +kernel
theorem dX9_step_100 : decode cX9_step 100 = .ok (.if_icmp .ne 5, 3) := by decide +kernel
theorem dX9_step_103 : decode cX9_step 103 = .ok (.iconst 3, 1) := by decide +kernel
theorem dX9_step_104 : decode cX9_step 104 = .ok (.ireturn, 1) := by decide +kernel
theorem dX9_step_105 : decode cX9_step 105 = .ok (.iload 5, 2) := by decide +kernel
theorem dX9_step_107 : decode cX9_step 107 = .ok (.ifCond .eq 106, 3) := by decide +kernel
theorem dX9_step_110 : decode cX9_step 110 = .ok (.iload_n 3, 1) := by decide +kernel
theorem dX9_step_111 : decode cX9_step 111 = .ok (.iconst 2, 1) := by decide +kernel
theorem dX9_step_112 : decode cX9_step 112 = .ok (.if_icmp .ne 10, 3) := by decide +kernel
theorem dX9_step_115 : decode cX9_step 115 = .ok (.aload_n 0, 1) := by decide +kernel
theorem dX9_step_116 : decode cX9_step 116 = .ok (.getfield 25, 3) := by decide +kernel
theorem dX9_step_119 : decode cX9_step 119 = .ok (.goto 7, 3) := by decide +kernel
theorem dX9_step_122 : decode cX9_step 122 = .ok (.aload_n 0, 1) := by decide +kernel
theorem dX9_step_123 : decode cX9_step 123 = .ok (.getfield 28, 3) := by decide +kernel
theorem dX9_step_126 : decode cX9_step 126 = .ok (.astore 6, 2) := by decide +kernel
theorem dX9_step_128 : decode cX9_step 128 = .ok (.iload_n 3, 1) := by decide +kernel
theorem dX9_step_129 : decode cX9_step 129 = .ok (.ifCond .ne 7, 3) := by decide +kernel
theorem dX9_step_132 : decode cX9_step 132 = .ok (.iconst (-1), 1) := by decide +kernel
theorem dX9_step_133 : decode cX9_step 133 = .ok (.goto 13, 3) := by decide +kernel
theorem dX9_step_136 : decode cX9_step 136 = .ok (.aload_n 0, 1) := by decide +kernel
theorem dX9_step_137 : decode cX9_step 137 = .ok (.aload_n 0, 1) := by decide +kernel
theorem dX9_step_138 : decode cX9_step 138 = .ok (.getfield 167, 3) := by decide +kernel
theorem dX9_step_141 : decode cX9_step 141 = .ok (.aload 6, 2) := by decide +kernel
theorem dX9_step_143 : decode cX9_step 143 = .ok (.invokevirtual 170, 3) := by decide +kernel
theorem dX9_step_146 : decode cX9_step 146 = .ok (.istore 7, 2) := by decide +kernel
theorem dX9_step_148 : decode cX9_step 148 = .ok (.iload_n 3, 1) := by decide +kernel
theorem dX9_step_149 : decode cX9_step 149 = .ok (.ifCond .le 11, 3) := by decide +kernel
theorem dX9_step_152 : decode cX9_step 152 = .ok (.iload 7, 2) := by decide +kernel
theorem dX9_step_154 : decode cX9_step 154 = .ok (.iconst (-1), 1) := by decide +kernel
theorem dX9_step_155 : decode cX9_step 155 = .ok (.if_icmp .ne 5, 3) := by decide +kernel
theorem dX9_step_158 : decode cX9_step 158 = .ok (.iconst (-1), 1) := by decide +kernel
theorem dX9_step_159 : decode cX9_step 159 = .ok (.ireturn, 1) := by decide +kernel
theorem dX9_step_160 : decode cX9_step 160 = .ok (.iload_n 3, 1) := by decide +kernel
theorem dX9_step_161 : decode cX9_step 161 = .ok (.iconst 2, 1) := by decide +kernel
theorem dX9_step_162 : decode cX9_step 162 = .ok (.if_icmp .ne 12, 3) := by decide +kernel
theorem dX9_step_165 : decode cX9_step 165 = .ok (.aload_n 0, 1) := by decide +kernel
theorem dX9_step_166 : decode cX9_step 166 = .ok (.iload_n 1, 1) := by decide +kernel
theorem dX9_step_167 : decode cX9_step 167 = .ok (.iload 4, 2) := by decide +kernel
theorem dX9_step_169 : decode cX9_step 169 = .ok (.iload 7, 2) := by decide +kernel
theorem dX9_step_171 : decode cX9_step 171 = .ok (.invokevirtual 174, 3) := by decide +kernel
theorem dX9_step_174 : decode cX9_step 174 = .ok (.iload_n 3, 1) := by decide +kernel
theorem dX9_step_175 : decode cX9_step 175 = .ok (.ifCond .le 12, 3) := by decide +kernel
theorem dX9_step_178 : decode cX9_step 178 = .ok (.aload 6, 2) := by decide +kernel
theorem dX9_step_180 : decode cX9_step 180 = .ok (.iload 7, 2) := by decide +kernel
theorem dX9_step_182 : decode cX9_step 182 = .ok (.dup2, 1) := by decide +kernel
theorem dX9_step_183 : decode cX9_step 183 = .ok (.iaload, 1) := by decide +kernel
theorem dX9_step_184 : decode cX9_step 184 = .ok (.iconst 1, 1) := by decide +kernel
theorem dX9_step_185 : decode cX9_step 185 = .ok (.iadd, 1) := by decide +kernel
theorem dX9_step_186 : decode cX9_step 186 = .ok (.iastore, 1) := by decide +kernel
theorem dX9_step_187 : decode cX9_step 187 = .ok (.aload_n 0, 1) := by decide +kernel
theorem dX9_step_188 : decode cX9_step 188 = .ok (.getfield 95, 3) := by decide +kernel
theorem dX9_step_191 : decode cX9_step 191 = .ok (.aload_n 0, 1) := by decide +kernel
theorem dX9_step_192 : decode cX9_step 192 = .ok (.getfield 167, 3) := by decide +kernel
theorem dX9_step_195 : decode cX9_step 195 = .ok (.dup2, 1) := by decide +kernel
theorem dX9_step_196 : decode cX9_step 196 = .ok (.iaload, 1) := by decide +kernel
theorem dX9_step_197 : decode cX9_step 197 = .ok (.iconst 1, 1) := by decide +kernel
theorem dX9_step_198 : decode cX9_step 198 = .ok (.iadd, 1) := by decide +kernel
theorem dX9_step_199 : decode cX9_step 199 = .ok (.iastore, 1) := by decide +kernel
theorem dX9_step_200 : decode cX9_step 200 = .ok (.aload_n 0, 1) := by decide +kernel
theorem dX9_step_201 : decode cX9_step 201 = .ok (.getfield 92, 3) := by decide +kernel
theorem dX9_step_204 : decode cX9_step 204 = .ok (.iload 4, 2) := by decide +kernel
theorem dX9_step_206 : decode cX9_step 206 = .ok (.aload_n 0, 1) := by decide +kernel
theorem dX9_step_207 : decode cX9_step 207 = .ok (.getfield 98, 3) := by decide +kernel
theorem dX9_step_210 : decode cX9_step 210 = .ok (.iconst 2, 1) := by decide +kernel
theorem dX9_step_211 : decode cX9_step 211 = .ok (.iaload, 1) := by decide +kernel
theorem dX9_step_212 : decode cX9_step 212 = .ok (.iastore, 1) := by decide +kernel
theorem dX9_step_213 : decode cX9_step 213 = .ok (.aload_n 0, 1) := by decide +kernel
theorem dX9_step_214 : decode cX9_step 214 = .ok (.dup, 1) := by decide +kernel
theorem dX9_step_215 : decode cX9_step 215 = .ok (.getfield 161, 3) := by decide +kernel
theorem dX9_step_218 : decode cX9_step 218 = .ok (.iconst 1, 1) := by decide +kernel
theorem dX9_step_219 : decode cX9_step 219 = .ok (.iadd, 1) := by decide +kernel
theorem dX9_step_220 : decode cX9_step 220 = .ok (.putfield 161, 3) := by decide +kernel
theorem dX9_step_223 : decode cX9_step 223 = .ok (.iconst 0, 1) := by decide +kernel
theorem dX9_step_224 : decode cX9_step 224 = .ok (.ireturn, 1) := by decide +kernel
theorem dX9_moves_0 : decode cX9_moves 0 = .ok (.aload_n 0, 1) := by decide +kernel
theorem dX9_moves_1 : decode cX9_moves 1 = .ok (.getfield 178, 3) := by decide +kernel
theorem dX9_moves_4 : decode cX9_moves 4 = .ok (.ifCond .ne 7, 3) := by decide +kernel
theorem dX9_moves_7 : decode cX9_moves 7 = .ok (.iload_n 3, 1) := by decide +kernel
theorem dX9_moves_8 : decode cX9_moves 8 = .ok (.goto 11, 3) := by decide +kernel
theorem dX9_moves_11 : decode cX9_moves 11 = .ok (.aload_n 0, 1) := by decide +kernel
theorem dX9_moves_12 : decode cX9_moves 12 = .ok (.getfield 98, 3) := by decide +kernel
theorem dX9_moves_15 : decode cX9_moves 15 = .ok (.iload_n 2, 1) := by decide +kernel
theorem dX9_moves_16 : decode cX9_moves 16 = .ok (.iaload, 1) := by decide +kernel
theorem dX9_moves_17 : decode cX9_moves 17 = .ok (.iload_n 3, 1) := by decide +kernel
theorem dX9_moves_18 : decode cX9_moves 18 = .ok (.iadd, 1) := by decide +kernel
theorem dX9_moves_19 : decode cX9_moves 19 = .ok (.istore 6, 2) := by decide +kernel
theorem dX9_moves_21 : decode cX9_moves 21 = .ok (.iload 6, 2) := by decide +kernel
theorem dX9_moves_23 : decode cX9_moves 23 = .ok (.iconst 0, 1) := by decide +kernel
theorem dX9_moves_24 : decode cX9_moves 24 = .ok (.iload_n 2, 1) := by decide +kernel
theorem dX9_moves_25 : decode cX9_moves 25 = .ok (.iconst 2, 1) := by decide +kernel
theorem dX9_moves_26 : decode cX9_moves 26 = .ok (.if_icmp .ne 8, 3) := by decide +kernel
theorem dX9_moves_29 : decode cX9_moves 29 = .ok (.bipush 9, 2) := by decide +kernel
theorem dX9_moves_31 : decode cX9_moves 31 = .ok (.goto 5, 3) := by decide +kernel
theorem dX9_moves_34 : decode cX9_moves 34 = .ok (.bipush 11, 2) := by decide +kernel
theorem dX9_moves_36 : decode cX9_moves 36 = .ok (.invokestatic 114, 3) := by decide +kernel
theorem dX9_moves_39 : decode cX9_moves 39 = .ok (.ifCond .ne 5, 3) := by decide +kernel
theorem dX9_moves_42 : decode cX9_moves 42 = .ok (.iconst 1, 1) := by decide +kernel
theorem dX9_moves_43 : decode cX9_moves 43 = .ok (.ireturn, 1) := by decide +kernel
theorem dX9_moves_44 : decode cX9_moves 44 = .ok (.iconst 0, 1) := by decide +kernel
theorem dX9_moves_45 : decode cX9_moves 45 = .ok (.istore 7, 2) := by decide +kernel
theorem dX9_moves_47 : decode cX9_moves 47 = .ok (.iload 7, 2) := by decide +kernel
theorem dX9_moves_49 : decode cX9_moves 49 = .ok (.ifCond .ne 53, 3) := by decide +kernel
theorem dX9_moves_52 : decode cX9_moves 52 = .ok (.aload_n 0, 1) := by decide +kernel
theorem dX9_moves_53 : decode cX9_moves 53 = .ok (.getfield 98, 3) := by decide +kernel
theorem dX9_moves_56 : decode cX9_moves 56 = .ok (.iload_n 2, 1) := by decide +kernel
theorem dX9_moves_57 : decode cX9_moves 57 = .ok (.iaload, 1) := by decide +kernel
theorem dX9_moves_58 : decode cX9_moves 58 = .ok (.iload 6, 2) := by decide +kernel
theorem dX9_moves_60 : decode cX9_moves 60 = .ok (.if_icmp .eq 42, 3) := by decide +kernel
theorem dX9_moves_63 : decode cX9_moves 63 = .ok (.aload_n 0, 1) := by decide +kernel
theorem dX9_moves_64 : decode cX9_moves 64 = .ok (.getfield 98, 3) := by decide +kernel
theorem dX9_moves_67 : decode cX9_moves 67 = .ok (.iload_n 2, 1) := by decide +kernel
theorem dX9_moves_68 : decode cX9_moves 68 = .ok (.dup2, 1) := by decide +kernel
theorem dX9_moves_69 : decode cX9_moves 69 = .ok (.iaload, 1) := by decide +kernel
theorem dX9_moves_70 : decode cX9_moves 70 = .ok (.aload_n 0, 1) := by decide +kernel
theorem dX9_moves_71 : decode cX9_moves 71 = .ok (.getfield 98, 3) := by decide +kernel
theorem dX9_moves_74 : decode cX9_moves 74 = .ok (.iload_n 2, 1) := by decide +kernel
theorem dX9_moves_75 : decode cX9_moves 75 = .ok (.iaload, 1) := by decide +kernel
theorem dX9_moves_76 : decode cX9_moves 76 = .ok (.iload 6, 2) := by decide +kernel
theorem dX9_moves_78 : decode cX9_moves 78 = .ok (.if_icmp .ge 7, 3) := by decide +kernel
theorem dX9_moves_81 : decode cX9_moves 81 = .ok (.iconst 1, 1) := by decide +kernel
theorem dX9_moves_82 : decode cX9_moves 82 = .ok (.goto 4, 3) := by decide +kernel
theorem dX9_moves_85 : decode cX9_moves 85 = .ok (.iconst (-1), 1) := by decide +kernel
theorem dX9_moves_86 : decode cX9_moves 86 = .ok (.iadd, 1) := by decide +kernel
theorem dX9_moves_87 : decode cX9_moves 87 = .ok (.iastore, 1) := by decide +kernel
theorem dX9_moves_88 : decode cX9_moves 88 = .ok (.aload_n 0, 1) := by decide +kernel
theorem dX9_moves_89 : decode cX9_moves 89 = .ok (.iload_n 1, 1) := by decide +kernel
theorem dX9_moves_90 : decode cX9_moves 90 = .ok (.iload 4, 2) := by decide +kernel
theorem dX9_moves_92 : decode cX9_moves 92 = .ok (.iload 5, 2) := by decide +kernel
theorem dX9_moves_94 : decode cX9_moves 94 = .ok (.invokevirtual 181, 3) := by decide +kernel
theorem dX9_moves_97 : decode cX9_moves 97 = .ok (.istore 7, 2) := by decide +kernel
theorem dX9_moves_99 : decode cX9_moves 99 = .ok (.goto (-52), 3) := by decide +kernel
theorem dX9_moves_102 : decode cX9_moves 102 = .ok (.iload 7, 2) := by decide +kernel
theorem dX9_moves_104 : decode cX9_moves 104 = .ok (.ireturn, 1) := by decide +kernel
theorem dX9_runs_0 : decode cX9_runs 0 = .ok (.iconst 0, 1) := by decide +kernel
theorem dX9_runs_1 : decode cX9_runs 1 = .ok (.istore 5, 2) := by decide +kernel
theorem dX9_runs_3 : decode cX9_runs 3 = .ok (.iload 5, 2) := by decide +kernel
theorem dX9_runs_5 : decode cX9_runs 5 = .ok (.sipush 144, 3) := by decide +kernel
theorem dX9_runs_8 : decode cX9_runs 8 = .ok (.if_icmp .ge 29, 3) := by decide +kernel
theorem dX9_runs_11 : decode cX9_runs 11 = .ok (.aload_n 0, 1) := by decide +kernel
theorem dX9_runs_12 : decode cX9_runs 12 = .ok (.getfield 92, 3) := by decide +kernel
theorem dX9_runs_15 : decode cX9_runs 15 = .ok (.iload 5, 2) := by decide +kernel
theorem dX9_runs_17 : decode cX9_runs 17 = .ok (.aload_n 0, 1) := by decide +kernel
theorem dX9_runs_18 : decode cX9_runs 18 = .ok (.getfield 44, 3) := by decide +kernel
theorem dX9_runs_21 : decode cX9_runs 21 = .ok (.sipush 144, 3) := by decide +kernel
theorem dX9_runs_24 : decode cX9_runs 24 = .ok (.iload_n 1, 1) := by decide +kernel
theorem dX9_runs_25 : decode cX9_runs 25 = .ok (.imul, 1) := by decide +kernel
theorem dX9_runs_26 : decode cX9_runs 26 = .ok (.iload 5, 2) := by decide +kernel
theorem dX9_runs_28 : decode cX9_runs 28 = .ok (.iadd, 1) := by decide +kernel
theorem dX9_runs_29 : decode cX9_runs 29 = .ok (.iaload, 1) := by decide +kernel
theorem dX9_runs_30 : decode cX9_runs 30 = .ok (.iastore, 1) := by decide +kernel
theorem dX9_runs_31 : decode cX9_runs 31 = .ok (.iinc 5 1, 3) := by decide +kernel
theorem dX9_runs_34 : decode cX9_runs 34 = .ok (.goto (-31), 3) := by decide +kernel
theorem dX9_runs_37 : decode cX9_runs 37 = .ok (.iconst 0, 1) := by decide +kernel
theorem dX9_runs_38 : decode cX9_runs 38 = .ok (.istore 5, 2) := by decide +kernel
theorem dX9_runs_40 : decode cX9_runs 40 = .ok (.iload 5, 2) := by decide +kernel
theorem dX9_runs_42 : decode cX9_runs 42 = .ok (.iconst 4, 1) := by decide +kernel
theorem dX9_runs_43 : decode cX9_runs 43 = .ok (.if_icmp .ge 17, 3) := by decide +kernel
theorem dX9_runs_46 : decode cX9_runs 46 = .ok (.aload_n 0, 1) := by decide +kernel
theorem dX9_runs_47 : decode cX9_runs 47 = .ok (.getfield 95, 3) := by decide +kernel
theorem dX9_runs_50 : decode cX9_runs 50 = .ok (.iload 5, 2) := by decide +kernel
theorem dX9_runs_52 : decode cX9_runs 52 = .ok (.iconst 0, 1) := by decide +kernel
theorem dX9_runs_53 : decode cX9_runs 53 = .ok (.iastore, 1) := by decide +kernel
theorem dX9_runs_54 : decode cX9_runs 54 = .ok (.iinc 5 1, 3) := by decide +kernel
theorem dX9_runs_57 : decode cX9_runs 57 = .ok (.goto (-17), 3) := by decide +kernel
theorem dX9_runs_60 : decode cX9_runs 60 = .ok (.aload_n 0, 1) := by decide +kernel
theorem dX9_runs_61 : decode cX9_runs 61 = .ok (.getfield 98, 3) := by decide +kernel
theorem dX9_runs_64 : decode cX9_runs 64 = .ok (.iconst 0, 1) := by decide +kernel
theorem dX9_runs_65 : decode cX9_runs 65 = .ok (.iconst 0, 1) := by decide +kernel
theorem dX9_runs_66 : decode cX9_runs 66 = .ok (.iastore, 1) := by decide +kernel
theorem dX9_runs_67 : decode cX9_runs 67 = .ok (.aload_n 0, 1) := by decide +kernel
theorem dX9_runs_68 : decode cX9_runs 68 = .ok (.getfield 98, 3) := by decide +kernel
theorem dX9_runs_71 : decode cX9_runs 71 = .ok (.iconst 1, 1) := by decide +kernel
theorem dX9_runs_72 : decode cX9_runs 72 = .ok (.iconst 0, 1) := by decide +kernel
theorem dX9_runs_73 : decode cX9_runs 73 = .ok (.iastore, 1) := by decide +kernel
theorem dX9_runs_74 : decode cX9_runs 74 = .ok (.aload_n 0, 1) := by decide +kernel
theorem dX9_runs_75 : decode cX9_runs 75 = .ok (.getfield 98, 3) := by decide +kernel
theorem dX9_runs_78 : decode cX9_runs 78 = .ok (.iconst 2, 1) := by decide +kernel
theorem dX9_runs_79 : decode cX9_runs 79 = .ok (.bipush 9, 2) := by decide +kernel
theorem dX9_runs_81 : decode cX9_runs 81 = .ok (.iastore, 1) := by decide +kernel
theorem dX9_runs_82 : decode cX9_runs 82 = .ok (.aload_n 0, 1) := by decide +kernel
theorem dX9_runs_83 : decode cX9_runs 83 = .ok (.iconst 0, 1) := by decide +kernel
theorem dX9_runs_84 : decode cX9_runs 84 = .ok (.putfield 164, 3) := by decide +kernel
theorem dX9_runs_87 : decode cX9_runs 87 = .ok (.aload_n 0, 1) := by decide +kernel
theorem dX9_runs_88 : decode cX9_runs 88 = .ok (.iconst 0, 1) := by decide +kernel
theorem dX9_runs_89 : decode cX9_runs 89 = .ok (.putfield 178, 3) := by decide +kernel
theorem dX9_runs_92 : decode cX9_runs 92 = .ok (.aload_n 0, 1) := by decide +kernel
theorem dX9_runs_93 : decode cX9_runs 93 = .ok (.iconst (-1), 1) := by decide +kernel
theorem dX9_runs_94 : decode cX9_runs 94 = .ok (.putfield 167, 3) := by decide +kernel
theorem dX9_runs_97 : decode cX9_runs 97 = .ok (.aload_n 0, 1) := by decide +kernel
theorem dX9_runs_98 : decode cX9_runs 98 = .ok (.iconst 0, 1) := by decide +kernel
theorem dX9_runs_99 : decode cX9_runs 99 = .ok (.putfield 161, 3) := by decide +kernel
theorem dX9_runs_102 : decode cX9_runs 102 = .ok (.iconst 0, 1) := by decide +kernel
theorem dX9_runs_103 : decode cX9_runs 103 = .ok (.istore 5, 2) := by decide +kernel
theorem dX9_runs_105 : decode cX9_runs 105 = .ok (.iconst 0, 1) := by decide +kernel
theorem dX9_runs_106 : decode cX9_runs 106 = .ok (.istore 6, 2) := by decide +kernel
theorem dX9_runs_108 : decode cX9_runs 108 = .ok (.iconst 0, 1) := by decide +kernel
theorem dX9_runs_109 : decode cX9_runs 109 = .ok (.istore 7, 2) := by decide +kernel
theorem dX9_runs_111 : decode cX9_runs 111 = .ok (.aload_n 0, 1) := by decide +kernel
theorem dX9_runs_112 : decode cX9_runs 112 = .ok (.getfield 101, 3) := by decide +kernel
theorem dX9_runs_115 : decode cX9_runs 115 = .ok (.iconst 0, 1) := by decide +kernel
theorem dX9_runs_116 : decode cX9_runs 116 = .ok (.iload_n 2, 1) := by decide +kernel
theorem dX9_runs_117 : decode cX9_runs 117 = .ok (.iastore, 1) := by decide +kernel
theorem dX9_runs_118 : decode cX9_runs 118 = .ok (.aload_n 0, 1) := by decide +kernel
theorem dX9_runs_119 : decode cX9_runs 119 = .ok (.getfield 104, 3) := by decide +kernel
theorem dX9_runs_122 : decode cX9_runs 122 = .ok (.iconst 0, 1) := by decide +kernel
theorem dX9_runs_123 : decode cX9_runs 123 = .ok (.iconst 0, 1) := by decide +kernel
theorem dX9_runs_124 : decode cX9_runs 124 = .ok (.iastore, 1) := by decide +kernel
theorem dX9_runs_125 : decode cX9_runs 125 = .ok (.iload 5, 2) := by decide +kernel
theorem dX9_runs_127 : decode cX9_runs 127 = .ok (.ifCond .lt 186, 3) := by decide +kernel
theorem dX9_runs_130 : decode cX9_runs 130 = .ok (.iload 7, 2) := by decide +kernel
theorem dX9_runs_132 : decode cX9_runs 132 = .ok (.ifCond .ne 181, 3) := by decide +kernel
theorem dX9_runs_135 : decode cX9_runs 135 = .ok (.aload_n 0, 1) := by decide +kernel
theorem dX9_runs_136 : decode cX9_runs 136 = .ok (.getfield 101, 3) := by decide +kernel
theorem dX9_runs_139 : decode cX9_runs 139 = .ok (.iload 5, 2) := by decide +kernel
theorem dX9_runs_141 : decode cX9_runs 141 = .ok (.iaload, 1) := by decide +kernel
theorem dX9_runs_142 : decode cX9_runs 142 = .ok (.istore 8, 2) := by decide +kernel
theorem dX9_runs_144 : decode cX9_runs 144 = .ok (.aload_n 0, 1) := by decide +kernel
theorem dX9_runs_145 : decode cX9_runs 145 = .ok (.getfield 104, 3) := by decide +kernel
theorem dX9_runs_148 : decode cX9_runs 148 = .ok (.iload 5, 2) := by decide +kernel
theorem dX9_runs_150 : decode cX9_runs 150 = .ok (.iaload, 1) := by decide +kernel
theorem dX9_runs_151 : decode cX9_runs 151 = .ok (.aload_n 0, 1) := by decide +kernel
theorem dX9_runs_152 : decode cX9_runs 152 = .ok (.getfield 13, 3) := by decide +kernel
theorem dX9_runs_155 : decode cX9_runs 155 = .ok (.iload 8, 2) := by decide +kernel
theorem dX9_runs_157 : decode cX9_runs 157 = .ok (.iaload, 1) := by decide +kernel
theorem dX9_runs_158 : decode cX9_runs 158 = .ok (.if_icmp .ne 9, 3) := by decide +kernel
theorem dX9_runs_161 : decode cX9_runs 161 = .ok (.iinc 5 (-1), 3) := by decide +kernel
theorem dX9_runs_164 : decode cX9_runs 164 = .ok (.goto 146, 3) := by decide +kernel
theorem dX9_runs_167 : decode cX9_runs 167 = .ok (.iload 6, 2) := by decide +kernel
theorem dX9_runs_169 : decode cX9_runs 169 = .ok (.sipush 600, 3) := by decide +kernel
theorem dX9_runs_172 : decode cX9_runs 172 = .ok (.if_icmp .ne 9, 3) := by decide +kernel
theorem dX9_runs_175 : decode cX9_runs 175 = .ok (.iconst 4, 1) := by decide +kernel
theorem dX9_runs_176 : decode cX9_runs 176 = .ok (.istore 7, 2) := by decide +kernel
theorem dX9_runs_178 : decode cX9_runs 178 = .ok (.goto 132, 3) := by decide +kernel
theorem dX9_runs_181 : decode cX9_runs 181 = .ok (.aload_n 0, 1) := by decide +kernel
theorem dX9_runs_182 : decode cX9_runs 182 = .ok (.getfield 7, 3) := by decide +kernel
theorem dX9_runs_185 : decode cX9_runs 185 = .ok (.bipush 60, 2) := by decide +kernel
theorem dX9_runs_187 : decode cX9_runs 187 = .ok (.iload 8, 2) := by decide +kernel
theorem dX9_runs_189 : decode cX9_runs 189 = .ok (.imul, 1) := by decide +kernel
theorem dX9_runs_190 : decode cX9_runs 190 = .ok (.iconst 2, 1) := by decide +kernel
theorem dX9_runs_191 : decode cX9_runs 191 = .ok (.aload_n 0, 1) := by decide +kernel
theorem dX9_runs_192 : decode cX9_runs 192 = .ok (.getfield 104, 3) := by decide +kernel
theorem dX9_runs_195 : decode cX9_runs 195 = .ok (.iload 5, 2) := by decide +kernel
theorem dX9_runs_197 : decode cX9_runs 197 = .ok (.iaload, 1) := by decide +kernel
theorem dX9_runs_198 : decode cX9_runs 198 = .ok (.imul, 1) := by decide +kernel
theorem dX9_runs_199 : decode cX9_runs 199 = .ok (.iadd, 1) := by decide +kernel
theorem dX9_runs_200 : decode cX9_runs 200 = .ok (.iaload, 1) := by decide +kernel
theorem dX9_runs_201 : decode cX9_runs 201 = .ok (.istore 9, 2) := by decide +kernel
theorem dX9_runs_203 : decode cX9_runs 203 = .ok (.aload_n 0, 1) := by decide +kernel
theorem dX9_runs_204 : decode cX9_runs 204 = .ok (.getfield 7, 3) := by decide +kernel
theorem dX9_runs_207 : decode cX9_runs 207 = .ok (.bipush 60, 2) := by decide +kernel
theorem dX9_runs_209 : decode cX9_runs 209 = .ok (.iload 8, 2) := by decide +kernel
theorem dX9_runs_211 : decode cX9_runs 211 = .ok (.imul, 1) := by decide +kernel
theorem dX9_runs_212 : decode cX9_runs 212 = .ok (.iconst 2, 1) := by decide +kernel
theorem dX9_runs_213 : decode cX9_runs 213 = .ok (.aload_n 0, 1) := by decide +kernel
theorem dX9_runs_214 : decode cX9_runs 214 = .ok (.getfield 104, 3) := by decide +kernel
theorem dX9_runs_217 : decode cX9_runs 217 = .ok (.iload 5, 2) := by decide +kernel
theorem dX9_runs_219 : decode cX9_runs 219 = .ok (.iaload, 1) := by decide +kernel
theorem dX9_runs_220 : decode cX9_runs 220 = .ok (.imul, 1) := by decide +kernel
theorem dX9_runs_221 : decode cX9_runs 221 = .ok (.iadd, 1) := by decide +kernel
theorem dX9_runs_222 : decode cX9_runs 222 = .ok (.iconst 1, 1) := by decide +kernel
theorem dX9_runs_223 : decode cX9_runs 223 = .ok (.iadd, 1) := by decide +kernel
theorem dX9_runs_224 : decode cX9_runs 224 = .ok (.iaload, 1) := by decide +kernel
theorem dX9_runs_225 : decode cX9_runs 225 = .ok (.istore 10, 2) := by decide +kernel
theorem dX9_runs_227 : decode cX9_runs 227 = .ok (.iinc 6 1, 3) := by decide +kernel
theorem dX9_runs_230 : decode cX9_runs 230 = .ok (.aload_n 0, 1) := by decide +kernel
theorem dX9_runs_231 : decode cX9_runs 231 = .ok (.getfield 104, 3) := by decide +kernel
theorem dX9_runs_234 : decode cX9_runs 234 = .ok (.iload 5, 2) := by decide +kernel
theorem dX9_runs_236 : decode cX9_runs 236 = .ok (.dup2, 1) := by decide +kernel
theorem dX9_runs_237 : decode cX9_runs 237 = .ok (.iaload, 1) := by decide +kernel
theorem dX9_runs_238 : decode cX9_runs 238 = .ok (.iconst 1, 1) := by decide +kernel
theorem dX9_runs_239 : decode cX9_runs 239 = .ok (.iadd, 1) := by decide +kernel
theorem dX9_runs_240 : decode cX9_runs 240 = .ok (.iastore, 1) := by decide +kernel
theorem dX9_runs_241 : decode cX9_runs 241 = .ok (.iload 9, 2) := by decide +kernel
theorem dX9_runs_243 : decode cX9_runs 243 = .ok (.bipush 6, 2) := by decide +kernel
theorem dX9_runs_245 : decode cX9_runs 245 = .ok (.if_icmp .ne 26, 3) := by decide +kernel
theorem dX9_runs_248 : decode cX9_runs 248 = .ok (.iinc 5 1, 3) := by decide +kernel
theorem dX9_runs_251 : decode cX9_runs 251 = .ok (.aload_n 0, 1) := by decide +kernel
theorem dX9_runs_252 : decode cX9_runs 252 = .ok (.getfield 101, 3) := by decide +kernel
theorem dX9_runs_255 : decode cX9_runs 255 = .ok (.iload 5, 2) := by decide +kernel
theorem dX9_runs_257 : decode cX9_runs 257 = .ok (.iload 10, 2) := by decide +kernel
theorem dX9_runs_259 : decode cX9_runs 259 = .ok (.iastore, 1) := by decide +kernel
theorem dX9_runs_260 : decode cX9_runs 260 = .ok (.aload_n 0, 1) := by decide +kernel
theorem dX9_runs_261 : decode cX9_runs 261 = .ok (.getfield 104, 3) := by decide +kernel
theorem dX9_runs_264 : decode cX9_runs 264 = .ok (.iload 5, 2) := by decide +kernel
theorem dX9_runs_266 : decode cX9_runs 266 = .ok (.iconst 0, 1) := by decide +kernel
theorem dX9_runs_267 : decode cX9_runs 267 = .ok (.iastore, 1) := by decide +kernel
theorem dX9_runs_268 : decode cX9_runs 268 = .ok (.goto 42, 3) := by decide +kernel
theorem dX9_runs_271 : decode cX9_runs 271 = .ok (.iload 9, 2) := by decide +kernel
theorem dX9_runs_273 : decode cX9_runs 273 = .ok (.iconst 2, 1) := by decide +kernel
theorem dX9_runs_274 : decode cX9_runs 274 = .ok (.iconst 4, 1) := by decide +kernel
theorem dX9_runs_275 : decode cX9_runs 275 = .ok (.invokestatic 114, 3) := by decide +kernel
theorem dX9_runs_278 : decode cX9_runs 278 = .ok (.ifCond .eq 22, 3) := by decide +kernel
theorem dX9_runs_281 : decode cX9_runs 281 = .ok (.aload_n 0, 1) := by decide +kernel
theorem dX9_runs_282 : decode cX9_runs 282 = .ok (.iload_n 1, 1) := by decide +kernel
theorem dX9_runs_283 : decode cX9_runs 283 = .ok (.iload 9, 2) := by decide +kernel
theorem dX9_runs_285 : decode cX9_runs 285 = .ok (.iconst 2, 1) := by decide +kernel
theorem dX9_runs_286 : decode cX9_runs 286 = .ok (.isub, 1) := by decide +kernel
theorem dX9_runs_287 : decode cX9_runs 287 = .ok (.iload 10, 2) := by decide +kernel
theorem dX9_runs_289 : decode cX9_runs 289 = .ok (.iload_n 3, 1) := by decide +kernel
theorem dX9_runs_290 : decode cX9_runs 290 = .ok (.iload 4, 2) := by decide +kernel
theorem dX9_runs_292 : decode cX9_runs 292 = .ok (.invokevirtual 185, 3) := by decide +kernel
theorem dX9_runs_295 : decode cX9_runs 295 = .ok (.istore 7, 2) := by decide +kernel
theorem dX9_runs_297 : decode cX9_runs 297 = .ok (.goto 13, 3) := by decide +kernel
theorem dX9_runs_300 : decode cX9_runs 300 = .ok (.aload_n 0, 1) := by decide +kernel
theorem dX9_runs_301 : decode cX9_runs 301 = .ok (.iload 9, 2) := by decide +kernel
theorem dX9_runs_303 : decode cX9_runs 303 = .ok (.iload 10, 2) := by decide +kernel
theorem dX9_runs_305 : decode cX9_runs 305 = .ok (.invokevirtual 189, 3) := by decide +kernel
theorem dX9_runs_308 : decode cX9_runs 308 = .ok (.istore 7, 2) := by decide +kernel
theorem dX9_runs_310 : decode cX9_runs 310 = .ok (.goto (-185), 3) := by decide +kernel
theorem dX9_runs_313 : decode cX9_runs 313 = .ok (.iload 7, 2) := by decide +kernel
theorem dX9_runs_315 : decode cX9_runs 315 = .ok (.ireturn, 1) := by decide +kernel
theorem dX9_sets_0 : decode cX9_sets 0 = .ok (.iload_n 1, 1) := by decide +kernel
theorem dX9_sets_1 : decode cX9_sets 1 = .ok (.iconst 5, 1) := by decide +kernel
theorem dX9_sets_2 : decode cX9_sets 2 = .ok (.if_icmp .ne 16, 3) := by decide +kernel
theorem dX9_sets_5 : decode cX9_sets 5 = .ok (.aload_n 0, 1) := by decide +kernel
theorem dX9_sets_6 : decode cX9_sets 6 = .ok (.getfield 98, 3) := by decide +kernel
theorem dX9_sets_9 : decode cX9_sets 9 = .ok (.iconst 2, 1) := by decide +kernel
theorem dX9_sets_10 : decode cX9_sets 10 = .ok (.iaload, 1) := by decide +kernel
theorem dX9_sets_11 : decode cX9_sets 11 = .ok (.bipush 9, 2) := by decide +kernel
theorem dX9_sets_13 : decode cX9_sets 13 = .ok (.if_icmp .eq 5, 3) := by decide +kernel
theorem dX9_sets_16 : decode cX9_sets 16 = .ok (.iconst 2, 1) := by decide +kernel
theorem dX9_sets_17 : decode cX9_sets 17 = .ok (.ireturn, 1) := by decide +kernel
theorem dX9_sets_18 : decode cX9_sets 18 = .ok (.aload_n 0, 1) := by decide +kernel
theorem dX9_sets_19 : decode cX9_sets 19 = .ok (.iload_n 1, 1) := by decide +kernel
theorem dX9_sets_20 : decode cX9_sets 20 = .ok (.ifCond .ne 7, 3) := by decide +kernel
theorem dX9_sets_23 : decode cX9_sets 23 = .ok (.iload_n 2, 1) := by decide +kernel
theorem dX9_sets_24 : decode cX9_sets 24 = .ok (.goto 7, 3) := by decide +kernel
theorem dX9_sets_27 : decode cX9_sets 27 = .ok (.aload_n 0, 1) := by decide +kernel
theorem dX9_sets_28 : decode cX9_sets 28 = .ok (.getfield 164, 3) := by decide +kernel
theorem dX9_sets_31 : decode cX9_sets 31 = .ok (.putfield 164, 3) := by decide +kernel
theorem dX9_sets_34 : decode cX9_sets 34 = .ok (.aload_n 0, 1) := by decide +kernel
theorem dX9_sets_35 : decode cX9_sets 35 = .ok (.iload_n 1, 1) := by decide +kernel
theorem dX9_sets_36 : decode cX9_sets 36 = .ok (.iconst 1, 1) := by decide +kernel
theorem dX9_sets_37 : decode cX9_sets 37 = .ok (.if_icmp .ne 7, 3) := by decide +kernel
theorem dX9_sets_40 : decode cX9_sets 40 = .ok (.iload_n 2, 1) := by decide +kernel
theorem dX9_sets_41 : decode cX9_sets 41 = .ok (.goto 7, 3) := by decide +kernel
theorem dX9_sets_44 : decode cX9_sets 44 = .ok (.aload_n 0, 1) := by decide +kernel
theorem dX9_sets_45 : decode cX9_sets 45 = .ok (.getfield 178, 3) := by decide +kernel
theorem dX9_sets_48 : decode cX9_sets 48 = .ok (.putfield 178, 3) := by decide +kernel
theorem dX9_sets_51 : decode cX9_sets 51 = .ok (.aload_n 0, 1) := by decide +kernel
theorem dX9_sets_52 : decode cX9_sets 52 = .ok (.iload_n 1, 1) := by decide +kernel
theorem dX9_sets_53 : decode cX9_sets 53 = .ok (.iconst 5, 1) := by decide +kernel
theorem dX9_sets_54 : decode cX9_sets 54 = .ok (.if_icmp .ne 7, 3) := by decide +kernel
theorem dX9_sets_57 : decode cX9_sets 57 = .ok (.iload_n 2, 1) := by decide +kernel
theorem dX9_sets_58 : decode cX9_sets 58 = .ok (.goto 7, 3) := by decide +kernel
theorem dX9_sets_61 : decode cX9_sets 61 = .ok (.aload_n 0, 1) := by decide +kernel
theorem dX9_sets_62 : decode cX9_sets 62 = .ok (.getfield 167, 3) := by decide +kernel
theorem dX9_sets_65 : decode cX9_sets 65 = .ok (.putfield 167, 3) := by decide +kernel
theorem dX9_sets_68 : decode cX9_sets 68 = .ok (.iconst 0, 1) := by decide +kernel
theorem dX9_sets_69 : decode cX9_sets 69 = .ok (.ireturn, 1) := by decide +kernel
theorem dX9_prove_0 : decode cX9_prove 0 = .ok (.aload_n 0, 1) := by decide +kernel
theorem dX9_prove_1 : decode cX9_prove 1 = .ok (.aload_n 0, 1) := by decide +kernel
theorem dX9_prove_2 : decode cX9_prove 2 = .ok (.iload_n 1, 1) := by decide +kernel
theorem dX9_prove_3 : decode cX9_prove 3 = .ok (.invokevirtual 148, 3) := by decide +kernel
theorem dX9_prove_6 : decode cX9_prove 6 = .ok (.ifCond .eq 15, 3) := by decide +kernel
theorem dX9_prove_9 : decode cX9_prove 9 = .ok (.aload_n 0, 1) := by decide +kernel
theorem dX9_prove_10 : decode cX9_prove 10 = .ok (.iload_n 2, 1) := by decide +kernel
theorem dX9_prove_11 : decode cX9_prove 11 = .ok (.invokevirtual 131, 3) := by decide +kernel
theorem dX9_prove_14 : decode cX9_prove 14 = .ok (.ifCond .eq 7, 3) := by decide +kernel
theorem dX9_prove_17 : decode cX9_prove 17 = .ok (.iconst 1, 1) := by decide +kernel
theorem dX9_prove_18 : decode cX9_prove 18 = .ok (.goto 4, 3) := by decide +kernel
theorem dX9_prove_21 : decode cX9_prove 21 = .ok (.iconst 0, 1) := by decide +kernel
theorem dX9_prove_22 : decode cX9_prove 22 = .ok (.iconst 1, 1) := by decide +kernel
theorem dX9_prove_23 : decode cX9_prove 23 = .ok (.iconst 1, 1) := by decide +kernel
theorem dX9_prove_24 : decode cX9_prove 24 = .ok (.invokevirtual 127, 3) := by decide +kernel
theorem dX9_prove_27 : decode cX9_prove 27 = .ok (.ifCond .ne 5, 3) := by decide +kernel
theorem dX9_prove_30 : decode cX9_prove 30 = .ok (.iconst 0, 1) := by decide +kernel
theorem dX9_prove_31 : decode cX9_prove 31 = .ok (.ireturn, 1) := by decide +kernel
theorem dX9_prove_32 : decode cX9_prove 32 = .ok (.aload_n 0, 1) := by decide +kernel
theorem dX9_prove_33 : decode cX9_prove 33 = .ok (.iload_n 1, 1) := by decide +kernel
theorem dX9_prove_34 : decode cX9_prove 34 = .ok (.iload_n 2, 1) := by decide +kernel
theorem dX9_prove_35 : decode cX9_prove 35 = .ok (.iconst 0, 1) := by decide +kernel
theorem dX9_prove_36 : decode cX9_prove 36 = .ok (.iconst 0, 1) := by decide +kernel
theorem dX9_prove_37 : decode cX9_prove 37 = .ok (.invokevirtual 193, 3) := by decide +kernel
theorem dX9_prove_40 : decode cX9_prove 40 = .ok (.istore_n 3, 1) := by decide +kernel
theorem dX9_prove_41 : decode cX9_prove 41 = .ok (.iload_n 3, 1) := by decide +kernel
theorem dX9_prove_42 : decode cX9_prove 42 = .ok (.ifCond .ne 7, 3) := by decide +kernel
theorem dX9_prove_45 : decode cX9_prove 45 = .ok (.iconst (-1), 1) := by decide +kernel
theorem dX9_prove_46 : decode cX9_prove 46 = .ok (.goto 13, 3) := by decide +kernel
theorem dX9_prove_49 : decode cX9_prove 49 = .ok (.sipush 10000, 3) := by decide +kernel
theorem dX9_prove_52 : decode cX9_prove 52 = .ok (.iload_n 3, 1) := by decide +kernel
theorem dX9_prove_53 : decode cX9_prove 53 = .ok (.imul, 1) := by decide +kernel
theorem dX9_prove_54 : decode cX9_prove 54 = .ok (.aload_n 0, 1) := by decide +kernel
theorem dX9_prove_55 : decode cX9_prove 55 = .ok (.getfield 161, 3) := by decide +kernel
theorem dX9_prove_58 : decode cX9_prove 58 = .ok (.iadd, 1) := by decide +kernel
theorem dX9_prove_59 : decode cX9_prove 59 = .ok (.ireturn, 1) := by decide +kernel
theorem dX9_takes_0 : decode cX9_takes 0 = .ok (.aload_n 0, 1) := by decide +kernel
theorem dX9_takes_1 : decode cX9_takes 1 = .ok (.aload_n 0, 1) := by decide +kernel
theorem dX9_takes_2 : decode cX9_takes 2 = .ok (.iload_n 1, 1) := by decide +kernel
theorem dX9_takes_3 : decode cX9_takes 3 = .ok (.invokevirtual 148, 3) := by decide +kernel
theorem dX9_takes_6 : decode cX9_takes 6 = .ok (.ifCond .eq 15, 3) := by decide +kernel
theorem dX9_takes_9 : decode cX9_takes 9 = .ok (.aload_n 0, 1) := by decide +kernel
theorem dX9_takes_10 : decode cX9_takes 10 = .ok (.iload_n 2, 1) := by decide +kernel
theorem dX9_takes_11 : decode cX9_takes 11 = .ok (.invokevirtual 131, 3) := by decide +kernel
theorem dX9_takes_14 : decode cX9_takes 14 = .ok (.ifCond .eq 7, 3) := by decide +kernel
theorem dX9_takes_17 : decode cX9_takes 17 = .ok (.iconst 1, 1) := by decide +kernel
theorem dX9_takes_18 : decode cX9_takes 18 = .ok (.goto 4, 3) := by decide +kernel
theorem dX9_takes_21 : decode cX9_takes 21 = .ok (.iconst 0, 1) := by decide +kernel
theorem dX9_takes_22 : decode cX9_takes 22 = .ok (.iconst 1, 1) := by decide +kernel
theorem dX9_takes_23 : decode cX9_takes 23 = .ok (.iconst 1, 1) := by decide +kernel
theorem dX9_takes_24 : decode cX9_takes 24 = .ok (.invokevirtual 127, 3) := by decide +kernel
theorem dX9_takes_27 : decode cX9_takes 27 = .ok (.ifCond .ne 5, 3) := by decide +kernel
theorem dX9_takes_30 : decode cX9_takes 30 = .ok (.iconst 0, 1) := by decide +kernel
theorem dX9_takes_31 : decode cX9_takes 31 = .ok (.ireturn, 1) := by decide +kernel
theorem dX9_takes_32 : decode cX9_takes 32 = .ok (.aload_n 0, 1) := by decide +kernel
theorem dX9_takes_33 : decode cX9_takes 33 = .ok (.iload_n 1, 1) := by decide +kernel
theorem dX9_takes_34 : decode cX9_takes 34 = .ok (.iload_n 2, 1) := by decide +kernel
theorem dX9_takes_35 : decode cX9_takes 35 = .ok (.iconst 0, 1) := by decide +kernel
theorem dX9_takes_36 : decode cX9_takes 36 = .ok (.iconst 0, 1) := by decide +kernel
theorem dX9_takes_37 : decode cX9_takes 37 = .ok (.invokevirtual 193, 3) := by decide +kernel
theorem dX9_takes_40 : decode cX9_takes 40 = .ok (.ifCond .ne 33, 3) := by decide +kernel
theorem dX9_takes_43 : decode cX9_takes 43 = .ok (.aload_n 0, 1) := by decide +kernel
theorem dX9_takes_44 : decode cX9_takes 44 = .ok (.getfield 95, 3) := by decide +kernel
theorem dX9_takes_47 : decode cX9_takes 47 = .ok (.iconst 0, 1) := by decide +kernel
theorem dX9_takes_48 : decode cX9_takes 48 = .ok (.iaload, 1) := by decide +kernel
theorem dX9_takes_49 : decode cX9_takes 49 = .ok (.aload_n 0, 1) := by decide +kernel
theorem dX9_takes_50 : decode cX9_takes 50 = .ok (.getfield 95, 3) := by decide +kernel
theorem dX9_takes_53 : decode cX9_takes 53 = .ok (.iconst 1, 1) := by decide +kernel
theorem dX9_takes_54 : decode cX9_takes 54 = .ok (.iaload, 1) := by decide +kernel
theorem dX9_takes_55 : decode cX9_takes 55 = .ok (.iadd, 1) := by decide +kernel
theorem dX9_takes_56 : decode cX9_takes 56 = .ok (.aload_n 0, 1) := by decide +kernel
theorem dX9_takes_57 : decode cX9_takes 57 = .ok (.getfield 95, 3) := by decide +kernel
theorem dX9_takes_60 : decode cX9_takes 60 = .ok (.iconst 2, 1) := by decide +kernel
theorem dX9_takes_61 : decode cX9_takes 61 = .ok (.iaload, 1) := by decide +kernel
theorem dX9_takes_62 : decode cX9_takes 62 = .ok (.iadd, 1) := by decide +kernel
theorem dX9_takes_63 : decode cX9_takes 63 = .ok (.aload_n 0, 1) := by decide +kernel
theorem dX9_takes_64 : decode cX9_takes 64 = .ok (.getfield 95, 3) := by decide +kernel
theorem dX9_takes_67 : decode cX9_takes 67 = .ok (.iconst 3, 1) := by decide +kernel
theorem dX9_takes_68 : decode cX9_takes 68 = .ok (.iaload, 1) := by decide +kernel
theorem dX9_takes_69 : decode cX9_takes 69 = .ok (.iadd, 1) := by decide +kernel
theorem dX9_takes_70 : decode cX9_takes 70 = .ok (.goto 4, 3) := by decide +kernel
theorem dX9_takes_73 : decode cX9_takes 73 = .ok (.iconst (-1), 1) := by decide +kernel
theorem dX9_takes_74 : decode cX9_takes 74 = .ok (.ireturn, 1) := by decide +kernel
theorem dX9_plan_0 : decode cX9_plan 0 = .ok (.aload_n 0, 1) := by decide +kernel
theorem dX9_plan_1 : decode cX9_plan 1 = .ok (.iload_n 1, 1) := by decide +kernel
theorem dX9_plan_2 : decode cX9_plan 2 = .ok (.invokevirtual 148, 3) := by decide +kernel
theorem dX9_plan_5 : decode cX9_plan 5 = .ok (.ifCond .eq 15, 3) := by decide +kernel
theorem dX9_plan_8 : decode cX9_plan 8 = .ok (.aload_n 0, 1) := by decide +kernel
theorem dX9_plan_9 : decode cX9_plan 9 = .ok (.iload_n 2, 1) := by decide +kernel
theorem dX9_plan_10 : decode cX9_plan 10 = .ok (.invokevirtual 131, 3) := by decide +kernel
theorem dX9_plan_13 : decode cX9_plan 13 = .ok (.ifCond .eq 7, 3) := by decide +kernel
theorem dX9_plan_16 : decode cX9_plan 16 = .ok (.iconst 1, 1) := by decide +kernel
theorem dX9_plan_17 : decode cX9_plan 17 = .ok (.goto 4, 3) := by decide +kernel
theorem dX9_plan_20 : decode cX9_plan 20 = .ok (.iconst 0, 1) := by decide +kernel
theorem dX9_plan_21 : decode cX9_plan 21 = .ok (.istore_n 3, 1) := by decide +kernel
theorem dX9_plan_22 : decode cX9_plan 22 = .ok (.aload_n 0, 1) := by decide +kernel
theorem dX9_plan_23 : decode cX9_plan 23 = .ok (.iload_n 3, 1) := by decide +kernel
theorem dX9_plan_24 : decode cX9_plan 24 = .ok (.iload_n 3, 1) := by decide +kernel
theorem dX9_plan_25 : decode cX9_plan 25 = .ok (.ifCond .eq 27, 3) := by decide +kernel
theorem dX9_plan_28 : decode cX9_plan 28 = .ok (.aload_n 0, 1) := by decide +kernel
theorem dX9_plan_29 : decode cX9_plan 29 = .ok (.getfield 59, 3) := by decide +kernel
theorem dX9_plan_32 : decode cX9_plan 32 = .ok (.iload_n 1, 1) := by decide +kernel
theorem dX9_plan_33 : decode cX9_plan 33 = .ok (.iaload, 1) := by decide +kernel
theorem dX9_plan_34 : decode cX9_plan 34 = .ok (.ifCond .ne 18, 3) := by decide +kernel
theorem dX9_plan_37 : decode cX9_plan 37 = .ok (.aload_n 0, 1) := by decide +kernel
theorem dX9_plan_38 : decode cX9_plan 38 = .ok (.iload_n 1, 1) := by decide +kernel
theorem dX9_plan_39 : decode cX9_plan 39 = .ok (.iload_n 2, 1) := by decide +kernel
theorem dX9_plan_40 : decode cX9_plan 40 = .ok (.iconst 0, 1) := by decide +kernel
theorem dX9_plan_41 : decode cX9_plan 41 = .ok (.iconst 0, 1) := by decide +kernel
theorem dX9_plan_42 : decode cX9_plan 42 = .ok (.invokevirtual 193, 3) := by decide +kernel
theorem dX9_plan_45 : decode cX9_plan 45 = .ok (.ifCond .ne 7, 3) := by decide +kernel
theorem dX9_plan_48 : decode cX9_plan 48 = .ok (.iconst 1, 1) := by decide +kernel
theorem dX9_plan_49 : decode cX9_plan 49 = .ok (.goto 4, 3) := by decide +kernel
theorem dX9_plan_52 : decode cX9_plan 52 = .ok (.iconst 0, 1) := by decide +kernel
theorem dX9_plan_53 : decode cX9_plan 53 = .ok (.iconst 1, 1) := by decide +kernel
theorem dX9_plan_54 : decode cX9_plan 54 = .ok (.invokevirtual 127, 3) := by decide +kernel
theorem dX9_plan_57 : decode cX9_plan 57 = .ok (.ifCond .ne 5, 3) := by decide +kernel
theorem dX9_plan_60 : decode cX9_plan 60 = .ok (.iconst 0, 1) := by decide +kernel
theorem dX9_plan_61 : decode cX9_plan 61 = .ok (.ireturn, 1) := by decide +kernel
theorem dX9_plan_62 : decode cX9_plan 62 = .ok (.aload_n 0, 1) := by decide +kernel
theorem dX9_plan_63 : decode cX9_plan 63 = .ok (.getfield 59, 3) := by decide +kernel
theorem dX9_plan_66 : decode cX9_plan 66 = .ok (.iload_n 1, 1) := by decide +kernel
theorem dX9_plan_67 : decode cX9_plan 67 = .ok (.iconst 1, 1) := by decide +kernel
theorem dX9_plan_68 : decode cX9_plan 68 = .ok (.iastore, 1) := by decide +kernel
theorem dX9_plan_69 : decode cX9_plan 69 = .ok (.aload_n 0, 1) := by decide +kernel
theorem dX9_plan_70 : decode cX9_plan 70 = .ok (.getfield 62, 3) := by decide +kernel
theorem dX9_plan_73 : decode cX9_plan 73 = .ok (.iload_n 1, 1) := by decide +kernel
theorem dX9_plan_74 : decode cX9_plan 74 = .ok (.iload_n 2, 1) := by decide +kernel
theorem dX9_plan_75 : decode cX9_plan 75 = .ok (.iastore, 1) := by decide +kernel
theorem dX9_plan_76 : decode cX9_plan 76 = .ok (.aload_n 0, 1) := by decide +kernel
theorem dX9_plan_77 : decode cX9_plan 77 = .ok (.getfield 71, 3) := by decide +kernel
theorem dX9_plan_80 : decode cX9_plan 80 = .ok (.aload_n 0, 1) := by decide +kernel
theorem dX9_plan_81 : decode cX9_plan 81 = .ok (.getfield 138, 3) := by decide +kernel
theorem dX9_plan_84 : decode cX9_plan 84 = .ok (.iload_n 1, 1) := by decide +kernel
theorem dX9_plan_85 : decode cX9_plan 85 = .ok (.iastore, 1) := by decide +kernel
theorem dX9_plan_86 : decode cX9_plan 86 = .ok (.aload_n 0, 1) := by decide +kernel
theorem dX9_plan_87 : decode cX9_plan 87 = .ok (.dup, 1) := by decide +kernel
theorem dX9_plan_88 : decode cX9_plan 88 = .ok (.getfield 138, 3) := by decide +kernel
theorem dX9_plan_91 : decode cX9_plan 91 = .ok (.iconst 1, 1) := by decide +kernel
theorem dX9_plan_92 : decode cX9_plan 92 = .ok (.iadd, 1) := by decide +kernel
theorem dX9_plan_93 : decode cX9_plan 93 = .ok (.putfield 138, 3) := by decide +kernel
theorem dX9_plan_96 : decode cX9_plan 96 = .ok (.aload_n 0, 1) := by decide +kernel
theorem dX9_plan_97 : decode cX9_plan 97 = .ok (.getfield 138, 3) := by decide +kernel
theorem dX9_plan_100 : decode cX9_plan 100 = .ok (.ireturn, 1) := by decide +kernel
theorem dX9_night_0 : decode cX9_night 0 = .ok (.aload_n 0, 1) := by decide +kernel
theorem dX9_night_1 : decode cX9_night 1 = .ok (.iconst 0, 1) := by decide +kernel
theorem dX9_night_2 : decode cX9_night 2 = .ok (.putfield 107, 3) := by decide +kernel
theorem dX9_night_5 : decode cX9_night 5 = .ok (.iconst 0, 1) := by decide +kernel
theorem dX9_night_6 : decode cX9_night 6 = .ok (.istore_n 1, 1) := by decide +kernel
theorem dX9_night_7 : decode cX9_night 7 = .ok (.aload_n 0, 1) := by decide +kernel
theorem dX9_night_8 : decode cX9_night 8 = .ok (.getfield 138, 3) := by decide +kernel
theorem dX9_night_11 : decode cX9_night 11 = .ok (.ifCond .le 7, 3) := by decide +kernel
theorem dX9_night_14 : decode cX9_night 14 = .ok (.iconst 1, 1) := by decide +kernel
theorem dX9_night_15 : decode cX9_night 15 = .ok (.goto 4, 3) := by decide +kernel
theorem dX9_night_18 : decode cX9_night 18 = .ok (.iconst 0, 1) := by decide +kernel
theorem dX9_night_19 : decode cX9_night 19 = .ok (.istore_n 2, 1) := by decide +kernel
theorem dX9_night_20 : decode cX9_night 20 = .ok (.iload_n 2, 1) := by decide +kernel
theorem dX9_night_21 : decode cX9_night 21 = .ok (.ifCond .eq 162, 3) := by decide +kernel
theorem dX9_night_24 : decode cX9_night 24 = .ok (.aload_n 0, 1) := by decide +kernel
theorem dX9_night_25 : decode cX9_night 25 = .ok (.getfield 71, 3) := by decide +kernel
theorem dX9_night_28 : decode cX9_night 28 = .ok (.iconst 0, 1) := by decide +kernel
theorem dX9_night_29 : decode cX9_night 29 = .ok (.iaload, 1) := by decide +kernel
theorem dX9_night_30 : decode cX9_night 30 = .ok (.istore_n 3, 1) := by decide +kernel
theorem dX9_night_31 : decode cX9_night 31 = .ok (.aload_n 0, 1) := by decide +kernel
theorem dX9_night_32 : decode cX9_night 32 = .ok (.iload_n 3, 1) := by decide +kernel
theorem dX9_night_33 : decode cX9_night 33 = .ok (.aload_n 0, 1) := by decide +kernel
theorem dX9_night_34 : decode cX9_night 34 = .ok (.getfield 62, 3) := by decide +kernel
theorem dX9_night_37 : decode cX9_night 37 = .ok (.iload_n 3, 1) := by decide +kernel
theorem dX9_night_38 : decode cX9_night 38 = .ok (.iaload, 1) := by decide +kernel
theorem dX9_night_39 : decode cX9_night 39 = .ok (.aload_n 0, 1) := by decide +kernel
theorem dX9_night_40 : decode cX9_night 40 = .ok (.getfield 65, 3) := by decide +kernel
theorem dX9_night_43 : decode cX9_night 43 = .ok (.iload_n 3, 1) := by decide +kernel
theorem dX9_night_44 : decode cX9_night 44 = .ok (.iaload, 1) := by decide +kernel
theorem dX9_night_45 : decode cX9_night 45 = .ok (.iconst 2, 1) := by decide +kernel
theorem dX9_night_46 : decode cX9_night 46 = .ok (.invokevirtual 193, 3) := by decide +kernel
theorem dX9_night_49 : decode cX9_night 49 = .ok (.istore 4, 2) := by decide +kernel
theorem dX9_night_51 : decode cX9_night 51 = .ok (.aload_n 0, 1) := by decide +kernel
theorem dX9_night_52 : decode cX9_night 52 = .ok (.getfield 65, 3) := by decide +kernel
theorem dX9_night_55 : decode cX9_night 55 = .ok (.iload_n 3, 1) := by decide +kernel
theorem dX9_night_56 : decode cX9_night 56 = .ok (.aload_n 0, 1) := by decide +kernel
theorem dX9_night_57 : decode cX9_night 57 = .ok (.getfield 161, 3) := by decide +kernel
theorem dX9_night_60 : decode cX9_night 60 = .ok (.iastore, 1) := by decide +kernel
theorem dX9_night_61 : decode cX9_night 61 = .ok (.iconst 0, 1) := by decide +kernel
theorem dX9_night_62 : decode cX9_night 62 = .ok (.istore 5, 2) := by decide +kernel
theorem dX9_night_64 : decode cX9_night 64 = .ok (.iload 5, 2) := by decide +kernel
theorem dX9_night_66 : decode cX9_night 66 = .ok (.sipush 144, 3) := by decide +kernel
theorem dX9_night_69 : decode cX9_night 69 = .ok (.if_icmp .ge 29, 3) := by decide +kernel
theorem dX9_night_72 : decode cX9_night 72 = .ok (.aload_n 0, 1) := by decide +kernel
theorem dX9_night_73 : decode cX9_night 73 = .ok (.getfield 44, 3) := by decide +kernel
theorem dX9_night_76 : decode cX9_night 76 = .ok (.sipush 144, 3) := by decide +kernel
theorem dX9_night_79 : decode cX9_night 79 = .ok (.iload_n 3, 1) := by decide +kernel
theorem dX9_night_80 : decode cX9_night 80 = .ok (.imul, 1) := by decide +kernel
theorem dX9_night_81 : decode cX9_night 81 = .ok (.iload 5, 2) := by decide +kernel
theorem dX9_night_83 : decode cX9_night 83 = .ok (.iadd, 1) := by decide +kernel
theorem dX9_night_84 : decode cX9_night 84 = .ok (.aload_n 0, 1) := by decide +kernel
theorem dX9_night_85 : decode cX9_night 85 = .ok (.getfield 92, 3) := by decide +kernel
theorem dX9_night_88 : decode cX9_night 88 = .ok (.iload 5, 2) := by decide +kernel
theorem dX9_night_90 : decode cX9_night 90 = .ok (.iaload, 1) := by decide +kernel
theorem dX9_night_91 : decode cX9_night 91 = .ok (.iastore, 1) := by decide +kernel
theorem dX9_night_92 : decode cX9_night 92 = .ok (.iinc 5 1, 3) := by decide +kernel
theorem dX9_night_95 : decode cX9_night 95 = .ok (.goto (-31), 3) := by decide +kernel
theorem dX9_night_98 : decode cX9_night 98 = .ok (.iload 4, 2) := by decide +kernel
theorem dX9_night_100 : decode cX9_night 100 = .ok (.ifCond .ne 7, 3) := by decide +kernel
theorem dX9_night_103 : decode cX9_night 103 = .ok (.iconst 1, 1) := by decide +kernel
theorem dX9_night_104 : decode cX9_night 104 = .ok (.goto 4, 3) := by decide +kernel
theorem dX9_night_107 : decode cX9_night 107 = .ok (.iconst 0, 1) := by decide +kernel
theorem dX9_night_108 : decode cX9_night 108 = .ok (.istore_n 2, 1) := by decide +kernel
theorem dX9_night_109 : decode cX9_night 109 = .ok (.iload_n 2, 1) := by decide +kernel
theorem dX9_night_110 : decode cX9_night 110 = .ok (.ifCond .eq 70, 3) := by decide +kernel
theorem dX9_night_113 : decode cX9_night 113 = .ok (.aload_n 0, 1) := by decide +kernel
theorem dX9_night_114 : decode cX9_night 114 = .ok (.getfield 59, 3) := by decide +kernel
theorem dX9_night_117 : decode cX9_night 117 = .ok (.iload_n 3, 1) := by decide +kernel
theorem dX9_night_118 : decode cX9_night 118 = .ok (.iconst 2, 1) := by decide +kernel
theorem dX9_night_119 : decode cX9_night 119 = .ok (.iastore, 1) := by decide +kernel
theorem dX9_night_120 : decode cX9_night 120 = .ok (.aload_n 0, 1) := by decide +kernel
theorem dX9_night_121 : decode cX9_night 121 = .ok (.dup, 1) := by decide +kernel
theorem dX9_night_122 : decode cX9_night 122 = .ok (.getfield 138, 3) := by decide +kernel
theorem dX9_night_125 : decode cX9_night 125 = .ok (.iconst 1, 1) := by decide +kernel
theorem dX9_night_126 : decode cX9_night 126 = .ok (.isub, 1) := by decide +kernel
theorem dX9_night_127 : decode cX9_night 127 = .ok (.putfield 138, 3) := by decide +kernel
theorem dX9_night_130 : decode cX9_night 130 = .ok (.iconst 0, 1) := by decide +kernel
theorem dX9_night_131 : decode cX9_night 131 = .ok (.istore 5, 2) := by decide +kernel
theorem dX9_night_133 : decode cX9_night 133 = .ok (.iload 5, 2) := by decide +kernel
theorem dX9_night_135 : decode cX9_night 135 = .ok (.aload_n 0, 1) := by decide +kernel
theorem dX9_night_136 : decode cX9_night 136 = .ok (.getfield 138, 3) := by decide +kernel
theorem dX9_night_139 : decode cX9_night 139 = .ok (.if_icmp .ge 25, 3) := by decide +kernel
theorem dX9_night_142 : decode cX9_night 142 = .ok (.aload_n 0, 1) := by decide +kernel
theorem dX9_night_143 : decode cX9_night 143 = .ok (.getfield 71, 3) := by decide +kernel
theorem dX9_night_146 : decode cX9_night 146 = .ok (.iload 5, 2) := by decide +kernel
theorem dX9_night_148 : decode cX9_night 148 = .ok (.aload_n 0, 1) := by decide +kernel
theorem dX9_night_149 : decode cX9_night 149 = .ok (.getfield 71, 3) := by decide +kernel
theorem dX9_night_152 : decode cX9_night 152 = .ok (.iload 5, 2) := by decide +kernel
theorem dX9_night_154 : decode cX9_night 154 = .ok (.iconst 1, 1) := by decide +kernel
theorem dX9_night_155 : decode cX9_night 155 = .ok (.iadd, 1) := by decide +kernel
theorem dX9_night_156 : decode cX9_night 156 = .ok (.iaload, 1) := by decide +kernel
theorem dX9_night_157 : decode cX9_night 157 = .ok (.iastore, 1) := by decide +kernel
theorem dX9_night_158 : decode cX9_night 158 = .ok (.iinc 5 1, 3) := by decide +kernel
theorem dX9_night_161 : decode cX9_night 161 = .ok (.goto (-28), 3) := by decide +kernel
theorem dX9_night_164 : decode cX9_night 164 = .ok (.iinc 1 1, 3) := by decide +kernel
theorem dX9_night_167 : decode cX9_night 167 = .ok (.aload_n 0, 1) := by decide +kernel
theorem dX9_night_168 : decode cX9_night 168 = .ok (.getfield 138, 3) := by decide +kernel
theorem dX9_night_171 : decode cX9_night 171 = .ok (.ifCond .le 7, 3) := by decide +kernel
theorem dX9_night_174 : decode cX9_night 174 = .ok (.iconst 1, 1) := by decide +kernel
theorem dX9_night_175 : decode cX9_night 175 = .ok (.goto 4, 3) := by decide +kernel
theorem dX9_night_178 : decode cX9_night 178 = .ok (.iconst 0, 1) := by decide +kernel
theorem dX9_night_179 : decode cX9_night 179 = .ok (.istore_n 2, 1) := by decide +kernel
theorem dX9_night_180 : decode cX9_night 180 = .ok (.goto (-160), 3) := by decide +kernel
theorem dX9_night_183 : decode cX9_night 183 = .ok (.iload_n 1, 1) := by decide +kernel
theorem dX9_night_184 : decode cX9_night 184 = .ok (.ireturn, 1) := by decide +kernel
theorem dX9_foresees_0 : decode cX9_foresees 0 = .ok (.aload_n 0, 1) := by decide +kernel
theorem dX9_foresees_1 : decode cX9_foresees 1 = .ok (.iconst 0, 1) := by decide +kernel
theorem dX9_foresees_2 : decode cX9_foresees 2 = .ok (.putfield 107, 3) := by decide +kernel
theorem dX9_foresees_5 : decode cX9_foresees 5 = .ok (.iconst 0, 1) := by decide +kernel
theorem dX9_foresees_6 : decode cX9_foresees 6 = .ok (.istore_n 1, 1) := by decide +kernel
theorem dX9_foresees_7 : decode cX9_foresees 7 = .ok (.iload_n 1, 1) := by decide +kernel
theorem dX9_foresees_8 : decode cX9_foresees 8 = .ok (.bipush 16, 2) := by decide +kernel
theorem dX9_foresees_10 : decode cX9_foresees 10 = .ok (.if_icmp .ge 21, 3) := by decide +kernel
theorem dX9_foresees_13 : decode cX9_foresees 13 = .ok (.aload_n 0, 1) := by decide +kernel
theorem dX9_foresees_14 : decode cX9_foresees 14 = .ok (.getfield 28, 3) := by decide +kernel
theorem dX9_foresees_17 : decode cX9_foresees 17 = .ok (.iload_n 1, 1) := by decide +kernel
theorem dX9_foresees_18 : decode cX9_foresees 18 = .ok (.aload_n 0, 1) := by decide +kernel
theorem dX9_foresees_19 : decode cX9_foresees 19 = .ok (.getfield 25, 3) := by decide +kernel
theorem dX9_foresees_22 : decode cX9_foresees 22 = .ok (.iload_n 1, 1) := by decide +kernel
theorem dX9_foresees_23 : decode cX9_foresees 23 = .ok (.iaload, 1) := by decide +kernel
theorem dX9_foresees_24 : decode cX9_foresees 24 = .ok (.iastore, 1) := by decide +kernel
theorem dX9_foresees_25 : decode cX9_foresees 25 = .ok (.iinc 1 1, 3) := by decide +kernel
theorem dX9_foresees_28 : decode cX9_foresees 28 = .ok (.goto (-21), 3) := by decide +kernel
theorem dX9_foresees_31 : decode cX9_foresees 31 = .ok (.iconst 0, 1) := by decide +kernel
theorem dX9_foresees_32 : decode cX9_foresees 32 = .ok (.istore_n 1, 1) := by decide +kernel
theorem dX9_foresees_33 : decode cX9_foresees 33 = .ok (.iload_n 1, 1) := by decide +kernel
theorem dX9_foresees_34 : decode cX9_foresees 34 = .ok (.aload_n 0, 1) := by decide +kernel
theorem dX9_foresees_35 : decode cX9_foresees 35 = .ok (.getfield 138, 3) := by decide +kernel
theorem dX9_foresees_38 : decode cX9_foresees 38 = .ok (.if_icmp .ge 45, 3) := by decide +kernel
theorem dX9_foresees_41 : decode cX9_foresees 41 = .ok (.aload_n 0, 1) := by decide +kernel
theorem dX9_foresees_42 : decode cX9_foresees 42 = .ok (.aload_n 0, 1) := by decide +kernel
theorem dX9_foresees_43 : decode cX9_foresees 43 = .ok (.getfield 71, 3) := by decide +kernel
theorem dX9_foresees_46 : decode cX9_foresees 46 = .ok (.iload_n 1, 1) := by decide +kernel
theorem dX9_foresees_47 : decode cX9_foresees 47 = .ok (.iaload, 1) := by decide +kernel
theorem dX9_foresees_48 : decode cX9_foresees 48 = .ok (.aload_n 0, 1) := by decide +kernel
theorem dX9_foresees_49 : decode cX9_foresees 49 = .ok (.getfield 62, 3) := by decide +kernel
theorem dX9_foresees_52 : decode cX9_foresees 52 = .ok (.aload_n 0, 1) := by decide +kernel
theorem dX9_foresees_53 : decode cX9_foresees 53 = .ok (.getfield 71, 3) := by decide +kernel
theorem dX9_foresees_56 : decode cX9_foresees 56 = .ok (.iload_n 1, 1) := by decide +kernel
theorem dX9_foresees_57 : decode cX9_foresees 57 = .ok (.iaload, 1) := by decide +kernel
theorem dX9_foresees_58 : decode cX9_foresees 58 = .ok (.iaload, 1) := by decide +kernel
theorem dX9_foresees_59 : decode cX9_foresees 59 = .ok (.aload_n 0, 1) := by decide +kernel
theorem dX9_foresees_60 : decode cX9_foresees 60 = .ok (.getfield 65, 3) := by decide +kernel
theorem dX9_foresees_63 : decode cX9_foresees 63 = .ok (.aload_n 0, 1) := by decide +kernel
theorem dX9_foresees_64 : decode cX9_foresees 64 = .ok (.getfield 71, 3) := by decide +kernel
theorem dX9_foresees_67 : decode cX9_foresees 67 = .ok (.iload_n 1, 1) := by decide +kernel
theorem dX9_foresees_68 : decode cX9_foresees 68 = .ok (.iaload, 1) := by decide +kernel
theorem dX9_foresees_69 : decode cX9_foresees 69 = .ok (.iaload, 1) := by decide +kernel
theorem dX9_foresees_70 : decode cX9_foresees 70 = .ok (.iconst 1, 1) := by decide +kernel
theorem dX9_foresees_71 : decode cX9_foresees 71 = .ok (.invokevirtual 193, 3) := by decide +kernel
theorem dX9_foresees_74 : decode cX9_foresees 74 = .ok (.ifCond .ne 9, 3) := by decide +kernel
theorem dX9_foresees_77 : decode cX9_foresees 77 = .ok (.iinc 1 1, 3) := by decide +kernel
theorem dX9_foresees_80 : decode cX9_foresees 80 = .ok (.goto (-47), 3) := by decide +kernel
theorem dX9_foresees_83 : decode cX9_foresees 83 = .ok (.iload_n 1, 1) := by decide +kernel
theorem dX9_foresees_84 : decode cX9_foresees 84 = .ok (.ireturn, 1) := by decide +kernel
theorem dX9_lacks_0 : decode cX9_lacks 0 = .ok (.aload_n 0, 1) := by decide +kernel
theorem dX9_lacks_1 : decode cX9_lacks 1 = .ok (.iload_n 1, 1) := by decide +kernel
theorem dX9_lacks_2 : decode cX9_lacks 2 = .ok (.iconst 0, 1) := by decide +kernel
theorem dX9_lacks_3 : decode cX9_lacks 3 = .ok (.iconst 3, 1) := by decide +kernel
theorem dX9_lacks_4 : decode cX9_lacks 4 = .ok (.invokestatic 114, 3) := by decide +kernel
theorem dX9_lacks_7 : decode cX9_lacks 7 = .ok (.iconst 1, 1) := by decide +kernel
theorem dX9_lacks_8 : decode cX9_lacks 8 = .ok (.iconst 1, 1) := by decide +kernel
theorem dX9_lacks_9 : decode cX9_lacks 9 = .ok (.invokevirtual 127, 3) := by decide +kernel
theorem dX9_lacks_12 : decode cX9_lacks 12 = .ok (.ifCond .ne 5, 3) := by decide +kernel
theorem dX9_lacks_15 : decode cX9_lacks 15 = .ok (.iconst 0, 1) := by decide +kernel
theorem dX9_lacks_16 : decode cX9_lacks 16 = .ok (.ireturn, 1) := by decide +kernel
theorem dX9_lacks_17 : decode cX9_lacks 17 = .ok (.iconst 0, 1) := by decide +kernel
theorem dX9_lacks_18 : decode cX9_lacks 18 = .ok (.istore_n 2, 1) := by decide +kernel
theorem dX9_lacks_19 : decode cX9_lacks 19 = .ok (.iconst 0, 1) := by decide +kernel
theorem dX9_lacks_20 : decode cX9_lacks 20 = .ok (.istore_n 3, 1) := by decide +kernel
theorem dX9_lacks_21 : decode cX9_lacks 21 = .ok (.iload_n 3, 1) := by decide +kernel
theorem dX9_lacks_22 : decode cX9_lacks 22 = .ok (.aload_n 0, 1) := by decide +kernel
theorem dX9_lacks_23 : decode cX9_lacks 23 = .ok (.getfield 138, 3) := by decide +kernel
theorem dX9_lacks_26 : decode cX9_lacks 26 = .ok (.if_icmp .ge 58, 3) := by decide +kernel
theorem dX9_lacks_29 : decode cX9_lacks 29 = .ok (.iload_n 2, 1) := by decide +kernel
theorem dX9_lacks_30 : decode cX9_lacks 30 = .ok (.aload_n 0, 1) := by decide +kernel
theorem dX9_lacks_31 : decode cX9_lacks 31 = .ok (.aload_n 0, 1) := by decide +kernel
theorem dX9_lacks_32 : decode cX9_lacks 32 = .ok (.getfield 71, 3) := by decide +kernel
theorem dX9_lacks_35 : decode cX9_lacks 35 = .ok (.iload_n 3, 1) := by decide +kernel
theorem dX9_lacks_36 : decode cX9_lacks 36 = .ok (.iaload, 1) := by decide +kernel
theorem dX9_lacks_37 : decode cX9_lacks 37 = .ok (.aload_n 0, 1) := by decide +kernel
theorem dX9_lacks_38 : decode cX9_lacks 38 = .ok (.getfield 62, 3) := by decide +kernel
theorem dX9_lacks_41 : decode cX9_lacks 41 = .ok (.aload_n 0, 1) := by decide +kernel
theorem dX9_lacks_42 : decode cX9_lacks 42 = .ok (.getfield 71, 3) := by decide +kernel
theorem dX9_lacks_45 : decode cX9_lacks 45 = .ok (.iload_n 3, 1) := by decide +kernel
theorem dX9_lacks_46 : decode cX9_lacks 46 = .ok (.iaload, 1) := by decide +kernel
theorem dX9_lacks_47 : decode cX9_lacks 47 = .ok (.iaload, 1) := by decide +kernel
theorem dX9_lacks_48 : decode cX9_lacks 48 = .ok (.aload_n 0, 1) := by decide +kernel
theorem dX9_lacks_49 : decode cX9_lacks 49 = .ok (.getfield 65, 3) := by decide +kernel
theorem dX9_lacks_52 : decode cX9_lacks 52 = .ok (.aload_n 0, 1) := by decide +kernel
theorem dX9_lacks_53 : decode cX9_lacks 53 = .ok (.getfield 71, 3) := by decide +kernel
theorem dX9_lacks_56 : decode cX9_lacks 56 = .ok (.iload_n 3, 1) := by decide +kernel
theorem dX9_lacks_57 : decode cX9_lacks 57 = .ok (.iaload, 1) := by decide +kernel
theorem dX9_lacks_58 : decode cX9_lacks 58 = .ok (.iaload, 1) := by decide +kernel
theorem dX9_lacks_59 : decode cX9_lacks 59 = .ok (.iconst 0, 1) := by decide +kernel
theorem dX9_lacks_60 : decode cX9_lacks 60 = .ok (.invokevirtual 193, 3) := by decide +kernel
theorem dX9_lacks_63 : decode cX9_lacks 63 = .ok (.ifCond .ne 12, 3) := by decide +kernel
theorem dX9_lacks_66 : decode cX9_lacks 66 = .ok (.aload_n 0, 1) := by decide +kernel
theorem dX9_lacks_67 : decode cX9_lacks 67 = .ok (.getfield 95, 3) := by decide +kernel
theorem dX9_lacks_70 : decode cX9_lacks 70 = .ok (.iload_n 1, 1) := by decide +kernel
theorem dX9_lacks_71 : decode cX9_lacks 71 = .ok (.iaload, 1) := by decide +kernel
theorem dX9_lacks_72 : decode cX9_lacks 72 = .ok (.goto 4, 3) := by decide +kernel
theorem dX9_lacks_75 : decode cX9_lacks 75 = .ok (.iconst 0, 1) := by decide +kernel
theorem dX9_lacks_76 : decode cX9_lacks 76 = .ok (.iadd, 1) := by decide +kernel
theorem dX9_lacks_77 : decode cX9_lacks 77 = .ok (.istore_n 2, 1) := by decide +kernel
theorem dX9_lacks_78 : decode cX9_lacks 78 = .ok (.iinc 3 1, 3) := by decide +kernel
theorem dX9_lacks_81 : decode cX9_lacks 81 = .ok (.goto (-60), 3) := by decide +kernel
theorem dX9_lacks_84 : decode cX9_lacks 84 = .ok (.iconst 0, 1) := by decide +kernel
theorem dX9_lacks_85 : decode cX9_lacks 85 = .ok (.istore_n 3, 1) := by decide +kernel
theorem dX9_lacks_86 : decode cX9_lacks 86 = .ok (.iload_n 3, 1) := by decide +kernel
theorem dX9_lacks_87 : decode cX9_lacks 87 = .ok (.aload_n 0, 1) := by decide +kernel
theorem dX9_lacks_88 : decode cX9_lacks 88 = .ok (.getfield 118, 3) := by decide +kernel
theorem dX9_lacks_91 : decode cX9_lacks 91 = .ok (.if_icmp .ge 48, 3) := by decide +kernel
theorem dX9_lacks_94 : decode cX9_lacks 94 = .ok (.iload_n 2, 1) := by decide +kernel
theorem dX9_lacks_95 : decode cX9_lacks 95 = .ok (.aload_n 0, 1) := by decide +kernel
theorem dX9_lacks_96 : decode cX9_lacks 96 = .ok (.getfield 34, 3) := by decide +kernel
theorem dX9_lacks_99 : decode cX9_lacks 99 = .ok (.iload_n 3, 1) := by decide +kernel
theorem dX9_lacks_100 : decode cX9_lacks 100 = .ok (.baload, 1) := by decide +kernel
theorem dX9_lacks_101 : decode cX9_lacks 101 = .ok (.ifCond .eq 29, 3) := by decide +kernel
theorem dX9_lacks_104 : decode cX9_lacks 104 = .ok (.aload_n 0, 1) := by decide +kernel
theorem dX9_lacks_105 : decode cX9_lacks 105 = .ok (.getfield 19, 3) := by decide +kernel
theorem dX9_lacks_108 : decode cX9_lacks 108 = .ok (.iload_n 3, 1) := by decide +kernel
theorem dX9_lacks_109 : decode cX9_lacks 109 = .ok (.iaload, 1) := by decide +kernel
theorem dX9_lacks_110 : decode cX9_lacks 110 = .ok (.iload_n 1, 1) := by decide +kernel
theorem dX9_lacks_111 : decode cX9_lacks 111 = .ok (.if_icmp .ne 19, 3) := by decide +kernel
theorem dX9_lacks_114 : decode cX9_lacks 114 = .ok (.aload_n 0, 1) := by decide +kernel
theorem dX9_lacks_115 : decode cX9_lacks 115 = .ok (.getfield 22, 3) := by decide +kernel
theorem dX9_lacks_118 : decode cX9_lacks 118 = .ok (.iload_n 3, 1) := by decide +kernel
theorem dX9_lacks_119 : decode cX9_lacks 119 = .ok (.iaload, 1) := by decide +kernel
theorem dX9_lacks_120 : decode cX9_lacks 120 = .ok (.aload_n 0, 1) := by decide +kernel
theorem dX9_lacks_121 : decode cX9_lacks 121 = .ok (.getfield 25, 3) := by decide +kernel
theorem dX9_lacks_124 : decode cX9_lacks 124 = .ok (.iload_n 3, 1) := by decide +kernel
theorem dX9_lacks_125 : decode cX9_lacks 125 = .ok (.iaload, 1) := by decide +kernel
theorem dX9_lacks_126 : decode cX9_lacks 126 = .ok (.isub, 1) := by decide +kernel
theorem dX9_lacks_127 : decode cX9_lacks 127 = .ok (.goto 4, 3) := by decide +kernel
theorem dX9_lacks_130 : decode cX9_lacks 130 = .ok (.iconst 0, 1) := by decide +kernel
theorem dX9_lacks_131 : decode cX9_lacks 131 = .ok (.isub, 1) := by decide +kernel
theorem dX9_lacks_132 : decode cX9_lacks 132 = .ok (.istore_n 2, 1) := by decide +kernel
theorem dX9_lacks_133 : decode cX9_lacks 133 = .ok (.iinc 3 1, 3) := by decide +kernel
theorem dX9_lacks_136 : decode cX9_lacks 136 = .ok (.goto (-50), 3) := by decide +kernel
theorem dX9_lacks_139 : decode cX9_lacks 139 = .ok (.iload_n 2, 1) := by decide +kernel
theorem dX9_lacks_140 : decode cX9_lacks 140 = .ok (.ifCond .ge 7, 3) := by decide +kernel
theorem dX9_lacks_143 : decode cX9_lacks 143 = .ok (.iconst 0, 1) := by decide +kernel
theorem dX9_lacks_144 : decode cX9_lacks 144 = .ok (.goto 4, 3) := by decide +kernel
theorem dX9_lacks_147 : decode cX9_lacks 147 = .ok (.iload_n 2, 1) := by decide +kernel
theorem dX9_lacks_148 : decode cX9_lacks 148 = .ok (.ireturn, 1) := by decide +kernel
theorem dX9_idle_0 : decode cX9_idle 0 = .ok (.iload_n 1, 1) := by decide +kernel
theorem dX9_idle_1 : decode cX9_idle 1 = .ok (.iconst 1, 1) := by decide +kernel
theorem dX9_idle_2 : decode cX9_idle 2 = .ok (.sipush 500, 3) := by decide +kernel
theorem dX9_idle_5 : decode cX9_idle 5 = .ok (.invokestatic 114, 3) := by decide +kernel
theorem dX9_idle_8 : decode cX9_idle 8 = .ok (.istore_n 2, 1) := by decide +kernel
theorem dX9_idle_9 : decode cX9_idle 9 = .ok (.aload_n 0, 1) := by decide +kernel
theorem dX9_idle_10 : decode cX9_idle 10 = .ok (.iload_n 2, 1) := by decide +kernel
theorem dX9_idle_11 : decode cX9_idle 11 = .ok (.iload_n 2, 1) := by decide +kernel
theorem dX9_idle_12 : decode cX9_idle 12 = .ok (.ifCond .eq 18, 3) := by decide +kernel
theorem dX9_idle_15 : decode cX9_idle 15 = .ok (.aload_n 0, 1) := by decide +kernel
theorem dX9_idle_16 : decode cX9_idle 16 = .ok (.getfield 158, 3) := by decide +kernel
theorem dX9_idle_19 : decode cX9_idle 19 = .ok (.iload_n 1, 1) := by decide +kernel
theorem dX9_idle_20 : decode cX9_idle 20 = .ok (.iadd, 1) := by decide +kernel
theorem dX9_idle_21 : decode cX9_idle 21 = .ok (.ldc 197, 2) := by decide +kernel
theorem dX9_idle_23 : decode cX9_idle 23 = .ok (.if_icmp .gt 7, 3) := by decide +kernel
theorem dX9_idle_26 : decode cX9_idle 26 = .ok (.iconst 1, 1) := by decide +kernel
theorem dX9_idle_27 : decode cX9_idle 27 = .ok (.goto 4, 3) := by decide +kernel
theorem dX9_idle_30 : decode cX9_idle 30 = .ok (.iconst 0, 1) := by decide +kernel
theorem dX9_idle_31 : decode cX9_idle 31 = .ok (.iconst 1, 1) := by decide +kernel
theorem dX9_idle_32 : decode cX9_idle 32 = .ok (.invokevirtual 127, 3) := by decide +kernel
theorem dX9_idle_35 : decode cX9_idle 35 = .ok (.ifCond .ne 5, 3) := by decide +kernel
theorem dX9_idle_38 : decode cX9_idle 38 = .ok (.iconst 0, 1) := by decide +kernel
theorem dX9_idle_39 : decode cX9_idle 39 = .ok (.ireturn, 1) := by decide +kernel
theorem dX9_idle_40 : decode cX9_idle 40 = .ok (.aload_n 0, 1) := by decide +kernel
theorem dX9_idle_41 : decode cX9_idle 41 = .ok (.dup, 1) := by decide +kernel
theorem dX9_idle_42 : decode cX9_idle 42 = .ok (.getfield 158, 3) := by decide +kernel
theorem dX9_idle_45 : decode cX9_idle 45 = .ok (.iload_n 1, 1) := by decide +kernel
theorem dX9_idle_46 : decode cX9_idle 46 = .ok (.iadd, 1) := by decide +kernel
theorem dX9_idle_47 : decode cX9_idle 47 = .ok (.putfield 158, 3) := by decide +kernel
theorem dX9_idle_50 : decode cX9_idle 50 = .ok (.aload_n 0, 1) := by decide +kernel
theorem dX9_idle_51 : decode cX9_idle 51 = .ok (.aload_n 0, 1) := by decide +kernel
theorem dX9_idle_52 : decode cX9_idle 52 = .ok (.getfield 155, 3) := by decide +kernel
theorem dX9_idle_55 : decode cX9_idle 55 = .ok (.iload_n 1, 1) := by decide +kernel
theorem dX9_idle_56 : decode cX9_idle 56 = .ok (.if_icmp .le 12, 3) := by decide +kernel
theorem dX9_idle_59 : decode cX9_idle 59 = .ok (.aload_n 0, 1) := by decide +kernel
theorem dX9_idle_60 : decode cX9_idle 60 = .ok (.getfield 155, 3) := by decide +kernel
theorem dX9_idle_63 : decode cX9_idle 63 = .ok (.iload_n 1, 1) := by decide +kernel
theorem dX9_idle_64 : decode cX9_idle 64 = .ok (.isub, 1) := by decide +kernel
theorem dX9_idle_65 : decode cX9_idle 65 = .ok (.goto 4, 3) := by decide +kernel
theorem dX9_idle_68 : decode cX9_idle 68 = .ok (.iconst 0, 1) := by decide +kernel
theorem dX9_idle_69 : decode cX9_idle 69 = .ok (.putfield 155, 3) := by decide +kernel
theorem dX9_idle_72 : decode cX9_idle 72 = .ok (.aload_n 0, 1) := by decide +kernel
theorem dX9_idle_73 : decode cX9_idle 73 = .ok (.getfield 158, 3) := by decide +kernel
theorem dX9_idle_76 : decode cX9_idle 76 = .ok (.ireturn, 1) := by decide +kernel
theorem dX9_isGauge_0 : decode cX9_isGauge 0 = .ok (.iload_n 0, 1) := by decide +kernel
theorem dX9_isGauge_1 : decode cX9_isGauge 1 = .ok (.iconst 0, 1) := by decide +kernel
theorem dX9_isGauge_2 : decode cX9_isGauge 2 = .ok (.iconst 3, 1) := by decide +kernel
theorem dX9_isGauge_3 : decode cX9_isGauge 3 = .ok (.invokestatic 114, 3) := by decide +kernel
theorem dX9_isGauge_6 : decode cX9_isGauge 6 = .ok (.ireturn, 1) := by decide +kernel
theorem dX9_calibrate_0 : decode cX9_calibrate 0 = .ok (.aload_n 0, 1) := by decide +kernel
theorem dX9_calibrate_1 : decode cX9_calibrate 1 = .ok (.iload_n 1, 1) := by decide +kernel
theorem dX9_calibrate_2 : decode cX9_calibrate 2 = .ok (.invokestatic 198, 3) := by decide +kernel
theorem dX9_calibrate_5 : decode cX9_calibrate 5 = .ok (.iload_n 2, 1) := by decide +kernel
theorem dX9_calibrate_6 : decode cX9_calibrate 6 = .ok (.iconst 0, 1) := by decide +kernel
theorem dX9_calibrate_7 : decode cX9_calibrate 7 = .ok (.bipush 30, 2) := by decide +kernel
theorem dX9_calibrate_9 : decode cX9_calibrate 9 = .ok (.invokestatic 114, 3) := by decide +kernel
theorem dX9_calibrate_12 : decode cX9_calibrate 12 = .ok (.iconst 1, 1) := by decide +kernel
theorem dX9_calibrate_13 : decode cX9_calibrate 13 = .ok (.invokevirtual 127, 3) := by decide +kernel
theorem dX9_calibrate_16 : decode cX9_calibrate 16 = .ok (.ifCond .ne 5, 3) := by decide +kernel
theorem dX9_calibrate_19 : decode cX9_calibrate 19 = .ok (.iconst 0, 1) := by decide +kernel
theorem dX9_calibrate_20 : decode cX9_calibrate 20 = .ok (.ireturn, 1) := by decide +kernel
theorem dX9_calibrate_21 : decode cX9_calibrate 21 = .ok (.aload_n 0, 1) := by decide +kernel
theorem dX9_calibrate_22 : decode cX9_calibrate 22 = .ok (.getfield 77, 3) := by decide +kernel
theorem dX9_calibrate_25 : decode cX9_calibrate 25 = .ok (.iload_n 1, 1) := by decide +kernel
theorem dX9_calibrate_26 : decode cX9_calibrate 26 = .ok (.iconst 1, 1) := by decide +kernel
theorem dX9_calibrate_27 : decode cX9_calibrate 27 = .ok (.bastore, 1) := by decide +kernel
theorem dX9_calibrate_28 : decode cX9_calibrate 28 = .ok (.aload_n 0, 1) := by decide +kernel
theorem dX9_calibrate_29 : decode cX9_calibrate 29 = .ok (.getfield 74, 3) := by decide +kernel
theorem dX9_calibrate_32 : decode cX9_calibrate 32 = .ok (.iload_n 1, 1) := by decide +kernel
theorem dX9_calibrate_33 : decode cX9_calibrate 33 = .ok (.aload_n 0, 1) := by decide +kernel
theorem dX9_calibrate_34 : decode cX9_calibrate 34 = .ok (.getfield 158, 3) := by decide +kernel
theorem dX9_calibrate_37 : decode cX9_calibrate 37 = .ok (.iastore, 1) := by decide +kernel
theorem dX9_calibrate_38 : decode cX9_calibrate 38 = .ok (.aload_n 0, 1) := by decide +kernel
theorem dX9_calibrate_39 : decode cX9_calibrate 39 = .ok (.getfield 80, 3) := by decide +kernel
theorem dX9_calibrate_42 : decode cX9_calibrate 42 = .ok (.iload_n 1, 1) := by decide +kernel
theorem dX9_calibrate_43 : decode cX9_calibrate 43 = .ok (.iload_n 2, 1) := by decide +kernel
theorem dX9_calibrate_44 : decode cX9_calibrate 44 = .ok (.iastore, 1) := by decide +kernel
theorem dX9_calibrate_45 : decode cX9_calibrate 45 = .ok (.aload_n 0, 1) := by decide +kernel
theorem dX9_calibrate_46 : decode cX9_calibrate 46 = .ok (.getfield 158, 3) := by decide +kernel
theorem dX9_calibrate_49 : decode cX9_calibrate 49 = .ok (.sipush 1000, 3) := by decide +kernel
theorem dX9_calibrate_52 : decode cX9_calibrate 52 = .ok (.iadd, 1) := by decide +kernel
theorem dX9_calibrate_53 : decode cX9_calibrate 53 = .ok (.iconst 1, 1) := by decide +kernel
theorem dX9_calibrate_54 : decode cX9_calibrate 54 = .ok (.isub, 1) := by decide +kernel
theorem dX9_calibrate_55 : decode cX9_calibrate 55 = .ok (.ireturn, 1) := by decide +kernel
theorem dX9_drawing_0 : decode cX9_drawing 0 = .ok (.aload_n 0, 1) := by decide +kernel
theorem dX9_drawing_1 : decode cX9_drawing 1 = .ok (.aload_n 0, 1) := by decide +kernel
theorem dX9_drawing_2 : decode cX9_drawing 2 = .ok (.getfield 124, 3) := by decide +kernel
theorem dX9_drawing_5 : decode cX9_drawing 5 = .ok (.iconst 4, 1) := by decide +kernel
theorem dX9_drawing_6 : decode cX9_drawing 6 = .ok (.if_icmp .ge 7, 3) := by decide +kernel
theorem dX9_drawing_9 : decode cX9_drawing 9 = .ok (.iconst 1, 1) := by decide +kernel
theorem dX9_drawing_10 : decode cX9_drawing 10 = .ok (.goto 4, 3) := by decide +kernel
theorem dX9_drawing_13 : decode cX9_drawing 13 = .ok (.iconst 0, 1) := by decide +kernel
theorem dX9_drawing_14 : decode cX9_drawing 14 = .ok (.iconst 1, 1) := by decide +kernel
theorem dX9_drawing_15 : decode cX9_drawing 15 = .ok (.iconst 1, 1) := by decide +kernel
theorem dX9_drawing_16 : decode cX9_drawing 16 = .ok (.invokevirtual 127, 3) := by decide +kernel
theorem dX9_drawing_19 : decode cX9_drawing 19 = .ok (.ifCond .ne 5, 3) := by decide +kernel
theorem dX9_drawing_22 : decode cX9_drawing 22 = .ok (.iconst 0, 1) := by decide +kernel
theorem dX9_drawing_23 : decode cX9_drawing 23 = .ok (.ireturn, 1) := by decide +kernel
theorem dX9_drawing_24 : decode cX9_drawing 24 = .ok (.aload_n 0, 1) := by decide +kernel
theorem dX9_drawing_25 : decode cX9_drawing 25 = .ok (.dup, 1) := by decide +kernel
theorem dX9_drawing_26 : decode cX9_drawing 26 = .ok (.getfield 124, 3) := by decide +kernel
theorem dX9_drawing_29 : decode cX9_drawing 29 = .ok (.iconst 1, 1) := by decide +kernel
theorem dX9_drawing_30 : decode cX9_drawing 30 = .ok (.iadd, 1) := by decide +kernel
theorem dX9_drawing_31 : decode cX9_drawing 31 = .ok (.putfield 124, 3) := by decide +kernel
theorem dX9_drawing_34 : decode cX9_drawing 34 = .ok (.aload_n 0, 1) := by decide +kernel
theorem dX9_drawing_35 : decode cX9_drawing 35 = .ok (.getfield 124, 3) := by decide +kernel
theorem dX9_drawing_38 : decode cX9_drawing 38 = .ok (.iconst 1, 1) := by decide +kernel
theorem dX9_drawing_39 : decode cX9_drawing 39 = .ok (.isub, 1) := by decide +kernel
theorem dX9_drawing_40 : decode cX9_drawing 40 = .ok (.ireturn, 1) := by decide +kernel
theorem dX9_feature_0 : decode cX9_feature 0 = .ok (.aload_n 0, 1) := by decide +kernel
theorem dX9_feature_1 : decode cX9_feature 1 = .ok (.iload_n 1, 1) := by decide +kernel
theorem dX9_feature_2 : decode cX9_feature 2 = .ok (.invokevirtual 201, 3) := by decide +kernel
theorem dX9_feature_5 : decode cX9_feature 5 = .ok (.ifCond .eq 15, 3) := by decide +kernel
theorem dX9_feature_8 : decode cX9_feature 8 = .ok (.iload_n 2, 1) := by decide +kernel
theorem dX9_feature_9 : decode cX9_feature 9 = .ok (.iload_n 3, 1) := by decide +kernel
theorem dX9_feature_10 : decode cX9_feature 10 = .ok (.invokestatic 151, 3) := by decide +kernel
theorem dX9_feature_13 : decode cX9_feature 13 = .ok (.ifCond .eq 7, 3) := by decide +kernel
theorem dX9_feature_16 : decode cX9_feature 16 = .ok (.iconst 1, 1) := by decide +kernel
theorem dX9_feature_17 : decode cX9_feature 17 = .ok (.goto 4, 3) := by decide +kernel
theorem dX9_feature_20 : decode cX9_feature 20 = .ok (.iconst 0, 1) := by decide +kernel
theorem dX9_feature_21 : decode cX9_feature 21 = .ok (.istore 6, 2) := by decide +kernel
theorem dX9_feature_23 : decode cX9_feature 23 = .ok (.aload_n 0, 1) := by decide +kernel
theorem dX9_feature_24 : decode cX9_feature 24 = .ok (.iload 6, 2) := by decide +kernel
theorem dX9_feature_26 : decode cX9_feature 26 = .ok (.iload 4, 2) := by decide +kernel
theorem dX9_feature_28 : decode cX9_feature 28 = .ok (.iconst 0, 1) := by decide +kernel
theorem dX9_feature_29 : decode cX9_feature 29 = .ok (.bipush 9, 2) := by decide +kernel
theorem dX9_feature_31 : decode cX9_feature 31 = .ok (.invokestatic 114, 3) := by decide +kernel
theorem dX9_feature_34 : decode cX9_feature 34 = .ok (.ifCond .eq 18, 3) := by decide +kernel
theorem dX9_feature_37 : decode cX9_feature 37 = .ok (.iload 5, 2) := by decide +kernel
theorem dX9_feature_39 : decode cX9_feature 39 = .ok (.iconst 1, 1) := by decide +kernel
theorem dX9_feature_40 : decode cX9_feature 40 = .ok (.bipush 99, 2) := by decide +kernel
theorem dX9_feature_42 : decode cX9_feature 42 = .ok (.invokestatic 114, 3) := by decide +kernel
theorem dX9_feature_45 : decode cX9_feature 45 = .ok (.ifCond .eq 7, 3) := by decide +kernel
theorem dX9_feature_48 : decode cX9_feature 48 = .ok (.iconst 1, 1) := by decide +kernel
theorem dX9_feature_49 : decode cX9_feature 49 = .ok (.goto 4, 3) := by decide +kernel
theorem dX9_feature_52 : decode cX9_feature 52 = .ok (.iconst 0, 1) := by decide +kernel
theorem dX9_feature_53 : decode cX9_feature 53 = .ok (.iload 6, 2) := by decide +kernel
theorem dX9_feature_55 : decode cX9_feature 55 = .ok (.ifCond .eq 18, 3) := by decide +kernel
theorem dX9_feature_58 : decode cX9_feature 58 = .ok (.aload_n 0, 1) := by decide +kernel
theorem dX9_feature_59 : decode cX9_feature 59 = .ok (.getfield 86, 3) := by decide +kernel
theorem dX9_feature_62 : decode cX9_feature 62 = .ok (.iload_n 1, 1) := by decide +kernel
theorem dX9_feature_63 : decode cX9_feature 63 = .ok (.iaload, 1) := by decide +kernel
theorem dX9_feature_64 : decode cX9_feature 64 = .ok (.bipush 6, 2) := by decide +kernel
theorem dX9_feature_66 : decode cX9_feature 66 = .ok (.if_icmp .ge 7, 3) := by decide +kernel
theorem dX9_feature_69 : decode cX9_feature 69 = .ok (.iconst 1, 1) := by decide +kernel
theorem dX9_feature_70 : decode cX9_feature 70 = .ok (.goto 4, 3) := by decide +kernel
theorem dX9_feature_73 : decode cX9_feature 73 = .ok (.iconst 0, 1) := by decide +kernel
theorem dX9_feature_74 : decode cX9_feature 74 = .ok (.invokevirtual 127, 3) := by decide +kernel
theorem dX9_feature_77 : decode cX9_feature 77 = .ok (.ifCond .ne 5, 3) := by decide +kernel
theorem dX9_feature_80 : decode cX9_feature 80 = .ok (.iconst 0, 1) := by decide +kernel
theorem dX9_feature_81 : decode cX9_feature 81 = .ok (.ireturn, 1) := by decide +kernel
theorem dX9_feature_82 : decode cX9_feature 82 = .ok (.bipush 6, 2) := by decide +kernel
theorem dX9_feature_84 : decode cX9_feature 84 = .ok (.bipush 6, 2) := by decide +kernel
theorem dX9_feature_86 : decode cX9_feature 86 = .ok (.iload_n 1, 1) := by decide +kernel
theorem dX9_feature_87 : decode cX9_feature 87 = .ok (.imul, 1) := by decide +kernel
theorem dX9_feature_88 : decode cX9_feature 88 = .ok (.aload_n 0, 1) := by decide +kernel
theorem dX9_feature_89 : decode cX9_feature 89 = .ok (.getfield 86, 3) := by decide +kernel
theorem dX9_feature_92 : decode cX9_feature 92 = .ok (.iload_n 1, 1) := by decide +kernel
theorem dX9_feature_93 : decode cX9_feature 93 = .ok (.iaload, 1) := by decide +kernel
theorem dX9_feature_94 : decode cX9_feature 94 = .ok (.iadd, 1) := by decide +kernel
theorem dX9_feature_95 : decode cX9_feature 95 = .ok (.imul, 1) := by decide +kernel
theorem dX9_feature_96 : decode cX9_feature 96 = .ok (.istore 7, 2) := by decide +kernel
theorem dX9_feature_98 : decode cX9_feature 98 = .ok (.aload_n 0, 1) := by decide +kernel
theorem dX9_feature_99 : decode cX9_feature 99 = .ok (.getfield 83, 3) := by decide +kernel
theorem dX9_feature_102 : decode cX9_feature 102 = .ok (.iload 7, 2) := by decide +kernel
theorem dX9_feature_104 : decode cX9_feature 104 = .ok (.iload_n 2, 1) := by decide +kernel
theorem dX9_feature_105 : decode cX9_feature 105 = .ok (.iastore, 1) := by decide +kernel
theorem dX9_feature_106 : decode cX9_feature 106 = .ok (.aload_n 0, 1) := by decide +kernel
theorem dX9_feature_107 : decode cX9_feature 107 = .ok (.getfield 83, 3) := by decide +kernel
theorem dX9_feature_110 : decode cX9_feature 110 = .ok (.iload 7, 2) := by decide +kernel
theorem dX9_feature_112 : decode cX9_feature 112 = .ok (.iconst 1, 1) := by decide +kernel
theorem dX9_feature_113 : decode cX9_feature 113 = .ok (.iadd, 1) := by decide +kernel
theorem dX9_feature_114 : decode cX9_feature 114 = .ok (.iload_n 3, 1) := by decide +kernel
theorem dX9_feature_115 : decode cX9_feature 115 = .ok (.iastore, 1) := by decide +kernel
theorem dX9_feature_116 : decode cX9_feature 116 = .ok (.aload_n 0, 1) := by decide +kernel
theorem dX9_feature_117 : decode cX9_feature 117 = .ok (.getfield 83, 3) := by decide +kernel
theorem dX9_feature_120 : decode cX9_feature 120 = .ok (.iload 7, 2) := by decide +kernel
theorem dX9_feature_122 : decode cX9_feature 122 = .ok (.iconst 2, 1) := by decide +kernel
theorem dX9_feature_123 : decode cX9_feature 123 = .ok (.iadd, 1) := by decide +kernel
theorem dX9_feature_124 : decode cX9_feature 124 = .ok (.iload 4, 2) := by decide +kernel
theorem dX9_feature_126 : decode cX9_feature 126 = .ok (.iastore, 1) := by decide +kernel
theorem dX9_feature_127 : decode cX9_feature 127 = .ok (.aload_n 0, 1) := by decide +kernel
theorem dX9_feature_128 : decode cX9_feature 128 = .ok (.getfield 83, 3) := by decide +kernel
theorem dX9_feature_131 : decode cX9_feature 131 = .ok (.iload 7, 2) := by decide +kernel
theorem dX9_feature_133 : decode cX9_feature 133 = .ok (.iconst 3, 1) := by decide +kernel
theorem dX9_feature_134 : decode cX9_feature 134 = .ok (.iadd, 1) := by decide +kernel
theorem dX9_feature_135 : decode cX9_feature 135 = .ok (.iload 5, 2) := by decide +kernel
theorem dX9_feature_137 : decode cX9_feature 137 = .ok (.iastore, 1) := by decide +kernel
theorem dX9_feature_138 : decode cX9_feature 138 = .ok (.aload_n 0, 1) := by decide +kernel
theorem dX9_feature_139 : decode cX9_feature 139 = .ok (.getfield 86, 3) := by decide +kernel
theorem dX9_feature_142 : decode cX9_feature 142 = .ok (.iload_n 1, 1) := by decide +kernel
theorem dX9_feature_143 : decode cX9_feature 143 = .ok (.dup2, 1) := by decide +kernel
theorem dX9_feature_144 : decode cX9_feature 144 = .ok (.iaload, 1) := by decide +kernel
theorem dX9_feature_145 : decode cX9_feature 145 = .ok (.iconst 1, 1) := by decide +kernel
theorem dX9_feature_146 : decode cX9_feature 146 = .ok (.iadd, 1) := by decide +kernel
theorem dX9_feature_147 : decode cX9_feature 147 = .ok (.iastore, 1) := by decide +kernel
theorem dX9_feature_148 : decode cX9_feature 148 = .ok (.aload_n 0, 1) := by decide +kernel
theorem dX9_feature_149 : decode cX9_feature 149 = .ok (.getfield 86, 3) := by decide +kernel
theorem dX9_feature_152 : decode cX9_feature 152 = .ok (.iload_n 1, 1) := by decide +kernel
theorem dX9_feature_153 : decode cX9_feature 153 = .ok (.iaload, 1) := by decide +kernel
theorem dX9_feature_154 : decode cX9_feature 154 = .ok (.ireturn, 1) := by decide +kernel
theorem dX9_allow_0 : decode cX9_allow 0 = .ok (.aload_n 0, 1) := by decide +kernel
theorem dX9_allow_1 : decode cX9_allow 1 = .ok (.iload_n 1, 1) := by decide +kernel
theorem dX9_allow_2 : decode cX9_allow 2 = .ok (.invokevirtual 201, 3) := by decide +kernel
theorem dX9_allow_5 : decode cX9_allow 5 = .ok (.ifCond .eq 35, 3) := by decide +kernel
theorem dX9_allow_8 : decode cX9_allow 8 = .ok (.iload_n 2, 1) := by decide +kernel
theorem dX9_allow_9 : decode cX9_allow 9 = .ok (.iconst 0, 1) := by decide +kernel
theorem dX9_allow_10 : decode cX9_allow 10 = .ok (.aload_n 0, 1) := by decide +kernel
theorem dX9_allow_11 : decode cX9_allow 11 = .ok (.getfield 86, 3) := by decide +kernel
theorem dX9_allow_14 : decode cX9_allow 14 = .ok (.aload_n 0, 1) := by decide +kernel
theorem dX9_allow_15 : decode cX9_allow 15 = .ok (.iload_n 1, 1) := by decide +kernel
theorem dX9_allow_16 : decode cX9_allow 16 = .ok (.invokevirtual 201, 3) := by decide +kernel
theorem dX9_allow_19 : decode cX9_allow 19 = .ok (.ifCond .eq 7, 3) := by decide +kernel
theorem dX9_allow_22 : decode cX9_allow 22 = .ok (.iload_n 1, 1) := by decide +kernel
theorem dX9_allow_23 : decode cX9_allow 23 = .ok (.goto 4, 3) := by decide +kernel
theorem dX9_allow_26 : decode cX9_allow 26 = .ok (.iconst 0, 1) := by decide +kernel
theorem dX9_allow_27 : decode cX9_allow 27 = .ok (.iaload, 1) := by decide +kernel
theorem dX9_allow_28 : decode cX9_allow 28 = .ok (.iconst 1, 1) := by decide +kernel
theorem dX9_allow_29 : decode cX9_allow 29 = .ok (.isub, 1) := by decide +kernel
theorem dX9_allow_30 : decode cX9_allow 30 = .ok (.invokestatic 114, 3) := by decide +kernel
theorem dX9_allow_33 : decode cX9_allow 33 = .ok (.ifCond .eq 7, 3) := by decide +kernel
theorem dX9_allow_36 : decode cX9_allow 36 = .ok (.iconst 1, 1) := by decide +kernel
theorem dX9_allow_37 : decode cX9_allow 37 = .ok (.goto 4, 3) := by decide +kernel
theorem dX9_allow_40 : decode cX9_allow 40 = .ok (.iconst 0, 1) := by decide +kernel
theorem dX9_allow_41 : decode cX9_allow 41 = .ok (.istore 5, 2) := by decide +kernel
theorem dX9_allow_43 : decode cX9_allow 43 = .ok (.aload_n 0, 1) := by decide +kernel
theorem dX9_allow_44 : decode cX9_allow 44 = .ok (.iload 5, 2) := by decide +kernel
theorem dX9_allow_46 : decode cX9_allow 46 = .ok (.iload_n 3, 1) := by decide +kernel
theorem dX9_allow_47 : decode cX9_allow 47 = .ok (.iconst 0, 1) := by decide +kernel
theorem dX9_allow_48 : decode cX9_allow 48 = .ok (.bipush 99, 2) := by decide +kernel
theorem dX9_allow_50 : decode cX9_allow 50 = .ok (.invokestatic 114, 3) := by decide +kernel
theorem dX9_allow_53 : decode cX9_allow 53 = .ok (.ifCond .eq 18, 3) := by decide +kernel
theorem dX9_allow_56 : decode cX9_allow 56 = .ok (.iload 4, 2) := by decide +kernel
theorem dX9_allow_58 : decode cX9_allow 58 = .ok (.iconst 1, 1) := by decide +kernel
theorem dX9_allow_59 : decode cX9_allow 59 = .ok (.bipush 9, 2) := by decide +kernel
theorem dX9_allow_61 : decode cX9_allow 61 = .ok (.invokestatic 114, 3) := by decide +kernel
theorem dX9_allow_64 : decode cX9_allow 64 = .ok (.ifCond .eq 7, 3) := by decide +kernel
theorem dX9_allow_67 : decode cX9_allow 67 = .ok (.iconst 1, 1) := by decide +kernel
theorem dX9_allow_68 : decode cX9_allow 68 = .ok (.goto 4, 3) := by decide +kernel
theorem dX9_allow_71 : decode cX9_allow 71 = .ok (.iconst 0, 1) := by decide +kernel
theorem dX9_allow_72 : decode cX9_allow 72 = .ok (.iconst 1, 1) := by decide +kernel
theorem dX9_allow_73 : decode cX9_allow 73 = .ok (.invokevirtual 127, 3) := by decide +kernel
theorem dX9_allow_76 : decode cX9_allow 76 = .ok (.ifCond .ne 5, 3) := by decide +kernel
theorem dX9_allow_79 : decode cX9_allow 79 = .ok (.iconst 0, 1) := by decide +kernel
theorem dX9_allow_80 : decode cX9_allow 80 = .ok (.ireturn, 1) := by decide +kernel
theorem dX9_allow_81 : decode cX9_allow 81 = .ok (.bipush 6, 2) := by decide +kernel
theorem dX9_allow_83 : decode cX9_allow 83 = .ok (.bipush 6, 2) := by decide +kernel
theorem dX9_allow_85 : decode cX9_allow 85 = .ok (.iload_n 1, 1) := by decide +kernel
theorem dX9_allow_86 : decode cX9_allow 86 = .ok (.imul, 1) := by decide +kernel
theorem dX9_allow_87 : decode cX9_allow 87 = .ok (.iload_n 2, 1) := by decide +kernel
theorem dX9_allow_88 : decode cX9_allow 88 = .ok (.iadd, 1) := by decide +kernel
theorem dX9_allow_89 : decode cX9_allow 89 = .ok (.imul, 1) := by decide +kernel
theorem dX9_allow_90 : decode cX9_allow 90 = .ok (.istore 6, 2) := by decide +kernel
theorem dX9_allow_92 : decode cX9_allow 92 = .ok (.aload_n 0, 1) := by decide +kernel
theorem dX9_allow_93 : decode cX9_allow 93 = .ok (.getfield 83, 3) := by decide +kernel
theorem dX9_allow_96 : decode cX9_allow 96 = .ok (.iload 6, 2) := by decide +kernel
theorem dX9_allow_98 : decode cX9_allow 98 = .ok (.iconst 4, 1) := by decide +kernel
theorem dX9_allow_99 : decode cX9_allow 99 = .ok (.iadd, 1) := by decide +kernel
theorem dX9_allow_100 : decode cX9_allow 100 = .ok (.iload_n 3, 1) := by decide +kernel
theorem dX9_allow_101 : decode cX9_allow 101 = .ok (.iastore, 1) := by decide +kernel
theorem dX9_allow_102 : decode cX9_allow 102 = .ok (.aload_n 0, 1) := by decide +kernel
theorem dX9_allow_103 : decode cX9_allow 103 = .ok (.getfield 83, 3) := by decide +kernel
theorem dX9_allow_106 : decode cX9_allow 106 = .ok (.iload 6, 2) := by decide +kernel
theorem dX9_allow_108 : decode cX9_allow 108 = .ok (.iconst 5, 1) := by decide +kernel
theorem dX9_allow_109 : decode cX9_allow 109 = .ok (.iadd, 1) := by decide +kernel
theorem dX9_allow_110 : decode cX9_allow 110 = .ok (.iload 4, 2) := by decide +kernel
theorem dX9_allow_112 : decode cX9_allow 112 = .ok (.iastore, 1) := by decide +kernel
theorem dX9_allow_113 : decode cX9_allow 113 = .ok (.aload_n 0, 1) := by decide +kernel
theorem dX9_allow_114 : decode cX9_allow 114 = .ok (.getfield 83, 3) := by decide +kernel
theorem dX9_allow_117 : decode cX9_allow 117 = .ok (.iload 6, 2) := by decide +kernel
theorem dX9_allow_119 : decode cX9_allow 119 = .ok (.iconst 3, 1) := by decide +kernel
theorem dX9_allow_120 : decode cX9_allow 120 = .ok (.iadd, 1) := by decide +kernel
theorem dX9_allow_121 : decode cX9_allow 121 = .ok (.iaload, 1) := by decide +kernel
theorem dX9_allow_122 : decode cX9_allow 122 = .ok (.iload_n 3, 1) := by decide +kernel
theorem dX9_allow_123 : decode cX9_allow 123 = .ok (.iadd, 1) := by decide +kernel
theorem dX9_allow_124 : decode cX9_allow 124 = .ok (.ireturn, 1) := by decide +kernel
theorem dX9_sizeOf_0 : decode cX9_sizeOf 0 = .ok (.sipush 1000, 3) := by decide +kernel
theorem dX9_sizeOf_3 : decode cX9_sizeOf 3 = .ok (.aload_n 0, 1) := by decide +kernel
theorem dX9_sizeOf_4 : decode cX9_sizeOf 4 = .ok (.getfield 44, 3) := by decide +kernel
theorem dX9_sizeOf_7 : decode cX9_sizeOf 7 = .ok (.iload_n 1, 1) := by decide +kernel
theorem dX9_sizeOf_8 : decode cX9_sizeOf 8 = .ok (.iaload, 1) := by decide +kernel
theorem dX9_sizeOf_9 : decode cX9_sizeOf 9 = .ok (.imul, 1) := by decide +kernel
theorem dX9_sizeOf_10 : decode cX9_sizeOf 10 = .ok (.istore_n 2, 1) := by decide +kernel
theorem dX9_sizeOf_11 : decode cX9_sizeOf 11 = .ok (.iconst 0, 1) := by decide +kernel
theorem dX9_sizeOf_12 : decode cX9_sizeOf 12 = .ok (.istore_n 3, 1) := by decide +kernel
theorem dX9_sizeOf_13 : decode cX9_sizeOf 13 = .ok (.iload_n 3, 1) := by decide +kernel
theorem dX9_sizeOf_14 : decode cX9_sizeOf 14 = .ok (.iconst 4, 1) := by decide +kernel
theorem dX9_sizeOf_15 : decode cX9_sizeOf 15 = .ok (.if_icmp .ge 32, 3) := by decide +kernel
theorem dX9_sizeOf_18 : decode cX9_sizeOf 18 = .ok (.aload_n 0, 1) := by decide +kernel
theorem dX9_sizeOf_19 : decode cX9_sizeOf 19 = .ok (.getfield 50, 3) := by decide +kernel
theorem dX9_sizeOf_22 : decode cX9_sizeOf 22 = .ok (.iload_n 1, 1) := by decide +kernel
theorem dX9_sizeOf_23 : decode cX9_sizeOf 23 = .ok (.iaload, 1) := by decide +kernel
theorem dX9_sizeOf_24 : decode cX9_sizeOf 24 = .ok (.iconst (-1), 1) := by decide +kernel
theorem dX9_sizeOf_25 : decode cX9_sizeOf 25 = .ok (.if_icmp .eq 22, 3) := by decide +kernel
theorem dX9_sizeOf_28 : decode cX9_sizeOf 28 = .ok (.iload_n 2, 1) := by decide +kernel
theorem dX9_sizeOf_29 : decode cX9_sizeOf 29 = .ok (.aload_n 0, 1) := by decide +kernel
theorem dX9_sizeOf_30 : decode cX9_sizeOf 30 = .ok (.getfield 53, 3) := by decide +kernel
theorem dX9_sizeOf_33 : decode cX9_sizeOf 33 = .ok (.iconst 4, 1) := by decide +kernel
theorem dX9_sizeOf_34 : decode cX9_sizeOf 34 = .ok (.iload_n 1, 1) := by decide +kernel
theorem dX9_sizeOf_35 : decode cX9_sizeOf 35 = .ok (.imul, 1) := by decide +kernel
theorem dX9_sizeOf_36 : decode cX9_sizeOf 36 = .ok (.iload_n 3, 1) := by decide +kernel
theorem dX9_sizeOf_37 : decode cX9_sizeOf 37 = .ok (.iadd, 1) := by decide +kernel
theorem dX9_sizeOf_38 : decode cX9_sizeOf 38 = .ok (.iaload, 1) := by decide +kernel
theorem dX9_sizeOf_39 : decode cX9_sizeOf 39 = .ok (.iadd, 1) := by decide +kernel
theorem dX9_sizeOf_40 : decode cX9_sizeOf 40 = .ok (.istore_n 2, 1) := by decide +kernel
theorem dX9_sizeOf_41 : decode cX9_sizeOf 41 = .ok (.iinc 3 1, 3) := by decide +kernel
theorem dX9_sizeOf_44 : decode cX9_sizeOf 44 = .ok (.goto (-31), 3) := by decide +kernel
theorem dX9_sizeOf_47 : decode cX9_sizeOf 47 = .ok (.iload_n 2, 1) := by decide +kernel
theorem dX9_sizeOf_48 : decode cX9_sizeOf 48 = .ok (.ireturn, 1) := by decide +kernel
theorem dX9_tells_0 : decode cX9_tells 0 = .ok (.aload_n 0, 1) := by decide +kernel
theorem dX9_tells_1 : decode cX9_tells 1 = .ok (.getfield 38, 3) := by decide +kernel
theorem dX9_tells_4 : decode cX9_tells 4 = .ok (.iconst 3, 1) := by decide +kernel
theorem dX9_tells_5 : decode cX9_tells 5 = .ok (.iload_n 1, 1) := by decide +kernel
theorem dX9_tells_6 : decode cX9_tells 6 = .ok (.imul, 1) := by decide +kernel
theorem dX9_tells_7 : decode cX9_tells 7 = .ok (.iconst 2, 1) := by decide +kernel
theorem dX9_tells_8 : decode cX9_tells 8 = .ok (.iadd, 1) := by decide +kernel
theorem dX9_tells_9 : decode cX9_tells 9 = .ok (.aload_n 0, 1) := by decide +kernel
theorem dX9_tells_10 : decode cX9_tells 10 = .ok (.getfield 38, 3) := by decide +kernel
theorem dX9_tells_13 : decode cX9_tells 13 = .ok (.iconst 3, 1) := by decide +kernel
theorem dX9_tells_14 : decode cX9_tells 14 = .ok (.iload_n 1, 1) := by decide +kernel
theorem dX9_tells_15 : decode cX9_tells 15 = .ok (.imul, 1) := by decide +kernel
theorem dX9_tells_16 : decode cX9_tells 16 = .ok (.iconst 1, 1) := by decide +kernel
theorem dX9_tells_17 : decode cX9_tells 17 = .ok (.iadd, 1) := by decide +kernel
theorem dX9_tells_18 : decode cX9_tells 18 = .ok (.iaload, 1) := by decide +kernel
theorem dX9_tells_19 : decode cX9_tells 19 = .ok (.iastore, 1) := by decide +kernel
theorem dX9_tells_20 : decode cX9_tells 20 = .ok (.aload_n 0, 1) := by decide +kernel
theorem dX9_tells_21 : decode cX9_tells 21 = .ok (.getfield 38, 3) := by decide +kernel
theorem dX9_tells_24 : decode cX9_tells 24 = .ok (.iconst 3, 1) := by decide +kernel
theorem dX9_tells_25 : decode cX9_tells 25 = .ok (.iload_n 1, 1) := by decide +kernel
theorem dX9_tells_26 : decode cX9_tells 26 = .ok (.imul, 1) := by decide +kernel
theorem dX9_tells_27 : decode cX9_tells 27 = .ok (.iconst 1, 1) := by decide +kernel
theorem dX9_tells_28 : decode cX9_tells 28 = .ok (.iadd, 1) := by decide +kernel
theorem dX9_tells_29 : decode cX9_tells 29 = .ok (.aload_n 0, 1) := by decide +kernel
theorem dX9_tells_30 : decode cX9_tells 30 = .ok (.getfield 38, 3) := by decide +kernel
theorem dX9_tells_33 : decode cX9_tells 33 = .ok (.iconst 3, 1) := by decide +kernel
theorem dX9_tells_34 : decode cX9_tells 34 = .ok (.iload_n 1, 1) := by decide +kernel
theorem dX9_tells_35 : decode cX9_tells 35 = .ok (.imul, 1) := by decide +kernel
theorem dX9_tells_36 : decode cX9_tells 36 = .ok (.iaload, 1) := by decide +kernel
theorem dX9_tells_37 : decode cX9_tells 37 = .ok (.iastore, 1) := by decide +kernel
theorem dX9_tells_38 : decode cX9_tells 38 = .ok (.aload_n 0, 1) := by decide +kernel
theorem dX9_tells_39 : decode cX9_tells 39 = .ok (.getfield 38, 3) := by decide +kernel
theorem dX9_tells_42 : decode cX9_tells 42 = .ok (.iconst 3, 1) := by decide +kernel
theorem dX9_tells_43 : decode cX9_tells 43 = .ok (.iload_n 1, 1) := by decide +kernel
theorem dX9_tells_44 : decode cX9_tells 44 = .ok (.imul, 1) := by decide +kernel
theorem dX9_tells_45 : decode cX9_tells 45 = .ok (.iload_n 2, 1) := by decide +kernel
theorem dX9_tells_46 : decode cX9_tells 46 = .ok (.iastore, 1) := by decide +kernel
theorem dX9_tells_47 : decode cX9_tells 47 = .ok (.aload_n 0, 1) := by decide +kernel
theorem dX9_tells_48 : decode cX9_tells 48 = .ok (.getfield 41, 3) := by decide +kernel
theorem dX9_tells_51 : decode cX9_tells 51 = .ok (.iload_n 1, 1) := by decide +kernel
theorem dX9_tells_52 : decode cX9_tells 52 = .ok (.dup2, 1) := by decide +kernel
theorem dX9_tells_53 : decode cX9_tells 53 = .ok (.iaload, 1) := by decide +kernel
theorem dX9_tells_54 : decode cX9_tells 54 = .ok (.iconst 1, 1) := by decide +kernel
theorem dX9_tells_55 : decode cX9_tells 55 = .ok (.iadd, 1) := by decide +kernel
theorem dX9_tells_56 : decode cX9_tells 56 = .ok (.iastore, 1) := by decide +kernel
theorem dX9_tells_57 : decode cX9_tells 57 = .ok (.return_, 1) := by decide +kernel
theorem dX9_verdictOf_0 : decode cX9_verdictOf 0 = .ok (.bipush 18, 2) := by decide +kernel
theorem dX9_verdictOf_2 : decode cX9_verdictOf 2 = .ok (.iload_n 1, 1) := by decide +kernel
theorem dX9_verdictOf_3 : decode cX9_verdictOf 3 = .ok (.imul, 1) := by decide +kernel
theorem dX9_verdictOf_4 : decode cX9_verdictOf 4 = .ok (.istore_n 2, 1) := by decide +kernel
theorem dX9_verdictOf_5 : decode cX9_verdictOf 5 = .ok (.iconst 0, 1) := by decide +kernel
theorem dX9_verdictOf_6 : decode cX9_verdictOf 6 = .ok (.istore_n 3, 1) := by decide +kernel
theorem dX9_verdictOf_7 : decode cX9_verdictOf 7 = .ok (.iconst 0, 1) := by decide +kernel
theorem dX9_verdictOf_8 : decode cX9_verdictOf 8 = .ok (.istore 4, 2) := by decide +kernel
theorem dX9_verdictOf_10 : decode cX9_verdictOf 10 = .ok (.iload 4, 2) := by decide +kernel
theorem dX9_verdictOf_12 : decode cX9_verdictOf 12 = .ok (.aload_n 0, 1) := by decide +kernel
theorem dX9_verdictOf_13 : decode cX9_verdictOf 13 = .ok (.getfield 89, 3) := by decide +kernel
theorem dX9_verdictOf_16 : decode cX9_verdictOf 16 = .ok (.iload_n 2, 1) := by decide +kernel
theorem dX9_verdictOf_17 : decode cX9_verdictOf 17 = .ok (.bipush 17, 2) := by decide +kernel
theorem dX9_verdictOf_19 : decode cX9_verdictOf 19 = .ok (.iadd, 1) := by decide +kernel
theorem dX9_verdictOf_20 : decode cX9_verdictOf 20 = .ok (.iaload, 1) := by decide +kernel
theorem dX9_verdictOf_21 : decode cX9_verdictOf 21 = .ok (.if_icmp .ge 101, 3) := by decide +kernel
theorem dX9_verdictOf_24 : decode cX9_verdictOf 24 = .ok (.aload_n 0, 1) := by decide +kernel
theorem dX9_verdictOf_25 : decode cX9_verdictOf 25 = .ok (.getfield 89, 3) := by decide +kernel
theorem dX9_verdictOf_28 : decode cX9_verdictOf 28 = .ok (.iload_n 2, 1) := by decide +kernel
theorem dX9_verdictOf_29 : decode cX9_verdictOf 29 = .ok (.iconst 5, 1) := by decide +kernel
theorem dX9_verdictOf_30 : decode cX9_verdictOf 30 = .ok (.iadd, 1) := by decide +kernel
theorem dX9_verdictOf_31 : decode cX9_verdictOf 31 = .ok (.iload 4, 2) := by decide +kernel
theorem dX9_verdictOf_33 : decode cX9_verdictOf 33 = .ok (.iadd, 1) := by decide +kernel
theorem dX9_verdictOf_34 : decode cX9_verdictOf 34 = .ok (.iaload, 1) := by decide +kernel
theorem dX9_verdictOf_35 : decode cX9_verdictOf 35 = .ok (.invokestatic 204, 3) := by decide +kernel
theorem dX9_verdictOf_38 : decode cX9_verdictOf 38 = .ok (.istore 5, 2) := by decide +kernel
theorem dX9_verdictOf_40 : decode cX9_verdictOf 40 = .ok (.iload 5, 2) := by decide +kernel
theorem dX9_verdictOf_42 : decode cX9_verdictOf 42 = .ok (.aload_n 0, 1) := by decide +kernel
theorem dX9_verdictOf_43 : decode cX9_verdictOf 43 = .ok (.getfield 89, 3) := by decide +kernel
theorem dX9_verdictOf_46 : decode cX9_verdictOf 46 = .ok (.iload_n 2, 1) := by decide +kernel
theorem dX9_verdictOf_47 : decode cX9_verdictOf 47 = .ok (.bipush 11, 2) := by decide +kernel
theorem dX9_verdictOf_49 : decode cX9_verdictOf 49 = .ok (.iadd, 1) := by decide +kernel
theorem dX9_verdictOf_50 : decode cX9_verdictOf 50 = .ok (.iload 4, 2) := by decide +kernel
theorem dX9_verdictOf_52 : decode cX9_verdictOf 52 = .ok (.iadd, 1) := by decide +kernel
theorem dX9_verdictOf_53 : decode cX9_verdictOf 53 = .ok (.iaload, 1) := by decide +kernel
theorem dX9_verdictOf_54 : decode cX9_verdictOf 54 = .ok (.aload_n 0, 1) := by decide +kernel
theorem dX9_verdictOf_55 : decode cX9_verdictOf 55 = .ok (.getfield 89, 3) := by decide +kernel
theorem dX9_verdictOf_58 : decode cX9_verdictOf 58 = .ok (.iload_n 2, 1) := by decide +kernel
theorem dX9_verdictOf_59 : decode cX9_verdictOf 59 = .ok (.iconst 4, 1) := by decide +kernel
theorem dX9_verdictOf_60 : decode cX9_verdictOf 60 = .ok (.iadd, 1) := by decide +kernel
theorem dX9_verdictOf_61 : decode cX9_verdictOf 61 = .ok (.iaload, 1) := by decide +kernel
theorem dX9_verdictOf_62 : decode cX9_verdictOf 62 = .ok (.iadd, 1) := by decide +kernel
theorem dX9_verdictOf_63 : decode cX9_verdictOf 63 = .ok (.if_icmp .le 7, 3) := by decide +kernel
theorem dX9_verdictOf_66 : decode cX9_verdictOf 66 = .ok (.iconst 2, 1) := by decide +kernel
theorem dX9_verdictOf_67 : decode cX9_verdictOf 67 = .ok (.goto 34, 3) := by decide +kernel
theorem dX9_verdictOf_70 : decode cX9_verdictOf 70 = .ok (.iload 5, 2) := by decide +kernel
theorem dX9_verdictOf_72 : decode cX9_verdictOf 72 = .ok (.aload_n 0, 1) := by decide +kernel
theorem dX9_verdictOf_73 : decode cX9_verdictOf 73 = .ok (.getfield 89, 3) := by decide +kernel
theorem dX9_verdictOf_76 : decode cX9_verdictOf 76 = .ok (.iload_n 2, 1) := by decide +kernel
theorem dX9_verdictOf_77 : decode cX9_verdictOf 77 = .ok (.bipush 11, 2) := by decide +kernel
theorem dX9_verdictOf_79 : decode cX9_verdictOf 79 = .ok (.iadd, 1) := by decide +kernel
theorem dX9_verdictOf_80 : decode cX9_verdictOf 80 = .ok (.iload 4, 2) := by decide +kernel
theorem dX9_verdictOf_82 : decode cX9_verdictOf 82 = .ok (.iadd, 1) := by decide +kernel
theorem dX9_verdictOf_83 : decode cX9_verdictOf 83 = .ok (.iaload, 1) := by decide +kernel
theorem dX9_verdictOf_84 : decode cX9_verdictOf 84 = .ok (.aload_n 0, 1) := by decide +kernel
theorem dX9_verdictOf_85 : decode cX9_verdictOf 85 = .ok (.getfield 89, 3) := by decide +kernel
theorem dX9_verdictOf_88 : decode cX9_verdictOf 88 = .ok (.iload_n 2, 1) := by decide +kernel
theorem dX9_verdictOf_89 : decode cX9_verdictOf 89 = .ok (.iconst 4, 1) := by decide +kernel
theorem dX9_verdictOf_90 : decode cX9_verdictOf 90 = .ok (.iadd, 1) := by decide +kernel
theorem dX9_verdictOf_91 : decode cX9_verdictOf 91 = .ok (.iaload, 1) := by decide +kernel
theorem dX9_verdictOf_92 : decode cX9_verdictOf 92 = .ok (.isub, 1) := by decide +kernel
theorem dX9_verdictOf_93 : decode cX9_verdictOf 93 = .ok (.if_icmp .gt 7, 3) := by decide +kernel
theorem dX9_verdictOf_96 : decode cX9_verdictOf 96 = .ok (.iconst 0, 1) := by decide +kernel
theorem dX9_verdictOf_97 : decode cX9_verdictOf 97 = .ok (.goto 4, 3) := by decide +kernel
theorem dX9_verdictOf_100 : decode cX9_verdictOf 100 = .ok (.iconst 1, 1) := by decide +kernel
theorem dX9_verdictOf_101 : decode cX9_verdictOf 101 = .ok (.istore 6, 2) := by decide +kernel
theorem dX9_verdictOf_103 : decode cX9_verdictOf 103 = .ok (.iload 6, 2) := by decide +kernel
theorem dX9_verdictOf_105 : decode cX9_verdictOf 105 = .ok (.iload_n 3, 1) := by decide +kernel
theorem dX9_verdictOf_106 : decode cX9_verdictOf 106 = .ok (.if_icmp .le 8, 3) := by decide +kernel
theorem dX9_verdictOf_109 : decode cX9_verdictOf 109 = .ok (.iload 6, 2) := by decide +kernel
theorem dX9_verdictOf_111 : decode cX9_verdictOf 111 = .ok (.goto 4, 3) := by decide +kernel
theorem dX9_verdictOf_114 : decode cX9_verdictOf 114 = .ok (.iload_n 3, 1) := by decide +kernel
theorem dX9_verdictOf_115 : decode cX9_verdictOf 115 = .ok (.istore_n 3, 1) := by decide +kernel
theorem dX9_verdictOf_116 : decode cX9_verdictOf 116 = .ok (.iinc 4 1, 3) := by decide +kernel
theorem dX9_verdictOf_119 : decode cX9_verdictOf 119 = .ok (.goto (-109), 3) := by decide +kernel
theorem dX9_verdictOf_122 : decode cX9_verdictOf 122 = .ok (.iload_n 3, 1) := by decide +kernel
theorem dX9_verdictOf_123 : decode cX9_verdictOf 123 = .ok (.ireturn, 1) := by decide +kernel
theorem dX9_judge_0 : decode cX9_judge 0 = .ok (.aload_n 0, 1) := by decide +kernel
theorem dX9_judge_1 : decode cX9_judge 1 = .ok (.iload_n 1, 1) := by decide +kernel
theorem dX9_judge_2 : decode cX9_judge 2 = .ok (.invokevirtual 148, 3) := by decide +kernel
theorem dX9_judge_5 : decode cX9_judge 5 = .ok (.ifCond .eq 22, 3) := by decide +kernel
theorem dX9_judge_8 : decode cX9_judge 8 = .ok (.aload_n 0, 1) := by decide +kernel
theorem dX9_judge_9 : decode cX9_judge 9 = .ok (.iload_n 2, 1) := by decide +kernel
theorem dX9_judge_10 : decode cX9_judge 10 = .ok (.invokevirtual 201, 3) := by decide +kernel
theorem dX9_judge_13 : decode cX9_judge 13 = .ok (.ifCond .eq 14, 3) := by decide +kernel
theorem dX9_judge_16 : decode cX9_judge 16 = .ok (.iload_n 3, 1) := by decide +kernel
theorem dX9_judge_17 : decode cX9_judge 17 = .ok (.invokestatic 198, 3) := by decide +kernel
theorem dX9_judge_20 : decode cX9_judge 20 = .ok (.ifCond .eq 7, 3) := by decide +kernel
theorem dX9_judge_23 : decode cX9_judge 23 = .ok (.iconst 1, 1) := by decide +kernel
theorem dX9_judge_24 : decode cX9_judge 24 = .ok (.goto 4, 3) := by decide +kernel
theorem dX9_judge_27 : decode cX9_judge 27 = .ok (.iconst 0, 1) := by decide +kernel
theorem dX9_judge_28 : decode cX9_judge 28 = .ok (.istore 4, 2) := by decide +kernel
theorem dX9_judge_30 : decode cX9_judge 30 = .ok (.iload 4, 2) := by decide +kernel
theorem dX9_judge_32 : decode cX9_judge 32 = .ok (.ifCond .eq 61, 3) := by decide +kernel
theorem dX9_judge_35 : decode cX9_judge 35 = .ok (.aload_n 0, 1) := by decide +kernel
theorem dX9_judge_36 : decode cX9_judge 36 = .ok (.getfield 59, 3) := by decide +kernel
theorem dX9_judge_39 : decode cX9_judge 39 = .ok (.iload_n 1, 1) := by decide +kernel
theorem dX9_judge_40 : decode cX9_judge 40 = .ok (.iaload, 1) := by decide +kernel
theorem dX9_judge_41 : decode cX9_judge 41 = .ok (.iconst 2, 1) := by decide +kernel
theorem dX9_judge_42 : decode cX9_judge 42 = .ok (.if_icmp .ne 51, 3) := by decide +kernel
theorem dX9_judge_45 : decode cX9_judge 45 = .ok (.aload_n 0, 1) := by decide +kernel
theorem dX9_judge_46 : decode cX9_judge 46 = .ok (.getfield 86, 3) := by decide +kernel
theorem dX9_judge_49 : decode cX9_judge 49 = .ok (.iload_n 2, 1) := by decide +kernel
theorem dX9_judge_50 : decode cX9_judge 50 = .ok (.iaload, 1) := by decide +kernel
theorem dX9_judge_51 : decode cX9_judge 51 = .ok (.ifCond .le 42, 3) := by decide +kernel
theorem dX9_judge_54 : decode cX9_judge 54 = .ok (.aload_n 0, 1) := by decide +kernel
theorem dX9_judge_55 : decode cX9_judge 55 = .ok (.getfield 77, 3) := by decide +kernel
theorem dX9_judge_58 : decode cX9_judge 58 = .ok (.iload_n 3, 1) := by decide +kernel
theorem dX9_judge_59 : decode cX9_judge 59 = .ok (.baload, 1) := by decide +kernel
theorem dX9_judge_60 : decode cX9_judge 60 = .ok (.ifCond .eq 33, 3) := by decide +kernel
theorem dX9_judge_63 : decode cX9_judge 63 = .ok (.aload_n 0, 1) := by decide +kernel
theorem dX9_judge_64 : decode cX9_judge 64 = .ok (.getfield 158, 3) := by decide +kernel
theorem dX9_judge_67 : decode cX9_judge 67 = .ok (.aload_n 0, 1) := by decide +kernel
theorem dX9_judge_68 : decode cX9_judge 68 = .ok (.getfield 74, 3) := by decide +kernel
theorem dX9_judge_71 : decode cX9_judge 71 = .ok (.iload_n 3, 1) := by decide +kernel
theorem dX9_judge_72 : decode cX9_judge 72 = .ok (.iaload, 1) := by decide +kernel
theorem dX9_judge_73 : decode cX9_judge 73 = .ok (.sipush 1000, 3) := by decide +kernel
theorem dX9_judge_76 : decode cX9_judge 76 = .ok (.iadd, 1) := by decide +kernel
theorem dX9_judge_77 : decode cX9_judge 77 = .ok (.if_icmp .ge 16, 3) := by decide +kernel
theorem dX9_judge_80 : decode cX9_judge 80 = .ok (.aload_n 0, 1) := by decide +kernel
theorem dX9_judge_81 : decode cX9_judge 81 = .ok (.getfield 208, 3) := by decide +kernel
theorem dX9_judge_84 : decode cX9_judge 84 = .ok (.bipush 30, 2) := by decide +kernel
theorem dX9_judge_86 : decode cX9_judge 86 = .ok (.if_icmp .ge 7, 3) := by decide +kernel
theorem dX9_judge_89 : decode cX9_judge 89 = .ok (.iconst 1, 1) := by decide +kernel
theorem dX9_judge_90 : decode cX9_judge 90 = .ok (.goto 4, 3) := by decide +kernel
theorem dX9_judge_93 : decode cX9_judge 93 = .ok (.iconst 0, 1) := by decide +kernel
theorem dX9_judge_94 : decode cX9_judge 94 = .ok (.istore 5, 2) := by decide +kernel
theorem dX9_judge_96 : decode cX9_judge 96 = .ok (.aload_n 0, 1) := by decide +kernel
theorem dX9_judge_97 : decode cX9_judge 97 = .ok (.iload 4, 2) := by decide +kernel
theorem dX9_judge_99 : decode cX9_judge 99 = .ok (.iload 5, 2) := by decide +kernel
theorem dX9_judge_101 : decode cX9_judge 101 = .ok (.iconst 1, 1) := by decide +kernel
theorem dX9_judge_102 : decode cX9_judge 102 = .ok (.invokevirtual 127, 3) := by decide +kernel
theorem dX9_judge_105 : decode cX9_judge 105 = .ok (.ifCond .ne 5, 3) := by decide +kernel
theorem dX9_judge_108 : decode cX9_judge 108 = .ok (.iconst 0, 1) := by decide +kernel
theorem dX9_judge_109 : decode cX9_judge 109 = .ok (.ireturn, 1) := by decide +kernel
theorem dX9_judge_110 : decode cX9_judge 110 = .ok (.bipush 18, 2) := by decide +kernel
theorem dX9_judge_112 : decode cX9_judge 112 = .ok (.aload_n 0, 1) := by decide +kernel
theorem dX9_judge_113 : decode cX9_judge 113 = .ok (.getfield 208, 3) := by decide +kernel
theorem dX9_judge_116 : decode cX9_judge 116 = .ok (.imul, 1) := by decide +kernel
theorem dX9_judge_117 : decode cX9_judge 117 = .ok (.istore 6, 2) := by decide +kernel
theorem dX9_judge_119 : decode cX9_judge 119 = .ok (.aload_n 0, 1) := by decide +kernel
theorem dX9_judge_120 : decode cX9_judge 120 = .ok (.getfield 89, 3) := by decide +kernel
theorem dX9_judge_123 : decode cX9_judge 123 = .ok (.iload 6, 2) := by decide +kernel
theorem dX9_judge_125 : decode cX9_judge 125 = .ok (.iload_n 1, 1) := by decide +kernel
theorem dX9_judge_126 : decode cX9_judge 126 = .ok (.iastore, 1) := by decide +kernel
theorem dX9_judge_127 : decode cX9_judge 127 = .ok (.aload_n 0, 1) := by decide +kernel
theorem dX9_judge_128 : decode cX9_judge 128 = .ok (.getfield 89, 3) := by decide +kernel
theorem dX9_judge_131 : decode cX9_judge 131 = .ok (.iload 6, 2) := by decide +kernel
theorem dX9_judge_133 : decode cX9_judge 133 = .ok (.iconst 1, 1) := by decide +kernel
theorem dX9_judge_134 : decode cX9_judge 134 = .ok (.iadd, 1) := by decide +kernel
theorem dX9_judge_135 : decode cX9_judge 135 = .ok (.iload_n 2, 1) := by decide +kernel
theorem dX9_judge_136 : decode cX9_judge 136 = .ok (.iastore, 1) := by decide +kernel
theorem dX9_judge_137 : decode cX9_judge 137 = .ok (.aload_n 0, 1) := by decide +kernel
theorem dX9_judge_138 : decode cX9_judge 138 = .ok (.getfield 89, 3) := by decide +kernel
theorem dX9_judge_141 : decode cX9_judge 141 = .ok (.iload 6, 2) := by decide +kernel
theorem dX9_judge_143 : decode cX9_judge 143 = .ok (.iconst 3, 1) := by decide +kernel
theorem dX9_judge_144 : decode cX9_judge 144 = .ok (.iadd, 1) := by decide +kernel
theorem dX9_judge_145 : decode cX9_judge 145 = .ok (.aload_n 0, 1) := by decide +kernel
theorem dX9_judge_146 : decode cX9_judge 146 = .ok (.getfield 158, 3) := by decide +kernel
theorem dX9_judge_149 : decode cX9_judge 149 = .ok (.iastore, 1) := by decide +kernel
theorem dX9_judge_150 : decode cX9_judge 150 = .ok (.aload_n 0, 1) := by decide +kernel
theorem dX9_judge_151 : decode cX9_judge 151 = .ok (.getfield 89, 3) := by decide +kernel
theorem dX9_judge_154 : decode cX9_judge 154 = .ok (.iload 6, 2) := by decide +kernel
theorem dX9_judge_156 : decode cX9_judge 156 = .ok (.iconst 4, 1) := by decide +kernel
theorem dX9_judge_157 : decode cX9_judge 157 = .ok (.iadd, 1) := by decide +kernel
theorem dX9_judge_158 : decode cX9_judge 158 = .ok (.aload_n 0, 1) := by decide +kernel
theorem dX9_judge_159 : decode cX9_judge 159 = .ok (.getfield 80, 3) := by decide +kernel
theorem dX9_judge_162 : decode cX9_judge 162 = .ok (.iload_n 3, 1) := by decide +kernel
theorem dX9_judge_163 : decode cX9_judge 163 = .ok (.iaload, 1) := by decide +kernel
theorem dX9_judge_164 : decode cX9_judge 164 = .ok (.iastore, 1) := by decide +kernel
theorem dX9_judge_165 : decode cX9_judge 165 = .ok (.aload_n 0, 1) := by decide +kernel
theorem dX9_judge_166 : decode cX9_judge 166 = .ok (.getfield 89, 3) := by decide +kernel
theorem dX9_judge_169 : decode cX9_judge 169 = .ok (.iload 6, 2) := by decide +kernel
theorem dX9_judge_171 : decode cX9_judge 171 = .ok (.bipush 17, 2) := by decide +kernel
theorem dX9_judge_173 : decode cX9_judge 173 = .ok (.iadd, 1) := by decide +kernel
theorem dX9_judge_174 : decode cX9_judge 174 = .ok (.aload_n 0, 1) := by decide +kernel
theorem dX9_judge_175 : decode cX9_judge 175 = .ok (.getfield 86, 3) := by decide +kernel
theorem dX9_judge_178 : decode cX9_judge 178 = .ok (.iload_n 2, 1) := by decide +kernel
theorem dX9_judge_179 : decode cX9_judge 179 = .ok (.iaload, 1) := by decide +kernel
theorem dX9_judge_180 : decode cX9_judge 180 = .ok (.iastore, 1) := by decide +kernel
theorem dX9_judge_181 : decode cX9_judge 181 = .ok (.iconst 0, 1) := by decide +kernel
theorem dX9_judge_182 : decode cX9_judge 182 = .ok (.istore 7, 2) := by decide +kernel
theorem dX9_judge_184 : decode cX9_judge 184 = .ok (.iload 7, 2) := by decide +kernel
theorem dX9_judge_186 : decode cX9_judge 186 = .ok (.aload_n 0, 1) := by decide +kernel
theorem dX9_judge_187 : decode cX9_judge 187 = .ok (.getfield 86, 3) := by decide +kernel
theorem dX9_judge_190 : decode cX9_judge 190 = .ok (.iload_n 2, 1) := by decide +kernel
theorem dX9_judge_191 : decode cX9_judge 191 = .ok (.iaload, 1) := by decide +kernel
theorem dX9_judge_192 : decode cX9_judge 192 = .ok (.if_icmp .ge 201, 3) := by decide +kernel
theorem dX9_judge_195 : decode cX9_judge 195 = .ok (.bipush 6, 2) := by decide +kernel
theorem dX9_judge_197 : decode cX9_judge 197 = .ok (.bipush 6, 2) := by decide +kernel
theorem dX9_judge_199 : decode cX9_judge 199 = .ok (.iload_n 2, 1) := by decide +kernel
theorem dX9_judge_200 : decode cX9_judge 200 = .ok (.imul, 1) := by decide +kernel
theorem dX9_judge_201 : decode cX9_judge 201 = .ok (.iload 7, 2) := by decide +kernel
theorem dX9_judge_203 : decode cX9_judge 203 = .ok (.iadd, 1) := by decide +kernel
theorem dX9_judge_204 : decode cX9_judge 204 = .ok (.imul, 1) := by decide +kernel
theorem dX9_judge_205 : decode cX9_judge 205 = .ok (.istore 8, 2) := by decide +kernel
theorem dX9_judge_207 : decode cX9_judge 207 = .ok (.sipush 144, 3) := by decide +kernel
theorem dX9_judge_210 : decode cX9_judge 210 = .ok (.iload_n 1, 1) := by decide +kernel
theorem dX9_judge_211 : decode cX9_judge 211 = .ok (.imul, 1) := by decide +kernel
theorem dX9_judge_212 : decode cX9_judge 212 = .ok (.bipush 12, 2) := by decide +kernel
theorem dX9_judge_214 : decode cX9_judge 214 = .ok (.aload_n 0, 1) := by decide +kernel
theorem dX9_judge_215 : decode cX9_judge 215 = .ok (.getfield 83, 3) := by decide +kernel
theorem dX9_judge_218 : decode cX9_judge 218 = .ok (.iload 8, 2) := by decide +kernel
theorem dX9_judge_220 : decode cX9_judge 220 = .ok (.iconst 1, 1) := by decide +kernel
theorem dX9_judge_221 : decode cX9_judge 221 = .ok (.iadd, 1) := by decide +kernel
theorem dX9_judge_222 : decode cX9_judge 222 = .ok (.iaload, 1) := by decide +kernel
theorem dX9_judge_223 : decode cX9_judge 223 = .ok (.imul, 1) := by decide +kernel
theorem dX9_judge_224 : decode cX9_judge 224 = .ok (.iadd, 1) := by decide +kernel
theorem dX9_judge_225 : decode cX9_judge 225 = .ok (.aload_n 0, 1) := by decide +kernel
theorem dX9_judge_226 : decode cX9_judge 226 = .ok (.getfield 83, 3) := by decide +kernel
theorem dX9_judge_229 : decode cX9_judge 229 = .ok (.iload 8, 2) := by decide +kernel
theorem dX9_judge_231 : decode cX9_judge 231 = .ok (.iaload, 1) := by decide +kernel
theorem dX9_judge_232 : decode cX9_judge 232 = .ok (.iadd, 1) := by decide +kernel
theorem dX9_judge_233 : decode cX9_judge 233 = .ok (.istore 9, 2) := by decide +kernel
theorem dX9_judge_235 : decode cX9_judge 235 = .ok (.aload_n 0, 1) := by decide +kernel
theorem dX9_judge_236 : decode cX9_judge 236 = .ok (.iload 9, 2) := by decide +kernel
theorem dX9_judge_238 : decode cX9_judge 238 = .ok (.invokevirtual 211, 3) := by decide +kernel
theorem dX9_judge_241 : decode cX9_judge 241 = .ok (.aload_n 0, 1) := by decide +kernel
theorem dX9_judge_242 : decode cX9_judge 242 = .ok (.getfield 158, 3) := by decide +kernel
theorem dX9_judge_245 : decode cX9_judge 245 = .ok (.aload_n 0, 1) := by decide +kernel
theorem dX9_judge_246 : decode cX9_judge 246 = .ok (.getfield 74, 3) := by decide +kernel
theorem dX9_judge_249 : decode cX9_judge 249 = .ok (.iload_n 3, 1) := by decide +kernel
theorem dX9_judge_250 : decode cX9_judge 250 = .ok (.iaload, 1) := by decide +kernel
theorem dX9_judge_251 : decode cX9_judge 251 = .ok (.isub, 1) := by decide +kernel
theorem dX9_judge_252 : decode cX9_judge 252 = .ok (.bipush 100, 2) := by decide +kernel
theorem dX9_judge_254 : decode cX9_judge 254 = .ok (.idiv, 1) := by decide +kernel
theorem dX9_judge_255 : decode cX9_judge 255 = .ok (.iadd, 1) := by decide +kernel
theorem dX9_judge_256 : decode cX9_judge 256 = .ok (.sipush 1000, 3) := by decide +kernel
theorem dX9_judge_259 : decode cX9_judge 259 = .ok (.aload_n 0, 1) := by decide +kernel
theorem dX9_judge_260 : decode cX9_judge 260 = .ok (.getfield 83, 3) := by decide +kernel
theorem dX9_judge_263 : decode cX9_judge 263 = .ok (.iload 8, 2) := by decide +kernel
theorem dX9_judge_265 : decode cX9_judge 265 = .ok (.iconst 2, 1) := by decide +kernel
theorem dX9_judge_266 : decode cX9_judge 266 = .ok (.iadd, 1) := by decide +kernel
theorem dX9_judge_267 : decode cX9_judge 267 = .ok (.iaload, 1) := by decide +kernel
theorem dX9_judge_268 : decode cX9_judge 268 = .ok (.imul, 1) := by decide +kernel
theorem dX9_judge_269 : decode cX9_judge 269 = .ok (.isub, 1) := by decide +kernel
theorem dX9_judge_270 : decode cX9_judge 270 = .ok (.istore 10, 2) := by decide +kernel
theorem dX9_judge_272 : decode cX9_judge 272 = .ok (.aload_n 0, 1) := by decide +kernel
theorem dX9_judge_273 : decode cX9_judge 273 = .ok (.getfield 89, 3) := by decide +kernel
theorem dX9_judge_276 : decode cX9_judge 276 = .ok (.iload 6, 2) := by decide +kernel
theorem dX9_judge_278 : decode cX9_judge 278 = .ok (.iconst 5, 1) := by decide +kernel
theorem dX9_judge_279 : decode cX9_judge 279 = .ok (.iadd, 1) := by decide +kernel
theorem dX9_judge_280 : decode cX9_judge 280 = .ok (.iload 7, 2) := by decide +kernel
theorem dX9_judge_282 : decode cX9_judge 282 = .ok (.iadd, 1) := by decide +kernel
theorem dX9_judge_283 : decode cX9_judge 283 = .ok (.iload 10, 2) := by decide +kernel
theorem dX9_judge_285 : decode cX9_judge 285 = .ok (.iastore, 1) := by decide +kernel
theorem dX9_judge_286 : decode cX9_judge 286 = .ok (.aload_n 0, 1) := by decide +kernel
theorem dX9_judge_287 : decode cX9_judge 287 = .ok (.getfield 89, 3) := by decide +kernel
theorem dX9_judge_290 : decode cX9_judge 290 = .ok (.iload 6, 2) := by decide +kernel
theorem dX9_judge_292 : decode cX9_judge 292 = .ok (.bipush 11, 2) := by decide +kernel
theorem dX9_judge_294 : decode cX9_judge 294 = .ok (.iadd, 1) := by decide +kernel
theorem dX9_judge_295 : decode cX9_judge 295 = .ok (.iload 7, 2) := by decide +kernel
theorem dX9_judge_297 : decode cX9_judge 297 = .ok (.iadd, 1) := by decide +kernel
theorem dX9_judge_298 : decode cX9_judge 298 = .ok (.aload_n 0, 1) := by decide +kernel
theorem dX9_judge_299 : decode cX9_judge 299 = .ok (.getfield 83, 3) := by decide +kernel
theorem dX9_judge_302 : decode cX9_judge 302 = .ok (.iload 8, 2) := by decide +kernel
theorem dX9_judge_304 : decode cX9_judge 304 = .ok (.iconst 3, 1) := by decide +kernel
theorem dX9_judge_305 : decode cX9_judge 305 = .ok (.iadd, 1) := by decide +kernel
theorem dX9_judge_306 : decode cX9_judge 306 = .ok (.iaload, 1) := by decide +kernel
theorem dX9_judge_307 : decode cX9_judge 307 = .ok (.aload_n 0, 1) := by decide +kernel
theorem dX9_judge_308 : decode cX9_judge 308 = .ok (.getfield 83, 3) := by decide +kernel
theorem dX9_judge_311 : decode cX9_judge 311 = .ok (.iload 8, 2) := by decide +kernel
theorem dX9_judge_313 : decode cX9_judge 313 = .ok (.iconst 5, 1) := by decide +kernel
theorem dX9_judge_314 : decode cX9_judge 314 = .ok (.iadd, 1) := by decide +kernel
theorem dX9_judge_315 : decode cX9_judge 315 = .ok (.iaload, 1) := by decide +kernel
theorem dX9_judge_316 : decode cX9_judge 316 = .ok (.ifCond .le 15, 3) := by decide +kernel
theorem dX9_judge_319 : decode cX9_judge 319 = .ok (.aload_n 0, 1) := by decide +kernel
theorem dX9_judge_320 : decode cX9_judge 320 = .ok (.getfield 83, 3) := by decide +kernel
theorem dX9_judge_323 : decode cX9_judge 323 = .ok (.iload 8, 2) := by decide +kernel
theorem dX9_judge_325 : decode cX9_judge 325 = .ok (.iconst 4, 1) := by decide +kernel
theorem dX9_judge_326 : decode cX9_judge 326 = .ok (.iadd, 1) := by decide +kernel
theorem dX9_judge_327 : decode cX9_judge 327 = .ok (.iaload, 1) := by decide +kernel
theorem dX9_judge_328 : decode cX9_judge 328 = .ok (.goto 4, 3) := by decide +kernel
theorem dX9_judge_331 : decode cX9_judge 331 = .ok (.iconst 0, 1) := by decide +kernel
theorem dX9_judge_332 : decode cX9_judge 332 = .ok (.iadd, 1) := by decide +kernel
theorem dX9_judge_333 : decode cX9_judge 333 = .ok (.iastore, 1) := by decide +kernel
theorem dX9_judge_334 : decode cX9_judge 334 = .ok (.aload_n 0, 1) := by decide +kernel
theorem dX9_judge_335 : decode cX9_judge 335 = .ok (.getfield 83, 3) := by decide +kernel
theorem dX9_judge_338 : decode cX9_judge 338 = .ok (.iload 8, 2) := by decide +kernel
theorem dX9_judge_340 : decode cX9_judge 340 = .ok (.iconst 5, 1) := by decide +kernel
theorem dX9_judge_341 : decode cX9_judge 341 = .ok (.iadd, 1) := by decide +kernel
theorem dX9_judge_342 : decode cX9_judge 342 = .ok (.dup2, 1) := by decide +kernel
theorem dX9_judge_343 : decode cX9_judge 343 = .ok (.iaload, 1) := by decide +kernel
theorem dX9_judge_344 : decode cX9_judge 344 = .ok (.aload_n 0, 1) := by decide +kernel
theorem dX9_judge_345 : decode cX9_judge 345 = .ok (.getfield 83, 3) := by decide +kernel
theorem dX9_judge_348 : decode cX9_judge 348 = .ok (.iload 8, 2) := by decide +kernel
theorem dX9_judge_350 : decode cX9_judge 350 = .ok (.iconst 5, 1) := by decide +kernel
theorem dX9_judge_351 : decode cX9_judge 351 = .ok (.iadd, 1) := by decide +kernel
theorem dX9_judge_352 : decode cX9_judge 352 = .ok (.iaload, 1) := by decide +kernel
theorem dX9_judge_353 : decode cX9_judge 353 = .ok (.ifCond .le 7, 3) := by decide +kernel
theorem dX9_judge_356 : decode cX9_judge 356 = .ok (.iconst 1, 1) := by decide +kernel
theorem dX9_judge_357 : decode cX9_judge 357 = .ok (.goto 4, 3) := by decide +kernel
theorem dX9_judge_360 : decode cX9_judge 360 = .ok (.iconst 0, 1) := by decide +kernel
theorem dX9_judge_361 : decode cX9_judge 361 = .ok (.isub, 1) := by decide +kernel
theorem dX9_judge_362 : decode cX9_judge 362 = .ok (.iastore, 1) := by decide +kernel
theorem dX9_judge_363 : decode cX9_judge 363 = .ok (.aload_n 0, 1) := by decide +kernel
theorem dX9_judge_364 : decode cX9_judge 364 = .ok (.getfield 50, 3) := by decide +kernel
theorem dX9_judge_367 : decode cX9_judge 367 = .ok (.iload 9, 2) := by decide +kernel
theorem dX9_judge_369 : decode cX9_judge 369 = .ok (.iaload, 1) := by decide +kernel
theorem dX9_judge_370 : decode cX9_judge 370 = .ok (.iconst (-1), 1) := by decide +kernel
theorem dX9_judge_371 : decode cX9_judge 371 = .ok (.if_icmp .eq 16, 3) := by decide +kernel
theorem dX9_judge_374 : decode cX9_judge 374 = .ok (.aload_n 0, 1) := by decide +kernel
theorem dX9_judge_375 : decode cX9_judge 375 = .ok (.aload_n 0, 1) := by decide +kernel
theorem dX9_judge_376 : decode cX9_judge 376 = .ok (.getfield 50, 3) := by decide +kernel
theorem dX9_judge_379 : decode cX9_judge 379 = .ok (.iload 9, 2) := by decide +kernel
theorem dX9_judge_381 : decode cX9_judge 381 = .ok (.iaload, 1) := by decide +kernel
theorem dX9_judge_382 : decode cX9_judge 382 = .ok (.iload 10, 2) := by decide +kernel
theorem dX9_judge_384 : decode cX9_judge 384 = .ok (.invokevirtual 214, 3) := by decide +kernel
theorem dX9_judge_387 : decode cX9_judge 387 = .ok (.iinc 7 1, 3) := by decide +kernel
theorem dX9_judge_390 : decode cX9_judge 390 = .ok (.goto (-206), 3) := by decide +kernel
theorem dX9_judge_393 : decode cX9_judge 393 = .ok (.aload_n 0, 1) := by decide +kernel
theorem dX9_judge_394 : decode cX9_judge 394 = .ok (.dup, 1) := by decide +kernel
theorem dX9_judge_395 : decode cX9_judge 395 = .ok (.getfield 208, 3) := by decide +kernel
theorem dX9_judge_398 : decode cX9_judge 398 = .ok (.iconst 1, 1) := by decide +kernel
theorem dX9_judge_399 : decode cX9_judge 399 = .ok (.iadd, 1) := by decide +kernel
theorem dX9_judge_400 : decode cX9_judge 400 = .ok (.putfield 208, 3) := by decide +kernel
theorem dX9_judge_403 : decode cX9_judge 403 = .ok (.aload_n 0, 1) := by decide +kernel
theorem dX9_judge_404 : decode cX9_judge 404 = .ok (.getfield 89, 3) := by decide +kernel
theorem dX9_judge_407 : decode cX9_judge 407 = .ok (.iload 6, 2) := by decide +kernel
theorem dX9_judge_409 : decode cX9_judge 409 = .ok (.iconst 2, 1) := by decide +kernel
theorem dX9_judge_410 : decode cX9_judge 410 = .ok (.iadd, 1) := by decide +kernel
theorem dX9_judge_411 : decode cX9_judge 411 = .ok (.aload_n 0, 1) := by decide +kernel
theorem dX9_judge_412 : decode cX9_judge 412 = .ok (.aload_n 0, 1) := by decide +kernel
theorem dX9_judge_413 : decode cX9_judge 413 = .ok (.getfield 208, 3) := by decide +kernel
theorem dX9_judge_416 : decode cX9_judge 416 = .ok (.iconst 1, 1) := by decide +kernel
theorem dX9_judge_417 : decode cX9_judge 417 = .ok (.isub, 1) := by decide +kernel
theorem dX9_judge_418 : decode cX9_judge 418 = .ok (.invokevirtual 218, 3) := by decide +kernel
theorem dX9_judge_421 : decode cX9_judge 421 = .ok (.iastore, 1) := by decide +kernel
theorem dX9_judge_422 : decode cX9_judge 422 = .ok (.aload_n 0, 1) := by decide +kernel
theorem dX9_judge_423 : decode cX9_judge 423 = .ok (.getfield 68, 3) := by decide +kernel
theorem dX9_judge_426 : decode cX9_judge 426 = .ok (.iload_n 1, 1) := by decide +kernel
theorem dX9_judge_427 : decode cX9_judge 427 = .ok (.aload_n 0, 1) := by decide +kernel
theorem dX9_judge_428 : decode cX9_judge 428 = .ok (.getfield 89, 3) := by decide +kernel
theorem dX9_judge_431 : decode cX9_judge 431 = .ok (.iload 6, 2) := by decide +kernel
theorem dX9_judge_433 : decode cX9_judge 433 = .ok (.iconst 2, 1) := by decide +kernel
theorem dX9_judge_434 : decode cX9_judge 434 = .ok (.iadd, 1) := by decide +kernel
theorem dX9_judge_435 : decode cX9_judge 435 = .ok (.iaload, 1) := by decide +kernel
theorem dX9_judge_436 : decode cX9_judge 436 = .ok (.iastore, 1) := by decide +kernel
theorem dX9_judge_437 : decode cX9_judge 437 = .ok (.aload_n 0, 1) := by decide +kernel
theorem dX9_judge_438 : decode cX9_judge 438 = .ok (.getfield 208, 3) := by decide +kernel
theorem dX9_judge_441 : decode cX9_judge 441 = .ok (.iconst 1, 1) := by decide +kernel
theorem dX9_judge_442 : decode cX9_judge 442 = .ok (.isub, 1) := by decide +kernel
theorem dX9_judge_443 : decode cX9_judge 443 = .ok (.ireturn, 1) := by decide +kernel
theorem dX9_correct_0 : decode cX9_correct 0 = .ok (.aload_n 0, 1) := by decide +kernel
theorem dX9_correct_1 : decode cX9_correct 1 = .ok (.aload_n 0, 1) := by decide +kernel
theorem dX9_correct_2 : decode cX9_correct 2 = .ok (.iload_n 1, 1) := by decide +kernel
theorem dX9_correct_3 : decode cX9_correct 3 = .ok (.invokevirtual 141, 3) := by decide +kernel
theorem dX9_correct_6 : decode cX9_correct 6 = .ok (.iconst 1, 1) := by decide +kernel
theorem dX9_correct_7 : decode cX9_correct 7 = .ok (.iconst 1, 1) := by decide +kernel
theorem dX9_correct_8 : decode cX9_correct 8 = .ok (.invokevirtual 127, 3) := by decide +kernel
theorem dX9_correct_11 : decode cX9_correct 11 = .ok (.ifCond .ne 5, 3) := by decide +kernel
theorem dX9_correct_14 : decode cX9_correct 14 = .ok (.iconst 0, 1) := by decide +kernel
theorem dX9_correct_15 : decode cX9_correct 15 = .ok (.ireturn, 1) := by decide +kernel
theorem dX9_correct_16 : decode cX9_correct 16 = .ok (.aload_n 0, 1) := by decide +kernel
theorem dX9_correct_17 : decode cX9_correct 17 = .ok (.getfield 38, 3) := by decide +kernel
theorem dX9_correct_20 : decode cX9_correct 20 = .ok (.iconst 3, 1) := by decide +kernel
theorem dX9_correct_21 : decode cX9_correct 21 = .ok (.iload_n 1, 1) := by decide +kernel
theorem dX9_correct_22 : decode cX9_correct 22 = .ok (.imul, 1) := by decide +kernel
theorem dX9_correct_23 : decode cX9_correct 23 = .ok (.iaload, 1) := by decide +kernel
theorem dX9_correct_24 : decode cX9_correct 24 = .ok (.istore_n 2, 1) := by decide +kernel
theorem dX9_correct_25 : decode cX9_correct 25 = .ok (.aload_n 0, 1) := by decide +kernel
theorem dX9_correct_26 : decode cX9_correct 26 = .ok (.getfield 38, 3) := by decide +kernel
theorem dX9_correct_29 : decode cX9_correct 29 = .ok (.iconst 3, 1) := by decide +kernel
theorem dX9_correct_30 : decode cX9_correct 30 = .ok (.iload_n 1, 1) := by decide +kernel
theorem dX9_correct_31 : decode cX9_correct 31 = .ok (.imul, 1) := by decide +kernel
theorem dX9_correct_32 : decode cX9_correct 32 = .ok (.iconst 1, 1) := by decide +kernel
theorem dX9_correct_33 : decode cX9_correct 33 = .ok (.iadd, 1) := by decide +kernel
theorem dX9_correct_34 : decode cX9_correct 34 = .ok (.iaload, 1) := by decide +kernel
theorem dX9_correct_35 : decode cX9_correct 35 = .ok (.istore_n 3, 1) := by decide +kernel
theorem dX9_correct_36 : decode cX9_correct 36 = .ok (.aload_n 0, 1) := by decide +kernel
theorem dX9_correct_37 : decode cX9_correct 37 = .ok (.getfield 38, 3) := by decide +kernel
theorem dX9_correct_40 : decode cX9_correct 40 = .ok (.iconst 3, 1) := by decide +kernel
theorem dX9_correct_41 : decode cX9_correct 41 = .ok (.iload_n 1, 1) := by decide +kernel
theorem dX9_correct_42 : decode cX9_correct 42 = .ok (.imul, 1) := by decide +kernel
theorem dX9_correct_43 : decode cX9_correct 43 = .ok (.iconst 2, 1) := by decide +kernel
theorem dX9_correct_44 : decode cX9_correct 44 = .ok (.iadd, 1) := by decide +kernel
theorem dX9_correct_45 : decode cX9_correct 45 = .ok (.iaload, 1) := by decide +kernel
theorem dX9_correct_46 : decode cX9_correct 46 = .ok (.istore 4, 2) := by decide +kernel
theorem dX9_correct_48 : decode cX9_correct 48 = .ok (.iload_n 2, 1) := by decide +kernel
theorem dX9_correct_49 : decode cX9_correct 49 = .ok (.ifCond .le 16, 3) := by decide +kernel
theorem dX9_correct_52 : decode cX9_correct 52 = .ok (.iload_n 3, 1) := by decide +kernel
theorem dX9_correct_53 : decode cX9_correct 53 = .ok (.ifCond .le 12, 3) := by decide +kernel
theorem dX9_correct_56 : decode cX9_correct 56 = .ok (.iload 4, 2) := by decide +kernel
theorem dX9_correct_58 : decode cX9_correct 58 = .ok (.ifCond .le 7, 3) := by decide +kernel
theorem dX9_correct_61 : decode cX9_correct 61 = .ok (.iconst 1, 1) := by decide +kernel
theorem dX9_correct_62 : decode cX9_correct 62 = .ok (.goto 4, 3) := by decide +kernel
theorem dX9_correct_65 : decode cX9_correct 65 = .ok (.iconst 0, 1) := by decide +kernel
theorem dX9_correct_66 : decode cX9_correct 66 = .ok (.istore 5, 2) := by decide +kernel
theorem dX9_correct_68 : decode cX9_correct 68 = .ok (.iload_n 2, 1) := by decide +kernel
theorem dX9_correct_69 : decode cX9_correct 69 = .ok (.ifCond .ge 16, 3) := by decide +kernel
theorem dX9_correct_72 : decode cX9_correct 72 = .ok (.iload_n 3, 1) := by decide +kernel
theorem dX9_correct_73 : decode cX9_correct 73 = .ok (.ifCond .ge 12, 3) := by decide +kernel
theorem dX9_correct_76 : decode cX9_correct 76 = .ok (.iload 4, 2) := by decide +kernel
theorem dX9_correct_78 : decode cX9_correct 78 = .ok (.ifCond .ge 7, 3) := by decide +kernel
theorem dX9_correct_81 : decode cX9_correct 81 = .ok (.iconst 1, 1) := by decide +kernel
theorem dX9_correct_82 : decode cX9_correct 82 = .ok (.goto 4, 3) := by decide +kernel
theorem dX9_correct_85 : decode cX9_correct 85 = .ok (.iconst 0, 1) := by decide +kernel
theorem dX9_correct_86 : decode cX9_correct 86 = .ok (.istore 6, 2) := by decide +kernel
theorem dX9_correct_88 : decode cX9_correct 88 = .ok (.aload_n 0, 1) := by decide +kernel
theorem dX9_correct_89 : decode cX9_correct 89 = .ok (.getfield 41, 3) := by decide +kernel
theorem dX9_correct_92 : decode cX9_correct 92 = .ok (.iload_n 1, 1) := by decide +kernel
theorem dX9_correct_93 : decode cX9_correct 93 = .ok (.iaload, 1) := by decide +kernel
theorem dX9_correct_94 : decode cX9_correct 94 = .ok (.iconst 3, 1) := by decide +kernel
theorem dX9_correct_95 : decode cX9_correct 95 = .ok (.if_icmp .lt 13, 3) := by decide +kernel
theorem dX9_correct_98 : decode cX9_correct 98 = .ok (.iload 5, 2) := by decide +kernel
theorem dX9_correct_100 : decode cX9_correct 100 = .ok (.ifCond .ne 10, 3) := by decide +kernel
theorem dX9_correct_103 : decode cX9_correct 103 = .ok (.iload 6, 2) := by decide +kernel
theorem dX9_correct_105 : decode cX9_correct 105 = .ok (.ifCond .ne 5, 3) := by decide +kernel
theorem dX9_correct_108 : decode cX9_correct 108 = .ok (.iconst 0, 1) := by decide +kernel
theorem dX9_correct_109 : decode cX9_correct 109 = .ok (.ireturn, 1) := by decide +kernel
theorem dX9_correct_110 : decode cX9_correct 110 = .ok (.aload_n 0, 1) := by decide +kernel
theorem dX9_correct_111 : decode cX9_correct 111 = .ok (.getfield 31, 3) := by decide +kernel
theorem dX9_correct_114 : decode cX9_correct 114 = .ok (.iload_n 1, 1) := by decide +kernel
theorem dX9_correct_115 : decode cX9_correct 115 = .ok (.iaload, 1) := by decide +kernel
theorem dX9_correct_116 : decode cX9_correct 116 = .ok (.istore 7, 2) := by decide +kernel
theorem dX9_correct_118 : decode cX9_correct 118 = .ok (.iload 7, 2) := by decide +kernel
theorem dX9_correct_120 : decode cX9_correct 120 = .ok (.iload_n 2, 1) := by decide +kernel
theorem dX9_correct_121 : decode cX9_correct 121 = .ok (.iload_n 3, 1) := by decide +kernel
theorem dX9_correct_122 : decode cX9_correct 122 = .ok (.iadd, 1) := by decide +kernel
theorem dX9_correct_123 : decode cX9_correct 123 = .ok (.iload 4, 2) := by decide +kernel
theorem dX9_correct_125 : decode cX9_correct 125 = .ok (.iadd, 1) := by decide +kernel
theorem dX9_correct_126 : decode cX9_correct 126 = .ok (.iconst 3, 1) := by decide +kernel
theorem dX9_correct_127 : decode cX9_correct 127 = .ok (.idiv, 1) := by decide +kernel
theorem dX9_correct_128 : decode cX9_correct 128 = .ok (.iconst 2, 1) := by decide +kernel
theorem dX9_correct_129 : decode cX9_correct 129 = .ok (.idiv, 1) := by decide +kernel
theorem dX9_correct_130 : decode cX9_correct 130 = .ok (.iadd, 1) := by decide +kernel
theorem dX9_correct_131 : decode cX9_correct 131 = .ok (.istore 8, 2) := by decide +kernel
theorem dX9_correct_133 : decode cX9_correct 133 = .ok (.aload_n 0, 1) := by decide +kernel
theorem dX9_correct_134 : decode cX9_correct 134 = .ok (.getfield 31, 3) := by decide +kernel
theorem dX9_correct_137 : decode cX9_correct 137 = .ok (.iload_n 1, 1) := by decide +kernel
theorem dX9_correct_138 : decode cX9_correct 138 = .ok (.iload 8, 2) := by decide +kernel
theorem dX9_correct_140 : decode cX9_correct 140 = .ok (.sipush 200, 3) := by decide +kernel
theorem dX9_correct_143 : decode cX9_correct 143 = .ok (.if_icmp .le 9, 3) := by decide +kernel
theorem dX9_correct_146 : decode cX9_correct 146 = .ok (.sipush 200, 3) := by decide +kernel
theorem dX9_correct_149 : decode cX9_correct 149 = .ok (.goto 19, 3) := by decide +kernel
theorem dX9_correct_152 : decode cX9_correct 152 = .ok (.iload 8, 2) := by decide +kernel
theorem dX9_correct_154 : decode cX9_correct 154 = .ok (.sipush (-200), 3) := by decide +kernel
theorem dX9_correct_157 : decode cX9_correct 157 = .ok (.if_icmp .ge 9, 3) := by decide +kernel
theorem dX9_correct_160 : decode cX9_correct 160 = .ok (.sipush (-200), 3) := by decide +kernel
theorem dX9_correct_163 : decode cX9_correct 163 = .ok (.goto 5, 3) := by decide +kernel
theorem dX9_correct_166 : decode cX9_correct 166 = .ok (.iload 8, 2) := by decide +kernel
theorem dX9_correct_168 : decode cX9_correct 168 = .ok (.iastore, 1) := by decide +kernel
theorem dX9_correct_169 : decode cX9_correct 169 = .ok (.aload_n 0, 1) := by decide +kernel
theorem dX9_correct_170 : decode cX9_correct 170 = .ok (.getfield 41, 3) := by decide +kernel
theorem dX9_correct_173 : decode cX9_correct 173 = .ok (.iload_n 1, 1) := by decide +kernel
theorem dX9_correct_174 : decode cX9_correct 174 = .ok (.iconst 0, 1) := by decide +kernel
theorem dX9_correct_175 : decode cX9_correct 175 = .ok (.iastore, 1) := by decide +kernel
theorem dX9_correct_176 : decode cX9_correct 176 = .ok (.aload_n 0, 1) := by decide +kernel
theorem dX9_correct_177 : decode cX9_correct 177 = .ok (.getfield 31, 3) := by decide +kernel
theorem dX9_correct_180 : decode cX9_correct 180 = .ok (.iload_n 1, 1) := by decide +kernel
theorem dX9_correct_181 : decode cX9_correct 181 = .ok (.iaload, 1) := by decide +kernel
theorem dX9_correct_182 : decode cX9_correct 182 = .ok (.iload 7, 2) := by decide +kernel
theorem dX9_correct_184 : decode cX9_correct 184 = .ok (.isub, 1) := by decide +kernel
theorem dX9_correct_185 : decode cX9_correct 185 = .ok (.ireturn, 1) := by decide +kernel
theorem dX9_minute_0 : decode cX9_minute 0 = .ok (.aload_n 0, 1) := by decide +kernel
theorem dX9_minute_1 : decode cX9_minute 1 = .ok (.iconst 0, 1) := by decide +kernel
theorem dX9_minute_2 : decode cX9_minute 2 = .ok (.putfield 107, 3) := by decide +kernel
theorem dX9_minute_5 : decode cX9_minute 5 = .ok (.aload_n 0, 1) := by decide +kernel
theorem dX9_minute_6 : decode cX9_minute 6 = .ok (.getfield 158, 3) := by decide +kernel
theorem dX9_minute_9 : decode cX9_minute 9 = .ok (.ireturn, 1) := by decide +kernel
theorem dX9_warmth_0 : decode cX9_warmth 0 = .ok (.aload_n 0, 1) := by decide +kernel
theorem dX9_warmth_1 : decode cX9_warmth 1 = .ok (.iconst 0, 1) := by decide +kernel
theorem dX9_warmth_2 : decode cX9_warmth 2 = .ok (.putfield 107, 3) := by decide +kernel
theorem dX9_warmth_5 : decode cX9_warmth 5 = .ok (.aload_n 0, 1) := by decide +kernel
theorem dX9_warmth_6 : decode cX9_warmth 6 = .ok (.getfield 155, 3) := by decide +kernel
theorem dX9_warmth_9 : decode cX9_warmth 9 = .ok (.ireturn, 1) := by decide +kernel
theorem dX9_ofTool_0 : decode cX9_ofTool 0 = .ok (.aload_n 0, 1) := by decide +kernel
theorem dX9_ofTool_1 : decode cX9_ofTool 1 = .ok (.aload_n 0, 1) := by decide +kernel
theorem dX9_ofTool_2 : decode cX9_ofTool 2 = .ok (.iload_n 1, 1) := by decide +kernel
theorem dX9_ofTool_3 : decode cX9_ofTool 3 = .ok (.invokevirtual 141, 3) := by decide +kernel
theorem dX9_ofTool_6 : decode cX9_ofTool 6 = .ok (.iload_n 2, 1) := by decide +kernel
theorem dX9_ofTool_7 : decode cX9_ofTool 7 = .ok (.iconst 0, 1) := by decide +kernel
theorem dX9_ofTool_8 : decode cX9_ofTool 8 = .ok (.iconst 5, 1) := by decide +kernel
theorem dX9_ofTool_9 : decode cX9_ofTool 9 = .ok (.invokestatic 114, 3) := by decide +kernel
theorem dX9_ofTool_12 : decode cX9_ofTool 12 = .ok (.iconst 1, 1) := by decide +kernel
theorem dX9_ofTool_13 : decode cX9_ofTool 13 = .ok (.invokevirtual 127, 3) := by decide +kernel
theorem dX9_ofTool_16 : decode cX9_ofTool 16 = .ok (.ifCond .ne 5, 3) := by decide +kernel
theorem dX9_ofTool_19 : decode cX9_ofTool 19 = .ok (.iconst 0, 1) := by decide +kernel
theorem dX9_ofTool_20 : decode cX9_ofTool 20 = .ok (.ireturn, 1) := by decide +kernel
theorem dX9_ofTool_21 : decode cX9_ofTool 21 = .ok (.iload_n 2, 1) := by decide +kernel
theorem dX9_ofTool_22 : decode cX9_ofTool 22 = .ok (.tableswitch 77 0 4 #[34, 41, 48, 55, 62], 34) := by decide +kernel
theorem dX9_ofTool_56 : decode cX9_ofTool 56 = .ok (.aload_n 0, 1) := by decide +kernel
theorem dX9_ofTool_57 : decode cX9_ofTool 57 = .ok (.getfield 19, 3) := by decide +kernel
theorem dX9_ofTool_60 : decode cX9_ofTool 60 = .ok (.iload_n 1, 1) := by decide +kernel
theorem dX9_ofTool_61 : decode cX9_ofTool 61 = .ok (.iaload, 1) := by decide +kernel
theorem dX9_ofTool_62 : decode cX9_ofTool 62 = .ok (.ireturn, 1) := by decide +kernel
theorem dX9_ofTool_63 : decode cX9_ofTool 63 = .ok (.aload_n 0, 1) := by decide +kernel
theorem dX9_ofTool_64 : decode cX9_ofTool 64 = .ok (.getfield 22, 3) := by decide +kernel
theorem dX9_ofTool_67 : decode cX9_ofTool 67 = .ok (.iload_n 1, 1) := by decide +kernel
theorem dX9_ofTool_68 : decode cX9_ofTool 68 = .ok (.iaload, 1) := by decide +kernel
theorem dX9_ofTool_69 : decode cX9_ofTool 69 = .ok (.ireturn, 1) := by decide +kernel
theorem dX9_ofTool_70 : decode cX9_ofTool 70 = .ok (.aload_n 0, 1) := by decide +kernel
theorem dX9_ofTool_71 : decode cX9_ofTool 71 = .ok (.getfield 25, 3) := by decide +kernel
theorem dX9_ofTool_74 : decode cX9_ofTool 74 = .ok (.iload_n 1, 1) := by decide +kernel
theorem dX9_ofTool_75 : decode cX9_ofTool 75 = .ok (.iaload, 1) := by decide +kernel
theorem dX9_ofTool_76 : decode cX9_ofTool 76 = .ok (.ireturn, 1) := by decide +kernel
theorem dX9_ofTool_77 : decode cX9_ofTool 77 = .ok (.aload_n 0, 1) := by decide +kernel
theorem dX9_ofTool_78 : decode cX9_ofTool 78 = .ok (.getfield 31, 3) := by decide +kernel
theorem dX9_ofTool_81 : decode cX9_ofTool 81 = .ok (.iload_n 1, 1) := by decide +kernel
theorem dX9_ofTool_82 : decode cX9_ofTool 82 = .ok (.iaload, 1) := by decide +kernel
theorem dX9_ofTool_83 : decode cX9_ofTool 83 = .ok (.ireturn, 1) := by decide +kernel
theorem dX9_ofTool_84 : decode cX9_ofTool 84 = .ok (.aload_n 0, 1) := by decide +kernel
theorem dX9_ofTool_85 : decode cX9_ofTool 85 = .ok (.getfield 34, 3) := by decide +kernel
theorem dX9_ofTool_88 : decode cX9_ofTool 88 = .ok (.iload_n 1, 1) := by decide +kernel
theorem dX9_ofTool_89 : decode cX9_ofTool 89 = .ok (.baload, 1) := by decide +kernel
theorem dX9_ofTool_90 : decode cX9_ofTool 90 = .ok (.ifCond .eq 7, 3) := by decide +kernel
theorem dX9_ofTool_93 : decode cX9_ofTool 93 = .ok (.iconst 1, 1) := by decide +kernel
theorem dX9_ofTool_94 : decode cX9_ofTool 94 = .ok (.goto 4, 3) := by decide +kernel
theorem dX9_ofTool_97 : decode cX9_ofTool 97 = .ok (.iconst 0, 1) := by decide +kernel
theorem dX9_ofTool_98 : decode cX9_ofTool 98 = .ok (.ireturn, 1) := by decide +kernel
theorem dX9_ofTool_99 : decode cX9_ofTool 99 = .ok (.aload_n 0, 1) := by decide +kernel
theorem dX9_ofTool_100 : decode cX9_ofTool 100 = .ok (.getfield 41, 3) := by decide +kernel
theorem dX9_ofTool_103 : decode cX9_ofTool 103 = .ok (.iload_n 1, 1) := by decide +kernel
theorem dX9_ofTool_104 : decode cX9_ofTool 104 = .ok (.iaload, 1) := by decide +kernel
theorem dX9_ofTool_105 : decode cX9_ofTool 105 = .ok (.ireturn, 1) := by decide +kernel
theorem dX9_causeOf_0 : decode cX9_causeOf 0 = .ok (.iconst (-1), 1) := by decide +kernel
theorem dX9_causeOf_1 : decode cX9_causeOf 1 = .ok (.istore_n 2, 1) := by decide +kernel
theorem dX9_causeOf_2 : decode cX9_causeOf 2 = .ok (.iconst 0, 1) := by decide +kernel
theorem dX9_causeOf_3 : decode cX9_causeOf 3 = .ok (.istore_n 3, 1) := by decide +kernel
theorem dX9_causeOf_4 : decode cX9_causeOf 4 = .ok (.iconst 0, 1) := by decide +kernel
theorem dX9_causeOf_5 : decode cX9_causeOf 5 = .ok (.istore 4, 2) := by decide +kernel
theorem dX9_causeOf_7 : decode cX9_causeOf 7 = .ok (.iload 4, 2) := by decide +kernel
theorem dX9_causeOf_9 : decode cX9_causeOf 9 = .ok (.iconst 4, 1) := by decide +kernel
theorem dX9_causeOf_10 : decode cX9_causeOf 10 = .ok (.if_icmp .ge 55, 3) := by decide +kernel
theorem dX9_causeOf_13 : decode cX9_causeOf 13 = .ok (.aload_n 0, 1) := by decide +kernel
theorem dX9_causeOf_14 : decode cX9_causeOf 14 = .ok (.getfield 50, 3) := by decide +kernel
theorem dX9_causeOf_17 : decode cX9_causeOf 17 = .ok (.iload_n 1, 1) := by decide +kernel
theorem dX9_causeOf_18 : decode cX9_causeOf 18 = .ok (.iaload, 1) := by decide +kernel
theorem dX9_causeOf_19 : decode cX9_causeOf 19 = .ok (.iconst (-1), 1) := by decide +kernel
theorem dX9_causeOf_20 : decode cX9_causeOf 20 = .ok (.if_icmp .eq 45, 3) := by decide +kernel
theorem dX9_causeOf_23 : decode cX9_causeOf 23 = .ok (.aload_n 0, 1) := by decide +kernel
theorem dX9_causeOf_24 : decode cX9_causeOf 24 = .ok (.getfield 53, 3) := by decide +kernel
theorem dX9_causeOf_27 : decode cX9_causeOf 27 = .ok (.iconst 4, 1) := by decide +kernel
theorem dX9_causeOf_28 : decode cX9_causeOf 28 = .ok (.iload_n 1, 1) := by decide +kernel
theorem dX9_causeOf_29 : decode cX9_causeOf 29 = .ok (.imul, 1) := by decide +kernel
theorem dX9_causeOf_30 : decode cX9_causeOf 30 = .ok (.iload 4, 2) := by decide +kernel
theorem dX9_causeOf_32 : decode cX9_causeOf 32 = .ok (.iadd, 1) := by decide +kernel
theorem dX9_causeOf_33 : decode cX9_causeOf 33 = .ok (.iaload, 1) := by decide +kernel
theorem dX9_causeOf_34 : decode cX9_causeOf 34 = .ok (.invokestatic 204, 3) := by decide +kernel
theorem dX9_causeOf_37 : decode cX9_causeOf 37 = .ok (.iload_n 3, 1) := by decide +kernel
theorem dX9_causeOf_38 : decode cX9_causeOf 38 = .ok (.if_icmp .le 21, 3) := by decide +kernel
theorem dX9_causeOf_41 : decode cX9_causeOf 41 = .ok (.iload 4, 2) := by decide +kernel
theorem dX9_causeOf_43 : decode cX9_causeOf 43 = .ok (.istore_n 2, 1) := by decide +kernel
theorem dX9_causeOf_44 : decode cX9_causeOf 44 = .ok (.aload_n 0, 1) := by decide +kernel
theorem dX9_causeOf_45 : decode cX9_causeOf 45 = .ok (.getfield 53, 3) := by decide +kernel
theorem dX9_causeOf_48 : decode cX9_causeOf 48 = .ok (.iconst 4, 1) := by decide +kernel
theorem dX9_causeOf_49 : decode cX9_causeOf 49 = .ok (.iload_n 1, 1) := by decide +kernel
theorem dX9_causeOf_50 : decode cX9_causeOf 50 = .ok (.imul, 1) := by decide +kernel
theorem dX9_causeOf_51 : decode cX9_causeOf 51 = .ok (.iload 4, 2) := by decide +kernel
theorem dX9_causeOf_53 : decode cX9_causeOf 53 = .ok (.iadd, 1) := by decide +kernel
theorem dX9_causeOf_54 : decode cX9_causeOf 54 = .ok (.iaload, 1) := by decide +kernel
theorem dX9_causeOf_55 : decode cX9_causeOf 55 = .ok (.invokestatic 204, 3) := by decide +kernel
theorem dX9_causeOf_58 : decode cX9_causeOf 58 = .ok (.istore_n 3, 1) := by decide +kernel
theorem dX9_causeOf_59 : decode cX9_causeOf 59 = .ok (.iinc 4 1, 3) := by decide +kernel
theorem dX9_causeOf_62 : decode cX9_causeOf 62 = .ok (.goto (-55), 3) := by decide +kernel
theorem dX9_causeOf_65 : decode cX9_causeOf 65 = .ok (.iload_n 2, 1) := by decide +kernel
theorem dX9_causeOf_66 : decode cX9_causeOf 66 = .ok (.ireturn, 1) := by decide +kernel
theorem dX9_ofCell_0 : decode cX9_ofCell 0 = .ok (.aload_n 0, 1) := by decide +kernel
theorem dX9_ofCell_1 : decode cX9_ofCell 1 = .ok (.iload_n 1, 1) := by decide +kernel
theorem dX9_ofCell_2 : decode cX9_ofCell 2 = .ok (.invokevirtual 148, 3) := by decide +kernel
theorem dX9_ofCell_5 : decode cX9_ofCell 5 = .ok (.ifCond .eq 15, 3) := by decide +kernel
theorem dX9_ofCell_8 : decode cX9_ofCell 8 = .ok (.iload_n 2, 1) := by decide +kernel
theorem dX9_ofCell_9 : decode cX9_ofCell 9 = .ok (.iload_n 3, 1) := by decide +kernel
theorem dX9_ofCell_10 : decode cX9_ofCell 10 = .ok (.invokestatic 151, 3) := by decide +kernel
theorem dX9_ofCell_13 : decode cX9_ofCell 13 = .ok (.ifCond .eq 7, 3) := by decide +kernel
theorem dX9_ofCell_16 : decode cX9_ofCell 16 = .ok (.iconst 1, 1) := by decide +kernel
theorem dX9_ofCell_17 : decode cX9_ofCell 17 = .ok (.goto 4, 3) := by decide +kernel
theorem dX9_ofCell_20 : decode cX9_ofCell 20 = .ok (.iconst 0, 1) := by decide +kernel
theorem dX9_ofCell_21 : decode cX9_ofCell 21 = .ok (.istore 5, 2) := by decide +kernel
theorem dX9_ofCell_23 : decode cX9_ofCell 23 = .ok (.aload_n 0, 1) := by decide +kernel
theorem dX9_ofCell_24 : decode cX9_ofCell 24 = .ok (.iload 5, 2) := by decide +kernel
theorem dX9_ofCell_26 : decode cX9_ofCell 26 = .ok (.iload 4, 2) := by decide +kernel
theorem dX9_ofCell_28 : decode cX9_ofCell 28 = .ok (.iconst 0, 1) := by decide +kernel
theorem dX9_ofCell_29 : decode cX9_ofCell 29 = .ok (.iconst 4, 1) := by decide +kernel
theorem dX9_ofCell_30 : decode cX9_ofCell 30 = .ok (.invokestatic 114, 3) := by decide +kernel
theorem dX9_ofCell_33 : decode cX9_ofCell 33 = .ok (.iconst 1, 1) := by decide +kernel
theorem dX9_ofCell_34 : decode cX9_ofCell 34 = .ok (.invokevirtual 127, 3) := by decide +kernel
theorem dX9_ofCell_37 : decode cX9_ofCell 37 = .ok (.ifCond .ne 5, 3) := by decide +kernel
theorem dX9_ofCell_40 : decode cX9_ofCell 40 = .ok (.iconst 0, 1) := by decide +kernel
theorem dX9_ofCell_41 : decode cX9_ofCell 41 = .ok (.ireturn, 1) := by decide +kernel
theorem dX9_ofCell_42 : decode cX9_ofCell 42 = .ok (.sipush 144, 3) := by decide +kernel
theorem dX9_ofCell_45 : decode cX9_ofCell 45 = .ok (.iload_n 1, 1) := by decide +kernel
theorem dX9_ofCell_46 : decode cX9_ofCell 46 = .ok (.imul, 1) := by decide +kernel
theorem dX9_ofCell_47 : decode cX9_ofCell 47 = .ok (.bipush 12, 2) := by decide +kernel
theorem dX9_ofCell_49 : decode cX9_ofCell 49 = .ok (.iload_n 3, 1) := by decide +kernel
theorem dX9_ofCell_50 : decode cX9_ofCell 50 = .ok (.imul, 1) := by decide +kernel
theorem dX9_ofCell_51 : decode cX9_ofCell 51 = .ok (.iadd, 1) := by decide +kernel
theorem dX9_ofCell_52 : decode cX9_ofCell 52 = .ok (.iload_n 2, 1) := by decide +kernel
theorem dX9_ofCell_53 : decode cX9_ofCell 53 = .ok (.iadd, 1) := by decide +kernel
theorem dX9_ofCell_54 : decode cX9_ofCell 54 = .ok (.istore 6, 2) := by decide +kernel
theorem dX9_ofCell_56 : decode cX9_ofCell 56 = .ok (.iload 4, 2) := by decide +kernel
theorem dX9_ofCell_58 : decode cX9_ofCell 58 = .ok (.tableswitch 60 0 3 #[30, 38, 45, 53], 30) := by decide +kernel
theorem dX9_ofCell_88 : decode cX9_ofCell 88 = .ok (.aload_n 0, 1) := by decide +kernel
theorem dX9_ofCell_89 : decode cX9_ofCell 89 = .ok (.getfield 44, 3) := by decide +kernel
theorem dX9_ofCell_92 : decode cX9_ofCell 92 = .ok (.iload 6, 2) := by decide +kernel
theorem dX9_ofCell_94 : decode cX9_ofCell 94 = .ok (.iaload, 1) := by decide +kernel
theorem dX9_ofCell_95 : decode cX9_ofCell 95 = .ok (.ireturn, 1) := by decide +kernel
theorem dX9_ofCell_96 : decode cX9_ofCell 96 = .ok (.aload_n 0, 1) := by decide +kernel
theorem dX9_ofCell_97 : decode cX9_ofCell 97 = .ok (.iload 6, 2) := by decide +kernel
theorem dX9_ofCell_99 : decode cX9_ofCell 99 = .ok (.invokevirtual 211, 3) := by decide +kernel
theorem dX9_ofCell_102 : decode cX9_ofCell 102 = .ok (.ireturn, 1) := by decide +kernel
theorem dX9_ofCell_103 : decode cX9_ofCell 103 = .ok (.aload_n 0, 1) := by decide +kernel
theorem dX9_ofCell_104 : decode cX9_ofCell 104 = .ok (.getfield 50, 3) := by decide +kernel
theorem dX9_ofCell_107 : decode cX9_ofCell 107 = .ok (.iload 6, 2) := by decide +kernel
theorem dX9_ofCell_109 : decode cX9_ofCell 109 = .ok (.iaload, 1) := by decide +kernel
theorem dX9_ofCell_110 : decode cX9_ofCell 110 = .ok (.ireturn, 1) := by decide +kernel
theorem dX9_ofCell_111 : decode cX9_ofCell 111 = .ok (.aload_n 0, 1) := by decide +kernel
theorem dX9_ofCell_112 : decode cX9_ofCell 112 = .ok (.iload 6, 2) := by decide +kernel
theorem dX9_ofCell_114 : decode cX9_ofCell 114 = .ok (.invokevirtual 221, 3) := by decide +kernel
theorem dX9_ofCell_117 : decode cX9_ofCell 117 = .ok (.ireturn, 1) := by decide +kernel
theorem dX9_ofCell_118 : decode cX9_ofCell 118 = .ok (.aload_n 0, 1) := by decide +kernel
theorem dX9_ofCell_119 : decode cX9_ofCell 119 = .ok (.getfield 47, 3) := by decide +kernel
theorem dX9_ofCell_122 : decode cX9_ofCell 122 = .ok (.iload 6, 2) := by decide +kernel
theorem dX9_ofCell_124 : decode cX9_ofCell 124 = .ok (.iaload, 1) := by decide +kernel
theorem dX9_ofCell_125 : decode cX9_ofCell 125 = .ok (.ireturn, 1) := by decide +kernel
theorem dX9_ofPallet_0 : decode cX9_ofPallet 0 = .ok (.aload_n 0, 1) := by decide +kernel
theorem dX9_ofPallet_1 : decode cX9_ofPallet 1 = .ok (.aload_n 0, 1) := by decide +kernel
theorem dX9_ofPallet_2 : decode cX9_ofPallet 2 = .ok (.iload_n 1, 1) := by decide +kernel
theorem dX9_ofPallet_3 : decode cX9_ofPallet 3 = .ok (.invokevirtual 148, 3) := by decide +kernel
theorem dX9_ofPallet_6 : decode cX9_ofPallet 6 = .ok (.iload_n 2, 1) := by decide +kernel
theorem dX9_ofPallet_7 : decode cX9_ofPallet 7 = .ok (.iconst 0, 1) := by decide +kernel
theorem dX9_ofPallet_8 : decode cX9_ofPallet 8 = .ok (.iconst 3, 1) := by decide +kernel
theorem dX9_ofPallet_9 : decode cX9_ofPallet 9 = .ok (.invokestatic 114, 3) := by decide +kernel
theorem dX9_ofPallet_12 : decode cX9_ofPallet 12 = .ok (.iconst 1, 1) := by decide +kernel
theorem dX9_ofPallet_13 : decode cX9_ofPallet 13 = .ok (.invokevirtual 127, 3) := by decide +kernel
theorem dX9_ofPallet_16 : decode cX9_ofPallet 16 = .ok (.ifCond .ne 5, 3) := by decide +kernel
theorem dX9_ofPallet_19 : decode cX9_ofPallet 19 = .ok (.iconst 0, 1) := by decide +kernel
theorem dX9_ofPallet_20 : decode cX9_ofPallet 20 = .ok (.ireturn, 1) := by decide +kernel
theorem dX9_ofPallet_21 : decode cX9_ofPallet 21 = .ok (.iconst (-1), 1) := by decide +kernel
theorem dX9_ofPallet_22 : decode cX9_ofPallet 22 = .ok (.istore_n 3, 1) := by decide +kernel
theorem dX9_ofPallet_23 : decode cX9_ofPallet 23 = .ok (.iconst 0, 1) := by decide +kernel
theorem dX9_ofPallet_24 : decode cX9_ofPallet 24 = .ok (.istore 4, 2) := by decide +kernel
theorem dX9_ofPallet_26 : decode cX9_ofPallet 26 = .ok (.iload 4, 2) := by decide +kernel
theorem dX9_ofPallet_28 : decode cX9_ofPallet 28 = .ok (.aload_n 0, 1) := by decide +kernel
theorem dX9_ofPallet_29 : decode cX9_ofPallet 29 = .ok (.getfield 138, 3) := by decide +kernel
theorem dX9_ofPallet_32 : decode cX9_ofPallet 32 = .ok (.if_icmp .ge 27, 3) := by decide +kernel
theorem dX9_ofPallet_35 : decode cX9_ofPallet 35 = .ok (.aload_n 0, 1) := by decide +kernel
theorem dX9_ofPallet_36 : decode cX9_ofPallet 36 = .ok (.getfield 71, 3) := by decide +kernel
theorem dX9_ofPallet_39 : decode cX9_ofPallet 39 = .ok (.iload 4, 2) := by decide +kernel
theorem dX9_ofPallet_41 : decode cX9_ofPallet 41 = .ok (.iaload, 1) := by decide +kernel
theorem dX9_ofPallet_42 : decode cX9_ofPallet 42 = .ok (.iload_n 1, 1) := by decide +kernel
theorem dX9_ofPallet_43 : decode cX9_ofPallet 43 = .ok (.if_icmp .ne 8, 3) := by decide +kernel
theorem dX9_ofPallet_46 : decode cX9_ofPallet 46 = .ok (.iload 4, 2) := by decide +kernel
theorem dX9_ofPallet_48 : decode cX9_ofPallet 48 = .ok (.goto 4, 3) := by decide +kernel
theorem dX9_ofPallet_51 : decode cX9_ofPallet 51 = .ok (.iload_n 3, 1) := by decide +kernel
theorem dX9_ofPallet_52 : decode cX9_ofPallet 52 = .ok (.istore_n 3, 1) := by decide +kernel
theorem dX9_ofPallet_53 : decode cX9_ofPallet 53 = .ok (.iinc 4 1, 3) := by decide +kernel
theorem dX9_ofPallet_56 : decode cX9_ofPallet 56 = .ok (.goto (-30), 3) := by decide +kernel
theorem dX9_ofPallet_59 : decode cX9_ofPallet 59 = .ok (.iload_n 2, 1) := by decide +kernel
theorem dX9_ofPallet_60 : decode cX9_ofPallet 60 = .ok (.ifCond .ne 12, 3) := by decide +kernel
theorem dX9_ofPallet_63 : decode cX9_ofPallet 63 = .ok (.aload_n 0, 1) := by decide +kernel
theorem dX9_ofPallet_64 : decode cX9_ofPallet 64 = .ok (.getfield 59, 3) := by decide +kernel
theorem dX9_ofPallet_67 : decode cX9_ofPallet 67 = .ok (.iload_n 1, 1) := by decide +kernel
theorem dX9_ofPallet_68 : decode cX9_ofPallet 68 = .ok (.iaload, 1) := by decide +kernel
theorem dX9_ofPallet_69 : decode cX9_ofPallet 69 = .ok (.goto 32, 3) := by decide +kernel
theorem dX9_ofPallet_72 : decode cX9_ofPallet 72 = .ok (.iload_n 2, 1) := by decide +kernel
theorem dX9_ofPallet_73 : decode cX9_ofPallet 73 = .ok (.iconst 1, 1) := by decide +kernel
theorem dX9_ofPallet_74 : decode cX9_ofPallet 74 = .ok (.if_icmp .ne 12, 3) := by decide +kernel
theorem dX9_ofPallet_77 : decode cX9_ofPallet 77 = .ok (.aload_n 0, 1) := by decide +kernel
theorem dX9_ofPallet_78 : decode cX9_ofPallet 78 = .ok (.getfield 65, 3) := by decide +kernel
theorem dX9_ofPallet_81 : decode cX9_ofPallet 81 = .ok (.iload_n 1, 1) := by decide +kernel
theorem dX9_ofPallet_82 : decode cX9_ofPallet 82 = .ok (.iaload, 1) := by decide +kernel
theorem dX9_ofPallet_83 : decode cX9_ofPallet 83 = .ok (.goto 18, 3) := by decide +kernel
theorem dX9_ofPallet_86 : decode cX9_ofPallet 86 = .ok (.iload_n 2, 1) := by decide +kernel
theorem dX9_ofPallet_87 : decode cX9_ofPallet 87 = .ok (.iconst 2, 1) := by decide +kernel
theorem dX9_ofPallet_88 : decode cX9_ofPallet 88 = .ok (.if_icmp .ne 7, 3) := by decide +kernel
theorem dX9_ofPallet_91 : decode cX9_ofPallet 91 = .ok (.iload_n 3, 1) := by decide +kernel
theorem dX9_ofPallet_92 : decode cX9_ofPallet 92 = .ok (.goto 9, 3) := by decide +kernel
theorem dX9_ofPallet_95 : decode cX9_ofPallet 95 = .ok (.aload_n 0, 1) := by decide +kernel
theorem dX9_ofPallet_96 : decode cX9_ofPallet 96 = .ok (.getfield 68, 3) := by decide +kernel
theorem dX9_ofPallet_99 : decode cX9_ofPallet 99 = .ok (.iload_n 1, 1) := by decide +kernel
theorem dX9_ofPallet_100 : decode cX9_ofPallet 100 = .ok (.iaload, 1) := by decide +kernel
theorem dX9_ofPallet_101 : decode cX9_ofPallet 101 = .ok (.ireturn, 1) := by decide +kernel
theorem dX9_ofPaper_0 : decode cX9_ofPaper 0 = .ok (.aload_n 0, 1) := by decide +kernel
theorem dX9_ofPaper_1 : decode cX9_ofPaper 1 = .ok (.iload_n 1, 1) := by decide +kernel
theorem dX9_ofPaper_2 : decode cX9_ofPaper 2 = .ok (.iconst 0, 1) := by decide +kernel
theorem dX9_ofPaper_3 : decode cX9_ofPaper 3 = .ok (.aload_n 0, 1) := by decide +kernel
theorem dX9_ofPaper_4 : decode cX9_ofPaper 4 = .ok (.getfield 208, 3) := by decide +kernel
theorem dX9_ofPaper_7 : decode cX9_ofPaper 7 = .ok (.iconst 1, 1) := by decide +kernel
theorem dX9_ofPaper_8 : decode cX9_ofPaper 8 = .ok (.isub, 1) := by decide +kernel
theorem dX9_ofPaper_9 : decode cX9_ofPaper 9 = .ok (.invokestatic 114, 3) := by decide +kernel
theorem dX9_ofPaper_12 : decode cX9_ofPaper 12 = .ok (.iload_n 2, 1) := by decide +kernel
theorem dX9_ofPaper_13 : decode cX9_ofPaper 13 = .ok (.iconst 0, 1) := by decide +kernel
theorem dX9_ofPaper_14 : decode cX9_ofPaper 14 = .ok (.bipush 10, 2) := by decide +kernel
theorem dX9_ofPaper_16 : decode cX9_ofPaper 16 = .ok (.invokestatic 114, 3) := by decide +kernel
theorem dX9_ofPaper_19 : decode cX9_ofPaper 19 = .ok (.iconst 1, 1) := by decide +kernel
theorem dX9_ofPaper_20 : decode cX9_ofPaper 20 = .ok (.invokevirtual 127, 3) := by decide +kernel
theorem dX9_ofPaper_23 : decode cX9_ofPaper 23 = .ok (.ifCond .eq 17, 3) := by decide +kernel
theorem dX9_ofPaper_26 : decode cX9_ofPaper 26 = .ok (.aload_n 0, 1) := by decide +kernel
theorem dX9_ofPaper_27 : decode cX9_ofPaper 27 = .ok (.getfield 89, 3) := by decide +kernel
theorem dX9_ofPaper_30 : decode cX9_ofPaper 30 = .ok (.bipush 18, 2) := by decide +kernel
theorem dX9_ofPaper_32 : decode cX9_ofPaper 32 = .ok (.iload_n 1, 1) := by decide +kernel
theorem dX9_ofPaper_33 : decode cX9_ofPaper 33 = .ok (.imul, 1) := by decide +kernel
theorem dX9_ofPaper_34 : decode cX9_ofPaper 34 = .ok (.iload_n 2, 1) := by decide +kernel
theorem dX9_ofPaper_35 : decode cX9_ofPaper 35 = .ok (.iadd, 1) := by decide +kernel
theorem dX9_ofPaper_36 : decode cX9_ofPaper 36 = .ok (.iaload, 1) := by decide +kernel
theorem dX9_ofPaper_37 : decode cX9_ofPaper 37 = .ok (.goto 4, 3) := by decide +kernel
theorem dX9_ofPaper_40 : decode cX9_ofPaper 40 = .ok (.iconst 0, 1) := by decide +kernel
theorem dX9_ofPaper_41 : decode cX9_ofPaper 41 = .ok (.ireturn, 1) := by decide +kernel
theorem dX9_judgeAnew_0 : decode cX9_judgeAnew 0 = .ok (.aload_n 0, 1) := by decide +kernel
theorem dX9_judgeAnew_1 : decode cX9_judgeAnew 1 = .ok (.iload_n 1, 1) := by decide +kernel
theorem dX9_judgeAnew_2 : decode cX9_judgeAnew 2 = .ok (.iconst 0, 1) := by decide +kernel
theorem dX9_judgeAnew_3 : decode cX9_judgeAnew 3 = .ok (.aload_n 0, 1) := by decide +kernel
theorem dX9_judgeAnew_4 : decode cX9_judgeAnew 4 = .ok (.getfield 208, 3) := by decide +kernel
theorem dX9_judgeAnew_7 : decode cX9_judgeAnew 7 = .ok (.iconst 1, 1) := by decide +kernel
theorem dX9_judgeAnew_8 : decode cX9_judgeAnew 8 = .ok (.isub, 1) := by decide +kernel
theorem dX9_judgeAnew_9 : decode cX9_judgeAnew 9 = .ok (.invokestatic 114, 3) := by decide +kernel
theorem dX9_judgeAnew_12 : decode cX9_judgeAnew 12 = .ok (.iconst 1, 1) := by decide +kernel
theorem dX9_judgeAnew_13 : decode cX9_judgeAnew 13 = .ok (.iconst 1, 1) := by decide +kernel
theorem dX9_judgeAnew_14 : decode cX9_judgeAnew 14 = .ok (.invokevirtual 127, 3) := by decide +kernel
theorem dX9_judgeAnew_17 : decode cX9_judgeAnew 17 = .ok (.ifCond .eq 11, 3) := by decide +kernel
theorem dX9_judgeAnew_20 : decode cX9_judgeAnew 20 = .ok (.aload_n 0, 1) := by decide +kernel
theorem dX9_judgeAnew_21 : decode cX9_judgeAnew 21 = .ok (.iload_n 1, 1) := by decide +kernel
theorem dX9_judgeAnew_22 : decode cX9_judgeAnew 22 = .ok (.invokevirtual 218, 3) := by decide +kernel
theorem dX9_judgeAnew_25 : decode cX9_judgeAnew 25 = .ok (.goto 4, 3) := by decide +kernel
theorem dX9_judgeAnew_28 : decode cX9_judgeAnew 28 = .ok (.iconst 0, 1) := by decide +kernel
theorem dX9_judgeAnew_29 : decode cX9_judgeAnew 29 = .ok (.ireturn, 1) := by decide +kernel
end
section
theorem dJ9_abs_0f7a4_0 : decode cJ9_abs_0f7a4 0 = .ok (.iload_n 0, 1) := by decide +kernel
theorem dJ9_abs_0f7a4_1 : decode cJ9_abs_0f7a4 1 = .ok (.ifCond .ge 8, 3) := by decide +kernel
theorem dJ9_abs_0f7a4_4 : decode cJ9_abs_0f7a4 4 = .ok (.iload_n 0, 1) := by decide +kernel
theorem dJ9_abs_0f7a4_5 : decode cJ9_abs_0f7a4 5 = .ok (.ineg, 1) := by decide +kernel
theorem dJ9_abs_0f7a4_6 : decode cJ9_abs_0f7a4 6 = .ok (.goto 4, 3) := by decide +kernel
theorem dJ9_abs_0f7a4_9 : decode cJ9_abs_0f7a4 9 = .ok (.iload_n 0, 1) := by decide +kernel
theorem dJ9_abs_0f7a4_10 : decode cJ9_abs_0f7a4 10 = .ok (.ireturn, 1) := by decide +kernel
theorem dJ9_max_7cf53_0 : decode cJ9_max_7cf53 0 = .ok (.iload_n 0, 1) := by decide +kernel
theorem dJ9_max_7cf53_1 : decode cJ9_max_7cf53 1 = .ok (.iload_n 1, 1) := by decide +kernel
theorem dJ9_max_7cf53_2 : decode cJ9_max_7cf53 2 = .ok (.if_icmp .lt 7, 3) := by decide +kernel
theorem dJ9_max_7cf53_5 : decode cJ9_max_7cf53 5 = .ok (.iload_n 0, 1) := by decide +kernel
theorem dJ9_max_7cf53_6 : decode cJ9_max_7cf53 6 = .ok (.goto 4, 3) := by decide +kernel
theorem dJ9_max_7cf53_9 : decode cJ9_max_7cf53 9 = .ok (.iload_n 1, 1) := by decide +kernel
theorem dJ9_max_7cf53_10 : decode cJ9_max_7cf53 10 = .ok (.ireturn, 1) := by decide +kernel
theorem dJ9_min_7cf53_0 : decode cJ9_min_7cf53 0 = .ok (.iload_n 0, 1) := by decide +kernel
theorem dJ9_min_7cf53_1 : decode cJ9_min_7cf53 1 = .ok (.iload_n 1, 1) := by decide +kernel
theorem dJ9_min_7cf53_2 : decode cJ9_min_7cf53 2 = .ok (.if_icmp .gt 7, 3) := by decide +kernel
theorem dJ9_min_7cf53_5 : decode cJ9_min_7cf53 5 = .ok (.iload_n 0, 1) := by decide +kernel
theorem dJ9_min_7cf53_6 : decode cJ9_min_7cf53 6 = .ok (.goto 4, 3) := by decide +kernel
theorem dJ9_min_7cf53_9 : decode cJ9_min_7cf53 9 = .ok (.iload_n 1, 1) := by decide +kernel
theorem dJ9_min_7cf53_10 : decode cJ9_min_7cf53 10 = .ok (.ireturn, 1) := by decide +kernel
theorem dJxa1e45_init_da8c8_0 : decode cJxa1e45_init_da8c8 0 = .ok (.aload_n 0, 1) := by decide +kernel
theorem dJxa1e45_init_da8c8_1 : decode cJxa1e45_init_da8c8 1 = .ok (.invokespecial 1, 3) := by decide +kernel
theorem dJxa1e45_init_da8c8_4 : decode cJxa1e45_init_da8c8 4 = .ok (.return_, 1) := by decide +kernel
theorem dJxc12de_init_da8c8_0 : decode cJxc12de_init_da8c8 0 = .ok (.aload_n 0, 1) := by decide +kernel
theorem dJxc12de_init_da8c8_1 : decode cJxc12de_init_da8c8 1 = .ok (.invokespecial 1, 3) := by decide +kernel
theorem dJxc12de_init_da8c8_4 : decode cJxc12de_init_da8c8 4 = .ok (.aload_n 0, 1) := by decide +kernel
theorem dJxc12de_init_da8c8_5 : decode cJxc12de_init_da8c8 5 = .ok (.iconst 0, 1) := by decide +kernel
theorem dJxc12de_init_da8c8_6 : decode cJxc12de_init_da8c8 6 = .ok (.putfield 7, 3) := by decide +kernel
theorem dJxc12de_init_da8c8_9 : decode cJxc12de_init_da8c8 9 = .ok (.return_, 1) := by decide +kernel
theorem dJx4a65c_init_da8c8_0 : decode cJx4a65c_init_da8c8 0 = .ok (.aload_n 0, 1) := by decide +kernel
theorem dJx4a65c_init_da8c8_1 : decode cJx4a65c_init_da8c8 1 = .ok (.invokespecial 1, 3) := by decide +kernel
theorem dJx4a65c_init_da8c8_4 : decode cJx4a65c_init_da8c8 4 = .ok (.aload_n 0, 1) := by decide +kernel
theorem dJx4a65c_init_da8c8_5 : decode cJx4a65c_init_da8c8 5 = .ok (.getstatic 39, 3) := by decide +kernel
theorem dJx4a65c_init_da8c8_8 : decode cJx4a65c_init_da8c8 8 = .ok (.putfield 9, 3) := by decide +kernel
theorem dJx4a65c_init_da8c8_11 : decode cJx4a65c_init_da8c8 11 = .ok (.return_, 1) := by decide +kernel
theorem dJx4a65c_grow_92f84_0 : decode cJx4a65c_grow_92f84 0 = .ok (.aload_n 0, 1) := by decide +kernel
theorem dJx4a65c_grow_92f84_1 : decode cJx4a65c_grow_92f84 1 = .ok (.getfield 9, 3) := by decide +kernel
theorem dJx4a65c_grow_92f84_4 : decode cJx4a65c_grow_92f84 4 = .ok (.arraylength, 1) := by decide +kernel
theorem dJx4a65c_grow_92f84_5 : decode cJx4a65c_grow_92f84 5 = .ok (.istore_n 2, 1) := by decide +kernel
theorem dJx4a65c_grow_92f84_6 : decode cJx4a65c_grow_92f84 6 = .ok (.iload_n 2, 1) := by decide +kernel
theorem dJx4a65c_grow_92f84_7 : decode cJx4a65c_grow_92f84 7 = .ok (.ifCond .gt 13, 3) := by decide +kernel
theorem dJx4a65c_grow_92f84_10 : decode cJx4a65c_grow_92f84 10 = .ok (.aload_n 0, 1) := by decide +kernel
theorem dJx4a65c_grow_92f84_11 : decode cJx4a65c_grow_92f84 11 = .ok (.getfield 9, 3) := by decide +kernel
theorem dJx4a65c_grow_92f84_14 : decode cJx4a65c_grow_92f84 14 = .ok (.getstatic 39, 3) := by decide +kernel
theorem dJx4a65c_grow_92f84_17 : decode cJx4a65c_grow_92f84 17 = .ok (.if_acmp .eq 28, 3) := by decide +kernel
theorem dJx4a65c_grow_92f84_20 : decode cJx4a65c_grow_92f84 20 = .ok (.iload_n 2, 1) := by decide +kernel
theorem dJx4a65c_grow_92f84_21 : decode cJx4a65c_grow_92f84 21 = .ok (.iload_n 1, 1) := by decide +kernel
theorem dJx4a65c_grow_92f84_22 : decode cJx4a65c_grow_92f84 22 = .ok (.iload_n 2, 1) := by decide +kernel
theorem dJx4a65c_grow_92f84_23 : decode cJx4a65c_grow_92f84 23 = .ok (.isub, 1) := by decide +kernel
theorem dJx4a65c_grow_92f84_24 : decode cJx4a65c_grow_92f84 24 = .ok (.iload_n 2, 1) := by decide +kernel
theorem dJx4a65c_grow_92f84_25 : decode cJx4a65c_grow_92f84 25 = .ok (.iconst 1, 1) := by decide +kernel
theorem dJx4a65c_grow_92f84_26 : decode cJx4a65c_grow_92f84 26 = .ok (.ishr, 1) := by decide +kernel
theorem dJx4a65c_grow_92f84_27 : decode cJx4a65c_grow_92f84 27 = .ok (.invokestatic 73, 3) := by decide +kernel
theorem dJx4a65c_grow_92f84_30 : decode cJx4a65c_grow_92f84 30 = .ok (.istore_n 3, 1) := by decide +kernel
theorem dJx4a65c_grow_92f84_31 : decode cJx4a65c_grow_92f84 31 = .ok (.aload_n 0, 1) := by decide +kernel
theorem dJx4a65c_grow_92f84_32 : decode cJx4a65c_grow_92f84 32 = .ok (.aload_n 0, 1) := by decide +kernel
theorem dJx4a65c_grow_92f84_33 : decode cJx4a65c_grow_92f84 33 = .ok (.getfield 9, 3) := by decide +kernel
theorem dJx4a65c_grow_92f84_36 : decode cJx4a65c_grow_92f84 36 = .ok (.iload_n 3, 1) := by decide +kernel
theorem dJx4a65c_grow_92f84_37 : decode cJx4a65c_grow_92f84 37 = .ok (.invokestatic 66, 3) := by decide +kernel
theorem dJx4a65c_grow_92f84_40 : decode cJx4a65c_grow_92f84 40 = .ok (.dup_x1, 1) := by decide +kernel
theorem dJx4a65c_grow_92f84_41 : decode cJx4a65c_grow_92f84 41 = .ok (.putfield 9, 3) := by decide +kernel
theorem dJx4a65c_grow_92f84_44 : decode cJx4a65c_grow_92f84 44 = .ok (.areturn, 1) := by decide +kernel
theorem dJx4a65c_grow_92f84_45 : decode cJx4a65c_grow_92f84 45 = .ok (.aload_n 0, 1) := by decide +kernel
theorem dJx4a65c_grow_92f84_46 : decode cJx4a65c_grow_92f84 46 = .ok (.bipush 10, 2) := by decide +kernel
theorem dJx4a65c_grow_92f84_48 : decode cJx4a65c_grow_92f84 48 = .ok (.iload_n 1, 1) := by decide +kernel
theorem dJx4a65c_grow_92f84_49 : decode cJx4a65c_grow_92f84 49 = .ok (.invokestatic 79, 3) := by decide +kernel
theorem dJx4a65c_grow_92f84_52 : decode cJx4a65c_grow_92f84 52 = .ok (.anewarray 7, 3) := by decide +kernel
theorem dJx4a65c_grow_92f84_55 : decode cJx4a65c_grow_92f84 55 = .ok (.dup_x1, 1) := by decide +kernel
theorem dJx4a65c_grow_92f84_56 : decode cJx4a65c_grow_92f84 56 = .ok (.putfield 9, 3) := by decide +kernel
theorem dJx4a65c_grow_92f84_59 : decode cJx4a65c_grow_92f84 59 = .ok (.areturn, 1) := by decide +kernel
theorem dJx4a65c_grow_d5877_0 : decode cJx4a65c_grow_d5877 0 = .ok (.aload_n 0, 1) := by decide +kernel
theorem dJx4a65c_grow_d5877_1 : decode cJx4a65c_grow_d5877 1 = .ok (.aload_n 0, 1) := by decide +kernel
theorem dJx4a65c_grow_d5877_2 : decode cJx4a65c_grow_d5877 2 = .ok (.getfield 48, 3) := by decide +kernel
theorem dJx4a65c_grow_d5877_5 : decode cJx4a65c_grow_d5877 5 = .ok (.iconst 1, 1) := by decide +kernel
theorem dJx4a65c_grow_d5877_6 : decode cJx4a65c_grow_d5877 6 = .ok (.iadd, 1) := by decide +kernel
theorem dJx4a65c_grow_d5877_7 : decode cJx4a65c_grow_d5877 7 = .ok (.invokevirtual 69, 3) := by decide +kernel
theorem dJx4a65c_grow_d5877_10 : decode cJx4a65c_grow_d5877 10 = .ok (.areturn, 1) := by decide +kernel
theorem dJx4a65c_size_8abf5_0 : decode cJx4a65c_size_8abf5 0 = .ok (.aload_n 0, 1) := by decide +kernel
theorem dJx4a65c_size_8abf5_1 : decode cJx4a65c_size_8abf5 1 = .ok (.getfield 48, 3) := by decide +kernel
theorem dJx4a65c_size_8abf5_4 : decode cJx4a65c_size_8abf5 4 = .ok (.ireturn, 1) := by decide +kernel
theorem dJx4a65c_isEmpty_aae02_0 : decode cJx4a65c_isEmpty_aae02 0 = .ok (.aload_n 0, 1) := by decide +kernel
theorem dJx4a65c_isEmpty_aae02_1 : decode cJx4a65c_isEmpty_aae02 1 = .ok (.getfield 48, 3) := by decide +kernel
theorem dJx4a65c_isEmpty_aae02_4 : decode cJx4a65c_isEmpty_aae02 4 = .ok (.ifCond .ne 7, 3) := by decide +kernel
theorem dJx4a65c_isEmpty_aae02_7 : decode cJx4a65c_isEmpty_aae02 7 = .ok (.iconst 1, 1) := by decide +kernel
theorem dJx4a65c_isEmpty_aae02_8 : decode cJx4a65c_isEmpty_aae02 8 = .ok (.goto 4, 3) := by decide +kernel
theorem dJx4a65c_isEmpty_aae02_11 : decode cJx4a65c_isEmpty_aae02 11 = .ok (.iconst 0, 1) := by decide +kernel
theorem dJx4a65c_isEmpty_aae02_12 : decode cJx4a65c_isEmpty_aae02 12 = .ok (.ireturn, 1) := by decide +kernel
theorem dJx4a65c_elementData_915e3_0 : decode cJx4a65c_elementData_915e3 0 = .ok (.aload_n 0, 1) := by decide +kernel
theorem dJx4a65c_elementData_915e3_1 : decode cJx4a65c_elementData_915e3 1 = .ok (.getfield 9, 3) := by decide +kernel
theorem dJx4a65c_elementData_915e3_4 : decode cJx4a65c_elementData_915e3 4 = .ok (.iload_n 1, 1) := by decide +kernel
theorem dJx4a65c_elementData_915e3_5 : decode cJx4a65c_elementData_915e3 5 = .ok (.aaload, 1) := by decide +kernel
theorem dJx4a65c_elementData_915e3_6 : decode cJx4a65c_elementData_915e3 6 = .ok (.areturn, 1) := by decide +kernel
theorem dJx4a65c_get_915e3_0 : decode cJx4a65c_get_915e3 0 = .ok (.iload_n 1, 1) := by decide +kernel
theorem dJx4a65c_get_915e3_1 : decode cJx4a65c_get_915e3 1 = .ok (.aload_n 0, 1) := by decide +kernel
theorem dJx4a65c_get_915e3_2 : decode cJx4a65c_get_915e3 2 = .ok (.getfield 48, 3) := by decide +kernel
theorem dJx4a65c_get_915e3_5 : decode cJx4a65c_get_915e3 5 = .ok (.invokestatic 118, 3) := by decide +kernel
theorem dJx4a65c_get_915e3_8 : decode cJx4a65c_get_915e3 8 = .ok (.pop, 1) := by decide +kernel
theorem dJx4a65c_get_915e3_9 : decode cJx4a65c_get_915e3 9 = .ok (.aload_n 0, 1) := by decide +kernel
theorem dJx4a65c_get_915e3_10 : decode cJx4a65c_get_915e3 10 = .ok (.iload_n 1, 1) := by decide +kernel
theorem dJx4a65c_get_915e3_11 : decode cJx4a65c_get_915e3 11 = .ok (.invokevirtual 123, 3) := by decide +kernel
theorem dJx4a65c_get_915e3_14 : decode cJx4a65c_get_915e3 14 = .ok (.areturn, 1) := by decide +kernel
theorem dJx4a65c_add_72be8_0 : decode cJx4a65c_add_72be8 0 = .ok (.iload_n 3, 1) := by decide +kernel
theorem dJx4a65c_add_72be8_1 : decode cJx4a65c_add_72be8 1 = .ok (.aload_n 2, 1) := by decide +kernel
theorem dJx4a65c_add_72be8_2 : decode cJx4a65c_add_72be8 2 = .ok (.arraylength, 1) := by decide +kernel
theorem dJx4a65c_add_72be8_3 : decode cJx4a65c_add_72be8 3 = .ok (.if_icmp .ne 8, 3) := by decide +kernel
theorem dJx4a65c_add_72be8_6 : decode cJx4a65c_add_72be8 6 = .ok (.aload_n 0, 1) := by decide +kernel
theorem dJx4a65c_add_72be8_7 : decode cJx4a65c_add_72be8 7 = .ok (.invokevirtual 129, 3) := by decide +kernel
theorem dJx4a65c_add_72be8_10 : decode cJx4a65c_add_72be8 10 = .ok (.astore_n 2, 1) := by decide +kernel
theorem dJx4a65c_add_72be8_11 : decode cJx4a65c_add_72be8 11 = .ok (.aload_n 2, 1) := by decide +kernel
theorem dJx4a65c_add_72be8_12 : decode cJx4a65c_add_72be8 12 = .ok (.iload_n 3, 1) := by decide +kernel
theorem dJx4a65c_add_72be8_13 : decode cJx4a65c_add_72be8 13 = .ok (.aload_n 1, 1) := by decide +kernel
theorem dJx4a65c_add_72be8_14 : decode cJx4a65c_add_72be8 14 = .ok (.aastore, 1) := by decide +kernel
theorem dJx4a65c_add_72be8_15 : decode cJx4a65c_add_72be8 15 = .ok (.aload_n 0, 1) := by decide +kernel
theorem dJx4a65c_add_72be8_16 : decode cJx4a65c_add_72be8 16 = .ok (.iload_n 3, 1) := by decide +kernel
theorem dJx4a65c_add_72be8_17 : decode cJx4a65c_add_72be8 17 = .ok (.iconst 1, 1) := by decide +kernel
theorem dJx4a65c_add_72be8_18 : decode cJx4a65c_add_72be8 18 = .ok (.iadd, 1) := by decide +kernel
theorem dJx4a65c_add_72be8_19 : decode cJx4a65c_add_72be8 19 = .ok (.putfield 48, 3) := by decide +kernel
theorem dJx4a65c_add_72be8_22 : decode cJx4a65c_add_72be8 22 = .ok (.return_, 1) := by decide +kernel
theorem dJx4a65c_add_9ea2d_0 : decode cJx4a65c_add_9ea2d 0 = .ok (.aload_n 0, 1) := by decide +kernel
theorem dJx4a65c_add_9ea2d_1 : decode cJx4a65c_add_9ea2d 1 = .ok (.dup, 1) := by decide +kernel
theorem dJx4a65c_add_9ea2d_2 : decode cJx4a65c_add_9ea2d 2 = .ok (.getfield 63, 3) := by decide +kernel
theorem dJx4a65c_add_9ea2d_5 : decode cJx4a65c_add_9ea2d 5 = .ok (.iconst 1, 1) := by decide +kernel
theorem dJx4a65c_add_9ea2d_6 : decode cJx4a65c_add_9ea2d 6 = .ok (.iadd, 1) := by decide +kernel
theorem dJx4a65c_add_9ea2d_7 : decode cJx4a65c_add_9ea2d 7 = .ok (.putfield 63, 3) := by decide +kernel
theorem dJx4a65c_add_9ea2d_10 : decode cJx4a65c_add_9ea2d 10 = .ok (.aload_n 0, 1) := by decide +kernel
theorem dJx4a65c_add_9ea2d_11 : decode cJx4a65c_add_9ea2d 11 = .ok (.aload_n 1, 1) := by decide +kernel
theorem dJx4a65c_add_9ea2d_12 : decode cJx4a65c_add_9ea2d 12 = .ok (.aload_n 0, 1) := by decide +kernel
theorem dJx4a65c_add_9ea2d_13 : decode cJx4a65c_add_9ea2d 13 = .ok (.getfield 9, 3) := by decide +kernel
theorem dJx4a65c_add_9ea2d_16 : decode cJx4a65c_add_9ea2d 16 = .ok (.aload_n 0, 1) := by decide +kernel
theorem dJx4a65c_add_9ea2d_17 : decode cJx4a65c_add_9ea2d 17 = .ok (.getfield 48, 3) := by decide +kernel
theorem dJx4a65c_add_9ea2d_20 : decode cJx4a65c_add_9ea2d 20 = .ok (.invokevirtual 131, 3) := by decide +kernel
theorem dJx4a65c_add_9ea2d_23 : decode cJx4a65c_add_9ea2d 23 = .ok (.iconst 1, 1) := by decide +kernel
theorem dJx4a65c_add_9ea2d_24 : decode cJx4a65c_add_9ea2d 24 = .ok (.ireturn, 1) := by decide +kernel
theorem dJx4a65c_remove_915e3_0 : decode cJx4a65c_remove_915e3 0 = .ok (.iload_n 1, 1) := by decide +kernel
theorem dJx4a65c_remove_915e3_1 : decode cJx4a65c_remove_915e3 1 = .ok (.aload_n 0, 1) := by decide +kernel
theorem dJx4a65c_remove_915e3_2 : decode cJx4a65c_remove_915e3 2 = .ok (.getfield 48, 3) := by decide +kernel
theorem dJx4a65c_remove_915e3_5 : decode cJx4a65c_remove_915e3 5 = .ok (.invokestatic 118, 3) := by decide +kernel
theorem dJx4a65c_remove_915e3_8 : decode cJx4a65c_remove_915e3 8 = .ok (.pop, 1) := by decide +kernel
theorem dJx4a65c_remove_915e3_9 : decode cJx4a65c_remove_915e3 9 = .ok (.aload_n 0, 1) := by decide +kernel
theorem dJx4a65c_remove_915e3_10 : decode cJx4a65c_remove_915e3 10 = .ok (.getfield 9, 3) := by decide +kernel
theorem dJx4a65c_remove_915e3_13 : decode cJx4a65c_remove_915e3 13 = .ok (.astore_n 2, 1) := by decide +kernel
theorem dJx4a65c_remove_915e3_14 : decode cJx4a65c_remove_915e3 14 = .ok (.aload_n 2, 1) := by decide +kernel
theorem dJx4a65c_remove_915e3_15 : decode cJx4a65c_remove_915e3 15 = .ok (.iload_n 1, 1) := by decide +kernel
theorem dJx4a65c_remove_915e3_16 : decode cJx4a65c_remove_915e3 16 = .ok (.aaload, 1) := by decide +kernel
theorem dJx4a65c_remove_915e3_17 : decode cJx4a65c_remove_915e3 17 = .ok (.astore_n 3, 1) := by decide +kernel
theorem dJx4a65c_remove_915e3_18 : decode cJx4a65c_remove_915e3 18 = .ok (.aload_n 0, 1) := by decide +kernel
theorem dJx4a65c_remove_915e3_19 : decode cJx4a65c_remove_915e3 19 = .ok (.aload_n 2, 1) := by decide +kernel
theorem dJx4a65c_remove_915e3_20 : decode cJx4a65c_remove_915e3 20 = .ok (.iload_n 1, 1) := by decide +kernel
theorem dJx4a65c_remove_915e3_21 : decode cJx4a65c_remove_915e3 21 = .ok (.invokevirtual 144, 3) := by decide +kernel
theorem dJx4a65c_remove_915e3_24 : decode cJx4a65c_remove_915e3 24 = .ok (.aload_n 3, 1) := by decide +kernel
theorem dJx4a65c_remove_915e3_25 : decode cJx4a65c_remove_915e3 25 = .ok (.areturn, 1) := by decide +kernel
theorem dJx4a65c_fastRemove_b59b0_0 : decode cJx4a65c_fastRemove_b59b0 0 = .ok (.aload_n 0, 1) := by decide +kernel
theorem dJx4a65c_fastRemove_b59b0_1 : decode cJx4a65c_fastRemove_b59b0 1 = .ok (.dup, 1) := by decide +kernel
theorem dJx4a65c_fastRemove_b59b0_2 : decode cJx4a65c_fastRemove_b59b0 2 = .ok (.getfield 63, 3) := by decide +kernel
theorem dJx4a65c_fastRemove_b59b0_5 : decode cJx4a65c_fastRemove_b59b0 5 = .ok (.iconst 1, 1) := by decide +kernel
theorem dJx4a65c_fastRemove_b59b0_6 : decode cJx4a65c_fastRemove_b59b0 6 = .ok (.iadd, 1) := by decide +kernel
theorem dJx4a65c_fastRemove_b59b0_7 : decode cJx4a65c_fastRemove_b59b0 7 = .ok (.putfield 63, 3) := by decide +kernel
theorem dJx4a65c_fastRemove_b59b0_10 : decode cJx4a65c_fastRemove_b59b0 10 = .ok (.aload_n 0, 1) := by decide +kernel
theorem dJx4a65c_fastRemove_b59b0_11 : decode cJx4a65c_fastRemove_b59b0 11 = .ok (.getfield 48, 3) := by decide +kernel
theorem dJx4a65c_fastRemove_b59b0_14 : decode cJx4a65c_fastRemove_b59b0 14 = .ok (.iconst 1, 1) := by decide +kernel
theorem dJx4a65c_fastRemove_b59b0_15 : decode cJx4a65c_fastRemove_b59b0 15 = .ok (.isub, 1) := by decide +kernel
theorem dJx4a65c_fastRemove_b59b0_16 : decode cJx4a65c_fastRemove_b59b0 16 = .ok (.dup, 1) := by decide +kernel
theorem dJx4a65c_fastRemove_b59b0_17 : decode cJx4a65c_fastRemove_b59b0 17 = .ok (.istore_n 3, 1) := by decide +kernel
theorem dJx4a65c_fastRemove_b59b0_18 : decode cJx4a65c_fastRemove_b59b0 18 = .ok (.iload_n 2, 1) := by decide +kernel
theorem dJx4a65c_fastRemove_b59b0_19 : decode cJx4a65c_fastRemove_b59b0 19 = .ok (.if_icmp .le 15, 3) := by decide +kernel
theorem dJx4a65c_fastRemove_b59b0_22 : decode cJx4a65c_fastRemove_b59b0 22 = .ok (.aload_n 1, 1) := by decide +kernel
theorem dJx4a65c_fastRemove_b59b0_23 : decode cJx4a65c_fastRemove_b59b0 23 = .ok (.iload_n 2, 1) := by decide +kernel
theorem dJx4a65c_fastRemove_b59b0_24 : decode cJx4a65c_fastRemove_b59b0 24 = .ok (.iconst 1, 1) := by decide +kernel
theorem dJx4a65c_fastRemove_b59b0_25 : decode cJx4a65c_fastRemove_b59b0 25 = .ok (.iadd, 1) := by decide +kernel
theorem dJx4a65c_fastRemove_b59b0_26 : decode cJx4a65c_fastRemove_b59b0 26 = .ok (.aload_n 1, 1) := by decide +kernel
theorem dJx4a65c_fastRemove_b59b0_27 : decode cJx4a65c_fastRemove_b59b0 27 = .ok (.iload_n 2, 1) := by decide +kernel
theorem dJx4a65c_fastRemove_b59b0_28 : decode cJx4a65c_fastRemove_b59b0 28 = .ok (.iload_n 3, 1) := by decide +kernel
theorem dJx4a65c_fastRemove_b59b0_29 : decode cJx4a65c_fastRemove_b59b0 29 = .ok (.iload_n 2, 1) := by decide +kernel
theorem dJx4a65c_fastRemove_b59b0_30 : decode cJx4a65c_fastRemove_b59b0 30 = .ok (.isub, 1) := by decide +kernel
theorem dJx4a65c_fastRemove_b59b0_31 : decode cJx4a65c_fastRemove_b59b0 31 = .ok (.invokestatic 112, 3) := by decide +kernel
theorem dJx4a65c_fastRemove_b59b0_34 : decode cJx4a65c_fastRemove_b59b0 34 = .ok (.aload_n 1, 1) := by decide +kernel
theorem dJx4a65c_fastRemove_b59b0_35 : decode cJx4a65c_fastRemove_b59b0 35 = .ok (.aload_n 0, 1) := by decide +kernel
theorem dJx4a65c_fastRemove_b59b0_36 : decode cJx4a65c_fastRemove_b59b0 36 = .ok (.iload_n 3, 1) := by decide +kernel
theorem dJx4a65c_fastRemove_b59b0_37 : decode cJx4a65c_fastRemove_b59b0 37 = .ok (.dup_x1, 1) := by decide +kernel
theorem dJx4a65c_fastRemove_b59b0_38 : decode cJx4a65c_fastRemove_b59b0 38 = .ok (.putfield 48, 3) := by decide +kernel
theorem dJx4a65c_fastRemove_b59b0_41 : decode cJx4a65c_fastRemove_b59b0 41 = .ok (.aconst_null, 1) := by decide +kernel
theorem dJx4a65c_fastRemove_b59b0_42 : decode cJx4a65c_fastRemove_b59b0 42 = .ok (.aastore, 1) := by decide +kernel
theorem dJx4a65c_fastRemove_b59b0_43 : decode cJx4a65c_fastRemove_b59b0 43 = .ok (.return_, 1) := by decide +kernel
theorem dJx4a65c_clear_da8c8_0 : decode cJx4a65c_clear_da8c8 0 = .ok (.aload_n 0, 1) := by decide +kernel
theorem dJx4a65c_clear_da8c8_1 : decode cJx4a65c_clear_da8c8 1 = .ok (.dup, 1) := by decide +kernel
theorem dJx4a65c_clear_da8c8_2 : decode cJx4a65c_clear_da8c8 2 = .ok (.getfield 63, 3) := by decide +kernel
theorem dJx4a65c_clear_da8c8_5 : decode cJx4a65c_clear_da8c8 5 = .ok (.iconst 1, 1) := by decide +kernel
theorem dJx4a65c_clear_da8c8_6 : decode cJx4a65c_clear_da8c8 6 = .ok (.iadd, 1) := by decide +kernel
theorem dJx4a65c_clear_da8c8_7 : decode cJx4a65c_clear_da8c8 7 = .ok (.putfield 63, 3) := by decide +kernel
theorem dJx4a65c_clear_da8c8_10 : decode cJx4a65c_clear_da8c8 10 = .ok (.aload_n 0, 1) := by decide +kernel
theorem dJx4a65c_clear_da8c8_11 : decode cJx4a65c_clear_da8c8 11 = .ok (.getfield 9, 3) := by decide +kernel
theorem dJx4a65c_clear_da8c8_14 : decode cJx4a65c_clear_da8c8 14 = .ok (.astore_n 1, 1) := by decide +kernel
theorem dJx4a65c_clear_da8c8_15 : decode cJx4a65c_clear_da8c8 15 = .ok (.aload_n 0, 1) := by decide +kernel
theorem dJx4a65c_clear_da8c8_16 : decode cJx4a65c_clear_da8c8 16 = .ok (.getfield 48, 3) := by decide +kernel
theorem dJx4a65c_clear_da8c8_19 : decode cJx4a65c_clear_da8c8 19 = .ok (.istore_n 2, 1) := by decide +kernel
theorem dJx4a65c_clear_da8c8_20 : decode cJx4a65c_clear_da8c8 20 = .ok (.aload_n 0, 1) := by decide +kernel
theorem dJx4a65c_clear_da8c8_21 : decode cJx4a65c_clear_da8c8 21 = .ok (.iconst 0, 1) := by decide +kernel
theorem dJx4a65c_clear_da8c8_22 : decode cJx4a65c_clear_da8c8 22 = .ok (.dup_x1, 1) := by decide +kernel
theorem dJx4a65c_clear_da8c8_23 : decode cJx4a65c_clear_da8c8 23 = .ok (.putfield 48, 3) := by decide +kernel
theorem dJx4a65c_clear_da8c8_26 : decode cJx4a65c_clear_da8c8 26 = .ok (.istore_n 3, 1) := by decide +kernel
theorem dJx4a65c_clear_da8c8_27 : decode cJx4a65c_clear_da8c8 27 = .ok (.iload_n 3, 1) := by decide +kernel
theorem dJx4a65c_clear_da8c8_28 : decode cJx4a65c_clear_da8c8 28 = .ok (.iload_n 2, 1) := by decide +kernel
theorem dJx4a65c_clear_da8c8_29 : decode cJx4a65c_clear_da8c8 29 = .ok (.if_icmp .ge 13, 3) := by decide +kernel
theorem dJx4a65c_clear_da8c8_32 : decode cJx4a65c_clear_da8c8 32 = .ok (.aload_n 1, 1) := by decide +kernel
theorem dJx4a65c_clear_da8c8_33 : decode cJx4a65c_clear_da8c8 33 = .ok (.iload_n 3, 1) := by decide +kernel
theorem dJx4a65c_clear_da8c8_34 : decode cJx4a65c_clear_da8c8 34 = .ok (.aconst_null, 1) := by decide +kernel
theorem dJx4a65c_clear_da8c8_35 : decode cJx4a65c_clear_da8c8 35 = .ok (.aastore, 1) := by decide +kernel
theorem dJx4a65c_clear_da8c8_36 : decode cJx4a65c_clear_da8c8 36 = .ok (.iinc 3 1, 3) := by decide +kernel
theorem dJx4a65c_clear_da8c8_39 : decode cJx4a65c_clear_da8c8 39 = .ok (.goto (-12), 3) := by decide +kernel
theorem dJx4a65c_clear_da8c8_42 : decode cJx4a65c_clear_da8c8 42 = .ok (.return_, 1) := by decide +kernel
theorem dJ7_fill_53178_0 : decode cJ7_fill_53178 0 = .ok (.iconst 0, 1) := by decide +kernel
theorem dJ7_fill_53178_1 : decode cJ7_fill_53178 1 = .ok (.istore_n 2, 1) := by decide +kernel
theorem dJ7_fill_53178_2 : decode cJ7_fill_53178 2 = .ok (.aload_n 0, 1) := by decide +kernel
theorem dJ7_fill_53178_3 : decode cJ7_fill_53178 3 = .ok (.arraylength, 1) := by decide +kernel
theorem dJ7_fill_53178_4 : decode cJ7_fill_53178 4 = .ok (.istore_n 3, 1) := by decide +kernel
theorem dJ7_fill_53178_5 : decode cJ7_fill_53178 5 = .ok (.iload_n 2, 1) := by decide +kernel
theorem dJ7_fill_53178_6 : decode cJ7_fill_53178 6 = .ok (.iload_n 3, 1) := by decide +kernel
theorem dJ7_fill_53178_7 : decode cJ7_fill_53178 7 = .ok (.if_icmp .ge 13, 3) := by decide +kernel
theorem dJ7_fill_53178_10 : decode cJ7_fill_53178 10 = .ok (.aload_n 0, 1) := by decide +kernel
theorem dJ7_fill_53178_11 : decode cJ7_fill_53178 11 = .ok (.iload_n 2, 1) := by decide +kernel
theorem dJ7_fill_53178_12 : decode cJ7_fill_53178 12 = .ok (.iload_n 1, 1) := by decide +kernel
theorem dJ7_fill_53178_13 : decode cJ7_fill_53178 13 = .ok (.iastore, 1) := by decide +kernel
theorem dJ7_fill_53178_14 : decode cJ7_fill_53178 14 = .ok (.iinc 2 1, 3) := by decide +kernel
theorem dJ7_fill_53178_17 : decode cJ7_fill_53178 17 = .ok (.goto (-12), 3) := by decide +kernel
theorem dJ7_fill_53178_20 : decode cJ7_fill_53178 20 = .ok (.return_, 1) := by decide +kernel
theorem dJ7_copyOf_1904c_0 : decode cJ7_copyOf_1904c 0 = .ok (.aload_n 0, 1) := by decide +kernel
theorem dJ7_copyOf_1904c_1 : decode cJ7_copyOf_1904c 1 = .ok (.iload_n 1, 1) := by decide +kernel
theorem dJ7_copyOf_1904c_2 : decode cJ7_copyOf_1904c 2 = .ok (.aload_n 0, 1) := by decide +kernel
theorem dJ7_copyOf_1904c_3 : decode cJ7_copyOf_1904c 3 = .ok (.invokevirtual 86, 3) := by decide +kernel
theorem dJ7_copyOf_1904c_6 : decode cJ7_copyOf_1904c 6 = .ok (.invokestatic 300, 3) := by decide +kernel
theorem dJ7_copyOf_1904c_9 : decode cJ7_copyOf_1904c 9 = .ok (.areturn, 1) := by decide +kernel
theorem dJ7_copyOf_6403c_0 : decode cJ7_copyOf_6403c 0 = .ok (.aload_n 2, 1) := by decide +kernel
theorem dJ7_copyOf_6403c_1 : decode cJ7_copyOf_6403c 1 = .ok (.ldc 110, 2) := by decide +kernel
theorem dJ7_copyOf_6403c_3 : decode cJ7_copyOf_6403c 3 = .ok (.if_acmp .ne 10, 3) := by decide +kernel
theorem dJ7_copyOf_6403c_6 : decode cJ7_copyOf_6403c 6 = .ok (.iload_n 1, 1) := by decide +kernel
theorem dJ7_copyOf_6403c_7 : decode cJ7_copyOf_6403c 7 = .ok (.anewarray 2, 3) := by decide +kernel
theorem dJ7_copyOf_6403c_10 : decode cJ7_copyOf_6403c 10 = .ok (.goto 14, 3) := by decide +kernel
theorem dJ7_copyOf_6403c_13 : decode cJ7_copyOf_6403c 13 = .ok (.aload_n 2, 1) := by decide +kernel
theorem dJ7_copyOf_6403c_14 : decode cJ7_copyOf_6403c 14 = .ok (.invokevirtual 90, 3) := by decide +kernel
theorem dJ7_copyOf_6403c_17 : decode cJ7_copyOf_6403c 17 = .ok (.iload_n 1, 1) := by decide +kernel
theorem dJ7_copyOf_6403c_18 : decode cJ7_copyOf_6403c 18 = .ok (.invokestatic 95, 3) := by decide +kernel
theorem dJ7_copyOf_6403c_21 : decode cJ7_copyOf_6403c 21 = .ok (.checkcast 110, 3) := by decide +kernel
theorem dJ7_copyOf_6403c_24 : decode cJ7_copyOf_6403c 24 = .ok (.astore_n 3, 1) := by decide +kernel
theorem dJ7_copyOf_6403c_25 : decode cJ7_copyOf_6403c 25 = .ok (.aload_n 0, 1) := by decide +kernel
theorem dJ7_copyOf_6403c_26 : decode cJ7_copyOf_6403c 26 = .ok (.iconst 0, 1) := by decide +kernel
theorem dJ7_copyOf_6403c_27 : decode cJ7_copyOf_6403c 27 = .ok (.aload_n 3, 1) := by decide +kernel
theorem dJ7_copyOf_6403c_28 : decode cJ7_copyOf_6403c 28 = .ok (.iconst 0, 1) := by decide +kernel
theorem dJ7_copyOf_6403c_29 : decode cJ7_copyOf_6403c 29 = .ok (.aload_n 0, 1) := by decide +kernel
theorem dJ7_copyOf_6403c_30 : decode cJ7_copyOf_6403c 30 = .ok (.arraylength, 1) := by decide +kernel
theorem dJ7_copyOf_6403c_31 : decode cJ7_copyOf_6403c 31 = .ok (.iload_n 1, 1) := by decide +kernel
theorem dJ7_copyOf_6403c_32 : decode cJ7_copyOf_6403c 32 = .ok (.invokestatic 304, 3) := by decide +kernel
theorem dJ7_copyOf_6403c_35 : decode cJ7_copyOf_6403c 35 = .ok (.invokestatic 150, 3) := by decide +kernel
theorem dJ7_copyOf_6403c_38 : decode cJ7_copyOf_6403c 38 = .ok (.aload_n 3, 1) := by decide +kernel
theorem dJ7_copyOf_6403c_39 : decode cJ7_copyOf_6403c 39 = .ok (.areturn, 1) := by decide +kernel
theorem dJ15_checkIndex_7cf53_0 : decode cJ15_checkIndex_7cf53 0 = .ok (.iload_n 0, 1) := by decide +kernel
theorem dJ15_checkIndex_7cf53_1 : decode cJ15_checkIndex_7cf53 1 = .ok (.iload_n 1, 1) := by decide +kernel
theorem dJ15_checkIndex_7cf53_2 : decode cJ15_checkIndex_7cf53 2 = .ok (.aconst_null, 1) := by decide +kernel
theorem dJ15_checkIndex_7cf53_3 : decode cJ15_checkIndex_7cf53 3 = .ok (.invokestatic 105, 3) := by decide +kernel
theorem dJ15_checkIndex_7cf53_6 : decode cJ15_checkIndex_7cf53 6 = .ok (.ireturn, 1) := by decide +kernel
theorem dJ8_newLength_cabcc_0 : decode cJ8_newLength_cabcc 0 = .ok (.iload_n 0, 1) := by decide +kernel
theorem dJ8_newLength_cabcc_1 : decode cJ8_newLength_cabcc 1 = .ok (.iload_n 1, 1) := by decide +kernel
theorem dJ8_newLength_cabcc_2 : decode cJ8_newLength_cabcc 2 = .ok (.iload_n 2, 1) := by decide +kernel
theorem dJ8_newLength_cabcc_3 : decode cJ8_newLength_cabcc 3 = .ok (.invokestatic 194, 3) := by decide +kernel
theorem dJ8_newLength_cabcc_6 : decode cJ8_newLength_cabcc 6 = .ok (.iadd, 1) := by decide +kernel
theorem dJ8_newLength_cabcc_7 : decode cJ8_newLength_cabcc 7 = .ok (.istore_n 3, 1) := by decide +kernel
theorem dJ8_newLength_cabcc_8 : decode cJ8_newLength_cabcc 8 = .ok (.iconst 0, 1) := by decide +kernel
theorem dJ8_newLength_cabcc_9 : decode cJ8_newLength_cabcc 9 = .ok (.iload_n 3, 1) := by decide +kernel
theorem dJ8_newLength_cabcc_10 : decode cJ8_newLength_cabcc 10 = .ok (.if_icmp .ge 11, 3) := by decide +kernel
theorem dJ8_newLength_cabcc_13 : decode cJ8_newLength_cabcc 13 = .ok (.iload_n 3, 1) := by decide +kernel
theorem dJ8_newLength_cabcc_14 : decode cJ8_newLength_cabcc 14 = .ok (.ldc 200, 2) := by decide +kernel
theorem dJ8_newLength_cabcc_16 : decode cJ8_newLength_cabcc 16 = .ok (.if_icmp .gt 5, 3) := by decide +kernel
theorem dJ8_newLength_cabcc_19 : decode cJ8_newLength_cabcc 19 = .ok (.iload_n 3, 1) := by decide +kernel
theorem dJ8_newLength_cabcc_20 : decode cJ8_newLength_cabcc 20 = .ok (.ireturn, 1) := by decide +kernel
theorem dJ8_newLength_cabcc_21 : decode cJ8_newLength_cabcc 21 = .ok (.iload_n 0, 1) := by decide +kernel
theorem dJ8_newLength_cabcc_22 : decode cJ8_newLength_cabcc 22 = .ok (.iload_n 1, 1) := by decide +kernel
theorem dJ8_newLength_cabcc_23 : decode cJ8_newLength_cabcc 23 = .ok (.invokestatic 201, 3) := by decide +kernel
theorem dJ8_newLength_cabcc_26 : decode cJ8_newLength_cabcc 26 = .ok (.ireturn, 1) := by decide +kernel
theorem dJ8_hugeLength_7cf53_0 : decode cJ8_hugeLength_7cf53 0 = .ok (.iload_n 0, 1) := by decide +kernel
theorem dJ8_hugeLength_7cf53_1 : decode cJ8_hugeLength_7cf53 1 = .ok (.iload_n 1, 1) := by decide +kernel
theorem dJ8_hugeLength_7cf53_2 : decode cJ8_hugeLength_7cf53 2 = .ok (.iadd, 1) := by decide +kernel
theorem dJ8_hugeLength_7cf53_3 : decode cJ8_hugeLength_7cf53 3 = .ok (.istore_n 2, 1) := by decide +kernel
theorem dJ8_hugeLength_7cf53_4 : decode cJ8_hugeLength_7cf53 4 = .ok (.iload_n 2, 1) := by decide +kernel
theorem dJ8_hugeLength_7cf53_5 : decode cJ8_hugeLength_7cf53 5 = .ok (.ifCond .ge 44, 3) := by decide +kernel
theorem dJ8_hugeLength_7cf53_8 : decode cJ8_hugeLength_7cf53 8 = .ok (.new 204, 3) := by decide +kernel
theorem dJ8_hugeLength_7cf53_11 : decode cJ8_hugeLength_7cf53 11 = .ok (.dup, 1) := by decide +kernel
theorem dJ8_hugeLength_7cf53_12 : decode cJ8_hugeLength_7cf53 12 = .ok (.new 89, 3) := by decide +kernel
theorem dJ8_hugeLength_7cf53_15 : decode cJ8_hugeLength_7cf53 15 = .ok (.dup, 1) := by decide +kernel
theorem dJ8_hugeLength_7cf53_16 : decode cJ8_hugeLength_7cf53 16 = .ok (.invokespecial 91, 3) := by decide +kernel
theorem dJ8_hugeLength_7cf53_19 : decode cJ8_hugeLength_7cf53 19 = .ok (.ldc 206, 2) := by decide +kernel
theorem dJ8_hugeLength_7cf53_21 : decode cJ8_hugeLength_7cf53 21 = .ok (.invokevirtual 94, 3) := by decide +kernel
theorem dJ8_hugeLength_7cf53_24 : decode cJ8_hugeLength_7cf53 24 = .ok (.iload_n 0, 1) := by decide +kernel
theorem dJ8_hugeLength_7cf53_25 : decode cJ8_hugeLength_7cf53 25 = .ok (.invokevirtual 98, 3) := by decide +kernel
theorem dJ8_hugeLength_7cf53_28 : decode cJ8_hugeLength_7cf53 28 = .ok (.ldc 208, 2) := by decide +kernel
theorem dJ8_hugeLength_7cf53_30 : decode cJ8_hugeLength_7cf53 30 = .ok (.invokevirtual 94, 3) := by decide +kernel
theorem dJ8_hugeLength_7cf53_33 : decode cJ8_hugeLength_7cf53 33 = .ok (.iload_n 1, 1) := by decide +kernel
theorem dJ8_hugeLength_7cf53_34 : decode cJ8_hugeLength_7cf53 34 = .ok (.invokevirtual 98, 3) := by decide +kernel
theorem dJ8_hugeLength_7cf53_37 : decode cJ8_hugeLength_7cf53 37 = .ok (.ldc 210, 2) := by decide +kernel
theorem dJ8_hugeLength_7cf53_39 : decode cJ8_hugeLength_7cf53 39 = .ok (.invokevirtual 94, 3) := by decide +kernel
theorem dJ8_hugeLength_7cf53_42 : decode cJ8_hugeLength_7cf53 42 = .ok (.invokevirtual 101, 3) := by decide +kernel
theorem dJ8_hugeLength_7cf53_45 : decode cJ8_hugeLength_7cf53 45 = .ok (.invokespecial 212, 3) := by decide +kernel
theorem dJ8_hugeLength_7cf53_48 : decode cJ8_hugeLength_7cf53 48 = .ok (.athrow, 1) := by decide +kernel
theorem dJ8_hugeLength_7cf53_49 : decode cJ8_hugeLength_7cf53 49 = .ok (.iload_n 2, 1) := by decide +kernel
theorem dJ8_hugeLength_7cf53_50 : decode cJ8_hugeLength_7cf53 50 = .ok (.ldc 200, 2) := by decide +kernel
theorem dJ8_hugeLength_7cf53_52 : decode cJ8_hugeLength_7cf53 52 = .ok (.if_icmp .gt 6, 3) := by decide +kernel
theorem dJ8_hugeLength_7cf53_55 : decode cJ8_hugeLength_7cf53 55 = .ok (.ldc 200, 2) := by decide +kernel
theorem dJ8_hugeLength_7cf53_57 : decode cJ8_hugeLength_7cf53 57 = .ok (.ireturn, 1) := by decide +kernel
theorem dJ8_hugeLength_7cf53_58 : decode cJ8_hugeLength_7cf53 58 = .ok (.iload_n 2, 1) := by decide +kernel
theorem dJ8_hugeLength_7cf53_59 : decode cJ8_hugeLength_7cf53 59 = .ok (.ireturn, 1) := by decide +kernel
theorem dJ3_checkIndex_8e157_0 : decode cJ3_checkIndex_8e157 0 = .ok (.iload_n 0, 1) := by decide +kernel
theorem dJ3_checkIndex_8e157_1 : decode cJ3_checkIndex_8e157 1 = .ok (.ifCond .lt 8, 3) := by decide +kernel
theorem dJ3_checkIndex_8e157_4 : decode cJ3_checkIndex_8e157 4 = .ok (.iload_n 0, 1) := by decide +kernel
theorem dJ3_checkIndex_8e157_5 : decode cJ3_checkIndex_8e157 5 = .ok (.iload_n 1, 1) := by decide +kernel
theorem dJ3_checkIndex_8e157_6 : decode cJ3_checkIndex_8e157 6 = .ok (.if_icmp .lt 10, 3) := by decide +kernel
theorem dJ3_checkIndex_8e157_9 : decode cJ3_checkIndex_8e157 9 = .ok (.aload_n 2, 1) := by decide +kernel
theorem dJ3_checkIndex_8e157_10 : decode cJ3_checkIndex_8e157 10 = .ok (.iload_n 0, 1) := by decide +kernel
theorem dJ3_checkIndex_8e157_11 : decode cJ3_checkIndex_8e157 11 = .ok (.iload_n 1, 1) := by decide +kernel
theorem dJ3_checkIndex_8e157_12 : decode cJ3_checkIndex_8e157 12 = .ok (.invokestatic 95, 3) := by decide +kernel
theorem dJ3_checkIndex_8e157_15 : decode cJ3_checkIndex_8e157 15 = .ok (.athrow, 1) := by decide +kernel
theorem dJ3_checkIndex_8e157_16 : decode cJ3_checkIndex_8e157 16 = .ok (.iload_n 0, 1) := by decide +kernel
theorem dJ3_checkIndex_8e157_17 : decode cJ3_checkIndex_8e157 17 = .ok (.ireturn, 1) := by decide +kernel
theorem dX0_init_0 : decode cX0_init 0 = .ok (.aload_n 0, 1) := by decide +kernel
theorem dX0_init_1 : decode cX0_init 1 = .ok (.invokespecial 3, 3) := by decide +kernel
theorem dX0_init_4 : decode cX0_init 4 = .ok (.aload_n 0, 1) := by decide +kernel
theorem dX0_init_5 : decode cX0_init 5 = .ok (.bipush 6, 2) := by decide +kernel
theorem dX0_init_7 : decode cX0_init 7 = .ok (.newarray .int, 2) := by decide +kernel
theorem dX0_init_9 : decode cX0_init 9 = .ok (.putfield 9, 3) := by decide +kernel
theorem dX0_init_12 : decode cX0_init 12 = .ok (.aload_n 0, 1) := by decide +kernel
theorem dX0_init_13 : decode cX0_init 13 = .ok (.bipush 6, 2) := by decide +kernel
theorem dX0_init_15 : decode cX0_init 15 = .ok (.newarray .int, 2) := by decide +kernel
theorem dX0_init_17 : decode cX0_init 17 = .ok (.putfield 15, 3) := by decide +kernel
theorem dX0_init_20 : decode cX0_init 20 = .ok (.aload_n 0, 1) := by decide +kernel
theorem dX0_init_21 : decode cX0_init 21 = .ok (.bipush 6, 2) := by decide +kernel
theorem dX0_init_23 : decode cX0_init 23 = .ok (.newarray .int, 2) := by decide +kernel
theorem dX0_init_25 : decode cX0_init 25 = .ok (.putfield 18, 3) := by decide +kernel
theorem dX0_init_28 : decode cX0_init 28 = .ok (.aload_n 0, 1) := by decide +kernel
theorem dX0_init_29 : decode cX0_init 29 = .ok (.bipush 6, 2) := by decide +kernel
theorem dX0_init_31 : decode cX0_init 31 = .ok (.newarray .int, 2) := by decide +kernel
theorem dX0_init_33 : decode cX0_init 33 = .ok (.putfield 21, 3) := by decide +kernel
theorem dX0_init_36 : decode cX0_init 36 = .ok (.aload_n 0, 1) := by decide +kernel
theorem dX0_init_37 : decode cX0_init 37 = .ok (.bipush 6, 2) := by decide +kernel
theorem dX0_init_39 : decode cX0_init 39 = .ok (.newarray .int, 2) := by decide +kernel
theorem dX0_init_41 : decode cX0_init 41 = .ok (.putfield 24, 3) := by decide +kernel
theorem dX0_init_44 : decode cX0_init 44 = .ok (.return_, 1) := by decide +kernel
theorem dX0_append_0 : decode cX0_append 0 = .ok (.aload_n 0, 1) := by decide +kernel
theorem dX0_append_1 : decode cX0_append 1 = .ok (.getfield 27, 3) := by decide +kernel
theorem dX0_append_4 : decode cX0_append 4 = .ok (.bipush 6, 2) := by decide +kernel
theorem dX0_append_6 : decode cX0_append 6 = .ok (.if_icmp .ge 43, 3) := by decide +kernel
theorem dX0_append_9 : decode cX0_append 9 = .ok (.aload_n 0, 1) := by decide +kernel
theorem dX0_append_10 : decode cX0_append 10 = .ok (.getfield 9, 3) := by decide +kernel
theorem dX0_append_13 : decode cX0_append 13 = .ok (.aload_n 0, 1) := by decide +kernel
theorem dX0_append_14 : decode cX0_append 14 = .ok (.getfield 27, 3) := by decide +kernel
theorem dX0_append_17 : decode cX0_append 17 = .ok (.iload_n 1, 1) := by decide +kernel
theorem dX0_append_18 : decode cX0_append 18 = .ok (.iastore, 1) := by decide +kernel
theorem dX0_append_19 : decode cX0_append 19 = .ok (.aload_n 0, 1) := by decide +kernel
theorem dX0_append_20 : decode cX0_append 20 = .ok (.getfield 15, 3) := by decide +kernel
theorem dX0_append_23 : decode cX0_append 23 = .ok (.aload_n 0, 1) := by decide +kernel
theorem dX0_append_24 : decode cX0_append 24 = .ok (.getfield 27, 3) := by decide +kernel
theorem dX0_append_27 : decode cX0_append 27 = .ok (.iload_n 2, 1) := by decide +kernel
theorem dX0_append_28 : decode cX0_append 28 = .ok (.iastore, 1) := by decide +kernel
theorem dX0_append_29 : decode cX0_append 29 = .ok (.aload_n 0, 1) := by decide +kernel
theorem dX0_append_30 : decode cX0_append 30 = .ok (.getfield 18, 3) := by decide +kernel
theorem dX0_append_33 : decode cX0_append 33 = .ok (.aload_n 0, 1) := by decide +kernel
theorem dX0_append_34 : decode cX0_append 34 = .ok (.getfield 27, 3) := by decide +kernel
theorem dX0_append_37 : decode cX0_append 37 = .ok (.iload_n 3, 1) := by decide +kernel
theorem dX0_append_38 : decode cX0_append 38 = .ok (.iastore, 1) := by decide +kernel
theorem dX0_append_39 : decode cX0_append 39 = .ok (.aload_n 0, 1) := by decide +kernel
theorem dX0_append_40 : decode cX0_append 40 = .ok (.dup, 1) := by decide +kernel
theorem dX0_append_41 : decode cX0_append 41 = .ok (.getfield 27, 3) := by decide +kernel
theorem dX0_append_44 : decode cX0_append 44 = .ok (.iconst 1, 1) := by decide +kernel
theorem dX0_append_45 : decode cX0_append 45 = .ok (.iadd, 1) := by decide +kernel
theorem dX0_append_46 : decode cX0_append 46 = .ok (.putfield 27, 3) := by decide +kernel
theorem dX0_append_49 : decode cX0_append 49 = .ok (.return_, 1) := by decide +kernel
theorem dX0_toleranceNow_0 : decode cX0_toleranceNow 0 = .ok (.aload_n 0, 1) := by decide +kernel
theorem dX0_toleranceNow_1 : decode cX0_toleranceNow 1 = .ok (.getfield 18, 3) := by decide +kernel
theorem dX0_toleranceNow_4 : decode cX0_toleranceNow 4 = .ok (.iload_n 1, 1) := by decide +kernel
theorem dX0_toleranceNow_5 : decode cX0_toleranceNow 5 = .ok (.iaload, 1) := by decide +kernel
theorem dX0_toleranceNow_6 : decode cX0_toleranceNow 6 = .ok (.aload_n 0, 1) := by decide +kernel
theorem dX0_toleranceNow_7 : decode cX0_toleranceNow 7 = .ok (.getfield 24, 3) := by decide +kernel
theorem dX0_toleranceNow_10 : decode cX0_toleranceNow 10 = .ok (.iload_n 1, 1) := by decide +kernel
theorem dX0_toleranceNow_11 : decode cX0_toleranceNow 11 = .ok (.iaload, 1) := by decide +kernel
theorem dX0_toleranceNow_12 : decode cX0_toleranceNow 12 = .ok (.ifCond .le 12, 3) := by decide +kernel
theorem dX0_toleranceNow_15 : decode cX0_toleranceNow 15 = .ok (.aload_n 0, 1) := by decide +kernel
theorem dX0_toleranceNow_16 : decode cX0_toleranceNow 16 = .ok (.getfield 21, 3) := by decide +kernel
theorem dX0_toleranceNow_19 : decode cX0_toleranceNow 19 = .ok (.iload_n 1, 1) := by decide +kernel
theorem dX0_toleranceNow_20 : decode cX0_toleranceNow 20 = .ok (.iaload, 1) := by decide +kernel
theorem dX0_toleranceNow_21 : decode cX0_toleranceNow 21 = .ok (.goto 4, 3) := by decide +kernel
theorem dX0_toleranceNow_24 : decode cX0_toleranceNow 24 = .ok (.iconst 0, 1) := by decide +kernel
theorem dX0_toleranceNow_25 : decode cX0_toleranceNow 25 = .ok (.iadd, 1) := by decide +kernel
theorem dX0_toleranceNow_26 : decode cX0_toleranceNow 26 = .ok (.ireturn, 1) := by decide +kernel
theorem dX0_spendPaper_0 : decode cX0_spendPaper 0 = .ok (.iconst 0, 1) := by decide +kernel
theorem dX0_spendPaper_1 : decode cX0_spendPaper 1 = .ok (.istore_n 1, 1) := by decide +kernel
theorem dX0_spendPaper_2 : decode cX0_spendPaper 2 = .ok (.iload_n 1, 1) := by decide +kernel
theorem dX0_spendPaper_3 : decode cX0_spendPaper 3 = .ok (.aload_n 0, 1) := by decide +kernel
theorem dX0_spendPaper_4 : decode cX0_spendPaper 4 = .ok (.getfield 27, 3) := by decide +kernel
theorem dX0_spendPaper_7 : decode cX0_spendPaper 7 = .ok (.if_icmp .ge 27, 3) := by decide +kernel
theorem dX0_spendPaper_10 : decode cX0_spendPaper 10 = .ok (.aload_n 0, 1) := by decide +kernel
theorem dX0_spendPaper_11 : decode cX0_spendPaper 11 = .ok (.getfield 24, 3) := by decide +kernel
theorem dX0_spendPaper_14 : decode cX0_spendPaper 14 = .ok (.iload_n 1, 1) := by decide +kernel
theorem dX0_spendPaper_15 : decode cX0_spendPaper 15 = .ok (.iconst 0, 1) := by decide +kernel
theorem dX0_spendPaper_16 : decode cX0_spendPaper 16 = .ok (.aload_n 0, 1) := by decide +kernel
theorem dX0_spendPaper_17 : decode cX0_spendPaper 17 = .ok (.getfield 24, 3) := by decide +kernel
theorem dX0_spendPaper_20 : decode cX0_spendPaper 20 = .ok (.iload_n 1, 1) := by decide +kernel
theorem dX0_spendPaper_21 : decode cX0_spendPaper 21 = .ok (.iaload, 1) := by decide +kernel
theorem dX0_spendPaper_22 : decode cX0_spendPaper 22 = .ok (.iconst 1, 1) := by decide +kernel
theorem dX0_spendPaper_23 : decode cX0_spendPaper 23 = .ok (.isub, 1) := by decide +kernel
theorem dX0_spendPaper_24 : decode cX0_spendPaper 24 = .ok (.invokestatic 31, 3) := by decide +kernel
theorem dX0_spendPaper_27 : decode cX0_spendPaper 27 = .ok (.iastore, 1) := by decide +kernel
theorem dX0_spendPaper_28 : decode cX0_spendPaper 28 = .ok (.iinc 1 1, 3) := by decide +kernel
theorem dX0_spendPaper_31 : decode cX0_spendPaper 31 = .ok (.goto (-29), 3) := by decide +kernel
theorem dX0_spendPaper_34 : decode cX0_spendPaper 34 = .ok (.return_, 1) := by decide +kernel
theorem dX1_init_0 : decode cX1_init 0 = .ok (.aload_n 0, 1) := by decide +kernel
theorem dX1_init_1 : decode cX1_init 1 = .ok (.invokespecial 3, 3) := by decide +kernel
theorem dX1_init_4 : decode cX1_init 4 = .ok (.aload_n 0, 1) := by decide +kernel
theorem dX1_init_5 : decode cX1_init 5 = .ok (.iconst (-1), 1) := by decide +kernel
theorem dX1_init_6 : decode cX1_init 6 = .ok (.putfield 9, 3) := by decide +kernel
theorem dX1_init_9 : decode cX1_init 9 = .ok (.return_, 1) := by decide +kernel
theorem dX1_isGood_0 : decode cX1_isGood 0 = .ok (.aload_n 0, 1) := by decide +kernel
theorem dX1_isGood_1 : decode cX1_isGood 1 = .ok (.getfield 9, 3) := by decide +kernel
theorem dX1_isGood_4 : decode cX1_isGood 4 = .ok (.iconst (-1), 1) := by decide +kernel
theorem dX1_isGood_5 : decode cX1_isGood 5 = .ok (.if_icmp .eq 19, 3) := by decide +kernel
theorem dX1_isGood_8 : decode cX1_isGood 8 = .ok (.iload_n 1, 1) := by decide +kernel
theorem dX1_isGood_9 : decode cX1_isGood 9 = .ok (.aload_n 0, 1) := by decide +kernel
theorem dX1_isGood_10 : decode cX1_isGood 10 = .ok (.getfield 9, 3) := by decide +kernel
theorem dX1_isGood_13 : decode cX1_isGood 13 = .ok (.isub, 1) := by decide +kernel
theorem dX1_isGood_14 : decode cX1_isGood 14 = .ok (.sipush 1000, 3) := by decide +kernel
theorem dX1_isGood_17 : decode cX1_isGood 17 = .ok (.if_icmp .ge 7, 3) := by decide +kernel
theorem dX1_isGood_20 : decode cX1_isGood 20 = .ok (.iconst 1, 1) := by decide +kernel
theorem dX1_isGood_21 : decode cX1_isGood 21 = .ok (.goto 4, 3) := by decide +kernel
theorem dX1_isGood_24 : decode cX1_isGood 24 = .ok (.iconst 0, 1) := by decide +kernel
theorem dX1_isGood_25 : decode cX1_isGood 25 = .ok (.ireturn, 1) := by decide +kernel
theorem dX1_reads_0 : decode cX1_reads 0 = .ok (.iload_n 1, 1) := by decide +kernel
theorem dX1_reads_1 : decode cX1_reads 1 = .ok (.iload_n 2, 1) := by decide +kernel
theorem dX1_reads_2 : decode cX1_reads 2 = .ok (.aload_n 0, 1) := by decide +kernel
theorem dX1_reads_3 : decode cX1_reads 3 = .ok (.getfield 9, 3) := by decide +kernel
theorem dX1_reads_6 : decode cX1_reads 6 = .ok (.isub, 1) := by decide +kernel
theorem dX1_reads_7 : decode cX1_reads 7 = .ok (.bipush 100, 2) := by decide +kernel
theorem dX1_reads_9 : decode cX1_reads 9 = .ok (.idiv, 1) := by decide +kernel
theorem dX1_reads_10 : decode cX1_reads 10 = .ok (.iadd, 1) := by decide +kernel
theorem dX1_reads_11 : decode cX1_reads 11 = .ok (.ireturn, 1) := by decide +kernel
theorem dX2_init_0 : decode cX2_init 0 = .ok (.aload_n 0, 1) := by decide +kernel
theorem dX2_init_1 : decode cX2_init 1 = .ok (.invokespecial 3, 3) := by decide +kernel
theorem dX2_init_4 : decode cX2_init 4 = .ok (.aload_n 0, 1) := by decide +kernel
theorem dX2_init_5 : decode cX2_init 5 = .ok (.sipush 144, 3) := by decide +kernel
theorem dX2_init_8 : decode cX2_init 8 = .ok (.newarray .int, 2) := by decide +kernel
theorem dX2_init_10 : decode cX2_init 10 = .ok (.putfield 9, 3) := by decide +kernel
theorem dX2_init_13 : decode cX2_init 13 = .ok (.aload_n 0, 1) := by decide +kernel
theorem dX2_init_14 : decode cX2_init 14 = .ok (.sipush 144, 3) := by decide +kernel
theorem dX2_init_17 : decode cX2_init 17 = .ok (.newarray .int, 2) := by decide +kernel
theorem dX2_init_19 : decode cX2_init 19 = .ok (.putfield 15, 3) := by decide +kernel
theorem dX2_init_22 : decode cX2_init 22 = .ok (.aload_n 0, 1) := by decide +kernel
theorem dX2_init_23 : decode cX2_init 23 = .ok (.sipush 144, 3) := by decide +kernel
theorem dX2_init_26 : decode cX2_init 26 = .ok (.newarray .int, 2) := by decide +kernel
theorem dX2_init_28 : decode cX2_init 28 = .ok (.putfield 18, 3) := by decide +kernel
theorem dX2_init_31 : decode cX2_init 31 = .ok (.aload_n 0, 1) := by decide +kernel
theorem dX2_init_32 : decode cX2_init 32 = .ok (.sipush 144, 3) := by decide +kernel
theorem dX2_init_35 : decode cX2_init 35 = .ok (.newarray .int, 2) := by decide +kernel
theorem dX2_init_37 : decode cX2_init 37 = .ok (.putfield 21, 3) := by decide +kernel
theorem dX2_init_40 : decode cX2_init 40 = .ok (.aload_n 0, 1) := by decide +kernel
theorem dX2_init_41 : decode cX2_init 41 = .ok (.sipush 144, 3) := by decide +kernel
theorem dX2_init_44 : decode cX2_init 44 = .ok (.newarray .int, 2) := by decide +kernel
theorem dX2_init_46 : decode cX2_init 46 = .ok (.putfield 24, 3) := by decide +kernel
theorem dX2_init_49 : decode cX2_init 49 = .ok (.aload_n 0, 1) := by decide +kernel
theorem dX2_init_50 : decode cX2_init 50 = .ok (.iconst 0, 1) := by decide +kernel
theorem dX2_init_51 : decode cX2_init 51 = .ok (.putfield 27, 3) := by decide +kernel
theorem dX2_init_54 : decode cX2_init 54 = .ok (.aload_n 0, 1) := by decide +kernel
theorem dX2_init_55 : decode cX2_init 55 = .ok (.iconst (-1), 1) := by decide +kernel
theorem dX2_init_56 : decode cX2_init 56 = .ok (.putfield 31, 3) := by decide +kernel
theorem dX2_init_59 : decode cX2_init 59 = .ok (.aload_n 0, 1) := by decide +kernel
theorem dX2_init_60 : decode cX2_init 60 = .ok (.iconst (-1), 1) := by decide +kernel
theorem dX2_init_61 : decode cX2_init 61 = .ok (.putfield 34, 3) := by decide +kernel
theorem dX2_init_64 : decode cX2_init 64 = .ok (.aload_n 0, 1) := by decide +kernel
theorem dX2_init_65 : decode cX2_init 65 = .ok (.getfield 9, 3) := by decide +kernel
theorem dX2_init_68 : decode cX2_init 68 = .ok (.iload_n 1, 1) := by decide +kernel
theorem dX2_init_69 : decode cX2_init 69 = .ok (.invokestatic 37, 3) := by decide +kernel
theorem dX2_init_72 : decode cX2_init 72 = .ok (.aload_n 0, 1) := by decide +kernel
theorem dX2_init_73 : decode cX2_init 73 = .ok (.getfield 15, 3) := by decide +kernel
theorem dX2_init_76 : decode cX2_init 76 = .ok (.sipush 1000, 3) := by decide +kernel
theorem dX2_init_79 : decode cX2_init 79 = .ok (.iload_n 1, 1) := by decide +kernel
theorem dX2_init_80 : decode cX2_init 80 = .ok (.imul, 1) := by decide +kernel
theorem dX2_init_81 : decode cX2_init 81 = .ok (.invokestatic 37, 3) := by decide +kernel
theorem dX2_init_84 : decode cX2_init 84 = .ok (.aload_n 0, 1) := by decide +kernel
theorem dX2_init_85 : decode cX2_init 85 = .ok (.getfield 18, 3) := by decide +kernel
theorem dX2_init_88 : decode cX2_init 88 = .ok (.iconst (-1), 1) := by decide +kernel
theorem dX2_init_89 : decode cX2_init 89 = .ok (.invokestatic 37, 3) := by decide +kernel
theorem dX2_init_92 : decode cX2_init 92 = .ok (.aload_n 0, 1) := by decide +kernel
theorem dX2_init_93 : decode cX2_init 93 = .ok (.getfield 21, 3) := by decide +kernel
theorem dX2_init_96 : decode cX2_init 96 = .ok (.iconst (-1), 1) := by decide +kernel
theorem dX2_init_97 : decode cX2_init 97 = .ok (.invokestatic 37, 3) := by decide +kernel
theorem dX2_init_100 : decode cX2_init 100 = .ok (.return_, 1) := by decide +kernel
theorem dX3_init_0 : decode cX3_init 0 = .ok (.aload_n 0, 1) := by decide +kernel
theorem dX3_init_1 : decode cX3_init 1 = .ok (.invokespecial 3, 3) := by decide +kernel
theorem dX3_init_4 : decode cX3_init 4 = .ok (.aload_n 0, 1) := by decide +kernel
theorem dX3_init_5 : decode cX3_init 5 = .ok (.bipush 6, 2) := by decide +kernel
theorem dX3_init_7 : decode cX3_init 7 = .ok (.newarray .int, 2) := by decide +kernel
theorem dX3_init_9 : decode cX3_init 9 = .ok (.putfield 9, 3) := by decide +kernel
theorem dX3_init_12 : decode cX3_init 12 = .ok (.aload_n 0, 1) := by decide +kernel
theorem dX3_init_13 : decode cX3_init 13 = .ok (.bipush 6, 2) := by decide +kernel
theorem dX3_init_15 : decode cX3_init 15 = .ok (.newarray .int, 2) := by decide +kernel
theorem dX3_init_17 : decode cX3_init 17 = .ok (.putfield 15, 3) := by decide +kernel
theorem dX3_init_20 : decode cX3_init 20 = .ok (.aload_n 0, 1) := by decide +kernel
theorem dX3_init_21 : decode cX3_init 21 = .ok (.iload_n 1, 1) := by decide +kernel
theorem dX3_init_22 : decode cX3_init 22 = .ok (.putfield 18, 3) := by decide +kernel
theorem dX3_init_25 : decode cX3_init 25 = .ok (.aload_n 0, 1) := by decide +kernel
theorem dX3_init_26 : decode cX3_init 26 = .ok (.iload_n 2, 1) := by decide +kernel
theorem dX3_init_27 : decode cX3_init 27 = .ok (.putfield 22, 3) := by decide +kernel
theorem dX3_init_30 : decode cX3_init 30 = .ok (.aload_n 0, 1) := by decide +kernel
theorem dX3_init_31 : decode cX3_init 31 = .ok (.iload_n 3, 1) := by decide +kernel
theorem dX3_init_32 : decode cX3_init 32 = .ok (.putfield 25, 3) := by decide +kernel
theorem dX3_init_35 : decode cX3_init 35 = .ok (.aload_n 0, 1) := by decide +kernel
theorem dX3_init_36 : decode cX3_init 36 = .ok (.iload 4, 2) := by decide +kernel
theorem dX3_init_38 : decode cX3_init 38 = .ok (.putfield 28, 3) := by decide +kernel
theorem dX3_init_41 : decode cX3_init 41 = .ok (.return_, 1) := by decide +kernel
theorem dX3_append_0 : decode cX3_append 0 = .ok (.aload_n 0, 1) := by decide +kernel
theorem dX3_append_1 : decode cX3_append 1 = .ok (.getfield 31, 3) := by decide +kernel
theorem dX3_append_4 : decode cX3_append 4 = .ok (.bipush 6, 2) := by decide +kernel
theorem dX3_append_6 : decode cX3_append 6 = .ok (.if_icmp .ge 33, 3) := by decide +kernel
theorem dX3_append_9 : decode cX3_append 9 = .ok (.aload_n 0, 1) := by decide +kernel
theorem dX3_append_10 : decode cX3_append 10 = .ok (.getfield 9, 3) := by decide +kernel
theorem dX3_append_13 : decode cX3_append 13 = .ok (.aload_n 0, 1) := by decide +kernel
theorem dX3_append_14 : decode cX3_append 14 = .ok (.getfield 31, 3) := by decide +kernel
theorem dX3_append_17 : decode cX3_append 17 = .ok (.iload_n 1, 1) := by decide +kernel
theorem dX3_append_18 : decode cX3_append 18 = .ok (.iastore, 1) := by decide +kernel
theorem dX3_append_19 : decode cX3_append 19 = .ok (.aload_n 0, 1) := by decide +kernel
theorem dX3_append_20 : decode cX3_append 20 = .ok (.getfield 15, 3) := by decide +kernel
theorem dX3_append_23 : decode cX3_append 23 = .ok (.aload_n 0, 1) := by decide +kernel
theorem dX3_append_24 : decode cX3_append 24 = .ok (.getfield 31, 3) := by decide +kernel
theorem dX3_append_27 : decode cX3_append 27 = .ok (.iload_n 2, 1) := by decide +kernel
theorem dX3_append_28 : decode cX3_append 28 = .ok (.iastore, 1) := by decide +kernel
theorem dX3_append_29 : decode cX3_append 29 = .ok (.aload_n 0, 1) := by decide +kernel
theorem dX3_append_30 : decode cX3_append 30 = .ok (.dup, 1) := by decide +kernel
theorem dX3_append_31 : decode cX3_append 31 = .ok (.getfield 31, 3) := by decide +kernel
theorem dX3_append_34 : decode cX3_append 34 = .ok (.iconst 1, 1) := by decide +kernel
theorem dX3_append_35 : decode cX3_append 35 = .ok (.iadd, 1) := by decide +kernel
theorem dX3_append_36 : decode cX3_append 36 = .ok (.putfield 31, 3) := by decide +kernel
theorem dX3_append_39 : decode cX3_append 39 = .ok (.return_, 1) := by decide +kernel
theorem dX3_verdict_0 : decode cX3_verdict 0 = .ok (.iconst 0, 1) := by decide +kernel
theorem dX3_verdict_1 : decode cX3_verdict 1 = .ok (.istore_n 1, 1) := by decide +kernel
theorem dX3_verdict_2 : decode cX3_verdict 2 = .ok (.iconst 0, 1) := by decide +kernel
theorem dX3_verdict_3 : decode cX3_verdict 3 = .ok (.istore_n 2, 1) := by decide +kernel
theorem dX3_verdict_4 : decode cX3_verdict 4 = .ok (.iload_n 2, 1) := by decide +kernel
theorem dX3_verdict_5 : decode cX3_verdict 5 = .ok (.aload_n 0, 1) := by decide +kernel
theorem dX3_verdict_6 : decode cX3_verdict 6 = .ok (.getfield 31, 3) := by decide +kernel
theorem dX3_verdict_9 : decode cX3_verdict 9 = .ok (.if_icmp .ge 53, 3) := by decide +kernel
theorem dX3_verdict_12 : decode cX3_verdict 12 = .ok (.aload_n 0, 1) := by decide +kernel
theorem dX3_verdict_13 : decode cX3_verdict 13 = .ok (.getfield 9, 3) := by decide +kernel
theorem dX3_verdict_16 : decode cX3_verdict 16 = .ok (.iload_n 2, 1) := by decide +kernel
theorem dX3_verdict_17 : decode cX3_verdict 17 = .ok (.iaload, 1) := by decide +kernel
theorem dX3_verdict_18 : decode cX3_verdict 18 = .ok (.invokestatic 34, 3) := by decide +kernel
theorem dX3_verdict_21 : decode cX3_verdict 21 = .ok (.istore_n 3, 1) := by decide +kernel
theorem dX3_verdict_22 : decode cX3_verdict 22 = .ok (.iload_n 3, 1) := by decide +kernel
theorem dX3_verdict_23 : decode cX3_verdict 23 = .ok (.aload_n 0, 1) := by decide +kernel
theorem dX3_verdict_24 : decode cX3_verdict 24 = .ok (.getfield 15, 3) := by decide +kernel
theorem dX3_verdict_27 : decode cX3_verdict 27 = .ok (.iload_n 2, 1) := by decide +kernel
theorem dX3_verdict_28 : decode cX3_verdict 28 = .ok (.iaload, 1) := by decide +kernel
theorem dX3_verdict_29 : decode cX3_verdict 29 = .ok (.aload_n 0, 1) := by decide +kernel
theorem dX3_verdict_30 : decode cX3_verdict 30 = .ok (.getfield 28, 3) := by decide +kernel
theorem dX3_verdict_33 : decode cX3_verdict 33 = .ok (.iadd, 1) := by decide +kernel
theorem dX3_verdict_34 : decode cX3_verdict 34 = .ok (.if_icmp .le 5, 3) := by decide +kernel
theorem dX3_verdict_37 : decode cX3_verdict 37 = .ok (.iconst 2, 1) := by decide +kernel
theorem dX3_verdict_38 : decode cX3_verdict 38 = .ok (.ireturn, 1) := by decide +kernel
theorem dX3_verdict_39 : decode cX3_verdict 39 = .ok (.iload_n 3, 1) := by decide +kernel
theorem dX3_verdict_40 : decode cX3_verdict 40 = .ok (.aload_n 0, 1) := by decide +kernel
theorem dX3_verdict_41 : decode cX3_verdict 41 = .ok (.getfield 15, 3) := by decide +kernel
theorem dX3_verdict_44 : decode cX3_verdict 44 = .ok (.iload_n 2, 1) := by decide +kernel
theorem dX3_verdict_45 : decode cX3_verdict 45 = .ok (.iaload, 1) := by decide +kernel
theorem dX3_verdict_46 : decode cX3_verdict 46 = .ok (.aload_n 0, 1) := by decide +kernel
theorem dX3_verdict_47 : decode cX3_verdict 47 = .ok (.getfield 28, 3) := by decide +kernel
theorem dX3_verdict_50 : decode cX3_verdict 50 = .ok (.isub, 1) := by decide +kernel
theorem dX3_verdict_51 : decode cX3_verdict 51 = .ok (.if_icmp .le 5, 3) := by decide +kernel
theorem dX3_verdict_54 : decode cX3_verdict 54 = .ok (.iconst 1, 1) := by decide +kernel
theorem dX3_verdict_55 : decode cX3_verdict 55 = .ok (.istore_n 1, 1) := by decide +kernel
theorem dX3_verdict_56 : decode cX3_verdict 56 = .ok (.iinc 2 1, 3) := by decide +kernel
theorem dX3_verdict_59 : decode cX3_verdict 59 = .ok (.goto (-55), 3) := by decide +kernel
theorem dX3_verdict_62 : decode cX3_verdict 62 = .ok (.iload_n 1, 1) := by decide +kernel
theorem dX3_verdict_63 : decode cX3_verdict 63 = .ok (.ireturn, 1) := by decide +kernel
theorem dX4_init_0 : decode cX4_init 0 = .ok (.aload_n 0, 1) := by decide +kernel
theorem dX4_init_1 : decode cX4_init 1 = .ok (.invokespecial 3, 3) := by decide +kernel
theorem dX4_init_4 : decode cX4_init 4 = .ok (.aload_n 0, 1) := by decide +kernel
theorem dX4_init_5 : decode cX4_init 5 = .ok (.bipush 30, 2) := by decide +kernel
theorem dX4_init_7 : decode cX4_init 7 = .ok (.newarray .int, 2) := by decide +kernel
theorem dX4_init_9 : decode cX4_init 9 = .ok (.putfield 9, 3) := by decide +kernel
theorem dX4_init_12 : decode cX4_init 12 = .ok (.aload_n 0, 1) := by decide +kernel
theorem dX4_init_13 : decode cX4_init 13 = .ok (.bipush 30, 2) := by decide +kernel
theorem dX4_init_15 : decode cX4_init 15 = .ok (.newarray .int, 2) := by decide +kernel
theorem dX4_init_17 : decode cX4_init 17 = .ok (.putfield 15, 3) := by decide +kernel
theorem dX4_init_20 : decode cX4_init 20 = .ok (.return_, 1) := by decide +kernel
theorem dX4_append_0 : decode cX4_append 0 = .ok (.aload_n 0, 1) := by decide +kernel
theorem dX4_append_1 : decode cX4_append 1 = .ok (.getfield 18, 3) := by decide +kernel
theorem dX4_append_4 : decode cX4_append 4 = .ok (.bipush 30, 2) := by decide +kernel
theorem dX4_append_6 : decode cX4_append 6 = .ok (.if_icmp .ge 33, 3) := by decide +kernel
theorem dX4_append_9 : decode cX4_append 9 = .ok (.aload_n 0, 1) := by decide +kernel
theorem dX4_append_10 : decode cX4_append 10 = .ok (.getfield 9, 3) := by decide +kernel
theorem dX4_append_13 : decode cX4_append 13 = .ok (.aload_n 0, 1) := by decide +kernel
theorem dX4_append_14 : decode cX4_append 14 = .ok (.getfield 18, 3) := by decide +kernel
theorem dX4_append_17 : decode cX4_append 17 = .ok (.iload_n 1, 1) := by decide +kernel
theorem dX4_append_18 : decode cX4_append 18 = .ok (.iastore, 1) := by decide +kernel
theorem dX4_append_19 : decode cX4_append 19 = .ok (.aload_n 0, 1) := by decide +kernel
theorem dX4_append_20 : decode cX4_append 20 = .ok (.getfield 15, 3) := by decide +kernel
theorem dX4_append_23 : decode cX4_append 23 = .ok (.aload_n 0, 1) := by decide +kernel
theorem dX4_append_24 : decode cX4_append 24 = .ok (.getfield 18, 3) := by decide +kernel
theorem dX4_append_27 : decode cX4_append 27 = .ok (.iload_n 2, 1) := by decide +kernel
theorem dX4_append_28 : decode cX4_append 28 = .ok (.iastore, 1) := by decide +kernel
theorem dX4_append_29 : decode cX4_append 29 = .ok (.aload_n 0, 1) := by decide +kernel
theorem dX4_append_30 : decode cX4_append 30 = .ok (.dup, 1) := by decide +kernel
theorem dX4_append_31 : decode cX4_append 31 = .ok (.getfield 18, 3) := by decide +kernel
theorem dX4_append_34 : decode cX4_append 34 = .ok (.iconst 1, 1) := by decide +kernel
theorem dX4_append_35 : decode cX4_append 35 = .ok (.iadd, 1) := by decide +kernel
theorem dX4_append_36 : decode cX4_append 36 = .ok (.putfield 18, 3) := by decide +kernel
theorem dX4_append_39 : decode cX4_append 39 = .ok (.return_, 1) := by decide +kernel
theorem dX5_init_0 : decode cX5_init 0 = .ok (.aload_n 0, 1) := by decide +kernel
theorem dX5_init_1 : decode cX5_init 1 = .ok (.invokespecial 3, 3) := by decide +kernel
theorem dX5_init_4 : decode cX5_init 4 = .ok (.aload_n 0, 1) := by decide +kernel
theorem dX5_init_5 : decode cX5_init 5 = .ok (.iconst 3, 1) := by decide +kernel
theorem dX5_init_6 : decode cX5_init 6 = .ok (.newarray .int, 2) := by decide +kernel
theorem dX5_init_8 : decode cX5_init 8 = .ok (.putfield 9, 3) := by decide +kernel
theorem dX5_init_11 : decode cX5_init 11 = .ok (.aload_n 0, 1) := by decide +kernel
theorem dX5_init_12 : decode cX5_init 12 = .ok (.iload_n 1, 1) := by decide +kernel
theorem dX5_init_13 : decode cX5_init 13 = .ok (.putfield 15, 3) := by decide +kernel
theorem dX5_init_16 : decode cX5_init 16 = .ok (.aload_n 0, 1) := by decide +kernel
theorem dX5_init_17 : decode cX5_init 17 = .ok (.iload_n 2, 1) := by decide +kernel
theorem dX5_init_18 : decode cX5_init 18 = .ok (.putfield 19, 3) := by decide +kernel
theorem dX5_init_21 : decode cX5_init 21 = .ok (.aload_n 0, 1) := by decide +kernel
theorem dX5_init_22 : decode cX5_init 22 = .ok (.iload_n 3, 1) := by decide +kernel
theorem dX5_init_23 : decode cX5_init 23 = .ok (.putfield 22, 3) := by decide +kernel
theorem dX5_init_26 : decode cX5_init 26 = .ok (.return_, 1) := by decide +kernel
theorem dX5_leftFor_0 : decode cX5_leftFor 0 = .ok (.aload_n 0, 1) := by decide +kernel
theorem dX5_leftFor_1 : decode cX5_leftFor 1 = .ok (.getfield 25, 3) := by decide +kernel
theorem dX5_leftFor_4 : decode cX5_leftFor 4 = .ok (.ifCond .eq 23, 3) := by decide +kernel
theorem dX5_leftFor_7 : decode cX5_leftFor 7 = .ok (.aload_n 0, 1) := by decide +kernel
theorem dX5_leftFor_8 : decode cX5_leftFor 8 = .ok (.getfield 19, 3) := by decide +kernel
theorem dX5_leftFor_11 : decode cX5_leftFor 11 = .ok (.iload_n 1, 1) := by decide +kernel
theorem dX5_leftFor_12 : decode cX5_leftFor 12 = .ok (.if_icmp .ne 15, 3) := by decide +kernel
theorem dX5_leftFor_15 : decode cX5_leftFor 15 = .ok (.aload_n 0, 1) := by decide +kernel
theorem dX5_leftFor_16 : decode cX5_leftFor 16 = .ok (.getfield 22, 3) := by decide +kernel
theorem dX5_leftFor_19 : decode cX5_leftFor 19 = .ok (.aload_n 0, 1) := by decide +kernel
theorem dX5_leftFor_20 : decode cX5_leftFor 20 = .ok (.getfield 29, 3) := by decide +kernel
theorem dX5_leftFor_23 : decode cX5_leftFor 23 = .ok (.isub, 1) := by decide +kernel
theorem dX5_leftFor_24 : decode cX5_leftFor 24 = .ok (.goto 4, 3) := by decide +kernel
theorem dX5_leftFor_27 : decode cX5_leftFor 27 = .ok (.iconst 0, 1) := by decide +kernel
theorem dX5_leftFor_28 : decode cX5_leftFor 28 = .ok (.ireturn, 1) := by decide +kernel
theorem dX5_hear_0 : decode cX5_hear 0 = .ok (.aload_n 0, 1) := by decide +kernel
theorem dX5_hear_1 : decode cX5_hear 1 = .ok (.getfield 9, 3) := by decide +kernel
theorem dX5_hear_4 : decode cX5_hear 4 = .ok (.aload_n 0, 1) := by decide +kernel
theorem dX5_hear_5 : decode cX5_hear 5 = .ok (.getfield 32, 3) := by decide +kernel
theorem dX5_hear_8 : decode cX5_hear 8 = .ok (.iconst 3, 1) := by decide +kernel
theorem dX5_hear_9 : decode cX5_hear 9 = .ok (.irem, 1) := by decide +kernel
theorem dX5_hear_10 : decode cX5_hear 10 = .ok (.iload_n 1, 1) := by decide +kernel
theorem dX5_hear_11 : decode cX5_hear 11 = .ok (.iastore, 1) := by decide +kernel
theorem dX5_hear_12 : decode cX5_hear 12 = .ok (.aload_n 0, 1) := by decide +kernel
theorem dX5_hear_13 : decode cX5_hear 13 = .ok (.dup, 1) := by decide +kernel
theorem dX5_hear_14 : decode cX5_hear 14 = .ok (.getfield 32, 3) := by decide +kernel
theorem dX5_hear_17 : decode cX5_hear 17 = .ok (.iconst 1, 1) := by decide +kernel
theorem dX5_hear_18 : decode cX5_hear 18 = .ok (.iadd, 1) := by decide +kernel
theorem dX5_hear_19 : decode cX5_hear 19 = .ok (.putfield 32, 3) := by decide +kernel
theorem dX5_hear_22 : decode cX5_hear 22 = .ok (.return_, 1) := by decide +kernel
theorem dX5_correctOffset_0 : decode cX5_correctOffset 0 = .ok (.aload_n 0, 1) := by decide +kernel
theorem dX5_correctOffset_1 : decode cX5_correctOffset 1 = .ok (.getfield 32, 3) := by decide +kernel
theorem dX5_correctOffset_4 : decode cX5_correctOffset 4 = .ok (.iconst 3, 1) := by decide +kernel
theorem dX5_correctOffset_5 : decode cX5_correctOffset 5 = .ok (.if_icmp .lt 10, 3) := by decide +kernel
theorem dX5_correctOffset_8 : decode cX5_correctOffset 8 = .ok (.aload_n 0, 1) := by decide +kernel
theorem dX5_correctOffset_9 : decode cX5_correctOffset 9 = .ok (.invokevirtual 35, 3) := by decide +kernel
theorem dX5_correctOffset_12 : decode cX5_correctOffset 12 = .ok (.ifCond .ne 5, 3) := by decide +kernel
theorem dX5_correctOffset_15 : decode cX5_correctOffset 15 = .ok (.iconst 0, 1) := by decide +kernel
theorem dX5_correctOffset_16 : decode cX5_correctOffset 16 = .ok (.ireturn, 1) := by decide +kernel
theorem dX5_correctOffset_17 : decode cX5_correctOffset 17 = .ok (.iconst 0, 1) := by decide +kernel
theorem dX5_correctOffset_18 : decode cX5_correctOffset 18 = .ok (.istore_n 1, 1) := by decide +kernel
theorem dX5_correctOffset_19 : decode cX5_correctOffset 19 = .ok (.iconst 0, 1) := by decide +kernel
theorem dX5_correctOffset_20 : decode cX5_correctOffset 20 = .ok (.istore_n 2, 1) := by decide +kernel
theorem dX5_correctOffset_21 : decode cX5_correctOffset 21 = .ok (.iload_n 2, 1) := by decide +kernel
theorem dX5_correctOffset_22 : decode cX5_correctOffset 22 = .ok (.iconst 3, 1) := by decide +kernel
theorem dX5_correctOffset_23 : decode cX5_correctOffset 23 = .ok (.if_icmp .ge 18, 3) := by decide +kernel
theorem dX5_correctOffset_26 : decode cX5_correctOffset 26 = .ok (.iload_n 1, 1) := by decide +kernel
theorem dX5_correctOffset_27 : decode cX5_correctOffset 27 = .ok (.aload_n 0, 1) := by decide +kernel
theorem dX5_correctOffset_28 : decode cX5_correctOffset 28 = .ok (.getfield 9, 3) := by decide +kernel
theorem dX5_correctOffset_31 : decode cX5_correctOffset 31 = .ok (.iload_n 2, 1) := by decide +kernel
theorem dX5_correctOffset_32 : decode cX5_correctOffset 32 = .ok (.iaload, 1) := by decide +kernel
theorem dX5_correctOffset_33 : decode cX5_correctOffset 33 = .ok (.iadd, 1) := by decide +kernel
theorem dX5_correctOffset_34 : decode cX5_correctOffset 34 = .ok (.istore_n 1, 1) := by decide +kernel
theorem dX5_correctOffset_35 : decode cX5_correctOffset 35 = .ok (.iinc 2 1, 3) := by decide +kernel
theorem dX5_correctOffset_38 : decode cX5_correctOffset 38 = .ok (.goto (-17), 3) := by decide +kernel
theorem dX5_correctOffset_41 : decode cX5_correctOffset 41 = .ok (.aload_n 0, 1) := by decide +kernel
theorem dX5_correctOffset_42 : decode cX5_correctOffset 42 = .ok (.getfield 39, 3) := by decide +kernel
theorem dX5_correctOffset_45 : decode cX5_correctOffset 45 = .ok (.istore_n 2, 1) := by decide +kernel
theorem dX5_correctOffset_46 : decode cX5_correctOffset 46 = .ok (.aload_n 0, 1) := by decide +kernel
theorem dX5_correctOffset_47 : decode cX5_correctOffset 47 = .ok (.sipush (-200), 3) := by decide +kernel
theorem dX5_correctOffset_50 : decode cX5_correctOffset 50 = .ok (.sipush 200, 3) := by decide +kernel
theorem dX5_correctOffset_53 : decode cX5_correctOffset 53 = .ok (.iload_n 2, 1) := by decide +kernel
theorem dX5_correctOffset_54 : decode cX5_correctOffset 54 = .ok (.iload_n 1, 1) := by decide +kernel
theorem dX5_correctOffset_55 : decode cX5_correctOffset 55 = .ok (.iconst 3, 1) := by decide +kernel
theorem dX5_correctOffset_56 : decode cX5_correctOffset 56 = .ok (.idiv, 1) := by decide +kernel
theorem dX5_correctOffset_57 : decode cX5_correctOffset 57 = .ok (.iconst 2, 1) := by decide +kernel
theorem dX5_correctOffset_58 : decode cX5_correctOffset 58 = .ok (.idiv, 1) := by decide +kernel
theorem dX5_correctOffset_59 : decode cX5_correctOffset 59 = .ok (.iadd, 1) := by decide +kernel
theorem dX5_correctOffset_60 : decode cX5_correctOffset 60 = .ok (.invokestatic 42, 3) := by decide +kernel
theorem dX5_correctOffset_63 : decode cX5_correctOffset 63 = .ok (.invokestatic 48, 3) := by decide +kernel
theorem dX5_correctOffset_66 : decode cX5_correctOffset 66 = .ok (.putfield 39, 3) := by decide +kernel
theorem dX5_correctOffset_69 : decode cX5_correctOffset 69 = .ok (.aload_n 0, 1) := by decide +kernel
theorem dX5_correctOffset_70 : decode cX5_correctOffset 70 = .ok (.iconst 0, 1) := by decide +kernel
theorem dX5_correctOffset_71 : decode cX5_correctOffset 71 = .ok (.putfield 32, 3) := by decide +kernel
theorem dX5_correctOffset_74 : decode cX5_correctOffset 74 = .ok (.aload_n 0, 1) := by decide +kernel
theorem dX5_correctOffset_75 : decode cX5_correctOffset 75 = .ok (.getfield 39, 3) := by decide +kernel
theorem dX5_correctOffset_78 : decode cX5_correctOffset 78 = .ok (.iload_n 2, 1) := by decide +kernel
theorem dX5_correctOffset_79 : decode cX5_correctOffset 79 = .ok (.isub, 1) := by decide +kernel
theorem dX5_correctOffset_80 : decode cX5_correctOffset 80 = .ok (.ireturn, 1) := by decide +kernel
theorem dX5_isOneWay_0 : decode cX5_isOneWay 0 = .ok (.iconst 0, 1) := by decide +kernel
theorem dX5_isOneWay_1 : decode cX5_isOneWay 1 = .ok (.istore_n 1, 1) := by decide +kernel
theorem dX5_isOneWay_2 : decode cX5_isOneWay 2 = .ok (.iconst 0, 1) := by decide +kernel
theorem dX5_isOneWay_3 : decode cX5_isOneWay 3 = .ok (.istore_n 2, 1) := by decide +kernel
theorem dX5_isOneWay_4 : decode cX5_isOneWay 4 = .ok (.iconst 0, 1) := by decide +kernel
theorem dX5_isOneWay_5 : decode cX5_isOneWay 5 = .ok (.istore_n 3, 1) := by decide +kernel
theorem dX5_isOneWay_6 : decode cX5_isOneWay 6 = .ok (.iload_n 3, 1) := by decide +kernel
theorem dX5_isOneWay_7 : decode cX5_isOneWay 7 = .ok (.iconst 3, 1) := by decide +kernel
theorem dX5_isOneWay_8 : decode cX5_isOneWay 8 = .ok (.if_icmp .ge 43, 3) := by decide +kernel
theorem dX5_isOneWay_11 : decode cX5_isOneWay 11 = .ok (.iload_n 1, 1) := by decide +kernel
theorem dX5_isOneWay_12 : decode cX5_isOneWay 12 = .ok (.aload_n 0, 1) := by decide +kernel
theorem dX5_isOneWay_13 : decode cX5_isOneWay 13 = .ok (.getfield 9, 3) := by decide +kernel
theorem dX5_isOneWay_16 : decode cX5_isOneWay 16 = .ok (.iload_n 3, 1) := by decide +kernel
theorem dX5_isOneWay_17 : decode cX5_isOneWay 17 = .ok (.iaload, 1) := by decide +kernel
theorem dX5_isOneWay_18 : decode cX5_isOneWay 18 = .ok (.ifCond .le 7, 3) := by decide +kernel
theorem dX5_isOneWay_21 : decode cX5_isOneWay 21 = .ok (.iconst 1, 1) := by decide +kernel
theorem dX5_isOneWay_22 : decode cX5_isOneWay 22 = .ok (.goto 4, 3) := by decide +kernel
theorem dX5_isOneWay_25 : decode cX5_isOneWay 25 = .ok (.iconst 0, 1) := by decide +kernel
theorem dX5_isOneWay_26 : decode cX5_isOneWay 26 = .ok (.iadd, 1) := by decide +kernel
theorem dX5_isOneWay_27 : decode cX5_isOneWay 27 = .ok (.istore_n 1, 1) := by decide +kernel
theorem dX5_isOneWay_28 : decode cX5_isOneWay 28 = .ok (.iload_n 2, 1) := by decide +kernel
theorem dX5_isOneWay_29 : decode cX5_isOneWay 29 = .ok (.aload_n 0, 1) := by decide +kernel
theorem dX5_isOneWay_30 : decode cX5_isOneWay 30 = .ok (.getfield 9, 3) := by decide +kernel
theorem dX5_isOneWay_33 : decode cX5_isOneWay 33 = .ok (.iload_n 3, 1) := by decide +kernel
theorem dX5_isOneWay_34 : decode cX5_isOneWay 34 = .ok (.iaload, 1) := by decide +kernel
theorem dX5_isOneWay_35 : decode cX5_isOneWay 35 = .ok (.ifCond .ge 7, 3) := by decide +kernel
theorem dX5_isOneWay_38 : decode cX5_isOneWay 38 = .ok (.iconst 1, 1) := by decide +kernel
theorem dX5_isOneWay_39 : decode cX5_isOneWay 39 = .ok (.goto 4, 3) := by decide +kernel
theorem dX5_isOneWay_42 : decode cX5_isOneWay 42 = .ok (.iconst 0, 1) := by decide +kernel
theorem dX5_isOneWay_43 : decode cX5_isOneWay 43 = .ok (.iadd, 1) := by decide +kernel
theorem dX5_isOneWay_44 : decode cX5_isOneWay 44 = .ok (.istore_n 2, 1) := by decide +kernel
theorem dX5_isOneWay_45 : decode cX5_isOneWay 45 = .ok (.iinc 3 1, 3) := by decide +kernel
theorem dX5_isOneWay_48 : decode cX5_isOneWay 48 = .ok (.goto (-42), 3) := by decide +kernel
theorem dX5_isOneWay_51 : decode cX5_isOneWay 51 = .ok (.iload_n 1, 1) := by decide +kernel
theorem dX5_isOneWay_52 : decode cX5_isOneWay 52 = .ok (.iconst 3, 1) := by decide +kernel
theorem dX5_isOneWay_53 : decode cX5_isOneWay 53 = .ok (.if_icmp .eq 8, 3) := by decide +kernel
theorem dX5_isOneWay_56 : decode cX5_isOneWay 56 = .ok (.iload_n 2, 1) := by decide +kernel
theorem dX5_isOneWay_57 : decode cX5_isOneWay 57 = .ok (.iconst 3, 1) := by decide +kernel
theorem dX5_isOneWay_58 : decode cX5_isOneWay 58 = .ok (.if_icmp .ne 7, 3) := by decide +kernel
theorem dX5_isOneWay_61 : decode cX5_isOneWay 61 = .ok (.iconst 1, 1) := by decide +kernel
theorem dX5_isOneWay_62 : decode cX5_isOneWay 62 = .ok (.goto 4, 3) := by decide +kernel
theorem dX5_isOneWay_65 : decode cX5_isOneWay 65 = .ok (.iconst 0, 1) := by decide +kernel
theorem dX5_isOneWay_66 : decode cX5_isOneWay 66 = .ok (.ireturn, 1) := by decide +kernel
theorem dX6_init_0 : decode cX6_init 0 = .ok (.aload_n 0, 1) := by decide +kernel
theorem dX6_init_1 : decode cX6_init 1 = .ok (.invokespecial 3, 3) := by decide +kernel
theorem dX6_init_4 : decode cX6_init 4 = .ok (.aload_n 0, 1) := by decide +kernel
theorem dX6_init_5 : decode cX6_init 5 = .ok (.sipush 144, 3) := by decide +kernel
theorem dX6_init_8 : decode cX6_init 8 = .ok (.newarray .int, 2) := by decide +kernel
theorem dX6_init_10 : decode cX6_init 10 = .ok (.putfield 9, 3) := by decide +kernel
theorem dX6_init_13 : decode cX6_init 13 = .ok (.aload_n 0, 1) := by decide +kernel
theorem dX6_init_14 : decode cX6_init 14 = .ok (.iconst 4, 1) := by decide +kernel
theorem dX6_init_15 : decode cX6_init 15 = .ok (.newarray .int, 2) := by decide +kernel
theorem dX6_init_17 : decode cX6_init 17 = .ok (.putfield 15, 3) := by decide +kernel
theorem dX6_init_20 : decode cX6_init 20 = .ok (.return_, 1) := by decide +kernel
theorem dX6_run_0 : decode cX6_run 0 = .ok (.aload_n 2, 1) := by decide +kernel
theorem dX6_run_1 : decode cX6_run 1 = .ok (.getfield 18, 3) := by decide +kernel
theorem dX6_run_4 : decode cX6_run 4 = .ok (.iconst 0, 1) := by decide +kernel
theorem dX6_run_5 : decode cX6_run 5 = .ok (.aload_n 0, 1) := by decide +kernel
theorem dX6_run_6 : decode cX6_run 6 = .ok (.getfield 9, 3) := by decide +kernel
theorem dX6_run_9 : decode cX6_run 9 = .ok (.iconst 0, 1) := by decide +kernel
theorem dX6_run_10 : decode cX6_run 10 = .ok (.sipush 144, 3) := by decide +kernel
theorem dX6_run_13 : decode cX6_run 13 = .ok (.invokestatic 21, 3) := by decide +kernel
theorem dX6_run_16 : decode cX6_run 16 = .ok (.aload_n 0, 1) := by decide +kernel
theorem dX6_run_17 : decode cX6_run 17 = .ok (.getfield 15, 3) := by decide +kernel
theorem dX6_run_20 : decode cX6_run 20 = .ok (.iconst 0, 1) := by decide +kernel
theorem dX6_run_21 : decode cX6_run 21 = .ok (.invokestatic 27, 3) := by decide +kernel
theorem dX6_run_24 : decode cX6_run 24 = .ok (.aload_n 0, 1) := by decide +kernel
theorem dX6_run_25 : decode cX6_run 25 = .ok (.iconst 0, 1) := by decide +kernel
theorem dX6_run_26 : decode cX6_run 26 = .ok (.putfield 33, 3) := by decide +kernel
theorem dX6_run_29 : decode cX6_run 29 = .ok (.aload_n 0, 1) := by decide +kernel
theorem dX6_run_30 : decode cX6_run 30 = .ok (.iconst 0, 1) := by decide +kernel
theorem dX6_run_31 : decode cX6_run 31 = .ok (.putfield 37, 3) := by decide +kernel
theorem dX6_run_34 : decode cX6_run 34 = .ok (.aload_n 1, 1) := by decide +kernel
theorem dX6_run_35 : decode cX6_run 35 = .ok (.iload_n 3, 1) := by decide +kernel
theorem dX6_run_36 : decode cX6_run 36 = .ok (.invokevirtual 40, 3) := by decide +kernel
theorem dX6_run_39 : decode cX6_run 39 = .ok (.iconst 0, 1) := by decide +kernel
theorem dX6_run_40 : decode cX6_run 40 = .ok (.istore 5, 2) := by decide +kernel
theorem dX6_run_42 : decode cX6_run 42 = .ok (.iload 5, 2) := by decide +kernel
theorem dX6_run_44 : decode cX6_run 44 = .ok (.sipush 6600, 3) := by decide +kernel
theorem dX6_run_47 : decode cX6_run 47 = .ok (.if_icmp .gt 120, 3) := by decide +kernel
theorem dX6_run_50 : decode cX6_run 50 = .ok (.aload_n 1, 1) := by decide +kernel
theorem dX6_run_51 : decode cX6_run 51 = .ok (.invokevirtual 46, 3) := by decide +kernel
theorem dX6_run_54 : decode cX6_run 54 = .ok (.ifCond .eq 113, 3) := by decide +kernel
theorem dX6_run_57 : decode cX6_run 57 = .ok (.iload 5, 2) := by decide +kernel
theorem dX6_run_59 : decode cX6_run 59 = .ok (.iload 4, 2) := by decide +kernel
theorem dX6_run_61 : decode cX6_run 61 = .ok (.if_icmp .ge 6, 3) := by decide +kernel
theorem dX6_run_64 : decode cX6_run 64 = .ok (.goto 97, 3) := by decide +kernel
theorem dX6_run_67 : decode cX6_run 67 = .ok (.aload_n 1, 1) := by decide +kernel
theorem dX6_run_68 : decode cX6_run 68 = .ok (.aload_n 2, 1) := by decide +kernel
theorem dX6_run_69 : decode cX6_run 69 = .ok (.getfield 50, 3) := by decide +kernel
theorem dX6_run_72 : decode cX6_run 72 = .ok (.invokevirtual 53, 3) := by decide +kernel
theorem dX6_run_75 : decode cX6_run 75 = .ok (.ifCond .ne 21, 3) := by decide +kernel
theorem dX6_run_78 : decode cX6_run 78 = .ok (.aload_n 1, 1) := by decide +kernel
theorem dX6_run_79 : decode cX6_run 79 = .ok (.aload_n 0, 1) := by decide +kernel
theorem dX6_run_80 : decode cX6_run 80 = .ok (.getfield 9, 3) := by decide +kernel
theorem dX6_run_83 : decode cX6_run 83 = .ok (.invokevirtual 53, 3) := by decide +kernel
theorem dX6_run_86 : decode cX6_run 86 = .ok (.ifCond .eq 16, 3) := by decide +kernel
theorem dX6_run_89 : decode cX6_run 89 = .ok (.aload_n 1, 1) := by decide +kernel
theorem dX6_run_90 : decode cX6_run 90 = .ok (.invokevirtual 57, 3) := by decide +kernel
theorem dX6_run_93 : decode cX6_run 93 = .ok (.ifCond .ne 9, 3) := by decide +kernel
theorem dX6_run_96 : decode cX6_run 96 = .ok (.aload_n 0, 1) := by decide +kernel
theorem dX6_run_97 : decode cX6_run 97 = .ok (.iconst 3, 1) := by decide +kernel
theorem dX6_run_98 : decode cX6_run 98 = .ok (.putfield 60, 3) := by decide +kernel
theorem dX6_run_101 : decode cX6_run 101 = .ok (.return_, 1) := by decide +kernel
theorem dX6_run_102 : decode cX6_run 102 = .ok (.aload_n 0, 1) := by decide +kernel
theorem dX6_run_103 : decode cX6_run 103 = .ok (.dup, 1) := by decide +kernel
theorem dX6_run_104 : decode cX6_run 104 = .ok (.getfield 33, 3) := by decide +kernel
theorem dX6_run_107 : decode cX6_run 107 = .ok (.iconst 1, 1) := by decide +kernel
theorem dX6_run_108 : decode cX6_run 108 = .ok (.iadd, 1) := by decide +kernel
theorem dX6_run_109 : decode cX6_run 109 = .ok (.putfield 33, 3) := by decide +kernel
theorem dX6_run_112 : decode cX6_run 112 = .ok (.aload_n 1, 1) := by decide +kernel
theorem dX6_run_113 : decode cX6_run 113 = .ok (.aload_n 0, 1) := by decide +kernel
theorem dX6_run_114 : decode cX6_run 114 = .ok (.getfield 9, 3) := by decide +kernel
theorem dX6_run_117 : decode cX6_run 117 = .ok (.invokevirtual 53, 3) := by decide +kernel
theorem dX6_run_120 : decode cX6_run 120 = .ok (.ifCond .eq 41, 3) := by decide +kernel
theorem dX6_run_123 : decode cX6_run 123 = .ok (.aload_n 0, 1) := by decide +kernel
theorem dX6_run_124 : decode cX6_run 124 = .ok (.dup, 1) := by decide +kernel
theorem dX6_run_125 : decode cX6_run 125 = .ok (.getfield 37, 3) := by decide +kernel
theorem dX6_run_128 : decode cX6_run 128 = .ok (.iconst 1, 1) := by decide +kernel
theorem dX6_run_129 : decode cX6_run 129 = .ok (.iadd, 1) := by decide +kernel
theorem dX6_run_130 : decode cX6_run 130 = .ok (.putfield 37, 3) := by decide +kernel
theorem dX6_run_133 : decode cX6_run 133 = .ok (.aload_n 0, 1) := by decide +kernel
theorem dX6_run_134 : decode cX6_run 134 = .ok (.getfield 15, 3) := by decide +kernel
theorem dX6_run_137 : decode cX6_run 137 = .ok (.aload_n 1, 1) := by decide +kernel
theorem dX6_run_138 : decode cX6_run 138 = .ok (.getfield 63, 3) := by decide +kernel
theorem dX6_run_141 : decode cX6_run 141 = .ok (.dup2, 1) := by decide +kernel
theorem dX6_run_142 : decode cX6_run 142 = .ok (.iaload, 1) := by decide +kernel
theorem dX6_run_143 : decode cX6_run 143 = .ok (.iconst 1, 1) := by decide +kernel
theorem dX6_run_144 : decode cX6_run 144 = .ok (.iadd, 1) := by decide +kernel
theorem dX6_run_145 : decode cX6_run 145 = .ok (.iastore, 1) := by decide +kernel
theorem dX6_run_146 : decode cX6_run 146 = .ok (.aload_n 0, 1) := by decide +kernel
theorem dX6_run_147 : decode cX6_run 147 = .ok (.getfield 9, 3) := by decide +kernel
theorem dX6_run_150 : decode cX6_run 150 = .ok (.aload_n 1, 1) := by decide +kernel
theorem dX6_run_151 : decode cX6_run 151 = .ok (.invokevirtual 66, 3) := by decide +kernel
theorem dX6_run_154 : decode cX6_run 154 = .ok (.aload_n 1, 1) := by decide +kernel
theorem dX6_run_155 : decode cX6_run 155 = .ok (.getfield 70, 3) := by decide +kernel
theorem dX6_run_158 : decode cX6_run 158 = .ok (.iconst 2, 1) := by decide +kernel
theorem dX6_run_159 : decode cX6_run 159 = .ok (.iaload, 1) := by decide +kernel
theorem dX6_run_160 : decode cX6_run 160 = .ok (.iastore, 1) := by decide +kernel
theorem dX6_run_161 : decode cX6_run 161 = .ok (.iinc 5 1, 3) := by decide +kernel
theorem dX6_run_164 : decode cX6_run 164 = .ok (.goto (-122), 3) := by decide +kernel
theorem dX6_run_167 : decode cX6_run 167 = .ok (.aload_n 0, 1) := by decide +kernel
theorem dX6_run_168 : decode cX6_run 168 = .ok (.aload_n 1, 1) := by decide +kernel
theorem dX6_run_169 : decode cX6_run 169 = .ok (.getfield 73, 3) := by decide +kernel
theorem dX6_run_172 : decode cX6_run 172 = .ok (.putfield 60, 3) := by decide +kernel
theorem dX6_run_175 : decode cX6_run 175 = .ok (.return_, 1) := by decide +kernel
theorem dX7_init_0 : decode cX7_init 0 = .ok (.aload_n 0, 1) := by decide +kernel
theorem dX7_init_1 : decode cX7_init 1 = .ok (.invokespecial 3, 3) := by decide +kernel
theorem dX7_init_4 : decode cX7_init 4 = .ok (.aload_n 0, 1) := by decide +kernel
theorem dX7_init_5 : decode cX7_init 5 = .ok (.new 9, 3) := by decide +kernel
theorem dX7_init_8 : decode cX7_init 8 = .ok (.dup, 1) := by decide +kernel
theorem dX7_init_9 : decode cX7_init 9 = .ok (.invokespecial 11, 3) := by decide +kernel
theorem dX7_init_12 : decode cX7_init 12 = .ok (.putfield 12, 3) := by decide +kernel
theorem dX7_init_15 : decode cX7_init 15 = .ok (.aload_n 0, 1) := by decide +kernel
theorem dX7_init_16 : decode cX7_init 16 = .ok (.new 9, 3) := by decide +kernel
theorem dX7_init_19 : decode cX7_init 19 = .ok (.dup, 1) := by decide +kernel
theorem dX7_init_20 : decode cX7_init 20 = .ok (.invokespecial 11, 3) := by decide +kernel
theorem dX7_init_23 : decode cX7_init 23 = .ok (.putfield 18, 3) := by decide +kernel
theorem dX7_init_26 : decode cX7_init 26 = .ok (.aload_n 0, 1) := by decide +kernel
theorem dX7_init_27 : decode cX7_init 27 = .ok (.bipush 6, 2) := by decide +kernel
theorem dX7_init_29 : decode cX7_init 29 = .ok (.newarray .int, 2) := by decide +kernel
theorem dX7_init_31 : decode cX7_init 31 = .ok (.putfield 21, 3) := by decide +kernel
theorem dX7_init_34 : decode cX7_init 34 = .ok (.aload_n 0, 1) := by decide +kernel
theorem dX7_init_35 : decode cX7_init 35 = .ok (.iconst 3, 1) := by decide +kernel
theorem dX7_init_36 : decode cX7_init 36 = .ok (.newarray .int, 2) := by decide +kernel
theorem dX7_init_38 : decode cX7_init 38 = .ok (.putfield 25, 3) := by decide +kernel
theorem dX7_init_41 : decode cX7_init 41 = .ok (.return_, 1) := by decide +kernel
theorem dX7_begin_0 : decode cX7_begin 0 = .ok (.aload_n 0, 1) := by decide +kernel
theorem dX7_begin_1 : decode cX7_begin 1 = .ok (.getfield 18, 3) := by decide +kernel
theorem dX7_begin_4 : decode cX7_begin 4 = .ok (.invokevirtual 28, 3) := by decide +kernel
theorem dX7_begin_7 : decode cX7_begin 7 = .ok (.aload_n 0, 1) := by decide +kernel
theorem dX7_begin_8 : decode cX7_begin 8 = .ok (.getfield 25, 3) := by decide +kernel
theorem dX7_begin_11 : decode cX7_begin 11 = .ok (.iconst 0, 1) := by decide +kernel
theorem dX7_begin_12 : decode cX7_begin 12 = .ok (.iconst 0, 1) := by decide +kernel
theorem dX7_begin_13 : decode cX7_begin 13 = .ok (.iastore, 1) := by decide +kernel
theorem dX7_begin_14 : decode cX7_begin 14 = .ok (.aload_n 0, 1) := by decide +kernel
theorem dX7_begin_15 : decode cX7_begin 15 = .ok (.getfield 25, 3) := by decide +kernel
theorem dX7_begin_18 : decode cX7_begin 18 = .ok (.iconst 1, 1) := by decide +kernel
theorem dX7_begin_19 : decode cX7_begin 19 = .ok (.iconst 0, 1) := by decide +kernel
theorem dX7_begin_20 : decode cX7_begin 20 = .ok (.iastore, 1) := by decide +kernel
theorem dX7_begin_21 : decode cX7_begin 21 = .ok (.aload_n 0, 1) := by decide +kernel
theorem dX7_begin_22 : decode cX7_begin 22 = .ok (.getfield 25, 3) := by decide +kernel
theorem dX7_begin_25 : decode cX7_begin 25 = .ok (.iconst 2, 1) := by decide +kernel
theorem dX7_begin_26 : decode cX7_begin 26 = .ok (.bipush 9, 2) := by decide +kernel
theorem dX7_begin_28 : decode cX7_begin 28 = .ok (.iastore, 1) := by decide +kernel
theorem dX7_begin_29 : decode cX7_begin 29 = .ok (.aload_n 0, 1) := by decide +kernel
theorem dX7_begin_30 : decode cX7_begin 30 = .ok (.iconst 0, 1) := by decide +kernel
theorem dX7_begin_31 : decode cX7_begin 31 = .ok (.putfield 31, 3) := by decide +kernel
theorem dX7_begin_34 : decode cX7_begin 34 = .ok (.aload_n 0, 1) := by decide +kernel
theorem dX7_begin_35 : decode cX7_begin 35 = .ok (.iconst 0, 1) := by decide +kernel
theorem dX7_begin_36 : decode cX7_begin 36 = .ok (.putfield 35, 3) := by decide +kernel
theorem dX7_begin_39 : decode cX7_begin 39 = .ok (.aload_n 0, 1) := by decide +kernel
theorem dX7_begin_40 : decode cX7_begin 40 = .ok (.iconst 0, 1) := by decide +kernel
theorem dX7_begin_41 : decode cX7_begin 41 = .ok (.putfield 38, 3) := by decide +kernel
theorem dX7_begin_44 : decode cX7_begin 44 = .ok (.aload_n 0, 1) := by decide +kernel
theorem dX7_begin_45 : decode cX7_begin 45 = .ok (.iconst 0, 1) := by decide +kernel
theorem dX7_begin_46 : decode cX7_begin 46 = .ok (.putfield 41, 3) := by decide +kernel
theorem dX7_begin_49 : decode cX7_begin 49 = .ok (.aload_n 0, 1) := by decide +kernel
theorem dX7_begin_50 : decode cX7_begin 50 = .ok (.iconst 0, 1) := by decide +kernel
theorem dX7_begin_51 : decode cX7_begin 51 = .ok (.putfield 45, 3) := by decide +kernel
theorem dX7_begin_54 : decode cX7_begin 54 = .ok (.aload_n 0, 1) := by decide +kernel
theorem dX7_begin_55 : decode cX7_begin 55 = .ok (.iconst (-1), 1) := by decide +kernel
theorem dX7_begin_56 : decode cX7_begin 56 = .ok (.putfield 48, 3) := by decide +kernel
theorem dX7_begin_59 : decode cX7_begin 59 = .ok (.aload_n 0, 1) := by decide +kernel
theorem dX7_begin_60 : decode cX7_begin 60 = .ok (.iconst 0, 1) := by decide +kernel
theorem dX7_begin_61 : decode cX7_begin 61 = .ok (.putfield 51, 3) := by decide +kernel
theorem dX7_begin_64 : decode cX7_begin 64 = .ok (.aload_n 0, 1) := by decide +kernel
theorem dX7_begin_65 : decode cX7_begin 65 = .ok (.iload_n 1, 1) := by decide +kernel
theorem dX7_begin_66 : decode cX7_begin 66 = .ok (.invokevirtual 54, 3) := by decide +kernel
theorem dX7_begin_69 : decode cX7_begin 69 = .ok (.return_, 1) := by decide +kernel
theorem dX7_goStep_0 : decode cX7_goStep 0 = .ok (.iconst 0, 1) := by decide +kernel
theorem dX7_goStep_1 : decode cX7_goStep 1 = .ok (.istore_n 1, 1) := by decide +kernel
theorem dX7_goStep_2 : decode cX7_goStep 2 = .ok (.iload_n 1, 1) := by decide +kernel
theorem dX7_goStep_3 : decode cX7_goStep 3 = .ok (.sipush 600, 3) := by decide +kernel
theorem dX7_goStep_6 : decode cX7_goStep 6 = .ok (.if_icmp .gt 96, 3) := by decide +kernel
theorem dX7_goStep_9 : decode cX7_goStep 9 = .ok (.aload_n 0, 1) := by decide +kernel
theorem dX7_goStep_10 : decode cX7_goStep 10 = .ok (.getfield 51, 3) := by decide +kernel
theorem dX7_goStep_13 : decode cX7_goStep 13 = .ok (.ifCond .ne 89, 3) := by decide +kernel
theorem dX7_goStep_16 : decode cX7_goStep 16 = .ok (.aload_n 0, 1) := by decide +kernel
theorem dX7_goStep_17 : decode cX7_goStep 17 = .ok (.getfield 25, 3) := by decide +kernel
theorem dX7_goStep_20 : decode cX7_goStep 20 = .ok (.aload_n 0, 1) := by decide +kernel
theorem dX7_goStep_21 : decode cX7_goStep 21 = .ok (.getfield 31, 3) := by decide +kernel
theorem dX7_goStep_24 : decode cX7_goStep 24 = .ok (.iaload, 1) := by decide +kernel
theorem dX7_goStep_25 : decode cX7_goStep 25 = .ok (.aload_n 0, 1) := by decide +kernel
theorem dX7_goStep_26 : decode cX7_goStep 26 = .ok (.getfield 35, 3) := by decide +kernel
theorem dX7_goStep_29 : decode cX7_goStep 29 = .ok (.if_icmp .eq 38, 3) := by decide +kernel
theorem dX7_goStep_32 : decode cX7_goStep 32 = .ok (.aload_n 0, 1) := by decide +kernel
theorem dX7_goStep_33 : decode cX7_goStep 33 = .ok (.getfield 25, 3) := by decide +kernel
theorem dX7_goStep_36 : decode cX7_goStep 36 = .ok (.aload_n 0, 1) := by decide +kernel
theorem dX7_goStep_37 : decode cX7_goStep 37 = .ok (.getfield 31, 3) := by decide +kernel
theorem dX7_goStep_40 : decode cX7_goStep 40 = .ok (.dup2, 1) := by decide +kernel
theorem dX7_goStep_41 : decode cX7_goStep 41 = .ok (.iaload, 1) := by decide +kernel
theorem dX7_goStep_42 : decode cX7_goStep 42 = .ok (.aload_n 0, 1) := by decide +kernel
theorem dX7_goStep_43 : decode cX7_goStep 43 = .ok (.getfield 25, 3) := by decide +kernel
theorem dX7_goStep_46 : decode cX7_goStep 46 = .ok (.aload_n 0, 1) := by decide +kernel
theorem dX7_goStep_47 : decode cX7_goStep 47 = .ok (.getfield 31, 3) := by decide +kernel
theorem dX7_goStep_50 : decode cX7_goStep 50 = .ok (.iaload, 1) := by decide +kernel
theorem dX7_goStep_51 : decode cX7_goStep 51 = .ok (.aload_n 0, 1) := by decide +kernel
theorem dX7_goStep_52 : decode cX7_goStep 52 = .ok (.getfield 35, 3) := by decide +kernel
theorem dX7_goStep_55 : decode cX7_goStep 55 = .ok (.if_icmp .ge 7, 3) := by decide +kernel
theorem dX7_goStep_58 : decode cX7_goStep 58 = .ok (.iconst 1, 1) := by decide +kernel
theorem dX7_goStep_59 : decode cX7_goStep 59 = .ok (.goto 4, 3) := by decide +kernel
theorem dX7_goStep_62 : decode cX7_goStep 62 = .ok (.iconst (-1), 1) := by decide +kernel
theorem dX7_goStep_63 : decode cX7_goStep 63 = .ok (.iadd, 1) := by decide +kernel
theorem dX7_goStep_64 : decode cX7_goStep 64 = .ok (.iastore, 1) := by decide +kernel
theorem dX7_goStep_65 : decode cX7_goStep 65 = .ok (.iconst 1, 1) := by decide +kernel
theorem dX7_goStep_66 : decode cX7_goStep 66 = .ok (.ireturn, 1) := by decide +kernel
theorem dX7_goStep_67 : decode cX7_goStep 67 = .ok (.aload_n 0, 1) := by decide +kernel
theorem dX7_goStep_68 : decode cX7_goStep 68 = .ok (.invokevirtual 58, 3) := by decide +kernel
theorem dX7_goStep_71 : decode cX7_goStep 71 = .ok (.aload_n 0, 1) := by decide +kernel
theorem dX7_goStep_72 : decode cX7_goStep 72 = .ok (.getfield 18, 3) := by decide +kernel
theorem dX7_goStep_75 : decode cX7_goStep 75 = .ok (.invokevirtual 61, 3) := by decide +kernel
theorem dX7_goStep_78 : decode cX7_goStep 78 = .ok (.ifCond .eq 5, 3) := by decide +kernel
theorem dX7_goStep_81 : decode cX7_goStep 81 = .ok (.iconst 0, 1) := by decide +kernel
theorem dX7_goStep_82 : decode cX7_goStep 82 = .ok (.ireturn, 1) := by decide +kernel
theorem dX7_goStep_83 : decode cX7_goStep 83 = .ok (.aload_n 0, 1) := by decide +kernel
theorem dX7_goStep_84 : decode cX7_goStep 84 = .ok (.aload_n 0, 1) := by decide +kernel
theorem dX7_goStep_85 : decode cX7_goStep 85 = .ok (.getfield 18, 3) := by decide +kernel
theorem dX7_goStep_88 : decode cX7_goStep 88 = .ok (.invokevirtual 65, 3) := by decide +kernel
theorem dX7_goStep_91 : decode cX7_goStep 91 = .ok (.iconst 1, 1) := by decide +kernel
theorem dX7_goStep_92 : decode cX7_goStep 92 = .ok (.isub, 1) := by decide +kernel
theorem dX7_goStep_93 : decode cX7_goStep 93 = .ok (.invokevirtual 69, 3) := by decide +kernel
theorem dX7_goStep_96 : decode cX7_goStep 96 = .ok (.iinc 1 1, 3) := by decide +kernel
theorem dX7_goStep_99 : decode cX7_goStep 99 = .ok (.goto (-97), 3) := by decide +kernel
theorem dX7_goStep_102 : decode cX7_goStep 102 = .ok (.iconst 0, 1) := by decide +kernel
theorem dX7_goStep_103 : decode cX7_goStep 103 = .ok (.ireturn, 1) := by decide +kernel
theorem dX7_cellNow_0 : decode cX7_cellNow 0 = .ok (.aload_n 0, 1) := by decide +kernel
theorem dX7_cellNow_1 : decode cX7_cellNow 1 = .ok (.getfield 25, 3) := by decide +kernel
theorem dX7_cellNow_4 : decode cX7_cellNow 4 = .ok (.iconst 1, 1) := by decide +kernel
theorem dX7_cellNow_5 : decode cX7_cellNow 5 = .ok (.iaload, 1) := by decide +kernel
theorem dX7_cellNow_6 : decode cX7_cellNow 6 = .ok (.bipush 12, 2) := by decide +kernel
theorem dX7_cellNow_8 : decode cX7_cellNow 8 = .ok (.imul, 1) := by decide +kernel
theorem dX7_cellNow_9 : decode cX7_cellNow 9 = .ok (.aload_n 0, 1) := by decide +kernel
theorem dX7_cellNow_10 : decode cX7_cellNow 10 = .ok (.getfield 25, 3) := by decide +kernel
theorem dX7_cellNow_13 : decode cX7_cellNow 13 = .ok (.iconst 0, 1) := by decide +kernel
theorem dX7_cellNow_14 : decode cX7_cellNow 14 = .ok (.iaload, 1) := by decide +kernel
theorem dX7_cellNow_15 : decode cX7_cellNow 15 = .ok (.iadd, 1) := by decide +kernel
theorem dX7_cellNow_16 : decode cX7_cellNow 16 = .ok (.ireturn, 1) := by decide +kernel
theorem dX7_isBelow_0 : decode cX7_isBelow 0 = .ok (.aload_n 0, 1) := by decide +kernel
theorem dX7_isBelow_1 : decode cX7_isBelow 1 = .ok (.getfield 25, 3) := by decide +kernel
theorem dX7_isBelow_4 : decode cX7_isBelow 4 = .ok (.iconst 2, 1) := by decide +kernel
theorem dX7_isBelow_5 : decode cX7_isBelow 5 = .ok (.iaload, 1) := by decide +kernel
theorem dX7_isBelow_6 : decode cX7_isBelow 6 = .ok (.aload_n 1, 1) := by decide +kernel
theorem dX7_isBelow_7 : decode cX7_isBelow 7 = .ok (.aload_n 0, 1) := by decide +kernel
theorem dX7_isBelow_8 : decode cX7_isBelow 8 = .ok (.invokevirtual 72, 3) := by decide +kernel
theorem dX7_isBelow_11 : decode cX7_isBelow 11 = .ok (.iaload, 1) := by decide +kernel
theorem dX7_isBelow_12 : decode cX7_isBelow 12 = .ok (.if_icmp .ge 7, 3) := by decide +kernel
theorem dX7_isBelow_15 : decode cX7_isBelow 15 = .ok (.iconst 1, 1) := by decide +kernel
theorem dX7_isBelow_16 : decode cX7_isBelow 16 = .ok (.goto 4, 3) := by decide +kernel
theorem dX7_isBelow_19 : decode cX7_isBelow 19 = .ok (.iconst 0, 1) := by decide +kernel
theorem dX7_isBelow_20 : decode cX7_isBelow 20 = .ok (.ireturn, 1) := by decide +kernel
theorem dX7_canCut_0 : decode cX7_canCut 0 = .ok (.aload_n 0, 1) := by decide +kernel
theorem dX7_canCut_1 : decode cX7_canCut 1 = .ok (.getfield 41, 3) := by decide +kernel
theorem dX7_canCut_4 : decode cX7_canCut 4 = .ok (.ifCond .eq 15, 3) := by decide +kernel
theorem dX7_canCut_7 : decode cX7_canCut 7 = .ok (.aload_n 0, 1) := by decide +kernel
theorem dX7_canCut_8 : decode cX7_canCut 8 = .ok (.getfield 48, 3) := by decide +kernel
theorem dX7_canCut_11 : decode cX7_canCut 11 = .ok (.iconst (-1), 1) := by decide +kernel
theorem dX7_canCut_12 : decode cX7_canCut 12 = .ok (.if_icmp .eq 7, 3) := by decide +kernel
theorem dX7_canCut_15 : decode cX7_canCut 15 = .ok (.iconst 1, 1) := by decide +kernel
theorem dX7_canCut_16 : decode cX7_canCut 16 = .ok (.goto 4, 3) := by decide +kernel
theorem dX7_canCut_19 : decode cX7_canCut 19 = .ok (.iconst 0, 1) := by decide +kernel
theorem dX7_canCut_20 : decode cX7_canCut 20 = .ok (.ireturn, 1) := by decide +kernel
theorem dX7_leaveEnded_0 : decode cX7_leaveEnded 0 = .ok (.aload_n 0, 1) := by decide +kernel
theorem dX7_leaveEnded_1 : decode cX7_leaveEnded 1 = .ok (.getfield 18, 3) := by decide +kernel
theorem dX7_leaveEnded_4 : decode cX7_leaveEnded 4 = .ok (.invokevirtual 65, 3) := by decide +kernel
theorem dX7_leaveEnded_7 : decode cX7_leaveEnded 7 = .ok (.iconst 1, 1) := by decide +kernel
theorem dX7_leaveEnded_8 : decode cX7_leaveEnded 8 = .ok (.isub, 1) := by decide +kernel
theorem dX7_leaveEnded_9 : decode cX7_leaveEnded 9 = .ok (.istore_n 1, 1) := by decide +kernel
theorem dX7_leaveEnded_10 : decode cX7_leaveEnded 10 = .ok (.iload_n 1, 1) := by decide +kernel
theorem dX7_leaveEnded_11 : decode cX7_leaveEnded 11 = .ok (.ifCond .lt 42, 3) := by decide +kernel
theorem dX7_leaveEnded_14 : decode cX7_leaveEnded 14 = .ok (.aload_n 0, 1) := by decide +kernel
theorem dX7_leaveEnded_15 : decode cX7_leaveEnded 15 = .ok (.getfield 21, 3) := by decide +kernel
theorem dX7_leaveEnded_18 : decode cX7_leaveEnded 18 = .ok (.iload_n 1, 1) := by decide +kernel
theorem dX7_leaveEnded_19 : decode cX7_leaveEnded 19 = .ok (.iaload, 1) := by decide +kernel
theorem dX7_leaveEnded_20 : decode cX7_leaveEnded 20 = .ok (.aload_n 0, 1) := by decide +kernel
theorem dX7_leaveEnded_21 : decode cX7_leaveEnded 21 = .ok (.getfield 18, 3) := by decide +kernel
theorem dX7_leaveEnded_24 : decode cX7_leaveEnded 24 = .ok (.iload_n 1, 1) := by decide +kernel
theorem dX7_leaveEnded_25 : decode cX7_leaveEnded 25 = .ok (.invokevirtual 75, 3) := by decide +kernel
theorem dX7_leaveEnded_28 : decode cX7_leaveEnded 28 = .ok (.checkcast 79, 3) := by decide +kernel
theorem dX7_leaveEnded_31 : decode cX7_leaveEnded 31 = .ok (.getfield 81, 3) := by decide +kernel
theorem dX7_leaveEnded_34 : decode cX7_leaveEnded 34 = .ok (.if_icmp .ge 4, 3) := by decide +kernel
theorem dX7_leaveEnded_37 : decode cX7_leaveEnded 37 = .ok (.return_, 1) := by decide +kernel
theorem dX7_leaveEnded_38 : decode cX7_leaveEnded 38 = .ok (.aload_n 0, 1) := by decide +kernel
theorem dX7_leaveEnded_39 : decode cX7_leaveEnded 39 = .ok (.getfield 18, 3) := by decide +kernel
theorem dX7_leaveEnded_42 : decode cX7_leaveEnded 42 = .ok (.iload_n 1, 1) := by decide +kernel
theorem dX7_leaveEnded_43 : decode cX7_leaveEnded 43 = .ok (.invokevirtual 83, 3) := by decide +kernel
theorem dX7_leaveEnded_46 : decode cX7_leaveEnded 46 = .ok (.pop, 1) := by decide +kernel
theorem dX7_leaveEnded_47 : decode cX7_leaveEnded 47 = .ok (.iinc 1 (-1), 3) := by decide +kernel
theorem dX7_leaveEnded_50 : decode cX7_leaveEnded 50 = .ok (.goto (-40), 3) := by decide +kernel
theorem dX7_leaveEnded_53 : decode cX7_leaveEnded 53 = .ok (.return_, 1) := by decide +kernel
theorem dX7_obeyNext_0 : decode cX7_obeyNext 0 = .ok (.aload_n 0, 1) := by decide +kernel
theorem dX7_obeyNext_1 : decode cX7_obeyNext 1 = .ok (.getfield 38, 3) := by decide +kernel
theorem dX7_obeyNext_4 : decode cX7_obeyNext 4 = .ok (.sipush 600, 3) := by decide +kernel
theorem dX7_obeyNext_7 : decode cX7_obeyNext 7 = .ok (.if_icmp .lt 9, 3) := by decide +kernel
theorem dX7_obeyNext_10 : decode cX7_obeyNext 10 = .ok (.aload_n 0, 1) := by decide +kernel
theorem dX7_obeyNext_11 : decode cX7_obeyNext 11 = .ok (.iconst 4, 1) := by decide +kernel
theorem dX7_obeyNext_12 : decode cX7_obeyNext 12 = .ok (.putfield 51, 3) := by decide +kernel
theorem dX7_obeyNext_15 : decode cX7_obeyNext 15 = .ok (.return_, 1) := by decide +kernel
theorem dX7_obeyNext_16 : decode cX7_obeyNext 16 = .ok (.aload_n 0, 1) := by decide +kernel
theorem dX7_obeyNext_17 : decode cX7_obeyNext 17 = .ok (.dup, 1) := by decide +kernel
theorem dX7_obeyNext_18 : decode cX7_obeyNext 18 = .ok (.getfield 38, 3) := by decide +kernel
theorem dX7_obeyNext_21 : decode cX7_obeyNext 21 = .ok (.iconst 1, 1) := by decide +kernel
theorem dX7_obeyNext_22 : decode cX7_obeyNext 22 = .ok (.iadd, 1) := by decide +kernel
theorem dX7_obeyNext_23 : decode cX7_obeyNext 23 = .ok (.putfield 38, 3) := by decide +kernel
theorem dX7_obeyNext_26 : decode cX7_obeyNext 26 = .ok (.aload_n 0, 1) := by decide +kernel
theorem dX7_obeyNext_27 : decode cX7_obeyNext 27 = .ok (.getfield 21, 3) := by decide +kernel
theorem dX7_obeyNext_30 : decode cX7_obeyNext 30 = .ok (.iload_n 1, 1) := by decide +kernel
theorem dX7_obeyNext_31 : decode cX7_obeyNext 31 = .ok (.iaload, 1) := by decide +kernel
theorem dX7_obeyNext_32 : decode cX7_obeyNext 32 = .ok (.istore_n 2, 1) := by decide +kernel
theorem dX7_obeyNext_33 : decode cX7_obeyNext 33 = .ok (.aload_n 0, 1) := by decide +kernel
theorem dX7_obeyNext_34 : decode cX7_obeyNext 34 = .ok (.getfield 21, 3) := by decide +kernel
theorem dX7_obeyNext_37 : decode cX7_obeyNext 37 = .ok (.iload_n 1, 1) := by decide +kernel
theorem dX7_obeyNext_38 : decode cX7_obeyNext 38 = .ok (.dup2, 1) := by decide +kernel
theorem dX7_obeyNext_39 : decode cX7_obeyNext 39 = .ok (.iaload, 1) := by decide +kernel
theorem dX7_obeyNext_40 : decode cX7_obeyNext 40 = .ok (.iconst 1, 1) := by decide +kernel
theorem dX7_obeyNext_41 : decode cX7_obeyNext 41 = .ok (.iadd, 1) := by decide +kernel
theorem dX7_obeyNext_42 : decode cX7_obeyNext 42 = .ok (.iastore, 1) := by decide +kernel
theorem dX7_obeyNext_43 : decode cX7_obeyNext 43 = .ok (.aload_n 0, 1) := by decide +kernel
theorem dX7_obeyNext_44 : decode cX7_obeyNext 44 = .ok (.getfield 18, 3) := by decide +kernel
theorem dX7_obeyNext_47 : decode cX7_obeyNext 47 = .ok (.iload_n 1, 1) := by decide +kernel
theorem dX7_obeyNext_48 : decode cX7_obeyNext 48 = .ok (.invokevirtual 75, 3) := by decide +kernel
theorem dX7_obeyNext_51 : decode cX7_obeyNext 51 = .ok (.checkcast 79, 3) := by decide +kernel
theorem dX7_obeyNext_54 : decode cX7_obeyNext 54 = .ok (.getfield 86, 3) := by decide +kernel
theorem dX7_obeyNext_57 : decode cX7_obeyNext 57 = .ok (.iload_n 2, 1) := by decide +kernel
theorem dX7_obeyNext_58 : decode cX7_obeyNext 58 = .ok (.iaload, 1) := by decide +kernel
theorem dX7_obeyNext_59 : decode cX7_obeyNext 59 = .ok (.istore_n 3, 1) := by decide +kernel
theorem dX7_obeyNext_60 : decode cX7_obeyNext 60 = .ok (.aload_n 0, 1) := by decide +kernel
theorem dX7_obeyNext_61 : decode cX7_obeyNext 61 = .ok (.getfield 18, 3) := by decide +kernel
theorem dX7_obeyNext_64 : decode cX7_obeyNext 64 = .ok (.iload_n 1, 1) := by decide +kernel
theorem dX7_obeyNext_65 : decode cX7_obeyNext 65 = .ok (.invokevirtual 75, 3) := by decide +kernel
theorem dX7_obeyNext_68 : decode cX7_obeyNext 68 = .ok (.checkcast 79, 3) := by decide +kernel
theorem dX7_obeyNext_71 : decode cX7_obeyNext 71 = .ok (.getfield 89, 3) := by decide +kernel
theorem dX7_obeyNext_74 : decode cX7_obeyNext 74 = .ok (.iload_n 2, 1) := by decide +kernel
theorem dX7_obeyNext_75 : decode cX7_obeyNext 75 = .ok (.iaload, 1) := by decide +kernel
theorem dX7_obeyNext_76 : decode cX7_obeyNext 76 = .ok (.tableswitch 127 0 6 #[44, 61, 78, 89, 100, 111, 119], 44) := by decide +kernel
theorem dX7_obeyNext_120 : decode cX7_obeyNext 120 = .ok (.aload_n 0, 1) := by decide +kernel
theorem dX7_obeyNext_121 : decode cX7_obeyNext 121 = .ok (.iload_n 3, 1) := by decide +kernel
theorem dX7_obeyNext_122 : decode cX7_obeyNext 122 = .ok (.iconst 1, 1) := by decide +kernel
theorem dX7_obeyNext_123 : decode cX7_obeyNext 123 = .ok (.if_icmp .ne 7, 3) := by decide +kernel
theorem dX7_obeyNext_126 : decode cX7_obeyNext 126 = .ok (.iconst 1, 1) := by decide +kernel
theorem dX7_obeyNext_127 : decode cX7_obeyNext 127 = .ok (.goto 4, 3) := by decide +kernel
theorem dX7_obeyNext_130 : decode cX7_obeyNext 130 = .ok (.iconst 0, 1) := by decide +kernel
theorem dX7_obeyNext_131 : decode cX7_obeyNext 131 = .ok (.putfield 41, 3) := by decide +kernel
theorem dX7_obeyNext_134 : decode cX7_obeyNext 134 = .ok (.goto 69, 3) := by decide +kernel
theorem dX7_obeyNext_137 : decode cX7_obeyNext 137 = .ok (.aload_n 0, 1) := by decide +kernel
theorem dX7_obeyNext_138 : decode cX7_obeyNext 138 = .ok (.iload_n 3, 1) := by decide +kernel
theorem dX7_obeyNext_139 : decode cX7_obeyNext 139 = .ok (.iconst 1, 1) := by decide +kernel
theorem dX7_obeyNext_140 : decode cX7_obeyNext 140 = .ok (.if_icmp .ne 7, 3) := by decide +kernel
theorem dX7_obeyNext_143 : decode cX7_obeyNext 143 = .ok (.iconst 1, 1) := by decide +kernel
theorem dX7_obeyNext_144 : decode cX7_obeyNext 144 = .ok (.goto 4, 3) := by decide +kernel
theorem dX7_obeyNext_147 : decode cX7_obeyNext 147 = .ok (.iconst 0, 1) := by decide +kernel
theorem dX7_obeyNext_148 : decode cX7_obeyNext 148 = .ok (.putfield 45, 3) := by decide +kernel
theorem dX7_obeyNext_151 : decode cX7_obeyNext 151 = .ok (.goto 52, 3) := by decide +kernel
theorem dX7_obeyNext_154 : decode cX7_obeyNext 154 = .ok (.aload_n 0, 1) := by decide +kernel
theorem dX7_obeyNext_155 : decode cX7_obeyNext 155 = .ok (.iconst 0, 1) := by decide +kernel
theorem dX7_obeyNext_156 : decode cX7_obeyNext 156 = .ok (.iload_n 3, 1) := by decide +kernel
theorem dX7_obeyNext_157 : decode cX7_obeyNext 157 = .ok (.bipush 11, 2) := by decide +kernel
theorem dX7_obeyNext_159 : decode cX7_obeyNext 159 = .ok (.invokevirtual 92, 3) := by decide +kernel
theorem dX7_obeyNext_162 : decode cX7_obeyNext 162 = .ok (.goto 41, 3) := by decide +kernel
theorem dX7_obeyNext_165 : decode cX7_obeyNext 165 = .ok (.aload_n 0, 1) := by decide +kernel
theorem dX7_obeyNext_166 : decode cX7_obeyNext 166 = .ok (.iconst 1, 1) := by decide +kernel
theorem dX7_obeyNext_167 : decode cX7_obeyNext 167 = .ok (.iload_n 3, 1) := by decide +kernel
theorem dX7_obeyNext_168 : decode cX7_obeyNext 168 = .ok (.bipush 11, 2) := by decide +kernel
theorem dX7_obeyNext_170 : decode cX7_obeyNext 170 = .ok (.invokevirtual 92, 3) := by decide +kernel
theorem dX7_obeyNext_173 : decode cX7_obeyNext 173 = .ok (.goto 30, 3) := by decide +kernel
theorem dX7_obeyNext_176 : decode cX7_obeyNext 176 = .ok (.aload_n 0, 1) := by decide +kernel
theorem dX7_obeyNext_177 : decode cX7_obeyNext 177 = .ok (.iconst 2, 1) := by decide +kernel
theorem dX7_obeyNext_178 : decode cX7_obeyNext 178 = .ok (.iload_n 3, 1) := by decide +kernel
theorem dX7_obeyNext_179 : decode cX7_obeyNext 179 = .ok (.bipush 9, 2) := by decide +kernel
theorem dX7_obeyNext_181 : decode cX7_obeyNext 181 = .ok (.invokevirtual 92, 3) := by decide +kernel
theorem dX7_obeyNext_184 : decode cX7_obeyNext 184 = .ok (.goto 19, 3) := by decide +kernel
theorem dX7_obeyNext_187 : decode cX7_obeyNext 187 = .ok (.aload_n 0, 1) := by decide +kernel
theorem dX7_obeyNext_188 : decode cX7_obeyNext 188 = .ok (.iload_n 3, 1) := by decide +kernel
theorem dX7_obeyNext_189 : decode cX7_obeyNext 189 = .ok (.invokevirtual 96, 3) := by decide +kernel
theorem dX7_obeyNext_192 : decode cX7_obeyNext 192 = .ok (.goto 11, 3) := by decide +kernel
theorem dX7_obeyNext_195 : decode cX7_obeyNext 195 = .ok (.aload_n 0, 1) := by decide +kernel
theorem dX7_obeyNext_196 : decode cX7_obeyNext 196 = .ok (.iload_n 3, 1) := by decide +kernel
theorem dX7_obeyNext_197 : decode cX7_obeyNext 197 = .ok (.invokevirtual 54, 3) := by decide +kernel
theorem dX7_obeyNext_200 : decode cX7_obeyNext 200 = .ok (.goto 3, 3) := by decide +kernel
theorem dX7_obeyNext_203 : decode cX7_obeyNext 203 = .ok (.return_, 1) := by decide +kernel
theorem dX7_changeTool_0 : decode cX7_changeTool 0 = .ok (.aload_n 0, 1) := by decide +kernel
theorem dX7_changeTool_1 : decode cX7_changeTool 1 = .ok (.getfield 25, 3) := by decide +kernel
theorem dX7_changeTool_4 : decode cX7_changeTool 4 = .ok (.iconst 2, 1) := by decide +kernel
theorem dX7_changeTool_5 : decode cX7_changeTool 5 = .ok (.iaload, 1) := by decide +kernel
theorem dX7_changeTool_6 : decode cX7_changeTool 6 = .ok (.bipush 9, 2) := by decide +kernel
theorem dX7_changeTool_8 : decode cX7_changeTool 8 = .ok (.if_icmp .eq 11, 3) := by decide +kernel
theorem dX7_changeTool_11 : decode cX7_changeTool 11 = .ok (.aload_n 0, 1) := by decide +kernel
theorem dX7_changeTool_12 : decode cX7_changeTool 12 = .ok (.iconst 2, 1) := by decide +kernel
theorem dX7_changeTool_13 : decode cX7_changeTool 13 = .ok (.putfield 51, 3) := by decide +kernel
theorem dX7_changeTool_16 : decode cX7_changeTool 16 = .ok (.goto 8, 3) := by decide +kernel
theorem dX7_changeTool_19 : decode cX7_changeTool 19 = .ok (.aload_n 0, 1) := by decide +kernel
theorem dX7_changeTool_20 : decode cX7_changeTool 20 = .ok (.iload_n 1, 1) := by decide +kernel
theorem dX7_changeTool_21 : decode cX7_changeTool 21 = .ok (.putfield 48, 3) := by decide +kernel
theorem dX7_changeTool_24 : decode cX7_changeTool 24 = .ok (.return_, 1) := by decide +kernel
theorem dX7_enter_0 : decode cX7_enter 0 = .ok (.aload_n 0, 1) := by decide +kernel
theorem dX7_enter_1 : decode cX7_enter 1 = .ok (.getfield 18, 3) := by decide +kernel
theorem dX7_enter_4 : decode cX7_enter 4 = .ok (.invokevirtual 65, 3) := by decide +kernel
theorem dX7_enter_7 : decode cX7_enter 7 = .ok (.istore_n 2, 1) := by decide +kernel
theorem dX7_enter_8 : decode cX7_enter 8 = .ok (.iload_n 1, 1) := by decide +kernel
theorem dX7_enter_9 : decode cX7_enter 9 = .ok (.ifCond .lt 46, 3) := by decide +kernel
theorem dX7_enter_12 : decode cX7_enter 12 = .ok (.iload_n 1, 1) := by decide +kernel
theorem dX7_enter_13 : decode cX7_enter 13 = .ok (.aload_n 0, 1) := by decide +kernel
theorem dX7_enter_14 : decode cX7_enter 14 = .ok (.getfield 12, 3) := by decide +kernel
theorem dX7_enter_17 : decode cX7_enter 17 = .ok (.invokevirtual 65, 3) := by decide +kernel
theorem dX7_enter_20 : decode cX7_enter 20 = .ok (.if_icmp .ge 35, 3) := by decide +kernel
theorem dX7_enter_23 : decode cX7_enter 23 = .ok (.iload_n 2, 1) := by decide +kernel
theorem dX7_enter_24 : decode cX7_enter 24 = .ok (.bipush 6, 2) := by decide +kernel
theorem dX7_enter_26 : decode cX7_enter 26 = .ok (.if_icmp .ge 29, 3) := by decide +kernel
theorem dX7_enter_29 : decode cX7_enter 29 = .ok (.aload_n 0, 1) := by decide +kernel
theorem dX7_enter_30 : decode cX7_enter 30 = .ok (.getfield 21, 3) := by decide +kernel
theorem dX7_enter_33 : decode cX7_enter 33 = .ok (.iload_n 2, 1) := by decide +kernel
theorem dX7_enter_34 : decode cX7_enter 34 = .ok (.iconst 0, 1) := by decide +kernel
theorem dX7_enter_35 : decode cX7_enter 35 = .ok (.iastore, 1) := by decide +kernel
theorem dX7_enter_36 : decode cX7_enter 36 = .ok (.aload_n 0, 1) := by decide +kernel
theorem dX7_enter_37 : decode cX7_enter 37 = .ok (.getfield 18, 3) := by decide +kernel
theorem dX7_enter_40 : decode cX7_enter 40 = .ok (.aload_n 0, 1) := by decide +kernel
theorem dX7_enter_41 : decode cX7_enter 41 = .ok (.getfield 12, 3) := by decide +kernel
theorem dX7_enter_44 : decode cX7_enter 44 = .ok (.iload_n 1, 1) := by decide +kernel
theorem dX7_enter_45 : decode cX7_enter 45 = .ok (.invokevirtual 75, 3) := by decide +kernel
theorem dX7_enter_48 : decode cX7_enter 48 = .ok (.checkcast 79, 3) := by decide +kernel
theorem dX7_enter_51 : decode cX7_enter 51 = .ok (.invokevirtual 99, 3) := by decide +kernel
theorem dX7_enter_54 : decode cX7_enter 54 = .ok (.pop, 1) := by decide +kernel
theorem dX7_enter_55 : decode cX7_enter 55 = .ok (.return_, 1) := by decide +kernel
theorem dX7_aim_0 : decode cX7_aim 0 = .ok (.aload_n 0, 1) := by decide +kernel
theorem dX7_aim_1 : decode cX7_aim 1 = .ok (.getfield 45, 3) := by decide +kernel
theorem dX7_aim_4 : decode cX7_aim 4 = .ok (.ifCond .eq 14, 3) := by decide +kernel
theorem dX7_aim_7 : decode cX7_aim 7 = .ok (.aload_n 0, 1) := by decide +kernel
theorem dX7_aim_8 : decode cX7_aim 8 = .ok (.getfield 25, 3) := by decide +kernel
theorem dX7_aim_11 : decode cX7_aim 11 = .ok (.iload_n 1, 1) := by decide +kernel
theorem dX7_aim_12 : decode cX7_aim 12 = .ok (.iaload, 1) := by decide +kernel
theorem dX7_aim_13 : decode cX7_aim 13 = .ok (.iload_n 2, 1) := by decide +kernel
theorem dX7_aim_14 : decode cX7_aim 14 = .ok (.iadd, 1) := by decide +kernel
theorem dX7_aim_15 : decode cX7_aim 15 = .ok (.goto 4, 3) := by decide +kernel
theorem dX7_aim_18 : decode cX7_aim 18 = .ok (.iload_n 2, 1) := by decide +kernel
theorem dX7_aim_19 : decode cX7_aim 19 = .ok (.istore 4, 2) := by decide +kernel
theorem dX7_aim_21 : decode cX7_aim 21 = .ok (.iload 4, 2) := by decide +kernel
theorem dX7_aim_23 : decode cX7_aim 23 = .ok (.ifCond .lt 9, 3) := by decide +kernel
theorem dX7_aim_26 : decode cX7_aim 26 = .ok (.iload 4, 2) := by decide +kernel
theorem dX7_aim_28 : decode cX7_aim 28 = .ok (.iload_n 3, 1) := by decide +kernel
theorem dX7_aim_29 : decode cX7_aim 29 = .ok (.if_icmp .le 11, 3) := by decide +kernel
theorem dX7_aim_32 : decode cX7_aim 32 = .ok (.aload_n 0, 1) := by decide +kernel
theorem dX7_aim_33 : decode cX7_aim 33 = .ok (.iconst 1, 1) := by decide +kernel
theorem dX7_aim_34 : decode cX7_aim 34 = .ok (.putfield 51, 3) := by decide +kernel
theorem dX7_aim_37 : decode cX7_aim 37 = .ok (.goto 14, 3) := by decide +kernel
theorem dX7_aim_40 : decode cX7_aim 40 = .ok (.aload_n 0, 1) := by decide +kernel
theorem dX7_aim_41 : decode cX7_aim 41 = .ok (.iload_n 1, 1) := by decide +kernel
theorem dX7_aim_42 : decode cX7_aim 42 = .ok (.putfield 31, 3) := by decide +kernel
theorem dX7_aim_45 : decode cX7_aim 45 = .ok (.aload_n 0, 1) := by decide +kernel
theorem dX7_aim_46 : decode cX7_aim 46 = .ok (.iload 4, 2) := by decide +kernel
theorem dX7_aim_48 : decode cX7_aim 48 = .ok (.putfield 35, 3) := by decide +kernel
theorem dX7_aim_51 : decode cX7_aim 51 = .ok (.return_, 1) := by decide +kernel
theorem dX8_init_0 : decode cX8_init 0 = .ok (.aload_n 0, 1) := by decide +kernel
theorem dX8_init_1 : decode cX8_init 1 = .ok (.invokespecial 3, 3) := by decide +kernel
theorem dX8_init_4 : decode cX8_init 4 = .ok (.aload_n 0, 1) := by decide +kernel
theorem dX8_init_5 : decode cX8_init 5 = .ok (.new 9, 3) := by decide +kernel
theorem dX8_init_8 : decode cX8_init 8 = .ok (.dup, 1) := by decide +kernel
theorem dX8_init_9 : decode cX8_init 9 = .ok (.invokespecial 11, 3) := by decide +kernel
theorem dX8_init_12 : decode cX8_init 12 = .ok (.putfield 12, 3) := by decide +kernel
theorem dX8_init_15 : decode cX8_init 15 = .ok (.aload_n 0, 1) := by decide +kernel
theorem dX8_init_16 : decode cX8_init 16 = .ok (.new 9, 3) := by decide +kernel
theorem dX8_init_19 : decode cX8_init 19 = .ok (.dup, 1) := by decide +kernel
theorem dX8_init_20 : decode cX8_init 20 = .ok (.invokespecial 11, 3) := by decide +kernel
theorem dX8_init_23 : decode cX8_init 23 = .ok (.putfield 16, 3) := by decide +kernel
theorem dX8_init_26 : decode cX8_init 26 = .ok (.aload_n 0, 1) := by decide +kernel
theorem dX8_init_27 : decode cX8_init 27 = .ok (.new 9, 3) := by decide +kernel
theorem dX8_init_30 : decode cX8_init 30 = .ok (.dup, 1) := by decide +kernel
theorem dX8_init_31 : decode cX8_init 31 = .ok (.invokespecial 11, 3) := by decide +kernel
theorem dX8_init_34 : decode cX8_init 34 = .ok (.putfield 19, 3) := by decide +kernel
theorem dX8_init_37 : decode cX8_init 37 = .ok (.aload_n 0, 1) := by decide +kernel
theorem dX8_init_38 : decode cX8_init 38 = .ok (.new 9, 3) := by decide +kernel
theorem dX8_init_41 : decode cX8_init 41 = .ok (.dup, 1) := by decide +kernel
theorem dX8_init_42 : decode cX8_init 42 = .ok (.invokespecial 11, 3) := by decide +kernel
theorem dX8_init_45 : decode cX8_init 45 = .ok (.putfield 22, 3) := by decide +kernel
theorem dX8_init_48 : decode cX8_init 48 = .ok (.aload_n 0, 1) := by decide +kernel
theorem dX8_init_49 : decode cX8_init 49 = .ok (.new 9, 3) := by decide +kernel
theorem dX8_init_52 : decode cX8_init 52 = .ok (.dup, 1) := by decide +kernel
theorem dX8_init_53 : decode cX8_init 53 = .ok (.invokespecial 11, 3) := by decide +kernel
theorem dX8_init_56 : decode cX8_init 56 = .ok (.putfield 25, 3) := by decide +kernel
theorem dX8_init_59 : decode cX8_init 59 = .ok (.aload_n 0, 1) := by decide +kernel
theorem dX8_init_60 : decode cX8_init 60 = .ok (.new 9, 3) := by decide +kernel
theorem dX8_init_63 : decode cX8_init 63 = .ok (.dup, 1) := by decide +kernel
theorem dX8_init_64 : decode cX8_init 64 = .ok (.invokespecial 11, 3) := by decide +kernel
theorem dX8_init_67 : decode cX8_init 67 = .ok (.putfield 28, 3) := by decide +kernel
theorem dX8_init_70 : decode cX8_init 70 = .ok (.aload_n 0, 1) := by decide +kernel
theorem dX8_init_71 : decode cX8_init 71 = .ok (.bipush 12, 2) := by decide +kernel
theorem dX8_init_73 : decode cX8_init 73 = .ok (.newarray .int, 2) := by decide +kernel
theorem dX8_init_75 : decode cX8_init 75 = .ok (.putfield 31, 3) := by decide +kernel
theorem dX8_init_78 : decode cX8_init 78 = .ok (.aload_n 0, 1) := by decide +kernel
theorem dX8_init_79 : decode cX8_init 79 = .ok (.iconst 4, 1) := by decide +kernel
theorem dX8_init_80 : decode cX8_init 80 = .ok (.newarray .int, 2) := by decide +kernel
theorem dX8_init_82 : decode cX8_init 82 = .ok (.putfield 35, 3) := by decide +kernel
theorem dX8_init_85 : decode cX8_init 85 = .ok (.aload_n 0, 1) := by decide +kernel
theorem dX8_init_86 : decode cX8_init 86 = .ok (.iconst 4, 1) := by decide +kernel
theorem dX8_init_87 : decode cX8_init 87 = .ok (.newarray .int, 2) := by decide +kernel
theorem dX8_init_89 : decode cX8_init 89 = .ok (.putfield 38, 3) := by decide +kernel
theorem dX8_init_92 : decode cX8_init 92 = .ok (.aload_n 0, 1) := by decide +kernel
theorem dX8_init_93 : decode cX8_init 93 = .ok (.new 41, 3) := by decide +kernel
theorem dX8_init_96 : decode cX8_init 96 = .ok (.dup, 1) := by decide +kernel
theorem dX8_init_97 : decode cX8_init 97 = .ok (.invokespecial 43, 3) := by decide +kernel
theorem dX8_init_100 : decode cX8_init 100 = .ok (.putfield 44, 3) := by decide +kernel
theorem dX8_init_103 : decode cX8_init 103 = .ok (.aload_n 0, 1) := by decide +kernel
theorem dX8_init_104 : decode cX8_init 104 = .ok (.new 48, 3) := by decide +kernel
theorem dX8_init_107 : decode cX8_init 107 = .ok (.dup, 1) := by decide +kernel
theorem dX8_init_108 : decode cX8_init 108 = .ok (.invokespecial 50, 3) := by decide +kernel
theorem dX8_init_111 : decode cX8_init 111 = .ok (.putfield 51, 3) := by decide +kernel
theorem dX8_init_114 : decode cX8_init 114 = .ok (.iconst 0, 1) := by decide +kernel
theorem dX8_init_115 : decode cX8_init 115 = .ok (.istore_n 1, 1) := by decide +kernel
theorem dX8_init_116 : decode cX8_init 116 = .ok (.iload_n 1, 1) := by decide +kernel
theorem dX8_init_117 : decode cX8_init 117 = .ok (.iconst 4, 1) := by decide +kernel
theorem dX8_init_118 : decode cX8_init 118 = .ok (.if_icmp .ge 24, 3) := by decide +kernel
theorem dX8_init_121 : decode cX8_init 121 = .ok (.aload_n 0, 1) := by decide +kernel
theorem dX8_init_122 : decode cX8_init 122 = .ok (.getfield 22, 3) := by decide +kernel
theorem dX8_init_125 : decode cX8_init 125 = .ok (.new 55, 3) := by decide +kernel
theorem dX8_init_128 : decode cX8_init 128 = .ok (.dup, 1) := by decide +kernel
theorem dX8_init_129 : decode cX8_init 129 = .ok (.invokespecial 57, 3) := by decide +kernel
theorem dX8_init_132 : decode cX8_init 132 = .ok (.invokevirtual 58, 3) := by decide +kernel
theorem dX8_init_135 : decode cX8_init 135 = .ok (.pop, 1) := by decide +kernel
theorem dX8_init_136 : decode cX8_init 136 = .ok (.iinc 1 1, 3) := by decide +kernel
theorem dX8_init_139 : decode cX8_init 139 = .ok (.goto (-23), 3) := by decide +kernel
theorem dX8_init_142 : decode cX8_init 142 = .ok (.return_, 1) := by decide +kernel
theorem dX8_program_0 : decode cX8_program 0 = .ok (.aload_n 0, 1) := by decide +kernel
theorem dX8_program_1 : decode cX8_program 1 = .ok (.getfield 44, 3) := by decide +kernel
theorem dX8_program_4 : decode cX8_program 4 = .ok (.getfield 62, 3) := by decide +kernel
theorem dX8_program_7 : decode cX8_program 7 = .ok (.invokevirtual 65, 3) := by decide +kernel
theorem dX8_program_10 : decode cX8_program 10 = .ok (.bipush 6, 2) := by decide +kernel
theorem dX8_program_12 : decode cX8_program 12 = .ok (.if_icmp .lt 13, 3) := by decide +kernel
theorem dX8_program_15 : decode cX8_program 15 = .ok (.new 69, 3) := by decide +kernel
theorem dX8_program_18 : decode cX8_program 18 = .ok (.dup, 1) := by decide +kernel
theorem dX8_program_19 : decode cX8_program 19 = .ok (.ldc 71, 2) := by decide +kernel
theorem dX8_program_21 : decode cX8_program 21 = .ok (.invokespecial 73, 3) := by decide +kernel
theorem dX8_program_24 : decode cX8_program 24 = .ok (.athrow, 1) := by decide +kernel
theorem dX8_program_25 : decode cX8_program 25 = .ok (.aload_n 0, 1) := by decide +kernel
theorem dX8_program_26 : decode cX8_program 26 = .ok (.getfield 44, 3) := by decide +kernel
theorem dX8_program_29 : decode cX8_program 29 = .ok (.getfield 62, 3) := by decide +kernel
theorem dX8_program_32 : decode cX8_program 32 = .ok (.new 76, 3) := by decide +kernel
theorem dX8_program_35 : decode cX8_program 35 = .ok (.dup, 1) := by decide +kernel
theorem dX8_program_36 : decode cX8_program 36 = .ok (.invokespecial 78, 3) := by decide +kernel
theorem dX8_program_39 : decode cX8_program 39 = .ok (.invokevirtual 58, 3) := by decide +kernel
theorem dX8_program_42 : decode cX8_program 42 = .ok (.pop, 1) := by decide +kernel
theorem dX8_program_43 : decode cX8_program 43 = .ok (.aload_n 0, 1) := by decide +kernel
theorem dX8_program_44 : decode cX8_program 44 = .ok (.getfield 44, 3) := by decide +kernel
theorem dX8_program_47 : decode cX8_program 47 = .ok (.getfield 62, 3) := by decide +kernel
theorem dX8_program_50 : decode cX8_program 50 = .ok (.invokevirtual 65, 3) := by decide +kernel
theorem dX8_program_53 : decode cX8_program 53 = .ok (.iconst 1, 1) := by decide +kernel
theorem dX8_program_54 : decode cX8_program 54 = .ok (.isub, 1) := by decide +kernel
theorem dX8_program_55 : decode cX8_program 55 = .ok (.ireturn, 1) := by decide +kernel
theorem dX8_block_0 : decode cX8_block 0 = .ok (.aload_n 0, 1) := by decide +kernel
theorem dX8_block_1 : decode cX8_block 1 = .ok (.iload_n 1, 1) := by decide +kernel
theorem dX8_block_2 : decode cX8_block 2 = .ok (.invokevirtual 79, 3) := by decide +kernel
theorem dX8_block_5 : decode cX8_block 5 = .ok (.astore 4, 2) := by decide +kernel
theorem dX8_block_7 : decode cX8_block 7 = .ok (.iload_n 1, 1) := by decide +kernel
theorem dX8_block_8 : decode cX8_block 8 = .ok (.iload_n 2, 1) := by decide +kernel
theorem dX8_block_9 : decode cX8_block 9 = .ok (.iload_n 3, 1) := by decide +kernel
theorem dX8_block_10 : decode cX8_block 10 = .ok (.invokestatic 83, 3) := by decide +kernel
theorem dX8_block_13 : decode cX8_block 13 = .ok (.ifCond .ne 13, 3) := by decide +kernel
theorem dX8_block_16 : decode cX8_block 16 = .ok (.new 87, 3) := by decide +kernel
theorem dX8_block_19 : decode cX8_block 19 = .ok (.dup, 1) := by decide +kernel
theorem dX8_block_20 : decode cX8_block 20 = .ok (.ldc 89, 2) := by decide +kernel
theorem dX8_block_22 : decode cX8_block 22 = .ok (.invokespecial 91, 3) := by decide +kernel
theorem dX8_block_25 : decode cX8_block 25 = .ok (.athrow, 1) := by decide +kernel
theorem dX8_block_26 : decode cX8_block 26 = .ok (.aload 4, 2) := by decide +kernel
theorem dX8_block_28 : decode cX8_block 28 = .ok (.getfield 92, 3) := by decide +kernel
theorem dX8_block_31 : decode cX8_block 31 = .ok (.bipush 30, 2) := by decide +kernel
theorem dX8_block_33 : decode cX8_block 33 = .ok (.if_icmp .ge 13, 3) := by decide +kernel
theorem dX8_block_36 : decode cX8_block 36 = .ok (.aload_n 0, 1) := by decide +kernel
theorem dX8_block_37 : decode cX8_block 37 = .ok (.getfield 19, 3) := by decide +kernel
theorem dX8_block_40 : decode cX8_block 40 = .ok (.invokevirtual 95, 3) := by decide +kernel
theorem dX8_block_43 : decode cX8_block 43 = .ok (.ifCond .ne 13, 3) := by decide +kernel
theorem dX8_block_46 : decode cX8_block 46 = .ok (.new 69, 3) := by decide +kernel
theorem dX8_block_49 : decode cX8_block 49 = .ok (.dup, 1) := by decide +kernel
theorem dX8_block_50 : decode cX8_block 50 = .ok (.ldc 99, 2) := by decide +kernel
theorem dX8_block_52 : decode cX8_block 52 = .ok (.invokespecial 73, 3) := by decide +kernel
theorem dX8_block_55 : decode cX8_block 55 = .ok (.athrow, 1) := by decide +kernel
theorem dX8_block_56 : decode cX8_block 56 = .ok (.aload 4, 2) := by decide +kernel
theorem dX8_block_58 : decode cX8_block 58 = .ok (.iload_n 2, 1) := by decide +kernel
theorem dX8_block_59 : decode cX8_block 59 = .ok (.iload_n 3, 1) := by decide +kernel
theorem dX8_block_60 : decode cX8_block 60 = .ok (.invokevirtual 101, 3) := by decide +kernel
theorem dX8_block_63 : decode cX8_block 63 = .ok (.aload 4, 2) := by decide +kernel
theorem dX8_block_65 : decode cX8_block 65 = .ok (.getfield 92, 3) := by decide +kernel
theorem dX8_block_68 : decode cX8_block 68 = .ok (.ireturn, 1) := by decide +kernel
theorem dX8_map_0 : decode cX8_map 0 = .ok (.iload_n 1, 1) := by decide +kernel
theorem dX8_map_1 : decode cX8_map 1 = .ok (.iconst 0, 1) := by decide +kernel
theorem dX8_map_2 : decode cX8_map 2 = .ok (.bipush 11, 2) := by decide +kernel
theorem dX8_map_4 : decode cX8_map 4 = .ok (.invokestatic 105, 3) := by decide +kernel
theorem dX8_map_7 : decode cX8_map 7 = .ok (.ifCond .eq 14, 3) := by decide +kernel
theorem dX8_map_10 : decode cX8_map 10 = .ok (.iload_n 2, 1) := by decide +kernel
theorem dX8_map_11 : decode cX8_map 11 = .ok (.bipush (-50), 2) := by decide +kernel
theorem dX8_map_13 : decode cX8_map 13 = .ok (.bipush 50, 2) := by decide +kernel
theorem dX8_map_15 : decode cX8_map 15 = .ok (.invokestatic 105, 3) := by decide +kernel
theorem dX8_map_18 : decode cX8_map 18 = .ok (.ifCond .ne 13, 3) := by decide +kernel
theorem dX8_map_21 : decode cX8_map 21 = .ok (.new 87, 3) := by decide +kernel
theorem dX8_map_24 : decode cX8_map 24 = .ok (.dup, 1) := by decide +kernel
theorem dX8_map_25 : decode cX8_map 25 = .ok (.ldc 108, 2) := by decide +kernel
theorem dX8_map_27 : decode cX8_map 27 = .ok (.invokespecial 91, 3) := by decide +kernel
theorem dX8_map_30 : decode cX8_map 30 = .ok (.athrow, 1) := by decide +kernel
theorem dX8_map_31 : decode cX8_map 31 = .ok (.aload_n 0, 1) := by decide +kernel
theorem dX8_map_32 : decode cX8_map 32 = .ok (.getfield 31, 3) := by decide +kernel
theorem dX8_map_35 : decode cX8_map 35 = .ok (.iload_n 1, 1) := by decide +kernel
theorem dX8_map_36 : decode cX8_map 36 = .ok (.iaload, 1) := by decide +kernel
theorem dX8_map_37 : decode cX8_map 37 = .ok (.istore_n 3, 1) := by decide +kernel
theorem dX8_map_38 : decode cX8_map 38 = .ok (.aload_n 0, 1) := by decide +kernel
theorem dX8_map_39 : decode cX8_map 39 = .ok (.getfield 31, 3) := by decide +kernel
theorem dX8_map_42 : decode cX8_map 42 = .ok (.iload_n 1, 1) := by decide +kernel
theorem dX8_map_43 : decode cX8_map 43 = .ok (.iload_n 2, 1) := by decide +kernel
theorem dX8_map_44 : decode cX8_map 44 = .ok (.iastore, 1) := by decide +kernel
theorem dX8_map_45 : decode cX8_map 45 = .ok (.iload_n 3, 1) := by decide +kernel
theorem dX8_map_46 : decode cX8_map 46 = .ok (.ireturn, 1) := by decide +kernel
theorem dX8_tool_0 : decode cX8_tool 0 = .ok (.iload_n 1, 1) := by decide +kernel
theorem dX8_tool_1 : decode cX8_tool 1 = .ok (.iconst 0, 1) := by decide +kernel
theorem dX8_tool_2 : decode cX8_tool 2 = .ok (.iconst 3, 1) := by decide +kernel
theorem dX8_tool_3 : decode cX8_tool 3 = .ok (.invokestatic 105, 3) := by decide +kernel
theorem dX8_tool_6 : decode cX8_tool 6 = .ok (.ifCond .eq 14, 3) := by decide +kernel
theorem dX8_tool_9 : decode cX8_tool 9 = .ok (.iload_n 2, 1) := by decide +kernel
theorem dX8_tool_10 : decode cX8_tool 10 = .ok (.iconst 1, 1) := by decide +kernel
theorem dX8_tool_11 : decode cX8_tool 11 = .ok (.sipush 500, 3) := by decide +kernel
theorem dX8_tool_14 : decode cX8_tool 14 = .ok (.invokestatic 105, 3) := by decide +kernel
theorem dX8_tool_17 : decode cX8_tool 17 = .ok (.ifCond .ne 13, 3) := by decide +kernel
theorem dX8_tool_20 : decode cX8_tool 20 = .ok (.new 87, 3) := by decide +kernel
theorem dX8_tool_23 : decode cX8_tool 23 = .ok (.dup, 1) := by decide +kernel
theorem dX8_tool_24 : decode cX8_tool 24 = .ok (.ldc 110, 2) := by decide +kernel
theorem dX8_tool_26 : decode cX8_tool 26 = .ok (.invokespecial 91, 3) := by decide +kernel
theorem dX8_tool_29 : decode cX8_tool 29 = .ok (.athrow, 1) := by decide +kernel
theorem dX8_tool_30 : decode cX8_tool 30 = .ok (.aload_n 0, 1) := by decide +kernel
theorem dX8_tool_31 : decode cX8_tool 31 = .ok (.getfield 12, 3) := by decide +kernel
theorem dX8_tool_34 : decode cX8_tool 34 = .ok (.invokevirtual 65, 3) := by decide +kernel
theorem dX8_tool_37 : decode cX8_tool 37 = .ok (.bipush 16, 2) := by decide +kernel
theorem dX8_tool_39 : decode cX8_tool 39 = .ok (.if_icmp .lt 13, 3) := by decide +kernel
theorem dX8_tool_42 : decode cX8_tool 42 = .ok (.new 69, 3) := by decide +kernel
theorem dX8_tool_45 : decode cX8_tool 45 = .ok (.dup, 1) := by decide +kernel
theorem dX8_tool_46 : decode cX8_tool 46 = .ok (.ldc 112, 2) := by decide +kernel
theorem dX8_tool_48 : decode cX8_tool 48 = .ok (.invokespecial 73, 3) := by decide +kernel
theorem dX8_tool_51 : decode cX8_tool 51 = .ok (.athrow, 1) := by decide +kernel
theorem dX8_tool_52 : decode cX8_tool 52 = .ok (.aload_n 0, 1) := by decide +kernel
theorem dX8_tool_53 : decode cX8_tool 53 = .ok (.getfield 12, 3) := by decide +kernel
theorem dX8_tool_56 : decode cX8_tool 56 = .ok (.new 114, 3) := by decide +kernel
theorem dX8_tool_59 : decode cX8_tool 59 = .ok (.dup, 1) := by decide +kernel
theorem dX8_tool_60 : decode cX8_tool 60 = .ok (.aload_n 0, 1) := by decide +kernel
theorem dX8_tool_61 : decode cX8_tool 61 = .ok (.getfield 12, 3) := by decide +kernel
theorem dX8_tool_64 : decode cX8_tool 64 = .ok (.invokevirtual 65, 3) := by decide +kernel
theorem dX8_tool_67 : decode cX8_tool 67 = .ok (.iload_n 1, 1) := by decide +kernel
theorem dX8_tool_68 : decode cX8_tool 68 = .ok (.iload_n 2, 1) := by decide +kernel
theorem dX8_tool_69 : decode cX8_tool 69 = .ok (.invokespecial 116, 3) := by decide +kernel
theorem dX8_tool_72 : decode cX8_tool 72 = .ok (.invokevirtual 58, 3) := by decide +kernel
theorem dX8_tool_75 : decode cX8_tool 75 = .ok (.pop, 1) := by decide +kernel
theorem dX8_tool_76 : decode cX8_tool 76 = .ok (.aload_n 0, 1) := by decide +kernel
theorem dX8_tool_77 : decode cX8_tool 77 = .ok (.getfield 12, 3) := by decide +kernel
theorem dX8_tool_80 : decode cX8_tool 80 = .ok (.invokevirtual 65, 3) := by decide +kernel
theorem dX8_tool_83 : decode cX8_tool 83 = .ok (.iconst 1, 1) := by decide +kernel
theorem dX8_tool_84 : decode cX8_tool 84 = .ok (.isub, 1) := by decide +kernel
theorem dX8_tool_85 : decode cX8_tool 85 = .ok (.ireturn, 1) := by decide +kernel
theorem dX8_load_0 : decode cX8_load 0 = .ok (.aload_n 0, 1) := by decide +kernel
theorem dX8_load_1 : decode cX8_load 1 = .ok (.iload_n 1, 1) := by decide +kernel
theorem dX8_load_2 : decode cX8_load 2 = .ok (.invokevirtual 119, 3) := by decide +kernel
theorem dX8_load_5 : decode cX8_load 5 = .ok (.astore_n 3, 1) := by decide +kernel
theorem dX8_load_6 : decode cX8_load 6 = .ok (.iload_n 2, 1) := by decide +kernel
theorem dX8_load_7 : decode cX8_load 7 = .ok (.ifCond .eq 29, 3) := by decide +kernel
theorem dX8_load_10 : decode cX8_load 10 = .ok (.aload_n 3, 1) := by decide +kernel
theorem dX8_load_11 : decode cX8_load 11 = .ok (.getfield 123, 3) := by decide +kernel
theorem dX8_load_14 : decode cX8_load 14 = .ok (.ifCond .ne 22, 3) := by decide +kernel
theorem dX8_load_17 : decode cX8_load 17 = .ok (.aload_n 0, 1) := by decide +kernel
theorem dX8_load_18 : decode cX8_load 18 = .ok (.invokevirtual 127, 3) := by decide +kernel
theorem dX8_load_21 : decode cX8_load 21 = .ok (.bipush 6, 2) := by decide +kernel
theorem dX8_load_23 : decode cX8_load 23 = .ok (.if_icmp .lt 13, 3) := by decide +kernel
theorem dX8_load_26 : decode cX8_load 26 = .ok (.new 69, 3) := by decide +kernel
theorem dX8_load_29 : decode cX8_load 29 = .ok (.dup, 1) := by decide +kernel
theorem dX8_load_30 : decode cX8_load 30 = .ok (.ldc 130, 2) := by decide +kernel
theorem dX8_load_32 : decode cX8_load 32 = .ok (.invokespecial 73, 3) := by decide +kernel
theorem dX8_load_35 : decode cX8_load 35 = .ok (.athrow, 1) := by decide +kernel
theorem dX8_load_36 : decode cX8_load 36 = .ok (.aload_n 3, 1) := by decide +kernel
theorem dX8_load_37 : decode cX8_load 37 = .ok (.iload_n 2, 1) := by decide +kernel
theorem dX8_load_38 : decode cX8_load 38 = .ok (.putfield 123, 3) := by decide +kernel
theorem dX8_load_41 : decode cX8_load 41 = .ok (.aload_n 0, 1) := by decide +kernel
theorem dX8_load_42 : decode cX8_load 42 = .ok (.invokevirtual 127, 3) := by decide +kernel
theorem dX8_load_45 : decode cX8_load 45 = .ok (.ireturn, 1) := by decide +kernel
theorem dX8_pallet_0 : decode cX8_pallet 0 = .ok (.iload_n 1, 1) := by decide +kernel
theorem dX8_pallet_1 : decode cX8_pallet 1 = .ok (.iconst 1, 1) := by decide +kernel
theorem dX8_pallet_2 : decode cX8_pallet 2 = .ok (.bipush 9, 2) := by decide +kernel
theorem dX8_pallet_4 : decode cX8_pallet 4 = .ok (.invokestatic 105, 3) := by decide +kernel
theorem dX8_pallet_7 : decode cX8_pallet 7 = .ok (.ifCond .ne 13, 3) := by decide +kernel
theorem dX8_pallet_10 : decode cX8_pallet 10 = .ok (.new 87, 3) := by decide +kernel
theorem dX8_pallet_13 : decode cX8_pallet 13 = .ok (.dup, 1) := by decide +kernel
theorem dX8_pallet_14 : decode cX8_pallet 14 = .ok (.ldc 132, 2) := by decide +kernel
theorem dX8_pallet_16 : decode cX8_pallet 16 = .ok (.invokespecial 91, 3) := by decide +kernel
theorem dX8_pallet_19 : decode cX8_pallet 19 = .ok (.athrow, 1) := by decide +kernel
theorem dX8_pallet_20 : decode cX8_pallet 20 = .ok (.aload_n 0, 1) := by decide +kernel
theorem dX8_pallet_21 : decode cX8_pallet 21 = .ok (.getfield 16, 3) := by decide +kernel
theorem dX8_pallet_24 : decode cX8_pallet 24 = .ok (.invokevirtual 65, 3) := by decide +kernel
theorem dX8_pallet_27 : decode cX8_pallet 27 = .ok (.bipush 6, 2) := by decide +kernel
theorem dX8_pallet_29 : decode cX8_pallet 29 = .ok (.if_icmp .lt 13, 3) := by decide +kernel
theorem dX8_pallet_32 : decode cX8_pallet 32 = .ok (.new 69, 3) := by decide +kernel
theorem dX8_pallet_35 : decode cX8_pallet 35 = .ok (.dup, 1) := by decide +kernel
theorem dX8_pallet_36 : decode cX8_pallet 36 = .ok (.ldc 134, 2) := by decide +kernel
theorem dX8_pallet_38 : decode cX8_pallet 38 = .ok (.invokespecial 73, 3) := by decide +kernel
theorem dX8_pallet_41 : decode cX8_pallet 41 = .ok (.athrow, 1) := by decide +kernel
theorem dX8_pallet_42 : decode cX8_pallet 42 = .ok (.aload_n 0, 1) := by decide +kernel
theorem dX8_pallet_43 : decode cX8_pallet 43 = .ok (.getfield 16, 3) := by decide +kernel
theorem dX8_pallet_46 : decode cX8_pallet 46 = .ok (.new 136, 3) := by decide +kernel
theorem dX8_pallet_49 : decode cX8_pallet 49 = .ok (.dup, 1) := by decide +kernel
theorem dX8_pallet_50 : decode cX8_pallet 50 = .ok (.iload_n 1, 1) := by decide +kernel
theorem dX8_pallet_51 : decode cX8_pallet 51 = .ok (.invokespecial 138, 3) := by decide +kernel
theorem dX8_pallet_54 : decode cX8_pallet 54 = .ok (.invokevirtual 58, 3) := by decide +kernel
theorem dX8_pallet_57 : decode cX8_pallet 57 = .ok (.pop, 1) := by decide +kernel
theorem dX8_pallet_58 : decode cX8_pallet 58 = .ok (.aload_n 0, 1) := by decide +kernel
theorem dX8_pallet_59 : decode cX8_pallet 59 = .ok (.getfield 16, 3) := by decide +kernel
theorem dX8_pallet_62 : decode cX8_pallet 62 = .ok (.invokevirtual 65, 3) := by decide +kernel
theorem dX8_pallet_65 : decode cX8_pallet 65 = .ok (.iconst 1, 1) := by decide +kernel
theorem dX8_pallet_66 : decode cX8_pallet 66 = .ok (.isub, 1) := by decide +kernel
theorem dX8_pallet_67 : decode cX8_pallet 67 = .ok (.ireturn, 1) := by decide +kernel
theorem dX8_clamp_0 : decode cX8_clamp 0 = .ok (.aload_n 0, 1) := by decide +kernel
theorem dX8_clamp_1 : decode cX8_clamp 1 = .ok (.iload_n 1, 1) := by decide +kernel
theorem dX8_clamp_2 : decode cX8_clamp 2 = .ok (.invokevirtual 141, 3) := by decide +kernel
theorem dX8_clamp_5 : decode cX8_clamp 5 = .ok (.astore 5, 2) := by decide +kernel
theorem dX8_clamp_7 : decode cX8_clamp 7 = .ok (.aload_n 0, 1) := by decide +kernel
theorem dX8_clamp_8 : decode cX8_clamp 8 = .ok (.iload_n 2, 1) := by decide +kernel
theorem dX8_clamp_9 : decode cX8_clamp 9 = .ok (.iload_n 3, 1) := by decide +kernel
theorem dX8_clamp_10 : decode cX8_clamp 10 = .ok (.invokevirtual 145, 3) := by decide +kernel
theorem dX8_clamp_13 : decode cX8_clamp 13 = .ok (.istore 6, 2) := by decide +kernel
theorem dX8_clamp_15 : decode cX8_clamp 15 = .ok (.iload 4, 2) := by decide +kernel
theorem dX8_clamp_17 : decode cX8_clamp 17 = .ok (.iconst 1, 1) := by decide +kernel
theorem dX8_clamp_18 : decode cX8_clamp 18 = .ok (.bipush 9, 2) := by decide +kernel
theorem dX8_clamp_20 : decode cX8_clamp 20 = .ok (.invokestatic 105, 3) := by decide +kernel
theorem dX8_clamp_23 : decode cX8_clamp 23 = .ok (.ifCond .ne 13, 3) := by decide +kernel
theorem dX8_clamp_26 : decode cX8_clamp 26 = .ok (.new 87, 3) := by decide +kernel
theorem dX8_clamp_29 : decode cX8_clamp 29 = .ok (.dup, 1) := by decide +kernel
theorem dX8_clamp_30 : decode cX8_clamp 30 = .ok (.ldc 149, 2) := by decide +kernel
theorem dX8_clamp_32 : decode cX8_clamp 32 = .ok (.invokespecial 91, 3) := by decide +kernel
theorem dX8_clamp_35 : decode cX8_clamp 35 = .ok (.athrow, 1) := by decide +kernel
theorem dX8_clamp_36 : decode cX8_clamp 36 = .ok (.aload 5, 2) := by decide +kernel
theorem dX8_clamp_38 : decode cX8_clamp 38 = .ok (.getfield 151, 3) := by decide +kernel
theorem dX8_clamp_41 : decode cX8_clamp 41 = .ok (.ifCond .ne 23, 3) := by decide +kernel
theorem dX8_clamp_44 : decode cX8_clamp 44 = .ok (.aload 5, 2) := by decide +kernel
theorem dX8_clamp_46 : decode cX8_clamp 46 = .ok (.getfield 154, 3) := by decide +kernel
theorem dX8_clamp_49 : decode cX8_clamp 49 = .ok (.iload 6, 2) := by decide +kernel
theorem dX8_clamp_51 : decode cX8_clamp 51 = .ok (.iaload, 1) := by decide +kernel
theorem dX8_clamp_52 : decode cX8_clamp 52 = .ok (.ifCond .ne 12, 3) := by decide +kernel
theorem dX8_clamp_55 : decode cX8_clamp 55 = .ok (.aload 5, 2) := by decide +kernel
theorem dX8_clamp_57 : decode cX8_clamp 57 = .ok (.getfield 157, 3) := by decide +kernel
theorem dX8_clamp_60 : decode cX8_clamp 60 = .ok (.iconst 3, 1) := by decide +kernel
theorem dX8_clamp_61 : decode cX8_clamp 61 = .ok (.if_icmp .lt 13, 3) := by decide +kernel
theorem dX8_clamp_64 : decode cX8_clamp 64 = .ok (.new 69, 3) := by decide +kernel
theorem dX8_clamp_67 : decode cX8_clamp 67 = .ok (.dup, 1) := by decide +kernel
theorem dX8_clamp_68 : decode cX8_clamp 68 = .ok (.ldc 160, 2) := by decide +kernel
theorem dX8_clamp_70 : decode cX8_clamp 70 = .ok (.invokespecial 73, 3) := by decide +kernel
theorem dX8_clamp_73 : decode cX8_clamp 73 = .ok (.athrow, 1) := by decide +kernel
theorem dX8_clamp_74 : decode cX8_clamp 74 = .ok (.aload 5, 2) := by decide +kernel
theorem dX8_clamp_76 : decode cX8_clamp 76 = .ok (.getfield 154, 3) := by decide +kernel
theorem dX8_clamp_79 : decode cX8_clamp 79 = .ok (.iload 6, 2) := by decide +kernel
theorem dX8_clamp_81 : decode cX8_clamp 81 = .ok (.iload 4, 2) := by decide +kernel
theorem dX8_clamp_83 : decode cX8_clamp 83 = .ok (.iastore, 1) := by decide +kernel
theorem dX8_clamp_84 : decode cX8_clamp 84 = .ok (.aload 5, 2) := by decide +kernel
theorem dX8_clamp_86 : decode cX8_clamp 86 = .ok (.dup, 1) := by decide +kernel
theorem dX8_clamp_87 : decode cX8_clamp 87 = .ok (.getfield 157, 3) := by decide +kernel
theorem dX8_clamp_90 : decode cX8_clamp 90 = .ok (.iconst 1, 1) := by decide +kernel
theorem dX8_clamp_91 : decode cX8_clamp 91 = .ok (.iadd, 1) := by decide +kernel
theorem dX8_clamp_92 : decode cX8_clamp 92 = .ok (.putfield 157, 3) := by decide +kernel
theorem dX8_clamp_95 : decode cX8_clamp 95 = .ok (.aload 5, 2) := by decide +kernel
theorem dX8_clamp_97 : decode cX8_clamp 97 = .ok (.getfield 157, 3) := by decide +kernel
theorem dX8_clamp_100 : decode cX8_clamp 100 = .ok (.ireturn, 1) := by decide +kernel
theorem dX8_prove_0 : decode cX8_prove 0 = .ok (.aload_n 0, 1) := by decide +kernel
theorem dX8_prove_1 : decode cX8_prove 1 = .ok (.iload_n 1, 1) := by decide +kernel
theorem dX8_prove_2 : decode cX8_prove 2 = .ok (.iload_n 2, 1) := by decide +kernel
theorem dX8_prove_3 : decode cX8_prove 3 = .ok (.invokevirtual 162, 3) := by decide +kernel
theorem dX8_prove_6 : decode cX8_prove 6 = .ok (.aload_n 0, 1) := by decide +kernel
theorem dX8_prove_7 : decode cX8_prove 7 = .ok (.getfield 51, 3) := by decide +kernel
theorem dX8_prove_10 : decode cX8_prove 10 = .ok (.getfield 165, 3) := by decide +kernel
theorem dX8_prove_13 : decode cX8_prove 13 = .ok (.ifCond .ne 7, 3) := by decide +kernel
theorem dX8_prove_16 : decode cX8_prove 16 = .ok (.iconst (-1), 1) := by decide +kernel
theorem dX8_prove_17 : decode cX8_prove 17 = .ok (.goto 22, 3) := by decide +kernel
theorem dX8_prove_20 : decode cX8_prove 20 = .ok (.sipush 10000, 3) := by decide +kernel
theorem dX8_prove_23 : decode cX8_prove 23 = .ok (.aload_n 0, 1) := by decide +kernel
theorem dX8_prove_24 : decode cX8_prove 24 = .ok (.getfield 51, 3) := by decide +kernel
theorem dX8_prove_27 : decode cX8_prove 27 = .ok (.getfield 165, 3) := by decide +kernel
theorem dX8_prove_30 : decode cX8_prove 30 = .ok (.imul, 1) := by decide +kernel
theorem dX8_prove_31 : decode cX8_prove 31 = .ok (.aload_n 0, 1) := by decide +kernel
theorem dX8_prove_32 : decode cX8_prove 32 = .ok (.getfield 51, 3) := by decide +kernel
theorem dX8_prove_35 : decode cX8_prove 35 = .ok (.getfield 168, 3) := by decide +kernel
theorem dX8_prove_38 : decode cX8_prove 38 = .ok (.iadd, 1) := by decide +kernel
theorem dX8_prove_39 : decode cX8_prove 39 = .ok (.ireturn, 1) := by decide +kernel
theorem dX8_takes_0 : decode cX8_takes 0 = .ok (.aload_n 0, 1) := by decide +kernel
theorem dX8_takes_1 : decode cX8_takes 1 = .ok (.iload_n 1, 1) := by decide +kernel
theorem dX8_takes_2 : decode cX8_takes 2 = .ok (.iload_n 2, 1) := by decide +kernel
theorem dX8_takes_3 : decode cX8_takes 3 = .ok (.invokevirtual 162, 3) := by decide +kernel
theorem dX8_takes_6 : decode cX8_takes 6 = .ok (.aload_n 0, 1) := by decide +kernel
theorem dX8_takes_7 : decode cX8_takes 7 = .ok (.getfield 51, 3) := by decide +kernel
theorem dX8_takes_10 : decode cX8_takes 10 = .ok (.getfield 165, 3) := by decide +kernel
theorem dX8_takes_13 : decode cX8_takes 13 = .ok (.ifCond .ne 13, 3) := by decide +kernel
theorem dX8_takes_16 : decode cX8_takes 16 = .ok (.aload_n 0, 1) := by decide +kernel
theorem dX8_takes_17 : decode cX8_takes 17 = .ok (.getfield 51, 3) := by decide +kernel
theorem dX8_takes_20 : decode cX8_takes 20 = .ok (.getfield 171, 3) := by decide +kernel
theorem dX8_takes_23 : decode cX8_takes 23 = .ok (.goto 4, 3) := by decide +kernel
theorem dX8_takes_26 : decode cX8_takes 26 = .ok (.iconst (-1), 1) := by decide +kernel
theorem dX8_takes_27 : decode cX8_takes 27 = .ok (.ireturn, 1) := by decide +kernel
theorem dX8_plan_0 : decode cX8_plan 0 = .ok (.aload_n 0, 1) := by decide +kernel
theorem dX8_plan_1 : decode cX8_plan 1 = .ok (.iload_n 1, 1) := by decide +kernel
theorem dX8_plan_2 : decode cX8_plan 2 = .ok (.invokevirtual 141, 3) := by decide +kernel
theorem dX8_plan_5 : decode cX8_plan 5 = .ok (.astore_n 3, 1) := by decide +kernel
theorem dX8_plan_6 : decode cX8_plan 6 = .ok (.aload_n 0, 1) := by decide +kernel
theorem dX8_plan_7 : decode cX8_plan 7 = .ok (.iload_n 1, 1) := by decide +kernel
theorem dX8_plan_8 : decode cX8_plan 8 = .ok (.iload_n 2, 1) := by decide +kernel
theorem dX8_plan_9 : decode cX8_plan 9 = .ok (.invokevirtual 162, 3) := by decide +kernel
theorem dX8_plan_12 : decode cX8_plan 12 = .ok (.aload_n 3, 1) := by decide +kernel
theorem dX8_plan_13 : decode cX8_plan 13 = .ok (.getfield 151, 3) := by decide +kernel
theorem dX8_plan_16 : decode cX8_plan 16 = .ok (.ifCond .ne 13, 3) := by decide +kernel
theorem dX8_plan_19 : decode cX8_plan 19 = .ok (.aload_n 0, 1) := by decide +kernel
theorem dX8_plan_20 : decode cX8_plan 20 = .ok (.getfield 51, 3) := by decide +kernel
theorem dX8_plan_23 : decode cX8_plan 23 = .ok (.getfield 165, 3) := by decide +kernel
theorem dX8_plan_26 : decode cX8_plan 26 = .ok (.ifCond .eq 13, 3) := by decide +kernel
theorem dX8_plan_29 : decode cX8_plan 29 = .ok (.new 69, 3) := by decide +kernel
theorem dX8_plan_32 : decode cX8_plan 32 = .ok (.dup, 1) := by decide +kernel
theorem dX8_plan_33 : decode cX8_plan 33 = .ok (.ldc 174, 2) := by decide +kernel
theorem dX8_plan_35 : decode cX8_plan 35 = .ok (.invokespecial 73, 3) := by decide +kernel
theorem dX8_plan_38 : decode cX8_plan 38 = .ok (.athrow, 1) := by decide +kernel
theorem dX8_plan_39 : decode cX8_plan 39 = .ok (.aload_n 3, 1) := by decide +kernel
theorem dX8_plan_40 : decode cX8_plan 40 = .ok (.iconst 1, 1) := by decide +kernel
theorem dX8_plan_41 : decode cX8_plan 41 = .ok (.putfield 151, 3) := by decide +kernel
theorem dX8_plan_44 : decode cX8_plan 44 = .ok (.aload_n 3, 1) := by decide +kernel
theorem dX8_plan_45 : decode cX8_plan 45 = .ok (.iload_n 2, 1) := by decide +kernel
theorem dX8_plan_46 : decode cX8_plan 46 = .ok (.putfield 176, 3) := by decide +kernel
theorem dX8_plan_49 : decode cX8_plan 49 = .ok (.aload_n 0, 1) := by decide +kernel
theorem dX8_plan_50 : decode cX8_plan 50 = .ok (.getfield 19, 3) := by decide +kernel
theorem dX8_plan_53 : decode cX8_plan 53 = .ok (.aload_n 3, 1) := by decide +kernel
theorem dX8_plan_54 : decode cX8_plan 54 = .ok (.invokevirtual 58, 3) := by decide +kernel
theorem dX8_plan_57 : decode cX8_plan 57 = .ok (.pop, 1) := by decide +kernel
theorem dX8_plan_58 : decode cX8_plan 58 = .ok (.aload_n 0, 1) := by decide +kernel
theorem dX8_plan_59 : decode cX8_plan 59 = .ok (.getfield 19, 3) := by decide +kernel
theorem dX8_plan_62 : decode cX8_plan 62 = .ok (.invokevirtual 65, 3) := by decide +kernel
theorem dX8_plan_65 : decode cX8_plan 65 = .ok (.ireturn, 1) := by decide +kernel
theorem dX8_night_0 : decode cX8_night 0 = .ok (.iconst 0, 1) := by decide +kernel
theorem dX8_night_1 : decode cX8_night 1 = .ok (.istore_n 1, 1) := by decide +kernel
theorem dX8_night_2 : decode cX8_night 2 = .ok (.iconst 0, 1) := by decide +kernel
theorem dX8_night_3 : decode cX8_night 3 = .ok (.istore_n 2, 1) := by decide +kernel
theorem dX8_night_4 : decode cX8_night 4 = .ok (.iload_n 2, 1) := by decide +kernel
theorem dX8_night_5 : decode cX8_night 5 = .ok (.bipush 6, 2) := by decide +kernel
theorem dX8_night_7 : decode cX8_night 7 = .ok (.if_icmp .ge 59, 3) := by decide +kernel
theorem dX8_night_10 : decode cX8_night 10 = .ok (.aload_n 0, 1) := by decide +kernel
theorem dX8_night_11 : decode cX8_night 11 = .ok (.getfield 19, 3) := by decide +kernel
theorem dX8_night_14 : decode cX8_night 14 = .ok (.invokevirtual 95, 3) := by decide +kernel
theorem dX8_night_17 : decode cX8_night 17 = .ok (.ifCond .ne 49, 3) := by decide +kernel
theorem dX8_night_20 : decode cX8_night 20 = .ok (.aload_n 0, 1) := by decide +kernel
theorem dX8_night_21 : decode cX8_night 21 = .ok (.getfield 19, 3) := by decide +kernel
theorem dX8_night_24 : decode cX8_night 24 = .ok (.iconst 0, 1) := by decide +kernel
theorem dX8_night_25 : decode cX8_night 25 = .ok (.invokevirtual 179, 3) := by decide +kernel
theorem dX8_night_28 : decode cX8_night 28 = .ok (.checkcast 136, 3) := by decide +kernel
theorem dX8_night_31 : decode cX8_night 31 = .ok (.astore_n 3, 1) := by decide +kernel
theorem dX8_night_32 : decode cX8_night 32 = .ok (.aload_n 0, 1) := by decide +kernel
theorem dX8_night_33 : decode cX8_night 33 = .ok (.aload_n 3, 1) := by decide +kernel
theorem dX8_night_34 : decode cX8_night 34 = .ok (.invokevirtual 183, 3) := by decide +kernel
theorem dX8_night_37 : decode cX8_night 37 = .ok (.ifCond .ne 6, 3) := by decide +kernel
theorem dX8_night_40 : decode cX8_night 40 = .ok (.goto 26, 3) := by decide +kernel
theorem dX8_night_43 : decode cX8_night 43 = .ok (.aload_n 3, 1) := by decide +kernel
theorem dX8_night_44 : decode cX8_night 44 = .ok (.iconst 2, 1) := by decide +kernel
theorem dX8_night_45 : decode cX8_night 45 = .ok (.putfield 151, 3) := by decide +kernel
theorem dX8_night_48 : decode cX8_night 48 = .ok (.aload_n 0, 1) := by decide +kernel
theorem dX8_night_49 : decode cX8_night 49 = .ok (.getfield 19, 3) := by decide +kernel
theorem dX8_night_52 : decode cX8_night 52 = .ok (.iconst 0, 1) := by decide +kernel
theorem dX8_night_53 : decode cX8_night 53 = .ok (.invokevirtual 187, 3) := by decide +kernel
theorem dX8_night_56 : decode cX8_night 56 = .ok (.pop, 1) := by decide +kernel
theorem dX8_night_57 : decode cX8_night 57 = .ok (.iinc 1 1, 3) := by decide +kernel
theorem dX8_night_60 : decode cX8_night 60 = .ok (.iinc 2 1, 3) := by decide +kernel
theorem dX8_night_63 : decode cX8_night 63 = .ok (.goto (-59), 3) := by decide +kernel
theorem dX8_night_66 : decode cX8_night 66 = .ok (.iload_n 1, 1) := by decide +kernel
theorem dX8_night_67 : decode cX8_night 67 = .ok (.ireturn, 1) := by decide +kernel
theorem dX8_foresees_0 : decode cX8_foresees 0 = .ok (.iconst 0, 1) := by decide +kernel
theorem dX8_foresees_1 : decode cX8_foresees 1 = .ok (.istore_n 1, 1) := by decide +kernel
theorem dX8_foresees_2 : decode cX8_foresees 2 = .ok (.iload_n 1, 1) := by decide +kernel
theorem dX8_foresees_3 : decode cX8_foresees 3 = .ok (.iconst 4, 1) := by decide +kernel
theorem dX8_foresees_4 : decode cX8_foresees 4 = .ok (.if_icmp .ge 20, 3) := by decide +kernel
theorem dX8_foresees_7 : decode cX8_foresees 7 = .ok (.aload_n 0, 1) := by decide +kernel
theorem dX8_foresees_8 : decode cX8_foresees 8 = .ok (.getfield 38, 3) := by decide +kernel
theorem dX8_foresees_11 : decode cX8_foresees 11 = .ok (.iload_n 1, 1) := by decide +kernel
theorem dX8_foresees_12 : decode cX8_foresees 12 = .ok (.aload_n 0, 1) := by decide +kernel
theorem dX8_foresees_13 : decode cX8_foresees 13 = .ok (.iload_n 1, 1) := by decide +kernel
theorem dX8_foresees_14 : decode cX8_foresees 14 = .ok (.invokevirtual 190, 3) := by decide +kernel
theorem dX8_foresees_17 : decode cX8_foresees 17 = .ok (.iastore, 1) := by decide +kernel
theorem dX8_foresees_18 : decode cX8_foresees 18 = .ok (.iinc 1 1, 3) := by decide +kernel
theorem dX8_foresees_21 : decode cX8_foresees 21 = .ok (.goto (-19), 3) := by decide +kernel
theorem dX8_foresees_24 : decode cX8_foresees 24 = .ok (.iconst 0, 1) := by decide +kernel
theorem dX8_foresees_25 : decode cX8_foresees 25 = .ok (.istore_n 1, 1) := by decide +kernel
theorem dX8_foresees_26 : decode cX8_foresees 26 = .ok (.iload_n 1, 1) := by decide +kernel
theorem dX8_foresees_27 : decode cX8_foresees 27 = .ok (.aload_n 0, 1) := by decide +kernel
theorem dX8_foresees_28 : decode cX8_foresees 28 = .ok (.getfield 19, 3) := by decide +kernel
theorem dX8_foresees_31 : decode cX8_foresees 31 = .ok (.invokevirtual 65, 3) := by decide +kernel
theorem dX8_foresees_34 : decode cX8_foresees 34 = .ok (.if_icmp .ge 29, 3) := by decide +kernel
theorem dX8_foresees_37 : decode cX8_foresees 37 = .ok (.aload_n 0, 1) := by decide +kernel
theorem dX8_foresees_38 : decode cX8_foresees 38 = .ok (.aload_n 0, 1) := by decide +kernel
theorem dX8_foresees_39 : decode cX8_foresees 39 = .ok (.getfield 19, 3) := by decide +kernel
theorem dX8_foresees_42 : decode cX8_foresees 42 = .ok (.iload_n 1, 1) := by decide +kernel
theorem dX8_foresees_43 : decode cX8_foresees 43 = .ok (.invokevirtual 179, 3) := by decide +kernel
theorem dX8_foresees_46 : decode cX8_foresees 46 = .ok (.checkcast 136, 3) := by decide +kernel
theorem dX8_foresees_49 : decode cX8_foresees 49 = .ok (.invokevirtual 194, 3) := by decide +kernel
theorem dX8_foresees_52 : decode cX8_foresees 52 = .ok (.ifCond .ne 5, 3) := by decide +kernel
theorem dX8_foresees_55 : decode cX8_foresees 55 = .ok (.iload_n 1, 1) := by decide +kernel
theorem dX8_foresees_56 : decode cX8_foresees 56 = .ok (.ireturn, 1) := by decide +kernel
theorem dX8_foresees_57 : decode cX8_foresees 57 = .ok (.iinc 1 1, 3) := by decide +kernel
theorem dX8_foresees_60 : decode cX8_foresees 60 = .ok (.goto (-34), 3) := by decide +kernel
theorem dX8_foresees_63 : decode cX8_foresees 63 = .ok (.aload_n 0, 1) := by decide +kernel
theorem dX8_foresees_64 : decode cX8_foresees 64 = .ok (.getfield 19, 3) := by decide +kernel
theorem dX8_foresees_67 : decode cX8_foresees 67 = .ok (.invokevirtual 65, 3) := by decide +kernel
theorem dX8_foresees_70 : decode cX8_foresees 70 = .ok (.ireturn, 1) := by decide +kernel
theorem dX8_lacks_0 : decode cX8_lacks 0 = .ok (.iload_n 1, 1) := by decide +kernel
theorem dX8_lacks_1 : decode cX8_lacks 1 = .ok (.iconst 0, 1) := by decide +kernel
theorem dX8_lacks_2 : decode cX8_lacks 2 = .ok (.iconst 3, 1) := by decide +kernel
theorem dX8_lacks_3 : decode cX8_lacks 3 = .ok (.invokestatic 105, 3) := by decide +kernel
theorem dX8_lacks_6 : decode cX8_lacks 6 = .ok (.ifCond .ne 13, 3) := by decide +kernel
theorem dX8_lacks_9 : decode cX8_lacks 9 = .ok (.new 87, 3) := by decide +kernel
theorem dX8_lacks_12 : decode cX8_lacks 12 = .ok (.dup, 1) := by decide +kernel
theorem dX8_lacks_13 : decode cX8_lacks 13 = .ok (.ldc 197, 2) := by decide +kernel
theorem dX8_lacks_15 : decode cX8_lacks 15 = .ok (.invokespecial 91, 3) := by decide +kernel
theorem dX8_lacks_18 : decode cX8_lacks 18 = .ok (.athrow, 1) := by decide +kernel
theorem dX8_lacks_19 : decode cX8_lacks 19 = .ok (.iconst 0, 1) := by decide +kernel
theorem dX8_lacks_20 : decode cX8_lacks 20 = .ok (.istore_n 2, 1) := by decide +kernel
theorem dX8_lacks_21 : decode cX8_lacks 21 = .ok (.iconst 0, 1) := by decide +kernel
theorem dX8_lacks_22 : decode cX8_lacks 22 = .ok (.istore_n 3, 1) := by decide +kernel
theorem dX8_lacks_23 : decode cX8_lacks 23 = .ok (.iload_n 3, 1) := by decide +kernel
theorem dX8_lacks_24 : decode cX8_lacks 24 = .ok (.aload_n 0, 1) := by decide +kernel
theorem dX8_lacks_25 : decode cX8_lacks 25 = .ok (.getfield 19, 3) := by decide +kernel
theorem dX8_lacks_28 : decode cX8_lacks 28 = .ok (.invokevirtual 65, 3) := by decide +kernel
theorem dX8_lacks_31 : decode cX8_lacks 31 = .ok (.if_icmp .ge 57, 3) := by decide +kernel
theorem dX8_lacks_34 : decode cX8_lacks 34 = .ok (.aload_n 0, 1) := by decide +kernel
theorem dX8_lacks_35 : decode cX8_lacks 35 = .ok (.getfield 19, 3) := by decide +kernel
theorem dX8_lacks_38 : decode cX8_lacks 38 = .ok (.iload_n 3, 1) := by decide +kernel
theorem dX8_lacks_39 : decode cX8_lacks 39 = .ok (.invokevirtual 179, 3) := by decide +kernel
theorem dX8_lacks_42 : decode cX8_lacks 42 = .ok (.checkcast 136, 3) := by decide +kernel
theorem dX8_lacks_45 : decode cX8_lacks 45 = .ok (.astore 4, 2) := by decide +kernel
theorem dX8_lacks_47 : decode cX8_lacks 47 = .ok (.aload_n 0, 1) := by decide +kernel
theorem dX8_lacks_48 : decode cX8_lacks 48 = .ok (.getfield 51, 3) := by decide +kernel
theorem dX8_lacks_51 : decode cX8_lacks 51 = .ok (.aload_n 0, 1) := by decide +kernel
theorem dX8_lacks_52 : decode cX8_lacks 52 = .ok (.getfield 44, 3) := by decide +kernel
theorem dX8_lacks_55 : decode cX8_lacks 55 = .ok (.aload 4, 2) := by decide +kernel
theorem dX8_lacks_57 : decode cX8_lacks 57 = .ok (.aload 4, 2) := by decide +kernel
theorem dX8_lacks_59 : decode cX8_lacks 59 = .ok (.getfield 176, 3) := by decide +kernel
theorem dX8_lacks_62 : decode cX8_lacks 62 = .ok (.aload 4, 2) := by decide +kernel
theorem dX8_lacks_64 : decode cX8_lacks 64 = .ok (.getfield 199, 3) := by decide +kernel
theorem dX8_lacks_67 : decode cX8_lacks 67 = .ok (.invokevirtual 202, 3) := by decide +kernel
theorem dX8_lacks_70 : decode cX8_lacks 70 = .ok (.iload_n 2, 1) := by decide +kernel
theorem dX8_lacks_71 : decode cX8_lacks 71 = .ok (.aload_n 0, 1) := by decide +kernel
theorem dX8_lacks_72 : decode cX8_lacks 72 = .ok (.getfield 51, 3) := by decide +kernel
theorem dX8_lacks_75 : decode cX8_lacks 75 = .ok (.getfield 206, 3) := by decide +kernel
theorem dX8_lacks_78 : decode cX8_lacks 78 = .ok (.iload_n 1, 1) := by decide +kernel
theorem dX8_lacks_79 : decode cX8_lacks 79 = .ok (.iaload, 1) := by decide +kernel
theorem dX8_lacks_80 : decode cX8_lacks 80 = .ok (.iadd, 1) := by decide +kernel
theorem dX8_lacks_81 : decode cX8_lacks 81 = .ok (.istore_n 2, 1) := by decide +kernel
theorem dX8_lacks_82 : decode cX8_lacks 82 = .ok (.iinc 3 1, 3) := by decide +kernel
theorem dX8_lacks_85 : decode cX8_lacks 85 = .ok (.goto (-62), 3) := by decide +kernel
theorem dX8_lacks_88 : decode cX8_lacks 88 = .ok (.iconst 0, 1) := by decide +kernel
theorem dX8_lacks_89 : decode cX8_lacks 89 = .ok (.iload_n 2, 1) := by decide +kernel
theorem dX8_lacks_90 : decode cX8_lacks 90 = .ok (.aload_n 0, 1) := by decide +kernel
theorem dX8_lacks_91 : decode cX8_lacks 91 = .ok (.iload_n 1, 1) := by decide +kernel
theorem dX8_lacks_92 : decode cX8_lacks 92 = .ok (.invokevirtual 190, 3) := by decide +kernel
theorem dX8_lacks_95 : decode cX8_lacks 95 = .ok (.isub, 1) := by decide +kernel
theorem dX8_lacks_96 : decode cX8_lacks 96 = .ok (.invokestatic 209, 3) := by decide +kernel
theorem dX8_lacks_99 : decode cX8_lacks 99 = .ok (.ireturn, 1) := by decide +kernel
theorem dX8_idle_0 : decode cX8_idle 0 = .ok (.iload_n 1, 1) := by decide +kernel
theorem dX8_idle_1 : decode cX8_idle 1 = .ok (.iconst 1, 1) := by decide +kernel
theorem dX8_idle_2 : decode cX8_idle 2 = .ok (.sipush 500, 3) := by decide +kernel
theorem dX8_idle_5 : decode cX8_idle 5 = .ok (.invokestatic 105, 3) := by decide +kernel
theorem dX8_idle_8 : decode cX8_idle 8 = .ok (.ifCond .ne 13, 3) := by decide +kernel
theorem dX8_idle_11 : decode cX8_idle 11 = .ok (.new 87, 3) := by decide +kernel
theorem dX8_idle_14 : decode cX8_idle 14 = .ok (.dup, 1) := by decide +kernel
theorem dX8_idle_15 : decode cX8_idle 15 = .ok (.ldc 214, 2) := by decide +kernel
theorem dX8_idle_17 : decode cX8_idle 17 = .ok (.invokespecial 91, 3) := by decide +kernel
theorem dX8_idle_20 : decode cX8_idle 20 = .ok (.athrow, 1) := by decide +kernel
theorem dX8_idle_21 : decode cX8_idle 21 = .ok (.aload_n 0, 1) := by decide +kernel
theorem dX8_idle_22 : decode cX8_idle 22 = .ok (.getfield 216, 3) := by decide +kernel
theorem dX8_idle_25 : decode cX8_idle 25 = .ok (.iload_n 1, 1) := by decide +kernel
theorem dX8_idle_26 : decode cX8_idle 26 = .ok (.iadd, 1) := by decide +kernel
theorem dX8_idle_27 : decode cX8_idle 27 = .ok (.ldc 219, 2) := by decide +kernel
theorem dX8_idle_29 : decode cX8_idle 29 = .ok (.if_icmp .le 13, 3) := by decide +kernel
theorem dX8_idle_32 : decode cX8_idle 32 = .ok (.new 69, 3) := by decide +kernel
theorem dX8_idle_35 : decode cX8_idle 35 = .ok (.dup, 1) := by decide +kernel
theorem dX8_idle_36 : decode cX8_idle 36 = .ok (.ldc 220, 2) := by decide +kernel
theorem dX8_idle_38 : decode cX8_idle 38 = .ok (.invokespecial 73, 3) := by decide +kernel
theorem dX8_idle_41 : decode cX8_idle 41 = .ok (.athrow, 1) := by decide +kernel
theorem dX8_idle_42 : decode cX8_idle 42 = .ok (.aload_n 0, 1) := by decide +kernel
theorem dX8_idle_43 : decode cX8_idle 43 = .ok (.dup, 1) := by decide +kernel
theorem dX8_idle_44 : decode cX8_idle 44 = .ok (.getfield 216, 3) := by decide +kernel
theorem dX8_idle_47 : decode cX8_idle 47 = .ok (.iload_n 1, 1) := by decide +kernel
theorem dX8_idle_48 : decode cX8_idle 48 = .ok (.iadd, 1) := by decide +kernel
theorem dX8_idle_49 : decode cX8_idle 49 = .ok (.putfield 216, 3) := by decide +kernel
theorem dX8_idle_52 : decode cX8_idle 52 = .ok (.aload_n 0, 1) := by decide +kernel
theorem dX8_idle_53 : decode cX8_idle 53 = .ok (.iconst 0, 1) := by decide +kernel
theorem dX8_idle_54 : decode cX8_idle 54 = .ok (.aload_n 0, 1) := by decide +kernel
theorem dX8_idle_55 : decode cX8_idle 55 = .ok (.getfield 222, 3) := by decide +kernel
theorem dX8_idle_58 : decode cX8_idle 58 = .ok (.iload_n 1, 1) := by decide +kernel
theorem dX8_idle_59 : decode cX8_idle 59 = .ok (.isub, 1) := by decide +kernel
theorem dX8_idle_60 : decode cX8_idle 60 = .ok (.invokestatic 209, 3) := by decide +kernel
theorem dX8_idle_63 : decode cX8_idle 63 = .ok (.putfield 222, 3) := by decide +kernel
theorem dX8_idle_66 : decode cX8_idle 66 = .ok (.aload_n 0, 1) := by decide +kernel
theorem dX8_idle_67 : decode cX8_idle 67 = .ok (.getfield 216, 3) := by decide +kernel
theorem dX8_idle_70 : decode cX8_idle 70 = .ok (.ireturn, 1) := by decide +kernel
theorem dX8_calibrate_0 : decode cX8_calibrate 0 = .ok (.aload_n 0, 1) := by decide +kernel
theorem dX8_calibrate_1 : decode cX8_calibrate 1 = .ok (.iload_n 1, 1) := by decide +kernel
theorem dX8_calibrate_2 : decode cX8_calibrate 2 = .ok (.invokevirtual 225, 3) := by decide +kernel
theorem dX8_calibrate_5 : decode cX8_calibrate 5 = .ok (.astore_n 3, 1) := by decide +kernel
theorem dX8_calibrate_6 : decode cX8_calibrate 6 = .ok (.iload_n 2, 1) := by decide +kernel
theorem dX8_calibrate_7 : decode cX8_calibrate 7 = .ok (.iconst 0, 1) := by decide +kernel
theorem dX8_calibrate_8 : decode cX8_calibrate 8 = .ok (.bipush 30, 2) := by decide +kernel
theorem dX8_calibrate_10 : decode cX8_calibrate 10 = .ok (.invokestatic 105, 3) := by decide +kernel
theorem dX8_calibrate_13 : decode cX8_calibrate 13 = .ok (.ifCond .ne 13, 3) := by decide +kernel
theorem dX8_calibrate_16 : decode cX8_calibrate 16 = .ok (.new 87, 3) := by decide +kernel
theorem dX8_calibrate_19 : decode cX8_calibrate 19 = .ok (.dup, 1) := by decide +kernel
theorem dX8_calibrate_20 : decode cX8_calibrate 20 = .ok (.ldc 229, 2) := by decide +kernel
theorem dX8_calibrate_22 : decode cX8_calibrate 22 = .ok (.invokespecial 91, 3) := by decide +kernel
theorem dX8_calibrate_25 : decode cX8_calibrate 25 = .ok (.athrow, 1) := by decide +kernel
theorem dX8_calibrate_26 : decode cX8_calibrate 26 = .ok (.aload_n 3, 1) := by decide +kernel
theorem dX8_calibrate_27 : decode cX8_calibrate 27 = .ok (.aload_n 0, 1) := by decide +kernel
theorem dX8_calibrate_28 : decode cX8_calibrate 28 = .ok (.getfield 216, 3) := by decide +kernel
theorem dX8_calibrate_31 : decode cX8_calibrate 31 = .ok (.putfield 231, 3) := by decide +kernel
theorem dX8_calibrate_34 : decode cX8_calibrate 34 = .ok (.aload_n 3, 1) := by decide +kernel
theorem dX8_calibrate_35 : decode cX8_calibrate 35 = .ok (.iload_n 2, 1) := by decide +kernel
theorem dX8_calibrate_36 : decode cX8_calibrate 36 = .ok (.putfield 234, 3) := by decide +kernel
theorem dX8_calibrate_39 : decode cX8_calibrate 39 = .ok (.aload_n 0, 1) := by decide +kernel
theorem dX8_calibrate_40 : decode cX8_calibrate 40 = .ok (.getfield 216, 3) := by decide +kernel
theorem dX8_calibrate_43 : decode cX8_calibrate 43 = .ok (.sipush 1000, 3) := by decide +kernel
theorem dX8_calibrate_46 : decode cX8_calibrate 46 = .ok (.iadd, 1) := by decide +kernel
theorem dX8_calibrate_47 : decode cX8_calibrate 47 = .ok (.iconst 1, 1) := by decide +kernel
theorem dX8_calibrate_48 : decode cX8_calibrate 48 = .ok (.isub, 1) := by decide +kernel
theorem dX8_calibrate_49 : decode cX8_calibrate 49 = .ok (.ireturn, 1) := by decide +kernel
theorem dX8_drawing_0 : decode cX8_drawing 0 = .ok (.aload_n 0, 1) := by decide +kernel
theorem dX8_drawing_1 : decode cX8_drawing 1 = .ok (.getfield 25, 3) := by decide +kernel
theorem dX8_drawing_4 : decode cX8_drawing 4 = .ok (.invokevirtual 65, 3) := by decide +kernel
theorem dX8_drawing_7 : decode cX8_drawing 7 = .ok (.iconst 4, 1) := by decide +kernel
theorem dX8_drawing_8 : decode cX8_drawing 8 = .ok (.if_icmp .lt 13, 3) := by decide +kernel
theorem dX8_drawing_11 : decode cX8_drawing 11 = .ok (.new 69, 3) := by decide +kernel
theorem dX8_drawing_14 : decode cX8_drawing 14 = .ok (.dup, 1) := by decide +kernel
theorem dX8_drawing_15 : decode cX8_drawing 15 = .ok (.ldc 236, 2) := by decide +kernel
theorem dX8_drawing_17 : decode cX8_drawing 17 = .ok (.invokespecial 73, 3) := by decide +kernel
theorem dX8_drawing_20 : decode cX8_drawing 20 = .ok (.athrow, 1) := by decide +kernel
theorem dX8_drawing_21 : decode cX8_drawing 21 = .ok (.aload_n 0, 1) := by decide +kernel
theorem dX8_drawing_22 : decode cX8_drawing 22 = .ok (.getfield 25, 3) := by decide +kernel
theorem dX8_drawing_25 : decode cX8_drawing 25 = .ok (.new 238, 3) := by decide +kernel
theorem dX8_drawing_28 : decode cX8_drawing 28 = .ok (.dup, 1) := by decide +kernel
theorem dX8_drawing_29 : decode cX8_drawing 29 = .ok (.invokespecial 240, 3) := by decide +kernel
theorem dX8_drawing_32 : decode cX8_drawing 32 = .ok (.invokevirtual 58, 3) := by decide +kernel
theorem dX8_drawing_35 : decode cX8_drawing 35 = .ok (.pop, 1) := by decide +kernel
theorem dX8_drawing_36 : decode cX8_drawing 36 = .ok (.aload_n 0, 1) := by decide +kernel
theorem dX8_drawing_37 : decode cX8_drawing 37 = .ok (.getfield 25, 3) := by decide +kernel
theorem dX8_drawing_40 : decode cX8_drawing 40 = .ok (.invokevirtual 65, 3) := by decide +kernel
theorem dX8_drawing_43 : decode cX8_drawing 43 = .ok (.iconst 1, 1) := by decide +kernel
theorem dX8_drawing_44 : decode cX8_drawing 44 = .ok (.isub, 1) := by decide +kernel
theorem dX8_drawing_45 : decode cX8_drawing 45 = .ok (.ireturn, 1) := by decide +kernel
theorem dX8_feature_0 : decode cX8_feature 0 = .ok (.aload_n 0, 1) := by decide +kernel
theorem dX8_feature_1 : decode cX8_feature 1 = .ok (.iload_n 1, 1) := by decide +kernel
theorem dX8_feature_2 : decode cX8_feature 2 = .ok (.invokevirtual 241, 3) := by decide +kernel
theorem dX8_feature_5 : decode cX8_feature 5 = .ok (.astore 6, 2) := by decide +kernel
theorem dX8_feature_7 : decode cX8_feature 7 = .ok (.aload_n 0, 1) := by decide +kernel
theorem dX8_feature_8 : decode cX8_feature 8 = .ok (.iload_n 2, 1) := by decide +kernel
theorem dX8_feature_9 : decode cX8_feature 9 = .ok (.iload_n 3, 1) := by decide +kernel
theorem dX8_feature_10 : decode cX8_feature 10 = .ok (.invokevirtual 145, 3) := by decide +kernel
theorem dX8_feature_13 : decode cX8_feature 13 = .ok (.istore 7, 2) := by decide +kernel
theorem dX8_feature_15 : decode cX8_feature 15 = .ok (.iload 4, 2) := by decide +kernel
theorem dX8_feature_17 : decode cX8_feature 17 = .ok (.iconst 0, 1) := by decide +kernel
theorem dX8_feature_18 : decode cX8_feature 18 = .ok (.bipush 9, 2) := by decide +kernel
theorem dX8_feature_20 : decode cX8_feature 20 = .ok (.invokestatic 105, 3) := by decide +kernel
theorem dX8_feature_23 : decode cX8_feature 23 = .ok (.ifCond .eq 14, 3) := by decide +kernel
theorem dX8_feature_26 : decode cX8_feature 26 = .ok (.iload 5, 2) := by decide +kernel
theorem dX8_feature_28 : decode cX8_feature 28 = .ok (.iconst 1, 1) := by decide +kernel
theorem dX8_feature_29 : decode cX8_feature 29 = .ok (.bipush 99, 2) := by decide +kernel
theorem dX8_feature_31 : decode cX8_feature 31 = .ok (.invokestatic 105, 3) := by decide +kernel
theorem dX8_feature_34 : decode cX8_feature 34 = .ok (.ifCond .ne 13, 3) := by decide +kernel
theorem dX8_feature_37 : decode cX8_feature 37 = .ok (.new 87, 3) := by decide +kernel
theorem dX8_feature_40 : decode cX8_feature 40 = .ok (.dup, 1) := by decide +kernel
theorem dX8_feature_41 : decode cX8_feature 41 = .ok (.ldc 245, 2) := by decide +kernel
theorem dX8_feature_43 : decode cX8_feature 43 = .ok (.invokespecial 91, 3) := by decide +kernel
theorem dX8_feature_46 : decode cX8_feature 46 = .ok (.athrow, 1) := by decide +kernel
theorem dX8_feature_47 : decode cX8_feature 47 = .ok (.aload 6, 2) := by decide +kernel
theorem dX8_feature_49 : decode cX8_feature 49 = .ok (.getfield 247, 3) := by decide +kernel
theorem dX8_feature_52 : decode cX8_feature 52 = .ok (.bipush 6, 2) := by decide +kernel
theorem dX8_feature_54 : decode cX8_feature 54 = .ok (.if_icmp .lt 13, 3) := by decide +kernel
theorem dX8_feature_57 : decode cX8_feature 57 = .ok (.new 69, 3) := by decide +kernel
theorem dX8_feature_60 : decode cX8_feature 60 = .ok (.dup, 1) := by decide +kernel
theorem dX8_feature_61 : decode cX8_feature 61 = .ok (.ldc 248, 2) := by decide +kernel
theorem dX8_feature_63 : decode cX8_feature 63 = .ok (.invokespecial 73, 3) := by decide +kernel
theorem dX8_feature_66 : decode cX8_feature 66 = .ok (.athrow, 1) := by decide +kernel
theorem dX8_feature_67 : decode cX8_feature 67 = .ok (.aload 6, 2) := by decide +kernel
theorem dX8_feature_69 : decode cX8_feature 69 = .ok (.iload 7, 2) := by decide +kernel
theorem dX8_feature_71 : decode cX8_feature 71 = .ok (.iload 4, 2) := by decide +kernel
theorem dX8_feature_73 : decode cX8_feature 73 = .ok (.iload 5, 2) := by decide +kernel
theorem dX8_feature_75 : decode cX8_feature 75 = .ok (.invokevirtual 250, 3) := by decide +kernel
theorem dX8_feature_78 : decode cX8_feature 78 = .ok (.aload 6, 2) := by decide +kernel
theorem dX8_feature_80 : decode cX8_feature 80 = .ok (.getfield 247, 3) := by decide +kernel
theorem dX8_feature_83 : decode cX8_feature 83 = .ok (.ireturn, 1) := by decide +kernel
theorem dX8_allow_0 : decode cX8_allow 0 = .ok (.aload_n 0, 1) := by decide +kernel
theorem dX8_allow_1 : decode cX8_allow 1 = .ok (.iload_n 1, 1) := by decide +kernel
theorem dX8_allow_2 : decode cX8_allow 2 = .ok (.invokevirtual 241, 3) := by decide +kernel
theorem dX8_allow_5 : decode cX8_allow 5 = .ok (.astore 5, 2) := by decide +kernel
theorem dX8_allow_7 : decode cX8_allow 7 = .ok (.iload_n 2, 1) := by decide +kernel
theorem dX8_allow_8 : decode cX8_allow 8 = .ok (.iconst 0, 1) := by decide +kernel
theorem dX8_allow_9 : decode cX8_allow 9 = .ok (.aload 5, 2) := by decide +kernel
theorem dX8_allow_11 : decode cX8_allow 11 = .ok (.getfield 247, 3) := by decide +kernel
theorem dX8_allow_14 : decode cX8_allow 14 = .ok (.iconst 1, 1) := by decide +kernel
theorem dX8_allow_15 : decode cX8_allow 15 = .ok (.isub, 1) := by decide +kernel
theorem dX8_allow_16 : decode cX8_allow 16 = .ok (.invokestatic 105, 3) := by decide +kernel
theorem dX8_allow_19 : decode cX8_allow 19 = .ok (.ifCond .ne 13, 3) := by decide +kernel
theorem dX8_allow_22 : decode cX8_allow 22 = .ok (.new 252, 3) := by decide +kernel
theorem dX8_allow_25 : decode cX8_allow 25 = .ok (.dup, 1) := by decide +kernel
theorem dX8_allow_26 : decode cX8_allow 26 = .ok (.ldc 254, 2) := by decide +kernel
theorem dX8_allow_28 : decode cX8_allow 28 = .ok (.invokespecial 256, 3) := by decide +kernel
theorem dX8_allow_31 : decode cX8_allow 31 = .ok (.athrow, 1) := by decide +kernel
theorem dX8_allow_32 : decode cX8_allow 32 = .ok (.iload_n 3, 1) := by decide +kernel
theorem dX8_allow_33 : decode cX8_allow 33 = .ok (.iconst 0, 1) := by decide +kernel
theorem dX8_allow_34 : decode cX8_allow 34 = .ok (.bipush 99, 2) := by decide +kernel
theorem dX8_allow_36 : decode cX8_allow 36 = .ok (.invokestatic 105, 3) := by decide +kernel
theorem dX8_allow_39 : decode cX8_allow 39 = .ok (.ifCond .eq 14, 3) := by decide +kernel
theorem dX8_allow_42 : decode cX8_allow 42 = .ok (.iload 4, 2) := by decide +kernel
theorem dX8_allow_44 : decode cX8_allow 44 = .ok (.iconst 1, 1) := by decide +kernel
theorem dX8_allow_45 : decode cX8_allow 45 = .ok (.bipush 9, 2) := by decide +kernel
theorem dX8_allow_47 : decode cX8_allow 47 = .ok (.invokestatic 105, 3) := by decide +kernel
theorem dX8_allow_50 : decode cX8_allow 50 = .ok (.ifCond .ne 14, 3) := by decide +kernel
theorem dX8_allow_53 : decode cX8_allow 53 = .ok (.new 87, 3) := by decide +kernel
theorem dX8_allow_56 : decode cX8_allow 56 = .ok (.dup, 1) := by decide +kernel
theorem dX8_allow_57 : decode cX8_allow 57 = .ok (.ldc_w 257, 3) := by decide +kernel
theorem dX8_allow_60 : decode cX8_allow 60 = .ok (.invokespecial 91, 3) := by decide +kernel
theorem dX8_allow_63 : decode cX8_allow 63 = .ok (.athrow, 1) := by decide +kernel
theorem dX8_allow_64 : decode cX8_allow 64 = .ok (.aload 5, 2) := by decide +kernel
theorem dX8_allow_66 : decode cX8_allow 66 = .ok (.getfield 259, 3) := by decide +kernel
theorem dX8_allow_69 : decode cX8_allow 69 = .ok (.iload_n 2, 1) := by decide +kernel
theorem dX8_allow_70 : decode cX8_allow 70 = .ok (.iload_n 3, 1) := by decide +kernel
theorem dX8_allow_71 : decode cX8_allow 71 = .ok (.iastore, 1) := by decide +kernel
theorem dX8_allow_72 : decode cX8_allow 72 = .ok (.aload 5, 2) := by decide +kernel
theorem dX8_allow_74 : decode cX8_allow 74 = .ok (.getfield 262, 3) := by decide +kernel
theorem dX8_allow_77 : decode cX8_allow 77 = .ok (.iload_n 2, 1) := by decide +kernel
theorem dX8_allow_78 : decode cX8_allow 78 = .ok (.iload 4, 2) := by decide +kernel
theorem dX8_allow_80 : decode cX8_allow 80 = .ok (.iastore, 1) := by decide +kernel
theorem dX8_allow_81 : decode cX8_allow 81 = .ok (.aload 5, 2) := by decide +kernel
theorem dX8_allow_83 : decode cX8_allow 83 = .ok (.iload_n 2, 1) := by decide +kernel
theorem dX8_allow_84 : decode cX8_allow 84 = .ok (.invokevirtual 265, 3) := by decide +kernel
theorem dX8_allow_87 : decode cX8_allow 87 = .ok (.ireturn, 1) := by decide +kernel
theorem dX8_judge_0 : decode cX8_judge 0 = .ok (.aload_n 0, 1) := by decide +kernel
theorem dX8_judge_1 : decode cX8_judge 1 = .ok (.iload_n 1, 1) := by decide +kernel
theorem dX8_judge_2 : decode cX8_judge 2 = .ok (.invokevirtual 141, 3) := by decide +kernel
theorem dX8_judge_5 : decode cX8_judge 5 = .ok (.astore 4, 2) := by decide +kernel
theorem dX8_judge_7 : decode cX8_judge 7 = .ok (.aload_n 0, 1) := by decide +kernel
theorem dX8_judge_8 : decode cX8_judge 8 = .ok (.iload_n 2, 1) := by decide +kernel
theorem dX8_judge_9 : decode cX8_judge 9 = .ok (.invokevirtual 241, 3) := by decide +kernel
theorem dX8_judge_12 : decode cX8_judge 12 = .ok (.astore 5, 2) := by decide +kernel
theorem dX8_judge_14 : decode cX8_judge 14 = .ok (.aload_n 0, 1) := by decide +kernel
theorem dX8_judge_15 : decode cX8_judge 15 = .ok (.iload_n 3, 1) := by decide +kernel
theorem dX8_judge_16 : decode cX8_judge 16 = .ok (.invokevirtual 225, 3) := by decide +kernel
theorem dX8_judge_19 : decode cX8_judge 19 = .ok (.astore 6, 2) := by decide +kernel
theorem dX8_judge_21 : decode cX8_judge 21 = .ok (.aload 4, 2) := by decide +kernel
theorem dX8_judge_23 : decode cX8_judge 23 = .ok (.getfield 151, 3) := by decide +kernel
theorem dX8_judge_26 : decode cX8_judge 26 = .ok (.iconst 2, 1) := by decide +kernel
theorem dX8_judge_27 : decode cX8_judge 27 = .ok (.if_icmp .ne 35, 3) := by decide +kernel
theorem dX8_judge_30 : decode cX8_judge 30 = .ok (.aload 5, 2) := by decide +kernel
theorem dX8_judge_32 : decode cX8_judge 32 = .ok (.getfield 247, 3) := by decide +kernel
theorem dX8_judge_35 : decode cX8_judge 35 = .ok (.ifCond .eq 27, 3) := by decide +kernel
theorem dX8_judge_38 : decode cX8_judge 38 = .ok (.aload 6, 2) := by decide +kernel
theorem dX8_judge_40 : decode cX8_judge 40 = .ok (.aload_n 0, 1) := by decide +kernel
theorem dX8_judge_41 : decode cX8_judge 41 = .ok (.getfield 216, 3) := by decide +kernel
theorem dX8_judge_44 : decode cX8_judge 44 = .ok (.invokevirtual 268, 3) := by decide +kernel
theorem dX8_judge_47 : decode cX8_judge 47 = .ok (.ifCond .eq 15, 3) := by decide +kernel
theorem dX8_judge_50 : decode cX8_judge 50 = .ok (.aload_n 0, 1) := by decide +kernel
theorem dX8_judge_51 : decode cX8_judge 51 = .ok (.getfield 28, 3) := by decide +kernel
theorem dX8_judge_54 : decode cX8_judge 54 = .ok (.invokevirtual 65, 3) := by decide +kernel
theorem dX8_judge_57 : decode cX8_judge 57 = .ok (.bipush 30, 2) := by decide +kernel
theorem dX8_judge_59 : decode cX8_judge 59 = .ok (.if_icmp .lt 14, 3) := by decide +kernel
theorem dX8_judge_62 : decode cX8_judge 62 = .ok (.new 69, 3) := by decide +kernel
theorem dX8_judge_65 : decode cX8_judge 65 = .ok (.dup, 1) := by decide +kernel
theorem dX8_judge_66 : decode cX8_judge 66 = .ok (.ldc_w 272, 3) := by decide +kernel
theorem dX8_judge_69 : decode cX8_judge 69 = .ok (.invokespecial 73, 3) := by decide +kernel
theorem dX8_judge_72 : decode cX8_judge 72 = .ok (.athrow, 1) := by decide +kernel
theorem dX8_judge_73 : decode cX8_judge 73 = .ok (.new 274, 3) := by decide +kernel
theorem dX8_judge_76 : decode cX8_judge 76 = .ok (.dup, 1) := by decide +kernel
theorem dX8_judge_77 : decode cX8_judge 77 = .ok (.iload_n 1, 1) := by decide +kernel
theorem dX8_judge_78 : decode cX8_judge 78 = .ok (.iload_n 2, 1) := by decide +kernel
theorem dX8_judge_79 : decode cX8_judge 79 = .ok (.aload_n 0, 1) := by decide +kernel
theorem dX8_judge_80 : decode cX8_judge 80 = .ok (.getfield 216, 3) := by decide +kernel
theorem dX8_judge_83 : decode cX8_judge 83 = .ok (.aload 6, 2) := by decide +kernel
theorem dX8_judge_85 : decode cX8_judge 85 = .ok (.getfield 234, 3) := by decide +kernel
theorem dX8_judge_88 : decode cX8_judge 88 = .ok (.invokespecial 276, 3) := by decide +kernel
theorem dX8_judge_91 : decode cX8_judge 91 = .ok (.astore 7, 2) := by decide +kernel
theorem dX8_judge_93 : decode cX8_judge 93 = .ok (.iconst 0, 1) := by decide +kernel
theorem dX8_judge_94 : decode cX8_judge 94 = .ok (.istore 8, 2) := by decide +kernel
theorem dX8_judge_96 : decode cX8_judge 96 = .ok (.iload 8, 2) := by decide +kernel
theorem dX8_judge_98 : decode cX8_judge 98 = .ok (.aload 5, 2) := by decide +kernel
theorem dX8_judge_100 : decode cX8_judge 100 = .ok (.getfield 247, 3) := by decide +kernel
theorem dX8_judge_103 : decode cX8_judge 103 = .ok (.if_icmp .ge 79, 3) := by decide +kernel
theorem dX8_judge_106 : decode cX8_judge 106 = .ok (.aload 5, 2) := by decide +kernel
theorem dX8_judge_108 : decode cX8_judge 108 = .ok (.getfield 279, 3) := by decide +kernel
theorem dX8_judge_111 : decode cX8_judge 111 = .ok (.iload 8, 2) := by decide +kernel
theorem dX8_judge_113 : decode cX8_judge 113 = .ok (.iaload, 1) := by decide +kernel
theorem dX8_judge_114 : decode cX8_judge 114 = .ok (.istore 9, 2) := by decide +kernel
theorem dX8_judge_116 : decode cX8_judge 116 = .ok (.aload 6, 2) := by decide +kernel
theorem dX8_judge_118 : decode cX8_judge 118 = .ok (.aload 4, 2) := by decide +kernel
theorem dX8_judge_120 : decode cX8_judge 120 = .ok (.getfield 282, 3) := by decide +kernel
theorem dX8_judge_123 : decode cX8_judge 123 = .ok (.iload 9, 2) := by decide +kernel
theorem dX8_judge_125 : decode cX8_judge 125 = .ok (.iaload, 1) := by decide +kernel
theorem dX8_judge_126 : decode cX8_judge 126 = .ok (.aload_n 0, 1) := by decide +kernel
theorem dX8_judge_127 : decode cX8_judge 127 = .ok (.getfield 216, 3) := by decide +kernel
theorem dX8_judge_130 : decode cX8_judge 130 = .ok (.invokevirtual 285, 3) := by decide +kernel
theorem dX8_judge_133 : decode cX8_judge 133 = .ok (.sipush 1000, 3) := by decide +kernel
theorem dX8_judge_136 : decode cX8_judge 136 = .ok (.aload 5, 2) := by decide +kernel
theorem dX8_judge_138 : decode cX8_judge 138 = .ok (.getfield 288, 3) := by decide +kernel
theorem dX8_judge_141 : decode cX8_judge 141 = .ok (.iload 8, 2) := by decide +kernel
theorem dX8_judge_143 : decode cX8_judge 143 = .ok (.iaload, 1) := by decide +kernel
theorem dX8_judge_144 : decode cX8_judge 144 = .ok (.imul, 1) := by decide +kernel
theorem dX8_judge_145 : decode cX8_judge 145 = .ok (.isub, 1) := by decide +kernel
theorem dX8_judge_146 : decode cX8_judge 146 = .ok (.istore 10, 2) := by decide +kernel
theorem dX8_judge_148 : decode cX8_judge 148 = .ok (.aload 7, 2) := by decide +kernel
theorem dX8_judge_150 : decode cX8_judge 150 = .ok (.iload 10, 2) := by decide +kernel
theorem dX8_judge_152 : decode cX8_judge 152 = .ok (.aload 5, 2) := by decide +kernel
theorem dX8_judge_154 : decode cX8_judge 154 = .ok (.iload 8, 2) := by decide +kernel
theorem dX8_judge_156 : decode cX8_judge 156 = .ok (.invokevirtual 265, 3) := by decide +kernel
theorem dX8_judge_159 : decode cX8_judge 159 = .ok (.invokevirtual 291, 3) := by decide +kernel
theorem dX8_judge_162 : decode cX8_judge 162 = .ok (.aload_n 0, 1) := by decide +kernel
theorem dX8_judge_163 : decode cX8_judge 163 = .ok (.aload 4, 2) := by decide +kernel
theorem dX8_judge_165 : decode cX8_judge 165 = .ok (.getfield 292, 3) := by decide +kernel
theorem dX8_judge_168 : decode cX8_judge 168 = .ok (.iload 9, 2) := by decide +kernel
theorem dX8_judge_170 : decode cX8_judge 170 = .ok (.iaload, 1) := by decide +kernel
theorem dX8_judge_171 : decode cX8_judge 171 = .ok (.iload 10, 2) := by decide +kernel
theorem dX8_judge_173 : decode cX8_judge 173 = .ok (.invokevirtual 295, 3) := by decide +kernel
theorem dX8_judge_176 : decode cX8_judge 176 = .ok (.iinc 8 1, 3) := by decide +kernel
theorem dX8_judge_179 : decode cX8_judge 179 = .ok (.goto (-83), 3) := by decide +kernel
theorem dX8_judge_182 : decode cX8_judge 182 = .ok (.aload 5, 2) := by decide +kernel
theorem dX8_judge_184 : decode cX8_judge 184 = .ok (.invokevirtual 298, 3) := by decide +kernel
theorem dX8_judge_187 : decode cX8_judge 187 = .ok (.aload 4, 2) := by decide +kernel
theorem dX8_judge_189 : decode cX8_judge 189 = .ok (.aload 7, 2) := by decide +kernel
theorem dX8_judge_191 : decode cX8_judge 191 = .ok (.invokevirtual 301, 3) := by decide +kernel
theorem dX8_judge_194 : decode cX8_judge 194 = .ok (.putfield 304, 3) := by decide +kernel
theorem dX8_judge_197 : decode cX8_judge 197 = .ok (.aload_n 0, 1) := by decide +kernel
theorem dX8_judge_198 : decode cX8_judge 198 = .ok (.getfield 28, 3) := by decide +kernel
theorem dX8_judge_201 : decode cX8_judge 201 = .ok (.aload 7, 2) := by decide +kernel
theorem dX8_judge_203 : decode cX8_judge 203 = .ok (.invokevirtual 58, 3) := by decide +kernel
theorem dX8_judge_206 : decode cX8_judge 206 = .ok (.pop, 1) := by decide +kernel
theorem dX8_judge_207 : decode cX8_judge 207 = .ok (.aload_n 0, 1) := by decide +kernel
theorem dX8_judge_208 : decode cX8_judge 208 = .ok (.getfield 28, 3) := by decide +kernel
theorem dX8_judge_211 : decode cX8_judge 211 = .ok (.invokevirtual 65, 3) := by decide +kernel
theorem dX8_judge_214 : decode cX8_judge 214 = .ok (.iconst 1, 1) := by decide +kernel
theorem dX8_judge_215 : decode cX8_judge 215 = .ok (.isub, 1) := by decide +kernel
theorem dX8_judge_216 : decode cX8_judge 216 = .ok (.ireturn, 1) := by decide +kernel
theorem dX8_correct_0 : decode cX8_correct 0 = .ok (.aload_n 0, 1) := by decide +kernel
theorem dX8_correct_1 : decode cX8_correct 1 = .ok (.iload_n 1, 1) := by decide +kernel
theorem dX8_correct_2 : decode cX8_correct 2 = .ok (.invokevirtual 119, 3) := by decide +kernel
theorem dX8_correct_5 : decode cX8_correct 5 = .ok (.invokevirtual 307, 3) := by decide +kernel
theorem dX8_correct_8 : decode cX8_correct 8 = .ok (.ireturn, 1) := by decide +kernel
theorem dX8_minute_0 : decode cX8_minute 0 = .ok (.aload_n 0, 1) := by decide +kernel
theorem dX8_minute_1 : decode cX8_minute 1 = .ok (.getfield 216, 3) := by decide +kernel
theorem dX8_minute_4 : decode cX8_minute 4 = .ok (.ireturn, 1) := by decide +kernel
theorem dX8_warmth_0 : decode cX8_warmth 0 = .ok (.aload_n 0, 1) := by decide +kernel
theorem dX8_warmth_1 : decode cX8_warmth 1 = .ok (.getfield 222, 3) := by decide +kernel
theorem dX8_warmth_4 : decode cX8_warmth 4 = .ok (.ireturn, 1) := by decide +kernel
theorem dX8_ofTool_0 : decode cX8_ofTool 0 = .ok (.aload_n 0, 1) := by decide +kernel
theorem dX8_ofTool_1 : decode cX8_ofTool 1 = .ok (.iload_n 1, 1) := by decide +kernel
theorem dX8_ofTool_2 : decode cX8_ofTool 2 = .ok (.invokevirtual 119, 3) := by decide +kernel
theorem dX8_ofTool_5 : decode cX8_ofTool 5 = .ok (.astore_n 3, 1) := by decide +kernel
theorem dX8_ofTool_6 : decode cX8_ofTool 6 = .ok (.iload_n 2, 1) := by decide +kernel
theorem dX8_ofTool_7 : decode cX8_ofTool 7 = .ok (.tableswitch 75 0 5 #[37, 42, 47, 52, 57, 70], 37) := by decide +kernel
theorem dX8_ofTool_44 : decode cX8_ofTool 44 = .ok (.aload_n 3, 1) := by decide +kernel
theorem dX8_ofTool_45 : decode cX8_ofTool 45 = .ok (.getfield 310, 3) := by decide +kernel
theorem dX8_ofTool_48 : decode cX8_ofTool 48 = .ok (.ireturn, 1) := by decide +kernel
theorem dX8_ofTool_49 : decode cX8_ofTool 49 = .ok (.aload_n 3, 1) := by decide +kernel
theorem dX8_ofTool_50 : decode cX8_ofTool 50 = .ok (.getfield 312, 3) := by decide +kernel
theorem dX8_ofTool_53 : decode cX8_ofTool 53 = .ok (.ireturn, 1) := by decide +kernel
theorem dX8_ofTool_54 : decode cX8_ofTool 54 = .ok (.aload_n 3, 1) := by decide +kernel
theorem dX8_ofTool_55 : decode cX8_ofTool 55 = .ok (.getfield 315, 3) := by decide +kernel
theorem dX8_ofTool_58 : decode cX8_ofTool 58 = .ok (.ireturn, 1) := by decide +kernel
theorem dX8_ofTool_59 : decode cX8_ofTool 59 = .ok (.aload_n 3, 1) := by decide +kernel
theorem dX8_ofTool_60 : decode cX8_ofTool 60 = .ok (.getfield 318, 3) := by decide +kernel
theorem dX8_ofTool_63 : decode cX8_ofTool 63 = .ok (.ireturn, 1) := by decide +kernel
theorem dX8_ofTool_64 : decode cX8_ofTool 64 = .ok (.aload_n 3, 1) := by decide +kernel
theorem dX8_ofTool_65 : decode cX8_ofTool 65 = .ok (.getfield 123, 3) := by decide +kernel
theorem dX8_ofTool_68 : decode cX8_ofTool 68 = .ok (.ifCond .eq 7, 3) := by decide +kernel
theorem dX8_ofTool_71 : decode cX8_ofTool 71 = .ok (.iconst 1, 1) := by decide +kernel
theorem dX8_ofTool_72 : decode cX8_ofTool 72 = .ok (.goto 4, 3) := by decide +kernel
theorem dX8_ofTool_75 : decode cX8_ofTool 75 = .ok (.iconst 0, 1) := by decide +kernel
theorem dX8_ofTool_76 : decode cX8_ofTool 76 = .ok (.ireturn, 1) := by decide +kernel
theorem dX8_ofTool_77 : decode cX8_ofTool 77 = .ok (.aload_n 3, 1) := by decide +kernel
theorem dX8_ofTool_78 : decode cX8_ofTool 78 = .ok (.getfield 321, 3) := by decide +kernel
theorem dX8_ofTool_81 : decode cX8_ofTool 81 = .ok (.ireturn, 1) := by decide +kernel
theorem dX8_ofTool_82 : decode cX8_ofTool 82 = .ok (.new 87, 3) := by decide +kernel
theorem dX8_ofTool_85 : decode cX8_ofTool 85 = .ok (.dup, 1) := by decide +kernel
theorem dX8_ofTool_86 : decode cX8_ofTool 86 = .ok (.ldc_w 324, 3) := by decide +kernel
theorem dX8_ofTool_89 : decode cX8_ofTool 89 = .ok (.invokespecial 91, 3) := by decide +kernel
theorem dX8_ofTool_92 : decode cX8_ofTool 92 = .ok (.athrow, 1) := by decide +kernel
theorem dX8_ofCell_0 : decode cX8_ofCell 0 = .ok (.aload_n 0, 1) := by decide +kernel
theorem dX8_ofCell_1 : decode cX8_ofCell 1 = .ok (.iload_n 1, 1) := by decide +kernel
theorem dX8_ofCell_2 : decode cX8_ofCell 2 = .ok (.invokevirtual 141, 3) := by decide +kernel
theorem dX8_ofCell_5 : decode cX8_ofCell 5 = .ok (.astore 5, 2) := by decide +kernel
theorem dX8_ofCell_7 : decode cX8_ofCell 7 = .ok (.aload_n 0, 1) := by decide +kernel
theorem dX8_ofCell_8 : decode cX8_ofCell 8 = .ok (.iload_n 2, 1) := by decide +kernel
theorem dX8_ofCell_9 : decode cX8_ofCell 9 = .ok (.iload_n 3, 1) := by decide +kernel
theorem dX8_ofCell_10 : decode cX8_ofCell 10 = .ok (.invokevirtual 145, 3) := by decide +kernel
theorem dX8_ofCell_13 : decode cX8_ofCell 13 = .ok (.istore 6, 2) := by decide +kernel
theorem dX8_ofCell_15 : decode cX8_ofCell 15 = .ok (.iload 4, 2) := by decide +kernel
theorem dX8_ofCell_17 : decode cX8_ofCell 17 = .ok (.tableswitch 80 0 4 #[35, 44, 53, 62, 71], 35) := by decide +kernel
theorem dX8_ofCell_52 : decode cX8_ofCell 52 = .ok (.aload 5, 2) := by decide +kernel
theorem dX8_ofCell_54 : decode cX8_ofCell 54 = .ok (.getfield 326, 3) := by decide +kernel
theorem dX8_ofCell_57 : decode cX8_ofCell 57 = .ok (.iload 6, 2) := by decide +kernel
theorem dX8_ofCell_59 : decode cX8_ofCell 59 = .ok (.iaload, 1) := by decide +kernel
theorem dX8_ofCell_60 : decode cX8_ofCell 60 = .ok (.ireturn, 1) := by decide +kernel
theorem dX8_ofCell_61 : decode cX8_ofCell 61 = .ok (.aload 5, 2) := by decide +kernel
theorem dX8_ofCell_63 : decode cX8_ofCell 63 = .ok (.getfield 282, 3) := by decide +kernel
theorem dX8_ofCell_66 : decode cX8_ofCell 66 = .ok (.iload 6, 2) := by decide +kernel
theorem dX8_ofCell_68 : decode cX8_ofCell 68 = .ok (.iaload, 1) := by decide +kernel
theorem dX8_ofCell_69 : decode cX8_ofCell 69 = .ok (.ireturn, 1) := by decide +kernel
theorem dX8_ofCell_70 : decode cX8_ofCell 70 = .ok (.aload 5, 2) := by decide +kernel
theorem dX8_ofCell_72 : decode cX8_ofCell 72 = .ok (.getfield 292, 3) := by decide +kernel
theorem dX8_ofCell_75 : decode cX8_ofCell 75 = .ok (.iload 6, 2) := by decide +kernel
theorem dX8_ofCell_77 : decode cX8_ofCell 77 = .ok (.iaload, 1) := by decide +kernel
theorem dX8_ofCell_78 : decode cX8_ofCell 78 = .ok (.ireturn, 1) := by decide +kernel
theorem dX8_ofCell_79 : decode cX8_ofCell 79 = .ok (.aload 5, 2) := by decide +kernel
theorem dX8_ofCell_81 : decode cX8_ofCell 81 = .ok (.getfield 327, 3) := by decide +kernel
theorem dX8_ofCell_84 : decode cX8_ofCell 84 = .ok (.iload 6, 2) := by decide +kernel
theorem dX8_ofCell_86 : decode cX8_ofCell 86 = .ok (.iaload, 1) := by decide +kernel
theorem dX8_ofCell_87 : decode cX8_ofCell 87 = .ok (.ireturn, 1) := by decide +kernel
theorem dX8_ofCell_88 : decode cX8_ofCell 88 = .ok (.aload 5, 2) := by decide +kernel
theorem dX8_ofCell_90 : decode cX8_ofCell 90 = .ok (.getfield 154, 3) := by decide +kernel
theorem dX8_ofCell_93 : decode cX8_ofCell 93 = .ok (.iload 6, 2) := by decide +kernel
theorem dX8_ofCell_95 : decode cX8_ofCell 95 = .ok (.iaload, 1) := by decide +kernel
theorem dX8_ofCell_96 : decode cX8_ofCell 96 = .ok (.ireturn, 1) := by decide +kernel
theorem dX8_ofCell_97 : decode cX8_ofCell 97 = .ok (.new 87, 3) := by decide +kernel
theorem dX8_ofCell_100 : decode cX8_ofCell 100 = .ok (.dup, 1) := by decide +kernel
theorem dX8_ofCell_101 : decode cX8_ofCell 101 = .ok (.ldc_w 324, 3) := by decide +kernel
theorem dX8_ofCell_104 : decode cX8_ofCell 104 = .ok (.invokespecial 91, 3) := by decide +kernel
theorem dX8_ofCell_107 : decode cX8_ofCell 107 = .ok (.athrow, 1) := by decide +kernel
theorem dX8_ofPallet_0 : decode cX8_ofPallet 0 = .ok (.aload_n 0, 1) := by decide +kernel
theorem dX8_ofPallet_1 : decode cX8_ofPallet 1 = .ok (.iload_n 1, 1) := by decide +kernel
theorem dX8_ofPallet_2 : decode cX8_ofPallet 2 = .ok (.invokevirtual 141, 3) := by decide +kernel
theorem dX8_ofPallet_5 : decode cX8_ofPallet 5 = .ok (.astore_n 3, 1) := by decide +kernel
theorem dX8_ofPallet_6 : decode cX8_ofPallet 6 = .ok (.iload_n 2, 1) := by decide +kernel
theorem dX8_ofPallet_7 : decode cX8_ofPallet 7 = .ok (.tableswitch 50 0 3 #[29, 34, 39, 45], 29) := by decide +kernel
theorem dX8_ofPallet_36 : decode cX8_ofPallet 36 = .ok (.aload_n 3, 1) := by decide +kernel
theorem dX8_ofPallet_37 : decode cX8_ofPallet 37 = .ok (.getfield 151, 3) := by decide +kernel
theorem dX8_ofPallet_40 : decode cX8_ofPallet 40 = .ok (.ireturn, 1) := by decide +kernel
theorem dX8_ofPallet_41 : decode cX8_ofPallet 41 = .ok (.aload_n 3, 1) := by decide +kernel
theorem dX8_ofPallet_42 : decode cX8_ofPallet 42 = .ok (.getfield 199, 3) := by decide +kernel
theorem dX8_ofPallet_45 : decode cX8_ofPallet 45 = .ok (.ireturn, 1) := by decide +kernel
theorem dX8_ofPallet_46 : decode cX8_ofPallet 46 = .ok (.aload_n 0, 1) := by decide +kernel
theorem dX8_ofPallet_47 : decode cX8_ofPallet 47 = .ok (.aload_n 3, 1) := by decide +kernel
theorem dX8_ofPallet_48 : decode cX8_ofPallet 48 = .ok (.invokevirtual 330, 3) := by decide +kernel
theorem dX8_ofPallet_51 : decode cX8_ofPallet 51 = .ok (.ireturn, 1) := by decide +kernel
theorem dX8_ofPallet_52 : decode cX8_ofPallet 52 = .ok (.aload_n 3, 1) := by decide +kernel
theorem dX8_ofPallet_53 : decode cX8_ofPallet 53 = .ok (.getfield 304, 3) := by decide +kernel
theorem dX8_ofPallet_56 : decode cX8_ofPallet 56 = .ok (.ireturn, 1) := by decide +kernel
theorem dX8_ofPallet_57 : decode cX8_ofPallet 57 = .ok (.new 87, 3) := by decide +kernel
theorem dX8_ofPallet_60 : decode cX8_ofPallet 60 = .ok (.dup, 1) := by decide +kernel
theorem dX8_ofPallet_61 : decode cX8_ofPallet 61 = .ok (.ldc_w 324, 3) := by decide +kernel
theorem dX8_ofPallet_64 : decode cX8_ofPallet 64 = .ok (.invokespecial 91, 3) := by decide +kernel
theorem dX8_ofPallet_67 : decode cX8_ofPallet 67 = .ok (.athrow, 1) := by decide +kernel
theorem dX8_ofPaper_0 : decode cX8_ofPaper 0 = .ok (.aload_n 0, 1) := by decide +kernel
theorem dX8_ofPaper_1 : decode cX8_ofPaper 1 = .ok (.iload_n 1, 1) := by decide +kernel
theorem dX8_ofPaper_2 : decode cX8_ofPaper 2 = .ok (.invokevirtual 334, 3) := by decide +kernel
theorem dX8_ofPaper_5 : decode cX8_ofPaper 5 = .ok (.astore_n 3, 1) := by decide +kernel
theorem dX8_ofPaper_6 : decode cX8_ofPaper 6 = .ok (.iload_n 2, 1) := by decide +kernel
theorem dX8_ofPaper_7 : decode cX8_ofPaper 7 = .ok (.iconst 0, 1) := by decide +kernel
theorem dX8_ofPaper_8 : decode cX8_ofPaper 8 = .ok (.bipush 10, 2) := by decide +kernel
theorem dX8_ofPaper_10 : decode cX8_ofPaper 10 = .ok (.invokestatic 105, 3) := by decide +kernel
theorem dX8_ofPaper_13 : decode cX8_ofPaper 13 = .ok (.ifCond .ne 14, 3) := by decide +kernel
theorem dX8_ofPaper_16 : decode cX8_ofPaper 16 = .ok (.new 87, 3) := by decide +kernel
theorem dX8_ofPaper_19 : decode cX8_ofPaper 19 = .ok (.dup, 1) := by decide +kernel
theorem dX8_ofPaper_20 : decode cX8_ofPaper 20 = .ok (.ldc_w 324, 3) := by decide +kernel
theorem dX8_ofPaper_23 : decode cX8_ofPaper 23 = .ok (.invokespecial 91, 3) := by decide +kernel
theorem dX8_ofPaper_26 : decode cX8_ofPaper 26 = .ok (.athrow, 1) := by decide +kernel
theorem dX8_ofPaper_27 : decode cX8_ofPaper 27 = .ok (.iload_n 2, 1) := by decide +kernel
theorem dX8_ofPaper_28 : decode cX8_ofPaper 28 = .ok (.tableswitch 61 0 4 #[36, 41, 46, 51, 56], 36) := by decide +kernel
theorem dX8_ofPaper_64 : decode cX8_ofPaper 64 = .ok (.aload_n 3, 1) := by decide +kernel
theorem dX8_ofPaper_65 : decode cX8_ofPaper 65 = .ok (.getfield 338, 3) := by decide +kernel
theorem dX8_ofPaper_68 : decode cX8_ofPaper 68 = .ok (.ireturn, 1) := by decide +kernel
theorem dX8_ofPaper_69 : decode cX8_ofPaper 69 = .ok (.aload_n 3, 1) := by decide +kernel
theorem dX8_ofPaper_70 : decode cX8_ofPaper 70 = .ok (.getfield 341, 3) := by decide +kernel
theorem dX8_ofPaper_73 : decode cX8_ofPaper 73 = .ok (.ireturn, 1) := by decide +kernel
theorem dX8_ofPaper_74 : decode cX8_ofPaper 74 = .ok (.aload_n 3, 1) := by decide +kernel
theorem dX8_ofPaper_75 : decode cX8_ofPaper 75 = .ok (.invokevirtual 301, 3) := by decide +kernel
theorem dX8_ofPaper_78 : decode cX8_ofPaper 78 = .ok (.ireturn, 1) := by decide +kernel
theorem dX8_ofPaper_79 : decode cX8_ofPaper 79 = .ok (.aload_n 3, 1) := by decide +kernel
theorem dX8_ofPaper_80 : decode cX8_ofPaper 80 = .ok (.getfield 344, 3) := by decide +kernel
theorem dX8_ofPaper_83 : decode cX8_ofPaper 83 = .ok (.ireturn, 1) := by decide +kernel
theorem dX8_ofPaper_84 : decode cX8_ofPaper 84 = .ok (.aload_n 3, 1) := by decide +kernel
theorem dX8_ofPaper_85 : decode cX8_ofPaper 85 = .ok (.getfield 347, 3) := by decide +kernel
theorem dX8_ofPaper_88 : decode cX8_ofPaper 88 = .ok (.ireturn, 1) := by decide +kernel
theorem dX8_ofPaper_89 : decode cX8_ofPaper 89 = .ok (.aload_n 3, 1) := by decide +kernel
theorem dX8_ofPaper_90 : decode cX8_ofPaper 90 = .ok (.getfield 348, 3) := by decide +kernel
theorem dX8_ofPaper_93 : decode cX8_ofPaper 93 = .ok (.iload_n 2, 1) := by decide +kernel
theorem dX8_ofPaper_94 : decode cX8_ofPaper 94 = .ok (.iconst 5, 1) := by decide +kernel
theorem dX8_ofPaper_95 : decode cX8_ofPaper 95 = .ok (.isub, 1) := by decide +kernel
theorem dX8_ofPaper_96 : decode cX8_ofPaper 96 = .ok (.iaload, 1) := by decide +kernel
theorem dX8_ofPaper_97 : decode cX8_ofPaper 97 = .ok (.ireturn, 1) := by decide +kernel
theorem dX8_judgeAnew_0 : decode cX8_judgeAnew 0 = .ok (.aload_n 0, 1) := by decide +kernel
theorem dX8_judgeAnew_1 : decode cX8_judgeAnew 1 = .ok (.iload_n 1, 1) := by decide +kernel
theorem dX8_judgeAnew_2 : decode cX8_judgeAnew 2 = .ok (.invokevirtual 334, 3) := by decide +kernel
theorem dX8_judgeAnew_5 : decode cX8_judgeAnew 5 = .ok (.invokevirtual 301, 3) := by decide +kernel
theorem dX8_judgeAnew_8 : decode cX8_judgeAnew 8 = .ok (.ireturn, 1) := by decide +kernel
theorem dX8_programAt_0 : decode cX8_programAt 0 = .ok (.iload_n 1, 1) := by decide +kernel
theorem dX8_programAt_1 : decode cX8_programAt 1 = .ok (.ifCond .lt 17, 3) := by decide +kernel
theorem dX8_programAt_4 : decode cX8_programAt 4 = .ok (.iload_n 1, 1) := by decide +kernel
theorem dX8_programAt_5 : decode cX8_programAt 5 = .ok (.aload_n 0, 1) := by decide +kernel
theorem dX8_programAt_6 : decode cX8_programAt 6 = .ok (.getfield 44, 3) := by decide +kernel
theorem dX8_programAt_9 : decode cX8_programAt 9 = .ok (.getfield 62, 3) := by decide +kernel
theorem dX8_programAt_12 : decode cX8_programAt 12 = .ok (.invokevirtual 65, 3) := by decide +kernel
theorem dX8_programAt_15 : decode cX8_programAt 15 = .ok (.if_icmp .lt 14, 3) := by decide +kernel
theorem dX8_programAt_18 : decode cX8_programAt 18 = .ok (.new 252, 3) := by decide +kernel
theorem dX8_programAt_21 : decode cX8_programAt 21 = .ok (.dup, 1) := by decide +kernel
theorem dX8_programAt_22 : decode cX8_programAt 22 = .ok (.ldc_w 351, 3) := by decide +kernel
theorem dX8_programAt_25 : decode cX8_programAt 25 = .ok (.invokespecial 256, 3) := by decide +kernel
theorem dX8_programAt_28 : decode cX8_programAt 28 = .ok (.athrow, 1) := by decide +kernel
theorem dX8_programAt_29 : decode cX8_programAt 29 = .ok (.aload_n 0, 1) := by decide +kernel
theorem dX8_programAt_30 : decode cX8_programAt 30 = .ok (.getfield 44, 3) := by decide +kernel
theorem dX8_programAt_33 : decode cX8_programAt 33 = .ok (.getfield 62, 3) := by decide +kernel
theorem dX8_programAt_36 : decode cX8_programAt 36 = .ok (.iload_n 1, 1) := by decide +kernel
theorem dX8_programAt_37 : decode cX8_programAt 37 = .ok (.invokevirtual 179, 3) := by decide +kernel
theorem dX8_programAt_40 : decode cX8_programAt 40 = .ok (.checkcast 76, 3) := by decide +kernel
theorem dX8_programAt_43 : decode cX8_programAt 43 = .ok (.areturn, 1) := by decide +kernel
theorem dX8_toolAt_0 : decode cX8_toolAt 0 = .ok (.iload_n 1, 1) := by decide +kernel
theorem dX8_toolAt_1 : decode cX8_toolAt 1 = .ok (.ifCond .lt 14, 3) := by decide +kernel
theorem dX8_toolAt_4 : decode cX8_toolAt 4 = .ok (.iload_n 1, 1) := by decide +kernel
theorem dX8_toolAt_5 : decode cX8_toolAt 5 = .ok (.aload_n 0, 1) := by decide +kernel
theorem dX8_toolAt_6 : decode cX8_toolAt 6 = .ok (.getfield 12, 3) := by decide +kernel
theorem dX8_toolAt_9 : decode cX8_toolAt 9 = .ok (.invokevirtual 65, 3) := by decide +kernel
theorem dX8_toolAt_12 : decode cX8_toolAt 12 = .ok (.if_icmp .lt 14, 3) := by decide +kernel
theorem dX8_toolAt_15 : decode cX8_toolAt 15 = .ok (.new 252, 3) := by decide +kernel
theorem dX8_toolAt_18 : decode cX8_toolAt 18 = .ok (.dup, 1) := by decide +kernel
theorem dX8_toolAt_19 : decode cX8_toolAt 19 = .ok (.ldc_w 353, 3) := by decide +kernel
theorem dX8_toolAt_22 : decode cX8_toolAt 22 = .ok (.invokespecial 256, 3) := by decide +kernel
theorem dX8_toolAt_25 : decode cX8_toolAt 25 = .ok (.athrow, 1) := by decide +kernel
theorem dX8_toolAt_26 : decode cX8_toolAt 26 = .ok (.aload_n 0, 1) := by decide +kernel
theorem dX8_toolAt_27 : decode cX8_toolAt 27 = .ok (.getfield 12, 3) := by decide +kernel
theorem dX8_toolAt_30 : decode cX8_toolAt 30 = .ok (.iload_n 1, 1) := by decide +kernel
theorem dX8_toolAt_31 : decode cX8_toolAt 31 = .ok (.invokevirtual 179, 3) := by decide +kernel
theorem dX8_toolAt_34 : decode cX8_toolAt 34 = .ok (.checkcast 114, 3) := by decide +kernel
theorem dX8_toolAt_37 : decode cX8_toolAt 37 = .ok (.areturn, 1) := by decide +kernel
theorem dX8_palletAt_0 : decode cX8_palletAt 0 = .ok (.iload_n 1, 1) := by decide +kernel
theorem dX8_palletAt_1 : decode cX8_palletAt 1 = .ok (.ifCond .lt 14, 3) := by decide +kernel
theorem dX8_palletAt_4 : decode cX8_palletAt 4 = .ok (.iload_n 1, 1) := by decide +kernel
theorem dX8_palletAt_5 : decode cX8_palletAt 5 = .ok (.aload_n 0, 1) := by decide +kernel
theorem dX8_palletAt_6 : decode cX8_palletAt 6 = .ok (.getfield 16, 3) := by decide +kernel
theorem dX8_palletAt_9 : decode cX8_palletAt 9 = .ok (.invokevirtual 65, 3) := by decide +kernel
theorem dX8_palletAt_12 : decode cX8_palletAt 12 = .ok (.if_icmp .lt 14, 3) := by decide +kernel
theorem dX8_palletAt_15 : decode cX8_palletAt 15 = .ok (.new 252, 3) := by decide +kernel
theorem dX8_palletAt_18 : decode cX8_palletAt 18 = .ok (.dup, 1) := by decide +kernel
theorem dX8_palletAt_19 : decode cX8_palletAt 19 = .ok (.ldc_w 355, 3) := by decide +kernel
theorem dX8_palletAt_22 : decode cX8_palletAt 22 = .ok (.invokespecial 256, 3) := by decide +kernel
theorem dX8_palletAt_25 : decode cX8_palletAt 25 = .ok (.athrow, 1) := by decide +kernel
theorem dX8_palletAt_26 : decode cX8_palletAt 26 = .ok (.aload_n 0, 1) := by decide +kernel
theorem dX8_palletAt_27 : decode cX8_palletAt 27 = .ok (.getfield 16, 3) := by decide +kernel
theorem dX8_palletAt_30 : decode cX8_palletAt 30 = .ok (.iload_n 1, 1) := by decide +kernel
theorem dX8_palletAt_31 : decode cX8_palletAt 31 = .ok (.invokevirtual 179, 3) := by decide +kernel
theorem dX8_palletAt_34 : decode cX8_palletAt 34 = .ok (.checkcast 136, 3) := by decide +kernel
theorem dX8_palletAt_37 : decode cX8_palletAt 37 = .ok (.areturn, 1) := by decide +kernel
theorem dX8_cellAt_0 : decode cX8_cellAt 0 = .ok (.iload_n 1, 1) := by decide +kernel
theorem dX8_cellAt_1 : decode cX8_cellAt 1 = .ok (.iconst 0, 1) := by decide +kernel
theorem dX8_cellAt_2 : decode cX8_cellAt 2 = .ok (.bipush 11, 2) := by decide +kernel
theorem dX8_cellAt_4 : decode cX8_cellAt 4 = .ok (.invokestatic 105, 3) := by decide +kernel
theorem dX8_cellAt_7 : decode cX8_cellAt 7 = .ok (.ifCond .eq 13, 3) := by decide +kernel
theorem dX8_cellAt_10 : decode cX8_cellAt 10 = .ok (.iload_n 2, 1) := by decide +kernel
theorem dX8_cellAt_11 : decode cX8_cellAt 11 = .ok (.iconst 0, 1) := by decide +kernel
theorem dX8_cellAt_12 : decode cX8_cellAt 12 = .ok (.bipush 11, 2) := by decide +kernel
theorem dX8_cellAt_14 : decode cX8_cellAt 14 = .ok (.invokestatic 105, 3) := by decide +kernel
theorem dX8_cellAt_17 : decode cX8_cellAt 17 = .ok (.ifCond .ne 14, 3) := by decide +kernel
theorem dX8_cellAt_20 : decode cX8_cellAt 20 = .ok (.new 252, 3) := by decide +kernel
theorem dX8_cellAt_23 : decode cX8_cellAt 23 = .ok (.dup, 1) := by decide +kernel
theorem dX8_cellAt_24 : decode cX8_cellAt 24 = .ok (.ldc_w 357, 3) := by decide +kernel
theorem dX8_cellAt_27 : decode cX8_cellAt 27 = .ok (.invokespecial 256, 3) := by decide +kernel
theorem dX8_cellAt_30 : decode cX8_cellAt 30 = .ok (.athrow, 1) := by decide +kernel
theorem dX8_cellAt_31 : decode cX8_cellAt 31 = .ok (.iload_n 2, 1) := by decide +kernel
theorem dX8_cellAt_32 : decode cX8_cellAt 32 = .ok (.bipush 12, 2) := by decide +kernel
theorem dX8_cellAt_34 : decode cX8_cellAt 34 = .ok (.imul, 1) := by decide +kernel
theorem dX8_cellAt_35 : decode cX8_cellAt 35 = .ok (.iload_n 1, 1) := by decide +kernel
theorem dX8_cellAt_36 : decode cX8_cellAt 36 = .ok (.iadd, 1) := by decide +kernel
theorem dX8_cellAt_37 : decode cX8_cellAt 37 = .ok (.ireturn, 1) := by decide +kernel
theorem dX8_gaugeAt_0 : decode cX8_gaugeAt 0 = .ok (.iload_n 1, 1) := by decide +kernel
theorem dX8_gaugeAt_1 : decode cX8_gaugeAt 1 = .ok (.ifCond .lt 14, 3) := by decide +kernel
theorem dX8_gaugeAt_4 : decode cX8_gaugeAt 4 = .ok (.iload_n 1, 1) := by decide +kernel
theorem dX8_gaugeAt_5 : decode cX8_gaugeAt 5 = .ok (.aload_n 0, 1) := by decide +kernel
theorem dX8_gaugeAt_6 : decode cX8_gaugeAt 6 = .ok (.getfield 22, 3) := by decide +kernel
theorem dX8_gaugeAt_9 : decode cX8_gaugeAt 9 = .ok (.invokevirtual 65, 3) := by decide +kernel
theorem dX8_gaugeAt_12 : decode cX8_gaugeAt 12 = .ok (.if_icmp .lt 14, 3) := by decide +kernel
theorem dX8_gaugeAt_15 : decode cX8_gaugeAt 15 = .ok (.new 252, 3) := by decide +kernel
theorem dX8_gaugeAt_18 : decode cX8_gaugeAt 18 = .ok (.dup, 1) := by decide +kernel
theorem dX8_gaugeAt_19 : decode cX8_gaugeAt 19 = .ok (.ldc_w 359, 3) := by decide +kernel
theorem dX8_gaugeAt_22 : decode cX8_gaugeAt 22 = .ok (.invokespecial 256, 3) := by decide +kernel
theorem dX8_gaugeAt_25 : decode cX8_gaugeAt 25 = .ok (.athrow, 1) := by decide +kernel
theorem dX8_gaugeAt_26 : decode cX8_gaugeAt 26 = .ok (.aload_n 0, 1) := by decide +kernel
theorem dX8_gaugeAt_27 : decode cX8_gaugeAt 27 = .ok (.getfield 22, 3) := by decide +kernel
theorem dX8_gaugeAt_30 : decode cX8_gaugeAt 30 = .ok (.iload_n 1, 1) := by decide +kernel
theorem dX8_gaugeAt_31 : decode cX8_gaugeAt 31 = .ok (.invokevirtual 179, 3) := by decide +kernel
theorem dX8_gaugeAt_34 : decode cX8_gaugeAt 34 = .ok (.checkcast 55, 3) := by decide +kernel
theorem dX8_gaugeAt_37 : decode cX8_gaugeAt 37 = .ok (.areturn, 1) := by decide +kernel
theorem dX8_drawingAt_0 : decode cX8_drawingAt 0 = .ok (.iload_n 1, 1) := by decide +kernel
theorem dX8_drawingAt_1 : decode cX8_drawingAt 1 = .ok (.ifCond .lt 14, 3) := by decide +kernel
theorem dX8_drawingAt_4 : decode cX8_drawingAt 4 = .ok (.iload_n 1, 1) := by decide +kernel
theorem dX8_drawingAt_5 : decode cX8_drawingAt 5 = .ok (.aload_n 0, 1) := by decide +kernel
theorem dX8_drawingAt_6 : decode cX8_drawingAt 6 = .ok (.getfield 25, 3) := by decide +kernel
theorem dX8_drawingAt_9 : decode cX8_drawingAt 9 = .ok (.invokevirtual 65, 3) := by decide +kernel
theorem dX8_drawingAt_12 : decode cX8_drawingAt 12 = .ok (.if_icmp .lt 14, 3) := by decide +kernel
theorem dX8_drawingAt_15 : decode cX8_drawingAt 15 = .ok (.new 252, 3) := by decide +kernel
theorem dX8_drawingAt_18 : decode cX8_drawingAt 18 = .ok (.dup, 1) := by decide +kernel
theorem dX8_drawingAt_19 : decode cX8_drawingAt 19 = .ok (.ldc_w 361, 3) := by decide +kernel
theorem dX8_drawingAt_22 : decode cX8_drawingAt 22 = .ok (.invokespecial 256, 3) := by decide +kernel
theorem dX8_drawingAt_25 : decode cX8_drawingAt 25 = .ok (.athrow, 1) := by decide +kernel
theorem dX8_drawingAt_26 : decode cX8_drawingAt 26 = .ok (.aload_n 0, 1) := by decide +kernel
theorem dX8_drawingAt_27 : decode cX8_drawingAt 27 = .ok (.getfield 25, 3) := by decide +kernel
theorem dX8_drawingAt_30 : decode cX8_drawingAt 30 = .ok (.iload_n 1, 1) := by decide +kernel
theorem dX8_drawingAt_31 : decode cX8_drawingAt 31 = .ok (.invokevirtual 179, 3) := by decide +kernel
theorem dX8_drawingAt_34 : decode cX8_drawingAt 34 = .ok (.checkcast 238, 3) := by decide +kernel
theorem dX8_drawingAt_37 : decode cX8_drawingAt 37 = .ok (.areturn, 1) := by decide +kernel
theorem dX8_paperAt_0 : decode cX8_paperAt 0 = .ok (.iload_n 1, 1) := by decide +kernel
theorem dX8_paperAt_1 : decode cX8_paperAt 1 = .ok (.ifCond .lt 14, 3) := by decide +kernel
theorem dX8_paperAt_4 : decode cX8_paperAt 4 = .ok (.iload_n 1, 1) := by decide +kernel
theorem dX8_paperAt_5 : decode cX8_paperAt 5 = .ok (.aload_n 0, 1) := by decide +kernel
theorem dX8_paperAt_6 : decode cX8_paperAt 6 = .ok (.getfield 28, 3) := by decide +kernel
theorem dX8_paperAt_9 : decode cX8_paperAt 9 = .ok (.invokevirtual 65, 3) := by decide +kernel
theorem dX8_paperAt_12 : decode cX8_paperAt 12 = .ok (.if_icmp .lt 14, 3) := by decide +kernel
theorem dX8_paperAt_15 : decode cX8_paperAt 15 = .ok (.new 252, 3) := by decide +kernel
theorem dX8_paperAt_18 : decode cX8_paperAt 18 = .ok (.dup, 1) := by decide +kernel
theorem dX8_paperAt_19 : decode cX8_paperAt 19 = .ok (.ldc_w 363, 3) := by decide +kernel
theorem dX8_paperAt_22 : decode cX8_paperAt 22 = .ok (.invokespecial 256, 3) := by decide +kernel
theorem dX8_paperAt_25 : decode cX8_paperAt 25 = .ok (.athrow, 1) := by decide +kernel
theorem dX8_paperAt_26 : decode cX8_paperAt 26 = .ok (.aload_n 0, 1) := by decide +kernel
theorem dX8_paperAt_27 : decode cX8_paperAt 27 = .ok (.getfield 28, 3) := by decide +kernel
theorem dX8_paperAt_30 : decode cX8_paperAt 30 = .ok (.iload_n 1, 1) := by decide +kernel
theorem dX8_paperAt_31 : decode cX8_paperAt 31 = .ok (.invokevirtual 179, 3) := by decide +kernel
theorem dX8_paperAt_34 : decode cX8_paperAt 34 = .ok (.checkcast 274, 3) := by decide +kernel
theorem dX8_paperAt_37 : decode cX8_paperAt 37 = .ok (.areturn, 1) := by decide +kernel
theorem dX8_isWithin_0 : decode cX8_isWithin 0 = .ok (.iload_n 0, 1) := by decide +kernel
theorem dX8_isWithin_1 : decode cX8_isWithin 1 = .ok (.iload_n 1, 1) := by decide +kernel
theorem dX8_isWithin_2 : decode cX8_isWithin 2 = .ok (.if_icmp .lt 12, 3) := by decide +kernel
theorem dX8_isWithin_5 : decode cX8_isWithin 5 = .ok (.iload_n 0, 1) := by decide +kernel
theorem dX8_isWithin_6 : decode cX8_isWithin 6 = .ok (.iload_n 2, 1) := by decide +kernel
theorem dX8_isWithin_7 : decode cX8_isWithin 7 = .ok (.if_icmp .gt 7, 3) := by decide +kernel
theorem dX8_isWithin_10 : decode cX8_isWithin 10 = .ok (.iconst 1, 1) := by decide +kernel
theorem dX8_isWithin_11 : decode cX8_isWithin 11 = .ok (.goto 4, 3) := by decide +kernel
theorem dX8_isWithin_14 : decode cX8_isWithin 14 = .ok (.iconst 0, 1) := by decide +kernel
theorem dX8_isWithin_15 : decode cX8_isWithin 15 = .ok (.ireturn, 1) := by decide +kernel
theorem dX8_isBlock_0 : decode cX8_isBlock 0 = .ok (.iload_n 1, 1) := by decide +kernel
theorem dX8_isBlock_1 : decode cX8_isBlock 1 = .ok (.tableswitch 75 0 6 #[43, 43, 50, 50, 50, 59, 66], 43) := by decide +kernel
theorem dX8_isBlock_44 : decode cX8_isBlock 44 = .ok (.iload_n 2, 1) := by decide +kernel
theorem dX8_isBlock_45 : decode cX8_isBlock 45 = .ok (.iconst 0, 1) := by decide +kernel
theorem dX8_isBlock_46 : decode cX8_isBlock 46 = .ok (.iconst 1, 1) := by decide +kernel
theorem dX8_isBlock_47 : decode cX8_isBlock 47 = .ok (.invokestatic 105, 3) := by decide +kernel
theorem dX8_isBlock_50 : decode cX8_isBlock 50 = .ok (.ireturn, 1) := by decide +kernel
theorem dX8_isBlock_51 : decode cX8_isBlock 51 = .ok (.iload_n 2, 1) := by decide +kernel
theorem dX8_isBlock_52 : decode cX8_isBlock 52 = .ok (.bipush (-11), 2) := by decide +kernel
theorem dX8_isBlock_54 : decode cX8_isBlock 54 = .ok (.bipush 11, 2) := by decide +kernel
theorem dX8_isBlock_56 : decode cX8_isBlock 56 = .ok (.invokestatic 105, 3) := by decide +kernel
theorem dX8_isBlock_59 : decode cX8_isBlock 59 = .ok (.ireturn, 1) := by decide +kernel
theorem dX8_isBlock_60 : decode cX8_isBlock 60 = .ok (.iload_n 2, 1) := by decide +kernel
theorem dX8_isBlock_61 : decode cX8_isBlock 61 = .ok (.iconst 0, 1) := by decide +kernel
theorem dX8_isBlock_62 : decode cX8_isBlock 62 = .ok (.iconst 3, 1) := by decide +kernel
theorem dX8_isBlock_63 : decode cX8_isBlock 63 = .ok (.invokestatic 105, 3) := by decide +kernel
theorem dX8_isBlock_66 : decode cX8_isBlock 66 = .ok (.ireturn, 1) := by decide +kernel
theorem dX8_isBlock_67 : decode cX8_isBlock 67 = .ok (.iload_n 2, 1) := by decide +kernel
theorem dX8_isBlock_68 : decode cX8_isBlock 68 = .ok (.iconst 0, 1) := by decide +kernel
theorem dX8_isBlock_69 : decode cX8_isBlock 69 = .ok (.iload_n 0, 1) := by decide +kernel
theorem dX8_isBlock_70 : decode cX8_isBlock 70 = .ok (.iconst 1, 1) := by decide +kernel
theorem dX8_isBlock_71 : decode cX8_isBlock 71 = .ok (.isub, 1) := by decide +kernel
theorem dX8_isBlock_72 : decode cX8_isBlock 72 = .ok (.invokestatic 105, 3) := by decide +kernel
theorem dX8_isBlock_75 : decode cX8_isBlock 75 = .ok (.ireturn, 1) := by decide +kernel
theorem dX8_isBlock_76 : decode cX8_isBlock 76 = .ok (.iconst 0, 1) := by decide +kernel
theorem dX8_isBlock_77 : decode cX8_isBlock 77 = .ok (.ireturn, 1) := by decide +kernel
theorem dX8_placeInQueue_0 : decode cX8_placeInQueue 0 = .ok (.iconst 0, 1) := by decide +kernel
theorem dX8_placeInQueue_1 : decode cX8_placeInQueue 1 = .ok (.istore_n 2, 1) := by decide +kernel
theorem dX8_placeInQueue_2 : decode cX8_placeInQueue 2 = .ok (.iload_n 2, 1) := by decide +kernel
theorem dX8_placeInQueue_3 : decode cX8_placeInQueue 3 = .ok (.aload_n 0, 1) := by decide +kernel
theorem dX8_placeInQueue_4 : decode cX8_placeInQueue 4 = .ok (.getfield 19, 3) := by decide +kernel
theorem dX8_placeInQueue_7 : decode cX8_placeInQueue 7 = .ok (.invokevirtual 65, 3) := by decide +kernel
theorem dX8_placeInQueue_10 : decode cX8_placeInQueue 10 = .ok (.if_icmp .ge 23, 3) := by decide +kernel
theorem dX8_placeInQueue_13 : decode cX8_placeInQueue 13 = .ok (.aload_n 0, 1) := by decide +kernel
theorem dX8_placeInQueue_14 : decode cX8_placeInQueue 14 = .ok (.getfield 19, 3) := by decide +kernel
theorem dX8_placeInQueue_17 : decode cX8_placeInQueue 17 = .ok (.iload_n 2, 1) := by decide +kernel
theorem dX8_placeInQueue_18 : decode cX8_placeInQueue 18 = .ok (.invokevirtual 179, 3) := by decide +kernel
theorem dX8_placeInQueue_21 : decode cX8_placeInQueue 21 = .ok (.aload_n 1, 1) := by decide +kernel
theorem dX8_placeInQueue_22 : decode cX8_placeInQueue 22 = .ok (.if_acmp .ne 5, 3) := by decide +kernel
theorem dX8_placeInQueue_25 : decode cX8_placeInQueue 25 = .ok (.iload_n 2, 1) := by decide +kernel
theorem dX8_placeInQueue_26 : decode cX8_placeInQueue 26 = .ok (.ireturn, 1) := by decide +kernel
theorem dX8_placeInQueue_27 : decode cX8_placeInQueue 27 = .ok (.iinc 2 1, 3) := by decide +kernel
theorem dX8_placeInQueue_30 : decode cX8_placeInQueue 30 = .ok (.goto (-28), 3) := by decide +kernel
theorem dX8_placeInQueue_33 : decode cX8_placeInQueue 33 = .ok (.iconst (-1), 1) := by decide +kernel
theorem dX8_placeInQueue_34 : decode cX8_placeInQueue 34 = .ok (.ireturn, 1) := by decide +kernel
theorem dX8_countLoaded_0 : decode cX8_countLoaded 0 = .ok (.iconst 0, 1) := by decide +kernel
theorem dX8_countLoaded_1 : decode cX8_countLoaded 1 = .ok (.istore_n 1, 1) := by decide +kernel
theorem dX8_countLoaded_2 : decode cX8_countLoaded 2 = .ok (.iconst 0, 1) := by decide +kernel
theorem dX8_countLoaded_3 : decode cX8_countLoaded 3 = .ok (.istore_n 2, 1) := by decide +kernel
theorem dX8_countLoaded_4 : decode cX8_countLoaded 4 = .ok (.iload_n 2, 1) := by decide +kernel
theorem dX8_countLoaded_5 : decode cX8_countLoaded 5 = .ok (.aload_n 0, 1) := by decide +kernel
theorem dX8_countLoaded_6 : decode cX8_countLoaded 6 = .ok (.getfield 12, 3) := by decide +kernel
theorem dX8_countLoaded_9 : decode cX8_countLoaded 9 = .ok (.invokevirtual 65, 3) := by decide +kernel
theorem dX8_countLoaded_12 : decode cX8_countLoaded 12 = .ok (.if_icmp .ge 34, 3) := by decide +kernel
theorem dX8_countLoaded_15 : decode cX8_countLoaded 15 = .ok (.iload_n 1, 1) := by decide +kernel
theorem dX8_countLoaded_16 : decode cX8_countLoaded 16 = .ok (.aload_n 0, 1) := by decide +kernel
theorem dX8_countLoaded_17 : decode cX8_countLoaded 17 = .ok (.getfield 12, 3) := by decide +kernel
theorem dX8_countLoaded_20 : decode cX8_countLoaded 20 = .ok (.iload_n 2, 1) := by decide +kernel
theorem dX8_countLoaded_21 : decode cX8_countLoaded 21 = .ok (.invokevirtual 179, 3) := by decide +kernel
theorem dX8_countLoaded_24 : decode cX8_countLoaded 24 = .ok (.checkcast 114, 3) := by decide +kernel
theorem dX8_countLoaded_27 : decode cX8_countLoaded 27 = .ok (.getfield 123, 3) := by decide +kernel
theorem dX8_countLoaded_30 : decode cX8_countLoaded 30 = .ok (.ifCond .eq 7, 3) := by decide +kernel
theorem dX8_countLoaded_33 : decode cX8_countLoaded 33 = .ok (.iconst 1, 1) := by decide +kernel
theorem dX8_countLoaded_34 : decode cX8_countLoaded 34 = .ok (.goto 4, 3) := by decide +kernel
theorem dX8_countLoaded_37 : decode cX8_countLoaded 37 = .ok (.iconst 0, 1) := by decide +kernel
theorem dX8_countLoaded_38 : decode cX8_countLoaded 38 = .ok (.iadd, 1) := by decide +kernel
theorem dX8_countLoaded_39 : decode cX8_countLoaded 39 = .ok (.istore_n 1, 1) := by decide +kernel
theorem dX8_countLoaded_40 : decode cX8_countLoaded 40 = .ok (.iinc 2 1, 3) := by decide +kernel
theorem dX8_countLoaded_43 : decode cX8_countLoaded 43 = .ok (.goto (-39), 3) := by decide +kernel
theorem dX8_countLoaded_46 : decode cX8_countLoaded 46 = .ok (.iload_n 1, 1) := by decide +kernel
theorem dX8_countLoaded_47 : decode cX8_countLoaded 47 = .ok (.ireturn, 1) := by decide +kernel
theorem dX8_countLeft_0 : decode cX8_countLeft 0 = .ok (.iconst 0, 1) := by decide +kernel
theorem dX8_countLeft_1 : decode cX8_countLeft 1 = .ok (.istore_n 2, 1) := by decide +kernel
theorem dX8_countLeft_2 : decode cX8_countLeft 2 = .ok (.iconst 0, 1) := by decide +kernel
theorem dX8_countLeft_3 : decode cX8_countLeft 3 = .ok (.istore_n 3, 1) := by decide +kernel
theorem dX8_countLeft_4 : decode cX8_countLeft 4 = .ok (.iload_n 3, 1) := by decide +kernel
theorem dX8_countLeft_5 : decode cX8_countLeft 5 = .ok (.aload_n 0, 1) := by decide +kernel
theorem dX8_countLeft_6 : decode cX8_countLeft 6 = .ok (.getfield 12, 3) := by decide +kernel
theorem dX8_countLeft_9 : decode cX8_countLeft 9 = .ok (.invokevirtual 65, 3) := by decide +kernel
theorem dX8_countLeft_12 : decode cX8_countLeft 12 = .ok (.if_icmp .ge 27, 3) := by decide +kernel
theorem dX8_countLeft_15 : decode cX8_countLeft 15 = .ok (.iload_n 2, 1) := by decide +kernel
theorem dX8_countLeft_16 : decode cX8_countLeft 16 = .ok (.aload_n 0, 1) := by decide +kernel
theorem dX8_countLeft_17 : decode cX8_countLeft 17 = .ok (.getfield 12, 3) := by decide +kernel
theorem dX8_countLeft_20 : decode cX8_countLeft 20 = .ok (.iload_n 3, 1) := by decide +kernel
theorem dX8_countLeft_21 : decode cX8_countLeft 21 = .ok (.invokevirtual 179, 3) := by decide +kernel
theorem dX8_countLeft_24 : decode cX8_countLeft 24 = .ok (.checkcast 114, 3) := by decide +kernel
theorem dX8_countLeft_27 : decode cX8_countLeft 27 = .ok (.iload_n 1, 1) := by decide +kernel
theorem dX8_countLeft_28 : decode cX8_countLeft 28 = .ok (.invokevirtual 365, 3) := by decide +kernel
theorem dX8_countLeft_31 : decode cX8_countLeft 31 = .ok (.iadd, 1) := by decide +kernel
theorem dX8_countLeft_32 : decode cX8_countLeft 32 = .ok (.istore_n 2, 1) := by decide +kernel
theorem dX8_countLeft_33 : decode cX8_countLeft 33 = .ok (.iinc 3 1, 3) := by decide +kernel
theorem dX8_countLeft_36 : decode cX8_countLeft 36 = .ok (.goto (-32), 3) := by decide +kernel
theorem dX8_countLeft_39 : decode cX8_countLeft 39 = .ok (.iload_n 2, 1) := by decide +kernel
theorem dX8_countLeft_40 : decode cX8_countLeft 40 = .ok (.ireturn, 1) := by decide +kernel
theorem dX8_lowestToolFor_0 : decode cX8_lowestToolFor 0 = .ok (.iconst 0, 1) := by decide +kernel
theorem dX8_lowestToolFor_1 : decode cX8_lowestToolFor 1 = .ok (.istore_n 2, 1) := by decide +kernel
theorem dX8_lowestToolFor_2 : decode cX8_lowestToolFor 2 = .ok (.iload_n 2, 1) := by decide +kernel
theorem dX8_lowestToolFor_3 : decode cX8_lowestToolFor 3 = .ok (.aload_n 0, 1) := by decide +kernel
theorem dX8_lowestToolFor_4 : decode cX8_lowestToolFor 4 = .ok (.getfield 12, 3) := by decide +kernel
theorem dX8_lowestToolFor_7 : decode cX8_lowestToolFor 7 = .ok (.invokevirtual 65, 3) := by decide +kernel
theorem dX8_lowestToolFor_10 : decode cX8_lowestToolFor 10 = .ok (.if_icmp .ge 39, 3) := by decide +kernel
theorem dX8_lowestToolFor_13 : decode cX8_lowestToolFor 13 = .ok (.aload_n 0, 1) := by decide +kernel
theorem dX8_lowestToolFor_14 : decode cX8_lowestToolFor 14 = .ok (.getfield 12, 3) := by decide +kernel
theorem dX8_lowestToolFor_17 : decode cX8_lowestToolFor 17 = .ok (.iload_n 2, 1) := by decide +kernel
theorem dX8_lowestToolFor_18 : decode cX8_lowestToolFor 18 = .ok (.invokevirtual 179, 3) := by decide +kernel
theorem dX8_lowestToolFor_21 : decode cX8_lowestToolFor 21 = .ok (.checkcast 114, 3) := by decide +kernel
theorem dX8_lowestToolFor_24 : decode cX8_lowestToolFor 24 = .ok (.iload_n 1, 1) := by decide +kernel
theorem dX8_lowestToolFor_25 : decode cX8_lowestToolFor 25 = .ok (.invokevirtual 365, 3) := by decide +kernel
theorem dX8_lowestToolFor_28 : decode cX8_lowestToolFor 28 = .ok (.ifCond .le 15, 3) := by decide +kernel
theorem dX8_lowestToolFor_31 : decode cX8_lowestToolFor 31 = .ok (.aload_n 0, 1) := by decide +kernel
theorem dX8_lowestToolFor_32 : decode cX8_lowestToolFor 32 = .ok (.getfield 12, 3) := by decide +kernel
theorem dX8_lowestToolFor_35 : decode cX8_lowestToolFor 35 = .ok (.iload_n 2, 1) := by decide +kernel
theorem dX8_lowestToolFor_36 : decode cX8_lowestToolFor 36 = .ok (.invokevirtual 179, 3) := by decide +kernel
theorem dX8_lowestToolFor_39 : decode cX8_lowestToolFor 39 = .ok (.checkcast 114, 3) := by decide +kernel
theorem dX8_lowestToolFor_42 : decode cX8_lowestToolFor 42 = .ok (.areturn, 1) := by decide +kernel
theorem dX8_lowestToolFor_43 : decode cX8_lowestToolFor 43 = .ok (.iinc 2 1, 3) := by decide +kernel
theorem dX8_lowestToolFor_46 : decode cX8_lowestToolFor 46 = .ok (.goto (-44), 3) := by decide +kernel
theorem dX8_lowestToolFor_49 : decode cX8_lowestToolFor 49 = .ok (.aconst_null, 1) := by decide +kernel
theorem dX8_lowestToolFor_50 : decode cX8_lowestToolFor 50 = .ok (.areturn, 1) := by decide +kernel
theorem dX8_tell_0 : decode cX8_tell 0 = .ok (.iload_n 1, 1) := by decide +kernel
theorem dX8_tell_1 : decode cX8_tell 1 = .ok (.ifCond .lt 29, 3) := by decide +kernel
theorem dX8_tell_4 : decode cX8_tell 4 = .ok (.iload_n 1, 1) := by decide +kernel
theorem dX8_tell_5 : decode cX8_tell 5 = .ok (.aload_n 0, 1) := by decide +kernel
theorem dX8_tell_6 : decode cX8_tell 6 = .ok (.getfield 12, 3) := by decide +kernel
theorem dX8_tell_9 : decode cX8_tell 9 = .ok (.invokevirtual 65, 3) := by decide +kernel
theorem dX8_tell_12 : decode cX8_tell 12 = .ok (.if_icmp .ge 18, 3) := by decide +kernel
theorem dX8_tell_15 : decode cX8_tell 15 = .ok (.aload_n 0, 1) := by decide +kernel
theorem dX8_tell_16 : decode cX8_tell 16 = .ok (.getfield 12, 3) := by decide +kernel
theorem dX8_tell_19 : decode cX8_tell 19 = .ok (.iload_n 1, 1) := by decide +kernel
theorem dX8_tell_20 : decode cX8_tell 20 = .ok (.invokevirtual 179, 3) := by decide +kernel
theorem dX8_tell_23 : decode cX8_tell 23 = .ok (.checkcast 114, 3) := by decide +kernel
theorem dX8_tell_26 : decode cX8_tell 26 = .ok (.iload_n 2, 1) := by decide +kernel
theorem dX8_tell_27 : decode cX8_tell 27 = .ok (.invokevirtual 368, 3) := by decide +kernel
theorem dX8_tell_30 : decode cX8_tell 30 = .ok (.return_, 1) := by decide +kernel
theorem dX8_tryWhole_0 : decode cX8_tryWhole 0 = .ok (.aload_n 0, 1) := by decide +kernel
theorem dX8_tryWhole_1 : decode cX8_tryWhole 1 = .ok (.iload_n 1, 1) := by decide +kernel
theorem dX8_tryWhole_2 : decode cX8_tryWhole 2 = .ok (.invokevirtual 141, 3) := by decide +kernel
theorem dX8_tryWhole_5 : decode cX8_tryWhole 5 = .ok (.astore_n 3, 1) := by decide +kernel
theorem dX8_tryWhole_6 : decode cX8_tryWhole 6 = .ok (.aload_n 0, 1) := by decide +kernel
theorem dX8_tryWhole_7 : decode cX8_tryWhole 7 = .ok (.iload_n 2, 1) := by decide +kernel
theorem dX8_tryWhole_8 : decode cX8_tryWhole 8 = .ok (.invokevirtual 79, 3) := by decide +kernel
theorem dX8_tryWhole_11 : decode cX8_tryWhole 11 = .ok (.pop, 1) := by decide +kernel
theorem dX8_tryWhole_12 : decode cX8_tryWhole 12 = .ok (.aload_n 0, 1) := by decide +kernel
theorem dX8_tryWhole_13 : decode cX8_tryWhole 13 = .ok (.getfield 51, 3) := by decide +kernel
theorem dX8_tryWhole_16 : decode cX8_tryWhole 16 = .ok (.aload_n 0, 1) := by decide +kernel
theorem dX8_tryWhole_17 : decode cX8_tryWhole 17 = .ok (.getfield 44, 3) := by decide +kernel
theorem dX8_tryWhole_20 : decode cX8_tryWhole 20 = .ok (.aload_n 3, 1) := by decide +kernel
theorem dX8_tryWhole_21 : decode cX8_tryWhole 21 = .ok (.iload_n 2, 1) := by decide +kernel
theorem dX8_tryWhole_22 : decode cX8_tryWhole 22 = .ok (.iconst 0, 1) := by decide +kernel
theorem dX8_tryWhole_23 : decode cX8_tryWhole 23 = .ok (.invokevirtual 202, 3) := by decide +kernel
theorem dX8_tryWhole_26 : decode cX8_tryWhole 26 = .ok (.return_, 1) := by decide +kernel
theorem dX8_isEnoughFor_0 : decode cX8_isEnoughFor 0 = .ok (.aload_n 0, 1) := by decide +kernel
theorem dX8_isEnoughFor_1 : decode cX8_isEnoughFor 1 = .ok (.getfield 51, 3) := by decide +kernel
theorem dX8_isEnoughFor_4 : decode cX8_isEnoughFor 4 = .ok (.aload_n 0, 1) := by decide +kernel
theorem dX8_isEnoughFor_5 : decode cX8_isEnoughFor 5 = .ok (.getfield 44, 3) := by decide +kernel
theorem dX8_isEnoughFor_8 : decode cX8_isEnoughFor 8 = .ok (.aload_n 1, 1) := by decide +kernel
theorem dX8_isEnoughFor_9 : decode cX8_isEnoughFor 9 = .ok (.aload_n 1, 1) := by decide +kernel
theorem dX8_isEnoughFor_10 : decode cX8_isEnoughFor 10 = .ok (.getfield 176, 3) := by decide +kernel
theorem dX8_isEnoughFor_13 : decode cX8_isEnoughFor 13 = .ok (.aload_n 1, 1) := by decide +kernel
theorem dX8_isEnoughFor_14 : decode cX8_isEnoughFor 14 = .ok (.getfield 199, 3) := by decide +kernel
theorem dX8_isEnoughFor_17 : decode cX8_isEnoughFor 17 = .ok (.invokevirtual 202, 3) := by decide +kernel
theorem dX8_isEnoughFor_20 : decode cX8_isEnoughFor 20 = .ok (.iconst 0, 1) := by decide +kernel
theorem dX8_isEnoughFor_21 : decode cX8_isEnoughFor 21 = .ok (.istore_n 2, 1) := by decide +kernel
theorem dX8_isEnoughFor_22 : decode cX8_isEnoughFor 22 = .ok (.iload_n 2, 1) := by decide +kernel
theorem dX8_isEnoughFor_23 : decode cX8_isEnoughFor 23 = .ok (.iconst 4, 1) := by decide +kernel
theorem dX8_isEnoughFor_24 : decode cX8_isEnoughFor 24 = .ok (.if_icmp .ge 38, 3) := by decide +kernel
theorem dX8_isEnoughFor_27 : decode cX8_isEnoughFor 27 = .ok (.aload_n 0, 1) := by decide +kernel
theorem dX8_isEnoughFor_28 : decode cX8_isEnoughFor 28 = .ok (.getfield 38, 3) := by decide +kernel
theorem dX8_isEnoughFor_31 : decode cX8_isEnoughFor 31 = .ok (.iload_n 2, 1) := by decide +kernel
theorem dX8_isEnoughFor_32 : decode cX8_isEnoughFor 32 = .ok (.dup2, 1) := by decide +kernel
theorem dX8_isEnoughFor_33 : decode cX8_isEnoughFor 33 = .ok (.iaload, 1) := by decide +kernel
theorem dX8_isEnoughFor_34 : decode cX8_isEnoughFor 34 = .ok (.aload_n 0, 1) := by decide +kernel
theorem dX8_isEnoughFor_35 : decode cX8_isEnoughFor 35 = .ok (.getfield 51, 3) := by decide +kernel
theorem dX8_isEnoughFor_38 : decode cX8_isEnoughFor 38 = .ok (.getfield 206, 3) := by decide +kernel
theorem dX8_isEnoughFor_41 : decode cX8_isEnoughFor 41 = .ok (.iload_n 2, 1) := by decide +kernel
theorem dX8_isEnoughFor_42 : decode cX8_isEnoughFor 42 = .ok (.iaload, 1) := by decide +kernel
theorem dX8_isEnoughFor_43 : decode cX8_isEnoughFor 43 = .ok (.isub, 1) := by decide +kernel
theorem dX8_isEnoughFor_44 : decode cX8_isEnoughFor 44 = .ok (.iastore, 1) := by decide +kernel
theorem dX8_isEnoughFor_45 : decode cX8_isEnoughFor 45 = .ok (.aload_n 0, 1) := by decide +kernel
theorem dX8_isEnoughFor_46 : decode cX8_isEnoughFor 46 = .ok (.getfield 38, 3) := by decide +kernel
theorem dX8_isEnoughFor_49 : decode cX8_isEnoughFor 49 = .ok (.iload_n 2, 1) := by decide +kernel
theorem dX8_isEnoughFor_50 : decode cX8_isEnoughFor 50 = .ok (.iaload, 1) := by decide +kernel
theorem dX8_isEnoughFor_51 : decode cX8_isEnoughFor 51 = .ok (.ifCond .ge 5, 3) := by decide +kernel
theorem dX8_isEnoughFor_54 : decode cX8_isEnoughFor 54 = .ok (.iconst 0, 1) := by decide +kernel
theorem dX8_isEnoughFor_55 : decode cX8_isEnoughFor 55 = .ok (.ireturn, 1) := by decide +kernel
theorem dX8_isEnoughFor_56 : decode cX8_isEnoughFor 56 = .ok (.iinc 2 1, 3) := by decide +kernel
theorem dX8_isEnoughFor_59 : decode cX8_isEnoughFor 59 = .ok (.goto (-37), 3) := by decide +kernel
theorem dX8_isEnoughFor_62 : decode cX8_isEnoughFor 62 = .ok (.iconst 1, 1) := by decide +kernel
theorem dX8_isEnoughFor_63 : decode cX8_isEnoughFor 63 = .ok (.ireturn, 1) := by decide +kernel
theorem dX8_isCutToEnd_0 : decode cX8_isCutToEnd 0 = .ok (.aload_n 1, 1) := by decide +kernel
theorem dX8_isCutToEnd_1 : decode cX8_isCutToEnd 1 = .ok (.getfield 199, 3) := by decide +kernel
theorem dX8_isCutToEnd_4 : decode cX8_isCutToEnd 4 = .ok (.istore_n 2, 1) := by decide +kernel
theorem dX8_isCutToEnd_5 : decode cX8_isCutToEnd 5 = .ok (.aload_n 0, 1) := by decide +kernel
theorem dX8_isCutToEnd_6 : decode cX8_isCutToEnd 6 = .ok (.getfield 44, 3) := by decide +kernel
theorem dX8_isCutToEnd_9 : decode cX8_isCutToEnd 9 = .ok (.aload_n 1, 1) := by decide +kernel
theorem dX8_isCutToEnd_10 : decode cX8_isCutToEnd 10 = .ok (.getfield 176, 3) := by decide +kernel
theorem dX8_isCutToEnd_13 : decode cX8_isCutToEnd 13 = .ok (.invokevirtual 371, 3) := by decide +kernel
theorem dX8_isCutToEnd_16 : decode cX8_isCutToEnd 16 = .ok (.iconst 0, 1) := by decide +kernel
theorem dX8_isCutToEnd_17 : decode cX8_isCutToEnd 17 = .ok (.istore_n 3, 1) := by decide +kernel
theorem dX8_isCutToEnd_18 : decode cX8_isCutToEnd 18 = .ok (.iload_n 3, 1) := by decide +kernel
theorem dX8_isCutToEnd_19 : decode cX8_isCutToEnd 19 = .ok (.sipush 6600, 3) := by decide +kernel
theorem dX8_isCutToEnd_22 : decode cX8_isCutToEnd 22 = .ok (.if_icmp .gt 78, 3) := by decide +kernel
theorem dX8_isCutToEnd_25 : decode cX8_isCutToEnd 25 = .ok (.aload_n 0, 1) := by decide +kernel
theorem dX8_isCutToEnd_26 : decode cX8_isCutToEnd 26 = .ok (.getfield 44, 3) := by decide +kernel
theorem dX8_isCutToEnd_29 : decode cX8_isCutToEnd 29 = .ok (.invokevirtual 374, 3) := by decide +kernel
theorem dX8_isCutToEnd_32 : decode cX8_isCutToEnd 32 = .ok (.ifCond .eq 68, 3) := by decide +kernel
theorem dX8_isCutToEnd_35 : decode cX8_isCutToEnd 35 = .ok (.iload_n 3, 1) := by decide +kernel
theorem dX8_isCutToEnd_36 : decode cX8_isCutToEnd 36 = .ok (.iload_n 2, 1) := by decide +kernel
theorem dX8_isCutToEnd_37 : decode cX8_isCutToEnd 37 = .ok (.if_icmp .ge 6, 3) := by decide +kernel
theorem dX8_isCutToEnd_40 : decode cX8_isCutToEnd 40 = .ok (.goto 54, 3) := by decide +kernel
theorem dX8_isCutToEnd_43 : decode cX8_isCutToEnd 43 = .ok (.aload_n 0, 1) := by decide +kernel
theorem dX8_isCutToEnd_44 : decode cX8_isCutToEnd 44 = .ok (.getfield 44, 3) := by decide +kernel
theorem dX8_isCutToEnd_47 : decode cX8_isCutToEnd 47 = .ok (.aload_n 1, 1) := by decide +kernel
theorem dX8_isCutToEnd_48 : decode cX8_isCutToEnd 48 = .ok (.getfield 326, 3) := by decide +kernel
theorem dX8_isCutToEnd_51 : decode cX8_isCutToEnd 51 = .ok (.invokevirtual 377, 3) := by decide +kernel
theorem dX8_isCutToEnd_54 : decode cX8_isCutToEnd 54 = .ok (.ifCond .eq 30, 3) := by decide +kernel
theorem dX8_isCutToEnd_57 : decode cX8_isCutToEnd 57 = .ok (.aload_n 0, 1) := by decide +kernel
theorem dX8_isCutToEnd_58 : decode cX8_isCutToEnd 58 = .ok (.aload_n 0, 1) := by decide +kernel
theorem dX8_isCutToEnd_59 : decode cX8_isCutToEnd 59 = .ok (.getfield 44, 3) := by decide +kernel
theorem dX8_isCutToEnd_62 : decode cX8_isCutToEnd 62 = .ok (.getfield 381, 3) := by decide +kernel
theorem dX8_isCutToEnd_65 : decode cX8_isCutToEnd 65 = .ok (.invokevirtual 382, 3) := by decide +kernel
theorem dX8_isCutToEnd_68 : decode cX8_isCutToEnd 68 = .ok (.astore 4, 2) := by decide +kernel
theorem dX8_isCutToEnd_70 : decode cX8_isCutToEnd 70 = .ok (.aload 4, 2) := by decide +kernel
theorem dX8_isCutToEnd_72 : decode cX8_isCutToEnd 72 = .ok (.ifnonnull 5, 3) := by decide +kernel
theorem dX8_isCutToEnd_75 : decode cX8_isCutToEnd 75 = .ok (.iconst 0, 1) := by decide +kernel
theorem dX8_isCutToEnd_76 : decode cX8_isCutToEnd 76 = .ok (.ireturn, 1) := by decide +kernel
theorem dX8_isCutToEnd_77 : decode cX8_isCutToEnd 77 = .ok (.aload_n 0, 1) := by decide +kernel
theorem dX8_isCutToEnd_78 : decode cX8_isCutToEnd 78 = .ok (.aload 4, 2) := by decide +kernel
theorem dX8_isCutToEnd_80 : decode cX8_isCutToEnd 80 = .ok (.aload_n 1, 1) := by decide +kernel
theorem dX8_isCutToEnd_81 : decode cX8_isCutToEnd 81 = .ok (.invokevirtual 385, 3) := by decide +kernel
theorem dX8_isCutToEnd_84 : decode cX8_isCutToEnd 84 = .ok (.aload_n 1, 1) := by decide +kernel
theorem dX8_isCutToEnd_85 : decode cX8_isCutToEnd 85 = .ok (.dup, 1) := by decide +kernel
theorem dX8_isCutToEnd_86 : decode cX8_isCutToEnd 86 = .ok (.getfield 199, 3) := by decide +kernel
theorem dX8_isCutToEnd_89 : decode cX8_isCutToEnd 89 = .ok (.iconst 1, 1) := by decide +kernel
theorem dX8_isCutToEnd_90 : decode cX8_isCutToEnd 90 = .ok (.iadd, 1) := by decide +kernel
theorem dX8_isCutToEnd_91 : decode cX8_isCutToEnd 91 = .ok (.putfield 199, 3) := by decide +kernel
theorem dX8_isCutToEnd_94 : decode cX8_isCutToEnd 94 = .ok (.iinc 3 1, 3) := by decide +kernel
theorem dX8_isCutToEnd_97 : decode cX8_isCutToEnd 97 = .ok (.goto (-79), 3) := by decide +kernel
theorem dX8_isCutToEnd_100 : decode cX8_isCutToEnd 100 = .ok (.iconst 1, 1) := by decide +kernel
theorem dX8_isCutToEnd_101 : decode cX8_isCutToEnd 101 = .ok (.ireturn, 1) := by decide +kernel
theorem dX8_cutBy_0 : decode cX8_cutBy 0 = .ok (.aload_n 0, 1) := by decide +kernel
theorem dX8_cutBy_1 : decode cX8_cutBy 1 = .ok (.getfield 44, 3) := by decide +kernel
theorem dX8_cutBy_4 : decode cX8_cutBy 4 = .ok (.invokevirtual 389, 3) := by decide +kernel
theorem dX8_cutBy_7 : decode cX8_cutBy 7 = .ok (.istore_n 3, 1) := by decide +kernel
theorem dX8_cutBy_8 : decode cX8_cutBy 8 = .ok (.aload_n 0, 1) := by decide +kernel
theorem dX8_cutBy_9 : decode cX8_cutBy 9 = .ok (.getfield 44, 3) := by decide +kernel
theorem dX8_cutBy_12 : decode cX8_cutBy 12 = .ok (.getfield 392, 3) := by decide +kernel
theorem dX8_cutBy_15 : decode cX8_cutBy 15 = .ok (.iconst 0, 1) := by decide +kernel
theorem dX8_cutBy_16 : decode cX8_cutBy 16 = .ok (.iaload, 1) := by decide +kernel
theorem dX8_cutBy_17 : decode cX8_cutBy 17 = .ok (.istore 4, 2) := by decide +kernel
theorem dX8_cutBy_19 : decode cX8_cutBy 19 = .ok (.aload_n 0, 1) := by decide +kernel
theorem dX8_cutBy_20 : decode cX8_cutBy 20 = .ok (.getfield 35, 3) := by decide +kernel
theorem dX8_cutBy_23 : decode cX8_cutBy 23 = .ok (.iconst 0, 1) := by decide +kernel
theorem dX8_cutBy_24 : decode cX8_cutBy 24 = .ok (.aload_n 0, 1) := by decide +kernel
theorem dX8_cutBy_25 : decode cX8_cutBy 25 = .ok (.getfield 31, 3) := by decide +kernel
theorem dX8_cutBy_28 : decode cX8_cutBy 28 = .ok (.iload 4, 2) := by decide +kernel
theorem dX8_cutBy_30 : decode cX8_cutBy 30 = .ok (.iaload, 1) := by decide +kernel
theorem dX8_cutBy_31 : decode cX8_cutBy 31 = .ok (.iastore, 1) := by decide +kernel
theorem dX8_cutBy_32 : decode cX8_cutBy 32 = .ok (.aload_n 0, 1) := by decide +kernel
theorem dX8_cutBy_33 : decode cX8_cutBy 33 = .ok (.getfield 35, 3) := by decide +kernel
theorem dX8_cutBy_36 : decode cX8_cutBy 36 = .ok (.iconst 1, 1) := by decide +kernel
theorem dX8_cutBy_37 : decode cX8_cutBy 37 = .ok (.aload_n 0, 1) := by decide +kernel
theorem dX8_cutBy_38 : decode cX8_cutBy 38 = .ok (.getfield 222, 3) := by decide +kernel
theorem dX8_cutBy_41 : decode cX8_cutBy 41 = .ok (.iload 4, 2) := by decide +kernel
theorem dX8_cutBy_43 : decode cX8_cutBy 43 = .ok (.imul, 1) := by decide +kernel
theorem dX8_cutBy_44 : decode cX8_cutBy 44 = .ok (.bipush 10, 2) := by decide +kernel
theorem dX8_cutBy_46 : decode cX8_cutBy 46 = .ok (.idiv, 1) := by decide +kernel
theorem dX8_cutBy_47 : decode cX8_cutBy 47 = .ok (.iastore, 1) := by decide +kernel
theorem dX8_cutBy_48 : decode cX8_cutBy 48 = .ok (.aload_n 0, 1) := by decide +kernel
theorem dX8_cutBy_49 : decode cX8_cutBy 49 = .ok (.getfield 35, 3) := by decide +kernel
theorem dX8_cutBy_52 : decode cX8_cutBy 52 = .ok (.iconst 2, 1) := by decide +kernel
theorem dX8_cutBy_53 : decode cX8_cutBy 53 = .ok (.aload_n 1, 1) := by decide +kernel
theorem dX8_cutBy_54 : decode cX8_cutBy 54 = .ok (.getfield 315, 3) := by decide +kernel
theorem dX8_cutBy_57 : decode cX8_cutBy 57 = .ok (.iconst 4, 1) := by decide +kernel
theorem dX8_cutBy_58 : decode cX8_cutBy 58 = .ok (.idiv, 1) := by decide +kernel
theorem dX8_cutBy_59 : decode cX8_cutBy 59 = .ok (.iastore, 1) := by decide +kernel
theorem dX8_cutBy_60 : decode cX8_cutBy 60 = .ok (.aload_n 0, 1) := by decide +kernel
theorem dX8_cutBy_61 : decode cX8_cutBy 61 = .ok (.getfield 35, 3) := by decide +kernel
theorem dX8_cutBy_64 : decode cX8_cutBy 64 = .ok (.iconst 3, 1) := by decide +kernel
theorem dX8_cutBy_65 : decode cX8_cutBy 65 = .ok (.aload_n 1, 1) := by decide +kernel
theorem dX8_cutBy_66 : decode cX8_cutBy 66 = .ok (.getfield 318, 3) := by decide +kernel
theorem dX8_cutBy_69 : decode cX8_cutBy 69 = .ok (.ineg, 1) := by decide +kernel
theorem dX8_cutBy_70 : decode cX8_cutBy 70 = .ok (.iastore, 1) := by decide +kernel
theorem dX8_cutBy_71 : decode cX8_cutBy 71 = .ok (.aload_n 2, 1) := by decide +kernel
theorem dX8_cutBy_72 : decode cX8_cutBy 72 = .ok (.getfield 326, 3) := by decide +kernel
theorem dX8_cutBy_75 : decode cX8_cutBy 75 = .ok (.iload_n 3, 1) := by decide +kernel
theorem dX8_cutBy_76 : decode cX8_cutBy 76 = .ok (.aload_n 0, 1) := by decide +kernel
theorem dX8_cutBy_77 : decode cX8_cutBy 77 = .ok (.getfield 44, 3) := by decide +kernel
theorem dX8_cutBy_80 : decode cX8_cutBy 80 = .ok (.getfield 392, 3) := by decide +kernel
theorem dX8_cutBy_83 : decode cX8_cutBy 83 = .ok (.iconst 2, 1) := by decide +kernel
theorem dX8_cutBy_84 : decode cX8_cutBy 84 = .ok (.iaload, 1) := by decide +kernel
theorem dX8_cutBy_85 : decode cX8_cutBy 85 = .ok (.iastore, 1) := by decide +kernel
theorem dX8_cutBy_86 : decode cX8_cutBy 86 = .ok (.aload_n 2, 1) := by decide +kernel
theorem dX8_cutBy_87 : decode cX8_cutBy 87 = .ok (.getfield 282, 3) := by decide +kernel
theorem dX8_cutBy_90 : decode cX8_cutBy 90 = .ok (.iload_n 3, 1) := by decide +kernel
theorem dX8_cutBy_91 : decode cX8_cutBy 91 = .ok (.sipush 1000, 3) := by decide +kernel
theorem dX8_cutBy_94 : decode cX8_cutBy 94 = .ok (.aload_n 0, 1) := by decide +kernel
theorem dX8_cutBy_95 : decode cX8_cutBy 95 = .ok (.getfield 44, 3) := by decide +kernel
theorem dX8_cutBy_98 : decode cX8_cutBy 98 = .ok (.getfield 392, 3) := by decide +kernel
theorem dX8_cutBy_101 : decode cX8_cutBy 101 = .ok (.iconst 2, 1) := by decide +kernel
theorem dX8_cutBy_102 : decode cX8_cutBy 102 = .ok (.iaload, 1) := by decide +kernel
theorem dX8_cutBy_103 : decode cX8_cutBy 103 = .ok (.imul, 1) := by decide +kernel
theorem dX8_cutBy_104 : decode cX8_cutBy 104 = .ok (.iastore, 1) := by decide +kernel
theorem dX8_cutBy_105 : decode cX8_cutBy 105 = .ok (.iconst 0, 1) := by decide +kernel
theorem dX8_cutBy_106 : decode cX8_cutBy 106 = .ok (.istore 5, 2) := by decide +kernel
theorem dX8_cutBy_108 : decode cX8_cutBy 108 = .ok (.iload 5, 2) := by decide +kernel
theorem dX8_cutBy_110 : decode cX8_cutBy 110 = .ok (.aload_n 0, 1) := by decide +kernel
theorem dX8_cutBy_111 : decode cX8_cutBy 111 = .ok (.getfield 35, 3) := by decide +kernel
theorem dX8_cutBy_114 : decode cX8_cutBy 114 = .ok (.arraylength, 1) := by decide +kernel
theorem dX8_cutBy_115 : decode cX8_cutBy 115 = .ok (.if_icmp .ge 25, 3) := by decide +kernel
theorem dX8_cutBy_118 : decode cX8_cutBy 118 = .ok (.aload_n 2, 1) := by decide +kernel
theorem dX8_cutBy_119 : decode cX8_cutBy 119 = .ok (.getfield 282, 3) := by decide +kernel
theorem dX8_cutBy_122 : decode cX8_cutBy 122 = .ok (.iload_n 3, 1) := by decide +kernel
theorem dX8_cutBy_123 : decode cX8_cutBy 123 = .ok (.dup2, 1) := by decide +kernel
theorem dX8_cutBy_124 : decode cX8_cutBy 124 = .ok (.iaload, 1) := by decide +kernel
theorem dX8_cutBy_125 : decode cX8_cutBy 125 = .ok (.aload_n 0, 1) := by decide +kernel
theorem dX8_cutBy_126 : decode cX8_cutBy 126 = .ok (.getfield 35, 3) := by decide +kernel
theorem dX8_cutBy_129 : decode cX8_cutBy 129 = .ok (.iload 5, 2) := by decide +kernel
theorem dX8_cutBy_131 : decode cX8_cutBy 131 = .ok (.iaload, 1) := by decide +kernel
theorem dX8_cutBy_132 : decode cX8_cutBy 132 = .ok (.iadd, 1) := by decide +kernel
theorem dX8_cutBy_133 : decode cX8_cutBy 133 = .ok (.iastore, 1) := by decide +kernel
theorem dX8_cutBy_134 : decode cX8_cutBy 134 = .ok (.iinc 5 1, 3) := by decide +kernel
theorem dX8_cutBy_137 : decode cX8_cutBy 137 = .ok (.goto (-29), 3) := by decide +kernel
theorem dX8_cutBy_140 : decode cX8_cutBy 140 = .ok (.aload_n 2, 1) := by decide +kernel
theorem dX8_cutBy_141 : decode cX8_cutBy 141 = .ok (.getfield 292, 3) := by decide +kernel
theorem dX8_cutBy_144 : decode cX8_cutBy 144 = .ok (.iload_n 3, 1) := by decide +kernel
theorem dX8_cutBy_145 : decode cX8_cutBy 145 = .ok (.aload_n 1, 1) := by decide +kernel
theorem dX8_cutBy_146 : decode cX8_cutBy 146 = .ok (.getfield 395, 3) := by decide +kernel
theorem dX8_cutBy_149 : decode cX8_cutBy 149 = .ok (.iastore, 1) := by decide +kernel
theorem dX8_cutBy_150 : decode cX8_cutBy 150 = .ok (.aload_n 2, 1) := by decide +kernel
theorem dX8_cutBy_151 : decode cX8_cutBy 151 = .ok (.getfield 327, 3) := by decide +kernel
theorem dX8_cutBy_154 : decode cX8_cutBy 154 = .ok (.iload_n 3, 1) := by decide +kernel
theorem dX8_cutBy_155 : decode cX8_cutBy 155 = .ok (.aload_n 0, 1) := by decide +kernel
theorem dX8_cutBy_156 : decode cX8_cutBy 156 = .ok (.invokevirtual 398, 3) := by decide +kernel
theorem dX8_cutBy_159 : decode cX8_cutBy 159 = .ok (.iastore, 1) := by decide +kernel
theorem dX8_cutBy_160 : decode cX8_cutBy 160 = .ok (.aload_n 1, 1) := by decide +kernel
theorem dX8_cutBy_161 : decode cX8_cutBy 161 = .ok (.dup, 1) := by decide +kernel
theorem dX8_cutBy_162 : decode cX8_cutBy 162 = .ok (.getfield 315, 3) := by decide +kernel
theorem dX8_cutBy_165 : decode cX8_cutBy 165 = .ok (.iconst 1, 1) := by decide +kernel
theorem dX8_cutBy_166 : decode cX8_cutBy 166 = .ok (.iadd, 1) := by decide +kernel
theorem dX8_cutBy_167 : decode cX8_cutBy 167 = .ok (.putfield 315, 3) := by decide +kernel
theorem dX8_cutBy_170 : decode cX8_cutBy 170 = .ok (.aload_n 0, 1) := by decide +kernel
theorem dX8_cutBy_171 : decode cX8_cutBy 171 = .ok (.dup, 1) := by decide +kernel
theorem dX8_cutBy_172 : decode cX8_cutBy 172 = .ok (.getfield 216, 3) := by decide +kernel
theorem dX8_cutBy_175 : decode cX8_cutBy 175 = .ok (.iconst 1, 1) := by decide +kernel
theorem dX8_cutBy_176 : decode cX8_cutBy 176 = .ok (.iadd, 1) := by decide +kernel
theorem dX8_cutBy_177 : decode cX8_cutBy 177 = .ok (.putfield 216, 3) := by decide +kernel
theorem dX8_cutBy_180 : decode cX8_cutBy 180 = .ok (.aload_n 0, 1) := by decide +kernel
theorem dX8_cutBy_181 : decode cX8_cutBy 181 = .ok (.bipush 99, 2) := by decide +kernel
theorem dX8_cutBy_183 : decode cX8_cutBy 183 = .ok (.aload_n 0, 1) := by decide +kernel
theorem dX8_cutBy_184 : decode cX8_cutBy 184 = .ok (.getfield 222, 3) := by decide +kernel
theorem dX8_cutBy_187 : decode cX8_cutBy 187 = .ok (.iconst 1, 1) := by decide +kernel
theorem dX8_cutBy_188 : decode cX8_cutBy 188 = .ok (.iadd, 1) := by decide +kernel
theorem dX8_cutBy_189 : decode cX8_cutBy 189 = .ok (.invokestatic 401, 3) := by decide +kernel
theorem dX8_cutBy_192 : decode cX8_cutBy 192 = .ok (.putfield 222, 3) := by decide +kernel
theorem dX8_cutBy_195 : decode cX8_cutBy 195 = .ok (.return_, 1) := by decide +kernel
theorem dX8_greatestPart_0 : decode cX8_greatestPart 0 = .ok (.iconst (-1), 1) := by decide +kernel
theorem dX8_greatestPart_1 : decode cX8_greatestPart 1 = .ok (.istore_n 1, 1) := by decide +kernel
theorem dX8_greatestPart_2 : decode cX8_greatestPart 2 = .ok (.iconst 0, 1) := by decide +kernel
theorem dX8_greatestPart_3 : decode cX8_greatestPart 3 = .ok (.istore_n 2, 1) := by decide +kernel
theorem dX8_greatestPart_4 : decode cX8_greatestPart 4 = .ok (.iconst 0, 1) := by decide +kernel
theorem dX8_greatestPart_5 : decode cX8_greatestPart 5 = .ok (.istore_n 3, 1) := by decide +kernel
theorem dX8_greatestPart_6 : decode cX8_greatestPart 6 = .ok (.iload_n 3, 1) := by decide +kernel
theorem dX8_greatestPart_7 : decode cX8_greatestPart 7 = .ok (.aload_n 0, 1) := by decide +kernel
theorem dX8_greatestPart_8 : decode cX8_greatestPart 8 = .ok (.getfield 35, 3) := by decide +kernel
theorem dX8_greatestPart_11 : decode cX8_greatestPart 11 = .ok (.arraylength, 1) := by decide +kernel
theorem dX8_greatestPart_12 : decode cX8_greatestPart 12 = .ok (.if_icmp .ge 34, 3) := by decide +kernel
theorem dX8_greatestPart_15 : decode cX8_greatestPart 15 = .ok (.aload_n 0, 1) := by decide +kernel
theorem dX8_greatestPart_16 : decode cX8_greatestPart 16 = .ok (.getfield 35, 3) := by decide +kernel
theorem dX8_greatestPart_19 : decode cX8_greatestPart 19 = .ok (.iload_n 3, 1) := by decide +kernel
theorem dX8_greatestPart_20 : decode cX8_greatestPart 20 = .ok (.iaload, 1) := by decide +kernel
theorem dX8_greatestPart_21 : decode cX8_greatestPart 21 = .ok (.invokestatic 404, 3) := by decide +kernel
theorem dX8_greatestPart_24 : decode cX8_greatestPart 24 = .ok (.iload_n 2, 1) := by decide +kernel
theorem dX8_greatestPart_25 : decode cX8_greatestPart 25 = .ok (.if_icmp .le 15, 3) := by decide +kernel
theorem dX8_greatestPart_28 : decode cX8_greatestPart 28 = .ok (.aload_n 0, 1) := by decide +kernel
theorem dX8_greatestPart_29 : decode cX8_greatestPart 29 = .ok (.getfield 35, 3) := by decide +kernel
theorem dX8_greatestPart_32 : decode cX8_greatestPart 32 = .ok (.iload_n 3, 1) := by decide +kernel
theorem dX8_greatestPart_33 : decode cX8_greatestPart 33 = .ok (.iaload, 1) := by decide +kernel
theorem dX8_greatestPart_34 : decode cX8_greatestPart 34 = .ok (.invokestatic 404, 3) := by decide +kernel
theorem dX8_greatestPart_37 : decode cX8_greatestPart 37 = .ok (.istore_n 2, 1) := by decide +kernel
theorem dX8_greatestPart_38 : decode cX8_greatestPart 38 = .ok (.iload_n 3, 1) := by decide +kernel
theorem dX8_greatestPart_39 : decode cX8_greatestPart 39 = .ok (.istore_n 1, 1) := by decide +kernel
theorem dX8_greatestPart_40 : decode cX8_greatestPart 40 = .ok (.iinc 3 1, 3) := by decide +kernel
theorem dX8_greatestPart_43 : decode cX8_greatestPart 43 = .ok (.goto (-37), 3) := by decide +kernel
theorem dX8_greatestPart_46 : decode cX8_greatestPart 46 = .ok (.iload_n 1, 1) := by decide +kernel
theorem dX8_greatestPart_47 : decode cX8_greatestPart 47 = .ok (.ireturn, 1) := by decide +kernel
end
section
theorem dL_program_0 : decode cL_program 0 = .ok (.aload_n 1, 1) := by decide +kernel
theorem dL_program_1 : decode cL_program 1 = .ok (.iconst 0, 1) := by decide +kernel
theorem dL_program_2 : decode cL_program 2 = .ok (.aload_n 0, 1) := by decide +kernel
theorem dL_program_3 : decode cL_program 3 = .ok (.invokevirtual 7, 3) := by decide +kernel
theorem dL_program_6 : decode cL_program 6 = .ok (.i2l, 1) := by decide +kernel
theorem dL_program_7 : decode cL_program 7 = .ok (.lastore, 1) := by decide +kernel
theorem dL_program_8 : decode cL_program 8 = .ok (.goto 6, 3) := by decide +kernel
theorem dL_program_11 : decode cL_program 11 = .ok (.astore_n 2, 1) := by decide +kernel
theorem dL_program_12 : decode cL_program 12 = .ok (.iconst 1, 1) := by decide +kernel
theorem dL_program_13 : decode cL_program 13 = .ok (.ireturn, 1) := by decide +kernel
theorem dL_program_14 : decode cL_program 14 = .ok (.iconst 0, 1) := by decide +kernel
theorem dL_program_15 : decode cL_program 15 = .ok (.ireturn, 1) := by decide +kernel
theorem dL_block_0 : decode cL_block 0 = .ok (.aload 4, 2) := by decide +kernel
theorem dL_block_2 : decode cL_block 2 = .ok (.iconst 0, 1) := by decide +kernel
theorem dL_block_3 : decode cL_block 3 = .ok (.aload_n 0, 1) := by decide +kernel
theorem dL_block_4 : decode cL_block 4 = .ok (.iload_n 1, 1) := by decide +kernel
theorem dL_block_5 : decode cL_block 5 = .ok (.iload_n 2, 1) := by decide +kernel
theorem dL_block_6 : decode cL_block 6 = .ok (.iload_n 3, 1) := by decide +kernel
theorem dL_block_7 : decode cL_block 7 = .ok (.invokevirtual 15, 3) := by decide +kernel
theorem dL_block_10 : decode cL_block 10 = .ok (.i2l, 1) := by decide +kernel
theorem dL_block_11 : decode cL_block 11 = .ok (.lastore, 1) := by decide +kernel
theorem dL_block_12 : decode cL_block 12 = .ok (.goto 15, 3) := by decide +kernel
theorem dL_block_15 : decode cL_block 15 = .ok (.astore 5, 2) := by decide +kernel
theorem dL_block_17 : decode cL_block 17 = .ok (.iconst 1, 1) := by decide +kernel
theorem dL_block_18 : decode cL_block 18 = .ok (.ireturn, 1) := by decide +kernel
theorem dL_block_19 : decode cL_block 19 = .ok (.astore 5, 2) := by decide +kernel
theorem dL_block_21 : decode cL_block 21 = .ok (.iconst 2, 1) := by decide +kernel
theorem dL_block_22 : decode cL_block 22 = .ok (.ireturn, 1) := by decide +kernel
theorem dL_block_23 : decode cL_block 23 = .ok (.astore 5, 2) := by decide +kernel
theorem dL_block_25 : decode cL_block 25 = .ok (.iconst 3, 1) := by decide +kernel
theorem dL_block_26 : decode cL_block 26 = .ok (.ireturn, 1) := by decide +kernel
theorem dL_block_27 : decode cL_block 27 = .ok (.iconst 0, 1) := by decide +kernel
theorem dL_block_28 : decode cL_block 28 = .ok (.ireturn, 1) := by decide +kernel
theorem dL_map_0 : decode cL_map 0 = .ok (.aload_n 3, 1) := by decide +kernel
theorem dL_map_1 : decode cL_map 1 = .ok (.iconst 0, 1) := by decide +kernel
theorem dL_map_2 : decode cL_map 2 = .ok (.aload_n 0, 1) := by decide +kernel
theorem dL_map_3 : decode cL_map 3 = .ok (.iload_n 1, 1) := by decide +kernel
theorem dL_map_4 : decode cL_map 4 = .ok (.iload_n 2, 1) := by decide +kernel
theorem dL_map_5 : decode cL_map 5 = .ok (.invokevirtual 23, 3) := by decide +kernel
theorem dL_map_8 : decode cL_map 8 = .ok (.i2l, 1) := by decide +kernel
theorem dL_map_9 : decode cL_map 9 = .ok (.lastore, 1) := by decide +kernel
theorem dL_map_10 : decode cL_map 10 = .ok (.goto 7, 3) := by decide +kernel
theorem dL_map_13 : decode cL_map 13 = .ok (.astore 4, 2) := by decide +kernel
theorem dL_map_15 : decode cL_map 15 = .ok (.iconst 1, 1) := by decide +kernel
theorem dL_map_16 : decode cL_map 16 = .ok (.ireturn, 1) := by decide +kernel
theorem dL_map_17 : decode cL_map 17 = .ok (.iconst 0, 1) := by decide +kernel
theorem dL_map_18 : decode cL_map 18 = .ok (.ireturn, 1) := by decide +kernel
theorem dL_tool_0 : decode cL_tool 0 = .ok (.aload_n 3, 1) := by decide +kernel
theorem dL_tool_1 : decode cL_tool 1 = .ok (.iconst 0, 1) := by decide +kernel
theorem dL_tool_2 : decode cL_tool 2 = .ok (.aload_n 0, 1) := by decide +kernel
theorem dL_tool_3 : decode cL_tool 3 = .ok (.iload_n 1, 1) := by decide +kernel
theorem dL_tool_4 : decode cL_tool 4 = .ok (.iload_n 2, 1) := by decide +kernel
theorem dL_tool_5 : decode cL_tool 5 = .ok (.invokevirtual 27, 3) := by decide +kernel
theorem dL_tool_8 : decode cL_tool 8 = .ok (.i2l, 1) := by decide +kernel
theorem dL_tool_9 : decode cL_tool 9 = .ok (.lastore, 1) := by decide +kernel
theorem dL_tool_10 : decode cL_tool 10 = .ok (.goto 11, 3) := by decide +kernel
theorem dL_tool_13 : decode cL_tool 13 = .ok (.astore 4, 2) := by decide +kernel
theorem dL_tool_15 : decode cL_tool 15 = .ok (.iconst 1, 1) := by decide +kernel
theorem dL_tool_16 : decode cL_tool 16 = .ok (.ireturn, 1) := by decide +kernel
theorem dL_tool_17 : decode cL_tool 17 = .ok (.astore 4, 2) := by decide +kernel
theorem dL_tool_19 : decode cL_tool 19 = .ok (.iconst 2, 1) := by decide +kernel
theorem dL_tool_20 : decode cL_tool 20 = .ok (.ireturn, 1) := by decide +kernel
theorem dL_tool_21 : decode cL_tool 21 = .ok (.iconst 0, 1) := by decide +kernel
theorem dL_tool_22 : decode cL_tool 22 = .ok (.ireturn, 1) := by decide +kernel
theorem dL_load_0 : decode cL_load 0 = .ok (.aload_n 3, 1) := by decide +kernel
theorem dL_load_1 : decode cL_load 1 = .ok (.iconst 0, 1) := by decide +kernel
theorem dL_load_2 : decode cL_load 2 = .ok (.aload_n 0, 1) := by decide +kernel
theorem dL_load_3 : decode cL_load 3 = .ok (.iload_n 1, 1) := by decide +kernel
theorem dL_load_4 : decode cL_load 4 = .ok (.iload_n 2, 1) := by decide +kernel
theorem dL_load_5 : decode cL_load 5 = .ok (.invokevirtual 30, 3) := by decide +kernel
theorem dL_load_8 : decode cL_load 8 = .ok (.i2l, 1) := by decide +kernel
theorem dL_load_9 : decode cL_load 9 = .ok (.lastore, 1) := by decide +kernel
theorem dL_load_10 : decode cL_load 10 = .ok (.goto 11, 3) := by decide +kernel
theorem dL_load_13 : decode cL_load 13 = .ok (.astore 4, 2) := by decide +kernel
theorem dL_load_15 : decode cL_load 15 = .ok (.iconst 1, 1) := by decide +kernel
theorem dL_load_16 : decode cL_load 16 = .ok (.ireturn, 1) := by decide +kernel
theorem dL_load_17 : decode cL_load 17 = .ok (.astore 4, 2) := by decide +kernel
theorem dL_load_19 : decode cL_load 19 = .ok (.iconst 2, 1) := by decide +kernel
theorem dL_load_20 : decode cL_load 20 = .ok (.ireturn, 1) := by decide +kernel
theorem dL_load_21 : decode cL_load 21 = .ok (.iconst 0, 1) := by decide +kernel
theorem dL_load_22 : decode cL_load 22 = .ok (.ireturn, 1) := by decide +kernel
theorem dL_pallet_0 : decode cL_pallet 0 = .ok (.aload_n 2, 1) := by decide +kernel
theorem dL_pallet_1 : decode cL_pallet 1 = .ok (.iconst 0, 1) := by decide +kernel
theorem dL_pallet_2 : decode cL_pallet 2 = .ok (.aload_n 0, 1) := by decide +kernel
theorem dL_pallet_3 : decode cL_pallet 3 = .ok (.iload_n 1, 1) := by decide +kernel
theorem dL_pallet_4 : decode cL_pallet 4 = .ok (.invokevirtual 34, 3) := by decide +kernel
theorem dL_pallet_7 : decode cL_pallet 7 = .ok (.i2l, 1) := by decide +kernel
theorem dL_pallet_8 : decode cL_pallet 8 = .ok (.lastore, 1) := by decide +kernel
theorem dL_pallet_9 : decode cL_pallet 9 = .ok (.goto 9, 3) := by decide +kernel
theorem dL_pallet_12 : decode cL_pallet 12 = .ok (.astore_n 3, 1) := by decide +kernel
theorem dL_pallet_13 : decode cL_pallet 13 = .ok (.iconst 1, 1) := by decide +kernel
theorem dL_pallet_14 : decode cL_pallet 14 = .ok (.ireturn, 1) := by decide +kernel
theorem dL_pallet_15 : decode cL_pallet 15 = .ok (.astore_n 3, 1) := by decide +kernel
theorem dL_pallet_16 : decode cL_pallet 16 = .ok (.iconst 2, 1) := by decide +kernel
theorem dL_pallet_17 : decode cL_pallet 17 = .ok (.ireturn, 1) := by decide +kernel
theorem dL_pallet_18 : decode cL_pallet 18 = .ok (.iconst 0, 1) := by decide +kernel
theorem dL_pallet_19 : decode cL_pallet 19 = .ok (.ireturn, 1) := by decide +kernel
theorem dL_clamp_0 : decode cL_clamp 0 = .ok (.aload 5, 2) := by decide +kernel
theorem dL_clamp_2 : decode cL_clamp 2 = .ok (.iconst 0, 1) := by decide +kernel
theorem dL_clamp_3 : decode cL_clamp 3 = .ok (.aload_n 0, 1) := by decide +kernel
theorem dL_clamp_4 : decode cL_clamp 4 = .ok (.iload_n 1, 1) := by decide +kernel
theorem dL_clamp_5 : decode cL_clamp 5 = .ok (.iload_n 2, 1) := by decide +kernel
theorem dL_clamp_6 : decode cL_clamp 6 = .ok (.iload_n 3, 1) := by decide +kernel
theorem dL_clamp_7 : decode cL_clamp 7 = .ok (.iload 4, 2) := by decide +kernel
theorem dL_clamp_9 : decode cL_clamp 9 = .ok (.invokevirtual 38, 3) := by decide +kernel
theorem dL_clamp_12 : decode cL_clamp 12 = .ok (.i2l, 1) := by decide +kernel
theorem dL_clamp_13 : decode cL_clamp 13 = .ok (.lastore, 1) := by decide +kernel
theorem dL_clamp_14 : decode cL_clamp 14 = .ok (.goto 15, 3) := by decide +kernel
theorem dL_clamp_17 : decode cL_clamp 17 = .ok (.astore 6, 2) := by decide +kernel
theorem dL_clamp_19 : decode cL_clamp 19 = .ok (.iconst 1, 1) := by decide +kernel
theorem dL_clamp_20 : decode cL_clamp 20 = .ok (.ireturn, 1) := by decide +kernel
theorem dL_clamp_21 : decode cL_clamp 21 = .ok (.astore 6, 2) := by decide +kernel
theorem dL_clamp_23 : decode cL_clamp 23 = .ok (.iconst 2, 1) := by decide +kernel
theorem dL_clamp_24 : decode cL_clamp 24 = .ok (.ireturn, 1) := by decide +kernel
theorem dL_clamp_25 : decode cL_clamp 25 = .ok (.astore 6, 2) := by decide +kernel
theorem dL_clamp_27 : decode cL_clamp 27 = .ok (.iconst 3, 1) := by decide +kernel
theorem dL_clamp_28 : decode cL_clamp 28 = .ok (.ireturn, 1) := by decide +kernel
theorem dL_clamp_29 : decode cL_clamp 29 = .ok (.iconst 0, 1) := by decide +kernel
theorem dL_clamp_30 : decode cL_clamp 30 = .ok (.ireturn, 1) := by decide +kernel
theorem dL_prove_0 : decode cL_prove 0 = .ok (.aload_n 3, 1) := by decide +kernel
theorem dL_prove_1 : decode cL_prove 1 = .ok (.iconst 0, 1) := by decide +kernel
theorem dL_prove_2 : decode cL_prove 2 = .ok (.aload_n 0, 1) := by decide +kernel
theorem dL_prove_3 : decode cL_prove 3 = .ok (.iload_n 1, 1) := by decide +kernel
theorem dL_prove_4 : decode cL_prove 4 = .ok (.iload_n 2, 1) := by decide +kernel
theorem dL_prove_5 : decode cL_prove 5 = .ok (.invokevirtual 42, 3) := by decide +kernel
theorem dL_prove_8 : decode cL_prove 8 = .ok (.i2l, 1) := by decide +kernel
theorem dL_prove_9 : decode cL_prove 9 = .ok (.lastore, 1) := by decide +kernel
theorem dL_prove_10 : decode cL_prove 10 = .ok (.goto 7, 3) := by decide +kernel
theorem dL_prove_13 : decode cL_prove 13 = .ok (.astore 4, 2) := by decide +kernel
theorem dL_prove_15 : decode cL_prove 15 = .ok (.iconst 1, 1) := by decide +kernel
theorem dL_prove_16 : decode cL_prove 16 = .ok (.ireturn, 1) := by decide +kernel
theorem dL_prove_17 : decode cL_prove 17 = .ok (.iconst 0, 1) := by decide +kernel
theorem dL_prove_18 : decode cL_prove 18 = .ok (.ireturn, 1) := by decide +kernel
theorem dL_takes_0 : decode cL_takes 0 = .ok (.aload_n 3, 1) := by decide +kernel
theorem dL_takes_1 : decode cL_takes 1 = .ok (.iconst 0, 1) := by decide +kernel
theorem dL_takes_2 : decode cL_takes 2 = .ok (.aload_n 0, 1) := by decide +kernel
theorem dL_takes_3 : decode cL_takes 3 = .ok (.iload_n 1, 1) := by decide +kernel
theorem dL_takes_4 : decode cL_takes 4 = .ok (.iload_n 2, 1) := by decide +kernel
theorem dL_takes_5 : decode cL_takes 5 = .ok (.invokevirtual 45, 3) := by decide +kernel
theorem dL_takes_8 : decode cL_takes 8 = .ok (.i2l, 1) := by decide +kernel
theorem dL_takes_9 : decode cL_takes 9 = .ok (.lastore, 1) := by decide +kernel
theorem dL_takes_10 : decode cL_takes 10 = .ok (.goto 7, 3) := by decide +kernel
theorem dL_takes_13 : decode cL_takes 13 = .ok (.astore 4, 2) := by decide +kernel
theorem dL_takes_15 : decode cL_takes 15 = .ok (.iconst 1, 1) := by decide +kernel
theorem dL_takes_16 : decode cL_takes 16 = .ok (.ireturn, 1) := by decide +kernel
theorem dL_takes_17 : decode cL_takes 17 = .ok (.iconst 0, 1) := by decide +kernel
theorem dL_takes_18 : decode cL_takes 18 = .ok (.ireturn, 1) := by decide +kernel
theorem dL_plan_0 : decode cL_plan 0 = .ok (.aload_n 3, 1) := by decide +kernel
theorem dL_plan_1 : decode cL_plan 1 = .ok (.iconst 0, 1) := by decide +kernel
theorem dL_plan_2 : decode cL_plan 2 = .ok (.aload_n 0, 1) := by decide +kernel
theorem dL_plan_3 : decode cL_plan 3 = .ok (.iload_n 1, 1) := by decide +kernel
theorem dL_plan_4 : decode cL_plan 4 = .ok (.iload_n 2, 1) := by decide +kernel
theorem dL_plan_5 : decode cL_plan 5 = .ok (.invokevirtual 48, 3) := by decide +kernel
theorem dL_plan_8 : decode cL_plan 8 = .ok (.i2l, 1) := by decide +kernel
theorem dL_plan_9 : decode cL_plan 9 = .ok (.lastore, 1) := by decide +kernel
theorem dL_plan_10 : decode cL_plan 10 = .ok (.goto 11, 3) := by decide +kernel
theorem dL_plan_13 : decode cL_plan 13 = .ok (.astore 4, 2) := by decide +kernel
theorem dL_plan_15 : decode cL_plan 15 = .ok (.iconst 1, 1) := by decide +kernel
theorem dL_plan_16 : decode cL_plan 16 = .ok (.ireturn, 1) := by decide +kernel
theorem dL_plan_17 : decode cL_plan 17 = .ok (.astore 4, 2) := by decide +kernel
theorem dL_plan_19 : decode cL_plan 19 = .ok (.iconst 2, 1) := by decide +kernel
theorem dL_plan_20 : decode cL_plan 20 = .ok (.ireturn, 1) := by decide +kernel
theorem dL_plan_21 : decode cL_plan 21 = .ok (.iconst 0, 1) := by decide +kernel
theorem dL_plan_22 : decode cL_plan 22 = .ok (.ireturn, 1) := by decide +kernel
theorem dL_lacks_0 : decode cL_lacks 0 = .ok (.aload_n 2, 1) := by decide +kernel
theorem dL_lacks_1 : decode cL_lacks 1 = .ok (.iconst 0, 1) := by decide +kernel
theorem dL_lacks_2 : decode cL_lacks 2 = .ok (.aload_n 0, 1) := by decide +kernel
theorem dL_lacks_3 : decode cL_lacks 3 = .ok (.iload_n 1, 1) := by decide +kernel
theorem dL_lacks_4 : decode cL_lacks 4 = .ok (.invokevirtual 51, 3) := by decide +kernel
theorem dL_lacks_7 : decode cL_lacks 7 = .ok (.i2l, 1) := by decide +kernel
theorem dL_lacks_8 : decode cL_lacks 8 = .ok (.lastore, 1) := by decide +kernel
theorem dL_lacks_9 : decode cL_lacks 9 = .ok (.goto 6, 3) := by decide +kernel
theorem dL_lacks_12 : decode cL_lacks 12 = .ok (.astore_n 3, 1) := by decide +kernel
theorem dL_lacks_13 : decode cL_lacks 13 = .ok (.iconst 1, 1) := by decide +kernel
theorem dL_lacks_14 : decode cL_lacks 14 = .ok (.ireturn, 1) := by decide +kernel
theorem dL_lacks_15 : decode cL_lacks 15 = .ok (.iconst 0, 1) := by decide +kernel
theorem dL_lacks_16 : decode cL_lacks 16 = .ok (.ireturn, 1) := by decide +kernel
theorem dL_idle_0 : decode cL_idle 0 = .ok (.aload_n 2, 1) := by decide +kernel
theorem dL_idle_1 : decode cL_idle 1 = .ok (.iconst 0, 1) := by decide +kernel
theorem dL_idle_2 : decode cL_idle 2 = .ok (.aload_n 0, 1) := by decide +kernel
theorem dL_idle_3 : decode cL_idle 3 = .ok (.iload_n 1, 1) := by decide +kernel
theorem dL_idle_4 : decode cL_idle 4 = .ok (.invokevirtual 54, 3) := by decide +kernel
theorem dL_idle_7 : decode cL_idle 7 = .ok (.i2l, 1) := by decide +kernel
theorem dL_idle_8 : decode cL_idle 8 = .ok (.lastore, 1) := by decide +kernel
theorem dL_idle_9 : decode cL_idle 9 = .ok (.goto 9, 3) := by decide +kernel
theorem dL_idle_12 : decode cL_idle 12 = .ok (.astore_n 3, 1) := by decide +kernel
theorem dL_idle_13 : decode cL_idle 13 = .ok (.iconst 1, 1) := by decide +kernel
theorem dL_idle_14 : decode cL_idle 14 = .ok (.ireturn, 1) := by decide +kernel
theorem dL_idle_15 : decode cL_idle 15 = .ok (.astore_n 3, 1) := by decide +kernel
theorem dL_idle_16 : decode cL_idle 16 = .ok (.iconst 2, 1) := by decide +kernel
theorem dL_idle_17 : decode cL_idle 17 = .ok (.ireturn, 1) := by decide +kernel
theorem dL_idle_18 : decode cL_idle 18 = .ok (.iconst 0, 1) := by decide +kernel
theorem dL_idle_19 : decode cL_idle 19 = .ok (.ireturn, 1) := by decide +kernel
theorem dL_calibrate_0 : decode cL_calibrate 0 = .ok (.aload_n 3, 1) := by decide +kernel
theorem dL_calibrate_1 : decode cL_calibrate 1 = .ok (.iconst 0, 1) := by decide +kernel
theorem dL_calibrate_2 : decode cL_calibrate 2 = .ok (.aload_n 0, 1) := by decide +kernel
theorem dL_calibrate_3 : decode cL_calibrate 3 = .ok (.iload_n 1, 1) := by decide +kernel
theorem dL_calibrate_4 : decode cL_calibrate 4 = .ok (.iload_n 2, 1) := by decide +kernel
theorem dL_calibrate_5 : decode cL_calibrate 5 = .ok (.invokevirtual 57, 3) := by decide +kernel
theorem dL_calibrate_8 : decode cL_calibrate 8 = .ok (.i2l, 1) := by decide +kernel
theorem dL_calibrate_9 : decode cL_calibrate 9 = .ok (.lastore, 1) := by decide +kernel
theorem dL_calibrate_10 : decode cL_calibrate 10 = .ok (.goto 11, 3) := by decide +kernel
theorem dL_calibrate_13 : decode cL_calibrate 13 = .ok (.astore 4, 2) := by decide +kernel
theorem dL_calibrate_15 : decode cL_calibrate 15 = .ok (.iconst 1, 1) := by decide +kernel
theorem dL_calibrate_16 : decode cL_calibrate 16 = .ok (.ireturn, 1) := by decide +kernel
theorem dL_calibrate_17 : decode cL_calibrate 17 = .ok (.astore 4, 2) := by decide +kernel
theorem dL_calibrate_19 : decode cL_calibrate 19 = .ok (.iconst 2, 1) := by decide +kernel
theorem dL_calibrate_20 : decode cL_calibrate 20 = .ok (.ireturn, 1) := by decide +kernel
theorem dL_calibrate_21 : decode cL_calibrate 21 = .ok (.iconst 0, 1) := by decide +kernel
theorem dL_calibrate_22 : decode cL_calibrate 22 = .ok (.ireturn, 1) := by decide +kernel
theorem dL_drawing_0 : decode cL_drawing 0 = .ok (.aload_n 1, 1) := by decide +kernel
theorem dL_drawing_1 : decode cL_drawing 1 = .ok (.iconst 0, 1) := by decide +kernel
theorem dL_drawing_2 : decode cL_drawing 2 = .ok (.aload_n 0, 1) := by decide +kernel
theorem dL_drawing_3 : decode cL_drawing 3 = .ok (.invokevirtual 60, 3) := by decide +kernel
theorem dL_drawing_6 : decode cL_drawing 6 = .ok (.i2l, 1) := by decide +kernel
theorem dL_drawing_7 : decode cL_drawing 7 = .ok (.lastore, 1) := by decide +kernel
theorem dL_drawing_8 : decode cL_drawing 8 = .ok (.goto 6, 3) := by decide +kernel
theorem dL_drawing_11 : decode cL_drawing 11 = .ok (.astore_n 2, 1) := by decide +kernel
theorem dL_drawing_12 : decode cL_drawing 12 = .ok (.iconst 1, 1) := by decide +kernel
theorem dL_drawing_13 : decode cL_drawing 13 = .ok (.ireturn, 1) := by decide +kernel
theorem dL_drawing_14 : decode cL_drawing 14 = .ok (.iconst 0, 1) := by decide +kernel
theorem dL_drawing_15 : decode cL_drawing 15 = .ok (.ireturn, 1) := by decide +kernel
theorem dL_feature_0 : decode cL_feature 0 = .ok (.aload 6, 2) := by decide +kernel
theorem dL_feature_2 : decode cL_feature 2 = .ok (.iconst 0, 1) := by decide +kernel
theorem dL_feature_3 : decode cL_feature 3 = .ok (.aload_n 0, 1) := by decide +kernel
theorem dL_feature_4 : decode cL_feature 4 = .ok (.iload_n 1, 1) := by decide +kernel
theorem dL_feature_5 : decode cL_feature 5 = .ok (.iload_n 2, 1) := by decide +kernel
theorem dL_feature_6 : decode cL_feature 6 = .ok (.iload_n 3, 1) := by decide +kernel
theorem dL_feature_7 : decode cL_feature 7 = .ok (.iload 4, 2) := by decide +kernel
theorem dL_feature_9 : decode cL_feature 9 = .ok (.iload 5, 2) := by decide +kernel
theorem dL_feature_11 : decode cL_feature 11 = .ok (.invokevirtual 63, 3) := by decide +kernel
theorem dL_feature_14 : decode cL_feature 14 = .ok (.i2l, 1) := by decide +kernel
theorem dL_feature_15 : decode cL_feature 15 = .ok (.lastore, 1) := by decide +kernel
theorem dL_feature_16 : decode cL_feature 16 = .ok (.goto 15, 3) := by decide +kernel
theorem dL_feature_19 : decode cL_feature 19 = .ok (.astore 7, 2) := by decide +kernel
theorem dL_feature_21 : decode cL_feature 21 = .ok (.iconst 1, 1) := by decide +kernel
theorem dL_feature_22 : decode cL_feature 22 = .ok (.ireturn, 1) := by decide +kernel
theorem dL_feature_23 : decode cL_feature 23 = .ok (.astore 7, 2) := by decide +kernel
theorem dL_feature_25 : decode cL_feature 25 = .ok (.iconst 2, 1) := by decide +kernel
theorem dL_feature_26 : decode cL_feature 26 = .ok (.ireturn, 1) := by decide +kernel
theorem dL_feature_27 : decode cL_feature 27 = .ok (.astore 7, 2) := by decide +kernel
theorem dL_feature_29 : decode cL_feature 29 = .ok (.iconst 3, 1) := by decide +kernel
theorem dL_feature_30 : decode cL_feature 30 = .ok (.ireturn, 1) := by decide +kernel
theorem dL_feature_31 : decode cL_feature 31 = .ok (.iconst 0, 1) := by decide +kernel
theorem dL_feature_32 : decode cL_feature 32 = .ok (.ireturn, 1) := by decide +kernel
theorem dL_allow_0 : decode cL_allow 0 = .ok (.aload 5, 2) := by decide +kernel
theorem dL_allow_2 : decode cL_allow 2 = .ok (.iconst 0, 1) := by decide +kernel
theorem dL_allow_3 : decode cL_allow 3 = .ok (.aload_n 0, 1) := by decide +kernel
theorem dL_allow_4 : decode cL_allow 4 = .ok (.iload_n 1, 1) := by decide +kernel
theorem dL_allow_5 : decode cL_allow 5 = .ok (.iload_n 2, 1) := by decide +kernel
theorem dL_allow_6 : decode cL_allow 6 = .ok (.iload_n 3, 1) := by decide +kernel
theorem dL_allow_7 : decode cL_allow 7 = .ok (.iload 4, 2) := by decide +kernel
theorem dL_allow_9 : decode cL_allow 9 = .ok (.invokevirtual 67, 3) := by decide +kernel
theorem dL_allow_12 : decode cL_allow 12 = .ok (.i2l, 1) := by decide +kernel
theorem dL_allow_13 : decode cL_allow 13 = .ok (.lastore, 1) := by decide +kernel
theorem dL_allow_14 : decode cL_allow 14 = .ok (.goto 11, 3) := by decide +kernel
theorem dL_allow_17 : decode cL_allow 17 = .ok (.astore 6, 2) := by decide +kernel
theorem dL_allow_19 : decode cL_allow 19 = .ok (.iconst 1, 1) := by decide +kernel
theorem dL_allow_20 : decode cL_allow 20 = .ok (.ireturn, 1) := by decide +kernel
theorem dL_allow_21 : decode cL_allow 21 = .ok (.astore 6, 2) := by decide +kernel
theorem dL_allow_23 : decode cL_allow 23 = .ok (.iconst 2, 1) := by decide +kernel
theorem dL_allow_24 : decode cL_allow 24 = .ok (.ireturn, 1) := by decide +kernel
theorem dL_allow_25 : decode cL_allow 25 = .ok (.iconst 0, 1) := by decide +kernel
theorem dL_allow_26 : decode cL_allow 26 = .ok (.ireturn, 1) := by decide +kernel
theorem dL_judge_0 : decode cL_judge 0 = .ok (.aload 4, 2) := by decide +kernel
theorem dL_judge_2 : decode cL_judge 2 = .ok (.iconst 0, 1) := by decide +kernel
theorem dL_judge_3 : decode cL_judge 3 = .ok (.aload_n 0, 1) := by decide +kernel
theorem dL_judge_4 : decode cL_judge 4 = .ok (.iload_n 1, 1) := by decide +kernel
theorem dL_judge_5 : decode cL_judge 5 = .ok (.iload_n 2, 1) := by decide +kernel
theorem dL_judge_6 : decode cL_judge 6 = .ok (.iload_n 3, 1) := by decide +kernel
theorem dL_judge_7 : decode cL_judge 7 = .ok (.invokevirtual 70, 3) := by decide +kernel
theorem dL_judge_10 : decode cL_judge 10 = .ok (.i2l, 1) := by decide +kernel
theorem dL_judge_11 : decode cL_judge 11 = .ok (.lastore, 1) := by decide +kernel
theorem dL_judge_12 : decode cL_judge 12 = .ok (.goto 11, 3) := by decide +kernel
theorem dL_judge_15 : decode cL_judge 15 = .ok (.astore 5, 2) := by decide +kernel
theorem dL_judge_17 : decode cL_judge 17 = .ok (.iconst 1, 1) := by decide +kernel
theorem dL_judge_18 : decode cL_judge 18 = .ok (.ireturn, 1) := by decide +kernel
theorem dL_judge_19 : decode cL_judge 19 = .ok (.astore 5, 2) := by decide +kernel
theorem dL_judge_21 : decode cL_judge 21 = .ok (.iconst 2, 1) := by decide +kernel
theorem dL_judge_22 : decode cL_judge 22 = .ok (.ireturn, 1) := by decide +kernel
theorem dL_judge_23 : decode cL_judge 23 = .ok (.iconst 0, 1) := by decide +kernel
theorem dL_judge_24 : decode cL_judge 24 = .ok (.ireturn, 1) := by decide +kernel
theorem dL_correct_0 : decode cL_correct 0 = .ok (.aload_n 2, 1) := by decide +kernel
theorem dL_correct_1 : decode cL_correct 1 = .ok (.iconst 0, 1) := by decide +kernel
theorem dL_correct_2 : decode cL_correct 2 = .ok (.aload_n 0, 1) := by decide +kernel
theorem dL_correct_3 : decode cL_correct 3 = .ok (.iload_n 1, 1) := by decide +kernel
theorem dL_correct_4 : decode cL_correct 4 = .ok (.invokevirtual 73, 3) := by decide +kernel
theorem dL_correct_7 : decode cL_correct 7 = .ok (.i2l, 1) := by decide +kernel
theorem dL_correct_8 : decode cL_correct 8 = .ok (.lastore, 1) := by decide +kernel
theorem dL_correct_9 : decode cL_correct 9 = .ok (.goto 6, 3) := by decide +kernel
theorem dL_correct_12 : decode cL_correct 12 = .ok (.astore_n 3, 1) := by decide +kernel
theorem dL_correct_13 : decode cL_correct 13 = .ok (.iconst 1, 1) := by decide +kernel
theorem dL_correct_14 : decode cL_correct 14 = .ok (.ireturn, 1) := by decide +kernel
theorem dL_correct_15 : decode cL_correct 15 = .ok (.iconst 0, 1) := by decide +kernel
theorem dL_correct_16 : decode cL_correct 16 = .ok (.ireturn, 1) := by decide +kernel
theorem dL_ofTool_0 : decode cL_ofTool 0 = .ok (.aload_n 3, 1) := by decide +kernel
theorem dL_ofTool_1 : decode cL_ofTool 1 = .ok (.iconst 0, 1) := by decide +kernel
theorem dL_ofTool_2 : decode cL_ofTool 2 = .ok (.aload_n 0, 1) := by decide +kernel
theorem dL_ofTool_3 : decode cL_ofTool 3 = .ok (.iload_n 1, 1) := by decide +kernel
theorem dL_ofTool_4 : decode cL_ofTool 4 = .ok (.iload_n 2, 1) := by decide +kernel
theorem dL_ofTool_5 : decode cL_ofTool 5 = .ok (.invokevirtual 76, 3) := by decide +kernel
theorem dL_ofTool_8 : decode cL_ofTool 8 = .ok (.i2l, 1) := by decide +kernel
theorem dL_ofTool_9 : decode cL_ofTool 9 = .ok (.lastore, 1) := by decide +kernel
theorem dL_ofTool_10 : decode cL_ofTool 10 = .ok (.goto 11, 3) := by decide +kernel
theorem dL_ofTool_13 : decode cL_ofTool 13 = .ok (.astore 4, 2) := by decide +kernel
theorem dL_ofTool_15 : decode cL_ofTool 15 = .ok (.iconst 1, 1) := by decide +kernel
theorem dL_ofTool_16 : decode cL_ofTool 16 = .ok (.ireturn, 1) := by decide +kernel
theorem dL_ofTool_17 : decode cL_ofTool 17 = .ok (.astore 4, 2) := by decide +kernel
theorem dL_ofTool_19 : decode cL_ofTool 19 = .ok (.iconst 2, 1) := by decide +kernel
theorem dL_ofTool_20 : decode cL_ofTool 20 = .ok (.ireturn, 1) := by decide +kernel
theorem dL_ofTool_21 : decode cL_ofTool 21 = .ok (.iconst 0, 1) := by decide +kernel
theorem dL_ofTool_22 : decode cL_ofTool 22 = .ok (.ireturn, 1) := by decide +kernel
theorem dL_ofCell_0 : decode cL_ofCell 0 = .ok (.aload 5, 2) := by decide +kernel
theorem dL_ofCell_2 : decode cL_ofCell 2 = .ok (.iconst 0, 1) := by decide +kernel
theorem dL_ofCell_3 : decode cL_ofCell 3 = .ok (.aload_n 0, 1) := by decide +kernel
theorem dL_ofCell_4 : decode cL_ofCell 4 = .ok (.iload_n 1, 1) := by decide +kernel
theorem dL_ofCell_5 : decode cL_ofCell 5 = .ok (.iload_n 2, 1) := by decide +kernel
theorem dL_ofCell_6 : decode cL_ofCell 6 = .ok (.iload_n 3, 1) := by decide +kernel
theorem dL_ofCell_7 : decode cL_ofCell 7 = .ok (.iload 4, 2) := by decide +kernel
theorem dL_ofCell_9 : decode cL_ofCell 9 = .ok (.invokevirtual 79, 3) := by decide +kernel
theorem dL_ofCell_12 : decode cL_ofCell 12 = .ok (.i2l, 1) := by decide +kernel
theorem dL_ofCell_13 : decode cL_ofCell 13 = .ok (.lastore, 1) := by decide +kernel
theorem dL_ofCell_14 : decode cL_ofCell 14 = .ok (.goto 11, 3) := by decide +kernel
theorem dL_ofCell_17 : decode cL_ofCell 17 = .ok (.astore 6, 2) := by decide +kernel
theorem dL_ofCell_19 : decode cL_ofCell 19 = .ok (.iconst 1, 1) := by decide +kernel
theorem dL_ofCell_20 : decode cL_ofCell 20 = .ok (.ireturn, 1) := by decide +kernel
theorem dL_ofCell_21 : decode cL_ofCell 21 = .ok (.astore 6, 2) := by decide +kernel
theorem dL_ofCell_23 : decode cL_ofCell 23 = .ok (.iconst 2, 1) := by decide +kernel
theorem dL_ofCell_24 : decode cL_ofCell 24 = .ok (.ireturn, 1) := by decide +kernel
theorem dL_ofCell_25 : decode cL_ofCell 25 = .ok (.iconst 0, 1) := by decide +kernel
theorem dL_ofCell_26 : decode cL_ofCell 26 = .ok (.ireturn, 1) := by decide +kernel
theorem dL_ofPallet_0 : decode cL_ofPallet 0 = .ok (.aload_n 3, 1) := by decide +kernel
theorem dL_ofPallet_1 : decode cL_ofPallet 1 = .ok (.iconst 0, 1) := by decide +kernel
theorem dL_ofPallet_2 : decode cL_ofPallet 2 = .ok (.aload_n 0, 1) := by decide +kernel
theorem dL_ofPallet_3 : decode cL_ofPallet 3 = .ok (.iload_n 1, 1) := by decide +kernel
theorem dL_ofPallet_4 : decode cL_ofPallet 4 = .ok (.iload_n 2, 1) := by decide +kernel
theorem dL_ofPallet_5 : decode cL_ofPallet 5 = .ok (.invokevirtual 82, 3) := by decide +kernel
theorem dL_ofPallet_8 : decode cL_ofPallet 8 = .ok (.i2l, 1) := by decide +kernel
theorem dL_ofPallet_9 : decode cL_ofPallet 9 = .ok (.lastore, 1) := by decide +kernel
theorem dL_ofPallet_10 : decode cL_ofPallet 10 = .ok (.goto 11, 3) := by decide +kernel
theorem dL_ofPallet_13 : decode cL_ofPallet 13 = .ok (.astore 4, 2) := by decide +kernel
theorem dL_ofPallet_15 : decode cL_ofPallet 15 = .ok (.iconst 1, 1) := by decide +kernel
theorem dL_ofPallet_16 : decode cL_ofPallet 16 = .ok (.ireturn, 1) := by decide +kernel
theorem dL_ofPallet_17 : decode cL_ofPallet 17 = .ok (.astore 4, 2) := by decide +kernel
theorem dL_ofPallet_19 : decode cL_ofPallet 19 = .ok (.iconst 2, 1) := by decide +kernel
theorem dL_ofPallet_20 : decode cL_ofPallet 20 = .ok (.ireturn, 1) := by decide +kernel
theorem dL_ofPallet_21 : decode cL_ofPallet 21 = .ok (.iconst 0, 1) := by decide +kernel
theorem dL_ofPallet_22 : decode cL_ofPallet 22 = .ok (.ireturn, 1) := by decide +kernel
theorem dL_ofPaper_0 : decode cL_ofPaper 0 = .ok (.aload_n 3, 1) := by decide +kernel
theorem dL_ofPaper_1 : decode cL_ofPaper 1 = .ok (.iconst 0, 1) := by decide +kernel
theorem dL_ofPaper_2 : decode cL_ofPaper 2 = .ok (.aload_n 0, 1) := by decide +kernel
theorem dL_ofPaper_3 : decode cL_ofPaper 3 = .ok (.iload_n 1, 1) := by decide +kernel
theorem dL_ofPaper_4 : decode cL_ofPaper 4 = .ok (.iload_n 2, 1) := by decide +kernel
theorem dL_ofPaper_5 : decode cL_ofPaper 5 = .ok (.invokevirtual 85, 3) := by decide +kernel
theorem dL_ofPaper_8 : decode cL_ofPaper 8 = .ok (.i2l, 1) := by decide +kernel
theorem dL_ofPaper_9 : decode cL_ofPaper 9 = .ok (.lastore, 1) := by decide +kernel
theorem dL_ofPaper_10 : decode cL_ofPaper 10 = .ok (.goto 11, 3) := by decide +kernel
theorem dL_ofPaper_13 : decode cL_ofPaper 13 = .ok (.astore 4, 2) := by decide +kernel
theorem dL_ofPaper_15 : decode cL_ofPaper 15 = .ok (.iconst 1, 1) := by decide +kernel
theorem dL_ofPaper_16 : decode cL_ofPaper 16 = .ok (.ireturn, 1) := by decide +kernel
theorem dL_ofPaper_17 : decode cL_ofPaper 17 = .ok (.astore 4, 2) := by decide +kernel
theorem dL_ofPaper_19 : decode cL_ofPaper 19 = .ok (.iconst 2, 1) := by decide +kernel
theorem dL_ofPaper_20 : decode cL_ofPaper 20 = .ok (.ireturn, 1) := by decide +kernel
theorem dL_ofPaper_21 : decode cL_ofPaper 21 = .ok (.iconst 0, 1) := by decide +kernel
theorem dL_ofPaper_22 : decode cL_ofPaper 22 = .ok (.ireturn, 1) := by decide +kernel
theorem dL_judgeAnew_0 : decode cL_judgeAnew 0 = .ok (.aload_n 2, 1) := by decide +kernel
theorem dL_judgeAnew_1 : decode cL_judgeAnew 1 = .ok (.iconst 0, 1) := by decide +kernel
theorem dL_judgeAnew_2 : decode cL_judgeAnew 2 = .ok (.aload_n 0, 1) := by decide +kernel
theorem dL_judgeAnew_3 : decode cL_judgeAnew 3 = .ok (.iload_n 1, 1) := by decide +kernel
theorem dL_judgeAnew_4 : decode cL_judgeAnew 4 = .ok (.invokevirtual 88, 3) := by decide +kernel
theorem dL_judgeAnew_7 : decode cL_judgeAnew 7 = .ok (.i2l, 1) := by decide +kernel
theorem dL_judgeAnew_8 : decode cL_judgeAnew 8 = .ok (.lastore, 1) := by decide +kernel
theorem dL_judgeAnew_9 : decode cL_judgeAnew 9 = .ok (.goto 6, 3) := by decide +kernel
theorem dL_judgeAnew_12 : decode cL_judgeAnew 12 = .ok (.astore_n 3, 1) := by decide +kernel
theorem dL_judgeAnew_13 : decode cL_judgeAnew 13 = .ok (.iconst 1, 1) := by decide +kernel
theorem dL_judgeAnew_14 : decode cL_judgeAnew 14 = .ok (.ireturn, 1) := by decide +kernel
theorem dL_judgeAnew_15 : decode cL_judgeAnew 15 = .ok (.iconst 0, 1) := by decide +kernel
theorem dL_judgeAnew_16 : decode cL_judgeAnew 16 = .ok (.ireturn, 1) := by decide +kernel
theorem dL_law_0 : decode cL_law 0 = .ok (.new 8, 3) := by decide +kernel
theorem dL_law_3 : decode cL_law 3 = .ok (.dup, 1) := by decide +kernel
theorem dL_law_4 : decode cL_law 4 = .ok (.invokespecial 91, 3) := by decide +kernel
theorem dL_law_7 : decode cL_law 7 = .ok (.astore_n 1, 1) := by decide +kernel
theorem dL_law_8 : decode cL_law 8 = .ok (.new 92, 3) := by decide +kernel
theorem dL_law_11 : decode cL_law 11 = .ok (.dup, 1) := by decide +kernel
theorem dL_law_12 : decode cL_law 12 = .ok (.invokespecial 94, 3) := by decide +kernel
theorem dL_law_15 : decode cL_law 15 = .ok (.astore_n 2, 1) := by decide +kernel
theorem dL_law_16 : decode cL_law 16 = .ok (.iconst 1, 1) := by decide +kernel
theorem dL_law_17 : decode cL_law 17 = .ok (.newarray .long, 2) := by decide +kernel
theorem dL_law_19 : decode cL_law 19 = .ok (.astore_n 3, 1) := by decide +kernel
theorem dL_law_20 : decode cL_law 20 = .ok (.iconst 0, 1) := by decide +kernel
theorem dL_law_21 : decode cL_law 21 = .ok (.istore 4, 2) := by decide +kernel
theorem dL_law_23 : decode cL_law 23 = .ok (.iload 4, 2) := by decide +kernel
theorem dL_law_25 : decode cL_law 25 = .ok (.aload_n 0, 1) := by decide +kernel
theorem dL_law_26 : decode cL_law 26 = .ok (.arraylength, 1) := by decide +kernel
theorem dL_law_27 : decode cL_law 27 = .ok (.bipush 6, 2) := by decide +kernel
theorem dL_law_29 : decode cL_law 29 = .ok (.isub, 1) := by decide +kernel
theorem dL_law_30 : decode cL_law 30 = .ok (.if_icmp .gt 1796, 3) := by decide +kernel
theorem dL_law_33 : decode cL_law 33 = .ok (.aload_n 0, 1) := by decide +kernel
theorem dL_law_34 : decode cL_law 34 = .ok (.iload 4, 2) := by decide +kernel
theorem dL_law_36 : decode cL_law 36 = .ok (.iaload, 1) := by decide +kernel
theorem dL_law_37 : decode cL_law 37 = .ok (.bipush 31, 2) := by decide +kernel
theorem dL_law_39 : decode cL_law 39 = .ok (.iand, 1) := by decide +kernel
theorem dL_law_40 : decode cL_law 40 = .ok (.tableswitch 1780 0 26 #[124, 168, 248, 316, 384, 468, 524, 616, 684, 752, 820, 833, 846, 902, 958, 1026, 1070, 1174, 1266, 1346, 1402, 1415, 1428, 1496, 1588, 1656, 1724], 124) := by decide +kernel
theorem dL_law_164 : decode cL_law 164 = .ok (.aload_n 1, 1) := by decide +kernel
theorem dL_law_165 : decode cL_law 165 = .ok (.aload_n 3, 1) := by decide +kernel
theorem dL_law_166 : decode cL_law 166 = .ok (.invokestatic 95, 3) := by decide +kernel
theorem dL_law_169 : decode cL_law 169 = .ok (.istore 5, 2) := by decide +kernel
theorem dL_law_171 : decode cL_law 171 = .ok (.aload_n 2, 1) := by decide +kernel
theorem dL_law_172 : decode cL_law 172 = .ok (.invokevirtual 100, 3) := by decide +kernel
theorem dL_law_175 : decode cL_law 175 = .ok (.istore 6, 2) := by decide +kernel
theorem dL_law_177 : decode cL_law 177 = .ok (.aload_n 2, 1) := by decide +kernel
theorem dL_law_178 : decode cL_law 178 = .ok (.invokevirtual 101, 3) := by decide +kernel
theorem dL_law_181 : decode cL_law 181 = .ok (.iload 5, 2) := by decide +kernel
theorem dL_law_183 : decode cL_law 183 = .ok (.if_icmp .eq 5, 3) := by decide +kernel
theorem dL_law_186 : decode cL_law 186 = .ok (.iconst 0, 1) := by decide +kernel
theorem dL_law_187 : decode cL_law 187 = .ok (.ireturn, 1) := by decide +kernel
theorem dL_law_188 : decode cL_law 188 = .ok (.iload 5, 2) := by decide +kernel
theorem dL_law_190 : decode cL_law 190 = .ok (.ifCond .ne 15, 3) := by decide +kernel
theorem dL_law_193 : decode cL_law 193 = .ok (.aload_n 3, 1) := by decide +kernel
theorem dL_law_194 : decode cL_law 194 = .ok (.iconst 0, 1) := by decide +kernel
theorem dL_law_195 : decode cL_law 195 = .ok (.laload, 1) := by decide +kernel
theorem dL_law_196 : decode cL_law 196 = .ok (.iload 6, 2) := by decide +kernel
theorem dL_law_198 : decode cL_law 198 = .ok (.i2l, 1) := by decide +kernel
theorem dL_law_199 : decode cL_law 199 = .ok (.lcmp, 1) := by decide +kernel
theorem dL_law_200 : decode cL_law 200 = .ok (.ifCond .eq 5, 3) := by decide +kernel
theorem dL_law_203 : decode cL_law 203 = .ok (.iconst 0, 1) := by decide +kernel
theorem dL_law_204 : decode cL_law 204 = .ok (.ireturn, 1) := by decide +kernel
theorem dL_law_205 : decode cL_law 205 = .ok (.goto 1615, 3) := by decide +kernel
theorem dL_law_208 : decode cL_law 208 = .ok (.aload_n 1, 1) := by decide +kernel
theorem dL_law_209 : decode cL_law 209 = .ok (.aload_n 0, 1) := by decide +kernel
theorem dL_law_210 : decode cL_law 210 = .ok (.iload 4, 2) := by decide +kernel
theorem dL_law_212 : decode cL_law 212 = .ok (.iconst 1, 1) := by decide +kernel
theorem dL_law_213 : decode cL_law 213 = .ok (.iadd, 1) := by decide +kernel
theorem dL_law_214 : decode cL_law 214 = .ok (.iaload, 1) := by decide +kernel
theorem dL_law_215 : decode cL_law 215 = .ok (.aload_n 0, 1) := by decide +kernel
theorem dL_law_216 : decode cL_law 216 = .ok (.iload 4, 2) := by decide +kernel
theorem dL_law_218 : decode cL_law 218 = .ok (.iconst 2, 1) := by decide +kernel
theorem dL_law_219 : decode cL_law 219 = .ok (.iadd, 1) := by decide +kernel
theorem dL_law_220 : decode cL_law 220 = .ok (.iaload, 1) := by decide +kernel
theorem dL_law_221 : decode cL_law 221 = .ok (.aload_n 0, 1) := by decide +kernel
theorem dL_law_222 : decode cL_law 222 = .ok (.iload 4, 2) := by decide +kernel
theorem dL_law_224 : decode cL_law 224 = .ok (.iconst 3, 1) := by decide +kernel
theorem dL_law_225 : decode cL_law 225 = .ok (.iadd, 1) := by decide +kernel
theorem dL_law_226 : decode cL_law 226 = .ok (.iaload, 1) := by decide +kernel
theorem dL_law_227 : decode cL_law 227 = .ok (.aload_n 3, 1) := by decide +kernel
theorem dL_law_228 : decode cL_law 228 = .ok (.invokestatic 104, 3) := by decide +kernel
theorem dL_law_231 : decode cL_law 231 = .ok (.istore 5, 2) := by decide +kernel
theorem dL_law_233 : decode cL_law 233 = .ok (.aload_n 2, 1) := by decide +kernel
theorem dL_law_234 : decode cL_law 234 = .ok (.aload_n 0, 1) := by decide +kernel
theorem dL_law_235 : decode cL_law 235 = .ok (.iload 4, 2) := by decide +kernel
theorem dL_law_237 : decode cL_law 237 = .ok (.iconst 1, 1) := by decide +kernel
theorem dL_law_238 : decode cL_law 238 = .ok (.iadd, 1) := by decide +kernel
theorem dL_law_239 : decode cL_law 239 = .ok (.iaload, 1) := by decide +kernel
theorem dL_law_240 : decode cL_law 240 = .ok (.aload_n 0, 1) := by decide +kernel
theorem dL_law_241 : decode cL_law 241 = .ok (.iload 4, 2) := by decide +kernel
theorem dL_law_243 : decode cL_law 243 = .ok (.iconst 2, 1) := by decide +kernel
theorem dL_law_244 : decode cL_law 244 = .ok (.iadd, 1) := by decide +kernel
theorem dL_law_245 : decode cL_law 245 = .ok (.iaload, 1) := by decide +kernel
theorem dL_law_246 : decode cL_law 246 = .ok (.aload_n 0, 1) := by decide +kernel
theorem dL_law_247 : decode cL_law 247 = .ok (.iload 4, 2) := by decide +kernel
theorem dL_law_249 : decode cL_law 249 = .ok (.iconst 3, 1) := by decide +kernel
theorem dL_law_250 : decode cL_law 250 = .ok (.iadd, 1) := by decide +kernel
theorem dL_law_251 : decode cL_law 251 = .ok (.iaload, 1) := by decide +kernel
theorem dL_law_252 : decode cL_law 252 = .ok (.invokevirtual 107, 3) := by decide +kernel
theorem dL_law_255 : decode cL_law 255 = .ok (.istore 6, 2) := by decide +kernel
theorem dL_law_257 : decode cL_law 257 = .ok (.aload_n 2, 1) := by decide +kernel
theorem dL_law_258 : decode cL_law 258 = .ok (.invokevirtual 101, 3) := by decide +kernel
theorem dL_law_261 : decode cL_law 261 = .ok (.iload 5, 2) := by decide +kernel
theorem dL_law_263 : decode cL_law 263 = .ok (.if_icmp .eq 5, 3) := by decide +kernel
theorem dL_law_266 : decode cL_law 266 = .ok (.iconst 0, 1) := by decide +kernel
theorem dL_law_267 : decode cL_law 267 = .ok (.ireturn, 1) := by decide +kernel
theorem dL_law_268 : decode cL_law 268 = .ok (.iload 5, 2) := by decide +kernel
theorem dL_law_270 : decode cL_law 270 = .ok (.ifCond .ne 15, 3) := by decide +kernel
theorem dL_law_273 : decode cL_law 273 = .ok (.aload_n 3, 1) := by decide +kernel
theorem dL_law_274 : decode cL_law 274 = .ok (.iconst 0, 1) := by decide +kernel
theorem dL_law_275 : decode cL_law 275 = .ok (.laload, 1) := by decide +kernel
theorem dL_law_276 : decode cL_law 276 = .ok (.iload 6, 2) := by decide +kernel
theorem dL_law_278 : decode cL_law 278 = .ok (.i2l, 1) := by decide +kernel
theorem dL_law_279 : decode cL_law 279 = .ok (.lcmp, 1) := by decide +kernel
theorem dL_law_280 : decode cL_law 280 = .ok (.ifCond .eq 5, 3) := by decide +kernel
theorem dL_law_283 : decode cL_law 283 = .ok (.iconst 0, 1) := by decide +kernel
theorem dL_law_284 : decode cL_law 284 = .ok (.ireturn, 1) := by decide +kernel
theorem dL_law_285 : decode cL_law 285 = .ok (.goto 1535, 3) := by decide +kernel
theorem dL_law_288 : decode cL_law 288 = .ok (.aload_n 1, 1) := by decide +kernel
theorem dL_law_289 : decode cL_law 289 = .ok (.aload_n 0, 1) := by decide +kernel
theorem dL_law_290 : decode cL_law 290 = .ok (.iload 4, 2) := by decide +kernel
theorem dL_law_292 : decode cL_law 292 = .ok (.iconst 1, 1) := by decide +kernel
theorem dL_law_293 : decode cL_law 293 = .ok (.iadd, 1) := by decide +kernel
theorem dL_law_294 : decode cL_law 294 = .ok (.iaload, 1) := by decide +kernel
theorem dL_law_295 : decode cL_law 295 = .ok (.aload_n 0, 1) := by decide +kernel
theorem dL_law_296 : decode cL_law 296 = .ok (.iload 4, 2) := by decide +kernel
theorem dL_law_298 : decode cL_law 298 = .ok (.iconst 2, 1) := by decide +kernel
theorem dL_law_299 : decode cL_law 299 = .ok (.iadd, 1) := by decide +kernel
theorem dL_law_300 : decode cL_law 300 = .ok (.iaload, 1) := by decide +kernel
theorem dL_law_301 : decode cL_law 301 = .ok (.aload_n 3, 1) := by decide +kernel
theorem dL_law_302 : decode cL_law 302 = .ok (.invokestatic 108, 3) := by decide +kernel
theorem dL_law_305 : decode cL_law 305 = .ok (.istore 5, 2) := by decide +kernel
theorem dL_law_307 : decode cL_law 307 = .ok (.aload_n 2, 1) := by decide +kernel
theorem dL_law_308 : decode cL_law 308 = .ok (.aload_n 0, 1) := by decide +kernel
theorem dL_law_309 : decode cL_law 309 = .ok (.iload 4, 2) := by decide +kernel
theorem dL_law_311 : decode cL_law 311 = .ok (.iconst 1, 1) := by decide +kernel
theorem dL_law_312 : decode cL_law 312 = .ok (.iadd, 1) := by decide +kernel
theorem dL_law_313 : decode cL_law 313 = .ok (.iaload, 1) := by decide +kernel
theorem dL_law_314 : decode cL_law 314 = .ok (.aload_n 0, 1) := by decide +kernel
theorem dL_law_315 : decode cL_law 315 = .ok (.iload 4, 2) := by decide +kernel
theorem dL_law_317 : decode cL_law 317 = .ok (.iconst 2, 1) := by decide +kernel
theorem dL_law_318 : decode cL_law 318 = .ok (.iadd, 1) := by decide +kernel
theorem dL_law_319 : decode cL_law 319 = .ok (.iaload, 1) := by decide +kernel
theorem dL_law_320 : decode cL_law 320 = .ok (.invokevirtual 111, 3) := by decide +kernel
theorem dL_law_323 : decode cL_law 323 = .ok (.istore 6, 2) := by decide +kernel
theorem dL_law_325 : decode cL_law 325 = .ok (.aload_n 2, 1) := by decide +kernel
theorem dL_law_326 : decode cL_law 326 = .ok (.invokevirtual 101, 3) := by decide +kernel
theorem dL_law_329 : decode cL_law 329 = .ok (.iload 5, 2) := by decide +kernel
theorem dL_law_331 : decode cL_law 331 = .ok (.if_icmp .eq 5, 3) := by decide +kernel
theorem dL_law_334 : decode cL_law 334 = .ok (.iconst 0, 1) := by decide +kernel
theorem dL_law_335 : decode cL_law 335 = .ok (.ireturn, 1) := by decide +kernel
theorem dL_law_336 : decode cL_law 336 = .ok (.iload 5, 2) := by decide +kernel
theorem dL_law_338 : decode cL_law 338 = .ok (.ifCond .ne 15, 3) := by decide +kernel
theorem dL_law_341 : decode cL_law 341 = .ok (.aload_n 3, 1) := by decide +kernel
theorem dL_law_342 : decode cL_law 342 = .ok (.iconst 0, 1) := by decide +kernel
theorem dL_law_343 : decode cL_law 343 = .ok (.laload, 1) := by decide +kernel
theorem dL_law_344 : decode cL_law 344 = .ok (.iload 6, 2) := by decide +kernel
theorem dL_law_346 : decode cL_law 346 = .ok (.i2l, 1) := by decide +kernel
theorem dL_law_347 : decode cL_law 347 = .ok (.lcmp, 1) := by decide +kernel
theorem dL_law_348 : decode cL_law 348 = .ok (.ifCond .eq 5, 3) := by decide +kernel
theorem dL_law_351 : decode cL_law 351 = .ok (.iconst 0, 1) := by decide +kernel
theorem dL_law_352 : decode cL_law 352 = .ok (.ireturn, 1) := by decide +kernel
theorem dL_law_353 : decode cL_law 353 = .ok (.goto 1467, 3) := by decide +kernel
theorem dL_law_356 : decode cL_law 356 = .ok (.aload_n 1, 1) := by decide +kernel
theorem dL_law_357 : decode cL_law 357 = .ok (.aload_n 0, 1) := by decide +kernel
theorem dL_law_358 : decode cL_law 358 = .ok (.iload 4, 2) := by decide +kernel
theorem dL_law_360 : decode cL_law 360 = .ok (.iconst 1, 1) := by decide +kernel
theorem dL_law_361 : decode cL_law 361 = .ok (.iadd, 1) := by decide +kernel
theorem dL_law_362 : decode cL_law 362 = .ok (.iaload, 1) := by decide +kernel
theorem dL_law_363 : decode cL_law 363 = .ok (.aload_n 0, 1) := by decide +kernel
theorem dL_law_364 : decode cL_law 364 = .ok (.iload 4, 2) := by decide +kernel
theorem dL_law_366 : decode cL_law 366 = .ok (.iconst 2, 1) := by decide +kernel
theorem dL_law_367 : decode cL_law 367 = .ok (.iadd, 1) := by decide +kernel
theorem dL_law_368 : decode cL_law 368 = .ok (.iaload, 1) := by decide +kernel
theorem dL_law_369 : decode cL_law 369 = .ok (.aload_n 3, 1) := by decide +kernel
theorem dL_law_370 : decode cL_law 370 = .ok (.invokestatic 112, 3) := by decide +kernel
theorem dL_law_373 : decode cL_law 373 = .ok (.istore 5, 2) := by decide +kernel
theorem dL_law_375 : decode cL_law 375 = .ok (.aload_n 2, 1) := by decide +kernel
theorem dL_law_376 : decode cL_law 376 = .ok (.aload_n 0, 1) := by decide +kernel
theorem dL_law_377 : decode cL_law 377 = .ok (.iload 4, 2) := by decide +kernel
theorem dL_law_379 : decode cL_law 379 = .ok (.iconst 1, 1) := by decide +kernel
theorem dL_law_380 : decode cL_law 380 = .ok (.iadd, 1) := by decide +kernel
theorem dL_law_381 : decode cL_law 381 = .ok (.iaload, 1) := by decide +kernel
theorem dL_law_382 : decode cL_law 382 = .ok (.aload_n 0, 1) := by decide +kernel
theorem dL_law_383 : decode cL_law 383 = .ok (.iload 4, 2) := by decide +kernel
theorem dL_law_385 : decode cL_law 385 = .ok (.iconst 2, 1) := by decide +kernel
theorem dL_law_386 : decode cL_law 386 = .ok (.iadd, 1) := by decide +kernel
theorem dL_law_387 : decode cL_law 387 = .ok (.iaload, 1) := by decide +kernel
theorem dL_law_388 : decode cL_law 388 = .ok (.invokevirtual 114, 3) := by decide +kernel
theorem dL_law_391 : decode cL_law 391 = .ok (.istore 6, 2) := by decide +kernel
theorem dL_law_393 : decode cL_law 393 = .ok (.aload_n 2, 1) := by decide +kernel
theorem dL_law_394 : decode cL_law 394 = .ok (.invokevirtual 101, 3) := by decide +kernel
theorem dL_law_397 : decode cL_law 397 = .ok (.iload 5, 2) := by decide +kernel
theorem dL_law_399 : decode cL_law 399 = .ok (.if_icmp .eq 5, 3) := by decide +kernel
theorem dL_law_402 : decode cL_law 402 = .ok (.iconst 0, 1) := by decide +kernel
theorem dL_law_403 : decode cL_law 403 = .ok (.ireturn, 1) := by decide +kernel
theorem dL_law_404 : decode cL_law 404 = .ok (.iload 5, 2) := by decide +kernel
theorem dL_law_406 : decode cL_law 406 = .ok (.ifCond .ne 15, 3) := by decide +kernel
theorem dL_law_409 : decode cL_law 409 = .ok (.aload_n 3, 1) := by decide +kernel
theorem dL_law_410 : decode cL_law 410 = .ok (.iconst 0, 1) := by decide +kernel
theorem dL_law_411 : decode cL_law 411 = .ok (.laload, 1) := by decide +kernel
theorem dL_law_412 : decode cL_law 412 = .ok (.iload 6, 2) := by decide +kernel
theorem dL_law_414 : decode cL_law 414 = .ok (.i2l, 1) := by decide +kernel
theorem dL_law_415 : decode cL_law 415 = .ok (.lcmp, 1) := by decide +kernel
theorem dL_law_416 : decode cL_law 416 = .ok (.ifCond .eq 5, 3) := by decide +kernel
theorem dL_law_419 : decode cL_law 419 = .ok (.iconst 0, 1) := by decide +kernel
theorem dL_law_420 : decode cL_law 420 = .ok (.ireturn, 1) := by decide +kernel
theorem dL_law_421 : decode cL_law 421 = .ok (.goto 1399, 3) := by decide +kernel
theorem dL_law_424 : decode cL_law 424 = .ok (.aload_n 1, 1) := by decide +kernel
theorem dL_law_425 : decode cL_law 425 = .ok (.aload_n 0, 1) := by decide +kernel
theorem dL_law_426 : decode cL_law 426 = .ok (.iload 4, 2) := by decide +kernel
theorem dL_law_428 : decode cL_law 428 = .ok (.iconst 1, 1) := by decide +kernel
theorem dL_law_429 : decode cL_law 429 = .ok (.iadd, 1) := by decide +kernel
theorem dL_law_430 : decode cL_law 430 = .ok (.iaload, 1) := by decide +kernel
theorem dL_law_431 : decode cL_law 431 = .ok (.aload_n 0, 1) := by decide +kernel
theorem dL_law_432 : decode cL_law 432 = .ok (.iload 4, 2) := by decide +kernel
theorem dL_law_434 : decode cL_law 434 = .ok (.iconst 2, 1) := by decide +kernel
theorem dL_law_435 : decode cL_law 435 = .ok (.iadd, 1) := by decide +kernel
theorem dL_law_436 : decode cL_law 436 = .ok (.iaload, 1) := by decide +kernel
theorem dL_law_437 : decode cL_law 437 = .ok (.ifCond .eq 7, 3) := by decide +kernel
theorem dL_law_440 : decode cL_law 440 = .ok (.iconst 1, 1) := by decide +kernel
theorem dL_law_441 : decode cL_law 441 = .ok (.goto 4, 3) := by decide +kernel
theorem dL_law_444 : decode cL_law 444 = .ok (.iconst 0, 1) := by decide +kernel
theorem dL_law_445 : decode cL_law 445 = .ok (.aload_n 3, 1) := by decide +kernel
theorem dL_law_446 : decode cL_law 446 = .ok (.invokestatic 115, 3) := by decide +kernel
theorem dL_law_449 : decode cL_law 449 = .ok (.istore 5, 2) := by decide +kernel
theorem dL_law_451 : decode cL_law 451 = .ok (.aload_n 2, 1) := by decide +kernel
theorem dL_law_452 : decode cL_law 452 = .ok (.aload_n 0, 1) := by decide +kernel
theorem dL_law_453 : decode cL_law 453 = .ok (.iload 4, 2) := by decide +kernel
theorem dL_law_455 : decode cL_law 455 = .ok (.iconst 1, 1) := by decide +kernel
theorem dL_law_456 : decode cL_law 456 = .ok (.iadd, 1) := by decide +kernel
theorem dL_law_457 : decode cL_law 457 = .ok (.iaload, 1) := by decide +kernel
theorem dL_law_458 : decode cL_law 458 = .ok (.aload_n 0, 1) := by decide +kernel
theorem dL_law_459 : decode cL_law 459 = .ok (.iload 4, 2) := by decide +kernel
theorem dL_law_461 : decode cL_law 461 = .ok (.iconst 2, 1) := by decide +kernel
theorem dL_law_462 : decode cL_law 462 = .ok (.iadd, 1) := by decide +kernel
theorem dL_law_463 : decode cL_law 463 = .ok (.iaload, 1) := by decide +kernel
theorem dL_law_464 : decode cL_law 464 = .ok (.ifCond .eq 7, 3) := by decide +kernel
theorem dL_law_467 : decode cL_law 467 = .ok (.iconst 1, 1) := by decide +kernel
theorem dL_law_468 : decode cL_law 468 = .ok (.goto 4, 3) := by decide +kernel
theorem dL_law_471 : decode cL_law 471 = .ok (.iconst 0, 1) := by decide +kernel
theorem dL_law_472 : decode cL_law 472 = .ok (.invokevirtual 118, 3) := by decide +kernel
theorem dL_law_475 : decode cL_law 475 = .ok (.istore 6, 2) := by decide +kernel
theorem dL_law_477 : decode cL_law 477 = .ok (.aload_n 2, 1) := by decide +kernel
theorem dL_law_478 : decode cL_law 478 = .ok (.invokevirtual 101, 3) := by decide +kernel
theorem dL_law_481 : decode cL_law 481 = .ok (.iload 5, 2) := by decide +kernel
theorem dL_law_483 : decode cL_law 483 = .ok (.if_icmp .eq 5, 3) := by decide +kernel
theorem dL_law_486 : decode cL_law 486 = .ok (.iconst 0, 1) := by decide +kernel
theorem dL_law_487 : decode cL_law 487 = .ok (.ireturn, 1) := by decide +kernel
theorem dL_law_488 : decode cL_law 488 = .ok (.iload 5, 2) := by decide +kernel
theorem dL_law_490 : decode cL_law 490 = .ok (.ifCond .ne 15, 3) := by decide +kernel
theorem dL_law_493 : decode cL_law 493 = .ok (.aload_n 3, 1) := by decide +kernel
theorem dL_law_494 : decode cL_law 494 = .ok (.iconst 0, 1) := by decide +kernel
theorem dL_law_495 : decode cL_law 495 = .ok (.laload, 1) := by decide +kernel
theorem dL_law_496 : decode cL_law 496 = .ok (.iload 6, 2) := by decide +kernel
theorem dL_law_498 : decode cL_law 498 = .ok (.i2l, 1) := by decide +kernel
theorem dL_law_499 : decode cL_law 499 = .ok (.lcmp, 1) := by decide +kernel
theorem dL_law_500 : decode cL_law 500 = .ok (.ifCond .eq 5, 3) := by decide +kernel
theorem dL_law_503 : decode cL_law 503 = .ok (.iconst 0, 1) := by decide +kernel
theorem dL_law_504 : decode cL_law 504 = .ok (.ireturn, 1) := by decide +kernel
theorem dL_law_505 : decode cL_law 505 = .ok (.goto 1315, 3) := by decide +kernel
theorem dL_law_508 : decode cL_law 508 = .ok (.aload_n 1, 1) := by decide +kernel
theorem dL_law_509 : decode cL_law 509 = .ok (.aload_n 0, 1) := by decide +kernel
theorem dL_law_510 : decode cL_law 510 = .ok (.iload 4, 2) := by decide +kernel
theorem dL_law_512 : decode cL_law 512 = .ok (.iconst 1, 1) := by decide +kernel
theorem dL_law_513 : decode cL_law 513 = .ok (.iadd, 1) := by decide +kernel
theorem dL_law_514 : decode cL_law 514 = .ok (.iaload, 1) := by decide +kernel
theorem dL_law_515 : decode cL_law 515 = .ok (.aload_n 3, 1) := by decide +kernel
theorem dL_law_516 : decode cL_law 516 = .ok (.invokestatic 119, 3) := by decide +kernel
theorem dL_law_519 : decode cL_law 519 = .ok (.istore 5, 2) := by decide +kernel
theorem dL_law_521 : decode cL_law 521 = .ok (.aload_n 2, 1) := by decide +kernel
theorem dL_law_522 : decode cL_law 522 = .ok (.aload_n 0, 1) := by decide +kernel
theorem dL_law_523 : decode cL_law 523 = .ok (.iload 4, 2) := by decide +kernel
theorem dL_law_525 : decode cL_law 525 = .ok (.iconst 1, 1) := by decide +kernel
theorem dL_law_526 : decode cL_law 526 = .ok (.iadd, 1) := by decide +kernel
theorem dL_law_527 : decode cL_law 527 = .ok (.iaload, 1) := by decide +kernel
theorem dL_law_528 : decode cL_law 528 = .ok (.invokevirtual 122, 3) := by decide +kernel
theorem dL_law_531 : decode cL_law 531 = .ok (.istore 6, 2) := by decide +kernel
theorem dL_law_533 : decode cL_law 533 = .ok (.aload_n 2, 1) := by decide +kernel
theorem dL_law_534 : decode cL_law 534 = .ok (.invokevirtual 101, 3) := by decide +kernel
theorem dL_law_537 : decode cL_law 537 = .ok (.iload 5, 2) := by decide +kernel
theorem dL_law_539 : decode cL_law 539 = .ok (.if_icmp .eq 5, 3) := by decide +kernel
theorem dL_law_542 : decode cL_law 542 = .ok (.iconst 0, 1) := by decide +kernel
theorem dL_law_543 : decode cL_law 543 = .ok (.ireturn, 1) := by decide +kernel
theorem dL_law_544 : decode cL_law 544 = .ok (.iload 5, 2) := by decide +kernel
theorem dL_law_546 : decode cL_law 546 = .ok (.ifCond .ne 15, 3) := by decide +kernel
theorem dL_law_549 : decode cL_law 549 = .ok (.aload_n 3, 1) := by decide +kernel
theorem dL_law_550 : decode cL_law 550 = .ok (.iconst 0, 1) := by decide +kernel
theorem dL_law_551 : decode cL_law 551 = .ok (.laload, 1) := by decide +kernel
theorem dL_law_552 : decode cL_law 552 = .ok (.iload 6, 2) := by decide +kernel
theorem dL_law_554 : decode cL_law 554 = .ok (.i2l, 1) := by decide +kernel
theorem dL_law_555 : decode cL_law 555 = .ok (.lcmp, 1) := by decide +kernel
theorem dL_law_556 : decode cL_law 556 = .ok (.ifCond .eq 5, 3) := by decide +kernel
theorem dL_law_559 : decode cL_law 559 = .ok (.iconst 0, 1) := by decide +kernel
theorem dL_law_560 : decode cL_law 560 = .ok (.ireturn, 1) := by decide +kernel
theorem dL_law_561 : decode cL_law 561 = .ok (.goto 1259, 3) := by decide +kernel
theorem dL_law_564 : decode cL_law 564 = .ok (.aload_n 1, 1) := by decide +kernel
theorem dL_law_565 : decode cL_law 565 = .ok (.aload_n 0, 1) := by decide +kernel
theorem dL_law_566 : decode cL_law 566 = .ok (.iload 4, 2) := by decide +kernel
theorem dL_law_568 : decode cL_law 568 = .ok (.iconst 1, 1) := by decide +kernel
theorem dL_law_569 : decode cL_law 569 = .ok (.iadd, 1) := by decide +kernel
theorem dL_law_570 : decode cL_law 570 = .ok (.iaload, 1) := by decide +kernel
theorem dL_law_571 : decode cL_law 571 = .ok (.aload_n 0, 1) := by decide +kernel
theorem dL_law_572 : decode cL_law 572 = .ok (.iload 4, 2) := by decide +kernel
theorem dL_law_574 : decode cL_law 574 = .ok (.iconst 2, 1) := by decide +kernel
theorem dL_law_575 : decode cL_law 575 = .ok (.iadd, 1) := by decide +kernel
theorem dL_law_576 : decode cL_law 576 = .ok (.iaload, 1) := by decide +kernel
theorem dL_law_577 : decode cL_law 577 = .ok (.aload_n 0, 1) := by decide +kernel
theorem dL_law_578 : decode cL_law 578 = .ok (.iload 4, 2) := by decide +kernel
theorem dL_law_580 : decode cL_law 580 = .ok (.iconst 3, 1) := by decide +kernel
theorem dL_law_581 : decode cL_law 581 = .ok (.iadd, 1) := by decide +kernel
theorem dL_law_582 : decode cL_law 582 = .ok (.iaload, 1) := by decide +kernel
theorem dL_law_583 : decode cL_law 583 = .ok (.aload_n 0, 1) := by decide +kernel
theorem dL_law_584 : decode cL_law 584 = .ok (.iload 4, 2) := by decide +kernel
theorem dL_law_586 : decode cL_law 586 = .ok (.iconst 4, 1) := by decide +kernel
theorem dL_law_587 : decode cL_law 587 = .ok (.iadd, 1) := by decide +kernel
theorem dL_law_588 : decode cL_law 588 = .ok (.iaload, 1) := by decide +kernel
theorem dL_law_589 : decode cL_law 589 = .ok (.aload_n 3, 1) := by decide +kernel
theorem dL_law_590 : decode cL_law 590 = .ok (.invokestatic 123, 3) := by decide +kernel
theorem dL_law_593 : decode cL_law 593 = .ok (.istore 5, 2) := by decide +kernel
theorem dL_law_595 : decode cL_law 595 = .ok (.aload_n 2, 1) := by decide +kernel
theorem dL_law_596 : decode cL_law 596 = .ok (.aload_n 0, 1) := by decide +kernel
theorem dL_law_597 : decode cL_law 597 = .ok (.iload 4, 2) := by decide +kernel
theorem dL_law_599 : decode cL_law 599 = .ok (.iconst 1, 1) := by decide +kernel
theorem dL_law_600 : decode cL_law 600 = .ok (.iadd, 1) := by decide +kernel
theorem dL_law_601 : decode cL_law 601 = .ok (.iaload, 1) := by decide +kernel
theorem dL_law_602 : decode cL_law 602 = .ok (.aload_n 0, 1) := by decide +kernel
theorem dL_law_603 : decode cL_law 603 = .ok (.iload 4, 2) := by decide +kernel
theorem dL_law_605 : decode cL_law 605 = .ok (.iconst 2, 1) := by decide +kernel
theorem dL_law_606 : decode cL_law 606 = .ok (.iadd, 1) := by decide +kernel
theorem dL_law_607 : decode cL_law 607 = .ok (.iaload, 1) := by decide +kernel
theorem dL_law_608 : decode cL_law 608 = .ok (.aload_n 0, 1) := by decide +kernel
theorem dL_law_609 : decode cL_law 609 = .ok (.iload 4, 2) := by decide +kernel
theorem dL_law_611 : decode cL_law 611 = .ok (.iconst 3, 1) := by decide +kernel
theorem dL_law_612 : decode cL_law 612 = .ok (.iadd, 1) := by decide +kernel
theorem dL_law_613 : decode cL_law 613 = .ok (.iaload, 1) := by decide +kernel
theorem dL_law_614 : decode cL_law 614 = .ok (.aload_n 0, 1) := by decide +kernel
theorem dL_law_615 : decode cL_law 615 = .ok (.iload 4, 2) := by decide +kernel
theorem dL_law_617 : decode cL_law 617 = .ok (.iconst 4, 1) := by decide +kernel
theorem dL_law_618 : decode cL_law 618 = .ok (.iadd, 1) := by decide +kernel
theorem dL_law_619 : decode cL_law 619 = .ok (.iaload, 1) := by decide +kernel
theorem dL_law_620 : decode cL_law 620 = .ok (.invokevirtual 126, 3) := by decide +kernel
theorem dL_law_623 : decode cL_law 623 = .ok (.istore 6, 2) := by decide +kernel
theorem dL_law_625 : decode cL_law 625 = .ok (.aload_n 2, 1) := by decide +kernel
theorem dL_law_626 : decode cL_law 626 = .ok (.invokevirtual 101, 3) := by decide +kernel
theorem dL_law_629 : decode cL_law 629 = .ok (.iload 5, 2) := by decide +kernel
theorem dL_law_631 : decode cL_law 631 = .ok (.if_icmp .eq 5, 3) := by decide +kernel
theorem dL_law_634 : decode cL_law 634 = .ok (.iconst 0, 1) := by decide +kernel
theorem dL_law_635 : decode cL_law 635 = .ok (.ireturn, 1) := by decide +kernel
theorem dL_law_636 : decode cL_law 636 = .ok (.iload 5, 2) := by decide +kernel
theorem dL_law_638 : decode cL_law 638 = .ok (.ifCond .ne 15, 3) := by decide +kernel
theorem dL_law_641 : decode cL_law 641 = .ok (.aload_n 3, 1) := by decide +kernel
theorem dL_law_642 : decode cL_law 642 = .ok (.iconst 0, 1) := by decide +kernel
theorem dL_law_643 : decode cL_law 643 = .ok (.laload, 1) := by decide +kernel
theorem dL_law_644 : decode cL_law 644 = .ok (.iload 6, 2) := by decide +kernel
theorem dL_law_646 : decode cL_law 646 = .ok (.i2l, 1) := by decide +kernel
theorem dL_law_647 : decode cL_law 647 = .ok (.lcmp, 1) := by decide +kernel
theorem dL_law_648 : decode cL_law 648 = .ok (.ifCond .eq 5, 3) := by decide +kernel
theorem dL_law_651 : decode cL_law 651 = .ok (.iconst 0, 1) := by decide +kernel
theorem dL_law_652 : decode cL_law 652 = .ok (.ireturn, 1) := by decide +kernel
theorem dL_law_653 : decode cL_law 653 = .ok (.goto 1167, 3) := by decide +kernel
theorem dL_law_656 : decode cL_law 656 = .ok (.aload_n 1, 1) := by decide +kernel
theorem dL_law_657 : decode cL_law 657 = .ok (.aload_n 0, 1) := by decide +kernel
theorem dL_law_658 : decode cL_law 658 = .ok (.iload 4, 2) := by decide +kernel
theorem dL_law_660 : decode cL_law 660 = .ok (.iconst 1, 1) := by decide +kernel
theorem dL_law_661 : decode cL_law 661 = .ok (.iadd, 1) := by decide +kernel
theorem dL_law_662 : decode cL_law 662 = .ok (.iaload, 1) := by decide +kernel
theorem dL_law_663 : decode cL_law 663 = .ok (.aload_n 0, 1) := by decide +kernel
theorem dL_law_664 : decode cL_law 664 = .ok (.iload 4, 2) := by decide +kernel
theorem dL_law_666 : decode cL_law 666 = .ok (.iconst 2, 1) := by decide +kernel
theorem dL_law_667 : decode cL_law 667 = .ok (.iadd, 1) := by decide +kernel
theorem dL_law_668 : decode cL_law 668 = .ok (.iaload, 1) := by decide +kernel
theorem dL_law_669 : decode cL_law 669 = .ok (.aload_n 3, 1) := by decide +kernel
theorem dL_law_670 : decode cL_law 670 = .ok (.invokestatic 127, 3) := by decide +kernel
theorem dL_law_673 : decode cL_law 673 = .ok (.istore 5, 2) := by decide +kernel
theorem dL_law_675 : decode cL_law 675 = .ok (.aload_n 2, 1) := by decide +kernel
theorem dL_law_676 : decode cL_law 676 = .ok (.aload_n 0, 1) := by decide +kernel
theorem dL_law_677 : decode cL_law 677 = .ok (.iload 4, 2) := by decide +kernel
theorem dL_law_679 : decode cL_law 679 = .ok (.iconst 1, 1) := by decide +kernel
theorem dL_law_680 : decode cL_law 680 = .ok (.iadd, 1) := by decide +kernel
theorem dL_law_681 : decode cL_law 681 = .ok (.iaload, 1) := by decide +kernel
theorem dL_law_682 : decode cL_law 682 = .ok (.aload_n 0, 1) := by decide +kernel
theorem dL_law_683 : decode cL_law 683 = .ok (.iload 4, 2) := by decide +kernel
theorem dL_law_685 : decode cL_law 685 = .ok (.iconst 2, 1) := by decide +kernel
theorem dL_law_686 : decode cL_law 686 = .ok (.iadd, 1) := by decide +kernel
theorem dL_law_687 : decode cL_law 687 = .ok (.iaload, 1) := by decide +kernel
theorem dL_law_688 : decode cL_law 688 = .ok (.invokevirtual 129, 3) := by decide +kernel
theorem dL_law_691 : decode cL_law 691 = .ok (.istore 6, 2) := by decide +kernel
theorem dL_law_693 : decode cL_law 693 = .ok (.aload_n 2, 1) := by decide +kernel
theorem dL_law_694 : decode cL_law 694 = .ok (.invokevirtual 101, 3) := by decide +kernel
theorem dL_law_697 : decode cL_law 697 = .ok (.iload 5, 2) := by decide +kernel
theorem dL_law_699 : decode cL_law 699 = .ok (.if_icmp .eq 5, 3) := by decide +kernel
theorem dL_law_702 : decode cL_law 702 = .ok (.iconst 0, 1) := by decide +kernel
theorem dL_law_703 : decode cL_law 703 = .ok (.ireturn, 1) := by decide +kernel
theorem dL_law_704 : decode cL_law 704 = .ok (.iload 5, 2) := by decide +kernel
theorem dL_law_706 : decode cL_law 706 = .ok (.ifCond .ne 15, 3) := by decide +kernel
theorem dL_law_709 : decode cL_law 709 = .ok (.aload_n 3, 1) := by decide +kernel
theorem dL_law_710 : decode cL_law 710 = .ok (.iconst 0, 1) := by decide +kernel
theorem dL_law_711 : decode cL_law 711 = .ok (.laload, 1) := by decide +kernel
theorem dL_law_712 : decode cL_law 712 = .ok (.iload 6, 2) := by decide +kernel
theorem dL_law_714 : decode cL_law 714 = .ok (.i2l, 1) := by decide +kernel
theorem dL_law_715 : decode cL_law 715 = .ok (.lcmp, 1) := by decide +kernel
theorem dL_law_716 : decode cL_law 716 = .ok (.ifCond .eq 5, 3) := by decide +kernel
theorem dL_law_719 : decode cL_law 719 = .ok (.iconst 0, 1) := by decide +kernel
theorem dL_law_720 : decode cL_law 720 = .ok (.ireturn, 1) := by decide +kernel
theorem dL_law_721 : decode cL_law 721 = .ok (.goto 1099, 3) := by decide +kernel
theorem dL_law_724 : decode cL_law 724 = .ok (.aload_n 1, 1) := by decide +kernel
theorem dL_law_725 : decode cL_law 725 = .ok (.aload_n 0, 1) := by decide +kernel
theorem dL_law_726 : decode cL_law 726 = .ok (.iload 4, 2) := by decide +kernel
theorem dL_law_728 : decode cL_law 728 = .ok (.iconst 1, 1) := by decide +kernel
theorem dL_law_729 : decode cL_law 729 = .ok (.iadd, 1) := by decide +kernel
theorem dL_law_730 : decode cL_law 730 = .ok (.iaload, 1) := by decide +kernel
theorem dL_law_731 : decode cL_law 731 = .ok (.aload_n 0, 1) := by decide +kernel
theorem dL_law_732 : decode cL_law 732 = .ok (.iload 4, 2) := by decide +kernel
theorem dL_law_734 : decode cL_law 734 = .ok (.iconst 2, 1) := by decide +kernel
theorem dL_law_735 : decode cL_law 735 = .ok (.iadd, 1) := by decide +kernel
theorem dL_law_736 : decode cL_law 736 = .ok (.iaload, 1) := by decide +kernel
theorem dL_law_737 : decode cL_law 737 = .ok (.aload_n 3, 1) := by decide +kernel
theorem dL_law_738 : decode cL_law 738 = .ok (.invokestatic 130, 3) := by decide +kernel
theorem dL_law_741 : decode cL_law 741 = .ok (.istore 5, 2) := by decide +kernel
theorem dL_law_743 : decode cL_law 743 = .ok (.aload_n 2, 1) := by decide +kernel
theorem dL_law_744 : decode cL_law 744 = .ok (.aload_n 0, 1) := by decide +kernel
theorem dL_law_745 : decode cL_law 745 = .ok (.iload 4, 2) := by decide +kernel
theorem dL_law_747 : decode cL_law 747 = .ok (.iconst 1, 1) := by decide +kernel
theorem dL_law_748 : decode cL_law 748 = .ok (.iadd, 1) := by decide +kernel
theorem dL_law_749 : decode cL_law 749 = .ok (.iaload, 1) := by decide +kernel
theorem dL_law_750 : decode cL_law 750 = .ok (.aload_n 0, 1) := by decide +kernel
theorem dL_law_751 : decode cL_law 751 = .ok (.iload 4, 2) := by decide +kernel
theorem dL_law_753 : decode cL_law 753 = .ok (.iconst 2, 1) := by decide +kernel
theorem dL_law_754 : decode cL_law 754 = .ok (.iadd, 1) := by decide +kernel
theorem dL_law_755 : decode cL_law 755 = .ok (.iaload, 1) := by decide +kernel
theorem dL_law_756 : decode cL_law 756 = .ok (.invokevirtual 132, 3) := by decide +kernel
theorem dL_law_759 : decode cL_law 759 = .ok (.istore 6, 2) := by decide +kernel
theorem dL_law_761 : decode cL_law 761 = .ok (.aload_n 2, 1) := by decide +kernel
theorem dL_law_762 : decode cL_law 762 = .ok (.invokevirtual 101, 3) := by decide +kernel
theorem dL_law_765 : decode cL_law 765 = .ok (.iload 5, 2) := by decide +kernel
theorem dL_law_767 : decode cL_law 767 = .ok (.if_icmp .eq 5, 3) := by decide +kernel
theorem dL_law_770 : decode cL_law 770 = .ok (.iconst 0, 1) := by decide +kernel
theorem dL_law_771 : decode cL_law 771 = .ok (.ireturn, 1) := by decide +kernel
theorem dL_law_772 : decode cL_law 772 = .ok (.iload 5, 2) := by decide +kernel
theorem dL_law_774 : decode cL_law 774 = .ok (.ifCond .ne 15, 3) := by decide +kernel
theorem dL_law_777 : decode cL_law 777 = .ok (.aload_n 3, 1) := by decide +kernel
theorem dL_law_778 : decode cL_law 778 = .ok (.iconst 0, 1) := by decide +kernel
theorem dL_law_779 : decode cL_law 779 = .ok (.laload, 1) := by decide +kernel
theorem dL_law_780 : decode cL_law 780 = .ok (.iload 6, 2) := by decide +kernel
theorem dL_law_782 : decode cL_law 782 = .ok (.i2l, 1) := by decide +kernel
theorem dL_law_783 : decode cL_law 783 = .ok (.lcmp, 1) := by decide +kernel
theorem dL_law_784 : decode cL_law 784 = .ok (.ifCond .eq 5, 3) := by decide +kernel
theorem dL_law_787 : decode cL_law 787 = .ok (.iconst 0, 1) := by decide +kernel
theorem dL_law_788 : decode cL_law 788 = .ok (.ireturn, 1) := by decide +kernel
theorem dL_law_789 : decode cL_law 789 = .ok (.goto 1031, 3) := by decide +kernel
theorem dL_law_792 : decode cL_law 792 = .ok (.aload_n 1, 1) := by decide +kernel
theorem dL_law_793 : decode cL_law 793 = .ok (.aload_n 0, 1) := by decide +kernel
theorem dL_law_794 : decode cL_law 794 = .ok (.iload 4, 2) := by decide +kernel
theorem dL_law_796 : decode cL_law 796 = .ok (.iconst 1, 1) := by decide +kernel
theorem dL_law_797 : decode cL_law 797 = .ok (.iadd, 1) := by decide +kernel
theorem dL_law_798 : decode cL_law 798 = .ok (.iaload, 1) := by decide +kernel
theorem dL_law_799 : decode cL_law 799 = .ok (.aload_n 0, 1) := by decide +kernel
theorem dL_law_800 : decode cL_law 800 = .ok (.iload 4, 2) := by decide +kernel
theorem dL_law_802 : decode cL_law 802 = .ok (.iconst 2, 1) := by decide +kernel
theorem dL_law_803 : decode cL_law 803 = .ok (.iadd, 1) := by decide +kernel
theorem dL_law_804 : decode cL_law 804 = .ok (.iaload, 1) := by decide +kernel
theorem dL_law_805 : decode cL_law 805 = .ok (.aload_n 3, 1) := by decide +kernel
theorem dL_law_806 : decode cL_law 806 = .ok (.invokestatic 133, 3) := by decide +kernel
theorem dL_law_809 : decode cL_law 809 = .ok (.istore 5, 2) := by decide +kernel
theorem dL_law_811 : decode cL_law 811 = .ok (.aload_n 2, 1) := by decide +kernel
theorem dL_law_812 : decode cL_law 812 = .ok (.aload_n 0, 1) := by decide +kernel
theorem dL_law_813 : decode cL_law 813 = .ok (.iload 4, 2) := by decide +kernel
theorem dL_law_815 : decode cL_law 815 = .ok (.iconst 1, 1) := by decide +kernel
theorem dL_law_816 : decode cL_law 816 = .ok (.iadd, 1) := by decide +kernel
theorem dL_law_817 : decode cL_law 817 = .ok (.iaload, 1) := by decide +kernel
theorem dL_law_818 : decode cL_law 818 = .ok (.aload_n 0, 1) := by decide +kernel
theorem dL_law_819 : decode cL_law 819 = .ok (.iload 4, 2) := by decide +kernel
theorem dL_law_821 : decode cL_law 821 = .ok (.iconst 2, 1) := by decide +kernel
theorem dL_law_822 : decode cL_law 822 = .ok (.iadd, 1) := by decide +kernel
theorem dL_law_823 : decode cL_law 823 = .ok (.iaload, 1) := by decide +kernel
theorem dL_law_824 : decode cL_law 824 = .ok (.invokevirtual 135, 3) := by decide +kernel
theorem dL_law_827 : decode cL_law 827 = .ok (.istore 6, 2) := by decide +kernel
theorem dL_law_829 : decode cL_law 829 = .ok (.aload_n 2, 1) := by decide +kernel
theorem dL_law_830 : decode cL_law 830 = .ok (.invokevirtual 101, 3) := by decide +kernel
theorem dL_law_833 : decode cL_law 833 = .ok (.iload 5, 2) := by decide +kernel
theorem dL_law_835 : decode cL_law 835 = .ok (.if_icmp .eq 5, 3) := by decide +kernel
theorem dL_law_838 : decode cL_law 838 = .ok (.iconst 0, 1) := by decide +kernel
theorem dL_law_839 : decode cL_law 839 = .ok (.ireturn, 1) := by decide +kernel
theorem dL_law_840 : decode cL_law 840 = .ok (.iload 5, 2) := by decide +kernel
theorem dL_law_842 : decode cL_law 842 = .ok (.ifCond .ne 15, 3) := by decide +kernel
theorem dL_law_845 : decode cL_law 845 = .ok (.aload_n 3, 1) := by decide +kernel
theorem dL_law_846 : decode cL_law 846 = .ok (.iconst 0, 1) := by decide +kernel
theorem dL_law_847 : decode cL_law 847 = .ok (.laload, 1) := by decide +kernel
theorem dL_law_848 : decode cL_law 848 = .ok (.iload 6, 2) := by decide +kernel
theorem dL_law_850 : decode cL_law 850 = .ok (.i2l, 1) := by decide +kernel
theorem dL_law_851 : decode cL_law 851 = .ok (.lcmp, 1) := by decide +kernel
theorem dL_law_852 : decode cL_law 852 = .ok (.ifCond .eq 5, 3) := by decide +kernel
theorem dL_law_855 : decode cL_law 855 = .ok (.iconst 0, 1) := by decide +kernel
theorem dL_law_856 : decode cL_law 856 = .ok (.ireturn, 1) := by decide +kernel
theorem dL_law_857 : decode cL_law 857 = .ok (.goto 963, 3) := by decide +kernel
theorem dL_law_860 : decode cL_law 860 = .ok (.aload_n 1, 1) := by decide +kernel
theorem dL_law_861 : decode cL_law 861 = .ok (.invokevirtual 136, 3) := by decide +kernel
theorem dL_law_864 : decode cL_law 864 = .ok (.aload_n 2, 1) := by decide +kernel
theorem dL_law_865 : decode cL_law 865 = .ok (.invokevirtual 139, 3) := by decide +kernel
theorem dL_law_868 : decode cL_law 868 = .ok (.if_icmp .eq 952, 3) := by decide +kernel
theorem dL_law_871 : decode cL_law 871 = .ok (.iconst 0, 1) := by decide +kernel
theorem dL_law_872 : decode cL_law 872 = .ok (.ireturn, 1) := by decide +kernel
theorem dL_law_873 : decode cL_law 873 = .ok (.aload_n 1, 1) := by decide +kernel
theorem dL_law_874 : decode cL_law 874 = .ok (.invokevirtual 140, 3) := by decide +kernel
theorem dL_law_877 : decode cL_law 877 = .ok (.aload_n 2, 1) := by decide +kernel
theorem dL_law_878 : decode cL_law 878 = .ok (.invokevirtual 143, 3) := by decide +kernel
theorem dL_law_881 : decode cL_law 881 = .ok (.if_icmp .eq 939, 3) := by decide +kernel
theorem dL_law_884 : decode cL_law 884 = .ok (.iconst 0, 1) := by decide +kernel
theorem dL_law_885 : decode cL_law 885 = .ok (.ireturn, 1) := by decide +kernel
theorem dL_law_886 : decode cL_law 886 = .ok (.aload_n 1, 1) := by decide +kernel
theorem dL_law_887 : decode cL_law 887 = .ok (.aload_n 0, 1) := by decide +kernel
theorem dL_law_888 : decode cL_law 888 = .ok (.iload 4, 2) := by decide +kernel
theorem dL_law_890 : decode cL_law 890 = .ok (.iconst 1, 1) := by decide +kernel
theorem dL_law_891 : decode cL_law 891 = .ok (.iadd, 1) := by decide +kernel
theorem dL_law_892 : decode cL_law 892 = .ok (.iaload, 1) := by decide +kernel
theorem dL_law_893 : decode cL_law 893 = .ok (.aload_n 3, 1) := by decide +kernel
theorem dL_law_894 : decode cL_law 894 = .ok (.invokestatic 144, 3) := by decide +kernel
theorem dL_law_897 : decode cL_law 897 = .ok (.istore 5, 2) := by decide +kernel
theorem dL_law_899 : decode cL_law 899 = .ok (.aload_n 2, 1) := by decide +kernel
theorem dL_law_900 : decode cL_law 900 = .ok (.aload_n 0, 1) := by decide +kernel
theorem dL_law_901 : decode cL_law 901 = .ok (.iload 4, 2) := by decide +kernel
theorem dL_law_903 : decode cL_law 903 = .ok (.iconst 1, 1) := by decide +kernel
theorem dL_law_904 : decode cL_law 904 = .ok (.iadd, 1) := by decide +kernel
theorem dL_law_905 : decode cL_law 905 = .ok (.iaload, 1) := by decide +kernel
theorem dL_law_906 : decode cL_law 906 = .ok (.invokevirtual 146, 3) := by decide +kernel
theorem dL_law_909 : decode cL_law 909 = .ok (.istore 6, 2) := by decide +kernel
theorem dL_law_911 : decode cL_law 911 = .ok (.aload_n 2, 1) := by decide +kernel
theorem dL_law_912 : decode cL_law 912 = .ok (.invokevirtual 101, 3) := by decide +kernel
theorem dL_law_915 : decode cL_law 915 = .ok (.iload 5, 2) := by decide +kernel
theorem dL_law_917 : decode cL_law 917 = .ok (.if_icmp .eq 5, 3) := by decide +kernel
theorem dL_law_920 : decode cL_law 920 = .ok (.iconst 0, 1) := by decide +kernel
theorem dL_law_921 : decode cL_law 921 = .ok (.ireturn, 1) := by decide +kernel
theorem dL_law_922 : decode cL_law 922 = .ok (.iload 5, 2) := by decide +kernel
theorem dL_law_924 : decode cL_law 924 = .ok (.ifCond .ne 15, 3) := by decide +kernel
theorem dL_law_927 : decode cL_law 927 = .ok (.aload_n 3, 1) := by decide +kernel
theorem dL_law_928 : decode cL_law 928 = .ok (.iconst 0, 1) := by decide +kernel
theorem dL_law_929 : decode cL_law 929 = .ok (.laload, 1) := by decide +kernel
theorem dL_law_930 : decode cL_law 930 = .ok (.iload 6, 2) := by decide +kernel
theorem dL_law_932 : decode cL_law 932 = .ok (.i2l, 1) := by decide +kernel
theorem dL_law_933 : decode cL_law 933 = .ok (.lcmp, 1) := by decide +kernel
theorem dL_law_934 : decode cL_law 934 = .ok (.ifCond .eq 5, 3) := by decide +kernel
theorem dL_law_937 : decode cL_law 937 = .ok (.iconst 0, 1) := by decide +kernel
theorem dL_law_938 : decode cL_law 938 = .ok (.ireturn, 1) := by decide +kernel
theorem dL_law_939 : decode cL_law 939 = .ok (.goto 881, 3) := by decide +kernel
theorem dL_law_942 : decode cL_law 942 = .ok (.aload_n 1, 1) := by decide +kernel
theorem dL_law_943 : decode cL_law 943 = .ok (.aload_n 0, 1) := by decide +kernel
theorem dL_law_944 : decode cL_law 944 = .ok (.iload 4, 2) := by decide +kernel
theorem dL_law_946 : decode cL_law 946 = .ok (.iconst 1, 1) := by decide +kernel
theorem dL_law_947 : decode cL_law 947 = .ok (.iadd, 1) := by decide +kernel
theorem dL_law_948 : decode cL_law 948 = .ok (.iaload, 1) := by decide +kernel
theorem dL_law_949 : decode cL_law 949 = .ok (.aload_n 3, 1) := by decide +kernel
theorem dL_law_950 : decode cL_law 950 = .ok (.invokestatic 147, 3) := by decide +kernel
theorem dL_law_953 : decode cL_law 953 = .ok (.istore 5, 2) := by decide +kernel
theorem dL_law_955 : decode cL_law 955 = .ok (.aload_n 2, 1) := by decide +kernel
theorem dL_law_956 : decode cL_law 956 = .ok (.aload_n 0, 1) := by decide +kernel
theorem dL_law_957 : decode cL_law 957 = .ok (.iload 4, 2) := by decide +kernel
theorem dL_law_959 : decode cL_law 959 = .ok (.iconst 1, 1) := by decide +kernel
theorem dL_law_960 : decode cL_law 960 = .ok (.iadd, 1) := by decide +kernel
theorem dL_law_961 : decode cL_law 961 = .ok (.iaload, 1) := by decide +kernel
theorem dL_law_962 : decode cL_law 962 = .ok (.invokevirtual 149, 3) := by decide +kernel
theorem dL_law_965 : decode cL_law 965 = .ok (.istore 6, 2) := by decide +kernel
theorem dL_law_967 : decode cL_law 967 = .ok (.aload_n 2, 1) := by decide +kernel
theorem dL_law_968 : decode cL_law 968 = .ok (.invokevirtual 101, 3) := by decide +kernel
theorem dL_law_971 : decode cL_law 971 = .ok (.iload 5, 2) := by decide +kernel
theorem dL_law_973 : decode cL_law 973 = .ok (.if_icmp .eq 5, 3) := by decide +kernel
theorem dL_law_976 : decode cL_law 976 = .ok (.iconst 0, 1) := by decide +kernel
theorem dL_law_977 : decode cL_law 977 = .ok (.ireturn, 1) := by decide +kernel
theorem dL_law_978 : decode cL_law 978 = .ok (.iload 5, 2) := by decide +kernel
theorem dL_law_980 : decode cL_law 980 = .ok (.ifCond .ne 15, 3) := by decide +kernel
theorem dL_law_983 : decode cL_law 983 = .ok (.aload_n 3, 1) := by decide +kernel
theorem dL_law_984 : decode cL_law 984 = .ok (.iconst 0, 1) := by decide +kernel
theorem dL_law_985 : decode cL_law 985 = .ok (.laload, 1) := by decide +kernel
theorem dL_law_986 : decode cL_law 986 = .ok (.iload 6, 2) := by decide +kernel
theorem dL_law_988 : decode cL_law 988 = .ok (.i2l, 1) := by decide +kernel
theorem dL_law_989 : decode cL_law 989 = .ok (.lcmp, 1) := by decide +kernel
theorem dL_law_990 : decode cL_law 990 = .ok (.ifCond .eq 5, 3) := by decide +kernel
theorem dL_law_993 : decode cL_law 993 = .ok (.iconst 0, 1) := by decide +kernel
theorem dL_law_994 : decode cL_law 994 = .ok (.ireturn, 1) := by decide +kernel
theorem dL_law_995 : decode cL_law 995 = .ok (.goto 825, 3) := by decide +kernel
theorem dL_law_998 : decode cL_law 998 = .ok (.aload_n 1, 1) := by decide +kernel
theorem dL_law_999 : decode cL_law 999 = .ok (.aload_n 0, 1) := by decide +kernel
theorem dL_law_1000 : decode cL_law 1000 = .ok (.iload 4, 2) := by decide +kernel
theorem dL_law_1002 : decode cL_law 1002 = .ok (.iconst 1, 1) := by decide +kernel
theorem dL_law_1003 : decode cL_law 1003 = .ok (.iadd, 1) := by decide +kernel
theorem dL_law_1004 : decode cL_law 1004 = .ok (.iaload, 1) := by decide +kernel
theorem dL_law_1005 : decode cL_law 1005 = .ok (.aload_n 0, 1) := by decide +kernel
theorem dL_law_1006 : decode cL_law 1006 = .ok (.iload 4, 2) := by decide +kernel
theorem dL_law_1008 : decode cL_law 1008 = .ok (.iconst 2, 1) := by decide +kernel
theorem dL_law_1009 : decode cL_law 1009 = .ok (.iadd, 1) := by decide +kernel
theorem dL_law_1010 : decode cL_law 1010 = .ok (.iaload, 1) := by decide +kernel
theorem dL_law_1011 : decode cL_law 1011 = .ok (.aload_n 3, 1) := by decide +kernel
theorem dL_law_1012 : decode cL_law 1012 = .ok (.invokestatic 150, 3) := by decide +kernel
theorem dL_law_1015 : decode cL_law 1015 = .ok (.istore 5, 2) := by decide +kernel
theorem dL_law_1017 : decode cL_law 1017 = .ok (.aload_n 2, 1) := by decide +kernel
theorem dL_law_1018 : decode cL_law 1018 = .ok (.aload_n 0, 1) := by decide +kernel
theorem dL_law_1019 : decode cL_law 1019 = .ok (.iload 4, 2) := by decide +kernel
theorem dL_law_1021 : decode cL_law 1021 = .ok (.iconst 1, 1) := by decide +kernel
theorem dL_law_1022 : decode cL_law 1022 = .ok (.iadd, 1) := by decide +kernel
theorem dL_law_1023 : decode cL_law 1023 = .ok (.iaload, 1) := by decide +kernel
theorem dL_law_1024 : decode cL_law 1024 = .ok (.aload_n 0, 1) := by decide +kernel
theorem dL_law_1025 : decode cL_law 1025 = .ok (.iload 4, 2) := by decide +kernel
theorem dL_law_1027 : decode cL_law 1027 = .ok (.iconst 2, 1) := by decide +kernel
theorem dL_law_1028 : decode cL_law 1028 = .ok (.iadd, 1) := by decide +kernel
theorem dL_law_1029 : decode cL_law 1029 = .ok (.iaload, 1) := by decide +kernel
theorem dL_law_1030 : decode cL_law 1030 = .ok (.invokevirtual 152, 3) := by decide +kernel
theorem dL_law_1033 : decode cL_law 1033 = .ok (.istore 6, 2) := by decide +kernel
theorem dL_law_1035 : decode cL_law 1035 = .ok (.aload_n 2, 1) := by decide +kernel
theorem dL_law_1036 : decode cL_law 1036 = .ok (.invokevirtual 101, 3) := by decide +kernel
theorem dL_law_1039 : decode cL_law 1039 = .ok (.iload 5, 2) := by decide +kernel
theorem dL_law_1041 : decode cL_law 1041 = .ok (.if_icmp .eq 5, 3) := by decide +kernel
theorem dL_law_1044 : decode cL_law 1044 = .ok (.iconst 0, 1) := by decide +kernel
theorem dL_law_1045 : decode cL_law 1045 = .ok (.ireturn, 1) := by decide +kernel
theorem dL_law_1046 : decode cL_law 1046 = .ok (.iload 5, 2) := by decide +kernel
theorem dL_law_1048 : decode cL_law 1048 = .ok (.ifCond .ne 15, 3) := by decide +kernel
theorem dL_law_1051 : decode cL_law 1051 = .ok (.aload_n 3, 1) := by decide +kernel
theorem dL_law_1052 : decode cL_law 1052 = .ok (.iconst 0, 1) := by decide +kernel
theorem dL_law_1053 : decode cL_law 1053 = .ok (.laload, 1) := by decide +kernel
theorem dL_law_1054 : decode cL_law 1054 = .ok (.iload 6, 2) := by decide +kernel
theorem dL_law_1056 : decode cL_law 1056 = .ok (.i2l, 1) := by decide +kernel
theorem dL_law_1057 : decode cL_law 1057 = .ok (.lcmp, 1) := by decide +kernel
theorem dL_law_1058 : decode cL_law 1058 = .ok (.ifCond .eq 5, 3) := by decide +kernel
theorem dL_law_1061 : decode cL_law 1061 = .ok (.iconst 0, 1) := by decide +kernel
theorem dL_law_1062 : decode cL_law 1062 = .ok (.ireturn, 1) := by decide +kernel
theorem dL_law_1063 : decode cL_law 1063 = .ok (.goto 757, 3) := by decide +kernel
theorem dL_law_1066 : decode cL_law 1066 = .ok (.aload_n 1, 1) := by decide +kernel
theorem dL_law_1067 : decode cL_law 1067 = .ok (.aload_n 3, 1) := by decide +kernel
theorem dL_law_1068 : decode cL_law 1068 = .ok (.invokestatic 153, 3) := by decide +kernel
theorem dL_law_1071 : decode cL_law 1071 = .ok (.istore 5, 2) := by decide +kernel
theorem dL_law_1073 : decode cL_law 1073 = .ok (.aload_n 2, 1) := by decide +kernel
theorem dL_law_1074 : decode cL_law 1074 = .ok (.invokevirtual 155, 3) := by decide +kernel
theorem dL_law_1077 : decode cL_law 1077 = .ok (.istore 6, 2) := by decide +kernel
theorem dL_law_1079 : decode cL_law 1079 = .ok (.aload_n 2, 1) := by decide +kernel
theorem dL_law_1080 : decode cL_law 1080 = .ok (.invokevirtual 101, 3) := by decide +kernel
theorem dL_law_1083 : decode cL_law 1083 = .ok (.iload 5, 2) := by decide +kernel
theorem dL_law_1085 : decode cL_law 1085 = .ok (.if_icmp .eq 5, 3) := by decide +kernel
theorem dL_law_1088 : decode cL_law 1088 = .ok (.iconst 0, 1) := by decide +kernel
theorem dL_law_1089 : decode cL_law 1089 = .ok (.ireturn, 1) := by decide +kernel
theorem dL_law_1090 : decode cL_law 1090 = .ok (.iload 5, 2) := by decide +kernel
theorem dL_law_1092 : decode cL_law 1092 = .ok (.ifCond .ne 15, 3) := by decide +kernel
theorem dL_law_1095 : decode cL_law 1095 = .ok (.aload_n 3, 1) := by decide +kernel
theorem dL_law_1096 : decode cL_law 1096 = .ok (.iconst 0, 1) := by decide +kernel
theorem dL_law_1097 : decode cL_law 1097 = .ok (.laload, 1) := by decide +kernel
theorem dL_law_1098 : decode cL_law 1098 = .ok (.iload 6, 2) := by decide +kernel
theorem dL_law_1100 : decode cL_law 1100 = .ok (.i2l, 1) := by decide +kernel
theorem dL_law_1101 : decode cL_law 1101 = .ok (.lcmp, 1) := by decide +kernel
theorem dL_law_1102 : decode cL_law 1102 = .ok (.ifCond .eq 5, 3) := by decide +kernel
theorem dL_law_1105 : decode cL_law 1105 = .ok (.iconst 0, 1) := by decide +kernel
theorem dL_law_1106 : decode cL_law 1106 = .ok (.ireturn, 1) := by decide +kernel
theorem dL_law_1107 : decode cL_law 1107 = .ok (.goto 713, 3) := by decide +kernel
theorem dL_law_1110 : decode cL_law 1110 = .ok (.aload_n 1, 1) := by decide +kernel
theorem dL_law_1111 : decode cL_law 1111 = .ok (.aload_n 0, 1) := by decide +kernel
theorem dL_law_1112 : decode cL_law 1112 = .ok (.iload 4, 2) := by decide +kernel
theorem dL_law_1114 : decode cL_law 1114 = .ok (.iconst 1, 1) := by decide +kernel
theorem dL_law_1115 : decode cL_law 1115 = .ok (.iadd, 1) := by decide +kernel
theorem dL_law_1116 : decode cL_law 1116 = .ok (.iaload, 1) := by decide +kernel
theorem dL_law_1117 : decode cL_law 1117 = .ok (.aload_n 0, 1) := by decide +kernel
theorem dL_law_1118 : decode cL_law 1118 = .ok (.iload 4, 2) := by decide +kernel
theorem dL_law_1120 : decode cL_law 1120 = .ok (.iconst 2, 1) := by decide +kernel
theorem dL_law_1121 : decode cL_law 1121 = .ok (.iadd, 1) := by decide +kernel
theorem dL_law_1122 : decode cL_law 1122 = .ok (.iaload, 1) := by decide +kernel
theorem dL_law_1123 : decode cL_law 1123 = .ok (.aload_n 0, 1) := by decide +kernel
theorem dL_law_1124 : decode cL_law 1124 = .ok (.iload 4, 2) := by decide +kernel
theorem dL_law_1126 : decode cL_law 1126 = .ok (.iconst 3, 1) := by decide +kernel
theorem dL_law_1127 : decode cL_law 1127 = .ok (.iadd, 1) := by decide +kernel
theorem dL_law_1128 : decode cL_law 1128 = .ok (.iaload, 1) := by decide +kernel
theorem dL_law_1129 : decode cL_law 1129 = .ok (.aload_n 0, 1) := by decide +kernel
theorem dL_law_1130 : decode cL_law 1130 = .ok (.iload 4, 2) := by decide +kernel
theorem dL_law_1132 : decode cL_law 1132 = .ok (.iconst 4, 1) := by decide +kernel
theorem dL_law_1133 : decode cL_law 1133 = .ok (.iadd, 1) := by decide +kernel
theorem dL_law_1134 : decode cL_law 1134 = .ok (.iaload, 1) := by decide +kernel
theorem dL_law_1135 : decode cL_law 1135 = .ok (.aload_n 0, 1) := by decide +kernel
theorem dL_law_1136 : decode cL_law 1136 = .ok (.iload 4, 2) := by decide +kernel
theorem dL_law_1138 : decode cL_law 1138 = .ok (.iconst 5, 1) := by decide +kernel
theorem dL_law_1139 : decode cL_law 1139 = .ok (.iadd, 1) := by decide +kernel
theorem dL_law_1140 : decode cL_law 1140 = .ok (.iaload, 1) := by decide +kernel
theorem dL_law_1141 : decode cL_law 1141 = .ok (.aload_n 3, 1) := by decide +kernel
theorem dL_law_1142 : decode cL_law 1142 = .ok (.invokestatic 156, 3) := by decide +kernel
theorem dL_law_1145 : decode cL_law 1145 = .ok (.istore 5, 2) := by decide +kernel
theorem dL_law_1147 : decode cL_law 1147 = .ok (.aload_n 2, 1) := by decide +kernel
theorem dL_law_1148 : decode cL_law 1148 = .ok (.aload_n 0, 1) := by decide +kernel
theorem dL_law_1149 : decode cL_law 1149 = .ok (.iload 4, 2) := by decide +kernel
theorem dL_law_1151 : decode cL_law 1151 = .ok (.iconst 1, 1) := by decide +kernel
theorem dL_law_1152 : decode cL_law 1152 = .ok (.iadd, 1) := by decide +kernel
theorem dL_law_1153 : decode cL_law 1153 = .ok (.iaload, 1) := by decide +kernel
theorem dL_law_1154 : decode cL_law 1154 = .ok (.aload_n 0, 1) := by decide +kernel
theorem dL_law_1155 : decode cL_law 1155 = .ok (.iload 4, 2) := by decide +kernel
theorem dL_law_1157 : decode cL_law 1157 = .ok (.iconst 2, 1) := by decide +kernel
theorem dL_law_1158 : decode cL_law 1158 = .ok (.iadd, 1) := by decide +kernel
theorem dL_law_1159 : decode cL_law 1159 = .ok (.iaload, 1) := by decide +kernel
theorem dL_law_1160 : decode cL_law 1160 = .ok (.aload_n 0, 1) := by decide +kernel
theorem dL_law_1161 : decode cL_law 1161 = .ok (.iload 4, 2) := by decide +kernel
theorem dL_law_1163 : decode cL_law 1163 = .ok (.iconst 3, 1) := by decide +kernel
theorem dL_law_1164 : decode cL_law 1164 = .ok (.iadd, 1) := by decide +kernel
theorem dL_law_1165 : decode cL_law 1165 = .ok (.iaload, 1) := by decide +kernel
theorem dL_law_1166 : decode cL_law 1166 = .ok (.aload_n 0, 1) := by decide +kernel
theorem dL_law_1167 : decode cL_law 1167 = .ok (.iload 4, 2) := by decide +kernel
theorem dL_law_1169 : decode cL_law 1169 = .ok (.iconst 4, 1) := by decide +kernel
theorem dL_law_1170 : decode cL_law 1170 = .ok (.iadd, 1) := by decide +kernel
theorem dL_law_1171 : decode cL_law 1171 = .ok (.iaload, 1) := by decide +kernel
theorem dL_law_1172 : decode cL_law 1172 = .ok (.aload_n 0, 1) := by decide +kernel
theorem dL_law_1173 : decode cL_law 1173 = .ok (.iload 4, 2) := by decide +kernel
theorem dL_law_1175 : decode cL_law 1175 = .ok (.iconst 5, 1) := by decide +kernel
theorem dL_law_1176 : decode cL_law 1176 = .ok (.iadd, 1) := by decide +kernel
theorem dL_law_1177 : decode cL_law 1177 = .ok (.iaload, 1) := by decide +kernel
theorem dL_law_1178 : decode cL_law 1178 = .ok (.invokevirtual 159, 3) := by decide +kernel
theorem dL_law_1181 : decode cL_law 1181 = .ok (.istore 6, 2) := by decide +kernel
theorem dL_law_1183 : decode cL_law 1183 = .ok (.aload_n 2, 1) := by decide +kernel
theorem dL_law_1184 : decode cL_law 1184 = .ok (.invokevirtual 101, 3) := by decide +kernel
theorem dL_law_1187 : decode cL_law 1187 = .ok (.iload 5, 2) := by decide +kernel
theorem dL_law_1189 : decode cL_law 1189 = .ok (.if_icmp .eq 5, 3) := by decide +kernel
theorem dL_law_1192 : decode cL_law 1192 = .ok (.iconst 0, 1) := by decide +kernel
theorem dL_law_1193 : decode cL_law 1193 = .ok (.ireturn, 1) := by decide +kernel
theorem dL_law_1194 : decode cL_law 1194 = .ok (.iload 5, 2) := by decide +kernel
theorem dL_law_1196 : decode cL_law 1196 = .ok (.ifCond .ne 15, 3) := by decide +kernel
theorem dL_law_1199 : decode cL_law 1199 = .ok (.aload_n 3, 1) := by decide +kernel
theorem dL_law_1200 : decode cL_law 1200 = .ok (.iconst 0, 1) := by decide +kernel
theorem dL_law_1201 : decode cL_law 1201 = .ok (.laload, 1) := by decide +kernel
theorem dL_law_1202 : decode cL_law 1202 = .ok (.iload 6, 2) := by decide +kernel
theorem dL_law_1204 : decode cL_law 1204 = .ok (.i2l, 1) := by decide +kernel
theorem dL_law_1205 : decode cL_law 1205 = .ok (.lcmp, 1) := by decide +kernel
theorem dL_law_1206 : decode cL_law 1206 = .ok (.ifCond .eq 5, 3) := by decide +kernel
theorem dL_law_1209 : decode cL_law 1209 = .ok (.iconst 0, 1) := by decide +kernel
theorem dL_law_1210 : decode cL_law 1210 = .ok (.ireturn, 1) := by decide +kernel
theorem dL_law_1211 : decode cL_law 1211 = .ok (.goto 609, 3) := by decide +kernel
theorem dL_law_1214 : decode cL_law 1214 = .ok (.aload_n 1, 1) := by decide +kernel
theorem dL_law_1215 : decode cL_law 1215 = .ok (.aload_n 0, 1) := by decide +kernel
theorem dL_law_1216 : decode cL_law 1216 = .ok (.iload 4, 2) := by decide +kernel
theorem dL_law_1218 : decode cL_law 1218 = .ok (.iconst 1, 1) := by decide +kernel
theorem dL_law_1219 : decode cL_law 1219 = .ok (.iadd, 1) := by decide +kernel
theorem dL_law_1220 : decode cL_law 1220 = .ok (.iaload, 1) := by decide +kernel
theorem dL_law_1221 : decode cL_law 1221 = .ok (.aload_n 0, 1) := by decide +kernel
theorem dL_law_1222 : decode cL_law 1222 = .ok (.iload 4, 2) := by decide +kernel
theorem dL_law_1224 : decode cL_law 1224 = .ok (.iconst 2, 1) := by decide +kernel
theorem dL_law_1225 : decode cL_law 1225 = .ok (.iadd, 1) := by decide +kernel
theorem dL_law_1226 : decode cL_law 1226 = .ok (.iaload, 1) := by decide +kernel
theorem dL_law_1227 : decode cL_law 1227 = .ok (.aload_n 0, 1) := by decide +kernel
theorem dL_law_1228 : decode cL_law 1228 = .ok (.iload 4, 2) := by decide +kernel
theorem dL_law_1230 : decode cL_law 1230 = .ok (.iconst 3, 1) := by decide +kernel
theorem dL_law_1231 : decode cL_law 1231 = .ok (.iadd, 1) := by decide +kernel
theorem dL_law_1232 : decode cL_law 1232 = .ok (.iaload, 1) := by decide +kernel
theorem dL_law_1233 : decode cL_law 1233 = .ok (.aload_n 0, 1) := by decide +kernel
theorem dL_law_1234 : decode cL_law 1234 = .ok (.iload 4, 2) := by decide +kernel
theorem dL_law_1236 : decode cL_law 1236 = .ok (.iconst 4, 1) := by decide +kernel
theorem dL_law_1237 : decode cL_law 1237 = .ok (.iadd, 1) := by decide +kernel
theorem dL_law_1238 : decode cL_law 1238 = .ok (.iaload, 1) := by decide +kernel
theorem dL_law_1239 : decode cL_law 1239 = .ok (.aload_n 3, 1) := by decide +kernel
theorem dL_law_1240 : decode cL_law 1240 = .ok (.invokestatic 160, 3) := by decide +kernel
theorem dL_law_1243 : decode cL_law 1243 = .ok (.istore 5, 2) := by decide +kernel
theorem dL_law_1245 : decode cL_law 1245 = .ok (.aload_n 2, 1) := by decide +kernel
theorem dL_law_1246 : decode cL_law 1246 = .ok (.aload_n 0, 1) := by decide +kernel
theorem dL_law_1247 : decode cL_law 1247 = .ok (.iload 4, 2) := by decide +kernel
theorem dL_law_1249 : decode cL_law 1249 = .ok (.iconst 1, 1) := by decide +kernel
theorem dL_law_1250 : decode cL_law 1250 = .ok (.iadd, 1) := by decide +kernel
theorem dL_law_1251 : decode cL_law 1251 = .ok (.iaload, 1) := by decide +kernel
theorem dL_law_1252 : decode cL_law 1252 = .ok (.aload_n 0, 1) := by decide +kernel
theorem dL_law_1253 : decode cL_law 1253 = .ok (.iload 4, 2) := by decide +kernel
theorem dL_law_1255 : decode cL_law 1255 = .ok (.iconst 2, 1) := by decide +kernel
theorem dL_law_1256 : decode cL_law 1256 = .ok (.iadd, 1) := by decide +kernel
theorem dL_law_1257 : decode cL_law 1257 = .ok (.iaload, 1) := by decide +kernel
theorem dL_law_1258 : decode cL_law 1258 = .ok (.aload_n 0, 1) := by decide +kernel
theorem dL_law_1259 : decode cL_law 1259 = .ok (.iload 4, 2) := by decide +kernel
theorem dL_law_1261 : decode cL_law 1261 = .ok (.iconst 3, 1) := by decide +kernel
theorem dL_law_1262 : decode cL_law 1262 = .ok (.iadd, 1) := by decide +kernel
theorem dL_law_1263 : decode cL_law 1263 = .ok (.iaload, 1) := by decide +kernel
theorem dL_law_1264 : decode cL_law 1264 = .ok (.aload_n 0, 1) := by decide +kernel
theorem dL_law_1265 : decode cL_law 1265 = .ok (.iload 4, 2) := by decide +kernel
theorem dL_law_1267 : decode cL_law 1267 = .ok (.iconst 4, 1) := by decide +kernel
theorem dL_law_1268 : decode cL_law 1268 = .ok (.iadd, 1) := by decide +kernel
theorem dL_law_1269 : decode cL_law 1269 = .ok (.iaload, 1) := by decide +kernel
theorem dL_law_1270 : decode cL_law 1270 = .ok (.invokevirtual 162, 3) := by decide +kernel
theorem dL_law_1273 : decode cL_law 1273 = .ok (.istore 6, 2) := by decide +kernel
theorem dL_law_1275 : decode cL_law 1275 = .ok (.aload_n 2, 1) := by decide +kernel
theorem dL_law_1276 : decode cL_law 1276 = .ok (.invokevirtual 101, 3) := by decide +kernel
theorem dL_law_1279 : decode cL_law 1279 = .ok (.iload 5, 2) := by decide +kernel
theorem dL_law_1281 : decode cL_law 1281 = .ok (.if_icmp .eq 5, 3) := by decide +kernel
theorem dL_law_1284 : decode cL_law 1284 = .ok (.iconst 0, 1) := by decide +kernel
theorem dL_law_1285 : decode cL_law 1285 = .ok (.ireturn, 1) := by decide +kernel
theorem dL_law_1286 : decode cL_law 1286 = .ok (.iload 5, 2) := by decide +kernel
theorem dL_law_1288 : decode cL_law 1288 = .ok (.ifCond .ne 15, 3) := by decide +kernel
theorem dL_law_1291 : decode cL_law 1291 = .ok (.aload_n 3, 1) := by decide +kernel
theorem dL_law_1292 : decode cL_law 1292 = .ok (.iconst 0, 1) := by decide +kernel
theorem dL_law_1293 : decode cL_law 1293 = .ok (.laload, 1) := by decide +kernel
theorem dL_law_1294 : decode cL_law 1294 = .ok (.iload 6, 2) := by decide +kernel
theorem dL_law_1296 : decode cL_law 1296 = .ok (.i2l, 1) := by decide +kernel
theorem dL_law_1297 : decode cL_law 1297 = .ok (.lcmp, 1) := by decide +kernel
theorem dL_law_1298 : decode cL_law 1298 = .ok (.ifCond .eq 5, 3) := by decide +kernel
theorem dL_law_1301 : decode cL_law 1301 = .ok (.iconst 0, 1) := by decide +kernel
theorem dL_law_1302 : decode cL_law 1302 = .ok (.ireturn, 1) := by decide +kernel
theorem dL_law_1303 : decode cL_law 1303 = .ok (.goto 517, 3) := by decide +kernel
theorem dL_law_1306 : decode cL_law 1306 = .ok (.aload_n 1, 1) := by decide +kernel
theorem dL_law_1307 : decode cL_law 1307 = .ok (.aload_n 0, 1) := by decide +kernel
theorem dL_law_1308 : decode cL_law 1308 = .ok (.iload 4, 2) := by decide +kernel
theorem dL_law_1310 : decode cL_law 1310 = .ok (.iconst 1, 1) := by decide +kernel
theorem dL_law_1311 : decode cL_law 1311 = .ok (.iadd, 1) := by decide +kernel
theorem dL_law_1312 : decode cL_law 1312 = .ok (.iaload, 1) := by decide +kernel
theorem dL_law_1313 : decode cL_law 1313 = .ok (.aload_n 0, 1) := by decide +kernel
theorem dL_law_1314 : decode cL_law 1314 = .ok (.iload 4, 2) := by decide +kernel
theorem dL_law_1316 : decode cL_law 1316 = .ok (.iconst 2, 1) := by decide +kernel
theorem dL_law_1317 : decode cL_law 1317 = .ok (.iadd, 1) := by decide +kernel
theorem dL_law_1318 : decode cL_law 1318 = .ok (.iaload, 1) := by decide +kernel
theorem dL_law_1319 : decode cL_law 1319 = .ok (.aload_n 0, 1) := by decide +kernel
theorem dL_law_1320 : decode cL_law 1320 = .ok (.iload 4, 2) := by decide +kernel
theorem dL_law_1322 : decode cL_law 1322 = .ok (.iconst 3, 1) := by decide +kernel
theorem dL_law_1323 : decode cL_law 1323 = .ok (.iadd, 1) := by decide +kernel
theorem dL_law_1324 : decode cL_law 1324 = .ok (.iaload, 1) := by decide +kernel
theorem dL_law_1325 : decode cL_law 1325 = .ok (.aload_n 3, 1) := by decide +kernel
theorem dL_law_1326 : decode cL_law 1326 = .ok (.invokestatic 163, 3) := by decide +kernel
theorem dL_law_1329 : decode cL_law 1329 = .ok (.istore 5, 2) := by decide +kernel
theorem dL_law_1331 : decode cL_law 1331 = .ok (.aload_n 2, 1) := by decide +kernel
theorem dL_law_1332 : decode cL_law 1332 = .ok (.aload_n 0, 1) := by decide +kernel
theorem dL_law_1333 : decode cL_law 1333 = .ok (.iload 4, 2) := by decide +kernel
theorem dL_law_1335 : decode cL_law 1335 = .ok (.iconst 1, 1) := by decide +kernel
theorem dL_law_1336 : decode cL_law 1336 = .ok (.iadd, 1) := by decide +kernel
theorem dL_law_1337 : decode cL_law 1337 = .ok (.iaload, 1) := by decide +kernel
theorem dL_law_1338 : decode cL_law 1338 = .ok (.aload_n 0, 1) := by decide +kernel
theorem dL_law_1339 : decode cL_law 1339 = .ok (.iload 4, 2) := by decide +kernel
theorem dL_law_1341 : decode cL_law 1341 = .ok (.iconst 2, 1) := by decide +kernel
theorem dL_law_1342 : decode cL_law 1342 = .ok (.iadd, 1) := by decide +kernel
theorem dL_law_1343 : decode cL_law 1343 = .ok (.iaload, 1) := by decide +kernel
theorem dL_law_1344 : decode cL_law 1344 = .ok (.aload_n 0, 1) := by decide +kernel
theorem dL_law_1345 : decode cL_law 1345 = .ok (.iload 4, 2) := by decide +kernel
theorem dL_law_1347 : decode cL_law 1347 = .ok (.iconst 3, 1) := by decide +kernel
theorem dL_law_1348 : decode cL_law 1348 = .ok (.iadd, 1) := by decide +kernel
theorem dL_law_1349 : decode cL_law 1349 = .ok (.iaload, 1) := by decide +kernel
theorem dL_law_1350 : decode cL_law 1350 = .ok (.invokevirtual 165, 3) := by decide +kernel
theorem dL_law_1353 : decode cL_law 1353 = .ok (.istore 6, 2) := by decide +kernel
theorem dL_law_1355 : decode cL_law 1355 = .ok (.aload_n 2, 1) := by decide +kernel
theorem dL_law_1356 : decode cL_law 1356 = .ok (.invokevirtual 101, 3) := by decide +kernel
theorem dL_law_1359 : decode cL_law 1359 = .ok (.iload 5, 2) := by decide +kernel
theorem dL_law_1361 : decode cL_law 1361 = .ok (.if_icmp .eq 5, 3) := by decide +kernel
theorem dL_law_1364 : decode cL_law 1364 = .ok (.iconst 0, 1) := by decide +kernel
theorem dL_law_1365 : decode cL_law 1365 = .ok (.ireturn, 1) := by decide +kernel
theorem dL_law_1366 : decode cL_law 1366 = .ok (.iload 5, 2) := by decide +kernel
theorem dL_law_1368 : decode cL_law 1368 = .ok (.ifCond .ne 15, 3) := by decide +kernel
theorem dL_law_1371 : decode cL_law 1371 = .ok (.aload_n 3, 1) := by decide +kernel
theorem dL_law_1372 : decode cL_law 1372 = .ok (.iconst 0, 1) := by decide +kernel
theorem dL_law_1373 : decode cL_law 1373 = .ok (.laload, 1) := by decide +kernel
theorem dL_law_1374 : decode cL_law 1374 = .ok (.iload 6, 2) := by decide +kernel
theorem dL_law_1376 : decode cL_law 1376 = .ok (.i2l, 1) := by decide +kernel
theorem dL_law_1377 : decode cL_law 1377 = .ok (.lcmp, 1) := by decide +kernel
theorem dL_law_1378 : decode cL_law 1378 = .ok (.ifCond .eq 5, 3) := by decide +kernel
theorem dL_law_1381 : decode cL_law 1381 = .ok (.iconst 0, 1) := by decide +kernel
theorem dL_law_1382 : decode cL_law 1382 = .ok (.ireturn, 1) := by decide +kernel
theorem dL_law_1383 : decode cL_law 1383 = .ok (.goto 437, 3) := by decide +kernel
theorem dL_law_1386 : decode cL_law 1386 = .ok (.aload_n 1, 1) := by decide +kernel
theorem dL_law_1387 : decode cL_law 1387 = .ok (.aload_n 0, 1) := by decide +kernel
theorem dL_law_1388 : decode cL_law 1388 = .ok (.iload 4, 2) := by decide +kernel
theorem dL_law_1390 : decode cL_law 1390 = .ok (.iconst 1, 1) := by decide +kernel
theorem dL_law_1391 : decode cL_law 1391 = .ok (.iadd, 1) := by decide +kernel
theorem dL_law_1392 : decode cL_law 1392 = .ok (.iaload, 1) := by decide +kernel
theorem dL_law_1393 : decode cL_law 1393 = .ok (.aload_n 3, 1) := by decide +kernel
theorem dL_law_1394 : decode cL_law 1394 = .ok (.invokestatic 166, 3) := by decide +kernel
theorem dL_law_1397 : decode cL_law 1397 = .ok (.istore 5, 2) := by decide +kernel
theorem dL_law_1399 : decode cL_law 1399 = .ok (.aload_n 2, 1) := by decide +kernel
theorem dL_law_1400 : decode cL_law 1400 = .ok (.aload_n 0, 1) := by decide +kernel
theorem dL_law_1401 : decode cL_law 1401 = .ok (.iload 4, 2) := by decide +kernel
theorem dL_law_1403 : decode cL_law 1403 = .ok (.iconst 1, 1) := by decide +kernel
theorem dL_law_1404 : decode cL_law 1404 = .ok (.iadd, 1) := by decide +kernel
theorem dL_law_1405 : decode cL_law 1405 = .ok (.iaload, 1) := by decide +kernel
theorem dL_law_1406 : decode cL_law 1406 = .ok (.invokevirtual 168, 3) := by decide +kernel
theorem dL_law_1409 : decode cL_law 1409 = .ok (.istore 6, 2) := by decide +kernel
theorem dL_law_1411 : decode cL_law 1411 = .ok (.aload_n 2, 1) := by decide +kernel
theorem dL_law_1412 : decode cL_law 1412 = .ok (.invokevirtual 101, 3) := by decide +kernel
theorem dL_law_1415 : decode cL_law 1415 = .ok (.iload 5, 2) := by decide +kernel
theorem dL_law_1417 : decode cL_law 1417 = .ok (.if_icmp .eq 5, 3) := by decide +kernel
theorem dL_law_1420 : decode cL_law 1420 = .ok (.iconst 0, 1) := by decide +kernel
theorem dL_law_1421 : decode cL_law 1421 = .ok (.ireturn, 1) := by decide +kernel
theorem dL_law_1422 : decode cL_law 1422 = .ok (.iload 5, 2) := by decide +kernel
theorem dL_law_1424 : decode cL_law 1424 = .ok (.ifCond .ne 15, 3) := by decide +kernel
theorem dL_law_1427 : decode cL_law 1427 = .ok (.aload_n 3, 1) := by decide +kernel
theorem dL_law_1428 : decode cL_law 1428 = .ok (.iconst 0, 1) := by decide +kernel
theorem dL_law_1429 : decode cL_law 1429 = .ok (.laload, 1) := by decide +kernel
theorem dL_law_1430 : decode cL_law 1430 = .ok (.iload 6, 2) := by decide +kernel
theorem dL_law_1432 : decode cL_law 1432 = .ok (.i2l, 1) := by decide +kernel
theorem dL_law_1433 : decode cL_law 1433 = .ok (.lcmp, 1) := by decide +kernel
theorem dL_law_1434 : decode cL_law 1434 = .ok (.ifCond .eq 5, 3) := by decide +kernel
theorem dL_law_1437 : decode cL_law 1437 = .ok (.iconst 0, 1) := by decide +kernel
theorem dL_law_1438 : decode cL_law 1438 = .ok (.ireturn, 1) := by decide +kernel
theorem dL_law_1439 : decode cL_law 1439 = .ok (.goto 381, 3) := by decide +kernel
theorem dL_law_1442 : decode cL_law 1442 = .ok (.aload_n 1, 1) := by decide +kernel
theorem dL_law_1443 : decode cL_law 1443 = .ok (.invokevirtual 169, 3) := by decide +kernel
theorem dL_law_1446 : decode cL_law 1446 = .ok (.aload_n 2, 1) := by decide +kernel
theorem dL_law_1447 : decode cL_law 1447 = .ok (.invokevirtual 172, 3) := by decide +kernel
theorem dL_law_1450 : decode cL_law 1450 = .ok (.if_icmp .eq 370, 3) := by decide +kernel
theorem dL_law_1453 : decode cL_law 1453 = .ok (.iconst 0, 1) := by decide +kernel
theorem dL_law_1454 : decode cL_law 1454 = .ok (.ireturn, 1) := by decide +kernel
theorem dL_law_1455 : decode cL_law 1455 = .ok (.aload_n 1, 1) := by decide +kernel
theorem dL_law_1456 : decode cL_law 1456 = .ok (.invokevirtual 173, 3) := by decide +kernel
theorem dL_law_1459 : decode cL_law 1459 = .ok (.aload_n 2, 1) := by decide +kernel
theorem dL_law_1460 : decode cL_law 1460 = .ok (.invokevirtual 176, 3) := by decide +kernel
theorem dL_law_1463 : decode cL_law 1463 = .ok (.if_icmp .eq 357, 3) := by decide +kernel
theorem dL_law_1466 : decode cL_law 1466 = .ok (.iconst 0, 1) := by decide +kernel
theorem dL_law_1467 : decode cL_law 1467 = .ok (.ireturn, 1) := by decide +kernel
theorem dL_law_1468 : decode cL_law 1468 = .ok (.aload_n 1, 1) := by decide +kernel
theorem dL_law_1469 : decode cL_law 1469 = .ok (.aload_n 0, 1) := by decide +kernel
theorem dL_law_1470 : decode cL_law 1470 = .ok (.iload 4, 2) := by decide +kernel
theorem dL_law_1472 : decode cL_law 1472 = .ok (.iconst 1, 1) := by decide +kernel
theorem dL_law_1473 : decode cL_law 1473 = .ok (.iadd, 1) := by decide +kernel
theorem dL_law_1474 : decode cL_law 1474 = .ok (.iaload, 1) := by decide +kernel
theorem dL_law_1475 : decode cL_law 1475 = .ok (.aload_n 0, 1) := by decide +kernel
theorem dL_law_1476 : decode cL_law 1476 = .ok (.iload 4, 2) := by decide +kernel
theorem dL_law_1478 : decode cL_law 1478 = .ok (.iconst 2, 1) := by decide +kernel
theorem dL_law_1479 : decode cL_law 1479 = .ok (.iadd, 1) := by decide +kernel
theorem dL_law_1480 : decode cL_law 1480 = .ok (.iaload, 1) := by decide +kernel
theorem dL_law_1481 : decode cL_law 1481 = .ok (.aload_n 3, 1) := by decide +kernel
theorem dL_law_1482 : decode cL_law 1482 = .ok (.invokestatic 177, 3) := by decide +kernel
theorem dL_law_1485 : decode cL_law 1485 = .ok (.istore 5, 2) := by decide +kernel
theorem dL_law_1487 : decode cL_law 1487 = .ok (.aload_n 2, 1) := by decide +kernel
theorem dL_law_1488 : decode cL_law 1488 = .ok (.aload_n 0, 1) := by decide +kernel
theorem dL_law_1489 : decode cL_law 1489 = .ok (.iload 4, 2) := by decide +kernel
theorem dL_law_1491 : decode cL_law 1491 = .ok (.iconst 1, 1) := by decide +kernel
theorem dL_law_1492 : decode cL_law 1492 = .ok (.iadd, 1) := by decide +kernel
theorem dL_law_1493 : decode cL_law 1493 = .ok (.iaload, 1) := by decide +kernel
theorem dL_law_1494 : decode cL_law 1494 = .ok (.aload_n 0, 1) := by decide +kernel
theorem dL_law_1495 : decode cL_law 1495 = .ok (.iload 4, 2) := by decide +kernel
theorem dL_law_1497 : decode cL_law 1497 = .ok (.iconst 2, 1) := by decide +kernel
theorem dL_law_1498 : decode cL_law 1498 = .ok (.iadd, 1) := by decide +kernel
theorem dL_law_1499 : decode cL_law 1499 = .ok (.iaload, 1) := by decide +kernel
theorem dL_law_1500 : decode cL_law 1500 = .ok (.invokevirtual 179, 3) := by decide +kernel
theorem dL_law_1503 : decode cL_law 1503 = .ok (.istore 6, 2) := by decide +kernel
theorem dL_law_1505 : decode cL_law 1505 = .ok (.aload_n 2, 1) := by decide +kernel
theorem dL_law_1506 : decode cL_law 1506 = .ok (.invokevirtual 101, 3) := by decide +kernel
theorem dL_law_1509 : decode cL_law 1509 = .ok (.iload 5, 2) := by decide +kernel
theorem dL_law_1511 : decode cL_law 1511 = .ok (.if_icmp .eq 5, 3) := by decide +kernel
theorem dL_law_1514 : decode cL_law 1514 = .ok (.iconst 0, 1) := by decide +kernel
theorem dL_law_1515 : decode cL_law 1515 = .ok (.ireturn, 1) := by decide +kernel
theorem dL_law_1516 : decode cL_law 1516 = .ok (.iload 5, 2) := by decide +kernel
theorem dL_law_1518 : decode cL_law 1518 = .ok (.ifCond .ne 15, 3) := by decide +kernel
theorem dL_law_1521 : decode cL_law 1521 = .ok (.aload_n 3, 1) := by decide +kernel
theorem dL_law_1522 : decode cL_law 1522 = .ok (.iconst 0, 1) := by decide +kernel
theorem dL_law_1523 : decode cL_law 1523 = .ok (.laload, 1) := by decide +kernel
theorem dL_law_1524 : decode cL_law 1524 = .ok (.iload 6, 2) := by decide +kernel
theorem dL_law_1526 : decode cL_law 1526 = .ok (.i2l, 1) := by decide +kernel
theorem dL_law_1527 : decode cL_law 1527 = .ok (.lcmp, 1) := by decide +kernel
theorem dL_law_1528 : decode cL_law 1528 = .ok (.ifCond .eq 5, 3) := by decide +kernel
theorem dL_law_1531 : decode cL_law 1531 = .ok (.iconst 0, 1) := by decide +kernel
theorem dL_law_1532 : decode cL_law 1532 = .ok (.ireturn, 1) := by decide +kernel
theorem dL_law_1533 : decode cL_law 1533 = .ok (.goto 287, 3) := by decide +kernel
theorem dL_law_1536 : decode cL_law 1536 = .ok (.aload_n 1, 1) := by decide +kernel
theorem dL_law_1537 : decode cL_law 1537 = .ok (.aload_n 0, 1) := by decide +kernel
theorem dL_law_1538 : decode cL_law 1538 = .ok (.iload 4, 2) := by decide +kernel
theorem dL_law_1540 : decode cL_law 1540 = .ok (.iconst 1, 1) := by decide +kernel
theorem dL_law_1541 : decode cL_law 1541 = .ok (.iadd, 1) := by decide +kernel
theorem dL_law_1542 : decode cL_law 1542 = .ok (.iaload, 1) := by decide +kernel
theorem dL_law_1543 : decode cL_law 1543 = .ok (.aload_n 0, 1) := by decide +kernel
theorem dL_law_1544 : decode cL_law 1544 = .ok (.iload 4, 2) := by decide +kernel
theorem dL_law_1546 : decode cL_law 1546 = .ok (.iconst 2, 1) := by decide +kernel
theorem dL_law_1547 : decode cL_law 1547 = .ok (.iadd, 1) := by decide +kernel
theorem dL_law_1548 : decode cL_law 1548 = .ok (.iaload, 1) := by decide +kernel
theorem dL_law_1549 : decode cL_law 1549 = .ok (.aload_n 0, 1) := by decide +kernel
theorem dL_law_1550 : decode cL_law 1550 = .ok (.iload 4, 2) := by decide +kernel
theorem dL_law_1552 : decode cL_law 1552 = .ok (.iconst 3, 1) := by decide +kernel
theorem dL_law_1553 : decode cL_law 1553 = .ok (.iadd, 1) := by decide +kernel
theorem dL_law_1554 : decode cL_law 1554 = .ok (.iaload, 1) := by decide +kernel
theorem dL_law_1555 : decode cL_law 1555 = .ok (.aload_n 0, 1) := by decide +kernel
theorem dL_law_1556 : decode cL_law 1556 = .ok (.iload 4, 2) := by decide +kernel
theorem dL_law_1558 : decode cL_law 1558 = .ok (.iconst 4, 1) := by decide +kernel
theorem dL_law_1559 : decode cL_law 1559 = .ok (.iadd, 1) := by decide +kernel
theorem dL_law_1560 : decode cL_law 1560 = .ok (.iaload, 1) := by decide +kernel
theorem dL_law_1561 : decode cL_law 1561 = .ok (.aload_n 3, 1) := by decide +kernel
theorem dL_law_1562 : decode cL_law 1562 = .ok (.invokestatic 180, 3) := by decide +kernel
theorem dL_law_1565 : decode cL_law 1565 = .ok (.istore 5, 2) := by decide +kernel
theorem dL_law_1567 : decode cL_law 1567 = .ok (.aload_n 2, 1) := by decide +kernel
theorem dL_law_1568 : decode cL_law 1568 = .ok (.aload_n 0, 1) := by decide +kernel
theorem dL_law_1569 : decode cL_law 1569 = .ok (.iload 4, 2) := by decide +kernel
theorem dL_law_1571 : decode cL_law 1571 = .ok (.iconst 1, 1) := by decide +kernel
theorem dL_law_1572 : decode cL_law 1572 = .ok (.iadd, 1) := by decide +kernel
theorem dL_law_1573 : decode cL_law 1573 = .ok (.iaload, 1) := by decide +kernel
theorem dL_law_1574 : decode cL_law 1574 = .ok (.aload_n 0, 1) := by decide +kernel
theorem dL_law_1575 : decode cL_law 1575 = .ok (.iload 4, 2) := by decide +kernel
theorem dL_law_1577 : decode cL_law 1577 = .ok (.iconst 2, 1) := by decide +kernel
theorem dL_law_1578 : decode cL_law 1578 = .ok (.iadd, 1) := by decide +kernel
theorem dL_law_1579 : decode cL_law 1579 = .ok (.iaload, 1) := by decide +kernel
theorem dL_law_1580 : decode cL_law 1580 = .ok (.aload_n 0, 1) := by decide +kernel
theorem dL_law_1581 : decode cL_law 1581 = .ok (.iload 4, 2) := by decide +kernel
theorem dL_law_1583 : decode cL_law 1583 = .ok (.iconst 3, 1) := by decide +kernel
theorem dL_law_1584 : decode cL_law 1584 = .ok (.iadd, 1) := by decide +kernel
theorem dL_law_1585 : decode cL_law 1585 = .ok (.iaload, 1) := by decide +kernel
theorem dL_law_1586 : decode cL_law 1586 = .ok (.aload_n 0, 1) := by decide +kernel
theorem dL_law_1587 : decode cL_law 1587 = .ok (.iload 4, 2) := by decide +kernel
theorem dL_law_1589 : decode cL_law 1589 = .ok (.iconst 4, 1) := by decide +kernel
theorem dL_law_1590 : decode cL_law 1590 = .ok (.iadd, 1) := by decide +kernel
theorem dL_law_1591 : decode cL_law 1591 = .ok (.iaload, 1) := by decide +kernel
theorem dL_law_1592 : decode cL_law 1592 = .ok (.invokevirtual 182, 3) := by decide +kernel
theorem dL_law_1595 : decode cL_law 1595 = .ok (.istore 6, 2) := by decide +kernel
theorem dL_law_1597 : decode cL_law 1597 = .ok (.aload_n 2, 1) := by decide +kernel
theorem dL_law_1598 : decode cL_law 1598 = .ok (.invokevirtual 101, 3) := by decide +kernel
theorem dL_law_1601 : decode cL_law 1601 = .ok (.iload 5, 2) := by decide +kernel
theorem dL_law_1603 : decode cL_law 1603 = .ok (.if_icmp .eq 5, 3) := by decide +kernel
theorem dL_law_1606 : decode cL_law 1606 = .ok (.iconst 0, 1) := by decide +kernel
theorem dL_law_1607 : decode cL_law 1607 = .ok (.ireturn, 1) := by decide +kernel
theorem dL_law_1608 : decode cL_law 1608 = .ok (.iload 5, 2) := by decide +kernel
theorem dL_law_1610 : decode cL_law 1610 = .ok (.ifCond .ne 15, 3) := by decide +kernel
theorem dL_law_1613 : decode cL_law 1613 = .ok (.aload_n 3, 1) := by decide +kernel
theorem dL_law_1614 : decode cL_law 1614 = .ok (.iconst 0, 1) := by decide +kernel
theorem dL_law_1615 : decode cL_law 1615 = .ok (.laload, 1) := by decide +kernel
theorem dL_law_1616 : decode cL_law 1616 = .ok (.iload 6, 2) := by decide +kernel
theorem dL_law_1618 : decode cL_law 1618 = .ok (.i2l, 1) := by decide +kernel
theorem dL_law_1619 : decode cL_law 1619 = .ok (.lcmp, 1) := by decide +kernel
theorem dL_law_1620 : decode cL_law 1620 = .ok (.ifCond .eq 5, 3) := by decide +kernel
theorem dL_law_1623 : decode cL_law 1623 = .ok (.iconst 0, 1) := by decide +kernel
theorem dL_law_1624 : decode cL_law 1624 = .ok (.ireturn, 1) := by decide +kernel
theorem dL_law_1625 : decode cL_law 1625 = .ok (.goto 195, 3) := by decide +kernel
theorem dL_law_1628 : decode cL_law 1628 = .ok (.aload_n 1, 1) := by decide +kernel
theorem dL_law_1629 : decode cL_law 1629 = .ok (.aload_n 0, 1) := by decide +kernel
theorem dL_law_1630 : decode cL_law 1630 = .ok (.iload 4, 2) := by decide +kernel
theorem dL_law_1632 : decode cL_law 1632 = .ok (.iconst 1, 1) := by decide +kernel
theorem dL_law_1633 : decode cL_law 1633 = .ok (.iadd, 1) := by decide +kernel
theorem dL_law_1634 : decode cL_law 1634 = .ok (.iaload, 1) := by decide +kernel
theorem dL_law_1635 : decode cL_law 1635 = .ok (.aload_n 0, 1) := by decide +kernel
theorem dL_law_1636 : decode cL_law 1636 = .ok (.iload 4, 2) := by decide +kernel
theorem dL_law_1638 : decode cL_law 1638 = .ok (.iconst 2, 1) := by decide +kernel
theorem dL_law_1639 : decode cL_law 1639 = .ok (.iadd, 1) := by decide +kernel
theorem dL_law_1640 : decode cL_law 1640 = .ok (.iaload, 1) := by decide +kernel
theorem dL_law_1641 : decode cL_law 1641 = .ok (.aload_n 3, 1) := by decide +kernel
theorem dL_law_1642 : decode cL_law 1642 = .ok (.invokestatic 183, 3) := by decide +kernel
theorem dL_law_1645 : decode cL_law 1645 = .ok (.istore 5, 2) := by decide +kernel
theorem dL_law_1647 : decode cL_law 1647 = .ok (.aload_n 2, 1) := by decide +kernel
theorem dL_law_1648 : decode cL_law 1648 = .ok (.aload_n 0, 1) := by decide +kernel
theorem dL_law_1649 : decode cL_law 1649 = .ok (.iload 4, 2) := by decide +kernel
theorem dL_law_1651 : decode cL_law 1651 = .ok (.iconst 1, 1) := by decide +kernel
theorem dL_law_1652 : decode cL_law 1652 = .ok (.iadd, 1) := by decide +kernel
theorem dL_law_1653 : decode cL_law 1653 = .ok (.iaload, 1) := by decide +kernel
theorem dL_law_1654 : decode cL_law 1654 = .ok (.aload_n 0, 1) := by decide +kernel
theorem dL_law_1655 : decode cL_law 1655 = .ok (.iload 4, 2) := by decide +kernel
theorem dL_law_1657 : decode cL_law 1657 = .ok (.iconst 2, 1) := by decide +kernel
theorem dL_law_1658 : decode cL_law 1658 = .ok (.iadd, 1) := by decide +kernel
theorem dL_law_1659 : decode cL_law 1659 = .ok (.iaload, 1) := by decide +kernel
theorem dL_law_1660 : decode cL_law 1660 = .ok (.invokevirtual 185, 3) := by decide +kernel
theorem dL_law_1663 : decode cL_law 1663 = .ok (.istore 6, 2) := by decide +kernel
theorem dL_law_1665 : decode cL_law 1665 = .ok (.aload_n 2, 1) := by decide +kernel
theorem dL_law_1666 : decode cL_law 1666 = .ok (.invokevirtual 101, 3) := by decide +kernel
theorem dL_law_1669 : decode cL_law 1669 = .ok (.iload 5, 2) := by decide +kernel
theorem dL_law_1671 : decode cL_law 1671 = .ok (.if_icmp .eq 5, 3) := by decide +kernel
theorem dL_law_1674 : decode cL_law 1674 = .ok (.iconst 0, 1) := by decide +kernel
theorem dL_law_1675 : decode cL_law 1675 = .ok (.ireturn, 1) := by decide +kernel
theorem dL_law_1676 : decode cL_law 1676 = .ok (.iload 5, 2) := by decide +kernel
theorem dL_law_1678 : decode cL_law 1678 = .ok (.ifCond .ne 15, 3) := by decide +kernel
theorem dL_law_1681 : decode cL_law 1681 = .ok (.aload_n 3, 1) := by decide +kernel
theorem dL_law_1682 : decode cL_law 1682 = .ok (.iconst 0, 1) := by decide +kernel
theorem dL_law_1683 : decode cL_law 1683 = .ok (.laload, 1) := by decide +kernel
theorem dL_law_1684 : decode cL_law 1684 = .ok (.iload 6, 2) := by decide +kernel
theorem dL_law_1686 : decode cL_law 1686 = .ok (.i2l, 1) := by decide +kernel
theorem dL_law_1687 : decode cL_law 1687 = .ok (.lcmp, 1) := by decide +kernel
theorem dL_law_1688 : decode cL_law 1688 = .ok (.ifCond .eq 5, 3) := by decide +kernel
theorem dL_law_1691 : decode cL_law 1691 = .ok (.iconst 0, 1) := by decide +kernel
theorem dL_law_1692 : decode cL_law 1692 = .ok (.ireturn, 1) := by decide +kernel
theorem dL_law_1693 : decode cL_law 1693 = .ok (.goto 127, 3) := by decide +kernel
theorem dL_law_1696 : decode cL_law 1696 = .ok (.aload_n 1, 1) := by decide +kernel
theorem dL_law_1697 : decode cL_law 1697 = .ok (.aload_n 0, 1) := by decide +kernel
theorem dL_law_1698 : decode cL_law 1698 = .ok (.iload 4, 2) := by decide +kernel
theorem dL_law_1700 : decode cL_law 1700 = .ok (.iconst 1, 1) := by decide +kernel
theorem dL_law_1701 : decode cL_law 1701 = .ok (.iadd, 1) := by decide +kernel
theorem dL_law_1702 : decode cL_law 1702 = .ok (.iaload, 1) := by decide +kernel
theorem dL_law_1703 : decode cL_law 1703 = .ok (.aload_n 0, 1) := by decide +kernel
theorem dL_law_1704 : decode cL_law 1704 = .ok (.iload 4, 2) := by decide +kernel
theorem dL_law_1706 : decode cL_law 1706 = .ok (.iconst 2, 1) := by decide +kernel
theorem dL_law_1707 : decode cL_law 1707 = .ok (.iadd, 1) := by decide +kernel
theorem dL_law_1708 : decode cL_law 1708 = .ok (.iaload, 1) := by decide +kernel
theorem dL_law_1709 : decode cL_law 1709 = .ok (.aload_n 3, 1) := by decide +kernel
theorem dL_law_1710 : decode cL_law 1710 = .ok (.invokestatic 186, 3) := by decide +kernel
theorem dL_law_1713 : decode cL_law 1713 = .ok (.istore 5, 2) := by decide +kernel
theorem dL_law_1715 : decode cL_law 1715 = .ok (.aload_n 2, 1) := by decide +kernel
theorem dL_law_1716 : decode cL_law 1716 = .ok (.aload_n 0, 1) := by decide +kernel
theorem dL_law_1717 : decode cL_law 1717 = .ok (.iload 4, 2) := by decide +kernel
theorem dL_law_1719 : decode cL_law 1719 = .ok (.iconst 1, 1) := by decide +kernel
theorem dL_law_1720 : decode cL_law 1720 = .ok (.iadd, 1) := by decide +kernel
theorem dL_law_1721 : decode cL_law 1721 = .ok (.iaload, 1) := by decide +kernel
theorem dL_law_1722 : decode cL_law 1722 = .ok (.aload_n 0, 1) := by decide +kernel
theorem dL_law_1723 : decode cL_law 1723 = .ok (.iload 4, 2) := by decide +kernel
theorem dL_law_1725 : decode cL_law 1725 = .ok (.iconst 2, 1) := by decide +kernel
theorem dL_law_1726 : decode cL_law 1726 = .ok (.iadd, 1) := by decide +kernel
theorem dL_law_1727 : decode cL_law 1727 = .ok (.iaload, 1) := by decide +kernel
theorem dL_law_1728 : decode cL_law 1728 = .ok (.invokevirtual 188, 3) := by decide +kernel
theorem dL_law_1731 : decode cL_law 1731 = .ok (.istore 6, 2) := by decide +kernel
theorem dL_law_1733 : decode cL_law 1733 = .ok (.aload_n 2, 1) := by decide +kernel
theorem dL_law_1734 : decode cL_law 1734 = .ok (.invokevirtual 101, 3) := by decide +kernel
theorem dL_law_1737 : decode cL_law 1737 = .ok (.iload 5, 2) := by decide +kernel
theorem dL_law_1739 : decode cL_law 1739 = .ok (.if_icmp .eq 5, 3) := by decide +kernel
theorem dL_law_1742 : decode cL_law 1742 = .ok (.iconst 0, 1) := by decide +kernel
theorem dL_law_1743 : decode cL_law 1743 = .ok (.ireturn, 1) := by decide +kernel
theorem dL_law_1744 : decode cL_law 1744 = .ok (.iload 5, 2) := by decide +kernel
theorem dL_law_1746 : decode cL_law 1746 = .ok (.ifCond .ne 15, 3) := by decide +kernel
theorem dL_law_1749 : decode cL_law 1749 = .ok (.aload_n 3, 1) := by decide +kernel
theorem dL_law_1750 : decode cL_law 1750 = .ok (.iconst 0, 1) := by decide +kernel
theorem dL_law_1751 : decode cL_law 1751 = .ok (.laload, 1) := by decide +kernel
theorem dL_law_1752 : decode cL_law 1752 = .ok (.iload 6, 2) := by decide +kernel
theorem dL_law_1754 : decode cL_law 1754 = .ok (.i2l, 1) := by decide +kernel
theorem dL_law_1755 : decode cL_law 1755 = .ok (.lcmp, 1) := by decide +kernel
theorem dL_law_1756 : decode cL_law 1756 = .ok (.ifCond .eq 5, 3) := by decide +kernel
theorem dL_law_1759 : decode cL_law 1759 = .ok (.iconst 0, 1) := by decide +kernel
theorem dL_law_1760 : decode cL_law 1760 = .ok (.ireturn, 1) := by decide +kernel
theorem dL_law_1761 : decode cL_law 1761 = .ok (.goto 59, 3) := by decide +kernel
theorem dL_law_1764 : decode cL_law 1764 = .ok (.aload_n 1, 1) := by decide +kernel
theorem dL_law_1765 : decode cL_law 1765 = .ok (.aload_n 0, 1) := by decide +kernel
theorem dL_law_1766 : decode cL_law 1766 = .ok (.iload 4, 2) := by decide +kernel
theorem dL_law_1768 : decode cL_law 1768 = .ok (.iconst 1, 1) := by decide +kernel
theorem dL_law_1769 : decode cL_law 1769 = .ok (.iadd, 1) := by decide +kernel
theorem dL_law_1770 : decode cL_law 1770 = .ok (.iaload, 1) := by decide +kernel
theorem dL_law_1771 : decode cL_law 1771 = .ok (.aload_n 3, 1) := by decide +kernel
theorem dL_law_1772 : decode cL_law 1772 = .ok (.invokestatic 189, 3) := by decide +kernel
theorem dL_law_1775 : decode cL_law 1775 = .ok (.istore 5, 2) := by decide +kernel
theorem dL_law_1777 : decode cL_law 1777 = .ok (.aload_n 2, 1) := by decide +kernel
theorem dL_law_1778 : decode cL_law 1778 = .ok (.aload_n 0, 1) := by decide +kernel
theorem dL_law_1779 : decode cL_law 1779 = .ok (.iload 4, 2) := by decide +kernel
theorem dL_law_1781 : decode cL_law 1781 = .ok (.iconst 1, 1) := by decide +kernel
theorem dL_law_1782 : decode cL_law 1782 = .ok (.iadd, 1) := by decide +kernel
theorem dL_law_1783 : decode cL_law 1783 = .ok (.iaload, 1) := by decide +kernel
theorem dL_law_1784 : decode cL_law 1784 = .ok (.invokevirtual 191, 3) := by decide +kernel
theorem dL_law_1787 : decode cL_law 1787 = .ok (.istore 6, 2) := by decide +kernel
theorem dL_law_1789 : decode cL_law 1789 = .ok (.aload_n 2, 1) := by decide +kernel
theorem dL_law_1790 : decode cL_law 1790 = .ok (.invokevirtual 101, 3) := by decide +kernel
theorem dL_law_1793 : decode cL_law 1793 = .ok (.iload 5, 2) := by decide +kernel
theorem dL_law_1795 : decode cL_law 1795 = .ok (.if_icmp .eq 5, 3) := by decide +kernel
theorem dL_law_1798 : decode cL_law 1798 = .ok (.iconst 0, 1) := by decide +kernel
theorem dL_law_1799 : decode cL_law 1799 = .ok (.ireturn, 1) := by decide +kernel
theorem dL_law_1800 : decode cL_law 1800 = .ok (.iload 5, 2) := by decide +kernel
theorem dL_law_1802 : decode cL_law 1802 = .ok (.ifCond .ne 15, 3) := by decide +kernel
theorem dL_law_1805 : decode cL_law 1805 = .ok (.aload_n 3, 1) := by decide +kernel
theorem dL_law_1806 : decode cL_law 1806 = .ok (.iconst 0, 1) := by decide +kernel
theorem dL_law_1807 : decode cL_law 1807 = .ok (.laload, 1) := by decide +kernel
theorem dL_law_1808 : decode cL_law 1808 = .ok (.iload 6, 2) := by decide +kernel
theorem dL_law_1810 : decode cL_law 1810 = .ok (.i2l, 1) := by decide +kernel
theorem dL_law_1811 : decode cL_law 1811 = .ok (.lcmp, 1) := by decide +kernel
theorem dL_law_1812 : decode cL_law 1812 = .ok (.ifCond .eq 5, 3) := by decide +kernel
theorem dL_law_1815 : decode cL_law 1815 = .ok (.iconst 0, 1) := by decide +kernel
theorem dL_law_1816 : decode cL_law 1816 = .ok (.ireturn, 1) := by decide +kernel
theorem dL_law_1817 : decode cL_law 1817 = .ok (.goto 3, 3) := by decide +kernel
theorem dL_law_1820 : decode cL_law 1820 = .ok (.iinc 4 6, 3) := by decide +kernel
theorem dL_law_1823 : decode cL_law 1823 = .ok (.goto (-1800), 3) := by decide +kernel
theorem dL_law_1826 : decode cL_law 1826 = .ok (.iconst 1, 1) := by decide +kernel
theorem dL_law_1827 : decode cL_law 1827 = .ok (.ireturn, 1) := by decide +kernel
end
section
/-! ONE list of words for all methods: the tables' good words. tw_k_i: the i-th word of the k-th chunk of tables_1 is among them. -/
def TB : List Cond := lw_tbl.filter goodWord
theorem tb_all : ∀ w ∈ TB, goodWord w = true := fun _ h => (List.mem_filter.mp h).2
theorem tb_of {w : Cond} (h : w ∈ tables_1) (g : goodWord w = true) : w ∈ TB := List.mem_filter.mpr ⟨List.mem_append_right _ h, g⟩
theorem tb_1 {w : Cond} (i : Nat) (h : tables_1_1[i]? = some w) (g : goodWord w = true) : w ∈ TB := tb_of (List.mem_append_left _ (List.mem_of_getElem? h)) g
theorem tb_2 {w : Cond} (i : Nat) (h : tables_1_2[i]? = some w) (g : goodWord w = true) : w ∈ TB := tb_of (List.mem_append_right _ (List.mem_append_left _ (List.mem_of_getElem? h))) g
theorem tb_3 {w : Cond} (i : Nat) (h : tables_1_3[i]? = some w) (g : goodWord w = true) : w ∈ TB := tb_of (List.mem_append_right _ (List.mem_append_right _ (List.mem_append_left _ (List.mem_of_getElem? h)))) g
theorem tb_4 {w : Cond} (i : Nat) (h : tables_1_4[i]? = some w) (g : goodWord w = true) : w ∈ TB := tb_of (List.mem_append_right _ (List.mem_append_right _ (List.mem_append_right _ (List.mem_append_left _ (List.mem_of_getElem? h))))) g
theorem tb_5 {w : Cond} (i : Nat) (h : tables_1_5[i]? = some w) (g : goodWord w = true) : w ∈ TB := tb_of (List.mem_append_right _ (List.mem_append_right _ (List.mem_append_right _ (List.mem_append_right _ (List.mem_append_left _ (List.mem_of_getElem? h)))))) g
theorem tb_6 {w : Cond} (i : Nat) (h : tables_1_6[i]? = some w) (g : goodWord w = true) : w ∈ TB := tb_of (List.mem_append_right _ (List.mem_append_right _ (List.mem_append_right _ (List.mem_append_right _ (List.mem_append_right _ (List.mem_of_getElem? h)))))) g
theorem tb_s {w : Cond} (i : Nat) (h : (k2_sels lw_privs)[i]? = some w) (g : goodWord w = true) : w ∈ TB := List.mem_filter.mpr ⟨List.mem_append_left _ (List.mem_of_getElem? h), g⟩

theorem tw_1_0 : (Jvm.Cond.initialized "ToolCribLaw") ∈ TB := tb_1 0 rfl rfl
theorem tw_1_1 : (Jvm.Cond.initialized "ToolCrib") ∈ TB := tb_1 1 rfl rfl
theorem tw_1_2 : (Jvm.Cond.initialized "java/util/AbstractCollection") ∈ TB := tb_1 2 rfl rfl
theorem tw_1_3 : (Jvm.Cond.initialized "java/util/AbstractList") ∈ TB := tb_1 3 rfl rfl
theorem tw_1_4 : (Jvm.Cond.initialized "java/util/ArrayList") ∈ TB := tb_1 4 rfl rfl
theorem tw_1_5 : (Jvm.Cond.initialized "ToolCrib$Walk") ∈ TB := tb_1 5 rfl rfl
theorem tw_1_6 : (Jvm.Cond.initialized "ToolCrib$Trial") ∈ TB := tb_1 6 rfl rfl
theorem tw_1_7 : (Jvm.Cond.initialized "ToolCrib$Gauge") ∈ TB := tb_1 7 rfl rfl
theorem tw_1_8 : (Jvm.Cond.initialized "jdk/internal/util/ArraysSupport") ∈ TB := tb_1 8 rfl rfl
theorem tw_1_9 : (Jvm.Cond.initialized "java/lang/Math") ∈ TB := tb_1 9 rfl rfl
theorem tw_1_10 : (Jvm.Cond.initialized "java/util/Arrays") ∈ TB := tb_1 10 rfl rfl
theorem tw_1_11 : (Jvm.Cond.initialized "java/lang/System") ∈ TB := tb_1 11 rfl rfl
theorem tw_1_12 : (Jvm.Cond.initialized "ToolCribModel") ∈ TB := tb_1 12 rfl rfl
theorem tw_1_13 : (Jvm.Cond.initialized "java/lang/Throwable") ∈ TB := tb_1 13 rfl rfl
theorem tw_1_14 : (Jvm.Cond.initialized "java/lang/Exception") ∈ TB := tb_1 14 rfl rfl
theorem tw_1_15 : (Jvm.Cond.initialized "java/lang/RuntimeException") ∈ TB := tb_1 15 rfl rfl
theorem tw_1_16 : (Jvm.Cond.initialized "java/lang/IllegalStateException") ∈ TB := tb_1 16 rfl rfl
theorem tw_1_17 : (Jvm.Cond.initialized "ToolCrib$Program") ∈ TB := tb_1 17 rfl rfl
theorem tw_1_18 : (Jvm.Cond.initialized "java/lang/IndexOutOfBoundsException") ∈ TB := tb_1 18 rfl rfl
theorem tw_1_19 : (Jvm.Cond.initialized "java/util/Objects") ∈ TB := tb_1 19 rfl rfl
theorem tw_1_20 : (Jvm.Cond.initialized "jdk/internal/util/Preconditions") ∈ TB := tb_1 20 rfl rfl
theorem tw_1_21 : (Jvm.Cond.initialized "java/lang/IllegalArgumentException") ∈ TB := tb_1 21 rfl rfl
theorem tw_1_22 : (Jvm.Cond.initialized "ToolCrib$Tool") ∈ TB := tb_1 22 rfl rfl
theorem tw_1_23 : (Jvm.Cond.initialized "ToolCrib$Pallet") ∈ TB := tb_1 23 rfl rfl
theorem tw_1_24 : (Jvm.Cond.initialized "ToolCrib$Drawing") ∈ TB := tb_1 24 rfl rfl
theorem tw_1_25 : (Jvm.Cond.initialized "ToolCrib$Paper") ∈ TB := tb_1 25 rfl rfl
theorem tw_1_26 : (Jvm.Cond.classLink "ToolCribLaw" (8 : Nat) "ToolCrib") ∈ TB := tb_1 26 rfl rfl
theorem tw_1_27 : (Jvm.Cond.instantiable "ToolCrib" (13 : Nat)) ∈ TB := tb_1 27 rfl rfl
theorem tw_1_28 : (Jvm.Cond.methodLink "ToolCribLaw" (91 : Nat) ({ cls := "ToolCrib", name := "<init>", desc := "()V" } : Jvm.MethodName)) ∈ TB := tb_1 28 rfl rfl
theorem tw_1_29 : (Jvm.Cond.instanceMethod ({ cls := "ToolCrib", name := "<init>", desc := "()V" } : Jvm.MethodName)) ∈ TB := tb_1 29 rfl rfl
theorem tw_1_30 : (Jvm.Cond.code ({ cls := "ToolCrib", name := "<init>", desc := "()V" } : Jvm.MethodName) prog_1_method_1_code (2 : Nat) (Option.none : Option Jvm.ClassFile.FieldType)) ∈ TB := tb_1 30 rfl rfl
theorem tw_1_31 : (Jvm.Cond.methodLink "ToolCrib" (3 : Nat) ({ cls := "java/lang/Object", name := "<init>", desc := "()V" } : Jvm.MethodName)) ∈ TB := tb_1 31 rfl rfl
theorem tw_1_32 : (Jvm.Cond.instanceMethod ({ cls := "java/lang/Object", name := "<init>", desc := "()V" } : Jvm.MethodName)) ∈ TB := tb_1 32 rfl rfl
theorem tw_1_33 : (Jvm.Cond.code ({ cls := "java/lang/Object", name := "<init>", desc := "()V" } : Jvm.MethodName) object_method_1_code (1 : Nat) (Option.none : Option Jvm.ClassFile.FieldType)) ∈ TB := tb_1 33 rfl rfl
theorem tw_1_34 : (Jvm.Cond.classLink "ToolCrib" (9 : Nat) "java/util/ArrayList") ∈ TB := tb_1 34 rfl rfl
theorem tw_1_35 : (Jvm.Cond.instantiable "java/util/ArrayList" (3 : Nat)) ∈ TB := tb_1 35 rfl rfl
theorem tw_1_36 : (Jvm.Cond.methodLink "ToolCrib" (11 : Nat) ({ cls := "java/util/ArrayList", name := "<init>", desc := "()V" } : Jvm.MethodName)) ∈ TB := tb_1 36 rfl rfl
theorem tw_1_37 : (Jvm.Cond.instanceMethod ({ cls := "java/util/ArrayList", name := "<init>", desc := "()V" } : Jvm.MethodName)) ∈ TB := tb_1 37 rfl rfl
theorem tw_1_38 : (Jvm.Cond.code ({ cls := "java/util/ArrayList", name := "<init>", desc := "()V" } : Jvm.MethodName) prog_26_method_2_code (1 : Nat) (Option.none : Option Jvm.ClassFile.FieldType)) ∈ TB := tb_1 38 rfl rfl
theorem tw_1_39 : (Jvm.Cond.methodLink "java/util/ArrayList" (1 : Nat) ({ cls := "java/util/AbstractList", name := "<init>", desc := "()V" } : Jvm.MethodName)) ∈ TB := tb_1 39 rfl rfl
theorem tw_1_40 : (Jvm.Cond.instanceMethod ({ cls := "java/util/AbstractList", name := "<init>", desc := "()V" } : Jvm.MethodName)) ∈ TB := tb_1 40 rfl rfl
theorem tw_1_41 : (Jvm.Cond.code ({ cls := "java/util/AbstractList", name := "<init>", desc := "()V" } : Jvm.MethodName) prog_25_method_1_code (1 : Nat) (Option.none : Option Jvm.ClassFile.FieldType)) ∈ TB := tb_1 41 rfl rfl
theorem tw_1_42 : (Jvm.Cond.methodLink "java/util/AbstractList" (1 : Nat) ({ cls := "java/util/AbstractCollection", name := "<init>", desc := "()V" } : Jvm.MethodName)) ∈ TB := tb_1 42 rfl rfl
theorem tw_1_43 : (Jvm.Cond.instanceMethod ({ cls := "java/util/AbstractCollection", name := "<init>", desc := "()V" } : Jvm.MethodName)) ∈ TB := tb_1 43 rfl rfl
theorem tw_1_44 : (Jvm.Cond.code ({ cls := "java/util/AbstractCollection", name := "<init>", desc := "()V" } : Jvm.MethodName) prog_24_method_1_code (1 : Nat) (Option.none : Option Jvm.ClassFile.FieldType)) ∈ TB := tb_1 44 rfl rfl
theorem tw_1_45 : (Jvm.Cond.methodLink "java/util/AbstractCollection" (1 : Nat) ({ cls := "java/lang/Object", name := "<init>", desc := "()V" } : Jvm.MethodName)) ∈ TB := tb_1 45 rfl rfl
theorem tw_1_46 : (Jvm.Cond.fieldLink "java/util/ArrayList" (39 : Nat) "java/util/ArrayList" "DEFAULTCAPACITY_EMPTY_ELEMENTDATA" "[Ljava/lang/Object;") ∈ TB := tb_1 46 rfl rfl
theorem tw_1_48 : (Jvm.Cond.fieldLink "java/util/ArrayList" (9 : Nat) "java/util/ArrayList" "elementData" "[Ljava/lang/Object;") ∈ TB := tb_1 48 rfl rfl
theorem tw_1_49 : (Jvm.Cond.fieldLink "java/util/ArrayList" (48 : Nat) "java/util/ArrayList" "size" "I") ∈ TB := tb_1 49 rfl rfl
theorem tw_1_50 : (Jvm.Cond.fieldLink "java/util/AbstractList" (7 : Nat) "java/util/AbstractList" "modCount" "I") ∈ TB := tb_1 50 rfl rfl
theorem tw_1_51 : (Jvm.Cond.fieldLink "java/util/ArrayList" (63 : Nat) "java/util/ArrayList" "modCount" "I") ∈ TB := tb_1 51 rfl rfl
theorem tw_1_52 : (Jvm.Cond.sameField "java/util/ArrayList" "java/util/AbstractList" "modCount" "I") ∈ TB := tb_1 52 rfl rfl
theorem tw_1_53 : (Jvm.Cond.lays "java/util/ArrayList" "java/util/ArrayList" "elementData" "[Ljava/lang/Object;") ∈ TB := tb_1 53 rfl rfl
theorem tw_1_55 : (Jvm.Cond.lays "java/util/ArrayList" "java/util/ArrayList" "size" "I") ∈ TB := tb_1 55 rfl rfl
theorem tw_1_57 : (Jvm.Cond.lays "java/util/ArrayList" "java/util/AbstractList" "modCount" "I") ∈ TB := tb_1 57 rfl rfl
theorem tw_1_60 : (Jvm.Cond.classLink "ToolCrib" (41 : Nat) "ToolCrib$Walk") ∈ TB := tb_1 60 rfl rfl
theorem tw_1_61 : (Jvm.Cond.instantiable "ToolCrib$Walk" (11 : Nat)) ∈ TB := tb_1 61 rfl rfl
theorem tw_1_63 : (Jvm.Cond.instanceMethod ({ cls := "ToolCrib$Walk", name := "<init>", desc := "()V" } : Jvm.MethodName)) ∈ TB := tb_1 63 rfl rfl
theorem tw_1_64 : (Jvm.Cond.code ({ cls := "ToolCrib$Walk", name := "<init>", desc := "()V" } : Jvm.MethodName) prog_9_method_1_code (1 : Nat) (Option.none : Option Jvm.ClassFile.FieldType)) ∈ TB := tb_1 64 rfl rfl
theorem tw_1_65 : (Jvm.Cond.methodLink "ToolCrib$Walk" (3 : Nat) ({ cls := "java/lang/Object", name := "<init>", desc := "()V" } : Jvm.MethodName)) ∈ TB := tb_1 65 rfl rfl
theorem tw_1_66 : (Jvm.Cond.classLink "ToolCrib$Walk" (9 : Nat) "java/util/ArrayList") ∈ TB := tb_1 66 rfl rfl
theorem tw_1_67 : (Jvm.Cond.methodLink "ToolCrib$Walk" (11 : Nat) ({ cls := "java/util/ArrayList", name := "<init>", desc := "()V" } : Jvm.MethodName)) ∈ TB := tb_1 67 rfl rfl
theorem tw_1_68 : (Jvm.Cond.fieldLink "ToolCrib$Walk" (12 : Nat) "ToolCrib$Walk" "programs" "Ljava/util/ArrayList;") ∈ TB := tb_1 68 rfl rfl
theorem tw_1_69 : (Jvm.Cond.fieldLink "ToolCrib" (62 : Nat) "ToolCrib$Walk" "programs" "Ljava/util/ArrayList;") ∈ TB := tb_1 69 rfl rfl
theorem tw_1_70 : (Jvm.Cond.fieldLink "ToolCrib$Walk" (18 : Nat) "ToolCrib$Walk" "open" "Ljava/util/ArrayList;") ∈ TB := tb_1 70 rfl rfl
theorem tw_1_71 : (Jvm.Cond.fieldLink "ToolCrib$Walk" (21 : Nat) "ToolCrib$Walk" "next" "[I") ∈ TB := tb_1 71 rfl rfl
theorem tw_1_72 : (Jvm.Cond.fieldLink "ToolCrib$Walk" (25 : Nat) "ToolCrib$Walk" "at" "[I") ∈ TB := tb_1 72 rfl rfl
theorem tw_1_73 : (Jvm.Cond.fieldLink "ToolCrib$Trial" (70 : Nat) "ToolCrib$Walk" "at" "[I") ∈ TB := tb_1 73 rfl rfl
theorem tw_1_74 : (Jvm.Cond.fieldLink "ToolCrib" (392 : Nat) "ToolCrib$Walk" "at" "[I") ∈ TB := tb_1 74 rfl rfl
theorem tw_1_75 : (Jvm.Cond.fieldLink "ToolCrib$Walk" (31 : Nat) "ToolCrib$Walk" "axis" "I") ∈ TB := tb_1 75 rfl rfl
theorem tw_1_76 : (Jvm.Cond.fieldLink "ToolCrib$Walk" (35 : Nat) "ToolCrib$Walk" "goal" "I") ∈ TB := tb_1 76 rfl rfl
theorem tw_1_77 : (Jvm.Cond.fieldLink "ToolCrib$Walk" (38 : Nat) "ToolCrib$Walk" "blocksDone" "I") ∈ TB := tb_1 77 rfl rfl
theorem tw_1_78 : (Jvm.Cond.fieldLink "ToolCrib$Walk" (41 : Nat) "ToolCrib$Walk" "isCutting" "Z") ∈ TB := tb_1 78 rfl rfl
theorem tw_1_79 : (Jvm.Cond.fieldLink "ToolCrib$Walk" (45 : Nat) "ToolCrib$Walk" "isFromSpindle" "Z") ∈ TB := tb_1 79 rfl rfl
theorem tw_1_80 : (Jvm.Cond.fieldLink "ToolCrib$Walk" (48 : Nat) "ToolCrib$Walk" "kind" "I") ∈ TB := tb_1 80 rfl rfl
theorem tw_1_81 : (Jvm.Cond.fieldLink "ToolCrib$Trial" (63 : Nat) "ToolCrib$Walk" "kind" "I") ∈ TB := tb_1 81 rfl rfl
theorem tw_1_82 : (Jvm.Cond.fieldLink "ToolCrib" (381 : Nat) "ToolCrib$Walk" "kind" "I") ∈ TB := tb_1 82 rfl rfl
theorem tw_1_83 : (Jvm.Cond.fieldLink "ToolCrib$Walk" (51 : Nat) "ToolCrib$Walk" "wrong" "I") ∈ TB := tb_1 83 rfl rfl
theorem tw_1_84 : (Jvm.Cond.fieldLink "ToolCrib$Trial" (73 : Nat) "ToolCrib$Walk" "wrong" "I") ∈ TB := tb_1 84 rfl rfl
theorem tw_1_85 : (Jvm.Cond.laysFinal "ToolCrib$Walk" "ToolCrib$Walk" "programs" "Ljava/util/ArrayList;") ∈ TB := tb_1 85 rfl rfl
theorem tw_1_87 : (Jvm.Cond.laysFinal "ToolCrib$Walk" "ToolCrib$Walk" "open" "Ljava/util/ArrayList;") ∈ TB := tb_1 87 rfl rfl
theorem tw_1_89 : (Jvm.Cond.laysFinal "ToolCrib$Walk" "ToolCrib$Walk" "next" "[I") ∈ TB := tb_1 89 rfl rfl
theorem tw_1_91 : (Jvm.Cond.laysFinal "ToolCrib$Walk" "ToolCrib$Walk" "at" "[I") ∈ TB := tb_1 91 rfl rfl
theorem tw_1_93 : (Jvm.Cond.lays "ToolCrib$Walk" "ToolCrib$Walk" "axis" "I") ∈ TB := tb_1 93 rfl rfl
theorem tw_1_95 : (Jvm.Cond.lays "ToolCrib$Walk" "ToolCrib$Walk" "goal" "I") ∈ TB := tb_1 95 rfl rfl
theorem tw_1_97 : (Jvm.Cond.lays "ToolCrib$Walk" "ToolCrib$Walk" "blocksDone" "I") ∈ TB := tb_1 97 rfl rfl
theorem tw_1_99 : (Jvm.Cond.lays "ToolCrib$Walk" "ToolCrib$Walk" "isCutting" "Z") ∈ TB := tb_1 99 rfl rfl
theorem tw_1_101 : (Jvm.Cond.lays "ToolCrib$Walk" "ToolCrib$Walk" "isFromSpindle" "Z") ∈ TB := tb_1 101 rfl rfl
theorem tw_1_103 : (Jvm.Cond.lays "ToolCrib$Walk" "ToolCrib$Walk" "kind" "I") ∈ TB := tb_1 103 rfl rfl
theorem tw_1_105 : (Jvm.Cond.lays "ToolCrib$Walk" "ToolCrib$Walk" "wrong" "I") ∈ TB := tb_1 105 rfl rfl
theorem tw_1_108 : (Jvm.Cond.arrayClass Jvm.ClassFile.FieldType.int) ∈ TB := tb_1 108 rfl rfl
theorem tw_1_109 : (Jvm.Cond.classLink "ToolCrib" (48 : Nat) "ToolCrib$Trial") ∈ TB := tb_1 109 rfl rfl
theorem tw_1_110 : (Jvm.Cond.instantiable "ToolCrib$Trial" (5 : Nat)) ∈ TB := tb_1 110 rfl rfl
theorem tw_1_112 : (Jvm.Cond.instanceMethod ({ cls := "ToolCrib$Trial", name := "<init>", desc := "()V" } : Jvm.MethodName)) ∈ TB := tb_1 112 rfl rfl
theorem tw_1_113 : (Jvm.Cond.code ({ cls := "ToolCrib$Trial", name := "<init>", desc := "()V" } : Jvm.MethodName) prog_8_method_1_code (1 : Nat) (Option.none : Option Jvm.ClassFile.FieldType)) ∈ TB := tb_1 113 rfl rfl
theorem tw_1_114 : (Jvm.Cond.methodLink "ToolCrib$Trial" (3 : Nat) ({ cls := "java/lang/Object", name := "<init>", desc := "()V" } : Jvm.MethodName)) ∈ TB := tb_1 114 rfl rfl
theorem tw_1_115 : (Jvm.Cond.fieldLink "ToolCrib$Trial" (9 : Nat) "ToolCrib$Trial" "heights" "[I") ∈ TB := tb_1 115 rfl rfl
theorem tw_1_116 : (Jvm.Cond.fieldLink "ToolCrib$Trial" (15 : Nat) "ToolCrib$Trial" "cutsByKind" "[I") ∈ TB := tb_1 116 rfl rfl
theorem tw_1_117 : (Jvm.Cond.fieldLink "ToolCrib" (206 : Nat) "ToolCrib$Trial" "cutsByKind" "[I") ∈ TB := tb_1 117 rfl rfl
theorem tw_1_118 : (Jvm.Cond.fieldLink "ToolCrib$Trial" (33 : Nat) "ToolCrib$Trial" "steps" "I") ∈ TB := tb_1 118 rfl rfl
theorem tw_1_119 : (Jvm.Cond.fieldLink "ToolCrib" (168 : Nat) "ToolCrib$Trial" "steps" "I") ∈ TB := tb_1 119 rfl rfl
theorem tw_1_120 : (Jvm.Cond.fieldLink "ToolCrib$Trial" (37 : Nat) "ToolCrib$Trial" "cuts" "I") ∈ TB := tb_1 120 rfl rfl
theorem tw_1_121 : (Jvm.Cond.fieldLink "ToolCrib" (171 : Nat) "ToolCrib$Trial" "cuts" "I") ∈ TB := tb_1 121 rfl rfl
theorem tw_1_122 : (Jvm.Cond.fieldLink "ToolCrib$Trial" (60 : Nat) "ToolCrib$Trial" "wrong" "I") ∈ TB := tb_1 122 rfl rfl
theorem tw_1_123 : (Jvm.Cond.fieldLink "ToolCrib" (165 : Nat) "ToolCrib$Trial" "wrong" "I") ∈ TB := tb_1 123 rfl rfl
theorem tw_1_124 : (Jvm.Cond.laysFinal "ToolCrib$Trial" "ToolCrib$Trial" "heights" "[I") ∈ TB := tb_1 124 rfl rfl
theorem tw_1_126 : (Jvm.Cond.laysFinal "ToolCrib$Trial" "ToolCrib$Trial" "cutsByKind" "[I") ∈ TB := tb_1 126 rfl rfl
theorem tw_1_128 : (Jvm.Cond.lays "ToolCrib$Trial" "ToolCrib$Trial" "steps" "I") ∈ TB := tb_1 128 rfl rfl
theorem tw_1_130 : (Jvm.Cond.lays "ToolCrib$Trial" "ToolCrib$Trial" "cuts" "I") ∈ TB := tb_1 130 rfl rfl
theorem tw_1_132 : (Jvm.Cond.lays "ToolCrib$Trial" "ToolCrib$Trial" "wrong" "I") ∈ TB := tb_1 132 rfl rfl
theorem tw_1_135 : (Jvm.Cond.classLink "ToolCrib" (55 : Nat) "ToolCrib$Gauge") ∈ TB := tb_1 135 rfl rfl
theorem tw_1_136 : (Jvm.Cond.instantiable "ToolCrib$Gauge" (2 : Nat)) ∈ TB := tb_1 136 rfl rfl
theorem tw_1_138 : (Jvm.Cond.instanceMethod ({ cls := "ToolCrib$Gauge", name := "<init>", desc := "()V" } : Jvm.MethodName)) ∈ TB := tb_1 138 rfl rfl
theorem tw_1_139 : (Jvm.Cond.code ({ cls := "ToolCrib$Gauge", name := "<init>", desc := "()V" } : Jvm.MethodName) prog_3_method_1_code (1 : Nat) (Option.none : Option Jvm.ClassFile.FieldType)) ∈ TB := tb_1 139 rfl rfl
theorem tw_1_140 : (Jvm.Cond.methodLink "ToolCrib$Gauge" (3 : Nat) ({ cls := "java/lang/Object", name := "<init>", desc := "()V" } : Jvm.MethodName)) ∈ TB := tb_1 140 rfl rfl
theorem tw_1_141 : (Jvm.Cond.fieldLink "ToolCrib$Gauge" (9 : Nat) "ToolCrib$Gauge" "since" "I") ∈ TB := tb_1 141 rfl rfl
theorem tw_1_142 : (Jvm.Cond.fieldLink "ToolCrib" (231 : Nat) "ToolCrib$Gauge" "since" "I") ∈ TB := tb_1 142 rfl rfl
theorem tw_1_143 : (Jvm.Cond.fieldLink "ToolCrib" (234 : Nat) "ToolCrib$Gauge" "doubt" "I") ∈ TB := tb_1 143 rfl rfl
theorem tw_1_144 : (Jvm.Cond.lays "ToolCrib$Gauge" "ToolCrib$Gauge" "since" "I") ∈ TB := tb_1 144 rfl rfl
theorem tw_1_146 : (Jvm.Cond.lays "ToolCrib$Gauge" "ToolCrib$Gauge" "doubt" "I") ∈ TB := tb_1 146 rfl rfl
theorem tw_1_149 : (Jvm.Cond.methodLink "ToolCrib" (58 : Nat) ({ cls := "java/util/ArrayList", name := "add", desc := "(Ljava/lang/Object;)Z" } : Jvm.MethodName)) ∈ TB := tb_1 149 rfl rfl
theorem tw_1_150 : (Jvm.Cond.instanceMethod ({ cls := "java/util/ArrayList", name := "add", desc := "(Ljava/lang/Object;)Z" } : Jvm.MethodName)) ∈ TB := tb_1 150 rfl rfl
theorem tw_1_151 : (Jvm.Cond.selects "java/util/ArrayList" ({ cls := "java/util/ArrayList", name := "add", desc := "(Ljava/lang/Object;)Z" } : Jvm.MethodName) ({ cls := "java/util/ArrayList", name := "add", desc := "(Ljava/lang/Object;)Z" } : Jvm.MethodName)) ∈ TB := tb_1 151 rfl rfl
theorem tw_1_152 : (Jvm.Cond.code ({ cls := "java/util/ArrayList", name := "add", desc := "(Ljava/lang/Object;)Z" } : Jvm.MethodName) prog_26_method_25_code (2 : Nat) (Option.some Jvm.ClassFile.FieldType.boolean)) ∈ TB := tb_1 152 rfl rfl
theorem tw_1_153 : (Jvm.Cond.methodLink "java/util/ArrayList" (131 : Nat) ({ cls := "java/util/ArrayList", name := "add", desc := "(Ljava/lang/Object;[Ljava/lang/Object;I)V" } : Jvm.MethodName)) ∈ TB := tb_1 153 rfl rfl
theorem tw_1_155 : (Jvm.Cond.instanceMethod ({ cls := "java/util/ArrayList", name := "add", desc := "(Ljava/lang/Object;[Ljava/lang/Object;I)V" } : Jvm.MethodName)) ∈ TB := tb_1 155 rfl rfl
theorem tw_1_156 : (Jvm.Cond.code ({ cls := "java/util/ArrayList", name := "add", desc := "(Ljava/lang/Object;[Ljava/lang/Object;I)V" } : Jvm.MethodName) prog_26_method_24_code (4 : Nat) (Option.none : Option Jvm.ClassFile.FieldType)) ∈ TB := tb_1 156 rfl rfl
theorem tw_1_157 : (Jvm.Cond.methodLink "java/util/ArrayList" (129 : Nat) ({ cls := "java/util/ArrayList", name := "grow", desc := "()[Ljava/lang/Object;" } : Jvm.MethodName)) ∈ TB := tb_1 157 rfl rfl
theorem tw_1_159 : (Jvm.Cond.instanceMethod ({ cls := "java/util/ArrayList", name := "grow", desc := "()[Ljava/lang/Object;" } : Jvm.MethodName)) ∈ TB := tb_1 159 rfl rfl
theorem tw_1_160 : (Jvm.Cond.code ({ cls := "java/util/ArrayList", name := "grow", desc := "()[Ljava/lang/Object;" } : Jvm.MethodName) prog_26_method_7_code (1 : Nat) (Option.some (Jvm.ClassFile.FieldType.array (Jvm.ClassFile.FieldType.object "java/lang/Object")))) ∈ TB := tb_1 160 rfl rfl
theorem tw_1_161 : (Jvm.Cond.methodLink "java/util/ArrayList" (69 : Nat) ({ cls := "java/util/ArrayList", name := "grow", desc := "(I)[Ljava/lang/Object;" } : Jvm.MethodName)) ∈ TB := tb_1 161 rfl rfl
theorem tw_1_163 : (Jvm.Cond.instanceMethod ({ cls := "java/util/ArrayList", name := "grow", desc := "(I)[Ljava/lang/Object;" } : Jvm.MethodName)) ∈ TB := tb_1 163 rfl rfl
theorem tw_1_164 : (Jvm.Cond.code ({ cls := "java/util/ArrayList", name := "grow", desc := "(I)[Ljava/lang/Object;" } : Jvm.MethodName) prog_26_method_6_code (4 : Nat) (Option.some (Jvm.ClassFile.FieldType.array (Jvm.ClassFile.FieldType.object "java/lang/Object")))) ∈ TB := tb_1 164 rfl rfl
theorem tw_1_165 : (Jvm.Cond.methodLink "java/util/ArrayList" (73 : Nat) ({ cls := "jdk/internal/util/ArraysSupport", name := "newLength", desc := "(III)I" } : Jvm.MethodName)) ∈ TB := tb_1 165 rfl rfl
theorem tw_1_166 : (Jvm.Cond.static ({ cls := "jdk/internal/util/ArraysSupport", name := "newLength", desc := "(III)I" } : Jvm.MethodName)) ∈ TB := tb_1 166 rfl rfl
theorem tw_1_167 : (Jvm.Cond.code ({ cls := "jdk/internal/util/ArraysSupport", name := "newLength", desc := "(III)I" } : Jvm.MethodName) prog_33_method_27_code (4 : Nat) (Option.some Jvm.ClassFile.FieldType.int)) ∈ TB := tb_1 167 rfl rfl
theorem tw_1_168 : (Jvm.Cond.methodLink "jdk/internal/util/ArraysSupport" (194 : Nat) ({ cls := "java/lang/Math", name := "max", desc := "(II)I" } : Jvm.MethodName)) ∈ TB := tb_1 168 rfl rfl
theorem tw_1_169 : (Jvm.Cond.static ({ cls := "java/lang/Math", name := "max", desc := "(II)I" } : Jvm.MethodName)) ∈ TB := tb_1 169 rfl rfl
theorem tw_1_170 : (Jvm.Cond.code ({ cls := "java/lang/Math", name := "max", desc := "(II)I" } : Jvm.MethodName) prog_19_method_65_code (2 : Nat) (Option.some Jvm.ClassFile.FieldType.int)) ∈ TB := tb_1 170 rfl rfl
theorem tw_1_171 : (Jvm.Cond.constant "jdk/internal/util/ArraysSupport" (200 : Nat) (2147483639 : Int32)) ∈ TB := tb_1 171 rfl rfl
theorem tw_1_172 : (Jvm.Cond.methodLink "jdk/internal/util/ArraysSupport" (201 : Nat) ({ cls := "jdk/internal/util/ArraysSupport", name := "hugeLength", desc := "(II)I" } : Jvm.MethodName)) ∈ TB := tb_1 172 rfl rfl
theorem tw_1_173 : (Jvm.Cond.static ({ cls := "jdk/internal/util/ArraysSupport", name := "hugeLength", desc := "(II)I" } : Jvm.MethodName)) ∈ TB := tb_1 173 rfl rfl
theorem tw_1_174 : (Jvm.Cond.code ({ cls := "jdk/internal/util/ArraysSupport", name := "hugeLength", desc := "(II)I" } : Jvm.MethodName) prog_33_method_28_code (3 : Nat) (Option.some Jvm.ClassFile.FieldType.int)) ∈ TB := tb_1 174 rfl rfl
theorem tw_1_175 : (Jvm.Cond.methodLink "java/util/ArrayList" (66 : Nat) ({ cls := "java/util/Arrays", name := "copyOf", desc := "([Ljava/lang/Object;I)[Ljava/lang/Object;" } : Jvm.MethodName)) ∈ TB := tb_1 175 rfl rfl
theorem tw_1_176 : (Jvm.Cond.static ({ cls := "java/util/Arrays", name := "copyOf", desc := "([Ljava/lang/Object;I)[Ljava/lang/Object;" } : Jvm.MethodName)) ∈ TB := tb_1 176 rfl rfl
theorem tw_1_177 : (Jvm.Cond.code ({ cls := "java/util/Arrays", name := "copyOf", desc := "([Ljava/lang/Object;I)[Ljava/lang/Object;" } : Jvm.MethodName) prog_27_method_119_code (2 : Nat) (Option.some (Jvm.ClassFile.FieldType.array (Jvm.ClassFile.FieldType.object "java/lang/Object")))) ∈ TB := tb_1 177 rfl rfl
theorem tw_1_178 : (Jvm.Cond.methodLink "java/util/Arrays" (86 : Nat) ({ cls := "java/lang/Object", name := "getClass", desc := "()Ljava/lang/Class;" } : Jvm.MethodName)) ∈ TB := tb_1 178 rfl rfl
theorem tw_1_179 : (Jvm.Cond.instanceMethod ({ cls := "java/lang/Object", name := "getClass", desc := "()Ljava/lang/Class;" } : Jvm.MethodName)) ∈ TB := tb_1 179 rfl rfl
theorem tw_1_180 : (Jvm.Cond.sameMethod "java/lang/Object" "java/lang/Object" "getClass" "()Ljava/lang/Class;") ∈ TB := tb_1 180 rfl rfl
theorem tw_1_181 : (Jvm.Cond.selects "ToolCrib" ({ cls := "java/lang/Object", name := "getClass", desc := "()Ljava/lang/Class;" } : Jvm.MethodName) ({ cls := "java/lang/Object", name := "getClass", desc := "()Ljava/lang/Class;" } : Jvm.MethodName)) ∈ TB := tb_1 181 rfl rfl
theorem tw_1_182 : (Jvm.Cond.selects "ToolCrib$Drawing" ({ cls := "java/lang/Object", name := "getClass", desc := "()Ljava/lang/Class;" } : Jvm.MethodName) ({ cls := "java/lang/Object", name := "getClass", desc := "()Ljava/lang/Class;" } : Jvm.MethodName)) ∈ TB := tb_1 182 rfl rfl
theorem tw_1_183 : (Jvm.Cond.selects "ToolCrib$Gauge" ({ cls := "java/lang/Object", name := "getClass", desc := "()Ljava/lang/Class;" } : Jvm.MethodName) ({ cls := "java/lang/Object", name := "getClass", desc := "()Ljava/lang/Class;" } : Jvm.MethodName)) ∈ TB := tb_1 183 rfl rfl
theorem tw_1_184 : (Jvm.Cond.selects "ToolCrib$Pallet" ({ cls := "java/lang/Object", name := "getClass", desc := "()Ljava/lang/Class;" } : Jvm.MethodName) ({ cls := "java/lang/Object", name := "getClass", desc := "()Ljava/lang/Class;" } : Jvm.MethodName)) ∈ TB := tb_1 184 rfl rfl
theorem tw_1_185 : (Jvm.Cond.selects "ToolCrib$Paper" ({ cls := "java/lang/Object", name := "getClass", desc := "()Ljava/lang/Class;" } : Jvm.MethodName) ({ cls := "java/lang/Object", name := "getClass", desc := "()Ljava/lang/Class;" } : Jvm.MethodName)) ∈ TB := tb_1 185 rfl rfl
theorem tw_1_186 : (Jvm.Cond.selects "ToolCrib$Program" ({ cls := "java/lang/Object", name := "getClass", desc := "()Ljava/lang/Class;" } : Jvm.MethodName) ({ cls := "java/lang/Object", name := "getClass", desc := "()Ljava/lang/Class;" } : Jvm.MethodName)) ∈ TB := tb_1 186 rfl rfl
theorem tw_1_187 : (Jvm.Cond.selects "ToolCrib$Tool" ({ cls := "java/lang/Object", name := "getClass", desc := "()Ljava/lang/Class;" } : Jvm.MethodName) ({ cls := "java/lang/Object", name := "getClass", desc := "()Ljava/lang/Class;" } : Jvm.MethodName)) ∈ TB := tb_1 187 rfl rfl
theorem tw_1_188 : (Jvm.Cond.selects "ToolCrib$Trial" ({ cls := "java/lang/Object", name := "getClass", desc := "()Ljava/lang/Class;" } : Jvm.MethodName) ({ cls := "java/lang/Object", name := "getClass", desc := "()Ljava/lang/Class;" } : Jvm.MethodName)) ∈ TB := tb_1 188 rfl rfl
theorem tw_1_189 : (Jvm.Cond.selects "ToolCrib$Walk" ({ cls := "java/lang/Object", name := "getClass", desc := "()Ljava/lang/Class;" } : Jvm.MethodName) ({ cls := "java/lang/Object", name := "getClass", desc := "()Ljava/lang/Class;" } : Jvm.MethodName)) ∈ TB := tb_1 189 rfl rfl
theorem tw_1_190 : (Jvm.Cond.selects "ToolCribModel" ({ cls := "java/lang/Object", name := "getClass", desc := "()Ljava/lang/Class;" } : Jvm.MethodName) ({ cls := "java/lang/Object", name := "getClass", desc := "()Ljava/lang/Class;" } : Jvm.MethodName)) ∈ TB := tb_1 190 rfl rfl
theorem tw_1_191 : (Jvm.Cond.selects "java/lang/IllegalArgumentException" ({ cls := "java/lang/Object", name := "getClass", desc := "()Ljava/lang/Class;" } : Jvm.MethodName) ({ cls := "java/lang/Object", name := "getClass", desc := "()Ljava/lang/Class;" } : Jvm.MethodName)) ∈ TB := tb_1 191 rfl rfl
theorem tw_1_192 : (Jvm.Cond.selects "java/lang/IllegalStateException" ({ cls := "java/lang/Object", name := "getClass", desc := "()Ljava/lang/Class;" } : Jvm.MethodName) ({ cls := "java/lang/Object", name := "getClass", desc := "()Ljava/lang/Class;" } : Jvm.MethodName)) ∈ TB := tb_1 192 rfl rfl
theorem tw_1_193 : (Jvm.Cond.selects "java/lang/IndexOutOfBoundsException" ({ cls := "java/lang/Object", name := "getClass", desc := "()Ljava/lang/Class;" } : Jvm.MethodName) ({ cls := "java/lang/Object", name := "getClass", desc := "()Ljava/lang/Class;" } : Jvm.MethodName)) ∈ TB := tb_1 193 rfl rfl
theorem tw_1_194 : (Jvm.Cond.selects "java/util/ArrayList" ({ cls := "java/lang/Object", name := "getClass", desc := "()Ljava/lang/Class;" } : Jvm.MethodName) ({ cls := "java/lang/Object", name := "getClass", desc := "()Ljava/lang/Class;" } : Jvm.MethodName)) ∈ TB := tb_1 194 rfl rfl
theorem tw_1_195 : (Jvm.Cond.native ({ cls := "java/lang/Object", name := "getClass", desc := "()Ljava/lang/Class;" } : Jvm.MethodName)) ∈ TB := tb_1 195 rfl rfl
theorem tw_1_196 : (Jvm.Cond.methodLink "java/util/Arrays" (300 : Nat) ({ cls := "java/util/Arrays", name := "copyOf", desc := "([Ljava/lang/Object;ILjava/lang/Class;)[Ljava/lang/Object;" } : Jvm.MethodName)) ∈ TB := tb_1 196 rfl rfl
theorem tw_1_197 : (Jvm.Cond.static ({ cls := "java/util/Arrays", name := "copyOf", desc := "([Ljava/lang/Object;ILjava/lang/Class;)[Ljava/lang/Object;" } : Jvm.MethodName)) ∈ TB := tb_1 197 rfl rfl
theorem tw_1_198 : (Jvm.Cond.code ({ cls := "java/util/Arrays", name := "copyOf", desc := "([Ljava/lang/Object;ILjava/lang/Class;)[Ljava/lang/Object;" } : Jvm.MethodName) prog_27_method_120_code (4 : Nat) (Option.some (Jvm.ClassFile.FieldType.array (Jvm.ClassFile.FieldType.object "java/lang/Object")))) ∈ TB := tb_1 198 rfl rfl
theorem tw_1_199 : (Jvm.Cond.classLink "java/util/Arrays" (110 : Nat) "[Ljava/lang/Object;") ∈ TB := tb_1 199 rfl rfl
theorem tw_1_201 : (Jvm.Cond.classLink "java/util/Arrays" (2 : Nat) "java/lang/Object") ∈ TB := tb_1 201 rfl rfl
theorem tw_1_202 : (Jvm.Cond.methodLink "java/util/Arrays" (304 : Nat) ({ cls := "java/lang/Math", name := "min", desc := "(II)I" } : Jvm.MethodName)) ∈ TB := tb_1 202 rfl rfl
theorem tw_1_203 : (Jvm.Cond.static ({ cls := "java/lang/Math", name := "min", desc := "(II)I" } : Jvm.MethodName)) ∈ TB := tb_1 203 rfl rfl
theorem tw_1_204 : (Jvm.Cond.code ({ cls := "java/lang/Math", name := "min", desc := "(II)I" } : Jvm.MethodName) prog_19_method_69_code (2 : Nat) (Option.some Jvm.ClassFile.FieldType.int)) ∈ TB := tb_1 204 rfl rfl
theorem tw_1_205 : (Jvm.Cond.methodLink "java/util/Arrays" (150 : Nat) ({ cls := "java/lang/System", name := "arraycopy", desc := "(Ljava/lang/Object;ILjava/lang/Object;II)V" } : Jvm.MethodName)) ∈ TB := tb_1 205 rfl rfl
theorem tw_1_206 : (Jvm.Cond.static ({ cls := "java/lang/System", name := "arraycopy", desc := "(Ljava/lang/Object;ILjava/lang/Object;II)V" } : Jvm.MethodName)) ∈ TB := tb_1 206 rfl rfl
theorem tw_1_207 : (Jvm.Cond.native ({ cls := "java/lang/System", name := "arraycopy", desc := "(Ljava/lang/Object;ILjava/lang/Object;II)V" } : Jvm.MethodName)) ∈ TB := tb_1 207 rfl rfl
theorem tw_1_208 : (Jvm.Cond.methodLink "java/util/ArrayList" (79 : Nat) ({ cls := "java/lang/Math", name := "max", desc := "(II)I" } : Jvm.MethodName)) ∈ TB := tb_1 208 rfl rfl
theorem tw_1_209 : (Jvm.Cond.classLink "java/util/ArrayList" (7 : Nat) "java/lang/Object") ∈ TB := tb_1 209 rfl rfl
theorem tw_1_210 : (Jvm.Cond.fieldLink "ToolCrib" (12 : Nat) "ToolCrib" "tools" "Ljava/util/ArrayList;") ∈ TB := tb_1 210 rfl rfl
theorem tw_1_211 : (Jvm.Cond.fieldLink "ToolCrib" (16 : Nat) "ToolCrib" "pallets" "Ljava/util/ArrayList;") ∈ TB := tb_1 211 rfl rfl
theorem tw_1_212 : (Jvm.Cond.fieldLink "ToolCrib" (19 : Nat) "ToolCrib" "queue" "Ljava/util/ArrayList;") ∈ TB := tb_1 212 rfl rfl
theorem tw_1_213 : (Jvm.Cond.fieldLink "ToolCrib" (22 : Nat) "ToolCrib" "gauges" "Ljava/util/ArrayList;") ∈ TB := tb_1 213 rfl rfl
theorem tw_1_214 : (Jvm.Cond.fieldLink "ToolCrib" (25 : Nat) "ToolCrib" "drawings" "Ljava/util/ArrayList;") ∈ TB := tb_1 214 rfl rfl
theorem tw_1_215 : (Jvm.Cond.fieldLink "ToolCrib" (28 : Nat) "ToolCrib" "papers" "Ljava/util/ArrayList;") ∈ TB := tb_1 215 rfl rfl
theorem tw_1_216 : (Jvm.Cond.fieldLink "ToolCrib" (31 : Nat) "ToolCrib" "mapErrors" "[I") ∈ TB := tb_1 216 rfl rfl
theorem tw_1_217 : (Jvm.Cond.fieldLink "ToolCrib" (35 : Nat) "ToolCrib" "errorParts" "[I") ∈ TB := tb_1 217 rfl rfl
theorem tw_1_218 : (Jvm.Cond.fieldLink "ToolCrib" (38 : Nat) "ToolCrib" "livesLeft" "[I") ∈ TB := tb_1 218 rfl rfl
theorem tw_1_219 : (Jvm.Cond.fieldLink "ToolCrib" (44 : Nat) "ToolCrib" "walk" "LToolCrib$Walk;") ∈ TB := tb_1 219 rfl rfl
theorem tw_1_220 : (Jvm.Cond.fieldLink "ToolCrib" (51 : Nat) "ToolCrib" "trial" "LToolCrib$Trial;") ∈ TB := tb_1 220 rfl rfl
theorem tw_1_221 : (Jvm.Cond.fieldLink "ToolCrib" (216 : Nat) "ToolCrib" "now" "I") ∈ TB := tb_1 221 rfl rfl
theorem tw_1_222 : (Jvm.Cond.fieldLink "ToolCrib" (222 : Nat) "ToolCrib" "heat" "I") ∈ TB := tb_1 222 rfl rfl
theorem tw_1_223 : (Jvm.Cond.laysFinal "ToolCrib" "ToolCrib" "tools" "Ljava/util/ArrayList;") ∈ TB := tb_1 223 rfl rfl
theorem tw_1_225 : (Jvm.Cond.laysFinal "ToolCrib" "ToolCrib" "pallets" "Ljava/util/ArrayList;") ∈ TB := tb_1 225 rfl rfl
theorem tw_1_227 : (Jvm.Cond.laysFinal "ToolCrib" "ToolCrib" "queue" "Ljava/util/ArrayList;") ∈ TB := tb_1 227 rfl rfl
theorem tw_1_229 : (Jvm.Cond.laysFinal "ToolCrib" "ToolCrib" "gauges" "Ljava/util/ArrayList;") ∈ TB := tb_1 229 rfl rfl
theorem tw_1_231 : (Jvm.Cond.laysFinal "ToolCrib" "ToolCrib" "drawings" "Ljava/util/ArrayList;") ∈ TB := tb_1 231 rfl rfl
theorem tw_1_233 : (Jvm.Cond.laysFinal "ToolCrib" "ToolCrib" "papers" "Ljava/util/ArrayList;") ∈ TB := tb_1 233 rfl rfl
theorem tw_1_235 : (Jvm.Cond.laysFinal "ToolCrib" "ToolCrib" "mapErrors" "[I") ∈ TB := tb_1 235 rfl rfl
theorem tw_1_237 : (Jvm.Cond.laysFinal "ToolCrib" "ToolCrib" "errorParts" "[I") ∈ TB := tb_1 237 rfl rfl
theorem tw_1_239 : (Jvm.Cond.laysFinal "ToolCrib" "ToolCrib" "livesLeft" "[I") ∈ TB := tb_1 239 rfl rfl
theorem tw_2_1 : (Jvm.Cond.laysFinal "ToolCrib" "ToolCrib" "walk" "LToolCrib$Walk;") ∈ TB := tb_2 1 rfl rfl
theorem tw_2_3 : (Jvm.Cond.laysFinal "ToolCrib" "ToolCrib" "trial" "LToolCrib$Trial;") ∈ TB := tb_2 3 rfl rfl
theorem tw_2_5 : (Jvm.Cond.lays "ToolCrib" "ToolCrib" "now" "I") ∈ TB := tb_2 5 rfl rfl
theorem tw_2_7 : (Jvm.Cond.lays "ToolCrib" "ToolCrib" "heat" "I") ∈ TB := tb_2 7 rfl rfl
theorem tw_2_10 : (Jvm.Cond.methodLink "ToolCribLaw" (136 : Nat) ({ cls := "ToolCrib", name := "night", desc := "()I" } : Jvm.MethodName)) ∈ TB := tb_2 10 rfl rfl
theorem tw_2_11 : (Jvm.Cond.instanceMethod ({ cls := "ToolCrib", name := "night", desc := "()I" } : Jvm.MethodName)) ∈ TB := tb_2 11 rfl rfl
theorem tw_2_12 : (Jvm.Cond.selects "ToolCrib" ({ cls := "ToolCrib", name := "night", desc := "()I" } : Jvm.MethodName) ({ cls := "ToolCrib", name := "night", desc := "()I" } : Jvm.MethodName)) ∈ TB := tb_2 12 rfl rfl
theorem tw_2_13 : (Jvm.Cond.code ({ cls := "ToolCrib", name := "night", desc := "()I" } : Jvm.MethodName) prog_1_method_12_code (4 : Nat) (Option.some Jvm.ClassFile.FieldType.int)) ∈ TB := tb_2 13 rfl rfl
theorem tw_2_14 : (Jvm.Cond.methodLink "ToolCrib" (95 : Nat) ({ cls := "java/util/ArrayList", name := "isEmpty", desc := "()Z" } : Jvm.MethodName)) ∈ TB := tb_2 14 rfl rfl
theorem tw_2_15 : (Jvm.Cond.instanceMethod ({ cls := "java/util/ArrayList", name := "isEmpty", desc := "()Z" } : Jvm.MethodName)) ∈ TB := tb_2 15 rfl rfl
theorem tw_2_16 : (Jvm.Cond.selects "java/util/ArrayList" ({ cls := "java/util/ArrayList", name := "isEmpty", desc := "()Z" } : Jvm.MethodName) ({ cls := "java/util/ArrayList", name := "isEmpty", desc := "()Z" } : Jvm.MethodName)) ∈ TB := tb_2 16 rfl rfl
theorem tw_2_17 : (Jvm.Cond.code ({ cls := "java/util/ArrayList", name := "isEmpty", desc := "()Z" } : Jvm.MethodName) prog_26_method_9_code (1 : Nat) (Option.some Jvm.ClassFile.FieldType.boolean)) ∈ TB := tb_2 17 rfl rfl
theorem tw_2_18 : (Jvm.Cond.methodLink "ToolCrib" (179 : Nat) ({ cls := "java/util/ArrayList", name := "get", desc := "(I)Ljava/lang/Object;" } : Jvm.MethodName)) ∈ TB := tb_2 18 rfl rfl
theorem tw_2_19 : (Jvm.Cond.instanceMethod ({ cls := "java/util/ArrayList", name := "get", desc := "(I)Ljava/lang/Object;" } : Jvm.MethodName)) ∈ TB := tb_2 19 rfl rfl
theorem tw_2_20 : (Jvm.Cond.selects "java/util/ArrayList" ({ cls := "java/util/ArrayList", name := "get", desc := "(I)Ljava/lang/Object;" } : Jvm.MethodName) ({ cls := "java/util/ArrayList", name := "get", desc := "(I)Ljava/lang/Object;" } : Jvm.MethodName)) ∈ TB := tb_2 20 rfl rfl
theorem tw_2_21 : (Jvm.Cond.code ({ cls := "java/util/ArrayList", name := "get", desc := "(I)Ljava/lang/Object;" } : Jvm.MethodName) prog_26_method_20_code (2 : Nat) (Option.some (Jvm.ClassFile.FieldType.object "java/lang/Object"))) ∈ TB := tb_2 21 rfl rfl
theorem tw_2_22 : (Jvm.Cond.methodLink "java/util/ArrayList" (118 : Nat) ({ cls := "java/util/Objects", name := "checkIndex", desc := "(II)I" } : Jvm.MethodName)) ∈ TB := tb_2 22 rfl rfl
theorem tw_2_23 : (Jvm.Cond.static ({ cls := "java/util/Objects", name := "checkIndex", desc := "(II)I" } : Jvm.MethodName)) ∈ TB := tb_2 23 rfl rfl
theorem tw_2_24 : (Jvm.Cond.code ({ cls := "java/util/Objects", name := "checkIndex", desc := "(II)I" } : Jvm.MethodName) prog_30_method_17_code (2 : Nat) (Option.some Jvm.ClassFile.FieldType.int)) ∈ TB := tb_2 24 rfl rfl
theorem tw_2_25 : (Jvm.Cond.methodLink "java/util/Objects" (105 : Nat) ({ cls := "jdk/internal/util/Preconditions", name := "checkIndex", desc := "(IILjava/util/function/BiFunction;)I" } : Jvm.MethodName)) ∈ TB := tb_2 25 rfl rfl
theorem tw_2_26 : (Jvm.Cond.static ({ cls := "jdk/internal/util/Preconditions", name := "checkIndex", desc := "(IILjava/util/function/BiFunction;)I" } : Jvm.MethodName)) ∈ TB := tb_2 26 rfl rfl
theorem tw_2_27 : (Jvm.Cond.code ({ cls := "jdk/internal/util/Preconditions", name := "checkIndex", desc := "(IILjava/util/function/BiFunction;)I" } : Jvm.MethodName) prog_34_method_11_code (3 : Nat) (Option.some Jvm.ClassFile.FieldType.int)) ∈ TB := tb_2 27 rfl rfl
theorem tw_2_28 : (Jvm.Cond.methodLink "java/util/ArrayList" (123 : Nat) ({ cls := "java/util/ArrayList", name := "elementData", desc := "(I)Ljava/lang/Object;" } : Jvm.MethodName)) ∈ TB := tb_2 28 rfl rfl
theorem tw_2_29 : (Jvm.Cond.instanceMethod ({ cls := "java/util/ArrayList", name := "elementData", desc := "(I)Ljava/lang/Object;" } : Jvm.MethodName)) ∈ TB := tb_2 29 rfl rfl
theorem tw_2_30 : (Jvm.Cond.selects "java/util/ArrayList" ({ cls := "java/util/ArrayList", name := "elementData", desc := "(I)Ljava/lang/Object;" } : Jvm.MethodName) ({ cls := "java/util/ArrayList", name := "elementData", desc := "(I)Ljava/lang/Object;" } : Jvm.MethodName)) ∈ TB := tb_2 30 rfl rfl
theorem tw_2_31 : (Jvm.Cond.code ({ cls := "java/util/ArrayList", name := "elementData", desc := "(I)Ljava/lang/Object;" } : Jvm.MethodName) prog_26_method_18_code (2 : Nat) (Option.some (Jvm.ClassFile.FieldType.object "java/lang/Object"))) ∈ TB := tb_2 31 rfl rfl
theorem tw_2_32 : (Jvm.Cond.classLink "ToolCrib" (136 : Nat) "ToolCrib$Pallet") ∈ TB := tb_2 32 rfl rfl
theorem tw_2_33 : (Jvm.Cond.methodLink "ToolCrib" (183 : Nat) ({ cls := "ToolCrib", name := "isCutToEnd", desc := "(LToolCrib$Pallet;)Z" } : Jvm.MethodName)) ∈ TB := tb_2 33 rfl rfl
theorem tw_2_35 : (Jvm.Cond.instanceMethod ({ cls := "ToolCrib", name := "isCutToEnd", desc := "(LToolCrib$Pallet;)Z" } : Jvm.MethodName)) ∈ TB := tb_2 35 rfl rfl
theorem tw_2_36 : (Jvm.Cond.code ({ cls := "ToolCrib", name := "isCutToEnd", desc := "(LToolCrib$Pallet;)Z" } : Jvm.MethodName) prog_1_method_45_code (5 : Nat) (Option.some Jvm.ClassFile.FieldType.boolean)) ∈ TB := tb_2 36 rfl rfl
theorem tw_2_37 : (Jvm.Cond.methodLink "ToolCrib" (371 : Nat) ({ cls := "ToolCrib$Walk", name := "begin", desc := "(I)V" } : Jvm.MethodName)) ∈ TB := tb_2 37 rfl rfl
theorem tw_2_38 : (Jvm.Cond.instanceMethod ({ cls := "ToolCrib$Walk", name := "begin", desc := "(I)V" } : Jvm.MethodName)) ∈ TB := tb_2 38 rfl rfl
theorem tw_2_39 : (Jvm.Cond.selects "ToolCrib$Walk" ({ cls := "ToolCrib$Walk", name := "begin", desc := "(I)V" } : Jvm.MethodName) ({ cls := "ToolCrib$Walk", name := "begin", desc := "(I)V" } : Jvm.MethodName)) ∈ TB := tb_2 39 rfl rfl
theorem tw_2_40 : (Jvm.Cond.code ({ cls := "ToolCrib$Walk", name := "begin", desc := "(I)V" } : Jvm.MethodName) prog_9_method_2_code (2 : Nat) (Option.none : Option Jvm.ClassFile.FieldType)) ∈ TB := tb_2 40 rfl rfl
theorem tw_2_41 : (Jvm.Cond.methodLink "ToolCrib$Walk" (28 : Nat) ({ cls := "java/util/ArrayList", name := "clear", desc := "()V" } : Jvm.MethodName)) ∈ TB := tb_2 41 rfl rfl
theorem tw_2_42 : (Jvm.Cond.instanceMethod ({ cls := "java/util/ArrayList", name := "clear", desc := "()V" } : Jvm.MethodName)) ∈ TB := tb_2 42 rfl rfl
theorem tw_2_43 : (Jvm.Cond.selects "java/util/ArrayList" ({ cls := "java/util/ArrayList", name := "clear", desc := "()V" } : Jvm.MethodName) ({ cls := "java/util/ArrayList", name := "clear", desc := "()V" } : Jvm.MethodName)) ∈ TB := tb_2 43 rfl rfl
theorem tw_2_44 : (Jvm.Cond.code ({ cls := "java/util/ArrayList", name := "clear", desc := "()V" } : Jvm.MethodName) prog_26_method_40_code (4 : Nat) (Option.none : Option Jvm.ClassFile.FieldType)) ∈ TB := tb_2 44 rfl rfl
theorem tw_2_45 : (Jvm.Cond.methodLink "ToolCrib$Walk" (54 : Nat) ({ cls := "ToolCrib$Walk", name := "enter", desc := "(I)V" } : Jvm.MethodName)) ∈ TB := tb_2 45 rfl rfl
theorem tw_2_47 : (Jvm.Cond.instanceMethod ({ cls := "ToolCrib$Walk", name := "enter", desc := "(I)V" } : Jvm.MethodName)) ∈ TB := tb_2 47 rfl rfl
theorem tw_2_48 : (Jvm.Cond.code ({ cls := "ToolCrib$Walk", name := "enter", desc := "(I)V" } : Jvm.MethodName) prog_9_method_10_code (3 : Nat) (Option.none : Option Jvm.ClassFile.FieldType)) ∈ TB := tb_2 48 rfl rfl
theorem tw_2_49 : (Jvm.Cond.methodLink "ToolCrib$Walk" (65 : Nat) ({ cls := "java/util/ArrayList", name := "size", desc := "()I" } : Jvm.MethodName)) ∈ TB := tb_2 49 rfl rfl
theorem tw_2_50 : (Jvm.Cond.instanceMethod ({ cls := "java/util/ArrayList", name := "size", desc := "()I" } : Jvm.MethodName)) ∈ TB := tb_2 50 rfl rfl
theorem tw_2_51 : (Jvm.Cond.selects "java/util/ArrayList" ({ cls := "java/util/ArrayList", name := "size", desc := "()I" } : Jvm.MethodName) ({ cls := "java/util/ArrayList", name := "size", desc := "()I" } : Jvm.MethodName)) ∈ TB := tb_2 51 rfl rfl
theorem tw_2_52 : (Jvm.Cond.code ({ cls := "java/util/ArrayList", name := "size", desc := "()I" } : Jvm.MethodName) prog_26_method_8_code (1 : Nat) (Option.some Jvm.ClassFile.FieldType.int)) ∈ TB := tb_2 52 rfl rfl
theorem tw_2_53 : (Jvm.Cond.methodLink "ToolCrib$Walk" (75 : Nat) ({ cls := "java/util/ArrayList", name := "get", desc := "(I)Ljava/lang/Object;" } : Jvm.MethodName)) ∈ TB := tb_2 53 rfl rfl
theorem tw_2_54 : (Jvm.Cond.classLink "ToolCrib$Walk" (79 : Nat) "ToolCrib$Program") ∈ TB := tb_2 54 rfl rfl
theorem tw_2_55 : (Jvm.Cond.methodLink "ToolCrib$Walk" (99 : Nat) ({ cls := "java/util/ArrayList", name := "add", desc := "(Ljava/lang/Object;)Z" } : Jvm.MethodName)) ∈ TB := tb_2 55 rfl rfl
theorem tw_2_56 : (Jvm.Cond.methodLink "ToolCrib" (374 : Nat) ({ cls := "ToolCrib$Walk", name := "goStep", desc := "()Z" } : Jvm.MethodName)) ∈ TB := tb_2 56 rfl rfl
theorem tw_2_57 : (Jvm.Cond.instanceMethod ({ cls := "ToolCrib$Walk", name := "goStep", desc := "()Z" } : Jvm.MethodName)) ∈ TB := tb_2 57 rfl rfl
theorem tw_2_58 : (Jvm.Cond.selects "ToolCrib$Walk" ({ cls := "ToolCrib$Walk", name := "goStep", desc := "()Z" } : Jvm.MethodName) ({ cls := "ToolCrib$Walk", name := "goStep", desc := "()Z" } : Jvm.MethodName)) ∈ TB := tb_2 58 rfl rfl
theorem tw_2_59 : (Jvm.Cond.code ({ cls := "ToolCrib$Walk", name := "goStep", desc := "()Z" } : Jvm.MethodName) prog_9_method_3_code (2 : Nat) (Option.some Jvm.ClassFile.FieldType.boolean)) ∈ TB := tb_2 59 rfl rfl
theorem tw_2_60 : (Jvm.Cond.methodLink "ToolCrib$Walk" (58 : Nat) ({ cls := "ToolCrib$Walk", name := "leaveEnded", desc := "()V" } : Jvm.MethodName)) ∈ TB := tb_2 60 rfl rfl
theorem tw_2_62 : (Jvm.Cond.instanceMethod ({ cls := "ToolCrib$Walk", name := "leaveEnded", desc := "()V" } : Jvm.MethodName)) ∈ TB := tb_2 62 rfl rfl
theorem tw_2_63 : (Jvm.Cond.code ({ cls := "ToolCrib$Walk", name := "leaveEnded", desc := "()V" } : Jvm.MethodName) prog_9_method_7_code (2 : Nat) (Option.none : Option Jvm.ClassFile.FieldType)) ∈ TB := tb_2 63 rfl rfl
theorem tw_2_64 : (Jvm.Cond.methodLink "ToolCrib$Walk" (83 : Nat) ({ cls := "java/util/ArrayList", name := "remove", desc := "(I)Ljava/lang/Object;" } : Jvm.MethodName)) ∈ TB := tb_2 64 rfl rfl
theorem tw_2_65 : (Jvm.Cond.instanceMethod ({ cls := "java/util/ArrayList", name := "remove", desc := "(I)Ljava/lang/Object;" } : Jvm.MethodName)) ∈ TB := tb_2 65 rfl rfl
theorem tw_2_66 : (Jvm.Cond.selects "java/util/ArrayList" ({ cls := "java/util/ArrayList", name := "remove", desc := "(I)Ljava/lang/Object;" } : Jvm.MethodName) ({ cls := "java/util/ArrayList", name := "remove", desc := "(I)Ljava/lang/Object;" } : Jvm.MethodName)) ∈ TB := tb_2 66 rfl rfl
theorem tw_2_67 : (Jvm.Cond.code ({ cls := "java/util/ArrayList", name := "remove", desc := "(I)Ljava/lang/Object;" } : Jvm.MethodName) prog_26_method_29_code (4 : Nat) (Option.some (Jvm.ClassFile.FieldType.object "java/lang/Object"))) ∈ TB := tb_2 67 rfl rfl
theorem tw_2_68 : (Jvm.Cond.methodLink "java/util/ArrayList" (144 : Nat) ({ cls := "java/util/ArrayList", name := "fastRemove", desc := "([Ljava/lang/Object;I)V" } : Jvm.MethodName)) ∈ TB := tb_2 68 rfl rfl
theorem tw_2_70 : (Jvm.Cond.instanceMethod ({ cls := "java/util/ArrayList", name := "fastRemove", desc := "([Ljava/lang/Object;I)V" } : Jvm.MethodName)) ∈ TB := tb_2 70 rfl rfl
theorem tw_2_71 : (Jvm.Cond.code ({ cls := "java/util/ArrayList", name := "fastRemove", desc := "([Ljava/lang/Object;I)V" } : Jvm.MethodName) prog_26_method_39_code (4 : Nat) (Option.none : Option Jvm.ClassFile.FieldType)) ∈ TB := tb_2 71 rfl rfl
theorem tw_2_72 : (Jvm.Cond.methodLink "java/util/ArrayList" (112 : Nat) ({ cls := "java/lang/System", name := "arraycopy", desc := "(Ljava/lang/Object;ILjava/lang/Object;II)V" } : Jvm.MethodName)) ∈ TB := tb_2 72 rfl rfl
theorem tw_2_73 : (Jvm.Cond.methodLink "ToolCrib$Walk" (61 : Nat) ({ cls := "java/util/ArrayList", name := "isEmpty", desc := "()Z" } : Jvm.MethodName)) ∈ TB := tb_2 73 rfl rfl
theorem tw_2_74 : (Jvm.Cond.methodLink "ToolCrib$Walk" (69 : Nat) ({ cls := "ToolCrib$Walk", name := "obeyNext", desc := "(I)V" } : Jvm.MethodName)) ∈ TB := tb_2 74 rfl rfl
theorem tw_2_76 : (Jvm.Cond.instanceMethod ({ cls := "ToolCrib$Walk", name := "obeyNext", desc := "(I)V" } : Jvm.MethodName)) ∈ TB := tb_2 76 rfl rfl
theorem tw_2_77 : (Jvm.Cond.code ({ cls := "ToolCrib$Walk", name := "obeyNext", desc := "(I)V" } : Jvm.MethodName) prog_9_method_8_code (4 : Nat) (Option.none : Option Jvm.ClassFile.FieldType)) ∈ TB := tb_2 77 rfl rfl
theorem tw_2_78 : (Jvm.Cond.methodLink "ToolCrib$Walk" (92 : Nat) ({ cls := "ToolCrib$Walk", name := "aim", desc := "(III)V" } : Jvm.MethodName)) ∈ TB := tb_2 78 rfl rfl
theorem tw_2_80 : (Jvm.Cond.instanceMethod ({ cls := "ToolCrib$Walk", name := "aim", desc := "(III)V" } : Jvm.MethodName)) ∈ TB := tb_2 80 rfl rfl
theorem tw_2_81 : (Jvm.Cond.code ({ cls := "ToolCrib$Walk", name := "aim", desc := "(III)V" } : Jvm.MethodName) prog_9_method_11_code (5 : Nat) (Option.none : Option Jvm.ClassFile.FieldType)) ∈ TB := tb_2 81 rfl rfl
theorem tw_2_82 : (Jvm.Cond.methodLink "ToolCrib$Walk" (96 : Nat) ({ cls := "ToolCrib$Walk", name := "changeTool", desc := "(I)V" } : Jvm.MethodName)) ∈ TB := tb_2 82 rfl rfl
theorem tw_2_84 : (Jvm.Cond.instanceMethod ({ cls := "ToolCrib$Walk", name := "changeTool", desc := "(I)V" } : Jvm.MethodName)) ∈ TB := tb_2 84 rfl rfl
theorem tw_2_85 : (Jvm.Cond.code ({ cls := "ToolCrib$Walk", name := "changeTool", desc := "(I)V" } : Jvm.MethodName) prog_9_method_9_code (2 : Nat) (Option.none : Option Jvm.ClassFile.FieldType)) ∈ TB := tb_2 85 rfl rfl
theorem tw_2_86 : (Jvm.Cond.methodLink "ToolCrib" (377 : Nat) ({ cls := "ToolCrib$Walk", name := "isBelow", desc := "([I)Z" } : Jvm.MethodName)) ∈ TB := tb_2 86 rfl rfl
theorem tw_2_87 : (Jvm.Cond.instanceMethod ({ cls := "ToolCrib$Walk", name := "isBelow", desc := "([I)Z" } : Jvm.MethodName)) ∈ TB := tb_2 87 rfl rfl
theorem tw_2_88 : (Jvm.Cond.selects "ToolCrib$Walk" ({ cls := "ToolCrib$Walk", name := "isBelow", desc := "([I)Z" } : Jvm.MethodName) ({ cls := "ToolCrib$Walk", name := "isBelow", desc := "([I)Z" } : Jvm.MethodName)) ∈ TB := tb_2 88 rfl rfl
theorem tw_2_89 : (Jvm.Cond.code ({ cls := "ToolCrib$Walk", name := "isBelow", desc := "([I)Z" } : Jvm.MethodName) prog_9_method_5_code (2 : Nat) (Option.some Jvm.ClassFile.FieldType.boolean)) ∈ TB := tb_2 89 rfl rfl
theorem tw_2_90 : (Jvm.Cond.methodLink "ToolCrib$Walk" (72 : Nat) ({ cls := "ToolCrib$Walk", name := "cellNow", desc := "()I" } : Jvm.MethodName)) ∈ TB := tb_2 90 rfl rfl
theorem tw_2_91 : (Jvm.Cond.instanceMethod ({ cls := "ToolCrib$Walk", name := "cellNow", desc := "()I" } : Jvm.MethodName)) ∈ TB := tb_2 91 rfl rfl
theorem tw_2_92 : (Jvm.Cond.selects "ToolCrib$Walk" ({ cls := "ToolCrib$Walk", name := "cellNow", desc := "()I" } : Jvm.MethodName) ({ cls := "ToolCrib$Walk", name := "cellNow", desc := "()I" } : Jvm.MethodName)) ∈ TB := tb_2 92 rfl rfl
theorem tw_2_93 : (Jvm.Cond.code ({ cls := "ToolCrib$Walk", name := "cellNow", desc := "()I" } : Jvm.MethodName) prog_9_method_4_code (1 : Nat) (Option.some Jvm.ClassFile.FieldType.int)) ∈ TB := tb_2 93 rfl rfl
theorem tw_2_94 : (Jvm.Cond.methodLink "ToolCrib" (382 : Nat) ({ cls := "ToolCrib", name := "lowestToolFor", desc := "(I)LToolCrib$Tool;" } : Jvm.MethodName)) ∈ TB := tb_2 94 rfl rfl
theorem tw_2_96 : (Jvm.Cond.instanceMethod ({ cls := "ToolCrib", name := "lowestToolFor", desc := "(I)LToolCrib$Tool;" } : Jvm.MethodName)) ∈ TB := tb_2 96 rfl rfl
theorem tw_2_97 : (Jvm.Cond.code ({ cls := "ToolCrib", name := "lowestToolFor", desc := "(I)LToolCrib$Tool;" } : Jvm.MethodName) prog_1_method_41_code (3 : Nat) (Option.some (Jvm.ClassFile.FieldType.object "ToolCrib$Tool"))) ∈ TB := tb_2 97 rfl rfl
theorem tw_2_98 : (Jvm.Cond.methodLink "ToolCrib" (65 : Nat) ({ cls := "java/util/ArrayList", name := "size", desc := "()I" } : Jvm.MethodName)) ∈ TB := tb_2 98 rfl rfl
theorem tw_2_99 : (Jvm.Cond.classLink "ToolCrib" (114 : Nat) "ToolCrib$Tool") ∈ TB := tb_2 99 rfl rfl
theorem tw_2_100 : (Jvm.Cond.methodLink "ToolCrib" (365 : Nat) ({ cls := "ToolCrib$Tool", name := "leftFor", desc := "(I)I" } : Jvm.MethodName)) ∈ TB := tb_2 100 rfl rfl
theorem tw_2_101 : (Jvm.Cond.instanceMethod ({ cls := "ToolCrib$Tool", name := "leftFor", desc := "(I)I" } : Jvm.MethodName)) ∈ TB := tb_2 101 rfl rfl
theorem tw_2_102 : (Jvm.Cond.selects "ToolCrib$Tool" ({ cls := "ToolCrib$Tool", name := "leftFor", desc := "(I)I" } : Jvm.MethodName) ({ cls := "ToolCrib$Tool", name := "leftFor", desc := "(I)I" } : Jvm.MethodName)) ∈ TB := tb_2 102 rfl rfl
theorem tw_2_103 : (Jvm.Cond.code ({ cls := "ToolCrib$Tool", name := "leftFor", desc := "(I)I" } : Jvm.MethodName) prog_7_method_2_code (2 : Nat) (Option.some Jvm.ClassFile.FieldType.int)) ∈ TB := tb_2 103 rfl rfl
theorem tw_2_104 : (Jvm.Cond.methodLink "ToolCrib" (385 : Nat) ({ cls := "ToolCrib", name := "cutBy", desc := "(LToolCrib$Tool;LToolCrib$Pallet;)V" } : Jvm.MethodName)) ∈ TB := tb_2 104 rfl rfl
theorem tw_2_106 : (Jvm.Cond.instanceMethod ({ cls := "ToolCrib", name := "cutBy", desc := "(LToolCrib$Tool;LToolCrib$Pallet;)V" } : Jvm.MethodName)) ∈ TB := tb_2 106 rfl rfl
theorem tw_2_107 : (Jvm.Cond.code ({ cls := "ToolCrib", name := "cutBy", desc := "(LToolCrib$Tool;LToolCrib$Pallet;)V" } : Jvm.MethodName) prog_1_method_46_code (6 : Nat) (Option.none : Option Jvm.ClassFile.FieldType)) ∈ TB := tb_2 107 rfl rfl
theorem tw_2_108 : (Jvm.Cond.methodLink "ToolCrib" (389 : Nat) ({ cls := "ToolCrib$Walk", name := "cellNow", desc := "()I" } : Jvm.MethodName)) ∈ TB := tb_2 108 rfl rfl
theorem tw_2_109 : (Jvm.Cond.methodLink "ToolCrib" (398 : Nat) ({ cls := "ToolCrib", name := "greatestPart", desc := "()I" } : Jvm.MethodName)) ∈ TB := tb_2 109 rfl rfl
theorem tw_2_111 : (Jvm.Cond.instanceMethod ({ cls := "ToolCrib", name := "greatestPart", desc := "()I" } : Jvm.MethodName)) ∈ TB := tb_2 111 rfl rfl
theorem tw_2_112 : (Jvm.Cond.code ({ cls := "ToolCrib", name := "greatestPart", desc := "()I" } : Jvm.MethodName) prog_1_method_47_code (4 : Nat) (Option.some Jvm.ClassFile.FieldType.int)) ∈ TB := tb_2 112 rfl rfl
theorem tw_2_113 : (Jvm.Cond.methodLink "ToolCrib" (404 : Nat) ({ cls := "java/lang/Math", name := "abs", desc := "(I)I" } : Jvm.MethodName)) ∈ TB := tb_2 113 rfl rfl
theorem tw_2_114 : (Jvm.Cond.static ({ cls := "java/lang/Math", name := "abs", desc := "(I)I" } : Jvm.MethodName)) ∈ TB := tb_2 114 rfl rfl
theorem tw_2_115 : (Jvm.Cond.code ({ cls := "java/lang/Math", name := "abs", desc := "(I)I" } : Jvm.MethodName) prog_19_method_59_code (1 : Nat) (Option.some Jvm.ClassFile.FieldType.int)) ∈ TB := tb_2 115 rfl rfl
theorem tw_2_116 : (Jvm.Cond.methodLink "ToolCrib" (401 : Nat) ({ cls := "java/lang/Math", name := "min", desc := "(II)I" } : Jvm.MethodName)) ∈ TB := tb_2 116 rfl rfl
theorem tw_2_117 : (Jvm.Cond.methodLink "ToolCrib" (187 : Nat) ({ cls := "java/util/ArrayList", name := "remove", desc := "(I)Ljava/lang/Object;" } : Jvm.MethodName)) ∈ TB := tb_2 117 rfl rfl
theorem tw_2_118 : (Jvm.Cond.methodLink "ToolCribLaw" (140 : Nat) ({ cls := "ToolCrib", name := "foresees", desc := "()I" } : Jvm.MethodName)) ∈ TB := tb_2 118 rfl rfl
theorem tw_2_119 : (Jvm.Cond.instanceMethod ({ cls := "ToolCrib", name := "foresees", desc := "()I" } : Jvm.MethodName)) ∈ TB := tb_2 119 rfl rfl
theorem tw_2_120 : (Jvm.Cond.selects "ToolCrib" ({ cls := "ToolCrib", name := "foresees", desc := "()I" } : Jvm.MethodName) ({ cls := "ToolCrib", name := "foresees", desc := "()I" } : Jvm.MethodName)) ∈ TB := tb_2 120 rfl rfl
theorem tw_2_121 : (Jvm.Cond.code ({ cls := "ToolCrib", name := "foresees", desc := "()I" } : Jvm.MethodName) prog_1_method_13_code (2 : Nat) (Option.some Jvm.ClassFile.FieldType.int)) ∈ TB := tb_2 121 rfl rfl
theorem tw_2_122 : (Jvm.Cond.methodLink "ToolCrib" (190 : Nat) ({ cls := "ToolCrib", name := "countLeft", desc := "(I)I" } : Jvm.MethodName)) ∈ TB := tb_2 122 rfl rfl
theorem tw_2_124 : (Jvm.Cond.instanceMethod ({ cls := "ToolCrib", name := "countLeft", desc := "(I)I" } : Jvm.MethodName)) ∈ TB := tb_2 124 rfl rfl
theorem tw_2_125 : (Jvm.Cond.code ({ cls := "ToolCrib", name := "countLeft", desc := "(I)I" } : Jvm.MethodName) prog_1_method_40_code (4 : Nat) (Option.some Jvm.ClassFile.FieldType.int)) ∈ TB := tb_2 125 rfl rfl
theorem tw_2_126 : (Jvm.Cond.methodLink "ToolCrib" (194 : Nat) ({ cls := "ToolCrib", name := "isEnoughFor", desc := "(LToolCrib$Pallet;)Z" } : Jvm.MethodName)) ∈ TB := tb_2 126 rfl rfl
theorem tw_2_128 : (Jvm.Cond.instanceMethod ({ cls := "ToolCrib", name := "isEnoughFor", desc := "(LToolCrib$Pallet;)Z" } : Jvm.MethodName)) ∈ TB := tb_2 128 rfl rfl
theorem tw_2_129 : (Jvm.Cond.code ({ cls := "ToolCrib", name := "isEnoughFor", desc := "(LToolCrib$Pallet;)Z" } : Jvm.MethodName) prog_1_method_44_code (3 : Nat) (Option.some Jvm.ClassFile.FieldType.boolean)) ∈ TB := tb_2 129 rfl rfl
theorem tw_2_130 : (Jvm.Cond.methodLink "ToolCrib" (202 : Nat) ({ cls := "ToolCrib$Trial", name := "run", desc := "(LToolCrib$Walk;LToolCrib$Pallet;II)V" } : Jvm.MethodName)) ∈ TB := tb_2 130 rfl rfl
theorem tw_2_131 : (Jvm.Cond.instanceMethod ({ cls := "ToolCrib$Trial", name := "run", desc := "(LToolCrib$Walk;LToolCrib$Pallet;II)V" } : Jvm.MethodName)) ∈ TB := tb_2 131 rfl rfl
theorem tw_2_132 : (Jvm.Cond.selects "ToolCrib$Trial" ({ cls := "ToolCrib$Trial", name := "run", desc := "(LToolCrib$Walk;LToolCrib$Pallet;II)V" } : Jvm.MethodName) ({ cls := "ToolCrib$Trial", name := "run", desc := "(LToolCrib$Walk;LToolCrib$Pallet;II)V" } : Jvm.MethodName)) ∈ TB := tb_2 132 rfl rfl
theorem tw_2_133 : (Jvm.Cond.code ({ cls := "ToolCrib$Trial", name := "run", desc := "(LToolCrib$Walk;LToolCrib$Pallet;II)V" } : Jvm.MethodName) prog_8_method_2_code (6 : Nat) (Option.none : Option Jvm.ClassFile.FieldType)) ∈ TB := tb_2 133 rfl rfl
theorem tw_2_134 : (Jvm.Cond.methodLink "ToolCrib$Trial" (21 : Nat) ({ cls := "java/lang/System", name := "arraycopy", desc := "(Ljava/lang/Object;ILjava/lang/Object;II)V" } : Jvm.MethodName)) ∈ TB := tb_2 134 rfl rfl
theorem tw_2_135 : (Jvm.Cond.methodLink "ToolCrib$Trial" (27 : Nat) ({ cls := "java/util/Arrays", name := "fill", desc := "([II)V" } : Jvm.MethodName)) ∈ TB := tb_2 135 rfl rfl
theorem tw_2_136 : (Jvm.Cond.static ({ cls := "java/util/Arrays", name := "fill", desc := "([II)V" } : Jvm.MethodName)) ∈ TB := tb_2 136 rfl rfl
theorem tw_2_137 : (Jvm.Cond.code ({ cls := "java/util/Arrays", name := "fill", desc := "([II)V" } : Jvm.MethodName) prog_27_method_103_code (4 : Nat) (Option.none : Option Jvm.ClassFile.FieldType)) ∈ TB := tb_2 137 rfl rfl
theorem tw_2_138 : (Jvm.Cond.methodLink "ToolCrib$Trial" (40 : Nat) ({ cls := "ToolCrib$Walk", name := "begin", desc := "(I)V" } : Jvm.MethodName)) ∈ TB := tb_2 138 rfl rfl
theorem tw_2_139 : (Jvm.Cond.methodLink "ToolCrib$Trial" (46 : Nat) ({ cls := "ToolCrib$Walk", name := "goStep", desc := "()Z" } : Jvm.MethodName)) ∈ TB := tb_2 139 rfl rfl
theorem tw_2_140 : (Jvm.Cond.methodLink "ToolCrib$Trial" (53 : Nat) ({ cls := "ToolCrib$Walk", name := "isBelow", desc := "([I)Z" } : Jvm.MethodName)) ∈ TB := tb_2 140 rfl rfl
theorem tw_2_141 : (Jvm.Cond.methodLink "ToolCrib$Trial" (57 : Nat) ({ cls := "ToolCrib$Walk", name := "canCut", desc := "()Z" } : Jvm.MethodName)) ∈ TB := tb_2 141 rfl rfl
theorem tw_2_142 : (Jvm.Cond.instanceMethod ({ cls := "ToolCrib$Walk", name := "canCut", desc := "()Z" } : Jvm.MethodName)) ∈ TB := tb_2 142 rfl rfl
theorem tw_2_143 : (Jvm.Cond.selects "ToolCrib$Walk" ({ cls := "ToolCrib$Walk", name := "canCut", desc := "()Z" } : Jvm.MethodName) ({ cls := "ToolCrib$Walk", name := "canCut", desc := "()Z" } : Jvm.MethodName)) ∈ TB := tb_2 143 rfl rfl
theorem tw_2_144 : (Jvm.Cond.code ({ cls := "ToolCrib$Walk", name := "canCut", desc := "()Z" } : Jvm.MethodName) prog_9_method_6_code (1 : Nat) (Option.some Jvm.ClassFile.FieldType.boolean)) ∈ TB := tb_2 144 rfl rfl
theorem tw_2_145 : (Jvm.Cond.methodLink "ToolCrib$Trial" (66 : Nat) ({ cls := "ToolCrib$Walk", name := "cellNow", desc := "()I" } : Jvm.MethodName)) ∈ TB := tb_2 145 rfl rfl
theorem tw_2_146 : (Jvm.Cond.methodLink "ToolCribLaw" (169 : Nat) ({ cls := "ToolCrib", name := "minute", desc := "()I" } : Jvm.MethodName)) ∈ TB := tb_2 146 rfl rfl
theorem tw_2_147 : (Jvm.Cond.instanceMethod ({ cls := "ToolCrib", name := "minute", desc := "()I" } : Jvm.MethodName)) ∈ TB := tb_2 147 rfl rfl
theorem tw_2_148 : (Jvm.Cond.selects "ToolCrib" ({ cls := "ToolCrib", name := "minute", desc := "()I" } : Jvm.MethodName) ({ cls := "ToolCrib", name := "minute", desc := "()I" } : Jvm.MethodName)) ∈ TB := tb_2 148 rfl rfl
theorem tw_2_149 : (Jvm.Cond.code ({ cls := "ToolCrib", name := "minute", desc := "()I" } : Jvm.MethodName) prog_1_method_22_code (1 : Nat) (Option.some Jvm.ClassFile.FieldType.int)) ∈ TB := tb_2 149 rfl rfl
theorem tw_2_150 : (Jvm.Cond.methodLink "ToolCribLaw" (173 : Nat) ({ cls := "ToolCrib", name := "warmth", desc := "()I" } : Jvm.MethodName)) ∈ TB := tb_2 150 rfl rfl
theorem tw_2_151 : (Jvm.Cond.instanceMethod ({ cls := "ToolCrib", name := "warmth", desc := "()I" } : Jvm.MethodName)) ∈ TB := tb_2 151 rfl rfl
theorem tw_2_152 : (Jvm.Cond.selects "ToolCrib" ({ cls := "ToolCrib", name := "warmth", desc := "()I" } : Jvm.MethodName) ({ cls := "ToolCrib", name := "warmth", desc := "()I" } : Jvm.MethodName)) ∈ TB := tb_2 152 rfl rfl
theorem tw_2_153 : (Jvm.Cond.code ({ cls := "ToolCrib", name := "warmth", desc := "()I" } : Jvm.MethodName) prog_1_method_23_code (1 : Nat) (Option.some Jvm.ClassFile.FieldType.int)) ∈ TB := tb_2 153 rfl rfl
theorem tw_2_154 : (Jvm.Cond.methodLink "ToolCribLaw" (95 : Nat) ({ cls := "ToolCribLaw", name := "program", desc := "(LToolCrib;[J)I" } : Jvm.MethodName)) ∈ TB := tb_2 154 rfl rfl
theorem tw_2_155 : (Jvm.Cond.static ({ cls := "ToolCribLaw", name := "program", desc := "(LToolCrib;[J)I" } : Jvm.MethodName)) ∈ TB := tb_2 155 rfl rfl
theorem tw_2_156 : (Jvm.Cond.codeWith ({ cls := "ToolCribLaw", name := "program", desc := "(LToolCrib;[J)I" } : Jvm.MethodName) method_3_code (3 : Nat) (Option.some Jvm.ClassFile.FieldType.int) [((0 : Nat), (8 : Nat), (11 : Nat), (13 : Nat))]) ∈ TB := tb_2 156 rfl rfl
theorem tw_2_157 : (Jvm.Cond.classLink "ToolCribLaw" (13 : Nat) "java/lang/IllegalStateException") ∈ TB := tb_2 157 rfl rfl
theorem tw_2_158 : (Jvm.Cond.methodLink "ToolCribLaw" (7 : Nat) ({ cls := "ToolCrib", name := "program", desc := "()I" } : Jvm.MethodName)) ∈ TB := tb_2 158 rfl rfl
theorem tw_2_159 : (Jvm.Cond.instanceMethod ({ cls := "ToolCrib", name := "program", desc := "()I" } : Jvm.MethodName)) ∈ TB := tb_2 159 rfl rfl
theorem tw_2_160 : (Jvm.Cond.selects "ToolCrib" ({ cls := "ToolCrib", name := "program", desc := "()I" } : Jvm.MethodName) ({ cls := "ToolCrib", name := "program", desc := "()I" } : Jvm.MethodName)) ∈ TB := tb_2 160 rfl rfl
theorem tw_2_161 : (Jvm.Cond.code ({ cls := "ToolCrib", name := "program", desc := "()I" } : Jvm.MethodName) prog_1_method_2_code (1 : Nat) (Option.some Jvm.ClassFile.FieldType.int)) ∈ TB := tb_2 161 rfl rfl
theorem tw_2_162 : (Jvm.Cond.classLink "ToolCrib" (69 : Nat) "java/lang/IllegalStateException") ∈ TB := tb_2 162 rfl rfl
theorem tw_2_163 : (Jvm.Cond.instantiable "java/lang/IllegalStateException" (6 : Nat)) ∈ TB := tb_2 163 rfl rfl
theorem tw_2_171 : (Jvm.Cond.selects "java/lang/IllegalStateException" ({ cls := "java/lang/Throwable", name := "fillInStackTrace", desc := "(I)Ljava/lang/Throwable;" } : Jvm.MethodName) ({ cls := "java/lang/Throwable", name := "fillInStackTrace", desc := "(I)Ljava/lang/Throwable;" } : Jvm.MethodName)) ∈ TB := tb_2 171 rfl rfl
theorem tw_2_172 : (Jvm.Cond.selects "java/lang/IllegalStateException" ({ cls := "java/lang/Throwable", name := "fillInStackTrace", desc := "()Ljava/lang/Throwable;" } : Jvm.MethodName) ({ cls := "java/lang/Throwable", name := "fillInStackTrace", desc := "()Ljava/lang/Throwable;" } : Jvm.MethodName)) ∈ TB := tb_2 172 rfl rfl
theorem tw_2_173 : (Jvm.Cond.lays "java/lang/IllegalStateException" "java/lang/Throwable" "cause" "Ljava/lang/Throwable;") ∈ TB := tb_2 173 rfl rfl
theorem tw_2_174 : (Jvm.Cond.lays "java/lang/Throwable" "java/lang/Throwable" "cause" "Ljava/lang/Throwable;") ∈ TB := tb_2 174 rfl rfl
theorem tw_2_175 : (Jvm.Cond.lays "java/lang/IllegalStateException" "java/lang/Throwable" "stackTrace" "[Ljava/lang/StackTraceElement;") ∈ TB := tb_2 175 rfl rfl
theorem tw_2_176 : (Jvm.Cond.lays "java/lang/Throwable" "java/lang/Throwable" "stackTrace" "[Ljava/lang/StackTraceElement;") ∈ TB := tb_2 176 rfl rfl
theorem tw_2_177 : (Jvm.Cond.lays "java/lang/IllegalStateException" "java/lang/Throwable" "suppressedExceptions" "Ljava/util/List;") ∈ TB := tb_2 177 rfl rfl
theorem tw_2_178 : (Jvm.Cond.lays "java/lang/Throwable" "java/lang/Throwable" "suppressedExceptions" "Ljava/util/List;") ∈ TB := tb_2 178 rfl rfl
theorem tw_2_179 : (Jvm.Cond.lays "java/lang/IllegalStateException" "java/lang/Throwable" "detailMessage" "Ljava/lang/String;") ∈ TB := tb_2 179 rfl rfl
theorem tw_2_180 : (Jvm.Cond.lays "java/lang/Throwable" "java/lang/Throwable" "detailMessage" "Ljava/lang/String;") ∈ TB := tb_2 180 rfl rfl
theorem tw_2_181 : (Jvm.Cond.lays "java/lang/IllegalStateException" "java/lang/Throwable" "backtrace" "Ljava/lang/Object;") ∈ TB := tb_2 181 rfl rfl
theorem tw_2_182 : (Jvm.Cond.lays "java/lang/Throwable" "java/lang/Throwable" "backtrace" "Ljava/lang/Object;") ∈ TB := tb_2 182 rfl rfl
theorem tw_2_183 : (Jvm.Cond.fieldLink "java/lang/Throwable" (198 : Nat) "java/lang/Throwable" "backtrace" "Ljava/lang/Object;") ∈ TB := tb_2 183 rfl rfl
theorem tw_2_185 : (Jvm.Cond.instanceMethod ({ cls := "java/lang/Throwable", name := "<init>", desc := "()V" } : Jvm.MethodName)) ∈ TB := tb_2 185 rfl rfl
theorem tw_2_186 : (Jvm.Cond.code ({ cls := "java/lang/Throwable", name := "<init>", desc := "()V" } : Jvm.MethodName) prog_23_method_1_code (1 : Nat) (Option.none : Option Jvm.ClassFile.FieldType)) ∈ TB := tb_2 186 rfl rfl
theorem tw_2_187 : (Jvm.Cond.methodLink "java/lang/Throwable" (1 : Nat) ({ cls := "java/lang/Object", name := "<init>", desc := "()V" } : Jvm.MethodName)) ∈ TB := tb_2 187 rfl rfl
theorem tw_2_188 : (Jvm.Cond.fieldLink "java/lang/Throwable" (13 : Nat) "java/lang/Throwable" "UNASSIGNED_STACK" "[Ljava/lang/StackTraceElement;") ∈ TB := tb_2 188 rfl rfl
theorem tw_2_190 : (Jvm.Cond.fieldLink "java/lang/Throwable" (20 : Nat) "java/lang/Throwable" "SUPPRESSED_SENTINEL" "Ljava/util/List;") ∈ TB := tb_2 190 rfl rfl
theorem tw_2_192 : (Jvm.Cond.methodLink "java/lang/Throwable" (27 : Nat) ({ cls := "java/lang/Throwable", name := "fillInStackTrace", desc := "()Ljava/lang/Throwable;" } : Jvm.MethodName)) ∈ TB := tb_2 192 rfl rfl
theorem tw_2_193 : (Jvm.Cond.instanceMethod ({ cls := "java/lang/Throwable", name := "fillInStackTrace", desc := "()Ljava/lang/Throwable;" } : Jvm.MethodName)) ∈ TB := tb_2 193 rfl rfl
theorem tw_2_194 : (Jvm.Cond.sameMethod "java/lang/Throwable" "java/lang/Throwable" "fillInStackTrace" "()Ljava/lang/Throwable;") ∈ TB := tb_2 194 rfl rfl
theorem tw_2_195 : (Jvm.Cond.selects "java/lang/IllegalArgumentException" ({ cls := "java/lang/Throwable", name := "fillInStackTrace", desc := "()Ljava/lang/Throwable;" } : Jvm.MethodName) ({ cls := "java/lang/Throwable", name := "fillInStackTrace", desc := "()Ljava/lang/Throwable;" } : Jvm.MethodName)) ∈ TB := tb_2 195 rfl rfl
theorem tw_2_196 : (Jvm.Cond.selects "java/lang/IndexOutOfBoundsException" ({ cls := "java/lang/Throwable", name := "fillInStackTrace", desc := "()Ljava/lang/Throwable;" } : Jvm.MethodName) ({ cls := "java/lang/Throwable", name := "fillInStackTrace", desc := "()Ljava/lang/Throwable;" } : Jvm.MethodName)) ∈ TB := tb_2 196 rfl rfl
theorem tw_2_198 : (Jvm.Cond.methodLink "java/lang/Throwable" (202 : Nat) ({ cls := "java/lang/Throwable", name := "fillInStackTrace", desc := "(I)Ljava/lang/Throwable;" } : Jvm.MethodName)) ∈ TB := tb_2 198 rfl rfl
theorem tw_2_200 : (Jvm.Cond.instanceMethod ({ cls := "java/lang/Throwable", name := "fillInStackTrace", desc := "(I)Ljava/lang/Throwable;" } : Jvm.MethodName)) ∈ TB := tb_2 200 rfl rfl
theorem tw_2_201 : (Jvm.Cond.instantiable "java/lang/Throwable" (6 : Nat)) ∈ TB := tb_2 201 rfl rfl
theorem tw_2_202 : (Jvm.Cond.native ({ cls := "java/lang/Throwable", name := "fillInStackTrace", desc := "(I)Ljava/lang/Throwable;" } : Jvm.MethodName)) ∈ TB := tb_2 202 rfl rfl
theorem tw_2_204 : (Jvm.Cond.methodLink "ToolCrib" (73 : Nat) ({ cls := "java/lang/IllegalStateException", name := "<init>", desc := "(Ljava/lang/String;)V" } : Jvm.MethodName)) ∈ TB := tb_2 204 rfl rfl
theorem tw_2_205 : (Jvm.Cond.instanceMethod ({ cls := "java/lang/IllegalStateException", name := "<init>", desc := "(Ljava/lang/String;)V" } : Jvm.MethodName)) ∈ TB := tb_2 205 rfl rfl
theorem tw_2_206 : (Jvm.Cond.code ({ cls := "java/lang/IllegalStateException", name := "<init>", desc := "(Ljava/lang/String;)V" } : Jvm.MethodName) prog_16_method_2_code (2 : Nat) (Option.none : Option Jvm.ClassFile.FieldType)) ∈ TB := tb_2 206 rfl rfl
theorem tw_2_207 : (Jvm.Cond.methodLink "java/lang/IllegalStateException" (7 : Nat) ({ cls := "java/lang/RuntimeException", name := "<init>", desc := "(Ljava/lang/String;)V" } : Jvm.MethodName)) ∈ TB := tb_2 207 rfl rfl
theorem tw_2_208 : (Jvm.Cond.instanceMethod ({ cls := "java/lang/RuntimeException", name := "<init>", desc := "(Ljava/lang/String;)V" } : Jvm.MethodName)) ∈ TB := tb_2 208 rfl rfl
theorem tw_2_209 : (Jvm.Cond.code ({ cls := "java/lang/RuntimeException", name := "<init>", desc := "(Ljava/lang/String;)V" } : Jvm.MethodName) prog_20_method_2_code (2 : Nat) (Option.none : Option Jvm.ClassFile.FieldType)) ∈ TB := tb_2 209 rfl rfl
theorem tw_2_210 : (Jvm.Cond.methodLink "java/lang/RuntimeException" (7 : Nat) ({ cls := "java/lang/Exception", name := "<init>", desc := "(Ljava/lang/String;)V" } : Jvm.MethodName)) ∈ TB := tb_2 210 rfl rfl
theorem tw_2_211 : (Jvm.Cond.instanceMethod ({ cls := "java/lang/Exception", name := "<init>", desc := "(Ljava/lang/String;)V" } : Jvm.MethodName)) ∈ TB := tb_2 211 rfl rfl
theorem tw_2_212 : (Jvm.Cond.code ({ cls := "java/lang/Exception", name := "<init>", desc := "(Ljava/lang/String;)V" } : Jvm.MethodName) prog_14_method_2_code (2 : Nat) (Option.none : Option Jvm.ClassFile.FieldType)) ∈ TB := tb_2 212 rfl rfl
theorem tw_2_213 : (Jvm.Cond.methodLink "java/lang/Exception" (7 : Nat) ({ cls := "java/lang/Throwable", name := "<init>", desc := "(Ljava/lang/String;)V" } : Jvm.MethodName)) ∈ TB := tb_2 213 rfl rfl
theorem tw_2_214 : (Jvm.Cond.instanceMethod ({ cls := "java/lang/Throwable", name := "<init>", desc := "(Ljava/lang/String;)V" } : Jvm.MethodName)) ∈ TB := tb_2 214 rfl rfl
theorem tw_2_215 : (Jvm.Cond.code ({ cls := "java/lang/Throwable", name := "<init>", desc := "(Ljava/lang/String;)V" } : Jvm.MethodName) prog_23_method_2_code (2 : Nat) (Option.none : Option Jvm.ClassFile.FieldType)) ∈ TB := tb_2 215 rfl rfl
theorem tw_2_216 : (Jvm.Cond.fieldLink "java/lang/Throwable" (198 : Nat) "java/lang/Throwable" "backtrace" "Ljava/lang/Object;") ∈ TB := tb_2 216 rfl rfl
theorem tw_2_217 : (Jvm.Cond.fieldLink "java/lang/Throwable" (31 : Nat) "java/lang/Throwable" "detailMessage" "Ljava/lang/String;") ∈ TB := tb_2 217 rfl rfl
theorem tw_2_218 : (Jvm.Cond.fieldLink "java/lang/Throwable" (7 : Nat) "java/lang/Throwable" "cause" "Ljava/lang/Throwable;") ∈ TB := tb_2 218 rfl rfl
theorem tw_2_219 : (Jvm.Cond.fieldLink "java/lang/Throwable" (17 : Nat) "java/lang/Throwable" "stackTrace" "[Ljava/lang/StackTraceElement;") ∈ TB := tb_2 219 rfl rfl
theorem tw_2_220 : (Jvm.Cond.fieldLink "java/lang/Throwable" (24 : Nat) "java/lang/Throwable" "suppressedExceptions" "Ljava/util/List;") ∈ TB := tb_2 220 rfl rfl
theorem tw_2_225 : (Jvm.Cond.lays "java/lang/IllegalStateException" "java/lang/Throwable" "depth" "I") ∈ TB := tb_2 225 rfl rfl
theorem tw_2_229 : (Jvm.Cond.arrayClass Jvm.ClassFile.FieldType.byte) ∈ TB := tb_2 229 rfl rfl
theorem tw_2_230 : (Jvm.Cond.classLink "ToolCrib" (76 : Nat) "ToolCrib$Program") ∈ TB := tb_2 230 rfl rfl
theorem tw_2_231 : (Jvm.Cond.instantiable "ToolCrib$Program" (3 : Nat)) ∈ TB := tb_2 231 rfl rfl
theorem tw_2_233 : (Jvm.Cond.instanceMethod ({ cls := "ToolCrib$Program", name := "<init>", desc := "()V" } : Jvm.MethodName)) ∈ TB := tb_2 233 rfl rfl
theorem tw_2_234 : (Jvm.Cond.code ({ cls := "ToolCrib$Program", name := "<init>", desc := "()V" } : Jvm.MethodName) prog_6_method_1_code (1 : Nat) (Option.none : Option Jvm.ClassFile.FieldType)) ∈ TB := tb_2 234 rfl rfl
theorem tw_2_235 : (Jvm.Cond.methodLink "ToolCrib$Program" (3 : Nat) ({ cls := "java/lang/Object", name := "<init>", desc := "()V" } : Jvm.MethodName)) ∈ TB := tb_2 235 rfl rfl
theorem tw_2_236 : (Jvm.Cond.fieldLink "ToolCrib$Program" (9 : Nat) "ToolCrib$Program" "words" "[I") ∈ TB := tb_2 236 rfl rfl
theorem tw_2_237 : (Jvm.Cond.fieldLink "ToolCrib$Walk" (89 : Nat) "ToolCrib$Program" "words" "[I") ∈ TB := tb_2 237 rfl rfl
theorem tw_2_238 : (Jvm.Cond.fieldLink "ToolCrib$Program" (15 : Nat) "ToolCrib$Program" "values" "[I") ∈ TB := tb_2 238 rfl rfl
theorem tw_2_239 : (Jvm.Cond.fieldLink "ToolCrib$Walk" (86 : Nat) "ToolCrib$Program" "values" "[I") ∈ TB := tb_2 239 rfl rfl
theorem tw_3_0 : (Jvm.Cond.fieldLink "ToolCrib$Program" (18 : Nat) "ToolCrib$Program" "size" "I") ∈ TB := tb_3 0 rfl rfl
theorem tw_3_1 : (Jvm.Cond.fieldLink "ToolCrib" (92 : Nat) "ToolCrib$Program" "size" "I") ∈ TB := tb_3 1 rfl rfl
theorem tw_3_2 : (Jvm.Cond.fieldLink "ToolCrib$Walk" (81 : Nat) "ToolCrib$Program" "size" "I") ∈ TB := tb_3 2 rfl rfl
theorem tw_3_3 : (Jvm.Cond.laysFinal "ToolCrib$Program" "ToolCrib$Program" "words" "[I") ∈ TB := tb_3 3 rfl rfl
theorem tw_3_5 : (Jvm.Cond.laysFinal "ToolCrib$Program" "ToolCrib$Program" "values" "[I") ∈ TB := tb_3 5 rfl rfl
theorem tw_3_7 : (Jvm.Cond.lays "ToolCrib$Program" "ToolCrib$Program" "size" "I") ∈ TB := tb_3 7 rfl rfl
theorem tw_3_10 : (Jvm.Cond.methodLink "ToolCribLaw" (104 : Nat) ({ cls := "ToolCribLaw", name := "block", desc := "(LToolCrib;III[J)I" } : Jvm.MethodName)) ∈ TB := tb_3 10 rfl rfl
theorem tw_3_11 : (Jvm.Cond.static ({ cls := "ToolCribLaw", name := "block", desc := "(LToolCrib;III[J)I" } : Jvm.MethodName)) ∈ TB := tb_3 11 rfl rfl
theorem tw_3_12 : (Jvm.Cond.codeWith ({ cls := "ToolCribLaw", name := "block", desc := "(LToolCrib;III[J)I" } : Jvm.MethodName) method_4_code (6 : Nat) (Option.some Jvm.ClassFile.FieldType.int) [((0 : Nat), (12 : Nat), (15 : Nat), (19 : Nat)), ((0 : Nat), (12 : Nat), (19 : Nat), (21 : Nat)), ((0 : Nat), (12 : Nat), (23 : Nat), (13 : Nat))]) ∈ TB := tb_3 12 rfl rfl
theorem tw_3_13 : (Jvm.Cond.classLink "ToolCribLaw" (19 : Nat) "java/lang/IndexOutOfBoundsException") ∈ TB := tb_3 13 rfl rfl
theorem tw_3_14 : (Jvm.Cond.classLink "ToolCribLaw" (21 : Nat) "java/lang/IllegalArgumentException") ∈ TB := tb_3 14 rfl rfl
theorem tw_3_15 : (Jvm.Cond.methodLink "ToolCribLaw" (15 : Nat) ({ cls := "ToolCrib", name := "block", desc := "(III)I" } : Jvm.MethodName)) ∈ TB := tb_3 15 rfl rfl
theorem tw_3_16 : (Jvm.Cond.instanceMethod ({ cls := "ToolCrib", name := "block", desc := "(III)I" } : Jvm.MethodName)) ∈ TB := tb_3 16 rfl rfl
theorem tw_3_17 : (Jvm.Cond.selects "ToolCrib" ({ cls := "ToolCrib", name := "block", desc := "(III)I" } : Jvm.MethodName) ({ cls := "ToolCrib", name := "block", desc := "(III)I" } : Jvm.MethodName)) ∈ TB := tb_3 17 rfl rfl
theorem tw_3_18 : (Jvm.Cond.code ({ cls := "ToolCrib", name := "block", desc := "(III)I" } : Jvm.MethodName) prog_1_method_3_code (5 : Nat) (Option.some Jvm.ClassFile.FieldType.int)) ∈ TB := tb_3 18 rfl rfl
theorem tw_3_19 : (Jvm.Cond.methodLink "ToolCrib" (79 : Nat) ({ cls := "ToolCrib", name := "programAt", desc := "(I)LToolCrib$Program;" } : Jvm.MethodName)) ∈ TB := tb_3 19 rfl rfl
theorem tw_3_21 : (Jvm.Cond.instanceMethod ({ cls := "ToolCrib", name := "programAt", desc := "(I)LToolCrib$Program;" } : Jvm.MethodName)) ∈ TB := tb_3 21 rfl rfl
theorem tw_3_22 : (Jvm.Cond.code ({ cls := "ToolCrib", name := "programAt", desc := "(I)LToolCrib$Program;" } : Jvm.MethodName) prog_1_method_29_code (2 : Nat) (Option.some (Jvm.ClassFile.FieldType.object "ToolCrib$Program"))) ∈ TB := tb_3 22 rfl rfl
theorem tw_3_23 : (Jvm.Cond.classLink "ToolCrib" (252 : Nat) "java/lang/IndexOutOfBoundsException") ∈ TB := tb_3 23 rfl rfl
theorem tw_3_24 : (Jvm.Cond.instantiable "java/lang/IndexOutOfBoundsException" (6 : Nat)) ∈ TB := tb_3 24 rfl rfl
theorem tw_3_26 : (Jvm.Cond.selects "java/lang/IndexOutOfBoundsException" ({ cls := "java/lang/Throwable", name := "fillInStackTrace", desc := "(I)Ljava/lang/Throwable;" } : Jvm.MethodName) ({ cls := "java/lang/Throwable", name := "fillInStackTrace", desc := "(I)Ljava/lang/Throwable;" } : Jvm.MethodName)) ∈ TB := tb_3 26 rfl rfl
theorem tw_3_27 : (Jvm.Cond.lays "java/lang/IndexOutOfBoundsException" "java/lang/Throwable" "cause" "Ljava/lang/Throwable;") ∈ TB := tb_3 27 rfl rfl
theorem tw_3_28 : (Jvm.Cond.lays "java/lang/IndexOutOfBoundsException" "java/lang/Throwable" "stackTrace" "[Ljava/lang/StackTraceElement;") ∈ TB := tb_3 28 rfl rfl
theorem tw_3_29 : (Jvm.Cond.lays "java/lang/IndexOutOfBoundsException" "java/lang/Throwable" "suppressedExceptions" "Ljava/util/List;") ∈ TB := tb_3 29 rfl rfl
theorem tw_3_30 : (Jvm.Cond.lays "java/lang/IndexOutOfBoundsException" "java/lang/Throwable" "detailMessage" "Ljava/lang/String;") ∈ TB := tb_3 30 rfl rfl
theorem tw_3_31 : (Jvm.Cond.lays "java/lang/IndexOutOfBoundsException" "java/lang/Throwable" "backtrace" "Ljava/lang/Object;") ∈ TB := tb_3 31 rfl rfl
theorem tw_3_33 : (Jvm.Cond.methodLink "ToolCrib" (256 : Nat) ({ cls := "java/lang/IndexOutOfBoundsException", name := "<init>", desc := "(Ljava/lang/String;)V" } : Jvm.MethodName)) ∈ TB := tb_3 33 rfl rfl
theorem tw_3_34 : (Jvm.Cond.instanceMethod ({ cls := "java/lang/IndexOutOfBoundsException", name := "<init>", desc := "(Ljava/lang/String;)V" } : Jvm.MethodName)) ∈ TB := tb_3 34 rfl rfl
theorem tw_3_35 : (Jvm.Cond.code ({ cls := "java/lang/IndexOutOfBoundsException", name := "<init>", desc := "(Ljava/lang/String;)V" } : Jvm.MethodName) prog_17_method_2_code (2 : Nat) (Option.none : Option Jvm.ClassFile.FieldType)) ∈ TB := tb_3 35 rfl rfl
theorem tw_3_36 : (Jvm.Cond.methodLink "java/lang/IndexOutOfBoundsException" (7 : Nat) ({ cls := "java/lang/RuntimeException", name := "<init>", desc := "(Ljava/lang/String;)V" } : Jvm.MethodName)) ∈ TB := tb_3 36 rfl rfl
theorem tw_3_37 : (Jvm.Cond.lays "java/lang/IndexOutOfBoundsException" "java/lang/Throwable" "depth" "I") ∈ TB := tb_3 37 rfl rfl
theorem tw_3_39 : (Jvm.Cond.methodLink "ToolCrib" (83 : Nat) ({ cls := "ToolCrib", name := "isBlock", desc := "(III)Z" } : Jvm.MethodName)) ∈ TB := tb_3 39 rfl rfl
theorem tw_3_40 : (Jvm.Cond.static ({ cls := "ToolCrib", name := "isBlock", desc := "(III)Z" } : Jvm.MethodName)) ∈ TB := tb_3 40 rfl rfl
theorem tw_3_41 : (Jvm.Cond.code ({ cls := "ToolCrib", name := "isBlock", desc := "(III)Z" } : Jvm.MethodName) prog_1_method_37_code (3 : Nat) (Option.some Jvm.ClassFile.FieldType.boolean)) ∈ TB := tb_3 41 rfl rfl
theorem tw_3_42 : (Jvm.Cond.methodLink "ToolCrib" (105 : Nat) ({ cls := "ToolCrib", name := "isWithin", desc := "(III)Z" } : Jvm.MethodName)) ∈ TB := tb_3 42 rfl rfl
theorem tw_3_43 : (Jvm.Cond.static ({ cls := "ToolCrib", name := "isWithin", desc := "(III)Z" } : Jvm.MethodName)) ∈ TB := tb_3 43 rfl rfl
theorem tw_3_44 : (Jvm.Cond.code ({ cls := "ToolCrib", name := "isWithin", desc := "(III)Z" } : Jvm.MethodName) prog_1_method_36_code (3 : Nat) (Option.some Jvm.ClassFile.FieldType.boolean)) ∈ TB := tb_3 44 rfl rfl
theorem tw_3_45 : (Jvm.Cond.classLink "ToolCrib" (87 : Nat) "java/lang/IllegalArgumentException") ∈ TB := tb_3 45 rfl rfl
theorem tw_3_46 : (Jvm.Cond.instantiable "java/lang/IllegalArgumentException" (6 : Nat)) ∈ TB := tb_3 46 rfl rfl
theorem tw_3_48 : (Jvm.Cond.selects "java/lang/IllegalArgumentException" ({ cls := "java/lang/Throwable", name := "fillInStackTrace", desc := "(I)Ljava/lang/Throwable;" } : Jvm.MethodName) ({ cls := "java/lang/Throwable", name := "fillInStackTrace", desc := "(I)Ljava/lang/Throwable;" } : Jvm.MethodName)) ∈ TB := tb_3 48 rfl rfl
theorem tw_3_49 : (Jvm.Cond.lays "java/lang/IllegalArgumentException" "java/lang/Throwable" "cause" "Ljava/lang/Throwable;") ∈ TB := tb_3 49 rfl rfl
theorem tw_3_50 : (Jvm.Cond.lays "java/lang/IllegalArgumentException" "java/lang/Throwable" "stackTrace" "[Ljava/lang/StackTraceElement;") ∈ TB := tb_3 50 rfl rfl
theorem tw_3_51 : (Jvm.Cond.lays "java/lang/IllegalArgumentException" "java/lang/Throwable" "suppressedExceptions" "Ljava/util/List;") ∈ TB := tb_3 51 rfl rfl
theorem tw_3_52 : (Jvm.Cond.lays "java/lang/IllegalArgumentException" "java/lang/Throwable" "detailMessage" "Ljava/lang/String;") ∈ TB := tb_3 52 rfl rfl
theorem tw_3_53 : (Jvm.Cond.lays "java/lang/IllegalArgumentException" "java/lang/Throwable" "backtrace" "Ljava/lang/Object;") ∈ TB := tb_3 53 rfl rfl
theorem tw_3_55 : (Jvm.Cond.methodLink "ToolCrib" (91 : Nat) ({ cls := "java/lang/IllegalArgumentException", name := "<init>", desc := "(Ljava/lang/String;)V" } : Jvm.MethodName)) ∈ TB := tb_3 55 rfl rfl
theorem tw_3_56 : (Jvm.Cond.instanceMethod ({ cls := "java/lang/IllegalArgumentException", name := "<init>", desc := "(Ljava/lang/String;)V" } : Jvm.MethodName)) ∈ TB := tb_3 56 rfl rfl
theorem tw_3_57 : (Jvm.Cond.code ({ cls := "java/lang/IllegalArgumentException", name := "<init>", desc := "(Ljava/lang/String;)V" } : Jvm.MethodName) prog_15_method_2_code (2 : Nat) (Option.none : Option Jvm.ClassFile.FieldType)) ∈ TB := tb_3 57 rfl rfl
theorem tw_3_58 : (Jvm.Cond.methodLink "java/lang/IllegalArgumentException" (7 : Nat) ({ cls := "java/lang/RuntimeException", name := "<init>", desc := "(Ljava/lang/String;)V" } : Jvm.MethodName)) ∈ TB := tb_3 58 rfl rfl
theorem tw_3_59 : (Jvm.Cond.lays "java/lang/IllegalArgumentException" "java/lang/Throwable" "depth" "I") ∈ TB := tb_3 59 rfl rfl
theorem tw_3_62 : (Jvm.Cond.methodLink "ToolCrib" (101 : Nat) ({ cls := "ToolCrib$Program", name := "append", desc := "(II)V" } : Jvm.MethodName)) ∈ TB := tb_3 62 rfl rfl
theorem tw_3_63 : (Jvm.Cond.instanceMethod ({ cls := "ToolCrib$Program", name := "append", desc := "(II)V" } : Jvm.MethodName)) ∈ TB := tb_3 63 rfl rfl
theorem tw_3_64 : (Jvm.Cond.selects "ToolCrib$Program" ({ cls := "ToolCrib$Program", name := "append", desc := "(II)V" } : Jvm.MethodName) ({ cls := "ToolCrib$Program", name := "append", desc := "(II)V" } : Jvm.MethodName)) ∈ TB := tb_3 64 rfl rfl
theorem tw_3_65 : (Jvm.Cond.code ({ cls := "ToolCrib$Program", name := "append", desc := "(II)V" } : Jvm.MethodName) prog_6_method_2_code (3 : Nat) (Option.none : Option Jvm.ClassFile.FieldType)) ∈ TB := tb_3 65 rfl rfl
theorem tw_3_66 : (Jvm.Cond.methodLink "ToolCribLaw" (108 : Nat) ({ cls := "ToolCribLaw", name := "map", desc := "(LToolCrib;II[J)I" } : Jvm.MethodName)) ∈ TB := tb_3 66 rfl rfl
theorem tw_3_67 : (Jvm.Cond.static ({ cls := "ToolCribLaw", name := "map", desc := "(LToolCrib;II[J)I" } : Jvm.MethodName)) ∈ TB := tb_3 67 rfl rfl
theorem tw_3_68 : (Jvm.Cond.codeWith ({ cls := "ToolCribLaw", name := "map", desc := "(LToolCrib;II[J)I" } : Jvm.MethodName) method_5_code (5 : Nat) (Option.some Jvm.ClassFile.FieldType.int) [((0 : Nat), (10 : Nat), (13 : Nat), (21 : Nat))]) ∈ TB := tb_3 68 rfl rfl
theorem tw_3_69 : (Jvm.Cond.methodLink "ToolCribLaw" (23 : Nat) ({ cls := "ToolCrib", name := "map", desc := "(II)I" } : Jvm.MethodName)) ∈ TB := tb_3 69 rfl rfl
theorem tw_3_70 : (Jvm.Cond.instanceMethod ({ cls := "ToolCrib", name := "map", desc := "(II)I" } : Jvm.MethodName)) ∈ TB := tb_3 70 rfl rfl
theorem tw_3_71 : (Jvm.Cond.selects "ToolCrib" ({ cls := "ToolCrib", name := "map", desc := "(II)I" } : Jvm.MethodName) ({ cls := "ToolCrib", name := "map", desc := "(II)I" } : Jvm.MethodName)) ∈ TB := tb_3 71 rfl rfl
theorem tw_3_72 : (Jvm.Cond.code ({ cls := "ToolCrib", name := "map", desc := "(II)I" } : Jvm.MethodName) prog_1_method_4_code (4 : Nat) (Option.some Jvm.ClassFile.FieldType.int)) ∈ TB := tb_3 72 rfl rfl
theorem tw_3_74 : (Jvm.Cond.methodLink "ToolCribLaw" (112 : Nat) ({ cls := "ToolCribLaw", name := "tool", desc := "(LToolCrib;II[J)I" } : Jvm.MethodName)) ∈ TB := tb_3 74 rfl rfl
theorem tw_3_75 : (Jvm.Cond.static ({ cls := "ToolCribLaw", name := "tool", desc := "(LToolCrib;II[J)I" } : Jvm.MethodName)) ∈ TB := tb_3 75 rfl rfl
theorem tw_3_76 : (Jvm.Cond.codeWith ({ cls := "ToolCribLaw", name := "tool", desc := "(LToolCrib;II[J)I" } : Jvm.MethodName) method_6_code (5 : Nat) (Option.some Jvm.ClassFile.FieldType.int) [((0 : Nat), (10 : Nat), (13 : Nat), (21 : Nat)), ((0 : Nat), (10 : Nat), (17 : Nat), (13 : Nat))]) ∈ TB := tb_3 76 rfl rfl
theorem tw_3_77 : (Jvm.Cond.methodLink "ToolCribLaw" (27 : Nat) ({ cls := "ToolCrib", name := "tool", desc := "(II)I" } : Jvm.MethodName)) ∈ TB := tb_3 77 rfl rfl
theorem tw_3_78 : (Jvm.Cond.instanceMethod ({ cls := "ToolCrib", name := "tool", desc := "(II)I" } : Jvm.MethodName)) ∈ TB := tb_3 78 rfl rfl
theorem tw_3_79 : (Jvm.Cond.selects "ToolCrib" ({ cls := "ToolCrib", name := "tool", desc := "(II)I" } : Jvm.MethodName) ({ cls := "ToolCrib", name := "tool", desc := "(II)I" } : Jvm.MethodName)) ∈ TB := tb_3 79 rfl rfl
theorem tw_3_80 : (Jvm.Cond.code ({ cls := "ToolCrib", name := "tool", desc := "(II)I" } : Jvm.MethodName) prog_1_method_5_code (3 : Nat) (Option.some Jvm.ClassFile.FieldType.int)) ∈ TB := tb_3 80 rfl rfl
theorem tw_3_83 : (Jvm.Cond.instantiable "ToolCrib$Tool" (8 : Nat)) ∈ TB := tb_3 83 rfl rfl
theorem tw_3_84 : (Jvm.Cond.methodLink "ToolCrib" (116 : Nat) ({ cls := "ToolCrib$Tool", name := "<init>", desc := "(III)V" } : Jvm.MethodName)) ∈ TB := tb_3 84 rfl rfl
theorem tw_3_85 : (Jvm.Cond.instanceMethod ({ cls := "ToolCrib$Tool", name := "<init>", desc := "(III)V" } : Jvm.MethodName)) ∈ TB := tb_3 85 rfl rfl
theorem tw_3_86 : (Jvm.Cond.code ({ cls := "ToolCrib$Tool", name := "<init>", desc := "(III)V" } : Jvm.MethodName) prog_7_method_1_code (4 : Nat) (Option.none : Option Jvm.ClassFile.FieldType)) ∈ TB := tb_3 86 rfl rfl
theorem tw_3_87 : (Jvm.Cond.methodLink "ToolCrib$Tool" (3 : Nat) ({ cls := "java/lang/Object", name := "<init>", desc := "()V" } : Jvm.MethodName)) ∈ TB := tb_3 87 rfl rfl
theorem tw_3_88 : (Jvm.Cond.fieldLink "ToolCrib$Tool" (15 : Nat) "ToolCrib$Tool" "number" "I") ∈ TB := tb_3 88 rfl rfl
theorem tw_3_89 : (Jvm.Cond.fieldLink "ToolCrib" (395 : Nat) "ToolCrib$Tool" "number" "I") ∈ TB := tb_3 89 rfl rfl
theorem tw_3_90 : (Jvm.Cond.fieldLink "ToolCrib$Tool" (19 : Nat) "ToolCrib$Tool" "kind" "I") ∈ TB := tb_3 90 rfl rfl
theorem tw_3_91 : (Jvm.Cond.fieldLink "ToolCrib" (310 : Nat) "ToolCrib$Tool" "kind" "I") ∈ TB := tb_3 91 rfl rfl
theorem tw_3_92 : (Jvm.Cond.fieldLink "ToolCrib$Tool" (22 : Nat) "ToolCrib$Tool" "life" "I") ∈ TB := tb_3 92 rfl rfl
theorem tw_3_93 : (Jvm.Cond.fieldLink "ToolCrib" (312 : Nat) "ToolCrib$Tool" "life" "I") ∈ TB := tb_3 93 rfl rfl
theorem tw_3_94 : (Jvm.Cond.fieldLink "ToolCrib$Tool" (9 : Nat) "ToolCrib$Tool" "latest" "[I") ∈ TB := tb_3 94 rfl rfl
theorem tw_3_95 : (Jvm.Cond.fieldLink "ToolCrib$Tool" (29 : Nat) "ToolCrib$Tool" "used" "I") ∈ TB := tb_3 95 rfl rfl
theorem tw_3_96 : (Jvm.Cond.fieldLink "ToolCrib" (315 : Nat) "ToolCrib$Tool" "used" "I") ∈ TB := tb_3 96 rfl rfl
theorem tw_3_97 : (Jvm.Cond.fieldLink "ToolCrib$Tool" (39 : Nat) "ToolCrib$Tool" "offset" "I") ∈ TB := tb_3 97 rfl rfl
theorem tw_3_98 : (Jvm.Cond.fieldLink "ToolCrib" (318 : Nat) "ToolCrib$Tool" "offset" "I") ∈ TB := tb_3 98 rfl rfl
theorem tw_3_99 : (Jvm.Cond.fieldLink "ToolCrib$Tool" (32 : Nat) "ToolCrib$Tool" "told" "I") ∈ TB := tb_3 99 rfl rfl
theorem tw_3_100 : (Jvm.Cond.fieldLink "ToolCrib" (321 : Nat) "ToolCrib$Tool" "told" "I") ∈ TB := tb_3 100 rfl rfl
theorem tw_3_101 : (Jvm.Cond.fieldLink "ToolCrib$Tool" (25 : Nat) "ToolCrib$Tool" "isIn" "Z") ∈ TB := tb_3 101 rfl rfl
theorem tw_3_102 : (Jvm.Cond.fieldLink "ToolCrib" (123 : Nat) "ToolCrib$Tool" "isIn" "Z") ∈ TB := tb_3 102 rfl rfl
theorem tw_3_103 : (Jvm.Cond.laysFinal "ToolCrib$Tool" "ToolCrib$Tool" "number" "I") ∈ TB := tb_3 103 rfl rfl
theorem tw_3_105 : (Jvm.Cond.laysFinal "ToolCrib$Tool" "ToolCrib$Tool" "kind" "I") ∈ TB := tb_3 105 rfl rfl
theorem tw_3_107 : (Jvm.Cond.laysFinal "ToolCrib$Tool" "ToolCrib$Tool" "life" "I") ∈ TB := tb_3 107 rfl rfl
theorem tw_3_109 : (Jvm.Cond.laysFinal "ToolCrib$Tool" "ToolCrib$Tool" "latest" "[I") ∈ TB := tb_3 109 rfl rfl
theorem tw_3_111 : (Jvm.Cond.lays "ToolCrib$Tool" "ToolCrib$Tool" "used" "I") ∈ TB := tb_3 111 rfl rfl
theorem tw_3_113 : (Jvm.Cond.lays "ToolCrib$Tool" "ToolCrib$Tool" "offset" "I") ∈ TB := tb_3 113 rfl rfl
theorem tw_3_115 : (Jvm.Cond.lays "ToolCrib$Tool" "ToolCrib$Tool" "told" "I") ∈ TB := tb_3 115 rfl rfl
theorem tw_3_117 : (Jvm.Cond.lays "ToolCrib$Tool" "ToolCrib$Tool" "isIn" "Z") ∈ TB := tb_3 117 rfl rfl
theorem tw_3_120 : (Jvm.Cond.methodLink "ToolCribLaw" (115 : Nat) ({ cls := "ToolCribLaw", name := "load", desc := "(LToolCrib;IZ[J)I" } : Jvm.MethodName)) ∈ TB := tb_3 120 rfl rfl
theorem tw_3_121 : (Jvm.Cond.static ({ cls := "ToolCribLaw", name := "load", desc := "(LToolCrib;IZ[J)I" } : Jvm.MethodName)) ∈ TB := tb_3 121 rfl rfl
theorem tw_3_122 : (Jvm.Cond.codeWith ({ cls := "ToolCribLaw", name := "load", desc := "(LToolCrib;IZ[J)I" } : Jvm.MethodName) method_7_code (5 : Nat) (Option.some Jvm.ClassFile.FieldType.int) [((0 : Nat), (10 : Nat), (13 : Nat), (19 : Nat)), ((0 : Nat), (10 : Nat), (17 : Nat), (13 : Nat))]) ∈ TB := tb_3 122 rfl rfl
theorem tw_3_123 : (Jvm.Cond.methodLink "ToolCribLaw" (30 : Nat) ({ cls := "ToolCrib", name := "load", desc := "(IZ)I" } : Jvm.MethodName)) ∈ TB := tb_3 123 rfl rfl
theorem tw_3_124 : (Jvm.Cond.instanceMethod ({ cls := "ToolCrib", name := "load", desc := "(IZ)I" } : Jvm.MethodName)) ∈ TB := tb_3 124 rfl rfl
theorem tw_3_125 : (Jvm.Cond.selects "ToolCrib" ({ cls := "ToolCrib", name := "load", desc := "(IZ)I" } : Jvm.MethodName) ({ cls := "ToolCrib", name := "load", desc := "(IZ)I" } : Jvm.MethodName)) ∈ TB := tb_3 125 rfl rfl
theorem tw_3_126 : (Jvm.Cond.code ({ cls := "ToolCrib", name := "load", desc := "(IZ)I" } : Jvm.MethodName) prog_1_method_6_code (4 : Nat) (Option.some Jvm.ClassFile.FieldType.int)) ∈ TB := tb_3 126 rfl rfl
theorem tw_3_127 : (Jvm.Cond.methodLink "ToolCrib" (119 : Nat) ({ cls := "ToolCrib", name := "toolAt", desc := "(I)LToolCrib$Tool;" } : Jvm.MethodName)) ∈ TB := tb_3 127 rfl rfl
theorem tw_3_129 : (Jvm.Cond.instanceMethod ({ cls := "ToolCrib", name := "toolAt", desc := "(I)LToolCrib$Tool;" } : Jvm.MethodName)) ∈ TB := tb_3 129 rfl rfl
theorem tw_3_130 : (Jvm.Cond.code ({ cls := "ToolCrib", name := "toolAt", desc := "(I)LToolCrib$Tool;" } : Jvm.MethodName) prog_1_method_30_code (2 : Nat) (Option.some (Jvm.ClassFile.FieldType.object "ToolCrib$Tool"))) ∈ TB := tb_3 130 rfl rfl
theorem tw_3_132 : (Jvm.Cond.methodLink "ToolCrib" (127 : Nat) ({ cls := "ToolCrib", name := "countLoaded", desc := "()I" } : Jvm.MethodName)) ∈ TB := tb_3 132 rfl rfl
theorem tw_3_134 : (Jvm.Cond.instanceMethod ({ cls := "ToolCrib", name := "countLoaded", desc := "()I" } : Jvm.MethodName)) ∈ TB := tb_3 134 rfl rfl
theorem tw_3_135 : (Jvm.Cond.code ({ cls := "ToolCrib", name := "countLoaded", desc := "()I" } : Jvm.MethodName) prog_1_method_39_code (3 : Nat) (Option.some Jvm.ClassFile.FieldType.int)) ∈ TB := tb_3 135 rfl rfl
theorem tw_3_137 : (Jvm.Cond.methodLink "ToolCribLaw" (119 : Nat) ({ cls := "ToolCribLaw", name := "pallet", desc := "(LToolCrib;I[J)I" } : Jvm.MethodName)) ∈ TB := tb_3 137 rfl rfl
theorem tw_3_138 : (Jvm.Cond.static ({ cls := "ToolCribLaw", name := "pallet", desc := "(LToolCrib;I[J)I" } : Jvm.MethodName)) ∈ TB := tb_3 138 rfl rfl
theorem tw_3_139 : (Jvm.Cond.codeWith ({ cls := "ToolCribLaw", name := "pallet", desc := "(LToolCrib;I[J)I" } : Jvm.MethodName) method_8_code (4 : Nat) (Option.some Jvm.ClassFile.FieldType.int) [((0 : Nat), (9 : Nat), (12 : Nat), (21 : Nat)), ((0 : Nat), (9 : Nat), (15 : Nat), (13 : Nat))]) ∈ TB := tb_3 139 rfl rfl
theorem tw_3_140 : (Jvm.Cond.methodLink "ToolCribLaw" (34 : Nat) ({ cls := "ToolCrib", name := "pallet", desc := "(I)I" } : Jvm.MethodName)) ∈ TB := tb_3 140 rfl rfl
theorem tw_3_141 : (Jvm.Cond.instanceMethod ({ cls := "ToolCrib", name := "pallet", desc := "(I)I" } : Jvm.MethodName)) ∈ TB := tb_3 141 rfl rfl
theorem tw_3_142 : (Jvm.Cond.selects "ToolCrib" ({ cls := "ToolCrib", name := "pallet", desc := "(I)I" } : Jvm.MethodName) ({ cls := "ToolCrib", name := "pallet", desc := "(I)I" } : Jvm.MethodName)) ∈ TB := tb_3 142 rfl rfl
theorem tw_3_143 : (Jvm.Cond.code ({ cls := "ToolCrib", name := "pallet", desc := "(I)I" } : Jvm.MethodName) prog_1_method_7_code (2 : Nat) (Option.some Jvm.ClassFile.FieldType.int)) ∈ TB := tb_3 143 rfl rfl
theorem tw_3_146 : (Jvm.Cond.instantiable "ToolCrib$Pallet" (10 : Nat)) ∈ TB := tb_3 146 rfl rfl
theorem tw_3_147 : (Jvm.Cond.methodLink "ToolCrib" (138 : Nat) ({ cls := "ToolCrib$Pallet", name := "<init>", desc := "(I)V" } : Jvm.MethodName)) ∈ TB := tb_3 147 rfl rfl
theorem tw_3_148 : (Jvm.Cond.instanceMethod ({ cls := "ToolCrib$Pallet", name := "<init>", desc := "(I)V" } : Jvm.MethodName)) ∈ TB := tb_3 148 rfl rfl
theorem tw_3_149 : (Jvm.Cond.code ({ cls := "ToolCrib$Pallet", name := "<init>", desc := "(I)V" } : Jvm.MethodName) prog_4_method_1_code (2 : Nat) (Option.none : Option Jvm.ClassFile.FieldType)) ∈ TB := tb_3 149 rfl rfl
theorem tw_3_150 : (Jvm.Cond.methodLink "ToolCrib$Pallet" (3 : Nat) ({ cls := "java/lang/Object", name := "<init>", desc := "()V" } : Jvm.MethodName)) ∈ TB := tb_3 150 rfl rfl
theorem tw_3_151 : (Jvm.Cond.methodLink "ToolCrib$Pallet" (37 : Nat) ({ cls := "java/util/Arrays", name := "fill", desc := "([II)V" } : Jvm.MethodName)) ∈ TB := tb_3 151 rfl rfl
theorem tw_3_152 : (Jvm.Cond.fieldLink "ToolCrib$Pallet" (9 : Nat) "ToolCrib$Pallet" "heights" "[I") ∈ TB := tb_3 152 rfl rfl
theorem tw_3_153 : (Jvm.Cond.fieldLink "ToolCrib$Trial" (18 : Nat) "ToolCrib$Pallet" "heights" "[I") ∈ TB := tb_3 153 rfl rfl
theorem tw_3_154 : (Jvm.Cond.fieldLink "ToolCrib" (326 : Nat) "ToolCrib$Pallet" "heights" "[I") ∈ TB := tb_3 154 rfl rfl
theorem tw_3_155 : (Jvm.Cond.fieldLink "ToolCrib$Pallet" (15 : Nat) "ToolCrib$Pallet" "sizes" "[I") ∈ TB := tb_3 155 rfl rfl
theorem tw_3_156 : (Jvm.Cond.fieldLink "ToolCrib" (282 : Nat) "ToolCrib$Pallet" "sizes" "[I") ∈ TB := tb_3 156 rfl rfl
theorem tw_3_157 : (Jvm.Cond.fieldLink "ToolCrib$Pallet" (18 : Nat) "ToolCrib$Pallet" "cutters" "[I") ∈ TB := tb_3 157 rfl rfl
theorem tw_3_158 : (Jvm.Cond.fieldLink "ToolCrib" (292 : Nat) "ToolCrib$Pallet" "cutters" "[I") ∈ TB := tb_3 158 rfl rfl
theorem tw_3_159 : (Jvm.Cond.fieldLink "ToolCrib$Pallet" (21 : Nat) "ToolCrib$Pallet" "causes" "[I") ∈ TB := tb_3 159 rfl rfl
theorem tw_3_160 : (Jvm.Cond.fieldLink "ToolCrib" (327 : Nat) "ToolCrib$Pallet" "causes" "[I") ∈ TB := tb_3 160 rfl rfl
theorem tw_3_161 : (Jvm.Cond.fieldLink "ToolCrib$Pallet" (24 : Nat) "ToolCrib$Pallet" "clamps" "[I") ∈ TB := tb_3 161 rfl rfl
theorem tw_3_162 : (Jvm.Cond.fieldLink "ToolCrib$Trial" (50 : Nat) "ToolCrib$Pallet" "clamps" "[I") ∈ TB := tb_3 162 rfl rfl
theorem tw_3_163 : (Jvm.Cond.fieldLink "ToolCrib" (154 : Nat) "ToolCrib$Pallet" "clamps" "[I") ∈ TB := tb_3 163 rfl rfl
theorem tw_3_164 : (Jvm.Cond.fieldLink "ToolCrib" (157 : Nat) "ToolCrib$Pallet" "clamped" "I") ∈ TB := tb_3 164 rfl rfl
theorem tw_3_165 : (Jvm.Cond.fieldLink "ToolCrib$Pallet" (27 : Nat) "ToolCrib$Pallet" "state" "I") ∈ TB := tb_3 165 rfl rfl
theorem tw_3_166 : (Jvm.Cond.fieldLink "ToolCrib" (151 : Nat) "ToolCrib$Pallet" "state" "I") ∈ TB := tb_3 166 rfl rfl
theorem tw_3_167 : (Jvm.Cond.fieldLink "ToolCrib$Pallet" (31 : Nat) "ToolCrib$Pallet" "program" "I") ∈ TB := tb_3 167 rfl rfl
theorem tw_3_168 : (Jvm.Cond.fieldLink "ToolCrib" (176 : Nat) "ToolCrib$Pallet" "program" "I") ∈ TB := tb_3 168 rfl rfl
theorem tw_3_169 : (Jvm.Cond.fieldLink "ToolCrib" (199 : Nat) "ToolCrib$Pallet" "gone" "I") ∈ TB := tb_3 169 rfl rfl
theorem tw_3_170 : (Jvm.Cond.fieldLink "ToolCrib$Pallet" (34 : Nat) "ToolCrib$Pallet" "judged" "I") ∈ TB := tb_3 170 rfl rfl
theorem tw_3_171 : (Jvm.Cond.fieldLink "ToolCrib" (304 : Nat) "ToolCrib$Pallet" "judged" "I") ∈ TB := tb_3 171 rfl rfl
theorem tw_3_172 : (Jvm.Cond.laysFinal "ToolCrib$Pallet" "ToolCrib$Pallet" "heights" "[I") ∈ TB := tb_3 172 rfl rfl
theorem tw_3_174 : (Jvm.Cond.laysFinal "ToolCrib$Pallet" "ToolCrib$Pallet" "sizes" "[I") ∈ TB := tb_3 174 rfl rfl
theorem tw_3_176 : (Jvm.Cond.laysFinal "ToolCrib$Pallet" "ToolCrib$Pallet" "cutters" "[I") ∈ TB := tb_3 176 rfl rfl
theorem tw_3_178 : (Jvm.Cond.laysFinal "ToolCrib$Pallet" "ToolCrib$Pallet" "causes" "[I") ∈ TB := tb_3 178 rfl rfl
theorem tw_3_180 : (Jvm.Cond.laysFinal "ToolCrib$Pallet" "ToolCrib$Pallet" "clamps" "[I") ∈ TB := tb_3 180 rfl rfl
theorem tw_3_182 : (Jvm.Cond.lays "ToolCrib$Pallet" "ToolCrib$Pallet" "clamped" "I") ∈ TB := tb_3 182 rfl rfl
theorem tw_3_184 : (Jvm.Cond.lays "ToolCrib$Pallet" "ToolCrib$Pallet" "state" "I") ∈ TB := tb_3 184 rfl rfl
theorem tw_3_186 : (Jvm.Cond.lays "ToolCrib$Pallet" "ToolCrib$Pallet" "program" "I") ∈ TB := tb_3 186 rfl rfl
theorem tw_3_188 : (Jvm.Cond.lays "ToolCrib$Pallet" "ToolCrib$Pallet" "gone" "I") ∈ TB := tb_3 188 rfl rfl
theorem tw_3_190 : (Jvm.Cond.lays "ToolCrib$Pallet" "ToolCrib$Pallet" "judged" "I") ∈ TB := tb_3 190 rfl rfl
theorem tw_3_193 : (Jvm.Cond.methodLink "ToolCribLaw" (123 : Nat) ({ cls := "ToolCribLaw", name := "clamp", desc := "(LToolCrib;IIII[J)I" } : Jvm.MethodName)) ∈ TB := tb_3 193 rfl rfl
theorem tw_3_194 : (Jvm.Cond.static ({ cls := "ToolCribLaw", name := "clamp", desc := "(LToolCrib;IIII[J)I" } : Jvm.MethodName)) ∈ TB := tb_3 194 rfl rfl
theorem tw_3_195 : (Jvm.Cond.codeWith ({ cls := "ToolCribLaw", name := "clamp", desc := "(LToolCrib;IIII[J)I" } : Jvm.MethodName) method_9_code (7 : Nat) (Option.some Jvm.ClassFile.FieldType.int) [((0 : Nat), (14 : Nat), (17 : Nat), (19 : Nat)), ((0 : Nat), (14 : Nat), (21 : Nat), (21 : Nat)), ((0 : Nat), (14 : Nat), (25 : Nat), (13 : Nat))]) ∈ TB := tb_3 195 rfl rfl
theorem tw_3_196 : (Jvm.Cond.methodLink "ToolCribLaw" (38 : Nat) ({ cls := "ToolCrib", name := "clamp", desc := "(IIII)I" } : Jvm.MethodName)) ∈ TB := tb_3 196 rfl rfl
theorem tw_3_197 : (Jvm.Cond.instanceMethod ({ cls := "ToolCrib", name := "clamp", desc := "(IIII)I" } : Jvm.MethodName)) ∈ TB := tb_3 197 rfl rfl
theorem tw_3_198 : (Jvm.Cond.selects "ToolCrib" ({ cls := "ToolCrib", name := "clamp", desc := "(IIII)I" } : Jvm.MethodName) ({ cls := "ToolCrib", name := "clamp", desc := "(IIII)I" } : Jvm.MethodName)) ∈ TB := tb_3 198 rfl rfl
theorem tw_3_199 : (Jvm.Cond.code ({ cls := "ToolCrib", name := "clamp", desc := "(IIII)I" } : Jvm.MethodName) prog_1_method_8_code (7 : Nat) (Option.some Jvm.ClassFile.FieldType.int)) ∈ TB := tb_3 199 rfl rfl
theorem tw_3_200 : (Jvm.Cond.methodLink "ToolCrib" (141 : Nat) ({ cls := "ToolCrib", name := "palletAt", desc := "(I)LToolCrib$Pallet;" } : Jvm.MethodName)) ∈ TB := tb_3 200 rfl rfl
theorem tw_3_202 : (Jvm.Cond.instanceMethod ({ cls := "ToolCrib", name := "palletAt", desc := "(I)LToolCrib$Pallet;" } : Jvm.MethodName)) ∈ TB := tb_3 202 rfl rfl
theorem tw_3_203 : (Jvm.Cond.code ({ cls := "ToolCrib", name := "palletAt", desc := "(I)LToolCrib$Pallet;" } : Jvm.MethodName) prog_1_method_31_code (2 : Nat) (Option.some (Jvm.ClassFile.FieldType.object "ToolCrib$Pallet"))) ∈ TB := tb_3 203 rfl rfl
theorem tw_3_205 : (Jvm.Cond.methodLink "ToolCrib" (145 : Nat) ({ cls := "ToolCrib", name := "cellAt", desc := "(II)I" } : Jvm.MethodName)) ∈ TB := tb_3 205 rfl rfl
theorem tw_3_207 : (Jvm.Cond.instanceMethod ({ cls := "ToolCrib", name := "cellAt", desc := "(II)I" } : Jvm.MethodName)) ∈ TB := tb_3 207 rfl rfl
theorem tw_3_208 : (Jvm.Cond.code ({ cls := "ToolCrib", name := "cellAt", desc := "(II)I" } : Jvm.MethodName) prog_1_method_32_code (3 : Nat) (Option.some Jvm.ClassFile.FieldType.int)) ∈ TB := tb_3 208 rfl rfl
theorem tw_3_212 : (Jvm.Cond.methodLink "ToolCribLaw" (127 : Nat) ({ cls := "ToolCribLaw", name := "prove", desc := "(LToolCrib;II[J)I" } : Jvm.MethodName)) ∈ TB := tb_3 212 rfl rfl
theorem tw_3_213 : (Jvm.Cond.static ({ cls := "ToolCribLaw", name := "prove", desc := "(LToolCrib;II[J)I" } : Jvm.MethodName)) ∈ TB := tb_3 213 rfl rfl
theorem tw_3_214 : (Jvm.Cond.codeWith ({ cls := "ToolCribLaw", name := "prove", desc := "(LToolCrib;II[J)I" } : Jvm.MethodName) method_10_code (5 : Nat) (Option.some Jvm.ClassFile.FieldType.int) [((0 : Nat), (10 : Nat), (13 : Nat), (19 : Nat))]) ∈ TB := tb_3 214 rfl rfl
theorem tw_3_215 : (Jvm.Cond.methodLink "ToolCribLaw" (42 : Nat) ({ cls := "ToolCrib", name := "prove", desc := "(II)I" } : Jvm.MethodName)) ∈ TB := tb_3 215 rfl rfl
theorem tw_3_216 : (Jvm.Cond.instanceMethod ({ cls := "ToolCrib", name := "prove", desc := "(II)I" } : Jvm.MethodName)) ∈ TB := tb_3 216 rfl rfl
theorem tw_3_217 : (Jvm.Cond.selects "ToolCrib" ({ cls := "ToolCrib", name := "prove", desc := "(II)I" } : Jvm.MethodName) ({ cls := "ToolCrib", name := "prove", desc := "(II)I" } : Jvm.MethodName)) ∈ TB := tb_3 217 rfl rfl
theorem tw_3_218 : (Jvm.Cond.code ({ cls := "ToolCrib", name := "prove", desc := "(II)I" } : Jvm.MethodName) prog_1_method_9_code (3 : Nat) (Option.some Jvm.ClassFile.FieldType.int)) ∈ TB := tb_3 218 rfl rfl
theorem tw_3_219 : (Jvm.Cond.methodLink "ToolCrib" (162 : Nat) ({ cls := "ToolCrib", name := "tryWhole", desc := "(II)V" } : Jvm.MethodName)) ∈ TB := tb_3 219 rfl rfl
theorem tw_3_221 : (Jvm.Cond.instanceMethod ({ cls := "ToolCrib", name := "tryWhole", desc := "(II)V" } : Jvm.MethodName)) ∈ TB := tb_3 221 rfl rfl
theorem tw_3_222 : (Jvm.Cond.code ({ cls := "ToolCrib", name := "tryWhole", desc := "(II)V" } : Jvm.MethodName) prog_1_method_43_code (4 : Nat) (Option.none : Option Jvm.ClassFile.FieldType)) ∈ TB := tb_3 222 rfl rfl
theorem tw_3_223 : (Jvm.Cond.methodLink "ToolCribLaw" (130 : Nat) ({ cls := "ToolCribLaw", name := "takes", desc := "(LToolCrib;II[J)I" } : Jvm.MethodName)) ∈ TB := tb_3 223 rfl rfl
theorem tw_3_224 : (Jvm.Cond.static ({ cls := "ToolCribLaw", name := "takes", desc := "(LToolCrib;II[J)I" } : Jvm.MethodName)) ∈ TB := tb_3 224 rfl rfl
theorem tw_3_225 : (Jvm.Cond.codeWith ({ cls := "ToolCribLaw", name := "takes", desc := "(LToolCrib;II[J)I" } : Jvm.MethodName) method_11_code (5 : Nat) (Option.some Jvm.ClassFile.FieldType.int) [((0 : Nat), (10 : Nat), (13 : Nat), (19 : Nat))]) ∈ TB := tb_3 225 rfl rfl
theorem tw_3_226 : (Jvm.Cond.methodLink "ToolCribLaw" (45 : Nat) ({ cls := "ToolCrib", name := "takes", desc := "(II)I" } : Jvm.MethodName)) ∈ TB := tb_3 226 rfl rfl
theorem tw_3_227 : (Jvm.Cond.instanceMethod ({ cls := "ToolCrib", name := "takes", desc := "(II)I" } : Jvm.MethodName)) ∈ TB := tb_3 227 rfl rfl
theorem tw_3_228 : (Jvm.Cond.selects "ToolCrib" ({ cls := "ToolCrib", name := "takes", desc := "(II)I" } : Jvm.MethodName) ({ cls := "ToolCrib", name := "takes", desc := "(II)I" } : Jvm.MethodName)) ∈ TB := tb_3 228 rfl rfl
theorem tw_3_229 : (Jvm.Cond.code ({ cls := "ToolCrib", name := "takes", desc := "(II)I" } : Jvm.MethodName) prog_1_method_10_code (3 : Nat) (Option.some Jvm.ClassFile.FieldType.int)) ∈ TB := tb_3 229 rfl rfl
theorem tw_3_230 : (Jvm.Cond.methodLink "ToolCribLaw" (133 : Nat) ({ cls := "ToolCribLaw", name := "plan", desc := "(LToolCrib;II[J)I" } : Jvm.MethodName)) ∈ TB := tb_3 230 rfl rfl
theorem tw_3_231 : (Jvm.Cond.static ({ cls := "ToolCribLaw", name := "plan", desc := "(LToolCrib;II[J)I" } : Jvm.MethodName)) ∈ TB := tb_3 231 rfl rfl
theorem tw_3_232 : (Jvm.Cond.codeWith ({ cls := "ToolCribLaw", name := "plan", desc := "(LToolCrib;II[J)I" } : Jvm.MethodName) method_12_code (5 : Nat) (Option.some Jvm.ClassFile.FieldType.int) [((0 : Nat), (10 : Nat), (13 : Nat), (19 : Nat)), ((0 : Nat), (10 : Nat), (17 : Nat), (13 : Nat))]) ∈ TB := tb_3 232 rfl rfl
theorem tw_3_233 : (Jvm.Cond.methodLink "ToolCribLaw" (48 : Nat) ({ cls := "ToolCrib", name := "plan", desc := "(II)I" } : Jvm.MethodName)) ∈ TB := tb_3 233 rfl rfl
theorem tw_3_234 : (Jvm.Cond.instanceMethod ({ cls := "ToolCrib", name := "plan", desc := "(II)I" } : Jvm.MethodName)) ∈ TB := tb_3 234 rfl rfl
theorem tw_3_235 : (Jvm.Cond.selects "ToolCrib" ({ cls := "ToolCrib", name := "plan", desc := "(II)I" } : Jvm.MethodName) ({ cls := "ToolCrib", name := "plan", desc := "(II)I" } : Jvm.MethodName)) ∈ TB := tb_3 235 rfl rfl
theorem tw_3_236 : (Jvm.Cond.code ({ cls := "ToolCrib", name := "plan", desc := "(II)I" } : Jvm.MethodName) prog_1_method_11_code (4 : Nat) (Option.some Jvm.ClassFile.FieldType.int)) ∈ TB := tb_3 236 rfl rfl
theorem tw_3_238 : (Jvm.Cond.methodLink "ToolCribLaw" (144 : Nat) ({ cls := "ToolCribLaw", name := "lacks", desc := "(LToolCrib;I[J)I" } : Jvm.MethodName)) ∈ TB := tb_3 238 rfl rfl
theorem tw_3_239 : (Jvm.Cond.static ({ cls := "ToolCribLaw", name := "lacks", desc := "(LToolCrib;I[J)I" } : Jvm.MethodName)) ∈ TB := tb_3 239 rfl rfl
theorem tw_4_0 : (Jvm.Cond.codeWith ({ cls := "ToolCribLaw", name := "lacks", desc := "(LToolCrib;I[J)I" } : Jvm.MethodName) method_13_code (4 : Nat) (Option.some Jvm.ClassFile.FieldType.int) [((0 : Nat), (9 : Nat), (12 : Nat), (21 : Nat))]) ∈ TB := tb_4 0 rfl rfl
theorem tw_4_1 : (Jvm.Cond.methodLink "ToolCribLaw" (51 : Nat) ({ cls := "ToolCrib", name := "lacks", desc := "(I)I" } : Jvm.MethodName)) ∈ TB := tb_4 1 rfl rfl
theorem tw_4_2 : (Jvm.Cond.instanceMethod ({ cls := "ToolCrib", name := "lacks", desc := "(I)I" } : Jvm.MethodName)) ∈ TB := tb_4 2 rfl rfl
theorem tw_4_3 : (Jvm.Cond.selects "ToolCrib" ({ cls := "ToolCrib", name := "lacks", desc := "(I)I" } : Jvm.MethodName) ({ cls := "ToolCrib", name := "lacks", desc := "(I)I" } : Jvm.MethodName)) ∈ TB := tb_4 3 rfl rfl
theorem tw_4_4 : (Jvm.Cond.code ({ cls := "ToolCrib", name := "lacks", desc := "(I)I" } : Jvm.MethodName) prog_1_method_14_code (5 : Nat) (Option.some Jvm.ClassFile.FieldType.int)) ∈ TB := tb_4 4 rfl rfl
theorem tw_4_6 : (Jvm.Cond.methodLink "ToolCrib" (209 : Nat) ({ cls := "java/lang/Math", name := "max", desc := "(II)I" } : Jvm.MethodName)) ∈ TB := tb_4 6 rfl rfl
theorem tw_4_7 : (Jvm.Cond.methodLink "ToolCribLaw" (147 : Nat) ({ cls := "ToolCribLaw", name := "idle", desc := "(LToolCrib;I[J)I" } : Jvm.MethodName)) ∈ TB := tb_4 7 rfl rfl
theorem tw_4_8 : (Jvm.Cond.static ({ cls := "ToolCribLaw", name := "idle", desc := "(LToolCrib;I[J)I" } : Jvm.MethodName)) ∈ TB := tb_4 8 rfl rfl
theorem tw_4_9 : (Jvm.Cond.codeWith ({ cls := "ToolCribLaw", name := "idle", desc := "(LToolCrib;I[J)I" } : Jvm.MethodName) method_14_code (4 : Nat) (Option.some Jvm.ClassFile.FieldType.int) [((0 : Nat), (9 : Nat), (12 : Nat), (21 : Nat)), ((0 : Nat), (9 : Nat), (15 : Nat), (13 : Nat))]) ∈ TB := tb_4 9 rfl rfl
theorem tw_4_10 : (Jvm.Cond.methodLink "ToolCribLaw" (54 : Nat) ({ cls := "ToolCrib", name := "idle", desc := "(I)I" } : Jvm.MethodName)) ∈ TB := tb_4 10 rfl rfl
theorem tw_4_11 : (Jvm.Cond.instanceMethod ({ cls := "ToolCrib", name := "idle", desc := "(I)I" } : Jvm.MethodName)) ∈ TB := tb_4 11 rfl rfl
theorem tw_4_12 : (Jvm.Cond.selects "ToolCrib" ({ cls := "ToolCrib", name := "idle", desc := "(I)I" } : Jvm.MethodName) ({ cls := "ToolCrib", name := "idle", desc := "(I)I" } : Jvm.MethodName)) ∈ TB := tb_4 12 rfl rfl
theorem tw_4_13 : (Jvm.Cond.code ({ cls := "ToolCrib", name := "idle", desc := "(I)I" } : Jvm.MethodName) prog_1_method_15_code (2 : Nat) (Option.some Jvm.ClassFile.FieldType.int)) ∈ TB := tb_4 13 rfl rfl
theorem tw_4_15 : (Jvm.Cond.constant "ToolCrib" (219 : Nat) (1000000 : Int32)) ∈ TB := tb_4 15 rfl rfl
theorem tw_4_17 : (Jvm.Cond.methodLink "ToolCribLaw" (150 : Nat) ({ cls := "ToolCribLaw", name := "calibrate", desc := "(LToolCrib;II[J)I" } : Jvm.MethodName)) ∈ TB := tb_4 17 rfl rfl
theorem tw_4_18 : (Jvm.Cond.static ({ cls := "ToolCribLaw", name := "calibrate", desc := "(LToolCrib;II[J)I" } : Jvm.MethodName)) ∈ TB := tb_4 18 rfl rfl
theorem tw_4_19 : (Jvm.Cond.codeWith ({ cls := "ToolCribLaw", name := "calibrate", desc := "(LToolCrib;II[J)I" } : Jvm.MethodName) method_15_code (5 : Nat) (Option.some Jvm.ClassFile.FieldType.int) [((0 : Nat), (10 : Nat), (13 : Nat), (19 : Nat)), ((0 : Nat), (10 : Nat), (17 : Nat), (21 : Nat))]) ∈ TB := tb_4 19 rfl rfl
theorem tw_4_20 : (Jvm.Cond.methodLink "ToolCribLaw" (57 : Nat) ({ cls := "ToolCrib", name := "calibrate", desc := "(II)I" } : Jvm.MethodName)) ∈ TB := tb_4 20 rfl rfl
theorem tw_4_21 : (Jvm.Cond.instanceMethod ({ cls := "ToolCrib", name := "calibrate", desc := "(II)I" } : Jvm.MethodName)) ∈ TB := tb_4 21 rfl rfl
theorem tw_4_22 : (Jvm.Cond.selects "ToolCrib" ({ cls := "ToolCrib", name := "calibrate", desc := "(II)I" } : Jvm.MethodName) ({ cls := "ToolCrib", name := "calibrate", desc := "(II)I" } : Jvm.MethodName)) ∈ TB := tb_4 22 rfl rfl
theorem tw_4_23 : (Jvm.Cond.code ({ cls := "ToolCrib", name := "calibrate", desc := "(II)I" } : Jvm.MethodName) prog_1_method_16_code (4 : Nat) (Option.some Jvm.ClassFile.FieldType.int)) ∈ TB := tb_4 23 rfl rfl
theorem tw_4_24 : (Jvm.Cond.methodLink "ToolCrib" (225 : Nat) ({ cls := "ToolCrib", name := "gaugeAt", desc := "(I)LToolCrib$Gauge;" } : Jvm.MethodName)) ∈ TB := tb_4 24 rfl rfl
theorem tw_4_26 : (Jvm.Cond.instanceMethod ({ cls := "ToolCrib", name := "gaugeAt", desc := "(I)LToolCrib$Gauge;" } : Jvm.MethodName)) ∈ TB := tb_4 26 rfl rfl
theorem tw_4_27 : (Jvm.Cond.code ({ cls := "ToolCrib", name := "gaugeAt", desc := "(I)LToolCrib$Gauge;" } : Jvm.MethodName) prog_1_method_33_code (2 : Nat) (Option.some (Jvm.ClassFile.FieldType.object "ToolCrib$Gauge"))) ∈ TB := tb_4 27 rfl rfl
theorem tw_4_30 : (Jvm.Cond.methodLink "ToolCribLaw" (153 : Nat) ({ cls := "ToolCribLaw", name := "drawing", desc := "(LToolCrib;[J)I" } : Jvm.MethodName)) ∈ TB := tb_4 30 rfl rfl
theorem tw_4_31 : (Jvm.Cond.static ({ cls := "ToolCribLaw", name := "drawing", desc := "(LToolCrib;[J)I" } : Jvm.MethodName)) ∈ TB := tb_4 31 rfl rfl
theorem tw_4_32 : (Jvm.Cond.codeWith ({ cls := "ToolCribLaw", name := "drawing", desc := "(LToolCrib;[J)I" } : Jvm.MethodName) method_16_code (3 : Nat) (Option.some Jvm.ClassFile.FieldType.int) [((0 : Nat), (8 : Nat), (11 : Nat), (13 : Nat))]) ∈ TB := tb_4 32 rfl rfl
theorem tw_4_33 : (Jvm.Cond.methodLink "ToolCribLaw" (60 : Nat) ({ cls := "ToolCrib", name := "drawing", desc := "()I" } : Jvm.MethodName)) ∈ TB := tb_4 33 rfl rfl
theorem tw_4_34 : (Jvm.Cond.instanceMethod ({ cls := "ToolCrib", name := "drawing", desc := "()I" } : Jvm.MethodName)) ∈ TB := tb_4 34 rfl rfl
theorem tw_4_35 : (Jvm.Cond.selects "ToolCrib" ({ cls := "ToolCrib", name := "drawing", desc := "()I" } : Jvm.MethodName) ({ cls := "ToolCrib", name := "drawing", desc := "()I" } : Jvm.MethodName)) ∈ TB := tb_4 35 rfl rfl
theorem tw_4_36 : (Jvm.Cond.code ({ cls := "ToolCrib", name := "drawing", desc := "()I" } : Jvm.MethodName) prog_1_method_17_code (1 : Nat) (Option.some Jvm.ClassFile.FieldType.int)) ∈ TB := tb_4 36 rfl rfl
theorem tw_4_38 : (Jvm.Cond.classLink "ToolCrib" (238 : Nat) "ToolCrib$Drawing") ∈ TB := tb_4 38 rfl rfl
theorem tw_4_39 : (Jvm.Cond.instantiable "ToolCrib$Drawing" (6 : Nat)) ∈ TB := tb_4 39 rfl rfl
theorem tw_4_41 : (Jvm.Cond.instanceMethod ({ cls := "ToolCrib$Drawing", name := "<init>", desc := "()V" } : Jvm.MethodName)) ∈ TB := tb_4 41 rfl rfl
theorem tw_4_42 : (Jvm.Cond.code ({ cls := "ToolCrib$Drawing", name := "<init>", desc := "()V" } : Jvm.MethodName) prog_2_method_1_code (1 : Nat) (Option.none : Option Jvm.ClassFile.FieldType)) ∈ TB := tb_4 42 rfl rfl
theorem tw_4_43 : (Jvm.Cond.methodLink "ToolCrib$Drawing" (3 : Nat) ({ cls := "java/lang/Object", name := "<init>", desc := "()V" } : Jvm.MethodName)) ∈ TB := tb_4 43 rfl rfl
theorem tw_4_44 : (Jvm.Cond.fieldLink "ToolCrib$Drawing" (9 : Nat) "ToolCrib$Drawing" "cells" "[I") ∈ TB := tb_4 44 rfl rfl
theorem tw_4_45 : (Jvm.Cond.fieldLink "ToolCrib" (279 : Nat) "ToolCrib$Drawing" "cells" "[I") ∈ TB := tb_4 45 rfl rfl
theorem tw_4_46 : (Jvm.Cond.fieldLink "ToolCrib$Drawing" (15 : Nat) "ToolCrib$Drawing" "heights" "[I") ∈ TB := tb_4 46 rfl rfl
theorem tw_4_47 : (Jvm.Cond.fieldLink "ToolCrib" (288 : Nat) "ToolCrib$Drawing" "heights" "[I") ∈ TB := tb_4 47 rfl rfl
theorem tw_4_48 : (Jvm.Cond.fieldLink "ToolCrib$Drawing" (18 : Nat) "ToolCrib$Drawing" "tolerances" "[I") ∈ TB := tb_4 48 rfl rfl
theorem tw_4_49 : (Jvm.Cond.fieldLink "ToolCrib$Drawing" (21 : Nat) "ToolCrib$Drawing" "more" "[I") ∈ TB := tb_4 49 rfl rfl
theorem tw_4_50 : (Jvm.Cond.fieldLink "ToolCrib" (259 : Nat) "ToolCrib$Drawing" "more" "[I") ∈ TB := tb_4 50 rfl rfl
theorem tw_4_51 : (Jvm.Cond.fieldLink "ToolCrib$Drawing" (24 : Nat) "ToolCrib$Drawing" "papersLeft" "[I") ∈ TB := tb_4 51 rfl rfl
theorem tw_4_52 : (Jvm.Cond.fieldLink "ToolCrib" (262 : Nat) "ToolCrib$Drawing" "papersLeft" "[I") ∈ TB := tb_4 52 rfl rfl
theorem tw_4_53 : (Jvm.Cond.fieldLink "ToolCrib$Drawing" (27 : Nat) "ToolCrib$Drawing" "size" "I") ∈ TB := tb_4 53 rfl rfl
theorem tw_4_54 : (Jvm.Cond.fieldLink "ToolCrib" (247 : Nat) "ToolCrib$Drawing" "size" "I") ∈ TB := tb_4 54 rfl rfl
theorem tw_4_55 : (Jvm.Cond.laysFinal "ToolCrib$Drawing" "ToolCrib$Drawing" "cells" "[I") ∈ TB := tb_4 55 rfl rfl
theorem tw_4_57 : (Jvm.Cond.laysFinal "ToolCrib$Drawing" "ToolCrib$Drawing" "heights" "[I") ∈ TB := tb_4 57 rfl rfl
theorem tw_4_59 : (Jvm.Cond.laysFinal "ToolCrib$Drawing" "ToolCrib$Drawing" "tolerances" "[I") ∈ TB := tb_4 59 rfl rfl
theorem tw_4_61 : (Jvm.Cond.laysFinal "ToolCrib$Drawing" "ToolCrib$Drawing" "more" "[I") ∈ TB := tb_4 61 rfl rfl
theorem tw_4_63 : (Jvm.Cond.laysFinal "ToolCrib$Drawing" "ToolCrib$Drawing" "papersLeft" "[I") ∈ TB := tb_4 63 rfl rfl
theorem tw_4_65 : (Jvm.Cond.lays "ToolCrib$Drawing" "ToolCrib$Drawing" "size" "I") ∈ TB := tb_4 65 rfl rfl
theorem tw_4_68 : (Jvm.Cond.methodLink "ToolCribLaw" (156 : Nat) ({ cls := "ToolCribLaw", name := "feature", desc := "(LToolCrib;IIIII[J)I" } : Jvm.MethodName)) ∈ TB := tb_4 68 rfl rfl
theorem tw_4_69 : (Jvm.Cond.static ({ cls := "ToolCribLaw", name := "feature", desc := "(LToolCrib;IIIII[J)I" } : Jvm.MethodName)) ∈ TB := tb_4 69 rfl rfl
theorem tw_4_70 : (Jvm.Cond.codeWith ({ cls := "ToolCribLaw", name := "feature", desc := "(LToolCrib;IIIII[J)I" } : Jvm.MethodName) method_17_code (8 : Nat) (Option.some Jvm.ClassFile.FieldType.int) [((0 : Nat), (16 : Nat), (19 : Nat), (19 : Nat)), ((0 : Nat), (16 : Nat), (23 : Nat), (21 : Nat)), ((0 : Nat), (16 : Nat), (27 : Nat), (13 : Nat))]) ∈ TB := tb_4 70 rfl rfl
theorem tw_4_71 : (Jvm.Cond.methodLink "ToolCribLaw" (63 : Nat) ({ cls := "ToolCrib", name := "feature", desc := "(IIIII)I" } : Jvm.MethodName)) ∈ TB := tb_4 71 rfl rfl
theorem tw_4_72 : (Jvm.Cond.instanceMethod ({ cls := "ToolCrib", name := "feature", desc := "(IIIII)I" } : Jvm.MethodName)) ∈ TB := tb_4 72 rfl rfl
theorem tw_4_73 : (Jvm.Cond.selects "ToolCrib" ({ cls := "ToolCrib", name := "feature", desc := "(IIIII)I" } : Jvm.MethodName) ({ cls := "ToolCrib", name := "feature", desc := "(IIIII)I" } : Jvm.MethodName)) ∈ TB := tb_4 73 rfl rfl
theorem tw_4_74 : (Jvm.Cond.code ({ cls := "ToolCrib", name := "feature", desc := "(IIIII)I" } : Jvm.MethodName) prog_1_method_18_code (8 : Nat) (Option.some Jvm.ClassFile.FieldType.int)) ∈ TB := tb_4 74 rfl rfl
theorem tw_4_75 : (Jvm.Cond.methodLink "ToolCrib" (241 : Nat) ({ cls := "ToolCrib", name := "drawingAt", desc := "(I)LToolCrib$Drawing;" } : Jvm.MethodName)) ∈ TB := tb_4 75 rfl rfl
theorem tw_4_77 : (Jvm.Cond.instanceMethod ({ cls := "ToolCrib", name := "drawingAt", desc := "(I)LToolCrib$Drawing;" } : Jvm.MethodName)) ∈ TB := tb_4 77 rfl rfl
theorem tw_4_78 : (Jvm.Cond.code ({ cls := "ToolCrib", name := "drawingAt", desc := "(I)LToolCrib$Drawing;" } : Jvm.MethodName) prog_1_method_34_code (2 : Nat) (Option.some (Jvm.ClassFile.FieldType.object "ToolCrib$Drawing"))) ∈ TB := tb_4 78 rfl rfl
theorem tw_4_82 : (Jvm.Cond.methodLink "ToolCrib" (250 : Nat) ({ cls := "ToolCrib$Drawing", name := "append", desc := "(III)V" } : Jvm.MethodName)) ∈ TB := tb_4 82 rfl rfl
theorem tw_4_83 : (Jvm.Cond.instanceMethod ({ cls := "ToolCrib$Drawing", name := "append", desc := "(III)V" } : Jvm.MethodName)) ∈ TB := tb_4 83 rfl rfl
theorem tw_4_84 : (Jvm.Cond.selects "ToolCrib$Drawing" ({ cls := "ToolCrib$Drawing", name := "append", desc := "(III)V" } : Jvm.MethodName) ({ cls := "ToolCrib$Drawing", name := "append", desc := "(III)V" } : Jvm.MethodName)) ∈ TB := tb_4 84 rfl rfl
theorem tw_4_85 : (Jvm.Cond.code ({ cls := "ToolCrib$Drawing", name := "append", desc := "(III)V" } : Jvm.MethodName) prog_2_method_2_code (4 : Nat) (Option.none : Option Jvm.ClassFile.FieldType)) ∈ TB := tb_4 85 rfl rfl
theorem tw_4_86 : (Jvm.Cond.methodLink "ToolCribLaw" (160 : Nat) ({ cls := "ToolCribLaw", name := "allow", desc := "(LToolCrib;IIII[J)I" } : Jvm.MethodName)) ∈ TB := tb_4 86 rfl rfl
theorem tw_4_87 : (Jvm.Cond.static ({ cls := "ToolCribLaw", name := "allow", desc := "(LToolCrib;IIII[J)I" } : Jvm.MethodName)) ∈ TB := tb_4 87 rfl rfl
theorem tw_4_88 : (Jvm.Cond.codeWith ({ cls := "ToolCribLaw", name := "allow", desc := "(LToolCrib;IIII[J)I" } : Jvm.MethodName) method_18_code (7 : Nat) (Option.some Jvm.ClassFile.FieldType.int) [((0 : Nat), (14 : Nat), (17 : Nat), (19 : Nat)), ((0 : Nat), (14 : Nat), (21 : Nat), (21 : Nat))]) ∈ TB := tb_4 88 rfl rfl
theorem tw_4_89 : (Jvm.Cond.methodLink "ToolCribLaw" (67 : Nat) ({ cls := "ToolCrib", name := "allow", desc := "(IIII)I" } : Jvm.MethodName)) ∈ TB := tb_4 89 rfl rfl
theorem tw_4_90 : (Jvm.Cond.instanceMethod ({ cls := "ToolCrib", name := "allow", desc := "(IIII)I" } : Jvm.MethodName)) ∈ TB := tb_4 90 rfl rfl
theorem tw_4_91 : (Jvm.Cond.selects "ToolCrib" ({ cls := "ToolCrib", name := "allow", desc := "(IIII)I" } : Jvm.MethodName) ({ cls := "ToolCrib", name := "allow", desc := "(IIII)I" } : Jvm.MethodName)) ∈ TB := tb_4 91 rfl rfl
theorem tw_4_92 : (Jvm.Cond.code ({ cls := "ToolCrib", name := "allow", desc := "(IIII)I" } : Jvm.MethodName) prog_1_method_19_code (6 : Nat) (Option.some Jvm.ClassFile.FieldType.int)) ∈ TB := tb_4 92 rfl rfl
theorem tw_4_95 : (Jvm.Cond.methodLink "ToolCrib" (265 : Nat) ({ cls := "ToolCrib$Drawing", name := "toleranceNow", desc := "(I)I" } : Jvm.MethodName)) ∈ TB := tb_4 95 rfl rfl
theorem tw_4_96 : (Jvm.Cond.instanceMethod ({ cls := "ToolCrib$Drawing", name := "toleranceNow", desc := "(I)I" } : Jvm.MethodName)) ∈ TB := tb_4 96 rfl rfl
theorem tw_4_97 : (Jvm.Cond.selects "ToolCrib$Drawing" ({ cls := "ToolCrib$Drawing", name := "toleranceNow", desc := "(I)I" } : Jvm.MethodName) ({ cls := "ToolCrib$Drawing", name := "toleranceNow", desc := "(I)I" } : Jvm.MethodName)) ∈ TB := tb_4 97 rfl rfl
theorem tw_4_98 : (Jvm.Cond.code ({ cls := "ToolCrib$Drawing", name := "toleranceNow", desc := "(I)I" } : Jvm.MethodName) prog_2_method_3_code (2 : Nat) (Option.some Jvm.ClassFile.FieldType.int)) ∈ TB := tb_4 98 rfl rfl
theorem tw_4_99 : (Jvm.Cond.methodLink "ToolCribLaw" (163 : Nat) ({ cls := "ToolCribLaw", name := "judge", desc := "(LToolCrib;III[J)I" } : Jvm.MethodName)) ∈ TB := tb_4 99 rfl rfl
theorem tw_4_100 : (Jvm.Cond.static ({ cls := "ToolCribLaw", name := "judge", desc := "(LToolCrib;III[J)I" } : Jvm.MethodName)) ∈ TB := tb_4 100 rfl rfl
theorem tw_4_101 : (Jvm.Cond.codeWith ({ cls := "ToolCribLaw", name := "judge", desc := "(LToolCrib;III[J)I" } : Jvm.MethodName) method_19_code (6 : Nat) (Option.some Jvm.ClassFile.FieldType.int) [((0 : Nat), (12 : Nat), (15 : Nat), (19 : Nat)), ((0 : Nat), (12 : Nat), (19 : Nat), (13 : Nat))]) ∈ TB := tb_4 101 rfl rfl
theorem tw_4_102 : (Jvm.Cond.methodLink "ToolCribLaw" (70 : Nat) ({ cls := "ToolCrib", name := "judge", desc := "(III)I" } : Jvm.MethodName)) ∈ TB := tb_4 102 rfl rfl
theorem tw_4_103 : (Jvm.Cond.instanceMethod ({ cls := "ToolCrib", name := "judge", desc := "(III)I" } : Jvm.MethodName)) ∈ TB := tb_4 103 rfl rfl
theorem tw_4_104 : (Jvm.Cond.selects "ToolCrib" ({ cls := "ToolCrib", name := "judge", desc := "(III)I" } : Jvm.MethodName) ({ cls := "ToolCrib", name := "judge", desc := "(III)I" } : Jvm.MethodName)) ∈ TB := tb_4 104 rfl rfl
theorem tw_4_105 : (Jvm.Cond.code ({ cls := "ToolCrib", name := "judge", desc := "(III)I" } : Jvm.MethodName) prog_1_method_20_code (11 : Nat) (Option.some Jvm.ClassFile.FieldType.int)) ∈ TB := tb_4 105 rfl rfl
theorem tw_4_106 : (Jvm.Cond.methodLink "ToolCrib" (268 : Nat) ({ cls := "ToolCrib$Gauge", name := "isGood", desc := "(I)Z" } : Jvm.MethodName)) ∈ TB := tb_4 106 rfl rfl
theorem tw_4_107 : (Jvm.Cond.instanceMethod ({ cls := "ToolCrib$Gauge", name := "isGood", desc := "(I)Z" } : Jvm.MethodName)) ∈ TB := tb_4 107 rfl rfl
theorem tw_4_108 : (Jvm.Cond.selects "ToolCrib$Gauge" ({ cls := "ToolCrib$Gauge", name := "isGood", desc := "(I)Z" } : Jvm.MethodName) ({ cls := "ToolCrib$Gauge", name := "isGood", desc := "(I)Z" } : Jvm.MethodName)) ∈ TB := tb_4 108 rfl rfl
theorem tw_4_109 : (Jvm.Cond.code ({ cls := "ToolCrib$Gauge", name := "isGood", desc := "(I)Z" } : Jvm.MethodName) prog_3_method_2_code (2 : Nat) (Option.some Jvm.ClassFile.FieldType.boolean)) ∈ TB := tb_4 109 rfl rfl
theorem tw_4_111 : (Jvm.Cond.classLink "ToolCrib" (274 : Nat) "ToolCrib$Paper") ∈ TB := tb_4 111 rfl rfl
theorem tw_4_112 : (Jvm.Cond.instantiable "ToolCrib$Paper" (7 : Nat)) ∈ TB := tb_4 112 rfl rfl
theorem tw_4_113 : (Jvm.Cond.methodLink "ToolCrib" (276 : Nat) ({ cls := "ToolCrib$Paper", name := "<init>", desc := "(IIII)V" } : Jvm.MethodName)) ∈ TB := tb_4 113 rfl rfl
theorem tw_4_114 : (Jvm.Cond.instanceMethod ({ cls := "ToolCrib$Paper", name := "<init>", desc := "(IIII)V" } : Jvm.MethodName)) ∈ TB := tb_4 114 rfl rfl
theorem tw_4_115 : (Jvm.Cond.code ({ cls := "ToolCrib$Paper", name := "<init>", desc := "(IIII)V" } : Jvm.MethodName) prog_5_method_1_code (5 : Nat) (Option.none : Option Jvm.ClassFile.FieldType)) ∈ TB := tb_4 115 rfl rfl
theorem tw_4_116 : (Jvm.Cond.methodLink "ToolCrib$Paper" (3 : Nat) ({ cls := "java/lang/Object", name := "<init>", desc := "()V" } : Jvm.MethodName)) ∈ TB := tb_4 116 rfl rfl
theorem tw_4_117 : (Jvm.Cond.fieldLink "ToolCrib$Paper" (18 : Nat) "ToolCrib$Paper" "pallet" "I") ∈ TB := tb_4 117 rfl rfl
theorem tw_4_118 : (Jvm.Cond.fieldLink "ToolCrib" (338 : Nat) "ToolCrib$Paper" "pallet" "I") ∈ TB := tb_4 118 rfl rfl
theorem tw_4_119 : (Jvm.Cond.fieldLink "ToolCrib$Paper" (22 : Nat) "ToolCrib$Paper" "drawing" "I") ∈ TB := tb_4 119 rfl rfl
theorem tw_4_120 : (Jvm.Cond.fieldLink "ToolCrib" (341 : Nat) "ToolCrib$Paper" "drawing" "I") ∈ TB := tb_4 120 rfl rfl
theorem tw_4_121 : (Jvm.Cond.fieldLink "ToolCrib$Paper" (25 : Nat) "ToolCrib$Paper" "written" "I") ∈ TB := tb_4 121 rfl rfl
theorem tw_4_122 : (Jvm.Cond.fieldLink "ToolCrib" (344 : Nat) "ToolCrib$Paper" "written" "I") ∈ TB := tb_4 122 rfl rfl
theorem tw_4_123 : (Jvm.Cond.fieldLink "ToolCrib$Paper" (28 : Nat) "ToolCrib$Paper" "doubt" "I") ∈ TB := tb_4 123 rfl rfl
theorem tw_4_124 : (Jvm.Cond.fieldLink "ToolCrib" (347 : Nat) "ToolCrib$Paper" "doubt" "I") ∈ TB := tb_4 124 rfl rfl
theorem tw_4_125 : (Jvm.Cond.fieldLink "ToolCrib$Paper" (9 : Nat) "ToolCrib$Paper" "aways" "[I") ∈ TB := tb_4 125 rfl rfl
theorem tw_4_126 : (Jvm.Cond.fieldLink "ToolCrib" (348 : Nat) "ToolCrib$Paper" "aways" "[I") ∈ TB := tb_4 126 rfl rfl
theorem tw_4_127 : (Jvm.Cond.fieldLink "ToolCrib$Paper" (15 : Nat) "ToolCrib$Paper" "tolerances" "[I") ∈ TB := tb_4 127 rfl rfl
theorem tw_4_128 : (Jvm.Cond.fieldLink "ToolCrib$Paper" (31 : Nat) "ToolCrib$Paper" "size" "I") ∈ TB := tb_4 128 rfl rfl
theorem tw_4_129 : (Jvm.Cond.laysFinal "ToolCrib$Paper" "ToolCrib$Paper" "pallet" "I") ∈ TB := tb_4 129 rfl rfl
theorem tw_4_131 : (Jvm.Cond.laysFinal "ToolCrib$Paper" "ToolCrib$Paper" "drawing" "I") ∈ TB := tb_4 131 rfl rfl
theorem tw_4_133 : (Jvm.Cond.laysFinal "ToolCrib$Paper" "ToolCrib$Paper" "written" "I") ∈ TB := tb_4 133 rfl rfl
theorem tw_4_135 : (Jvm.Cond.laysFinal "ToolCrib$Paper" "ToolCrib$Paper" "doubt" "I") ∈ TB := tb_4 135 rfl rfl
theorem tw_4_137 : (Jvm.Cond.laysFinal "ToolCrib$Paper" "ToolCrib$Paper" "aways" "[I") ∈ TB := tb_4 137 rfl rfl
theorem tw_4_139 : (Jvm.Cond.laysFinal "ToolCrib$Paper" "ToolCrib$Paper" "tolerances" "[I") ∈ TB := tb_4 139 rfl rfl
theorem tw_4_141 : (Jvm.Cond.lays "ToolCrib$Paper" "ToolCrib$Paper" "size" "I") ∈ TB := tb_4 141 rfl rfl
theorem tw_4_144 : (Jvm.Cond.methodLink "ToolCrib" (285 : Nat) ({ cls := "ToolCrib$Gauge", name := "reads", desc := "(II)I" } : Jvm.MethodName)) ∈ TB := tb_4 144 rfl rfl
theorem tw_4_145 : (Jvm.Cond.instanceMethod ({ cls := "ToolCrib$Gauge", name := "reads", desc := "(II)I" } : Jvm.MethodName)) ∈ TB := tb_4 145 rfl rfl
theorem tw_4_146 : (Jvm.Cond.selects "ToolCrib$Gauge" ({ cls := "ToolCrib$Gauge", name := "reads", desc := "(II)I" } : Jvm.MethodName) ({ cls := "ToolCrib$Gauge", name := "reads", desc := "(II)I" } : Jvm.MethodName)) ∈ TB := tb_4 146 rfl rfl
theorem tw_4_147 : (Jvm.Cond.code ({ cls := "ToolCrib$Gauge", name := "reads", desc := "(II)I" } : Jvm.MethodName) prog_3_method_3_code (3 : Nat) (Option.some Jvm.ClassFile.FieldType.int)) ∈ TB := tb_4 147 rfl rfl
theorem tw_4_148 : (Jvm.Cond.methodLink "ToolCrib" (291 : Nat) ({ cls := "ToolCrib$Paper", name := "append", desc := "(II)V" } : Jvm.MethodName)) ∈ TB := tb_4 148 rfl rfl
theorem tw_4_149 : (Jvm.Cond.instanceMethod ({ cls := "ToolCrib$Paper", name := "append", desc := "(II)V" } : Jvm.MethodName)) ∈ TB := tb_4 149 rfl rfl
theorem tw_4_150 : (Jvm.Cond.selects "ToolCrib$Paper" ({ cls := "ToolCrib$Paper", name := "append", desc := "(II)V" } : Jvm.MethodName) ({ cls := "ToolCrib$Paper", name := "append", desc := "(II)V" } : Jvm.MethodName)) ∈ TB := tb_4 150 rfl rfl
theorem tw_4_151 : (Jvm.Cond.code ({ cls := "ToolCrib$Paper", name := "append", desc := "(II)V" } : Jvm.MethodName) prog_5_method_2_code (3 : Nat) (Option.none : Option Jvm.ClassFile.FieldType)) ∈ TB := tb_4 151 rfl rfl
theorem tw_4_152 : (Jvm.Cond.methodLink "ToolCrib" (295 : Nat) ({ cls := "ToolCrib", name := "tell", desc := "(II)V" } : Jvm.MethodName)) ∈ TB := tb_4 152 rfl rfl
theorem tw_4_154 : (Jvm.Cond.instanceMethod ({ cls := "ToolCrib", name := "tell", desc := "(II)V" } : Jvm.MethodName)) ∈ TB := tb_4 154 rfl rfl
theorem tw_4_155 : (Jvm.Cond.code ({ cls := "ToolCrib", name := "tell", desc := "(II)V" } : Jvm.MethodName) prog_1_method_42_code (3 : Nat) (Option.none : Option Jvm.ClassFile.FieldType)) ∈ TB := tb_4 155 rfl rfl
theorem tw_4_156 : (Jvm.Cond.methodLink "ToolCrib" (368 : Nat) ({ cls := "ToolCrib$Tool", name := "hear", desc := "(I)V" } : Jvm.MethodName)) ∈ TB := tb_4 156 rfl rfl
theorem tw_4_157 : (Jvm.Cond.instanceMethod ({ cls := "ToolCrib$Tool", name := "hear", desc := "(I)V" } : Jvm.MethodName)) ∈ TB := tb_4 157 rfl rfl
theorem tw_4_158 : (Jvm.Cond.selects "ToolCrib$Tool" ({ cls := "ToolCrib$Tool", name := "hear", desc := "(I)V" } : Jvm.MethodName) ({ cls := "ToolCrib$Tool", name := "hear", desc := "(I)V" } : Jvm.MethodName)) ∈ TB := tb_4 158 rfl rfl
theorem tw_4_159 : (Jvm.Cond.code ({ cls := "ToolCrib$Tool", name := "hear", desc := "(I)V" } : Jvm.MethodName) prog_7_method_3_code (2 : Nat) (Option.none : Option Jvm.ClassFile.FieldType)) ∈ TB := tb_4 159 rfl rfl
theorem tw_4_160 : (Jvm.Cond.methodLink "ToolCrib" (298 : Nat) ({ cls := "ToolCrib$Drawing", name := "spendPaper", desc := "()V" } : Jvm.MethodName)) ∈ TB := tb_4 160 rfl rfl
theorem tw_4_161 : (Jvm.Cond.instanceMethod ({ cls := "ToolCrib$Drawing", name := "spendPaper", desc := "()V" } : Jvm.MethodName)) ∈ TB := tb_4 161 rfl rfl
theorem tw_4_162 : (Jvm.Cond.selects "ToolCrib$Drawing" ({ cls := "ToolCrib$Drawing", name := "spendPaper", desc := "()V" } : Jvm.MethodName) ({ cls := "ToolCrib$Drawing", name := "spendPaper", desc := "()V" } : Jvm.MethodName)) ∈ TB := tb_4 162 rfl rfl
theorem tw_4_163 : (Jvm.Cond.code ({ cls := "ToolCrib$Drawing", name := "spendPaper", desc := "()V" } : Jvm.MethodName) prog_2_method_4_code (2 : Nat) (Option.none : Option Jvm.ClassFile.FieldType)) ∈ TB := tb_4 163 rfl rfl
theorem tw_4_164 : (Jvm.Cond.methodLink "ToolCrib$Drawing" (31 : Nat) ({ cls := "java/lang/Math", name := "max", desc := "(II)I" } : Jvm.MethodName)) ∈ TB := tb_4 164 rfl rfl
theorem tw_4_165 : (Jvm.Cond.methodLink "ToolCrib" (301 : Nat) ({ cls := "ToolCrib$Paper", name := "verdict", desc := "()I" } : Jvm.MethodName)) ∈ TB := tb_4 165 rfl rfl
theorem tw_4_166 : (Jvm.Cond.instanceMethod ({ cls := "ToolCrib$Paper", name := "verdict", desc := "()I" } : Jvm.MethodName)) ∈ TB := tb_4 166 rfl rfl
theorem tw_4_167 : (Jvm.Cond.selects "ToolCrib$Paper" ({ cls := "ToolCrib$Paper", name := "verdict", desc := "()I" } : Jvm.MethodName) ({ cls := "ToolCrib$Paper", name := "verdict", desc := "()I" } : Jvm.MethodName)) ∈ TB := tb_4 167 rfl rfl
theorem tw_4_168 : (Jvm.Cond.code ({ cls := "ToolCrib$Paper", name := "verdict", desc := "()I" } : Jvm.MethodName) prog_5_method_3_code (4 : Nat) (Option.some Jvm.ClassFile.FieldType.int)) ∈ TB := tb_4 168 rfl rfl
theorem tw_4_169 : (Jvm.Cond.methodLink "ToolCrib$Paper" (34 : Nat) ({ cls := "java/lang/Math", name := "abs", desc := "(I)I" } : Jvm.MethodName)) ∈ TB := tb_4 169 rfl rfl
theorem tw_4_170 : (Jvm.Cond.methodLink "ToolCribLaw" (166 : Nat) ({ cls := "ToolCribLaw", name := "correct", desc := "(LToolCrib;I[J)I" } : Jvm.MethodName)) ∈ TB := tb_4 170 rfl rfl
theorem tw_4_171 : (Jvm.Cond.static ({ cls := "ToolCribLaw", name := "correct", desc := "(LToolCrib;I[J)I" } : Jvm.MethodName)) ∈ TB := tb_4 171 rfl rfl
theorem tw_4_172 : (Jvm.Cond.codeWith ({ cls := "ToolCribLaw", name := "correct", desc := "(LToolCrib;I[J)I" } : Jvm.MethodName) method_20_code (4 : Nat) (Option.some Jvm.ClassFile.FieldType.int) [((0 : Nat), (9 : Nat), (12 : Nat), (19 : Nat))]) ∈ TB := tb_4 172 rfl rfl
theorem tw_4_173 : (Jvm.Cond.methodLink "ToolCribLaw" (73 : Nat) ({ cls := "ToolCrib", name := "correct", desc := "(I)I" } : Jvm.MethodName)) ∈ TB := tb_4 173 rfl rfl
theorem tw_4_174 : (Jvm.Cond.instanceMethod ({ cls := "ToolCrib", name := "correct", desc := "(I)I" } : Jvm.MethodName)) ∈ TB := tb_4 174 rfl rfl
theorem tw_4_175 : (Jvm.Cond.selects "ToolCrib" ({ cls := "ToolCrib", name := "correct", desc := "(I)I" } : Jvm.MethodName) ({ cls := "ToolCrib", name := "correct", desc := "(I)I" } : Jvm.MethodName)) ∈ TB := tb_4 175 rfl rfl
theorem tw_4_176 : (Jvm.Cond.code ({ cls := "ToolCrib", name := "correct", desc := "(I)I" } : Jvm.MethodName) prog_1_method_21_code (2 : Nat) (Option.some Jvm.ClassFile.FieldType.int)) ∈ TB := tb_4 176 rfl rfl
theorem tw_4_177 : (Jvm.Cond.methodLink "ToolCrib" (307 : Nat) ({ cls := "ToolCrib$Tool", name := "correctOffset", desc := "()I" } : Jvm.MethodName)) ∈ TB := tb_4 177 rfl rfl
theorem tw_4_178 : (Jvm.Cond.instanceMethod ({ cls := "ToolCrib$Tool", name := "correctOffset", desc := "()I" } : Jvm.MethodName)) ∈ TB := tb_4 178 rfl rfl
theorem tw_4_179 : (Jvm.Cond.selects "ToolCrib$Tool" ({ cls := "ToolCrib$Tool", name := "correctOffset", desc := "()I" } : Jvm.MethodName) ({ cls := "ToolCrib$Tool", name := "correctOffset", desc := "()I" } : Jvm.MethodName)) ∈ TB := tb_4 179 rfl rfl
theorem tw_4_180 : (Jvm.Cond.code ({ cls := "ToolCrib$Tool", name := "correctOffset", desc := "()I" } : Jvm.MethodName) prog_7_method_4_code (3 : Nat) (Option.some Jvm.ClassFile.FieldType.int)) ∈ TB := tb_4 180 rfl rfl
theorem tw_4_181 : (Jvm.Cond.methodLink "ToolCrib$Tool" (35 : Nat) ({ cls := "ToolCrib$Tool", name := "isOneWay", desc := "()Z" } : Jvm.MethodName)) ∈ TB := tb_4 181 rfl rfl
theorem tw_4_183 : (Jvm.Cond.instanceMethod ({ cls := "ToolCrib$Tool", name := "isOneWay", desc := "()Z" } : Jvm.MethodName)) ∈ TB := tb_4 183 rfl rfl
theorem tw_4_184 : (Jvm.Cond.code ({ cls := "ToolCrib$Tool", name := "isOneWay", desc := "()Z" } : Jvm.MethodName) prog_7_method_5_code (4 : Nat) (Option.some Jvm.ClassFile.FieldType.boolean)) ∈ TB := tb_4 184 rfl rfl
theorem tw_4_185 : (Jvm.Cond.methodLink "ToolCrib$Tool" (42 : Nat) ({ cls := "java/lang/Math", name := "min", desc := "(II)I" } : Jvm.MethodName)) ∈ TB := tb_4 185 rfl rfl
theorem tw_4_186 : (Jvm.Cond.methodLink "ToolCrib$Tool" (48 : Nat) ({ cls := "java/lang/Math", name := "max", desc := "(II)I" } : Jvm.MethodName)) ∈ TB := tb_4 186 rfl rfl
theorem tw_4_187 : (Jvm.Cond.methodLink "ToolCribLaw" (177 : Nat) ({ cls := "ToolCribLaw", name := "ofTool", desc := "(LToolCrib;II[J)I" } : Jvm.MethodName)) ∈ TB := tb_4 187 rfl rfl
theorem tw_4_188 : (Jvm.Cond.static ({ cls := "ToolCribLaw", name := "ofTool", desc := "(LToolCrib;II[J)I" } : Jvm.MethodName)) ∈ TB := tb_4 188 rfl rfl
theorem tw_4_189 : (Jvm.Cond.codeWith ({ cls := "ToolCribLaw", name := "ofTool", desc := "(LToolCrib;II[J)I" } : Jvm.MethodName) method_21_code (5 : Nat) (Option.some Jvm.ClassFile.FieldType.int) [((0 : Nat), (10 : Nat), (13 : Nat), (19 : Nat)), ((0 : Nat), (10 : Nat), (17 : Nat), (21 : Nat))]) ∈ TB := tb_4 189 rfl rfl
theorem tw_4_190 : (Jvm.Cond.methodLink "ToolCribLaw" (76 : Nat) ({ cls := "ToolCrib", name := "ofTool", desc := "(II)I" } : Jvm.MethodName)) ∈ TB := tb_4 190 rfl rfl
theorem tw_4_191 : (Jvm.Cond.instanceMethod ({ cls := "ToolCrib", name := "ofTool", desc := "(II)I" } : Jvm.MethodName)) ∈ TB := tb_4 191 rfl rfl
theorem tw_4_192 : (Jvm.Cond.selects "ToolCrib" ({ cls := "ToolCrib", name := "ofTool", desc := "(II)I" } : Jvm.MethodName) ({ cls := "ToolCrib", name := "ofTool", desc := "(II)I" } : Jvm.MethodName)) ∈ TB := tb_4 192 rfl rfl
theorem tw_4_193 : (Jvm.Cond.code ({ cls := "ToolCrib", name := "ofTool", desc := "(II)I" } : Jvm.MethodName) prog_1_method_24_code (4 : Nat) (Option.some Jvm.ClassFile.FieldType.int)) ∈ TB := tb_4 193 rfl rfl
theorem tw_4_195 : (Jvm.Cond.methodLink "ToolCribLaw" (180 : Nat) ({ cls := "ToolCribLaw", name := "ofCell", desc := "(LToolCrib;IIII[J)I" } : Jvm.MethodName)) ∈ TB := tb_4 195 rfl rfl
theorem tw_4_196 : (Jvm.Cond.static ({ cls := "ToolCribLaw", name := "ofCell", desc := "(LToolCrib;IIII[J)I" } : Jvm.MethodName)) ∈ TB := tb_4 196 rfl rfl
theorem tw_4_197 : (Jvm.Cond.codeWith ({ cls := "ToolCribLaw", name := "ofCell", desc := "(LToolCrib;IIII[J)I" } : Jvm.MethodName) method_22_code (7 : Nat) (Option.some Jvm.ClassFile.FieldType.int) [((0 : Nat), (14 : Nat), (17 : Nat), (19 : Nat)), ((0 : Nat), (14 : Nat), (21 : Nat), (21 : Nat))]) ∈ TB := tb_4 197 rfl rfl
theorem tw_4_198 : (Jvm.Cond.methodLink "ToolCribLaw" (79 : Nat) ({ cls := "ToolCrib", name := "ofCell", desc := "(IIII)I" } : Jvm.MethodName)) ∈ TB := tb_4 198 rfl rfl
theorem tw_4_199 : (Jvm.Cond.instanceMethod ({ cls := "ToolCrib", name := "ofCell", desc := "(IIII)I" } : Jvm.MethodName)) ∈ TB := tb_4 199 rfl rfl
theorem tw_4_200 : (Jvm.Cond.selects "ToolCrib" ({ cls := "ToolCrib", name := "ofCell", desc := "(IIII)I" } : Jvm.MethodName) ({ cls := "ToolCrib", name := "ofCell", desc := "(IIII)I" } : Jvm.MethodName)) ∈ TB := tb_4 200 rfl rfl
theorem tw_4_201 : (Jvm.Cond.code ({ cls := "ToolCrib", name := "ofCell", desc := "(IIII)I" } : Jvm.MethodName) prog_1_method_25_code (7 : Nat) (Option.some Jvm.ClassFile.FieldType.int)) ∈ TB := tb_4 201 rfl rfl
theorem tw_4_202 : (Jvm.Cond.methodLink "ToolCribLaw" (183 : Nat) ({ cls := "ToolCribLaw", name := "ofPallet", desc := "(LToolCrib;II[J)I" } : Jvm.MethodName)) ∈ TB := tb_4 202 rfl rfl
theorem tw_4_203 : (Jvm.Cond.static ({ cls := "ToolCribLaw", name := "ofPallet", desc := "(LToolCrib;II[J)I" } : Jvm.MethodName)) ∈ TB := tb_4 203 rfl rfl
theorem tw_4_204 : (Jvm.Cond.codeWith ({ cls := "ToolCribLaw", name := "ofPallet", desc := "(LToolCrib;II[J)I" } : Jvm.MethodName) method_23_code (5 : Nat) (Option.some Jvm.ClassFile.FieldType.int) [((0 : Nat), (10 : Nat), (13 : Nat), (19 : Nat)), ((0 : Nat), (10 : Nat), (17 : Nat), (21 : Nat))]) ∈ TB := tb_4 204 rfl rfl
theorem tw_4_205 : (Jvm.Cond.methodLink "ToolCribLaw" (82 : Nat) ({ cls := "ToolCrib", name := "ofPallet", desc := "(II)I" } : Jvm.MethodName)) ∈ TB := tb_4 205 rfl rfl
theorem tw_4_206 : (Jvm.Cond.instanceMethod ({ cls := "ToolCrib", name := "ofPallet", desc := "(II)I" } : Jvm.MethodName)) ∈ TB := tb_4 206 rfl rfl
theorem tw_4_207 : (Jvm.Cond.selects "ToolCrib" ({ cls := "ToolCrib", name := "ofPallet", desc := "(II)I" } : Jvm.MethodName) ({ cls := "ToolCrib", name := "ofPallet", desc := "(II)I" } : Jvm.MethodName)) ∈ TB := tb_4 207 rfl rfl
theorem tw_4_208 : (Jvm.Cond.code ({ cls := "ToolCrib", name := "ofPallet", desc := "(II)I" } : Jvm.MethodName) prog_1_method_26_code (4 : Nat) (Option.some Jvm.ClassFile.FieldType.int)) ∈ TB := tb_4 208 rfl rfl
theorem tw_4_209 : (Jvm.Cond.methodLink "ToolCrib" (330 : Nat) ({ cls := "ToolCrib", name := "placeInQueue", desc := "(LToolCrib$Pallet;)I" } : Jvm.MethodName)) ∈ TB := tb_4 209 rfl rfl
theorem tw_4_211 : (Jvm.Cond.instanceMethod ({ cls := "ToolCrib", name := "placeInQueue", desc := "(LToolCrib$Pallet;)I" } : Jvm.MethodName)) ∈ TB := tb_4 211 rfl rfl
theorem tw_4_212 : (Jvm.Cond.code ({ cls := "ToolCrib", name := "placeInQueue", desc := "(LToolCrib$Pallet;)I" } : Jvm.MethodName) prog_1_method_38_code (3 : Nat) (Option.some Jvm.ClassFile.FieldType.int)) ∈ TB := tb_4 212 rfl rfl
theorem tw_4_213 : (Jvm.Cond.methodLink "ToolCribLaw" (186 : Nat) ({ cls := "ToolCribLaw", name := "ofPaper", desc := "(LToolCrib;II[J)I" } : Jvm.MethodName)) ∈ TB := tb_4 213 rfl rfl
theorem tw_4_214 : (Jvm.Cond.static ({ cls := "ToolCribLaw", name := "ofPaper", desc := "(LToolCrib;II[J)I" } : Jvm.MethodName)) ∈ TB := tb_4 214 rfl rfl
theorem tw_4_215 : (Jvm.Cond.codeWith ({ cls := "ToolCribLaw", name := "ofPaper", desc := "(LToolCrib;II[J)I" } : Jvm.MethodName) method_24_code (5 : Nat) (Option.some Jvm.ClassFile.FieldType.int) [((0 : Nat), (10 : Nat), (13 : Nat), (19 : Nat)), ((0 : Nat), (10 : Nat), (17 : Nat), (21 : Nat))]) ∈ TB := tb_4 215 rfl rfl
theorem tw_4_216 : (Jvm.Cond.methodLink "ToolCribLaw" (85 : Nat) ({ cls := "ToolCrib", name := "ofPaper", desc := "(II)I" } : Jvm.MethodName)) ∈ TB := tb_4 216 rfl rfl
theorem tw_4_217 : (Jvm.Cond.instanceMethod ({ cls := "ToolCrib", name := "ofPaper", desc := "(II)I" } : Jvm.MethodName)) ∈ TB := tb_4 217 rfl rfl
theorem tw_4_218 : (Jvm.Cond.selects "ToolCrib" ({ cls := "ToolCrib", name := "ofPaper", desc := "(II)I" } : Jvm.MethodName) ({ cls := "ToolCrib", name := "ofPaper", desc := "(II)I" } : Jvm.MethodName)) ∈ TB := tb_4 218 rfl rfl
theorem tw_4_219 : (Jvm.Cond.code ({ cls := "ToolCrib", name := "ofPaper", desc := "(II)I" } : Jvm.MethodName) prog_1_method_27_code (4 : Nat) (Option.some Jvm.ClassFile.FieldType.int)) ∈ TB := tb_4 219 rfl rfl
theorem tw_4_220 : (Jvm.Cond.methodLink "ToolCrib" (334 : Nat) ({ cls := "ToolCrib", name := "paperAt", desc := "(I)LToolCrib$Paper;" } : Jvm.MethodName)) ∈ TB := tb_4 220 rfl rfl
theorem tw_4_222 : (Jvm.Cond.instanceMethod ({ cls := "ToolCrib", name := "paperAt", desc := "(I)LToolCrib$Paper;" } : Jvm.MethodName)) ∈ TB := tb_4 222 rfl rfl
theorem tw_4_223 : (Jvm.Cond.code ({ cls := "ToolCrib", name := "paperAt", desc := "(I)LToolCrib$Paper;" } : Jvm.MethodName) prog_1_method_35_code (2 : Nat) (Option.some (Jvm.ClassFile.FieldType.object "ToolCrib$Paper"))) ∈ TB := tb_4 223 rfl rfl
theorem tw_4_225 : (Jvm.Cond.methodLink "ToolCribLaw" (189 : Nat) ({ cls := "ToolCribLaw", name := "judgeAnew", desc := "(LToolCrib;I[J)I" } : Jvm.MethodName)) ∈ TB := tb_4 225 rfl rfl
theorem tw_4_226 : (Jvm.Cond.static ({ cls := "ToolCribLaw", name := "judgeAnew", desc := "(LToolCrib;I[J)I" } : Jvm.MethodName)) ∈ TB := tb_4 226 rfl rfl
theorem tw_4_227 : (Jvm.Cond.codeWith ({ cls := "ToolCribLaw", name := "judgeAnew", desc := "(LToolCrib;I[J)I" } : Jvm.MethodName) method_25_code (4 : Nat) (Option.some Jvm.ClassFile.FieldType.int) [((0 : Nat), (9 : Nat), (12 : Nat), (19 : Nat))]) ∈ TB := tb_4 227 rfl rfl
theorem tw_4_228 : (Jvm.Cond.methodLink "ToolCribLaw" (88 : Nat) ({ cls := "ToolCrib", name := "judgeAnew", desc := "(I)I" } : Jvm.MethodName)) ∈ TB := tb_4 228 rfl rfl
theorem tw_4_229 : (Jvm.Cond.instanceMethod ({ cls := "ToolCrib", name := "judgeAnew", desc := "(I)I" } : Jvm.MethodName)) ∈ TB := tb_4 229 rfl rfl
theorem tw_4_230 : (Jvm.Cond.selects "ToolCrib" ({ cls := "ToolCrib", name := "judgeAnew", desc := "(I)I" } : Jvm.MethodName) ({ cls := "ToolCrib", name := "judgeAnew", desc := "(I)I" } : Jvm.MethodName)) ∈ TB := tb_4 230 rfl rfl
theorem tw_4_231 : (Jvm.Cond.code ({ cls := "ToolCrib", name := "judgeAnew", desc := "(I)I" } : Jvm.MethodName) prog_1_method_28_code (2 : Nat) (Option.some Jvm.ClassFile.FieldType.int)) ∈ TB := tb_4 231 rfl rfl
theorem tw_4_232 : (Jvm.Cond.classLink "ToolCribLaw" (92 : Nat) "ToolCribModel") ∈ TB := tb_4 232 rfl rfl
theorem tw_4_233 : (Jvm.Cond.instantiable "ToolCribModel" (45 : Nat)) ∈ TB := tb_4 233 rfl rfl
theorem tw_4_234 : (Jvm.Cond.methodLink "ToolCribLaw" (94 : Nat) ({ cls := "ToolCribModel", name := "<init>", desc := "()V" } : Jvm.MethodName)) ∈ TB := tb_4 234 rfl rfl
theorem tw_4_235 : (Jvm.Cond.instanceMethod ({ cls := "ToolCribModel", name := "<init>", desc := "()V" } : Jvm.MethodName)) ∈ TB := tb_4 235 rfl rfl
theorem tw_4_236 : (Jvm.Cond.code ({ cls := "ToolCribModel", name := "<init>", desc := "()V" } : Jvm.MethodName) prog_11_method_1_code (1 : Nat) (Option.none : Option Jvm.ClassFile.FieldType)) ∈ TB := tb_4 236 rfl rfl
theorem tw_4_237 : (Jvm.Cond.methodLink "ToolCribModel" (1 : Nat) ({ cls := "java/lang/Object", name := "<init>", desc := "()V" } : Jvm.MethodName)) ∈ TB := tb_4 237 rfl rfl
theorem tw_4_238 : (Jvm.Cond.fieldLink "ToolCribModel" (158 : Nat) "ToolCribModel" "minute" "I") ∈ TB := tb_4 238 rfl rfl
theorem tw_4_239 : (Jvm.Cond.fieldLink "ToolCribModel" (155 : Nat) "ToolCribModel" "warmth" "I") ∈ TB := tb_4 239 rfl rfl
theorem tw_5_0 : (Jvm.Cond.fieldLink "ToolCribModel" (7 : Nat) "ToolCribModel" "blocks" "[I") ∈ TB := tb_5 0 rfl rfl
theorem tw_5_1 : (Jvm.Cond.fieldLink "ToolCribModel" (13 : Nat) "ToolCribModel" "sizes" "[I") ∈ TB := tb_5 1 rfl rfl
theorem tw_5_2 : (Jvm.Cond.fieldLink "ToolCribModel" (111 : Nat) "ToolCribModel" "programs" "I") ∈ TB := tb_5 2 rfl rfl
theorem tw_5_3 : (Jvm.Cond.fieldLink "ToolCribModel" (16 : Nat) "ToolCribModel" "maps" "[I") ∈ TB := tb_5 3 rfl rfl
theorem tw_5_4 : (Jvm.Cond.fieldLink "ToolCribModel" (19 : Nat) "ToolCribModel" "kinds" "[I") ∈ TB := tb_5 4 rfl rfl
theorem tw_5_5 : (Jvm.Cond.fieldLink "ToolCribModel" (22 : Nat) "ToolCribModel" "lives" "[I") ∈ TB := tb_5 5 rfl rfl
theorem tw_5_6 : (Jvm.Cond.fieldLink "ToolCribModel" (25 : Nat) "ToolCribModel" "used" "[I") ∈ TB := tb_5 6 rfl rfl
theorem tw_5_7 : (Jvm.Cond.fieldLink "ToolCribModel" (28 : Nat) "ToolCribModel" "spareUsed" "[I") ∈ TB := tb_5 7 rfl rfl
theorem tw_5_8 : (Jvm.Cond.fieldLink "ToolCribModel" (31 : Nat) "ToolCribModel" "offsets" "[I") ∈ TB := tb_5 8 rfl rfl
theorem tw_5_9 : (Jvm.Cond.fieldLink "ToolCribModel" (34 : Nat) "ToolCribModel" "loaded" "[Z") ∈ TB := tb_5 9 rfl rfl
theorem tw_5_10 : (Jvm.Cond.fieldLink "ToolCribModel" (38 : Nat) "ToolCribModel" "told" "[I") ∈ TB := tb_5 10 rfl rfl
theorem tw_5_11 : (Jvm.Cond.fieldLink "ToolCribModel" (41 : Nat) "ToolCribModel" "toldMany" "[I") ∈ TB := tb_5 11 rfl rfl
theorem tw_5_12 : (Jvm.Cond.fieldLink "ToolCribModel" (118 : Nat) "ToolCribModel" "tools" "I") ∈ TB := tb_5 12 rfl rfl
theorem tw_5_13 : (Jvm.Cond.fieldLink "ToolCribModel" (44 : Nat) "ToolCribModel" "stock" "[I") ∈ TB := tb_5 13 rfl rfl
theorem tw_5_14 : (Jvm.Cond.fieldLink "ToolCribModel" (47 : Nat) "ToolCribModel" "clamps" "[I") ∈ TB := tb_5 14 rfl rfl
theorem tw_5_15 : (Jvm.Cond.fieldLink "ToolCribModel" (50 : Nat) "ToolCribModel" "cutters" "[I") ∈ TB := tb_5 15 rfl rfl
theorem tw_5_16 : (Jvm.Cond.fieldLink "ToolCribModel" (53 : Nat) "ToolCribModel" "parts" "[I") ∈ TB := tb_5 16 rfl rfl
theorem tw_5_17 : (Jvm.Cond.fieldLink "ToolCribModel" (56 : Nat) "ToolCribModel" "clampMany" "[I") ∈ TB := tb_5 17 rfl rfl
theorem tw_5_18 : (Jvm.Cond.fieldLink "ToolCribModel" (59 : Nat) "ToolCribModel" "states" "[I") ∈ TB := tb_5 18 rfl rfl
theorem tw_5_19 : (Jvm.Cond.fieldLink "ToolCribModel" (62 : Nat) "ToolCribModel" "plans" "[I") ∈ TB := tb_5 19 rfl rfl
theorem tw_5_20 : (Jvm.Cond.fieldLink "ToolCribModel" (65 : Nat) "ToolCribModel" "gone" "[I") ∈ TB := tb_5 20 rfl rfl
theorem tw_5_21 : (Jvm.Cond.fieldLink "ToolCribModel" (68 : Nat) "ToolCribModel" "verdicts" "[I") ∈ TB := tb_5 21 rfl rfl
theorem tw_5_22 : (Jvm.Cond.fieldLink "ToolCribModel" (121 : Nat) "ToolCribModel" "pallets" "I") ∈ TB := tb_5 22 rfl rfl
theorem tw_5_23 : (Jvm.Cond.fieldLink "ToolCribModel" (71 : Nat) "ToolCribModel" "queue" "[I") ∈ TB := tb_5 23 rfl rfl
theorem tw_5_24 : (Jvm.Cond.fieldLink "ToolCribModel" (138 : Nat) "ToolCribModel" "queued" "I") ∈ TB := tb_5 24 rfl rfl
theorem tw_5_25 : (Jvm.Cond.fieldLink "ToolCribModel" (74 : Nat) "ToolCribModel" "calibrated" "[I") ∈ TB := tb_5 25 rfl rfl
theorem tw_5_26 : (Jvm.Cond.fieldLink "ToolCribModel" (77 : Nat) "ToolCribModel" "wasCalibrated" "[Z") ∈ TB := tb_5 26 rfl rfl
theorem tw_5_27 : (Jvm.Cond.fieldLink "ToolCribModel" (80 : Nat) "ToolCribModel" "doubts" "[I") ∈ TB := tb_5 27 rfl rfl
theorem tw_5_28 : (Jvm.Cond.fieldLink "ToolCribModel" (83 : Nat) "ToolCribModel" "features" "[I") ∈ TB := tb_5 28 rfl rfl
theorem tw_5_29 : (Jvm.Cond.fieldLink "ToolCribModel" (86 : Nat) "ToolCribModel" "featureMany" "[I") ∈ TB := tb_5 29 rfl rfl
theorem tw_5_30 : (Jvm.Cond.fieldLink "ToolCribModel" (124 : Nat) "ToolCribModel" "drawings" "I") ∈ TB := tb_5 30 rfl rfl
theorem tw_5_31 : (Jvm.Cond.fieldLink "ToolCribModel" (89 : Nat) "ToolCribModel" "papers" "[I") ∈ TB := tb_5 31 rfl rfl
theorem tw_5_32 : (Jvm.Cond.fieldLink "ToolCribModel" (208 : Nat) "ToolCribModel" "manyPapers" "I") ∈ TB := tb_5 32 rfl rfl
theorem tw_5_33 : (Jvm.Cond.fieldLink "ToolCribModel" (92 : Nat) "ToolCribModel" "trial" "[I") ∈ TB := tb_5 33 rfl rfl
theorem tw_5_34 : (Jvm.Cond.fieldLink "ToolCribModel" (95 : Nat) "ToolCribModel" "cuts" "[I") ∈ TB := tb_5 34 rfl rfl
theorem tw_5_35 : (Jvm.Cond.fieldLink "ToolCribModel" (98 : Nat) "ToolCribModel" "at" "[I") ∈ TB := tb_5 35 rfl rfl
theorem tw_5_36 : (Jvm.Cond.fieldLink "ToolCribModel" (101 : Nat) "ToolCribModel" "inPrograms" "[I") ∈ TB := tb_5 36 rfl rfl
theorem tw_5_37 : (Jvm.Cond.fieldLink "ToolCribModel" (104 : Nat) "ToolCribModel" "inBlocks" "[I") ∈ TB := tb_5 37 rfl rfl
theorem tw_5_38 : (Jvm.Cond.fieldLink "ToolCribModel" (164 : Nat) "ToolCribModel" "mode" "I") ∈ TB := tb_5 38 rfl rfl
theorem tw_5_39 : (Jvm.Cond.fieldLink "ToolCribModel" (178 : Nat) "ToolCribModel" "measure" "I") ∈ TB := tb_5 39 rfl rfl
theorem tw_5_40 : (Jvm.Cond.fieldLink "ToolCribModel" (167 : Nat) "ToolCribModel" "kind" "I") ∈ TB := tb_5 40 rfl rfl
theorem tw_5_41 : (Jvm.Cond.fieldLink "ToolCribModel" (161 : Nat) "ToolCribModel" "steps" "I") ∈ TB := tb_5 41 rfl rfl
theorem tw_5_42 : (Jvm.Cond.fieldLink "ToolCribModel" (107 : Nat) "ToolCribModel" "last" "I") ∈ TB := tb_5 42 rfl rfl
theorem tw_5_43 : (Jvm.Cond.lays "ToolCribModel" "ToolCribModel" "minute" "I") ∈ TB := tb_5 43 rfl rfl
theorem tw_5_45 : (Jvm.Cond.lays "ToolCribModel" "ToolCribModel" "warmth" "I") ∈ TB := tb_5 45 rfl rfl
theorem tw_5_47 : (Jvm.Cond.laysFinal "ToolCribModel" "ToolCribModel" "blocks" "[I") ∈ TB := tb_5 47 rfl rfl
theorem tw_5_49 : (Jvm.Cond.laysFinal "ToolCribModel" "ToolCribModel" "sizes" "[I") ∈ TB := tb_5 49 rfl rfl
theorem tw_5_51 : (Jvm.Cond.lays "ToolCribModel" "ToolCribModel" "programs" "I") ∈ TB := tb_5 51 rfl rfl
theorem tw_5_53 : (Jvm.Cond.laysFinal "ToolCribModel" "ToolCribModel" "maps" "[I") ∈ TB := tb_5 53 rfl rfl
theorem tw_5_55 : (Jvm.Cond.laysFinal "ToolCribModel" "ToolCribModel" "kinds" "[I") ∈ TB := tb_5 55 rfl rfl
theorem tw_5_57 : (Jvm.Cond.laysFinal "ToolCribModel" "ToolCribModel" "lives" "[I") ∈ TB := tb_5 57 rfl rfl
theorem tw_5_59 : (Jvm.Cond.laysFinal "ToolCribModel" "ToolCribModel" "used" "[I") ∈ TB := tb_5 59 rfl rfl
theorem tw_5_61 : (Jvm.Cond.laysFinal "ToolCribModel" "ToolCribModel" "spareUsed" "[I") ∈ TB := tb_5 61 rfl rfl
theorem tw_5_63 : (Jvm.Cond.laysFinal "ToolCribModel" "ToolCribModel" "offsets" "[I") ∈ TB := tb_5 63 rfl rfl
theorem tw_5_65 : (Jvm.Cond.laysFinal "ToolCribModel" "ToolCribModel" "loaded" "[Z") ∈ TB := tb_5 65 rfl rfl
theorem tw_5_67 : (Jvm.Cond.laysFinal "ToolCribModel" "ToolCribModel" "told" "[I") ∈ TB := tb_5 67 rfl rfl
theorem tw_5_69 : (Jvm.Cond.laysFinal "ToolCribModel" "ToolCribModel" "toldMany" "[I") ∈ TB := tb_5 69 rfl rfl
theorem tw_5_71 : (Jvm.Cond.lays "ToolCribModel" "ToolCribModel" "tools" "I") ∈ TB := tb_5 71 rfl rfl
theorem tw_5_73 : (Jvm.Cond.laysFinal "ToolCribModel" "ToolCribModel" "stock" "[I") ∈ TB := tb_5 73 rfl rfl
theorem tw_5_75 : (Jvm.Cond.laysFinal "ToolCribModel" "ToolCribModel" "clamps" "[I") ∈ TB := tb_5 75 rfl rfl
theorem tw_5_77 : (Jvm.Cond.laysFinal "ToolCribModel" "ToolCribModel" "cutters" "[I") ∈ TB := tb_5 77 rfl rfl
theorem tw_5_79 : (Jvm.Cond.laysFinal "ToolCribModel" "ToolCribModel" "parts" "[I") ∈ TB := tb_5 79 rfl rfl
theorem tw_5_81 : (Jvm.Cond.laysFinal "ToolCribModel" "ToolCribModel" "clampMany" "[I") ∈ TB := tb_5 81 rfl rfl
theorem tw_5_83 : (Jvm.Cond.laysFinal "ToolCribModel" "ToolCribModel" "states" "[I") ∈ TB := tb_5 83 rfl rfl
theorem tw_5_85 : (Jvm.Cond.laysFinal "ToolCribModel" "ToolCribModel" "plans" "[I") ∈ TB := tb_5 85 rfl rfl
theorem tw_5_87 : (Jvm.Cond.laysFinal "ToolCribModel" "ToolCribModel" "gone" "[I") ∈ TB := tb_5 87 rfl rfl
theorem tw_5_89 : (Jvm.Cond.laysFinal "ToolCribModel" "ToolCribModel" "verdicts" "[I") ∈ TB := tb_5 89 rfl rfl
theorem tw_5_91 : (Jvm.Cond.lays "ToolCribModel" "ToolCribModel" "pallets" "I") ∈ TB := tb_5 91 rfl rfl
theorem tw_5_93 : (Jvm.Cond.laysFinal "ToolCribModel" "ToolCribModel" "queue" "[I") ∈ TB := tb_5 93 rfl rfl
theorem tw_5_95 : (Jvm.Cond.lays "ToolCribModel" "ToolCribModel" "queued" "I") ∈ TB := tb_5 95 rfl rfl
theorem tw_5_97 : (Jvm.Cond.laysFinal "ToolCribModel" "ToolCribModel" "calibrated" "[I") ∈ TB := tb_5 97 rfl rfl
theorem tw_5_99 : (Jvm.Cond.laysFinal "ToolCribModel" "ToolCribModel" "wasCalibrated" "[Z") ∈ TB := tb_5 99 rfl rfl
theorem tw_5_101 : (Jvm.Cond.laysFinal "ToolCribModel" "ToolCribModel" "doubts" "[I") ∈ TB := tb_5 101 rfl rfl
theorem tw_5_103 : (Jvm.Cond.laysFinal "ToolCribModel" "ToolCribModel" "features" "[I") ∈ TB := tb_5 103 rfl rfl
theorem tw_5_105 : (Jvm.Cond.laysFinal "ToolCribModel" "ToolCribModel" "featureMany" "[I") ∈ TB := tb_5 105 rfl rfl
theorem tw_5_107 : (Jvm.Cond.lays "ToolCribModel" "ToolCribModel" "drawings" "I") ∈ TB := tb_5 107 rfl rfl
theorem tw_5_109 : (Jvm.Cond.laysFinal "ToolCribModel" "ToolCribModel" "papers" "[I") ∈ TB := tb_5 109 rfl rfl
theorem tw_5_111 : (Jvm.Cond.lays "ToolCribModel" "ToolCribModel" "manyPapers" "I") ∈ TB := tb_5 111 rfl rfl
theorem tw_5_113 : (Jvm.Cond.laysFinal "ToolCribModel" "ToolCribModel" "trial" "[I") ∈ TB := tb_5 113 rfl rfl
theorem tw_5_115 : (Jvm.Cond.laysFinal "ToolCribModel" "ToolCribModel" "cuts" "[I") ∈ TB := tb_5 115 rfl rfl
theorem tw_5_117 : (Jvm.Cond.laysFinal "ToolCribModel" "ToolCribModel" "at" "[I") ∈ TB := tb_5 117 rfl rfl
theorem tw_5_119 : (Jvm.Cond.laysFinal "ToolCribModel" "ToolCribModel" "inPrograms" "[I") ∈ TB := tb_5 119 rfl rfl
theorem tw_5_121 : (Jvm.Cond.laysFinal "ToolCribModel" "ToolCribModel" "inBlocks" "[I") ∈ TB := tb_5 121 rfl rfl
theorem tw_5_123 : (Jvm.Cond.lays "ToolCribModel" "ToolCribModel" "mode" "I") ∈ TB := tb_5 123 rfl rfl
theorem tw_5_125 : (Jvm.Cond.lays "ToolCribModel" "ToolCribModel" "measure" "I") ∈ TB := tb_5 125 rfl rfl
theorem tw_5_127 : (Jvm.Cond.lays "ToolCribModel" "ToolCribModel" "kind" "I") ∈ TB := tb_5 127 rfl rfl
theorem tw_5_129 : (Jvm.Cond.lays "ToolCribModel" "ToolCribModel" "steps" "I") ∈ TB := tb_5 129 rfl rfl
theorem tw_5_131 : (Jvm.Cond.lays "ToolCribModel" "ToolCribModel" "last" "I") ∈ TB := tb_5 131 rfl rfl
theorem tw_5_134 : (Jvm.Cond.arrayClass Jvm.ClassFile.FieldType.boolean) ∈ TB := tb_5 134 rfl rfl
theorem tw_5_135 : (Jvm.Cond.methodLink "ToolCribLaw" (101 : Nat) ({ cls := "ToolCribModel", name := "thrown", desc := "()I" } : Jvm.MethodName)) ∈ TB := tb_5 135 rfl rfl
theorem tw_5_136 : (Jvm.Cond.instanceMethod ({ cls := "ToolCribModel", name := "thrown", desc := "()I" } : Jvm.MethodName)) ∈ TB := tb_5 136 rfl rfl
theorem tw_5_137 : (Jvm.Cond.selects "ToolCribModel" ({ cls := "ToolCribModel", name := "thrown", desc := "()I" } : Jvm.MethodName) ({ cls := "ToolCribModel", name := "thrown", desc := "()I" } : Jvm.MethodName)) ∈ TB := tb_5 137 rfl rfl
theorem tw_5_138 : (Jvm.Cond.code ({ cls := "ToolCribModel", name := "thrown", desc := "()I" } : Jvm.MethodName) prog_11_method_2_code (1 : Nat) (Option.some Jvm.ClassFile.FieldType.int)) ∈ TB := tb_5 138 rfl rfl
theorem tw_5_139 : (Jvm.Cond.methodLink "ToolCribLaw" (100 : Nat) ({ cls := "ToolCribModel", name := "program", desc := "()I" } : Jvm.MethodName)) ∈ TB := tb_5 139 rfl rfl
theorem tw_5_140 : (Jvm.Cond.instanceMethod ({ cls := "ToolCribModel", name := "program", desc := "()I" } : Jvm.MethodName)) ∈ TB := tb_5 140 rfl rfl
theorem tw_5_141 : (Jvm.Cond.selects "ToolCribModel" ({ cls := "ToolCribModel", name := "program", desc := "()I" } : Jvm.MethodName) ({ cls := "ToolCribModel", name := "program", desc := "()I" } : Jvm.MethodName)) ∈ TB := tb_5 141 rfl rfl
theorem tw_5_142 : (Jvm.Cond.code ({ cls := "ToolCribModel", name := "program", desc := "()I" } : Jvm.MethodName) prog_11_method_11_code (1 : Nat) (Option.some Jvm.ClassFile.FieldType.int)) ∈ TB := tb_5 142 rfl rfl
theorem tw_5_143 : (Jvm.Cond.methodLink "ToolCribModel" (127 : Nat) ({ cls := "ToolCribModel", name := "goes", desc := "(ZZZ)Z" } : Jvm.MethodName)) ∈ TB := tb_5 143 rfl rfl
theorem tw_5_145 : (Jvm.Cond.instanceMethod ({ cls := "ToolCribModel", name := "goes", desc := "(ZZZ)Z" } : Jvm.MethodName)) ∈ TB := tb_5 145 rfl rfl
theorem tw_5_146 : (Jvm.Cond.code ({ cls := "ToolCribModel", name := "goes", desc := "(ZZZ)Z" } : Jvm.MethodName) prog_11_method_4_code (4 : Nat) (Option.some Jvm.ClassFile.FieldType.boolean)) ∈ TB := tb_5 146 rfl rfl
theorem tw_5_147 : (Jvm.Cond.methodLink "ToolCribLaw" (107 : Nat) ({ cls := "ToolCribModel", name := "block", desc := "(III)I" } : Jvm.MethodName)) ∈ TB := tb_5 147 rfl rfl
theorem tw_5_148 : (Jvm.Cond.instanceMethod ({ cls := "ToolCribModel", name := "block", desc := "(III)I" } : Jvm.MethodName)) ∈ TB := tb_5 148 rfl rfl
theorem tw_5_149 : (Jvm.Cond.selects "ToolCribModel" ({ cls := "ToolCribModel", name := "block", desc := "(III)I" } : Jvm.MethodName) ({ cls := "ToolCribModel", name := "block", desc := "(III)I" } : Jvm.MethodName)) ∈ TB := tb_5 149 rfl rfl
theorem tw_5_150 : (Jvm.Cond.code ({ cls := "ToolCribModel", name := "block", desc := "(III)I" } : Jvm.MethodName) prog_11_method_13_code (5 : Nat) (Option.some Jvm.ClassFile.FieldType.int)) ∈ TB := tb_5 150 rfl rfl
theorem tw_5_151 : (Jvm.Cond.methodLink "ToolCribModel" (131 : Nat) ({ cls := "ToolCribModel", name := "isProgram", desc := "(I)Z" } : Jvm.MethodName)) ∈ TB := tb_5 151 rfl rfl
theorem tw_5_153 : (Jvm.Cond.instanceMethod ({ cls := "ToolCribModel", name := "isProgram", desc := "(I)Z" } : Jvm.MethodName)) ∈ TB := tb_5 153 rfl rfl
theorem tw_5_154 : (Jvm.Cond.code ({ cls := "ToolCribModel", name := "isProgram", desc := "(I)Z" } : Jvm.MethodName) prog_11_method_5_code (2 : Nat) (Option.some Jvm.ClassFile.FieldType.boolean)) ∈ TB := tb_5 154 rfl rfl
theorem tw_5_155 : (Jvm.Cond.methodLink "ToolCribModel" (114 : Nat) ({ cls := "ToolCribModel", name := "in", desc := "(III)Z" } : Jvm.MethodName)) ∈ TB := tb_5 155 rfl rfl
theorem tw_5_156 : (Jvm.Cond.static ({ cls := "ToolCribModel", name := "in", desc := "(III)Z" } : Jvm.MethodName)) ∈ TB := tb_5 156 rfl rfl
theorem tw_5_157 : (Jvm.Cond.code ({ cls := "ToolCribModel", name := "in", desc := "(III)Z" } : Jvm.MethodName) prog_11_method_3_code (3 : Nat) (Option.some Jvm.ClassFile.FieldType.boolean)) ∈ TB := tb_5 157 rfl rfl
theorem tw_5_158 : (Jvm.Cond.methodLink "ToolCribModel" (135 : Nat) ({ cls := "ToolCribModel", name := "isBlock", desc := "(III)Z" } : Jvm.MethodName)) ∈ TB := tb_5 158 rfl rfl
theorem tw_5_159 : (Jvm.Cond.static ({ cls := "ToolCribModel", name := "isBlock", desc := "(III)Z" } : Jvm.MethodName)) ∈ TB := tb_5 159 rfl rfl
theorem tw_5_160 : (Jvm.Cond.code ({ cls := "ToolCribModel", name := "isBlock", desc := "(III)Z" } : Jvm.MethodName) prog_11_method_12_code (3 : Nat) (Option.some Jvm.ClassFile.FieldType.boolean)) ∈ TB := tb_5 160 rfl rfl
theorem tw_5_161 : (Jvm.Cond.methodLink "ToolCribLaw" (111 : Nat) ({ cls := "ToolCribModel", name := "map", desc := "(II)I" } : Jvm.MethodName)) ∈ TB := tb_5 161 rfl rfl
theorem tw_5_162 : (Jvm.Cond.instanceMethod ({ cls := "ToolCribModel", name := "map", desc := "(II)I" } : Jvm.MethodName)) ∈ TB := tb_5 162 rfl rfl
theorem tw_5_163 : (Jvm.Cond.selects "ToolCribModel" ({ cls := "ToolCribModel", name := "map", desc := "(II)I" } : Jvm.MethodName) ({ cls := "ToolCribModel", name := "map", desc := "(II)I" } : Jvm.MethodName)) ∈ TB := tb_5 163 rfl rfl
theorem tw_5_164 : (Jvm.Cond.code ({ cls := "ToolCribModel", name := "map", desc := "(II)I" } : Jvm.MethodName) prog_11_method_14_code (4 : Nat) (Option.some Jvm.ClassFile.FieldType.int)) ∈ TB := tb_5 164 rfl rfl
theorem tw_5_165 : (Jvm.Cond.methodLink "ToolCribLaw" (114 : Nat) ({ cls := "ToolCribModel", name := "tool", desc := "(II)I" } : Jvm.MethodName)) ∈ TB := tb_5 165 rfl rfl
theorem tw_5_166 : (Jvm.Cond.instanceMethod ({ cls := "ToolCribModel", name := "tool", desc := "(II)I" } : Jvm.MethodName)) ∈ TB := tb_5 166 rfl rfl
theorem tw_5_167 : (Jvm.Cond.selects "ToolCribModel" ({ cls := "ToolCribModel", name := "tool", desc := "(II)I" } : Jvm.MethodName) ({ cls := "ToolCribModel", name := "tool", desc := "(II)I" } : Jvm.MethodName)) ∈ TB := tb_5 167 rfl rfl
theorem tw_5_168 : (Jvm.Cond.code ({ cls := "ToolCribModel", name := "tool", desc := "(II)I" } : Jvm.MethodName) prog_11_method_15_code (3 : Nat) (Option.some Jvm.ClassFile.FieldType.int)) ∈ TB := tb_5 168 rfl rfl
theorem tw_5_169 : (Jvm.Cond.methodLink "ToolCribLaw" (118 : Nat) ({ cls := "ToolCribModel", name := "load", desc := "(IZ)I" } : Jvm.MethodName)) ∈ TB := tb_5 169 rfl rfl
theorem tw_5_170 : (Jvm.Cond.instanceMethod ({ cls := "ToolCribModel", name := "load", desc := "(IZ)I" } : Jvm.MethodName)) ∈ TB := tb_5 170 rfl rfl
theorem tw_5_171 : (Jvm.Cond.selects "ToolCribModel" ({ cls := "ToolCribModel", name := "load", desc := "(IZ)I" } : Jvm.MethodName) ({ cls := "ToolCribModel", name := "load", desc := "(IZ)I" } : Jvm.MethodName)) ∈ TB := tb_5 171 rfl rfl
theorem tw_5_172 : (Jvm.Cond.code ({ cls := "ToolCribModel", name := "load", desc := "(IZ)I" } : Jvm.MethodName) prog_11_method_17_code (4 : Nat) (Option.some Jvm.ClassFile.FieldType.int)) ∈ TB := tb_5 172 rfl rfl
theorem tw_5_173 : (Jvm.Cond.methodLink "ToolCribModel" (141 : Nat) ({ cls := "ToolCribModel", name := "isTool", desc := "(I)Z" } : Jvm.MethodName)) ∈ TB := tb_5 173 rfl rfl
theorem tw_5_175 : (Jvm.Cond.instanceMethod ({ cls := "ToolCribModel", name := "isTool", desc := "(I)Z" } : Jvm.MethodName)) ∈ TB := tb_5 175 rfl rfl
theorem tw_5_176 : (Jvm.Cond.code ({ cls := "ToolCribModel", name := "isTool", desc := "(I)Z" } : Jvm.MethodName) prog_11_method_6_code (2 : Nat) (Option.some Jvm.ClassFile.FieldType.boolean)) ∈ TB := tb_5 176 rfl rfl
theorem tw_5_177 : (Jvm.Cond.methodLink "ToolCribModel" (144 : Nat) ({ cls := "ToolCribModel", name := "countLoaded", desc := "()I" } : Jvm.MethodName)) ∈ TB := tb_5 177 rfl rfl
theorem tw_5_179 : (Jvm.Cond.instanceMethod ({ cls := "ToolCribModel", name := "countLoaded", desc := "()I" } : Jvm.MethodName)) ∈ TB := tb_5 179 rfl rfl
theorem tw_5_180 : (Jvm.Cond.code ({ cls := "ToolCribModel", name := "countLoaded", desc := "()I" } : Jvm.MethodName) prog_11_method_16_code (3 : Nat) (Option.some Jvm.ClassFile.FieldType.int)) ∈ TB := tb_5 180 rfl rfl
theorem tw_5_181 : (Jvm.Cond.methodLink "ToolCribLaw" (122 : Nat) ({ cls := "ToolCribModel", name := "pallet", desc := "(I)I" } : Jvm.MethodName)) ∈ TB := tb_5 181 rfl rfl
theorem tw_5_182 : (Jvm.Cond.instanceMethod ({ cls := "ToolCribModel", name := "pallet", desc := "(I)I" } : Jvm.MethodName)) ∈ TB := tb_5 182 rfl rfl
theorem tw_5_183 : (Jvm.Cond.selects "ToolCribModel" ({ cls := "ToolCribModel", name := "pallet", desc := "(I)I" } : Jvm.MethodName) ({ cls := "ToolCribModel", name := "pallet", desc := "(I)I" } : Jvm.MethodName)) ∈ TB := tb_5 183 rfl rfl
theorem tw_5_184 : (Jvm.Cond.code ({ cls := "ToolCribModel", name := "pallet", desc := "(I)I" } : Jvm.MethodName) prog_11_method_18_code (3 : Nat) (Option.some Jvm.ClassFile.FieldType.int)) ∈ TB := tb_5 184 rfl rfl
theorem tw_5_185 : (Jvm.Cond.methodLink "ToolCribLaw" (126 : Nat) ({ cls := "ToolCribModel", name := "clamp", desc := "(IIII)I" } : Jvm.MethodName)) ∈ TB := tb_5 185 rfl rfl
theorem tw_5_186 : (Jvm.Cond.instanceMethod ({ cls := "ToolCribModel", name := "clamp", desc := "(IIII)I" } : Jvm.MethodName)) ∈ TB := tb_5 186 rfl rfl
theorem tw_5_187 : (Jvm.Cond.selects "ToolCribModel" ({ cls := "ToolCribModel", name := "clamp", desc := "(IIII)I" } : Jvm.MethodName) ({ cls := "ToolCribModel", name := "clamp", desc := "(IIII)I" } : Jvm.MethodName)) ∈ TB := tb_5 187 rfl rfl
theorem tw_5_188 : (Jvm.Cond.code ({ cls := "ToolCribModel", name := "clamp", desc := "(IIII)I" } : Jvm.MethodName) prog_11_method_19_code (8 : Nat) (Option.some Jvm.ClassFile.FieldType.int)) ∈ TB := tb_5 188 rfl rfl
theorem tw_5_189 : (Jvm.Cond.methodLink "ToolCribModel" (148 : Nat) ({ cls := "ToolCribModel", name := "isPallet", desc := "(I)Z" } : Jvm.MethodName)) ∈ TB := tb_5 189 rfl rfl
theorem tw_5_191 : (Jvm.Cond.instanceMethod ({ cls := "ToolCribModel", name := "isPallet", desc := "(I)Z" } : Jvm.MethodName)) ∈ TB := tb_5 191 rfl rfl
theorem tw_5_192 : (Jvm.Cond.code ({ cls := "ToolCribModel", name := "isPallet", desc := "(I)Z" } : Jvm.MethodName) prog_11_method_7_code (2 : Nat) (Option.some Jvm.ClassFile.FieldType.boolean)) ∈ TB := tb_5 192 rfl rfl
theorem tw_5_193 : (Jvm.Cond.methodLink "ToolCribModel" (151 : Nat) ({ cls := "ToolCribModel", name := "isCell", desc := "(II)Z" } : Jvm.MethodName)) ∈ TB := tb_5 193 rfl rfl
theorem tw_5_194 : (Jvm.Cond.static ({ cls := "ToolCribModel", name := "isCell", desc := "(II)Z" } : Jvm.MethodName)) ∈ TB := tb_5 194 rfl rfl
theorem tw_5_195 : (Jvm.Cond.code ({ cls := "ToolCribModel", name := "isCell", desc := "(II)Z" } : Jvm.MethodName) prog_11_method_8_code (2 : Nat) (Option.some Jvm.ClassFile.FieldType.boolean)) ∈ TB := tb_5 195 rfl rfl
theorem tw_5_196 : (Jvm.Cond.methodLink "ToolCribLaw" (129 : Nat) ({ cls := "ToolCribModel", name := "prove", desc := "(II)I" } : Jvm.MethodName)) ∈ TB := tb_5 196 rfl rfl
theorem tw_5_197 : (Jvm.Cond.instanceMethod ({ cls := "ToolCribModel", name := "prove", desc := "(II)I" } : Jvm.MethodName)) ∈ TB := tb_5 197 rfl rfl
theorem tw_5_198 : (Jvm.Cond.selects "ToolCribModel" ({ cls := "ToolCribModel", name := "prove", desc := "(II)I" } : Jvm.MethodName) ({ cls := "ToolCribModel", name := "prove", desc := "(II)I" } : Jvm.MethodName)) ∈ TB := tb_5 198 rfl rfl
theorem tw_5_199 : (Jvm.Cond.code ({ cls := "ToolCribModel", name := "prove", desc := "(II)I" } : Jvm.MethodName) prog_11_method_26_code (4 : Nat) (Option.some Jvm.ClassFile.FieldType.int)) ∈ TB := tb_5 199 rfl rfl
theorem tw_5_200 : (Jvm.Cond.methodLink "ToolCribModel" (193 : Nat) ({ cls := "ToolCribModel", name := "runs", desc := "(IIII)I" } : Jvm.MethodName)) ∈ TB := tb_5 200 rfl rfl
theorem tw_5_202 : (Jvm.Cond.instanceMethod ({ cls := "ToolCribModel", name := "runs", desc := "(IIII)I" } : Jvm.MethodName)) ∈ TB := tb_5 202 rfl rfl
theorem tw_5_203 : (Jvm.Cond.code ({ cls := "ToolCribModel", name := "runs", desc := "(IIII)I" } : Jvm.MethodName) prog_11_method_24_code (11 : Nat) (Option.some Jvm.ClassFile.FieldType.int)) ∈ TB := tb_5 203 rfl rfl
theorem tw_5_204 : (Jvm.Cond.methodLink "ToolCribModel" (185 : Nat) ({ cls := "ToolCribModel", name := "moves", desc := "(IIIII)I" } : Jvm.MethodName)) ∈ TB := tb_5 204 rfl rfl
theorem tw_5_206 : (Jvm.Cond.instanceMethod ({ cls := "ToolCribModel", name := "moves", desc := "(IIIII)I" } : Jvm.MethodName)) ∈ TB := tb_5 206 rfl rfl
theorem tw_5_207 : (Jvm.Cond.code ({ cls := "ToolCribModel", name := "moves", desc := "(IIIII)I" } : Jvm.MethodName) prog_11_method_23_code (8 : Nat) (Option.some Jvm.ClassFile.FieldType.int)) ∈ TB := tb_5 207 rfl rfl
theorem tw_5_208 : (Jvm.Cond.methodLink "ToolCribModel" (181 : Nat) ({ cls := "ToolCribModel", name := "step", desc := "(III)I" } : Jvm.MethodName)) ∈ TB := tb_5 208 rfl rfl
theorem tw_5_210 : (Jvm.Cond.instanceMethod ({ cls := "ToolCribModel", name := "step", desc := "(III)I" } : Jvm.MethodName)) ∈ TB := tb_5 210 rfl rfl
theorem tw_5_211 : (Jvm.Cond.code ({ cls := "ToolCribModel", name := "step", desc := "(III)I" } : Jvm.MethodName) prog_11_method_22_code (8 : Nat) (Option.some Jvm.ClassFile.FieldType.int)) ∈ TB := tb_5 211 rfl rfl
theorem tw_5_212 : (Jvm.Cond.methodLink "ToolCribModel" (170 : Nat) ({ cls := "ToolCribModel", name := "toolFor", desc := "(I[I)I" } : Jvm.MethodName)) ∈ TB := tb_5 212 rfl rfl
theorem tw_5_214 : (Jvm.Cond.instanceMethod ({ cls := "ToolCribModel", name := "toolFor", desc := "(I[I)I" } : Jvm.MethodName)) ∈ TB := tb_5 214 rfl rfl
theorem tw_5_215 : (Jvm.Cond.code ({ cls := "ToolCribModel", name := "toolFor", desc := "(I[I)I" } : Jvm.MethodName) prog_11_method_20_code (4 : Nat) (Option.some Jvm.ClassFile.FieldType.int)) ∈ TB := tb_5 215 rfl rfl
theorem tw_5_216 : (Jvm.Cond.methodLink "ToolCribModel" (174 : Nat) ({ cls := "ToolCribModel", name := "cutsIn", desc := "(III)V" } : Jvm.MethodName)) ∈ TB := tb_5 216 rfl rfl
theorem tw_5_218 : (Jvm.Cond.instanceMethod ({ cls := "ToolCribModel", name := "cutsIn", desc := "(III)V" } : Jvm.MethodName)) ∈ TB := tb_5 218 rfl rfl
theorem tw_5_219 : (Jvm.Cond.code ({ cls := "ToolCribModel", name := "cutsIn", desc := "(III)V" } : Jvm.MethodName) prog_11_method_21_code (6 : Nat) (Option.none : Option Jvm.ClassFile.FieldType)) ∈ TB := tb_5 219 rfl rfl
theorem tw_5_220 : (Jvm.Cond.methodLink "ToolCribModel" (189 : Nat) ({ cls := "ToolCribModel", name := "sets", desc := "(II)I" } : Jvm.MethodName)) ∈ TB := tb_5 220 rfl rfl
theorem tw_5_222 : (Jvm.Cond.instanceMethod ({ cls := "ToolCribModel", name := "sets", desc := "(II)I" } : Jvm.MethodName)) ∈ TB := tb_5 222 rfl rfl
theorem tw_5_223 : (Jvm.Cond.code ({ cls := "ToolCribModel", name := "sets", desc := "(II)I" } : Jvm.MethodName) prog_11_method_25_code (3 : Nat) (Option.some Jvm.ClassFile.FieldType.int)) ∈ TB := tb_5 223 rfl rfl
theorem tw_5_224 : (Jvm.Cond.methodLink "ToolCribLaw" (132 : Nat) ({ cls := "ToolCribModel", name := "takes", desc := "(II)I" } : Jvm.MethodName)) ∈ TB := tb_5 224 rfl rfl
theorem tw_5_225 : (Jvm.Cond.instanceMethod ({ cls := "ToolCribModel", name := "takes", desc := "(II)I" } : Jvm.MethodName)) ∈ TB := tb_5 225 rfl rfl
theorem tw_5_226 : (Jvm.Cond.selects "ToolCribModel" ({ cls := "ToolCribModel", name := "takes", desc := "(II)I" } : Jvm.MethodName) ({ cls := "ToolCribModel", name := "takes", desc := "(II)I" } : Jvm.MethodName)) ∈ TB := tb_5 226 rfl rfl
theorem tw_5_227 : (Jvm.Cond.code ({ cls := "ToolCribModel", name := "takes", desc := "(II)I" } : Jvm.MethodName) prog_11_method_27_code (3 : Nat) (Option.some Jvm.ClassFile.FieldType.int)) ∈ TB := tb_5 227 rfl rfl
theorem tw_5_228 : (Jvm.Cond.methodLink "ToolCribLaw" (135 : Nat) ({ cls := "ToolCribModel", name := "plan", desc := "(II)I" } : Jvm.MethodName)) ∈ TB := tb_5 228 rfl rfl
theorem tw_5_229 : (Jvm.Cond.instanceMethod ({ cls := "ToolCribModel", name := "plan", desc := "(II)I" } : Jvm.MethodName)) ∈ TB := tb_5 229 rfl rfl
theorem tw_5_230 : (Jvm.Cond.selects "ToolCribModel" ({ cls := "ToolCribModel", name := "plan", desc := "(II)I" } : Jvm.MethodName) ({ cls := "ToolCribModel", name := "plan", desc := "(II)I" } : Jvm.MethodName)) ∈ TB := tb_5 230 rfl rfl
theorem tw_5_231 : (Jvm.Cond.code ({ cls := "ToolCribModel", name := "plan", desc := "(II)I" } : Jvm.MethodName) prog_11_method_28_code (4 : Nat) (Option.some Jvm.ClassFile.FieldType.int)) ∈ TB := tb_5 231 rfl rfl
theorem tw_5_232 : (Jvm.Cond.methodLink "ToolCribLaw" (139 : Nat) ({ cls := "ToolCribModel", name := "night", desc := "()I" } : Jvm.MethodName)) ∈ TB := tb_5 232 rfl rfl
theorem tw_5_233 : (Jvm.Cond.instanceMethod ({ cls := "ToolCribModel", name := "night", desc := "()I" } : Jvm.MethodName)) ∈ TB := tb_5 233 rfl rfl
theorem tw_5_234 : (Jvm.Cond.selects "ToolCribModel" ({ cls := "ToolCribModel", name := "night", desc := "()I" } : Jvm.MethodName) ({ cls := "ToolCribModel", name := "night", desc := "()I" } : Jvm.MethodName)) ∈ TB := tb_5 234 rfl rfl
theorem tw_5_235 : (Jvm.Cond.code ({ cls := "ToolCribModel", name := "night", desc := "()I" } : Jvm.MethodName) prog_11_method_29_code (6 : Nat) (Option.some Jvm.ClassFile.FieldType.int)) ∈ TB := tb_5 235 rfl rfl
theorem tw_5_236 : (Jvm.Cond.methodLink "ToolCribLaw" (143 : Nat) ({ cls := "ToolCribModel", name := "foresees", desc := "()I" } : Jvm.MethodName)) ∈ TB := tb_5 236 rfl rfl
theorem tw_5_237 : (Jvm.Cond.instanceMethod ({ cls := "ToolCribModel", name := "foresees", desc := "()I" } : Jvm.MethodName)) ∈ TB := tb_5 237 rfl rfl
theorem tw_5_238 : (Jvm.Cond.selects "ToolCribModel" ({ cls := "ToolCribModel", name := "foresees", desc := "()I" } : Jvm.MethodName) ({ cls := "ToolCribModel", name := "foresees", desc := "()I" } : Jvm.MethodName)) ∈ TB := tb_5 238 rfl rfl
theorem tw_5_239 : (Jvm.Cond.code ({ cls := "ToolCribModel", name := "foresees", desc := "()I" } : Jvm.MethodName) prog_11_method_30_code (2 : Nat) (Option.some Jvm.ClassFile.FieldType.int)) ∈ TB := tb_5 239 rfl rfl
theorem tw_6_0 : (Jvm.Cond.methodLink "ToolCribLaw" (146 : Nat) ({ cls := "ToolCribModel", name := "lacks", desc := "(I)I" } : Jvm.MethodName)) ∈ TB := tb_6 0 rfl rfl
theorem tw_6_1 : (Jvm.Cond.instanceMethod ({ cls := "ToolCribModel", name := "lacks", desc := "(I)I" } : Jvm.MethodName)) ∈ TB := tb_6 1 rfl rfl
theorem tw_6_2 : (Jvm.Cond.selects "ToolCribModel" ({ cls := "ToolCribModel", name := "lacks", desc := "(I)I" } : Jvm.MethodName) ({ cls := "ToolCribModel", name := "lacks", desc := "(I)I" } : Jvm.MethodName)) ∈ TB := tb_6 2 rfl rfl
theorem tw_6_3 : (Jvm.Cond.code ({ cls := "ToolCribModel", name := "lacks", desc := "(I)I" } : Jvm.MethodName) prog_11_method_31_code (4 : Nat) (Option.some Jvm.ClassFile.FieldType.int)) ∈ TB := tb_6 3 rfl rfl
theorem tw_6_4 : (Jvm.Cond.methodLink "ToolCribLaw" (149 : Nat) ({ cls := "ToolCribModel", name := "idle", desc := "(I)I" } : Jvm.MethodName)) ∈ TB := tb_6 4 rfl rfl
theorem tw_6_5 : (Jvm.Cond.instanceMethod ({ cls := "ToolCribModel", name := "idle", desc := "(I)I" } : Jvm.MethodName)) ∈ TB := tb_6 5 rfl rfl
theorem tw_6_6 : (Jvm.Cond.selects "ToolCribModel" ({ cls := "ToolCribModel", name := "idle", desc := "(I)I" } : Jvm.MethodName) ({ cls := "ToolCribModel", name := "idle", desc := "(I)I" } : Jvm.MethodName)) ∈ TB := tb_6 6 rfl rfl
theorem tw_6_7 : (Jvm.Cond.code ({ cls := "ToolCribModel", name := "idle", desc := "(I)I" } : Jvm.MethodName) prog_11_method_32_code (3 : Nat) (Option.some Jvm.ClassFile.FieldType.int)) ∈ TB := tb_6 7 rfl rfl
theorem tw_6_8 : (Jvm.Cond.constant "ToolCribModel" (197 : Nat) (1000000 : Int32)) ∈ TB := tb_6 8 rfl rfl
theorem tw_6_9 : (Jvm.Cond.methodLink "ToolCribLaw" (152 : Nat) ({ cls := "ToolCribModel", name := "calibrate", desc := "(II)I" } : Jvm.MethodName)) ∈ TB := tb_6 9 rfl rfl
theorem tw_6_10 : (Jvm.Cond.instanceMethod ({ cls := "ToolCribModel", name := "calibrate", desc := "(II)I" } : Jvm.MethodName)) ∈ TB := tb_6 10 rfl rfl
theorem tw_6_11 : (Jvm.Cond.selects "ToolCribModel" ({ cls := "ToolCribModel", name := "calibrate", desc := "(II)I" } : Jvm.MethodName) ({ cls := "ToolCribModel", name := "calibrate", desc := "(II)I" } : Jvm.MethodName)) ∈ TB := tb_6 11 rfl rfl
theorem tw_6_12 : (Jvm.Cond.code ({ cls := "ToolCribModel", name := "calibrate", desc := "(II)I" } : Jvm.MethodName) prog_11_method_34_code (3 : Nat) (Option.some Jvm.ClassFile.FieldType.int)) ∈ TB := tb_6 12 rfl rfl
theorem tw_6_13 : (Jvm.Cond.methodLink "ToolCribModel" (198 : Nat) ({ cls := "ToolCribModel", name := "isGauge", desc := "(I)Z" } : Jvm.MethodName)) ∈ TB := tb_6 13 rfl rfl
theorem tw_6_14 : (Jvm.Cond.static ({ cls := "ToolCribModel", name := "isGauge", desc := "(I)Z" } : Jvm.MethodName)) ∈ TB := tb_6 14 rfl rfl
theorem tw_6_15 : (Jvm.Cond.code ({ cls := "ToolCribModel", name := "isGauge", desc := "(I)Z" } : Jvm.MethodName) prog_11_method_33_code (1 : Nat) (Option.some Jvm.ClassFile.FieldType.boolean)) ∈ TB := tb_6 15 rfl rfl
theorem tw_6_16 : (Jvm.Cond.methodLink "ToolCribLaw" (155 : Nat) ({ cls := "ToolCribModel", name := "drawing", desc := "()I" } : Jvm.MethodName)) ∈ TB := tb_6 16 rfl rfl
theorem tw_6_17 : (Jvm.Cond.instanceMethod ({ cls := "ToolCribModel", name := "drawing", desc := "()I" } : Jvm.MethodName)) ∈ TB := tb_6 17 rfl rfl
theorem tw_6_18 : (Jvm.Cond.selects "ToolCribModel" ({ cls := "ToolCribModel", name := "drawing", desc := "()I" } : Jvm.MethodName) ({ cls := "ToolCribModel", name := "drawing", desc := "()I" } : Jvm.MethodName)) ∈ TB := tb_6 18 rfl rfl
theorem tw_6_19 : (Jvm.Cond.code ({ cls := "ToolCribModel", name := "drawing", desc := "()I" } : Jvm.MethodName) prog_11_method_35_code (1 : Nat) (Option.some Jvm.ClassFile.FieldType.int)) ∈ TB := tb_6 19 rfl rfl
theorem tw_6_20 : (Jvm.Cond.methodLink "ToolCribLaw" (159 : Nat) ({ cls := "ToolCribModel", name := "feature", desc := "(IIIII)I" } : Jvm.MethodName)) ∈ TB := tb_6 20 rfl rfl
theorem tw_6_21 : (Jvm.Cond.instanceMethod ({ cls := "ToolCribModel", name := "feature", desc := "(IIIII)I" } : Jvm.MethodName)) ∈ TB := tb_6 21 rfl rfl
theorem tw_6_22 : (Jvm.Cond.selects "ToolCribModel" ({ cls := "ToolCribModel", name := "feature", desc := "(IIIII)I" } : Jvm.MethodName) ({ cls := "ToolCribModel", name := "feature", desc := "(IIIII)I" } : Jvm.MethodName)) ∈ TB := tb_6 22 rfl rfl
theorem tw_6_23 : (Jvm.Cond.code ({ cls := "ToolCribModel", name := "feature", desc := "(IIIII)I" } : Jvm.MethodName) prog_11_method_36_code (8 : Nat) (Option.some Jvm.ClassFile.FieldType.int)) ∈ TB := tb_6 23 rfl rfl
theorem tw_6_24 : (Jvm.Cond.methodLink "ToolCribModel" (201 : Nat) ({ cls := "ToolCribModel", name := "isDrawing", desc := "(I)Z" } : Jvm.MethodName)) ∈ TB := tb_6 24 rfl rfl
theorem tw_6_26 : (Jvm.Cond.instanceMethod ({ cls := "ToolCribModel", name := "isDrawing", desc := "(I)Z" } : Jvm.MethodName)) ∈ TB := tb_6 26 rfl rfl
theorem tw_6_27 : (Jvm.Cond.code ({ cls := "ToolCribModel", name := "isDrawing", desc := "(I)Z" } : Jvm.MethodName) prog_11_method_9_code (2 : Nat) (Option.some Jvm.ClassFile.FieldType.boolean)) ∈ TB := tb_6 27 rfl rfl
theorem tw_6_28 : (Jvm.Cond.methodLink "ToolCribLaw" (162 : Nat) ({ cls := "ToolCribModel", name := "allow", desc := "(IIII)I" } : Jvm.MethodName)) ∈ TB := tb_6 28 rfl rfl
theorem tw_6_29 : (Jvm.Cond.instanceMethod ({ cls := "ToolCribModel", name := "allow", desc := "(IIII)I" } : Jvm.MethodName)) ∈ TB := tb_6 29 rfl rfl
theorem tw_6_30 : (Jvm.Cond.selects "ToolCribModel" ({ cls := "ToolCribModel", name := "allow", desc := "(IIII)I" } : Jvm.MethodName) ({ cls := "ToolCribModel", name := "allow", desc := "(IIII)I" } : Jvm.MethodName)) ∈ TB := tb_6 30 rfl rfl
theorem tw_6_31 : (Jvm.Cond.code ({ cls := "ToolCribModel", name := "allow", desc := "(IIII)I" } : Jvm.MethodName) prog_11_method_37_code (7 : Nat) (Option.some Jvm.ClassFile.FieldType.int)) ∈ TB := tb_6 31 rfl rfl
theorem tw_6_32 : (Jvm.Cond.methodLink "ToolCribLaw" (165 : Nat) ({ cls := "ToolCribModel", name := "judge", desc := "(III)I" } : Jvm.MethodName)) ∈ TB := tb_6 32 rfl rfl
theorem tw_6_33 : (Jvm.Cond.instanceMethod ({ cls := "ToolCribModel", name := "judge", desc := "(III)I" } : Jvm.MethodName)) ∈ TB := tb_6 33 rfl rfl
theorem tw_6_34 : (Jvm.Cond.selects "ToolCribModel" ({ cls := "ToolCribModel", name := "judge", desc := "(III)I" } : Jvm.MethodName) ({ cls := "ToolCribModel", name := "judge", desc := "(III)I" } : Jvm.MethodName)) ∈ TB := tb_6 34 rfl rfl
theorem tw_6_35 : (Jvm.Cond.code ({ cls := "ToolCribModel", name := "judge", desc := "(III)I" } : Jvm.MethodName) prog_11_method_41_code (11 : Nat) (Option.some Jvm.ClassFile.FieldType.int)) ∈ TB := tb_6 35 rfl rfl
theorem tw_6_36 : (Jvm.Cond.methodLink "ToolCribModel" (211 : Nat) ({ cls := "ToolCribModel", name := "sizeOf", desc := "(I)I" } : Jvm.MethodName)) ∈ TB := tb_6 36 rfl rfl
theorem tw_6_38 : (Jvm.Cond.instanceMethod ({ cls := "ToolCribModel", name := "sizeOf", desc := "(I)I" } : Jvm.MethodName)) ∈ TB := tb_6 38 rfl rfl
theorem tw_6_39 : (Jvm.Cond.code ({ cls := "ToolCribModel", name := "sizeOf", desc := "(I)I" } : Jvm.MethodName) prog_11_method_38_code (4 : Nat) (Option.some Jvm.ClassFile.FieldType.int)) ∈ TB := tb_6 39 rfl rfl
theorem tw_6_40 : (Jvm.Cond.methodLink "ToolCribModel" (214 : Nat) ({ cls := "ToolCribModel", name := "tells", desc := "(II)V" } : Jvm.MethodName)) ∈ TB := tb_6 40 rfl rfl
theorem tw_6_42 : (Jvm.Cond.instanceMethod ({ cls := "ToolCribModel", name := "tells", desc := "(II)V" } : Jvm.MethodName)) ∈ TB := tb_6 42 rfl rfl
theorem tw_6_43 : (Jvm.Cond.code ({ cls := "ToolCribModel", name := "tells", desc := "(II)V" } : Jvm.MethodName) prog_11_method_39_code (3 : Nat) (Option.none : Option Jvm.ClassFile.FieldType)) ∈ TB := tb_6 43 rfl rfl
theorem tw_6_44 : (Jvm.Cond.methodLink "ToolCribModel" (218 : Nat) ({ cls := "ToolCribModel", name := "verdictOf", desc := "(I)I" } : Jvm.MethodName)) ∈ TB := tb_6 44 rfl rfl
theorem tw_6_46 : (Jvm.Cond.instanceMethod ({ cls := "ToolCribModel", name := "verdictOf", desc := "(I)I" } : Jvm.MethodName)) ∈ TB := tb_6 46 rfl rfl
theorem tw_6_47 : (Jvm.Cond.code ({ cls := "ToolCribModel", name := "verdictOf", desc := "(I)I" } : Jvm.MethodName) prog_11_method_40_code (7 : Nat) (Option.some Jvm.ClassFile.FieldType.int)) ∈ TB := tb_6 47 rfl rfl
theorem tw_6_48 : (Jvm.Cond.methodLink "ToolCribModel" (204 : Nat) ({ cls := "ToolCribModel", name := "size", desc := "(I)I" } : Jvm.MethodName)) ∈ TB := tb_6 48 rfl rfl
theorem tw_6_49 : (Jvm.Cond.static ({ cls := "ToolCribModel", name := "size", desc := "(I)I" } : Jvm.MethodName)) ∈ TB := tb_6 49 rfl rfl
theorem tw_6_50 : (Jvm.Cond.code ({ cls := "ToolCribModel", name := "size", desc := "(I)I" } : Jvm.MethodName) prog_11_method_10_code (1 : Nat) (Option.some Jvm.ClassFile.FieldType.int)) ∈ TB := tb_6 50 rfl rfl
theorem tw_6_51 : (Jvm.Cond.methodLink "ToolCribLaw" (168 : Nat) ({ cls := "ToolCribModel", name := "correct", desc := "(I)I" } : Jvm.MethodName)) ∈ TB := tb_6 51 rfl rfl
theorem tw_6_52 : (Jvm.Cond.instanceMethod ({ cls := "ToolCribModel", name := "correct", desc := "(I)I" } : Jvm.MethodName)) ∈ TB := tb_6 52 rfl rfl
theorem tw_6_53 : (Jvm.Cond.selects "ToolCribModel" ({ cls := "ToolCribModel", name := "correct", desc := "(I)I" } : Jvm.MethodName) ({ cls := "ToolCribModel", name := "correct", desc := "(I)I" } : Jvm.MethodName)) ∈ TB := tb_6 53 rfl rfl
theorem tw_6_54 : (Jvm.Cond.code ({ cls := "ToolCribModel", name := "correct", desc := "(I)I" } : Jvm.MethodName) prog_11_method_42_code (9 : Nat) (Option.some Jvm.ClassFile.FieldType.int)) ∈ TB := tb_6 54 rfl rfl
theorem tw_6_55 : (Jvm.Cond.methodLink "ToolCribLaw" (172 : Nat) ({ cls := "ToolCribModel", name := "minute", desc := "()I" } : Jvm.MethodName)) ∈ TB := tb_6 55 rfl rfl
theorem tw_6_56 : (Jvm.Cond.instanceMethod ({ cls := "ToolCribModel", name := "minute", desc := "()I" } : Jvm.MethodName)) ∈ TB := tb_6 56 rfl rfl
theorem tw_6_57 : (Jvm.Cond.selects "ToolCribModel" ({ cls := "ToolCribModel", name := "minute", desc := "()I" } : Jvm.MethodName) ({ cls := "ToolCribModel", name := "minute", desc := "()I" } : Jvm.MethodName)) ∈ TB := tb_6 57 rfl rfl
theorem tw_6_58 : (Jvm.Cond.code ({ cls := "ToolCribModel", name := "minute", desc := "()I" } : Jvm.MethodName) prog_11_method_43_code (1 : Nat) (Option.some Jvm.ClassFile.FieldType.int)) ∈ TB := tb_6 58 rfl rfl
theorem tw_6_59 : (Jvm.Cond.methodLink "ToolCribLaw" (176 : Nat) ({ cls := "ToolCribModel", name := "warmth", desc := "()I" } : Jvm.MethodName)) ∈ TB := tb_6 59 rfl rfl
theorem tw_6_60 : (Jvm.Cond.instanceMethod ({ cls := "ToolCribModel", name := "warmth", desc := "()I" } : Jvm.MethodName)) ∈ TB := tb_6 60 rfl rfl
theorem tw_6_61 : (Jvm.Cond.selects "ToolCribModel" ({ cls := "ToolCribModel", name := "warmth", desc := "()I" } : Jvm.MethodName) ({ cls := "ToolCribModel", name := "warmth", desc := "()I" } : Jvm.MethodName)) ∈ TB := tb_6 61 rfl rfl
theorem tw_6_62 : (Jvm.Cond.code ({ cls := "ToolCribModel", name := "warmth", desc := "()I" } : Jvm.MethodName) prog_11_method_44_code (1 : Nat) (Option.some Jvm.ClassFile.FieldType.int)) ∈ TB := tb_6 62 rfl rfl
theorem tw_6_63 : (Jvm.Cond.methodLink "ToolCribLaw" (179 : Nat) ({ cls := "ToolCribModel", name := "ofTool", desc := "(II)I" } : Jvm.MethodName)) ∈ TB := tb_6 63 rfl rfl
theorem tw_6_64 : (Jvm.Cond.instanceMethod ({ cls := "ToolCribModel", name := "ofTool", desc := "(II)I" } : Jvm.MethodName)) ∈ TB := tb_6 64 rfl rfl
theorem tw_6_65 : (Jvm.Cond.selects "ToolCribModel" ({ cls := "ToolCribModel", name := "ofTool", desc := "(II)I" } : Jvm.MethodName) ({ cls := "ToolCribModel", name := "ofTool", desc := "(II)I" } : Jvm.MethodName)) ∈ TB := tb_6 65 rfl rfl
theorem tw_6_66 : (Jvm.Cond.code ({ cls := "ToolCribModel", name := "ofTool", desc := "(II)I" } : Jvm.MethodName) prog_11_method_45_code (3 : Nat) (Option.some Jvm.ClassFile.FieldType.int)) ∈ TB := tb_6 66 rfl rfl
theorem tw_6_67 : (Jvm.Cond.methodLink "ToolCribLaw" (182 : Nat) ({ cls := "ToolCribModel", name := "ofCell", desc := "(IIII)I" } : Jvm.MethodName)) ∈ TB := tb_6 67 rfl rfl
theorem tw_6_68 : (Jvm.Cond.instanceMethod ({ cls := "ToolCribModel", name := "ofCell", desc := "(IIII)I" } : Jvm.MethodName)) ∈ TB := tb_6 68 rfl rfl
theorem tw_6_69 : (Jvm.Cond.selects "ToolCribModel" ({ cls := "ToolCribModel", name := "ofCell", desc := "(IIII)I" } : Jvm.MethodName) ({ cls := "ToolCribModel", name := "ofCell", desc := "(IIII)I" } : Jvm.MethodName)) ∈ TB := tb_6 69 rfl rfl
theorem tw_6_70 : (Jvm.Cond.code ({ cls := "ToolCribModel", name := "ofCell", desc := "(IIII)I" } : Jvm.MethodName) prog_11_method_47_code (7 : Nat) (Option.some Jvm.ClassFile.FieldType.int)) ∈ TB := tb_6 70 rfl rfl
theorem tw_6_71 : (Jvm.Cond.methodLink "ToolCribModel" (221 : Nat) ({ cls := "ToolCribModel", name := "causeOf", desc := "(I)I" } : Jvm.MethodName)) ∈ TB := tb_6 71 rfl rfl
theorem tw_6_73 : (Jvm.Cond.instanceMethod ({ cls := "ToolCribModel", name := "causeOf", desc := "(I)I" } : Jvm.MethodName)) ∈ TB := tb_6 73 rfl rfl
theorem tw_6_74 : (Jvm.Cond.code ({ cls := "ToolCribModel", name := "causeOf", desc := "(I)I" } : Jvm.MethodName) prog_11_method_46_code (5 : Nat) (Option.some Jvm.ClassFile.FieldType.int)) ∈ TB := tb_6 74 rfl rfl
theorem tw_6_75 : (Jvm.Cond.methodLink "ToolCribLaw" (185 : Nat) ({ cls := "ToolCribModel", name := "ofPallet", desc := "(II)I" } : Jvm.MethodName)) ∈ TB := tb_6 75 rfl rfl
theorem tw_6_76 : (Jvm.Cond.instanceMethod ({ cls := "ToolCribModel", name := "ofPallet", desc := "(II)I" } : Jvm.MethodName)) ∈ TB := tb_6 76 rfl rfl
theorem tw_6_77 : (Jvm.Cond.selects "ToolCribModel" ({ cls := "ToolCribModel", name := "ofPallet", desc := "(II)I" } : Jvm.MethodName) ({ cls := "ToolCribModel", name := "ofPallet", desc := "(II)I" } : Jvm.MethodName)) ∈ TB := tb_6 77 rfl rfl
theorem tw_6_78 : (Jvm.Cond.code ({ cls := "ToolCribModel", name := "ofPallet", desc := "(II)I" } : Jvm.MethodName) prog_11_method_48_code (5 : Nat) (Option.some Jvm.ClassFile.FieldType.int)) ∈ TB := tb_6 78 rfl rfl
theorem tw_6_79 : (Jvm.Cond.methodLink "ToolCribLaw" (188 : Nat) ({ cls := "ToolCribModel", name := "ofPaper", desc := "(II)I" } : Jvm.MethodName)) ∈ TB := tb_6 79 rfl rfl
theorem tw_6_80 : (Jvm.Cond.instanceMethod ({ cls := "ToolCribModel", name := "ofPaper", desc := "(II)I" } : Jvm.MethodName)) ∈ TB := tb_6 80 rfl rfl
theorem tw_6_81 : (Jvm.Cond.selects "ToolCribModel" ({ cls := "ToolCribModel", name := "ofPaper", desc := "(II)I" } : Jvm.MethodName) ({ cls := "ToolCribModel", name := "ofPaper", desc := "(II)I" } : Jvm.MethodName)) ∈ TB := tb_6 81 rfl rfl
theorem tw_6_82 : (Jvm.Cond.code ({ cls := "ToolCribModel", name := "ofPaper", desc := "(II)I" } : Jvm.MethodName) prog_11_method_49_code (3 : Nat) (Option.some Jvm.ClassFile.FieldType.int)) ∈ TB := tb_6 82 rfl rfl
theorem tw_6_83 : (Jvm.Cond.methodLink "ToolCribLaw" (191 : Nat) ({ cls := "ToolCribModel", name := "judgeAnew", desc := "(I)I" } : Jvm.MethodName)) ∈ TB := tb_6 83 rfl rfl
theorem tw_6_84 : (Jvm.Cond.instanceMethod ({ cls := "ToolCribModel", name := "judgeAnew", desc := "(I)I" } : Jvm.MethodName)) ∈ TB := tb_6 84 rfl rfl
theorem tw_6_85 : (Jvm.Cond.selects "ToolCribModel" ({ cls := "ToolCribModel", name := "judgeAnew", desc := "(I)I" } : Jvm.MethodName) ({ cls := "ToolCribModel", name := "judgeAnew", desc := "(I)I" } : Jvm.MethodName)) ∈ TB := tb_6 85 rfl rfl
theorem tw_6_86 : (Jvm.Cond.code ({ cls := "ToolCribModel", name := "judgeAnew", desc := "(I)I" } : Jvm.MethodName) prog_11_method_50_code (2 : Nat) (Option.some Jvm.ClassFile.FieldType.int)) ∈ TB := tb_6 86 rfl rfl
theorem tw_6_87 : (Jvm.Cond.arrayClass Jvm.ClassFile.FieldType.long) ∈ TB := tb_6 87 rfl rfl
theorem tw_6_88 : (Jvm.Cond.sameMethod "java/lang/Throwable" "java/lang/Throwable" "fillInStackTrace" "(I)Ljava/lang/Throwable;") ∈ TB := tb_6 88 rfl rfl
theorem tw_6_105 : (Jvm.Cond.sameMethod "[Ljava/lang/Object;" "java/lang/Object" "getClass" "()Ljava/lang/Class;") ∈ TB := tb_6 105 rfl rfl
theorem tw_6_106 : (Jvm.Cond.selects "[Ljava/lang/Object;" ({ cls := "java/lang/Object", name := "getClass", desc := "()Ljava/lang/Class;" } : Jvm.MethodName) ({ cls := "java/lang/Object", name := "getClass", desc := "()Ljava/lang/Class;" } : Jvm.MethodName)) ∈ TB := tb_6 106 rfl rfl
theorem ts_0 : (Jvm.Cond.selects "java/util/ArrayList" ({ cls := "java/util/ArrayList", name := "add", desc := "(Ljava/lang/Object;[Ljava/lang/Object;I)V" } : Jvm.MethodName) ({ cls := "java/util/ArrayList", name := "add", desc := "(Ljava/lang/Object;[Ljava/lang/Object;I)V" } : Jvm.MethodName)) ∈ TB := tb_s 0 rfl rfl
theorem ts_1 : (Jvm.Cond.selects "java/util/ArrayList" ({ cls := "java/util/ArrayList", name := "grow", desc := "()[Ljava/lang/Object;" } : Jvm.MethodName) ({ cls := "java/util/ArrayList", name := "grow", desc := "()[Ljava/lang/Object;" } : Jvm.MethodName)) ∈ TB := tb_s 1 rfl rfl
theorem ts_2 : (Jvm.Cond.selects "java/util/ArrayList" ({ cls := "java/util/ArrayList", name := "grow", desc := "(I)[Ljava/lang/Object;" } : Jvm.MethodName) ({ cls := "java/util/ArrayList", name := "grow", desc := "(I)[Ljava/lang/Object;" } : Jvm.MethodName)) ∈ TB := tb_s 2 rfl rfl
theorem ts_3 : (Jvm.Cond.selects "ToolCrib" ({ cls := "ToolCrib", name := "isCutToEnd", desc := "(LToolCrib$Pallet;)Z" } : Jvm.MethodName) ({ cls := "ToolCrib", name := "isCutToEnd", desc := "(LToolCrib$Pallet;)Z" } : Jvm.MethodName)) ∈ TB := tb_s 3 rfl rfl
theorem ts_4 : (Jvm.Cond.selects "ToolCrib$Walk" ({ cls := "ToolCrib$Walk", name := "enter", desc := "(I)V" } : Jvm.MethodName) ({ cls := "ToolCrib$Walk", name := "enter", desc := "(I)V" } : Jvm.MethodName)) ∈ TB := tb_s 4 rfl rfl
theorem ts_5 : (Jvm.Cond.selects "ToolCrib$Walk" ({ cls := "ToolCrib$Walk", name := "leaveEnded", desc := "()V" } : Jvm.MethodName) ({ cls := "ToolCrib$Walk", name := "leaveEnded", desc := "()V" } : Jvm.MethodName)) ∈ TB := tb_s 5 rfl rfl
theorem ts_6 : (Jvm.Cond.selects "java/util/ArrayList" ({ cls := "java/util/ArrayList", name := "fastRemove", desc := "([Ljava/lang/Object;I)V" } : Jvm.MethodName) ({ cls := "java/util/ArrayList", name := "fastRemove", desc := "([Ljava/lang/Object;I)V" } : Jvm.MethodName)) ∈ TB := tb_s 6 rfl rfl
theorem ts_7 : (Jvm.Cond.selects "ToolCrib$Walk" ({ cls := "ToolCrib$Walk", name := "obeyNext", desc := "(I)V" } : Jvm.MethodName) ({ cls := "ToolCrib$Walk", name := "obeyNext", desc := "(I)V" } : Jvm.MethodName)) ∈ TB := tb_s 7 rfl rfl
theorem ts_8 : (Jvm.Cond.selects "ToolCrib$Walk" ({ cls := "ToolCrib$Walk", name := "aim", desc := "(III)V" } : Jvm.MethodName) ({ cls := "ToolCrib$Walk", name := "aim", desc := "(III)V" } : Jvm.MethodName)) ∈ TB := tb_s 8 rfl rfl
theorem ts_9 : (Jvm.Cond.selects "ToolCrib$Walk" ({ cls := "ToolCrib$Walk", name := "changeTool", desc := "(I)V" } : Jvm.MethodName) ({ cls := "ToolCrib$Walk", name := "changeTool", desc := "(I)V" } : Jvm.MethodName)) ∈ TB := tb_s 9 rfl rfl
theorem ts_10 : (Jvm.Cond.selects "ToolCrib" ({ cls := "ToolCrib", name := "lowestToolFor", desc := "(I)LToolCrib$Tool;" } : Jvm.MethodName) ({ cls := "ToolCrib", name := "lowestToolFor", desc := "(I)LToolCrib$Tool;" } : Jvm.MethodName)) ∈ TB := tb_s 10 rfl rfl
theorem ts_11 : (Jvm.Cond.selects "ToolCrib" ({ cls := "ToolCrib", name := "cutBy", desc := "(LToolCrib$Tool;LToolCrib$Pallet;)V" } : Jvm.MethodName) ({ cls := "ToolCrib", name := "cutBy", desc := "(LToolCrib$Tool;LToolCrib$Pallet;)V" } : Jvm.MethodName)) ∈ TB := tb_s 11 rfl rfl
theorem ts_12 : (Jvm.Cond.selects "ToolCrib" ({ cls := "ToolCrib", name := "greatestPart", desc := "()I" } : Jvm.MethodName) ({ cls := "ToolCrib", name := "greatestPart", desc := "()I" } : Jvm.MethodName)) ∈ TB := tb_s 12 rfl rfl
theorem ts_13 : (Jvm.Cond.selects "ToolCrib" ({ cls := "ToolCrib", name := "countLeft", desc := "(I)I" } : Jvm.MethodName) ({ cls := "ToolCrib", name := "countLeft", desc := "(I)I" } : Jvm.MethodName)) ∈ TB := tb_s 13 rfl rfl
theorem ts_14 : (Jvm.Cond.selects "ToolCrib" ({ cls := "ToolCrib", name := "isEnoughFor", desc := "(LToolCrib$Pallet;)Z" } : Jvm.MethodName) ({ cls := "ToolCrib", name := "isEnoughFor", desc := "(LToolCrib$Pallet;)Z" } : Jvm.MethodName)) ∈ TB := tb_s 14 rfl rfl
theorem ts_15 : (Jvm.Cond.selects "java/lang/Throwable" ({ cls := "java/lang/Throwable", name := "fillInStackTrace", desc := "(I)Ljava/lang/Throwable;" } : Jvm.MethodName) ({ cls := "java/lang/Throwable", name := "fillInStackTrace", desc := "(I)Ljava/lang/Throwable;" } : Jvm.MethodName)) ∈ TB := tb_s 15 rfl rfl
theorem ts_16 : (Jvm.Cond.selects "ToolCrib" ({ cls := "ToolCrib", name := "programAt", desc := "(I)LToolCrib$Program;" } : Jvm.MethodName) ({ cls := "ToolCrib", name := "programAt", desc := "(I)LToolCrib$Program;" } : Jvm.MethodName)) ∈ TB := tb_s 16 rfl rfl
theorem ts_17 : (Jvm.Cond.selects "ToolCrib" ({ cls := "ToolCrib", name := "toolAt", desc := "(I)LToolCrib$Tool;" } : Jvm.MethodName) ({ cls := "ToolCrib", name := "toolAt", desc := "(I)LToolCrib$Tool;" } : Jvm.MethodName)) ∈ TB := tb_s 17 rfl rfl
theorem ts_18 : (Jvm.Cond.selects "ToolCrib" ({ cls := "ToolCrib", name := "countLoaded", desc := "()I" } : Jvm.MethodName) ({ cls := "ToolCrib", name := "countLoaded", desc := "()I" } : Jvm.MethodName)) ∈ TB := tb_s 18 rfl rfl
theorem ts_19 : (Jvm.Cond.selects "ToolCrib" ({ cls := "ToolCrib", name := "palletAt", desc := "(I)LToolCrib$Pallet;" } : Jvm.MethodName) ({ cls := "ToolCrib", name := "palletAt", desc := "(I)LToolCrib$Pallet;" } : Jvm.MethodName)) ∈ TB := tb_s 19 rfl rfl
theorem ts_20 : (Jvm.Cond.selects "ToolCrib" ({ cls := "ToolCrib", name := "cellAt", desc := "(II)I" } : Jvm.MethodName) ({ cls := "ToolCrib", name := "cellAt", desc := "(II)I" } : Jvm.MethodName)) ∈ TB := tb_s 20 rfl rfl
theorem ts_21 : (Jvm.Cond.selects "ToolCrib" ({ cls := "ToolCrib", name := "tryWhole", desc := "(II)V" } : Jvm.MethodName) ({ cls := "ToolCrib", name := "tryWhole", desc := "(II)V" } : Jvm.MethodName)) ∈ TB := tb_s 21 rfl rfl
theorem ts_22 : (Jvm.Cond.selects "ToolCrib" ({ cls := "ToolCrib", name := "gaugeAt", desc := "(I)LToolCrib$Gauge;" } : Jvm.MethodName) ({ cls := "ToolCrib", name := "gaugeAt", desc := "(I)LToolCrib$Gauge;" } : Jvm.MethodName)) ∈ TB := tb_s 22 rfl rfl
theorem ts_23 : (Jvm.Cond.selects "ToolCrib" ({ cls := "ToolCrib", name := "drawingAt", desc := "(I)LToolCrib$Drawing;" } : Jvm.MethodName) ({ cls := "ToolCrib", name := "drawingAt", desc := "(I)LToolCrib$Drawing;" } : Jvm.MethodName)) ∈ TB := tb_s 23 rfl rfl
theorem ts_24 : (Jvm.Cond.selects "ToolCrib" ({ cls := "ToolCrib", name := "tell", desc := "(II)V" } : Jvm.MethodName) ({ cls := "ToolCrib", name := "tell", desc := "(II)V" } : Jvm.MethodName)) ∈ TB := tb_s 24 rfl rfl
theorem ts_25 : (Jvm.Cond.selects "ToolCrib$Tool" ({ cls := "ToolCrib$Tool", name := "isOneWay", desc := "()Z" } : Jvm.MethodName) ({ cls := "ToolCrib$Tool", name := "isOneWay", desc := "()Z" } : Jvm.MethodName)) ∈ TB := tb_s 25 rfl rfl
theorem ts_26 : (Jvm.Cond.selects "ToolCrib" ({ cls := "ToolCrib", name := "placeInQueue", desc := "(LToolCrib$Pallet;)I" } : Jvm.MethodName) ({ cls := "ToolCrib", name := "placeInQueue", desc := "(LToolCrib$Pallet;)I" } : Jvm.MethodName)) ∈ TB := tb_s 26 rfl rfl
theorem ts_27 : (Jvm.Cond.selects "ToolCrib" ({ cls := "ToolCrib", name := "paperAt", desc := "(I)LToolCrib$Paper;" } : Jvm.MethodName) ({ cls := "ToolCrib", name := "paperAt", desc := "(I)LToolCrib$Paper;" } : Jvm.MethodName)) ∈ TB := tb_s 27 rfl rfl
theorem ts_28 : (Jvm.Cond.selects "ToolCribModel" ({ cls := "ToolCribModel", name := "goes", desc := "(ZZZ)Z" } : Jvm.MethodName) ({ cls := "ToolCribModel", name := "goes", desc := "(ZZZ)Z" } : Jvm.MethodName)) ∈ TB := tb_s 28 rfl rfl
theorem ts_29 : (Jvm.Cond.selects "ToolCribModel" ({ cls := "ToolCribModel", name := "isProgram", desc := "(I)Z" } : Jvm.MethodName) ({ cls := "ToolCribModel", name := "isProgram", desc := "(I)Z" } : Jvm.MethodName)) ∈ TB := tb_s 29 rfl rfl
theorem ts_30 : (Jvm.Cond.selects "ToolCribModel" ({ cls := "ToolCribModel", name := "isTool", desc := "(I)Z" } : Jvm.MethodName) ({ cls := "ToolCribModel", name := "isTool", desc := "(I)Z" } : Jvm.MethodName)) ∈ TB := tb_s 30 rfl rfl
theorem ts_31 : (Jvm.Cond.selects "ToolCribModel" ({ cls := "ToolCribModel", name := "countLoaded", desc := "()I" } : Jvm.MethodName) ({ cls := "ToolCribModel", name := "countLoaded", desc := "()I" } : Jvm.MethodName)) ∈ TB := tb_s 31 rfl rfl
theorem ts_32 : (Jvm.Cond.selects "ToolCribModel" ({ cls := "ToolCribModel", name := "isPallet", desc := "(I)Z" } : Jvm.MethodName) ({ cls := "ToolCribModel", name := "isPallet", desc := "(I)Z" } : Jvm.MethodName)) ∈ TB := tb_s 32 rfl rfl
theorem ts_33 : (Jvm.Cond.selects "ToolCribModel" ({ cls := "ToolCribModel", name := "runs", desc := "(IIII)I" } : Jvm.MethodName) ({ cls := "ToolCribModel", name := "runs", desc := "(IIII)I" } : Jvm.MethodName)) ∈ TB := tb_s 33 rfl rfl
theorem ts_34 : (Jvm.Cond.selects "ToolCribModel" ({ cls := "ToolCribModel", name := "moves", desc := "(IIIII)I" } : Jvm.MethodName) ({ cls := "ToolCribModel", name := "moves", desc := "(IIIII)I" } : Jvm.MethodName)) ∈ TB := tb_s 34 rfl rfl
theorem ts_35 : (Jvm.Cond.selects "ToolCribModel" ({ cls := "ToolCribModel", name := "step", desc := "(III)I" } : Jvm.MethodName) ({ cls := "ToolCribModel", name := "step", desc := "(III)I" } : Jvm.MethodName)) ∈ TB := tb_s 35 rfl rfl
theorem ts_36 : (Jvm.Cond.selects "ToolCribModel" ({ cls := "ToolCribModel", name := "toolFor", desc := "(I[I)I" } : Jvm.MethodName) ({ cls := "ToolCribModel", name := "toolFor", desc := "(I[I)I" } : Jvm.MethodName)) ∈ TB := tb_s 36 rfl rfl
theorem ts_37 : (Jvm.Cond.selects "ToolCribModel" ({ cls := "ToolCribModel", name := "cutsIn", desc := "(III)V" } : Jvm.MethodName) ({ cls := "ToolCribModel", name := "cutsIn", desc := "(III)V" } : Jvm.MethodName)) ∈ TB := tb_s 37 rfl rfl
theorem ts_38 : (Jvm.Cond.selects "ToolCribModel" ({ cls := "ToolCribModel", name := "sets", desc := "(II)I" } : Jvm.MethodName) ({ cls := "ToolCribModel", name := "sets", desc := "(II)I" } : Jvm.MethodName)) ∈ TB := tb_s 38 rfl rfl
theorem ts_39 : (Jvm.Cond.selects "ToolCribModel" ({ cls := "ToolCribModel", name := "isDrawing", desc := "(I)Z" } : Jvm.MethodName) ({ cls := "ToolCribModel", name := "isDrawing", desc := "(I)Z" } : Jvm.MethodName)) ∈ TB := tb_s 39 rfl rfl
theorem ts_40 : (Jvm.Cond.selects "ToolCribModel" ({ cls := "ToolCribModel", name := "sizeOf", desc := "(I)I" } : Jvm.MethodName) ({ cls := "ToolCribModel", name := "sizeOf", desc := "(I)I" } : Jvm.MethodName)) ∈ TB := tb_s 40 rfl rfl
theorem ts_41 : (Jvm.Cond.selects "ToolCribModel" ({ cls := "ToolCribModel", name := "tells", desc := "(II)V" } : Jvm.MethodName) ({ cls := "ToolCribModel", name := "tells", desc := "(II)V" } : Jvm.MethodName)) ∈ TB := tb_s 41 rfl rfl
theorem ts_42 : (Jvm.Cond.selects "ToolCribModel" ({ cls := "ToolCribModel", name := "verdictOf", desc := "(I)I" } : Jvm.MethodName) ({ cls := "ToolCribModel", name := "verdictOf", desc := "(I)I" } : Jvm.MethodName)) ∈ TB := tb_s 42 rfl rfl
theorem ts_43 : (Jvm.Cond.selects "ToolCribModel" ({ cls := "ToolCribModel", name := "causeOf", desc := "(I)I" } : Jvm.MethodName) ({ cls := "ToolCribModel", name := "causeOf", desc := "(I)I" } : Jvm.MethodName)) ∈ TB := tb_s 43 rfl rfl
/-- a method's words: its code, and the tables' -/
def wM (y : MethodName) (b : ByteArray) (n : Nat) (ret : Option FieldType) : List Cond := .code y b n ret :: TB
theorem wm_in {y : MethodName} {b : ByteArray} {n : Nat} {ret : Option FieldType} (h : Cond.code y b n ret ∈ TB) : GoodIn TB (wM y b n ret) := fun w hw => (List.mem_cons.mp hw).elim (fun e => by rw [e]; exact ⟨h, good_of_word (tb_all _ h)⟩) (fun e => ⟨e, good_of_word (tb_all _ e)⟩)
theorem wm_hts {y : MethodName} {b : ByteArray} {n : Nat} {ret : Option FieldType} {args : Array Value} {s : State} (h : ∀ w ∈ wM y b n ret, w.before args s = true) : ∀ w ∈ TB, w.before args s = true := fun w hw => h w (List.mem_cons_of_mem _ hw)
end
section
/-! THE WORLD. A field is numbered F = 100 * C + f (C: the class as in 'names', X0 .. X9, 10 for ArrayList; f its place). An object (C, k) has the label (100 * C + 99, k); an array or list that the field F of the object k holds has the label (F, k). L gives each label's address. A state: numbers N (as nI), raw ints I, rows of N, rows of raw ints. -/
abbrev St : Type := (Nat → Nat → Nat) × (Nat → Nat → Int32) × (Nat → Nat → Nat → Nat) × (Nat → Nat → Nat → Int32)
def up1 {α : Type} (f : Nat → α) (k : Nat) (v : α) : Nat → α := fun j => if j = k then v else f j
def up2 {α : Type} (f : Nat → Nat → α) (F k : Nat) (v : α) : Nat → Nat → α := fun F' => if F' = F then up1 (f F) k v else f F'
def up3 {α : Type} (f : Nat → Nat → Nat → α) (F k i : Nat) (v : α) : Nat → Nat → Nat → α := fun F' => if F' = F then up2 (f F) k i v else f F'
theorem up1_s {α : Type} {f : Nat → α} {k : Nat} {v : α} : up1 f k v k = v := by simp [up1]
theorem up1_n {α : Type} {f : Nat → α} {k j : Nat} {v : α} (h : j ≠ k) : up1 f k v j = f j := by simp [up1, h]
theorem up2_n {α : Type} {f : Nat → Nat → α} {F k F' k' : Nat} {v : α} (h : ¬ (F' = F ∧ k' = k)) : up2 f F k v F' k' = f F' k' := by
  unfold up2
  by_cases h1 : F' = F
  · subst h1; rw [if_pos rfl, up1_n (fun z => h ⟨rfl, z⟩)]
  · rw [if_neg h1]
theorem up2_s {α : Type} {f : Nat → Nat → α} {F k : Nat} {v : α} : up2 f F k v F k = v := by simp [up2, up1]
theorem up3_n {α : Type} {f : Nat → Nat → Nat → α} {F k i F' k' : Nat} {v : α} (h : ¬ (F' = F ∧ k' = k)) : up3 f F k i v F' k' = f F' k' := by
  unfold up3
  by_cases h1 : F' = F
  · subst h1
    rw [if_pos rfl]
    unfold up2
    rw [if_neg (fun z => h ⟨rfl, z⟩)]
  · rw [if_neg h1]
theorem up3_s {α : Type} {f : Nat → Nat → Nat → α} {F k i : Nat} {v : α} : up3 f F k i v F k = up1 (f F k) i v := by simp [up3, up2]
def wN (σ : St) (F k : Nat) (v : Nat) : St := (up2 σ.1 F k v, σ.2.1, σ.2.2.1, σ.2.2.2)
def wI (σ : St) (F k : Nat) (v : Int32) : St := (σ.1, up2 σ.2.1 F k v, σ.2.2.1, σ.2.2.2)
def wA (σ : St) (F k i : Nat) (v : Nat) : St := (σ.1, σ.2.1, up3 σ.2.2.1 F k i v, σ.2.2.2)
def wB (σ : St) (F k i : Nat) (v : Int32) : St := (σ.1, σ.2.1, σ.2.2.1, up3 σ.2.2.2 F k i v)
/-- the fields' kinds: 0 a number N, 1 a raw int, 2 a row of N, 3 a row of raw ints, 4 a row of booleans, 5 another object, 6 a list's row -/
def flds (C : Nat) : List Nat := match C with
  | 0 => [2, 2, 2, 2, 2, 0]
  | 1 => [1, 1]
  | 2 => [3, 3, 3, 3, 3, 0, 1, 1, 0, 1]
  | 3 => [1, 1, 1, 1, 3, 3, 0]
  | 4 => [3, 3, 0]
  | 5 => [1, 1, 0, 3, 0, 1, 0, 1]
  | 6 => [3, 2, 0, 0, 1]
  | 7 => [5, 5, 2, 2, 0, 0, 0, 1, 1, 1, 1]
  | 8 => [5, 5, 5, 5, 5, 5, 3, 3, 3, 5, 5, 0, 0]
  | 9 => [0, 0, 3, 2, 0, 3, 3, 2, 2, 2, 3, 4, 3, 2, 0, 3, 3, 3, 3, 2, 3, 2, 2, 3, 0, 2, 0, 2, 4, 3, 2, 2, 0, 3, 0, 3, 2, 2, 2, 2, 1, 1, 1, 0, 1]
  | 10 => [1, 6, 0]
  | _ => []
def fty (F : Nat) : Nat := (flds (F / 100)).getD (F % 100) 9
/-- how long a row is -/
def flen (F : Nat) : Nat := match F with
  | 0 => 6 | 1 => 6 | 2 => 6 | 3 => 6 | 4 => 6
  | 200 => 144 | 201 => 144 | 202 => 144 | 203 => 144 | 204 => 144
  | 304 => 6 | 305 => 6
  | 400 => 30 | 401 => 30
  | 503 => 3
  | 600 => 144 | 601 => 4
  | 702 => 6 | 703 => 3
  | 806 => 12 | 807 => 4 | 808 => 4
  | 902 => 360 | 903 => 6 | 905 => 12 | 906 => 16 | 907 => 16 | 908 => 16 | 909 => 16 | 910 => 16 | 911 => 16 | 912 => 48 | 913 => 16
  | 915 => 864 | 916 => 864 | 917 => 864 | 918 => 3456 | 919 => 6 | 920 => 6 | 921 => 6 | 922 => 6 | 923 => 6
  | 925 => 6 | 927 => 4 | 928 => 4 | 929 => 4 | 930 => 144 | 931 => 4 | 933 => 540 | 935 => 144 | 936 => 4 | 937 => 3 | 938 => 7 | 939 => 7
  | _ => 0
/-- which object a field of kind 5 holds: its label -/
def ftg (F : Nat) : Nat × Nat := match F with
  | 700 => (1099, 6) | 701 => (1099, 7)
  | 800 => (1099, 0) | 801 => (1099, 1) | 802 => (1099, 2) | 803 => (1099, 3) | 804 => (1099, 4) | 805 => (1099, 5)
  | 809 => (799, 0) | 810 => (699, 0)
  | _ => (0, 0)
/-- of which class a list's objects are: their label -/
def fel (j : Nat) : Nat := match j with
  | 0 => 599 | 1 => 299 | 2 => 299 | 3 => 199 | 4 => 99 | 5 => 399 | _ => 499
/-- a class's place in vwCl -/
def vix (C : Nat) : Nat := if C = 10 then 0 else C + 1
abbrev Lay : Type := Nat → Nat → Nat
def fval (L : Lay) (σ : St) (F k : Nat) : Value := if fty F = 0 then .int (nI (σ.1 F k)) else if fty F = 1 then .int (σ.2.1 F k) else if fty F = 5 then .ref (L (ftg F).1 (ftg F).2) else .ref (L F k)
def ofl (L : Lay) (σ : St) (C k : Nat) : List Value := (List.range (flds C).length).map (fun f => fval L σ (100 * C + f) k)
def lrefs (L : Lay) (σ : St) (j : Nat) : Nat → Option Nat := fun i => if i < σ.1 1002 j then some (L (fel j) (σ.2.2.1 1001 j i)) else none
def ent (cI cZ cO : ClassId) (L : Lay) (σ : St) (F k : Nat) : va_E :=
  if F % 100 = 99 then .inr (vix (F / 100), ofl L σ (F / 100) k)
  else if F = 1001 then .inl (cO, σ.1 1003 k, .inr (.inr (.inr (.inr (lrefs L σ k)))))
  else if fty F = 2 then .inl (cI, flen F, .inl (fun i => nI (σ.2.2.1 F k i)))
  else if fty F = 4 then .inl (cZ, flen F, .inl (σ.2.2.2 F k))
  else .inl (cI, flen F, .inl (σ.2.2.2 F k))
/-- the heap holds the labels of dom: at addresses that are apart, all of them own's -/
def PW (D : va_G) (cI cZ cO : ClassId) (dom : Nat → Nat → Prop) (L : Lay) (σ : St) (ow : Nat → Prop) (H : Heap) : Prop :=
  (∀ F k, dom F k → va_at D vwCl (L F k, ent cI cZ cO L σ F k) H) ∧ (∀ F k F' k', dom F k → dom F' k' → L F k = L F' k' → F = F' ∧ k = k') ∧ ∀ F k, dom F k → ow (L F k)
abbrev KK (D : va_G) (cI cZ cO : ClassId) (U : State) : Prop := va_K D vwCl [(cI, .int), (cZ, .boolean), (cO, .object "java/lang/Object")] U
def AA (ow : Nat → Prop) (sz : Nat) : Nat → Prop := fun q => ow q ∨ sz ≤ q
theorem aa_new {ow : Nat → Prop} {sz : Nat} : ∀ q, sz ≤ q → AA ow sz q := fun _ h => Or.inr h
theorem aa_le {ow : Nat → Prop} {sz sz' : Nat} (h : sz ≤ sz') : ∀ q, AA ow sz' q → AA ow sz q := fun q a => a.elim Or.inl (fun b => Or.inr (Nat.le_trans h b))
theorem PW.upd {D : va_G} {cI cZ cO : ClassId} {dom : Nat → Nat → Prop} {L : Lay} {σ σ' : St} {ow : Nat → Prop} {H H1 : Heap} (h : PW D cI cZ cO dom L σ ow H) {F0 k0 : Nat} (hd : dom F0 k0)
    (he : va_at D vwCl (L F0 k0, ent cI cZ cO L σ' F0 k0) H1) (hoq : ∀ q, q ≠ L F0 k0 → H1[q]? = H[q]?) (ho : ∀ F k, ¬ (F = F0 ∧ k = k0) → ent cI cZ cO L σ' F k = ent cI cZ cO L σ F k) : PW D cI cZ cO dom L σ' ow H1 := by
  refine ⟨fun F k hF => ?_, h.2.1, h.2.2⟩
  by_cases e : F = F0 ∧ k = k0
  · obtain ⟨rfl, rfl⟩ := e
    exact he
  · rw [ho F k e]
    exact (h.1 F k hF).kept (hoq _ (fun z => e (h.2.1 F k F0 k0 hF hd z)))
theorem PW.kept {D : va_G} {cI cZ cO : ClassId} {dom : Nat → Nat → Prop} {L : Lay} {σ : St} {ow : Nat → Prop} {H H1 : Heap} (h : PW D cI cZ cO dom L σ ow H) (hoq : ∀ q, q < H.size → ow q → H1[q]? = H[q]?) : PW D cI cZ cO dom L σ ow H1 :=
  ⟨fun F k hF => (h.1 F k hF).kept (hoq _ ((h.1 F k hF).lt) (h.2.2 F k hF)), h.2.1, h.2.2⟩
theorem flds_le (C : Nat) : (flds C).length ≤ 45 := by
  unfold flds
  split <;> decide
theorem fty_f {C f : Nat} (hf : f < 99) : fty (100 * C + f) = (flds C).getD f 9 := by
  unfold fty
  rw [show (100 * C + f) / 100 = C by omega, show (100 * C + f) % 100 = f by omega]
theorem fval_n {L : Lay} {σ σ' : St} {F k : Nat} (h1 : σ'.1 F k = σ.1 F k) (h2 : σ'.2.1 F k = σ.2.1 F k) : fval L σ' F k = fval L σ F k := by
  unfold fval
  rw [h1, h2]
theorem ofl_n {L : Lay} {σ σ' : St} {C k : Nat} (h1 : ∀ f, f < 45 → σ'.1 (100 * C + f) k = σ.1 (100 * C + f) k) (h2 : ∀ f, f < 45 → σ'.2.1 (100 * C + f) k = σ.2.1 (100 * C + f) k) : ofl L σ' C k = ofl L σ C k := by
  unfold ofl
  refine List.map_congr_left (fun f hf => ?_)
  have h3 := List.mem_range.mp hf
  have h4 := flds_le C
  exact fval_n (h1 f (by omega)) (h2 f (by omega))
/-- a scalar changes one object's entry alone -/
theorem ent_s {cI cZ cO : ClassId} {L : Lay} {σ σ' : St} {C f k : Nat} (hf : f < 45) (hC : C < 10) (h1 : ∀ F' k', ¬ (F' = 100 * C + f ∧ k' = k) → σ'.1 F' k' = σ.1 F' k') (h2 : ∀ F' k', ¬ (F' = 100 * C + f ∧ k' = k) → σ'.2.1 F' k' = σ.2.1 F' k') (h3 : σ'.2.2 = σ.2.2) {F' k' : Nat} (h : ¬ (F' = 100 * C + 99 ∧ k' = k)) : ent cI cZ cO L σ' F' k' = ent cI cZ cO L σ F' k' := by
  unfold ent
  by_cases e : F' % 100 = 99
  · rw [if_pos e, if_pos e]
    have : ofl L σ' (F' / 100) k' = ofl L σ (F' / 100) k' := by
      refine ofl_n (fun g hg => h1 _ _ (fun z => h ?_)) (fun g hg => h2 _ _ (fun z => h ?_)) <;>
      · obtain ⟨z1, z2⟩ := z
        exact ⟨by omega, z2⟩
    rw [this]
  · rw [if_neg e, if_neg e]
    have e2 : ∀ j, σ'.1 1002 j = σ.1 1002 j := fun j => h1 _ _ (fun z => by omega)
    have e3 : ∀ j, σ'.1 1003 j = σ.1 1003 j := fun j => h1 _ _ (fun z => by omega)
    have e4 : lrefs L σ' k' = lrefs L σ k' := by
      unfold lrefs
      rw [e2, h3]
    rw [e3, e4, h3]
theorem ofl_set {L : Lay} {σ σ' : St} {C f k : Nat} {v : Value} (hf : f < (flds C).length) (h1 : ∀ f', f' ≠ f → f' < 45 → fval L σ' (100 * C + f') k = fval L σ (100 * C + f') k) (hv : fval L σ' (100 * C + f) k = v) : ofl L σ' C k = (ofl L σ C k).set f v := by
  unfold ofl
  apply List.ext_getElem
  · simp
  · intro i a b
    simp only [List.getElem_map, List.getElem_range]
    by_cases e : i = f
    · subst e
      simp [hv]
    · rw [List.getElem_set_ne (Ne.symm e)]
      simp only [List.getElem_map, List.getElem_range]
      have h4 := flds_le C
      have h5 : i < (flds C).length := by simpa using a
      exact h1 i e (by omega)
theorem ofl_get {L : Lay} {σ : St} {C f k : Nat} {v : Value} (hf : f < (flds C).length) (hv : fval L σ (100 * C + f) k = v) : (ofl L σ C k)[f]? = some v := by
  unfold ofl
  simp [hf, hv]
theorem ent_o {cI cZ cO : ClassId} {L : Lay} {σ : St} {C k : Nat} : ent cI cZ cO L σ (100 * C + 99) k = .inr (vix C, ofl L σ C k) := by
  unfold ent
  rw [if_pos (by omega), show (100 * C + 99) / 100 = C by omega]
/-- a row's cell changes one row's entry alone -/
theorem ent_a {cI cZ cO : ClassId} {L : Lay} {σ σ' : St} {F k : Nat} (h10 : F < 1000) (h0 : σ'.1 = σ.1) (h0' : σ'.2.1 = σ.2.1) (h1 : ∀ F' k', ¬ (F' = F ∧ k' = k) → σ'.2.2.1 F' k' = σ.2.2.1 F' k') (h2 : ∀ F' k', ¬ (F' = F ∧ k' = k) → σ'.2.2.2 F' k' = σ.2.2.2 F' k') {F' k' : Nat} (h : ¬ (F' = F ∧ k' = k)) : ent cI cZ cO L σ' F' k' = ent cI cZ cO L σ F' k' := by
  unfold ent
  have e1 : ofl L σ' (F' / 100) k' = ofl L σ (F' / 100) k' := ofl_n (fun _ _ => by rw [h0]) (fun _ _ => by rw [h0'])
  have e4 : lrefs L σ' k' = lrefs L σ k' := by
    unfold lrefs
    rw [h0, h1 1001 k' (fun z => by omega)]
  rw [e1, e4, h0, h1 F' k' h, h2 F' k' h]
section WR
variable {D : va_G} {cI cZ cO : ClassId} {dom : Nat → Nat → Prop} {L : Lay} {σ : St} {ow A : Nat → Prop}
variable {p : Program} {l : Launch} {e : Env} {R : Room} {s : State} {m : MethodId} {args : Array Value} {below : List Frame} {meth : Method} {c : Code} {H H0 : Heap} {locs : List Loc} {cells slots : Nat} {Q : State → Prop}
variable {cc : ByteArray} {pc nL : Nat} {ls : Array Slot} {rest : List Value} {own : String}
/-- what the tables say of a class -/
def KC (C : Nat) (R : String) (T : u_T) (ty : Nat → FieldType) : Prop := vwCl[vix C]? = some (R, T, (flds C).length) ∧ (∀ w ∈ u_ws R T (flds C).length, w ∈ TB) ∧ (∀ k, k < (flds C).length → parseFieldDescriptor (T k).2.2.1 = some (ty k)) ∧ ∀ a, a < (flds C).length → ∀ b, b < (flds C).length → a ≠ b → (T a).2.1 ≠ (T b).2.1
theorem tb_list {ws : List Cond} (ps : List Nat) (hp : ws = ps.filterMap (fun i => tables_1[i]?)) (h : ws.all goodWord = true) : ∀ w ∈ ws, w ∈ TB := by
  intro w hw
  have h1 := List.all_eq_true.mp h w hw
  rw [hp] at hw
  obtain ⟨i, -, hi⟩ := List.mem_filterMap.mp hw
  exact tb_of (List.mem_of_getElem? hi) h1
theorem pw_get (X : CallFix p m c cc nL s args TB own) (hK : KK D cI cZ cO s) (hG : PW D cI cZ cO dom L σ ow H) {C : Nat} {RC : String} {T : u_T} {ty : Nat → FieldType} (kc : KC C RC T ty) (O F : Nat) (f : Nat) (hO : 100 * C + 99 = O) (hF : 100 * C + f = F) {k : Nat} (hd : dom O k) (hf : f < (flds C).length) {index : Nat} {ref : String}
    (hlink : Cond.fieldLink own index ref (T f).2.1 (T f).2.2.1 ∈ TB) (hsame : ∀ x, s.fieldFound? (T f).1 (T f).2.1 (T f).2.2.1 = some x → s.fieldFound? ref (T f).2.1 (T f).2.2.1 = some x) {v : Value} (hv : fval L σ F k = v) (hdg : decode cc pc = .ok (.getfield index, 3))
    (kk : W p l e R s m args below meth c H locs cells slots Q (F0 m (pc + 3) ls (v :: rest))) : W p l e R s m args below meth c H locs cells slots Q (F0 m pc ls (.ref (L O k) :: rest)) := by
  subst hO hF
  have hat := hG.1 _ _ hd
  rw [ent_o] at hat
  exact va_get (ws := [(L (100 * C + 99) k, .inr (vix C, ofl L σ C k))]) X.1 X.2.1 X.2.2.2.2 kc.2.1 X.2.2.2.1 hK (fun j q hq => by
    have hj : j = 0 := by have := (List.getElem?_eq_some_iff.mp hq).1; simp at this; exact this
    subst hj
    cases hq
    exact hat) 0 rfl kc.1 f hf (X.2.2.2.2 _ hlink) hsame (ofl_get hf hv) hdg kk
theorem pw_putR (X : CallFix p m c cc nL s args TB own) (hK : KK D cI cZ cO s) {C : Nat} {RC : String} {T : u_T} {ty : Nat → FieldType} (kc : KC C RC T ty) {a : Nat} {fs : List Value} (hat : va_at D vwCl (a, .inr (vix C, fs)) H) (hS : va_S A H0 H locs) (hA : A a) (f : Nat) (hf : f < (flds C).length) {index : Nat} {ref : String}
    (hlink : Cond.fieldLink own index ref (T f).2.1 (T f).2.2.1 ∈ TB) (hsame : ∀ x, s.fieldFound? (T f).1 (T f).2.1 (T f).2.2.1 = some x → s.fieldFound? ref (T f).2.1 (T f).2.2.1 = some x) (hfin : (T f).2.2.2 = false) {tv : FieldType} {v : Value} (hdsc : parseFieldDescriptor (T f).2.2.1 = some tv) (hn : narrow tv v = v) (hfit : fits tv v = true) (hl : f < fs.length) (hdg : decode cc pc = .ok (.putfield index, 3))
    (kk : ∀ (H1 : Heap) (locs1 : List Loc), va_at D vwCl (a, .inr (vix C, fs.set f v)) H1 → H1.size = H.size → (∀ q, q ≠ a → H1[q]? = H[q]?) → va_S A H0 H1 locs1 → W p l e R s m args below meth c H1 locs1 cells slots Q (F0 m (pc + 3) ls rest)) : W p l e R s m args below meth c H locs cells slots Q (F0 m pc ls (v :: .ref a :: rest)) := by
  have hc := kc.1
  have hap := va_apart (own := own) X.2.2.2.2 kc.2.1 ty kc.2.2.1 kc.2.2.2 hK hc
  obtain ⟨r, h1, cell, q1, q2, q3, q4⟩ := hat
  have hr : r = (RC, T, (flds C).length) := Option.some.inj (h1.symm.trans hc)
  subst hr
  obtain ⟨hSl, hfc, kC, hkC, hkind⟩ := hK.1 (vix C) _ hc
  obtain ⟨cf, kf, fi, fd, hi, hsl⟩ := hSl f hf
  have hlay := X.2.2.2.2 _ (kc.2.1 _ (u_in_lay hf))
  unfold u_lay at hlay
  rw [if_neg (by rw [hfin]; decide)] at hlay
  have hst := (u_facts hfc hkC (u_lays X.2.2.2.2 kc.2.1 hf) hi).1
  have h6 := u_store hfc hkC hkind hlay hi hdsc hn hfit
  refine W.putK X.1 X.2.1 (f := fd) ⟨X.2.2.2.1, X.2.2.2.2 _ hlink, ⟨_, _, _, hsame _ hi⟩, hst⟩ (by rw [q2]; exact h6) q1 q3 (by rw [hsl]; exact k2_hasslot (q4 f hf)) rfl rfl hdg fun H' e1 e2 e3 => ?_
  rw [hsl] at e1 ⊢
  exact kk H' _ ⟨_, hc, t_OB.to (V := updV (vp_V fs) f v) ⟨_, e1, q2, q3, t_set q4 hap hf v⟩ (fun j _ => vp_updV_set hl v j)⟩ e2 e3 (hS.put e2 e3 hA)
theorem ofl_len {L : Lay} {σ : St} {C k : Nat} : (ofl L σ C k).length = (flds C).length := by simp [ofl]
theorem pw_putN (X : CallFix p m c cc nL s args TB own) (hK : KK D cI cZ cO s) (hG : PW D cI cZ cO dom L σ ow H) (hS : va_S A H0 H locs) (hA : ∀ q, ow q → A q) {C : Nat} {RC : String} {T : u_T} {ty : Nat → FieldType} (kc : KC C RC T ty) (O F : Nat) (f : Nat) (hO : 100 * C + 99 = O) (hF : 100 * C + f = F) (hC : C < 10) {k : Nat} (hd : dom O k) (hf : f < (flds C).length) (hft : fty F = 0) {index : Nat} {ref : String}
    (hlink : Cond.fieldLink own index ref (T f).2.1 (T f).2.2.1 ∈ TB) (hsame : ∀ x, s.fieldFound? (T f).1 (T f).2.1 (T f).2.2.1 = some x → s.fieldFound? ref (T f).2.1 (T f).2.2.1 = some x) (hfin : (T f).2.2.2 = false) (hdsc : parseFieldDescriptor (T f).2.2.1 = some .int) {v : Nat} (hdg : decode cc pc = .ok (.putfield index, 3))
    (kk : ∀ (H1 : Heap) (locs1 : List Loc), PW D cI cZ cO dom L (wN σ F k v) ow H1 → va_S A H0 H1 locs1 → W p l e R s m args below meth c H1 locs1 cells slots Q (F0 m (pc + 3) ls rest)) : W p l e R s m args below meth c H locs cells slots Q (F0 m pc ls (.int (nI v) :: .ref (L O k) :: rest)) := by
  subst hO hF
  have hat := hG.1 _ _ hd
  rw [ent_o] at hat
  have h45 := flds_le C
  refine pw_putR X hK kc hat hS (hA _ (hG.2.2 _ _ hd)) f hf hlink hsame hfin hdsc rfl rfl (by rw [ofl_len]; exact hf) hdg fun H1 locs1 e1 e2 e3 e4 => kk H1 locs1 (hG.upd hd ?_ e3 (fun F' k' hn => ?_)) e4
  · have e9 : ofl L (wN σ (100 * C + f) k v) C k = (ofl L σ C k).set f (.int (nI v)) := by
      refine ofl_set hf (fun f' hne h9 => fval_n (up2_n (fun z => ?_)) rfl) ?_
      · exact hne (by have := z.1; omega)
      · unfold fval
        rw [if_pos hft]
        show Value.int (nI (up2 _ _ _ _ _ _)) = _
        rw [up2_s]
    rw [ent_o, e9]
    exact e1
  · exact ent_s (σ := σ) (σ' := wN σ (100 * C + f) k v) (C := C) (f := f) (k := k) (by omega) hC (fun F9 k9 h9 => up2_n h9) (fun F9 k9 h9 => rfl) rfl hn
theorem pw_putI (X : CallFix p m c cc nL s args TB own) (hK : KK D cI cZ cO s) (hG : PW D cI cZ cO dom L σ ow H) (hS : va_S A H0 H locs) (hA : ∀ q, ow q → A q) {C : Nat} {RC : String} {T : u_T} {ty : Nat → FieldType} (kc : KC C RC T ty) (O F : Nat) (f : Nat) (hO : 100 * C + 99 = O) (hF : 100 * C + f = F) (hC : C < 10) {k : Nat} (hd : dom O k) (hf : f < (flds C).length) (hft : fty F = 1) {index : Nat} {ref : String}
    (hlink : Cond.fieldLink own index ref (T f).2.1 (T f).2.2.1 ∈ TB) (hsame : ∀ x, s.fieldFound? (T f).1 (T f).2.1 (T f).2.2.1 = some x → s.fieldFound? ref (T f).2.1 (T f).2.2.1 = some x) (hfin : (T f).2.2.2 = false) {tv : FieldType} (hdsc : parseFieldDescriptor (T f).2.2.1 = some tv) {v : Int32} (hn : narrow tv (.int v) = .int v) (hfit : fits tv (.int v) = true) (hdg : decode cc pc = .ok (.putfield index, 3))
    (kk : ∀ (H1 : Heap) (locs1 : List Loc), PW D cI cZ cO dom L (wI σ F k v) ow H1 → va_S A H0 H1 locs1 → W p l e R s m args below meth c H1 locs1 cells slots Q (F0 m (pc + 3) ls rest)) : W p l e R s m args below meth c H locs cells slots Q (F0 m pc ls (.int v :: .ref (L O k) :: rest)) := by
  subst hO hF
  have hat := hG.1 _ _ hd
  rw [ent_o] at hat
  have h45 := flds_le C
  refine pw_putR X hK kc hat hS (hA _ (hG.2.2 _ _ hd)) f hf hlink hsame hfin hdsc hn hfit (by rw [ofl_len]; exact hf) hdg fun H1 locs1 e1 e2 e3 e4 => kk H1 locs1 (hG.upd hd ?_ e3 (fun F' k' hn => ?_)) e4
  · have e9 : ofl L (wI σ (100 * C + f) k v) C k = (ofl L σ C k).set f (.int v) := by
      refine ofl_set hf (fun f' hne h9 => fval_n rfl (up2_n (fun z => ?_))) ?_
      · exact hne (by have := z.1; omega)
      · unfold fval
        rw [if_neg (by rw [hft]; decide), if_pos hft]
        show Value.int (up2 _ _ _ _ _ _) = _
        rw [up2_s]
    rw [ent_o, e9]
    exact e1
  · exact ent_s (σ := σ) (σ' := wI σ (100 * C + f) k v) (C := C) (f := f) (k := k) (by omega) hC (fun F9 k9 h9 => rfl) (fun F9 k9 h9 => up2_n h9) rfl hn
theorem va_P1 {D : va_G} {cl : List vw_C} {a : Nat} {x : va_E} {H : Heap} (h : va_at D cl (a, x) H) : va_P D cl [(a, x)] H := fun j q hq => by
  have hj : j = 0 := by have := (List.getElem?_eq_some_iff.mp hq).1; simp at this; exact this
  subst hj
  cases hq
  exact h
theorem ent_2 {F k : Nat} (h9 : F % 100 ≠ 99) (h10 : F < 1000) (h : fty F = 2) : ent cI cZ cO L σ F k = .inl (cI, flen F, .inl (fun i => nI (σ.2.2.1 F k i))) := by
  unfold ent
  rw [if_neg h9, if_neg (by omega), if_pos h]
theorem ent_3 {F k : Nat} (h9 : F % 100 ≠ 99) (h10 : F < 1000) (h : fty F = 3) : ent cI cZ cO L σ F k = .inl (cI, flen F, .inl (σ.2.2.2 F k)) := by
  unfold ent
  rw [if_neg h9, if_neg (by omega), if_neg (by omega), if_neg (by omega)]
theorem ent_4 {F k : Nat} (h9 : F % 100 ≠ 99) (h10 : F < 1000) (h : fty F = 4) : ent cI cZ cO L σ F k = .inl (cZ, flen F, .inl (σ.2.2.2 F k)) := by
  unfold ent
  rw [if_neg h9, if_neg (by omega), if_neg (by omega), if_pos h]
/-- what a row's label is: its kind, and that it is a row -/
def FA (F t : Nat) : Prop := F % 100 ≠ 99 ∧ F < 1000 ∧ fty F = t
theorem pw_aldN (X : CallFix p m c cc nL s args TB own) (hK : KK D cI cZ cO s) (hG : PW D cI cZ cO dom L σ ow H) (F : Nat) (hF : FA F 2) {k : Nat} (hd : dom F k) {i x N : Nat} (hN : flen F = N) (hi : i < N) (hs : N < 2 ^ 31) (hv : σ.2.2.1 F k i = x) (hdg : decode cc pc = .ok (.iaload, 1))
    (kk : W p l e R s m args below meth c H locs cells slots Q (F0 m (pc + 1) ls (.int (nI x) :: rest))) : W p l e R s m args below meth c H locs cells slots Q (F0 m pc ls (.int (nI i) :: .ref (L F k) :: rest)) := by
  subst hv
  have hat := hG.1 _ _ hd
  rw [ent_2 hF.1 hF.2.1 hF.2.2, hN] at hat
  refine va_iald X.1 X.2.1 hK (va_P1 hat) 0 0 rfl rfl (vp_in_nI hi hs) hdg ?_
  rw [nI_clamp (by omega)]
  exact kk
theorem pw_aldI (X : CallFix p m c cc nL s args TB own) (hK : KK D cI cZ cO s) (hG : PW D cI cZ cO dom L σ ow H) (F : Nat) (hF : FA F 3) {k : Nat} (hd : dom F k) {i N : Nat} {x : Int32} (hN : flen F = N) (hi : i < N) (hs : N < 2 ^ 31) (hv : σ.2.2.2 F k i = x) (hdg : decode cc pc = .ok (.iaload, 1))
    (kk : W p l e R s m args below meth c H locs cells slots Q (F0 m (pc + 1) ls (.int x :: rest))) : W p l e R s m args below meth c H locs cells slots Q (F0 m pc ls (.int (nI i) :: .ref (L F k) :: rest)) := by
  subst hv
  have hat := hG.1 _ _ hd
  rw [ent_3 hF.1 hF.2.1 hF.2.2, hN] at hat
  refine va_iald X.1 X.2.1 hK (va_P1 hat) 0 0 rfl rfl (vp_in_nI hi hs) hdg ?_
  rw [nI_clamp (by omega)]
  exact kk
theorem pw_aldZ (X : CallFix p m c cc nL s args TB own) (hK : KK D cI cZ cO s) (hG : PW D cI cZ cO dom L σ ow H) (F : Nat) (hF : FA F 4) {k : Nat} (hd : dom F k) {i N : Nat} {x : Int32} (hN : flen F = N) (hi : i < N) (hs : N < 2 ^ 31) (hv : σ.2.2.2 F k i = x) (hdg : decode cc pc = .ok (.baload, 1))
    (kk : W p l e R s m args below meth c H locs cells slots Q (F0 m (pc + 1) ls (.int x :: rest))) : W p l e R s m args below meth c H locs cells slots Q (F0 m pc ls (.int (nI i) :: .ref (L F k) :: rest)) := by
  subst hv
  have hat := hG.1 _ _ hd
  rw [ent_4 hF.1 hF.2.1 hF.2.2, hN] at hat
  refine va_zald X.1 X.2.1 hK (va_P1 hat) 0 1 rfl rfl (vp_in_nI hi hs) hdg ?_
  rw [nI_clamp (by omega)]
  exact kk
theorem pw_alen (X : CallFix p m c cc nL s args TB own) (hK : KK D cI cZ cO s) (hG : PW D cI cZ cO dom L σ ow H) (F : Nat) (hF : FA F 2 ∨ FA F 3) {k : Nat} (hd : dom F k) {N : Nat} (hN : flen F = N) (hdg : decode cc pc = .ok (.arraylength, 1))
    (kk : W p l e R s m args below meth c H locs cells slots Q (F0 m (pc + 1) ls (.int (nI N) :: rest))) : W p l e R s m args below meth c H locs cells slots Q (F0 m pc ls (.ref (L F k) :: rest)) := by
  have hat := hG.1 _ _ hd
  rcases hF with hF | hF
  · rw [ent_2 hF.1 hF.2.1 hF.2.2, hN] at hat
    exact va_alen X.1 X.2.1 hK (va_P1 hat) 0 0 rfl rfl rfl hdg kk
  · rw [ent_3 hF.1 hF.2.1 hF.2.2, hN] at hat
    exact va_alen X.1 X.2.1 hK (va_P1 hat) 0 0 rfl rfl rfl hdg kk
/-- a store into an int row, and all that stays -/
theorem pw_iastR (X : CallFix p m c cc nL s args TB own) (hK : KK D cI cZ cO s) {a n : Nat} {f : Nat → Int32} (hat : va_at D vwCl (a, .inl (cI, n, .inl f)) H) (hS : va_S A H0 H locs) (hA : A a) {i : Int32} {x : Int32} (hin : vp_in i n) (hdg : decode cc pc = .ok (.iastore, 1))
    (kk : ∀ (H1 : Heap) (locs1 : List Loc), va_at D vwCl (a, .inl (cI, n, .inl (up1 f i.toNatClampNeg x))) H1 → (∀ q, q ≠ a → H1[q]? = H[q]?) → va_S A H0 H1 locs1 → W p l e R s m args below meth c H1 locs1 cells slots Q (F0 m (pc + 1) ls rest)) : W p l e R s m args below meth c H locs cells slots Q (F0 m pc ls (.int x :: .int i :: .ref a :: rest)) := by
  refine W.iast X.1 X.2.1 hat ((hK.2 0 _ rfl).1 n (fun j => .int (f j))) (fun q => by cases q) (by show ¬ (i < 0 ∨ (arrV _ _ _).slots.size ≤ _); rw [arrV_size]; exact hin) rfl rfl hdg fun H1 e1 z oq => ?_
  refine kk H1 _ ?_ oq (hS.put z oq hA)
  show H1[a]? = some (vp_cell _ _)
  rw [e1]
  rw [vp_cell_i, vp_cell_i, arrV_store]
  congr 2
  funext q
  by_cases hq : q = i.toNatClampNeg
  · subst hq
    simp [updV, up1]
  · simp [updV, up1, hq]
theorem pw_zastR (X : CallFix p m c cc nL s args TB own) (hK : KK D cI cZ cO s) {a n : Nat} {f : Nat → Int32} (hat : va_at D vwCl (a, .inl (cZ, n, .inl f)) H) (hS : va_S A H0 H locs) (hA : A a) {i : Int32} {x : Int32} (hx : x = 0 ∨ x = 1) (hin : vp_in i n) (hdg : decode cc pc = .ok (.bastore, 1))
    (kk : ∀ (H1 : Heap) (locs1 : List Loc), va_at D vwCl (a, .inl (cZ, n, .inl (up1 f i.toNatClampNeg x))) H1 → (∀ q, q ≠ a → H1[q]? = H[q]?) → va_S A H0 H1 locs1 → W p l e R s m args below meth c H1 locs1 cells slots Q (F0 m (pc + 1) ls rest)) : W p l e R s m args below meth c H locs cells slots Q (F0 m pc ls (.int x :: .int i :: .ref a :: rest)) := by
  refine W.zast X.1 X.2.1 hat ((hK.2 1 _ rfl).1 n (fun j => .int (f j))) (fun q => by cases q) (by show ¬ (i < 0 ∨ (arrV _ _ _).slots.size ≤ _); rw [arrV_size]; exact hin) rfl rfl hdg fun H1 e1 z oq => ?_
  refine kk H1 _ ?_ oq (hS.put z oq hA)
  show H1[a]? = some (vp_cell _ _)
  rw [e1]
  rw [vp_cell_i, vp_cell_i, arrV_store]
  congr 2
  funext q
  by_cases hq : q = i.toNatClampNeg
  · subst hq
    rcases hx with rfl | rfl <;> (simp [updV, up1]; try rfl)
  · simp [updV, up1, hq]
theorem pw_astN (X : CallFix p m c cc nL s args TB own) (hK : KK D cI cZ cO s) (hG : PW D cI cZ cO dom L σ ow H) (hS : va_S A H0 H locs) (hA : ∀ q, ow q → A q) (F : Nat) (hF : FA F 2) {k : Nat} (hd : dom F k) {i x N : Nat} (hN : flen F = N) (hi : i < N) (hs : N < 2 ^ 31) (hdg : decode cc pc = .ok (.iastore, 1))
    (kk : ∀ (H1 : Heap) (locs1 : List Loc), PW D cI cZ cO dom L (wA σ F k i x) ow H1 → va_S A H0 H1 locs1 → W p l e R s m args below meth c H1 locs1 cells slots Q (F0 m (pc + 1) ls rest)) : W p l e R s m args below meth c H locs cells slots Q (F0 m pc ls (.int (nI x) :: .int (nI i) :: .ref (L F k) :: rest)) := by
  have hat := hG.1 _ _ hd
  rw [ent_2 hF.1 hF.2.1 hF.2.2, hN] at hat
  refine pw_iastR X hK hat hS (hA _ (hG.2.2 _ _ hd)) (vp_in_nI hi hs) hdg fun H1 locs1 e1 e3 e4 => kk H1 locs1 (hG.upd hd ?_ e3 (fun F' k' hn => ?_)) e4
  · rw [ent_2 hF.1 hF.2.1 hF.2.2, hN]
    rw [nI_clamp (by omega)] at e1
    have : (fun j => nI ((wA σ F k i x).2.2.1 F k j)) = up1 (fun j => nI (σ.2.2.1 F k j)) i (nI x) := by
      funext j
      show nI (up3 _ _ _ _ _ _ _ _) = _
      rw [up3_s]
      by_cases hj : j = i
      · subst hj; rw [up1_s, up1_s]
      · rw [up1_n hj, up1_n hj]
    rw [this]
    exact e1
  · exact ent_a (σ := σ) (σ' := wA σ F k i x) (F := F) (k := k) hF.2.1 rfl rfl (fun F9 k9 h9 => up3_n h9) (fun _ _ _ => rfl) hn
theorem pw_astI (X : CallFix p m c cc nL s args TB own) (hK : KK D cI cZ cO s) (hG : PW D cI cZ cO dom L σ ow H) (hS : va_S A H0 H locs) (hA : ∀ q, ow q → A q) (F : Nat) (hF : FA F 3) {k : Nat} (hd : dom F k) {i N : Nat} {x : Int32} (hN : flen F = N) (hi : i < N) (hs : N < 2 ^ 31) (hdg : decode cc pc = .ok (.iastore, 1))
    (kk : ∀ (H1 : Heap) (locs1 : List Loc), PW D cI cZ cO dom L (wB σ F k i x) ow H1 → va_S A H0 H1 locs1 → W p l e R s m args below meth c H1 locs1 cells slots Q (F0 m (pc + 1) ls rest)) : W p l e R s m args below meth c H locs cells slots Q (F0 m pc ls (.int x :: .int (nI i) :: .ref (L F k) :: rest)) := by
  have hat := hG.1 _ _ hd
  rw [ent_3 hF.1 hF.2.1 hF.2.2, hN] at hat
  refine pw_iastR X hK hat hS (hA _ (hG.2.2 _ _ hd)) (vp_in_nI hi hs) hdg fun H1 locs1 e1 e3 e4 => kk H1 locs1 (hG.upd hd ?_ e3 (fun F' k' hn => ?_)) e4
  · rw [ent_3 hF.1 hF.2.1 hF.2.2, hN]
    rw [nI_clamp (by omega)] at e1
    rw [show (wB σ F k i x).2.2.2 F k = up1 (σ.2.2.2 F k) i x from up3_s]
    exact e1
  · exact ent_a (σ := σ) (σ' := wB σ F k i x) (F := F) (k := k) hF.2.1 rfl rfl (fun _ _ _ => rfl) (fun F9 k9 h9 => up3_n h9) hn
theorem pw_astZ (X : CallFix p m c cc nL s args TB own) (hK : KK D cI cZ cO s) (hG : PW D cI cZ cO dom L σ ow H) (hS : va_S A H0 H locs) (hA : ∀ q, ow q → A q) (F : Nat) (hF : FA F 4) {k : Nat} (hd : dom F k) {i N : Nat} {x : Int32} (hx : x = 0 ∨ x = 1) (hN : flen F = N) (hi : i < N) (hs : N < 2 ^ 31) (hdg : decode cc pc = .ok (.bastore, 1))
    (kk : ∀ (H1 : Heap) (locs1 : List Loc), PW D cI cZ cO dom L (wB σ F k i x) ow H1 → va_S A H0 H1 locs1 → W p l e R s m args below meth c H1 locs1 cells slots Q (F0 m (pc + 1) ls rest)) : W p l e R s m args below meth c H locs cells slots Q (F0 m pc ls (.int x :: .int (nI i) :: .ref (L F k) :: rest)) := by
  have hat := hG.1 _ _ hd
  rw [ent_4 hF.1 hF.2.1 hF.2.2, hN] at hat
  refine pw_zastR X hK hat hS (hA _ (hG.2.2 _ _ hd)) hx (vp_in_nI hi hs) hdg fun H1 locs1 e1 e3 e4 => kk H1 locs1 (hG.upd hd ?_ e3 (fun F' k' hn => ?_)) e4
  · rw [ent_4 hF.1 hF.2.1 hF.2.2, hN]
    rw [nI_clamp (by omega)] at e1
    rw [show (wB σ F k i x).2.2.2 F k = up1 (σ.2.2.2 F k) i x from up3_s]
    exact e1
  · exact ent_a (σ := σ) (σ' := wB σ F k i x) (F := F) (k := k) hF.2.1 rfl rfl (fun _ _ _ => rfl) (fun F9 k9 h9 => up3_n h9) hn
end WR
end
