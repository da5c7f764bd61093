-- ===== PART A: goes FIRST, ahead of the names: the tables' words, and 'selects' of the private methods out of them =====
/-- a private method of a class that the tables say can be made, by its rows of tables_1 -/
def lw_okq (q : MethodName × Nat) : Prop := (q.1.cls ≠ "java/lang/invoke/MethodHandle" ∧ q.1.cls ≠ "java/lang/invoke/VarHandle") ∧ Cond.instantiable q.1.cls q.2 ∈ tables_1 ∧ Cond.privateMethod q.1 ∈ tables_1 ∧ Cond.instanceMethod q.1 ∈ tables_1
theorem lw_p0 : lw_okq (⟨"GrainBins$Rules", "clear", "()V"⟩, 8) := ⟨⟨by decide +kernel, by decide +kernel⟩, List.mem_of_getElem? (i := 45) (by decide +kernel), List.mem_of_getElem? (i := 344) (by decide +kernel), List.mem_of_getElem? (i := 345) (by decide +kernel)⟩
theorem lw_p1 : lw_okq (⟨"GrainBins$Rules", "readLine", "(LGrainBins$Text;)Z"⟩, 8) := ⟨⟨by decide +kernel, by decide +kernel⟩, List.mem_of_getElem? (i := 45) (by decide +kernel), List.mem_of_getElem? (i := 352) (by decide +kernel), List.mem_of_getElem? (i := 353) (by decide +kernel)⟩
theorem lw_p2 : lw_okq (⟨"GrainBins$Rules", "readGrade", "(LGrainBins$Text;)Z"⟩, 8) := ⟨⟨by decide +kernel, by decide +kernel⟩, List.mem_of_getElem? (i := 45) (by decide +kernel), List.mem_of_getElem? (i := 361) (by decide +kernel), List.mem_of_getElem? (i := 362) (by decide +kernel)⟩
theorem lw_p3 : lw_okq (⟨"GrainBins$Text", "digitFits", "(II)Z"⟩, 3) := ⟨⟨by decide +kernel, by decide +kernel⟩, List.mem_of_getElem? (i := 27) (by decide +kernel), List.mem_of_getElem? (i := 373) (by decide +kernel), List.mem_of_getElem? (i := 374) (by decide +kernel)⟩
theorem lw_p4 : lw_okq (⟨"GrainBins$Rules", "readBin", "(LGrainBins$Text;)Z"⟩, 8) := ⟨⟨by decide +kernel, by decide +kernel⟩, List.mem_of_getElem? (i := 45) (by decide +kernel), List.mem_of_getElem? (i := 377) (by decide +kernel), List.mem_of_getElem? (i := 378) (by decide +kernel)⟩
theorem lw_p5 : lw_okq (⟨"GrainBins$Rules", "readPair", "(LGrainBins$Text;Z)Z"⟩, 8) := ⟨⟨by decide +kernel, by decide +kernel⟩, List.mem_of_getElem? (i := 45) (by decide +kernel), List.mem_of_getElem? (i := 381) (by decide +kernel), List.mem_of_getElem? (i := 382) (by decide +kernel)⟩
theorem lw_p6 : lw_okq (⟨"GrainBins$Store", "onTop", "(III)Z"⟩, 11) := ⟨⟨by decide +kernel, by decide +kernel⟩, List.mem_of_getElem? (i := 82) (by decide +kernel), List.mem_of_getElem? (i := 470) (by decide +kernel), List.mem_of_getElem? (i := 471) (by decide +kernel)⟩
theorem lw_p7 : lw_okq (⟨"GrainBins$Store", "copyBin", "(LGrainBins$Store;I)V"⟩, 11) := ⟨⟨by decide +kernel, by decide +kernel⟩, List.mem_of_getElem? (i := 82) (by decide +kernel), List.mem_of_getElem? (i := 483) (by decide +kernel), List.mem_of_getElem? (i := 484) (by decide +kernel)⟩
theorem lw_p8 : lw_okq (⟨"GrainBins$Store", "partBelow", "(III)I"⟩, 11) := ⟨⟨by decide +kernel, by decide +kernel⟩, List.mem_of_getElem? (i := 82) (by decide +kernel), List.mem_of_getElem? (i := 507) (by decide +kernel), List.mem_of_getElem? (i := 508) (by decide +kernel)⟩
theorem lw_p9 : lw_okq (⟨"GrainBins$Store", "take", "(II)V"⟩, 11) := ⟨⟨by decide +kernel, by decide +kernel⟩, List.mem_of_getElem? (i := 82) (by decide +kernel), List.mem_of_getElem? (i := 525) (by decide +kernel), List.mem_of_getElem? (i := 526) (by decide +kernel)⟩
theorem lw_p10 : lw_okq (⟨"GrainBins$Store", "layersWith", "(III)I"⟩, 11) := ⟨⟨by decide +kernel, by decide +kernel⟩, List.mem_of_getElem? (i := 82) (by decide +kernel), List.mem_of_getElem? (i := 538) (by decide +kernel), List.mem_of_getElem? (i := 539) (by decide +kernel)⟩
theorem lw_p11 : lw_okq (⟨"GrainBins$Store", "swap", "(II)V"⟩, 11) := ⟨⟨by decide +kernel, by decide +kernel⟩, List.mem_of_getElem? (i := 82) (by decide +kernel), List.mem_of_getElem? (i := 576) (by decide +kernel), List.mem_of_getElem? (i := 577) (by decide +kernel)⟩
theorem lw_p12 : lw_okq (⟨"GrainBins$Store", "join", "(I)V"⟩, 11) := ⟨⟨by decide +kernel, by decide +kernel⟩, List.mem_of_getElem? (i := 82) (by decide +kernel), List.mem_of_getElem? (i := 580) (by decide +kernel), List.mem_of_getElem? (i := 581) (by decide +kernel)⟩
theorem lw_p13 : lw_okq (⟨"GrainBins", "readOrders", "()I"⟩, 12) := ⟨⟨by decide +kernel, by decide +kernel⟩, List.mem_of_getElem? (i := 19) (by decide +kernel), List.mem_of_getElem? (i := 604) (by decide +kernel), List.mem_of_getElem? (i := 605) (by decide +kernel)⟩
theorem lw_p14 : lw_okq (⟨"GrainBins$Orders", "readOne", "(LGrainBins$Text;I)Z"⟩, 4) := ⟨⟨by decide +kernel, by decide +kernel⟩, List.mem_of_getElem? (i := 177) (by decide +kernel), List.mem_of_getElem? (i := 613) (by decide +kernel), List.mem_of_getElem? (i := 614) (by decide +kernel)⟩
theorem lw_p15 : lw_okq (⟨"GrainBins$Drawing", "takeWay", "(I)V"⟩, 6) := ⟨⟨by decide +kernel, by decide +kernel⟩, List.mem_of_getElem? (i := 239) (by decide +kernel), List.mem_of_getElem? (i := 628) (by decide +kernel), List.mem_of_getElem? (i := 629) (by decide +kernel)⟩
def lw_privs_1 : List (MethodName × Nat) := [(⟨"GrainBins$Rules", "clear", "()V"⟩, 8), (⟨"GrainBins$Rules", "readLine", "(LGrainBins$Text;)Z"⟩, 8), (⟨"GrainBins$Rules", "readGrade", "(LGrainBins$Text;)Z"⟩, 8), (⟨"GrainBins$Text", "digitFits", "(II)Z"⟩, 3), (⟨"GrainBins$Rules", "readBin", "(LGrainBins$Text;)Z"⟩, 8), (⟨"GrainBins$Rules", "readPair", "(LGrainBins$Text;Z)Z"⟩, 8), (⟨"GrainBins$Store", "onTop", "(III)Z"⟩, 11), (⟨"GrainBins$Store", "copyBin", "(LGrainBins$Store;I)V"⟩, 11), (⟨"GrainBins$Store", "partBelow", "(III)I"⟩, 11), (⟨"GrainBins$Store", "take", "(II)V"⟩, 11), (⟨"GrainBins$Store", "layersWith", "(III)I"⟩, 11), (⟨"GrainBins$Store", "swap", "(II)V"⟩, 11), (⟨"GrainBins$Store", "join", "(I)V"⟩, 11), (⟨"GrainBins", "readOrders", "()I"⟩, 12), (⟨"GrainBins$Orders", "readOne", "(LGrainBins$Text;I)Z"⟩, 4), (⟨"GrainBins$Drawing", "takeWay", "(I)V"⟩, 6)]
theorem lw_r1 : ∀ q ∈ lw_privs_1, lw_okq q := List.forall_mem_cons.mpr ⟨lw_p0, List.forall_mem_cons.mpr ⟨lw_p1, List.forall_mem_cons.mpr ⟨lw_p2, List.forall_mem_cons.mpr ⟨lw_p3, List.forall_mem_cons.mpr ⟨lw_p4, List.forall_mem_cons.mpr ⟨lw_p5, List.forall_mem_cons.mpr ⟨lw_p6, List.forall_mem_cons.mpr ⟨lw_p7, List.forall_mem_cons.mpr ⟨lw_p8, List.forall_mem_cons.mpr ⟨lw_p9, List.forall_mem_cons.mpr ⟨lw_p10, List.forall_mem_cons.mpr ⟨lw_p11, List.forall_mem_cons.mpr ⟨lw_p12, List.forall_mem_cons.mpr ⟨lw_p13, List.forall_mem_cons.mpr ⟨lw_p14, List.forall_mem_cons.mpr ⟨lw_p15, fun _ h => absurd h List.not_mem_nil⟩⟩⟩⟩⟩⟩⟩⟩⟩⟩⟩⟩⟩⟩⟩⟩
theorem lw_p16 : lw_okq (⟨"GrainBins$Drawing", "canDraw", "(II)Z"⟩, 6) := ⟨⟨by decide +kernel, by decide +kernel⟩, List.mem_of_getElem? (i := 239) (by decide +kernel), List.mem_of_getElem? (i := 632) (by decide +kernel), List.mem_of_getElem? (i := 633) (by decide +kernel)⟩
theorem lw_p17 : lw_okq (⟨"GrainBins$Laying", "start", "(LGrainBins$Store;I)V"⟩, 7) := ⟨⟨by decide +kernel, by decide +kernel⟩, List.mem_of_getElem? (i := 208) (by decide +kernel), List.mem_of_getElem? (i := 704) (by decide +kernel), List.mem_of_getElem? (i := 705) (by decide +kernel)⟩
theorem lw_p18 : lw_okq (⟨"GrainBins$Laying", "mightLie", "()Z"⟩, 7) := ⟨⟨by decide +kernel, by decide +kernel⟩, List.mem_of_getElem? (i := 208) (by decide +kernel), List.mem_of_getElem? (i := 710) (by decide +kernel), List.mem_of_getElem? (i := 711) (by decide +kernel)⟩
theorem lw_p19 : lw_okq (⟨"GrainBins$Laying", "mayLie", "(II)Z"⟩, 7) := ⟨⟨by decide +kernel, by decide +kernel⟩, List.mem_of_getElem? (i := 208) (by decide +kernel), List.mem_of_getElem? (i := 714) (by decide +kernel), List.mem_of_getElem? (i := 715) (by decide +kernel)⟩
theorem lw_p20 : lw_okq (⟨"GrainBins$Laying", "takeWay", "()V"⟩, 7) := ⟨⟨by decide +kernel, by decide +kernel⟩, List.mem_of_getElem? (i := 208) (by decide +kernel), List.mem_of_getElem? (i := 722) (by decide +kernel), List.mem_of_getElem? (i := 723) (by decide +kernel)⟩
theorem lw_p21 : lw_okq (⟨"GrainBins$Laying", "lay", "(II)V"⟩, 7) := ⟨⟨by decide +kernel, by decide +kernel⟩, List.mem_of_getElem? (i := 208) (by decide +kernel), List.mem_of_getElem? (i := 727) (by decide +kernel), List.mem_of_getElem? (i := 728) (by decide +kernel)⟩
theorem lw_p22 : lw_okq (⟨"GrainBins$Laying", "isFewer", "(I)Z"⟩, 7) := ⟨⟨by decide +kernel, by decide +kernel⟩, List.mem_of_getElem? (i := 208) (by decide +kernel), List.mem_of_getElem? (i := 751) (by decide +kernel), List.mem_of_getElem? (i := 752) (by decide +kernel)⟩
theorem lw_p23 : lw_okq (⟨"GrainBins$Store", "spoilt", "(II)Z"⟩, 11) := ⟨⟨by decide +kernel, by decide +kernel⟩, List.mem_of_getElem? (i := 82) (by decide +kernel), List.mem_of_getElem? (i := 821) (by decide +kernel), List.mem_of_getElem? (i := 822) (by decide +kernel)⟩
theorem lw_p24 : lw_okq (⟨"GrainBins$Script", "writeBin", "(LGrainBins$Store;I)V"⟩, 2) := ⟨⟨by decide +kernel, by decide +kernel⟩, List.mem_of_getElem? (i := 265) (by decide +kernel), List.mem_of_getElem? (i := 871) (by decide +kernel), List.mem_of_getElem? (i := 872) (by decide +kernel)⟩
theorem lw_p25 : lw_okq (⟨"GrainBins$Script", "add", "(I)V"⟩, 2) := ⟨⟨by decide +kernel, by decide +kernel⟩, List.mem_of_getElem? (i := 265) (by decide +kernel), List.mem_of_getElem? (i := 875) (by decide +kernel), List.mem_of_getElem? (i := 876) (by decide +kernel)⟩
theorem lw_p26 : lw_okq (⟨"GrainBins$Script", "writeTons", "(I)V"⟩, 2) := ⟨⟨by decide +kernel, by decide +kernel⟩, List.mem_of_getElem? (i := 265) (by decide +kernel), List.mem_of_getElem? (i := 880) (by decide +kernel), List.mem_of_getElem? (i := 881) (by decide +kernel)⟩
theorem lw_p27 : lw_okq (⟨"java/lang/Throwable", "fillInStackTrace", "(I)Ljava/lang/Throwable;"⟩, 6) := ⟨⟨by decide +kernel, by decide +kernel⟩, List.mem_of_getElem? (i := 952) (by decide +kernel), List.mem_of_getElem? (i := 950) (by decide +kernel), List.mem_of_getElem? (i := 951) (by decide +kernel)⟩
theorem lw_p28 : lw_okq (⟨"GrainBinsModel", "begins", "()V"⟩, 38) := ⟨⟨by decide +kernel, by decide +kernel⟩, List.mem_of_getElem? (i := 977) (by decide +kernel), List.mem_of_getElem? (i := 983) (by decide +kernel), List.mem_of_getElem? (i := 984) (by decide +kernel)⟩
theorem lw_p29 : lw_okq (⟨"GrainBinsModel", "begin", "()V"⟩, 38) := ⟨⟨by decide +kernel, by decide +kernel⟩, List.mem_of_getElem? (i := 977) (by decide +kernel), List.mem_of_getElem? (i := 1122) (by decide +kernel), List.mem_of_getElem? (i := 1123) (by decide +kernel)⟩
theorem lw_p30 : lw_okq (⟨"GrainBinsModel", "readsLine", "()V"⟩, 38) := ⟨⟨by decide +kernel, by decide +kernel⟩, List.mem_of_getElem? (i := 977) (by decide +kernel), List.mem_of_getElem? (i := 1126) (by decide +kernel), List.mem_of_getElem? (i := 1127) (by decide +kernel)⟩
theorem lw_p31 : lw_okq (⟨"GrainBinsModel", "sees", "()I"⟩, 38) := ⟨⟨by decide +kernel, by decide +kernel⟩, List.mem_of_getElem? (i := 977) (by decide +kernel), List.mem_of_getElem? (i := 1130) (by decide +kernel), List.mem_of_getElem? (i := 1131) (by decide +kernel)⟩
def lw_privs_2 : List (MethodName × Nat) := [(⟨"GrainBins$Drawing", "canDraw", "(II)Z"⟩, 6), (⟨"GrainBins$Laying", "start", "(LGrainBins$Store;I)V"⟩, 7), (⟨"GrainBins$Laying", "mightLie", "()Z"⟩, 7), (⟨"GrainBins$Laying", "mayLie", "(II)Z"⟩, 7), (⟨"GrainBins$Laying", "takeWay", "()V"⟩, 7), (⟨"GrainBins$Laying", "lay", "(II)V"⟩, 7), (⟨"GrainBins$Laying", "isFewer", "(I)Z"⟩, 7), (⟨"GrainBins$Store", "spoilt", "(II)Z"⟩, 11), (⟨"GrainBins$Script", "writeBin", "(LGrainBins$Store;I)V"⟩, 2), (⟨"GrainBins$Script", "add", "(I)V"⟩, 2), (⟨"GrainBins$Script", "writeTons", "(I)V"⟩, 2), (⟨"java/lang/Throwable", "fillInStackTrace", "(I)Ljava/lang/Throwable;"⟩, 6), (⟨"GrainBinsModel", "begins", "()V"⟩, 38), (⟨"GrainBinsModel", "begin", "()V"⟩, 38), (⟨"GrainBinsModel", "readsLine", "()V"⟩, 38), (⟨"GrainBinsModel", "sees", "()I"⟩, 38)]
theorem lw_r2 : ∀ q ∈ lw_privs_2, lw_okq q := List.forall_mem_cons.mpr ⟨lw_p16, List.forall_mem_cons.mpr ⟨lw_p17, List.forall_mem_cons.mpr ⟨lw_p18, List.forall_mem_cons.mpr ⟨lw_p19, List.forall_mem_cons.mpr ⟨lw_p20, List.forall_mem_cons.mpr ⟨lw_p21, List.forall_mem_cons.mpr ⟨lw_p22, List.forall_mem_cons.mpr ⟨lw_p23, List.forall_mem_cons.mpr ⟨lw_p24, List.forall_mem_cons.mpr ⟨lw_p25, List.forall_mem_cons.mpr ⟨lw_p26, List.forall_mem_cons.mpr ⟨lw_p27, List.forall_mem_cons.mpr ⟨lw_p28, List.forall_mem_cons.mpr ⟨lw_p29, List.forall_mem_cons.mpr ⟨lw_p30, List.forall_mem_cons.mpr ⟨lw_p31, fun _ h => absurd h List.not_mem_nil⟩⟩⟩⟩⟩⟩⟩⟩⟩⟩⟩⟩⟩⟩⟩⟩
theorem lw_p32 : lw_okq (⟨"GrainBinsModel", "fault", "(I)V"⟩, 38) := ⟨⟨by decide +kernel, by decide +kernel⟩, List.mem_of_getElem? (i := 977) (by decide +kernel), List.mem_of_getElem? (i := 1134) (by decide +kernel), List.mem_of_getElem? (i := 1135) (by decide +kernel)⟩
theorem lw_p33 : lw_okq (⟨"GrainBinsModel", "readsGrade", "()V"⟩, 38) := ⟨⟨by decide +kernel, by decide +kernel⟩, List.mem_of_getElem? (i := 977) (by decide +kernel), List.mem_of_getElem? (i := 1138) (by decide +kernel), List.mem_of_getElem? (i := 1139) (by decide +kernel)⟩
theorem lw_p34 : lw_okq (⟨"GrainBinsModel", "gradeSign", "()I"⟩, 38) := ⟨⟨by decide +kernel, by decide +kernel⟩, List.mem_of_getElem? (i := 977) (by decide +kernel), List.mem_of_getElem? (i := 1142) (by decide +kernel), List.mem_of_getElem? (i := 1143) (by decide +kernel)⟩
theorem lw_p35 : lw_okq (⟨"GrainBinsModel", "expect", "(C)V"⟩, 38) := ⟨⟨by decide +kernel, by decide +kernel⟩, List.mem_of_getElem? (i := 977) (by decide +kernel), List.mem_of_getElem? (i := 1148) (by decide +kernel), List.mem_of_getElem? (i := 1149) (by decide +kernel)⟩
theorem lw_p36 : lw_okq (⟨"GrainBinsModel", "number", "(III)I"⟩, 38) := ⟨⟨by decide +kernel, by decide +kernel⟩, List.mem_of_getElem? (i := 977) (by decide +kernel), List.mem_of_getElem? (i := 1152) (by decide +kernel), List.mem_of_getElem? (i := 1153) (by decide +kernel)⟩
theorem lw_p37 : lw_okq (⟨"GrainBinsModel", "readsBin", "()V"⟩, 38) := ⟨⟨by decide +kernel, by decide +kernel⟩, List.mem_of_getElem? (i := 977) (by decide +kernel), List.mem_of_getElem? (i := 1157) (by decide +kernel), List.mem_of_getElem? (i := 1158) (by decide +kernel)⟩
theorem lw_p38 : lw_okq (⟨"GrainBinsModel", "readsPair", "(Z)V"⟩, 38) := ⟨⟨by decide +kernel, by decide +kernel⟩, List.mem_of_getElem? (i := 977) (by decide +kernel), List.mem_of_getElem? (i := 1161) (by decide +kernel), List.mem_of_getElem? (i := 1162) (by decide +kernel)⟩
theorem lw_p39 : lw_okq (⟨"GrainBinsModel", "tonsOf", "(II)I"⟩, 38) := ⟨⟨by decide +kernel, by decide +kernel⟩, List.mem_of_getElem? (i := 977) (by decide +kernel), List.mem_of_getElem? (i := 1175) (by decide +kernel), List.mem_of_getElem? (i := 1176) (by decide +kernel)⟩
theorem lw_p40 : lw_okq (⟨"GrainBinsModel", "many", "(I)I"⟩, 38) := ⟨⟨by decide +kernel, by decide +kernel⟩, List.mem_of_getElem? (i := 977) (by decide +kernel), List.mem_of_getElem? (i := 1179) (by decide +kernel), List.mem_of_getElem? (i := 1180) (by decide +kernel)⟩
theorem lw_p41 : lw_okq (⟨"GrainBinsModel", "layerOf", "(III)I"⟩, 38) := ⟨⟨by decide +kernel, by decide +kernel⟩, List.mem_of_getElem? (i := 977) (by decide +kernel), List.mem_of_getElem? (i := 1183) (by decide +kernel), List.mem_of_getElem? (i := 1184) (by decide +kernel)⟩
theorem lw_p42 : lw_okq (⟨"GrainBinsModel", "loss", "(II)I"⟩, 38) := ⟨⟨by decide +kernel, by decide +kernel⟩, List.mem_of_getElem? (i := 977) (by decide +kernel), List.mem_of_getElem? (i := 1191) (by decide +kernel), List.mem_of_getElem? (i := 1192) (by decide +kernel)⟩
theorem lw_p43 : lw_okq (⟨"GrainBinsModel", "tonsIn", "(I)I"⟩, 38) := ⟨⟨by decide +kernel, by decide +kernel⟩, List.mem_of_getElem? (i := 977) (by decide +kernel), List.mem_of_getElem? (i := 1202) (by decide +kernel), List.mem_of_getElem? (i := 1203) (by decide +kernel)⟩
theorem lw_p44 : lw_okq (⟨"GrainBinsModel", "gradesIn", "(I)I"⟩, 38) := ⟨⟨by decide +kernel, by decide +kernel⟩, List.mem_of_getElem? (i := 977) (by decide +kernel), List.mem_of_getElem? (i := 1206) (by decide +kernel), List.mem_of_getElem? (i := 1207) (by decide +kernel)⟩
theorem lw_p45 : lw_okq (⟨"GrainBinsModel", "unit", "(II)I"⟩, 38) := ⟨⟨by decide +kernel, by decide +kernel⟩, List.mem_of_getElem? (i := 977) (by decide +kernel), List.mem_of_getElem? (i := 1215) (by decide +kernel), List.mem_of_getElem? (i := 1216) (by decide +kernel)⟩
theorem lw_p46 : lw_okq (⟨"GrainBinsModel", "unitOn", "(III)I"⟩, 38) := ⟨⟨by decide +kernel, by decide +kernel⟩, List.mem_of_getElem? (i := 977) (by decide +kernel), List.mem_of_getElem? (i := 1219) (by decide +kernel), List.mem_of_getElem? (i := 1220) (by decide +kernel)⟩
theorem lw_p47 : lw_okq (⟨"GrainBinsModel", "whyNot", "(IIII)I"⟩, 38) := ⟨⟨by decide +kernel, by decide +kernel⟩, List.mem_of_getElem? (i := 977) (by decide +kernel), List.mem_of_getElem? (i := 1231) (by decide +kernel), List.mem_of_getElem? (i := 1232) (by decide +kernel)⟩
def lw_privs_3 : List (MethodName × Nat) := [(⟨"GrainBinsModel", "fault", "(I)V"⟩, 38), (⟨"GrainBinsModel", "readsGrade", "()V"⟩, 38), (⟨"GrainBinsModel", "gradeSign", "()I"⟩, 38), (⟨"GrainBinsModel", "expect", "(C)V"⟩, 38), (⟨"GrainBinsModel", "number", "(III)I"⟩, 38), (⟨"GrainBinsModel", "readsBin", "()V"⟩, 38), (⟨"GrainBinsModel", "readsPair", "(Z)V"⟩, 38), (⟨"GrainBinsModel", "tonsOf", "(II)I"⟩, 38), (⟨"GrainBinsModel", "many", "(I)I"⟩, 38), (⟨"GrainBinsModel", "layerOf", "(III)I"⟩, 38), (⟨"GrainBinsModel", "loss", "(II)I"⟩, 38), (⟨"GrainBinsModel", "tonsIn", "(I)I"⟩, 38), (⟨"GrainBinsModel", "gradesIn", "(I)I"⟩, 38), (⟨"GrainBinsModel", "unit", "(II)I"⟩, 38), (⟨"GrainBinsModel", "unitOn", "(III)I"⟩, 38), (⟨"GrainBinsModel", "whyNot", "(IIII)I"⟩, 38)]
theorem lw_r3 : ∀ q ∈ lw_privs_3, lw_okq q := List.forall_mem_cons.mpr ⟨lw_p32, List.forall_mem_cons.mpr ⟨lw_p33, List.forall_mem_cons.mpr ⟨lw_p34, List.forall_mem_cons.mpr ⟨lw_p35, List.forall_mem_cons.mpr ⟨lw_p36, List.forall_mem_cons.mpr ⟨lw_p37, List.forall_mem_cons.mpr ⟨lw_p38, List.forall_mem_cons.mpr ⟨lw_p39, List.forall_mem_cons.mpr ⟨lw_p40, List.forall_mem_cons.mpr ⟨lw_p41, List.forall_mem_cons.mpr ⟨lw_p42, List.forall_mem_cons.mpr ⟨lw_p43, List.forall_mem_cons.mpr ⟨lw_p44, List.forall_mem_cons.mpr ⟨lw_p45, List.forall_mem_cons.mpr ⟨lw_p46, List.forall_mem_cons.mpr ⟨lw_p47, fun _ h => absurd h List.not_mem_nil⟩⟩⟩⟩⟩⟩⟩⟩⟩⟩⟩⟩⟩⟩⟩⟩
theorem lw_p48 : lw_okq (⟨"GrainBinsModel", "isClosed", "(I)Z"⟩, 38) := ⟨⟨by decide +kernel, by decide +kernel⟩, List.mem_of_getElem? (i := 977) (by decide +kernel), List.mem_of_getElem? (i := 1235) (by decide +kernel), List.mem_of_getElem? (i := 1236) (by decide +kernel)⟩
theorem lw_p49 : lw_okq (⟨"GrainBinsModel", "mayMix", "(II)Z"⟩, 38) := ⟨⟨by decide +kernel, by decide +kernel⟩, List.mem_of_getElem? (i := 977) (by decide +kernel), List.mem_of_getElem? (i := 1239) (by decide +kernel), List.mem_of_getElem? (i := 1240) (by decide +kernel)⟩
theorem lw_p50 : lw_okq (⟨"GrainBinsModel", "isOnTop", "(III)Z"⟩, 38) := ⟨⟨by decide +kernel, by decide +kernel⟩, List.mem_of_getElem? (i := 977) (by decide +kernel), List.mem_of_getElem? (i := 1243) (by decide +kernel), List.mem_of_getElem? (i := 1244) (by decide +kernel)⟩
theorem lw_p51 : lw_okq (⟨"GrainBinsModel", "does", "()V"⟩, 38) := ⟨⟨by decide +kernel, by decide +kernel⟩, List.mem_of_getElem? (i := 977) (by decide +kernel), List.mem_of_getElem? (i := 1247) (by decide +kernel), List.mem_of_getElem? (i := 1248) (by decide +kernel)⟩
theorem lw_p52 : lw_okq (⟨"GrainBinsModel", "keepsAside", "()V"⟩, 38) := ⟨⟨by decide +kernel, by decide +kernel⟩, List.mem_of_getElem? (i := 977) (by decide +kernel), List.mem_of_getElem? (i := 1251) (by decide +kernel), List.mem_of_getElem? (i := 1252) (by decide +kernel)⟩
theorem lw_p53 : lw_okq (⟨"GrainBinsModel", "did", "()V"⟩, 38) := ⟨⟨by decide +kernel, by decide +kernel⟩, List.mem_of_getElem? (i := 977) (by decide +kernel), List.mem_of_getElem? (i := 1255) (by decide +kernel), List.mem_of_getElem? (i := 1256) (by decide +kernel)⟩
theorem lw_p54 : lw_okq (⟨"GrainBinsModel", "lies", "(IIII)V"⟩, 38) := ⟨⟨by decide +kernel, by decide +kernel⟩, List.mem_of_getElem? (i := 977) (by decide +kernel), List.mem_of_getElem? (i := 1259) (by decide +kernel), List.mem_of_getElem? (i := 1260) (by decide +kernel)⟩
theorem lw_p55 : lw_okq (⟨"GrainBinsModel", "sets", "(IIIII)V"⟩, 38) := ⟨⟨by decide +kernel, by decide +kernel⟩, List.mem_of_getElem? (i := 977) (by decide +kernel), List.mem_of_getElem? (i := 1263) (by decide +kernel), List.mem_of_getElem? (i := 1264) (by decide +kernel)⟩
theorem lw_p56 : lw_okq (⟨"GrainBinsModel", "goes", "(II)V"⟩, 38) := ⟨⟨by decide +kernel, by decide +kernel⟩, List.mem_of_getElem? (i := 977) (by decide +kernel), List.mem_of_getElem? (i := 1271) (by decide +kernel), List.mem_of_getElem? (i := 1272) (by decide +kernel)⟩
theorem lw_p57 : lw_okq (⟨"GrainBinsModel", "tell", "(J)V"⟩, 38) := ⟨⟨by decide +kernel, by decide +kernel⟩, List.mem_of_getElem? (i := 977) (by decide +kernel), List.mem_of_getElem? (i := 1275) (by decide +kernel), List.mem_of_getElem? (i := 1276) (by decide +kernel)⟩
theorem lw_p58 : lw_okq (⟨"GrainBinsModel", "counts", "(I)V"⟩, 38) := ⟨⟨by decide +kernel, by decide +kernel⟩, List.mem_of_getElem? (i := 977) (by decide +kernel), List.mem_of_getElem? (i := 1279) (by decide +kernel), List.mem_of_getElem? (i := 1280) (by decide +kernel)⟩
theorem lw_p59 : lw_okq (⟨"GrainBinsModel", "valueOf", "(I)I"⟩, 38) := ⟨⟨by decide +kernel, by decide +kernel⟩, List.mem_of_getElem? (i := 977) (by decide +kernel), List.mem_of_getElem? (i := 1291) (by decide +kernel), List.mem_of_getElem? (i := 1292) (by decide +kernel)⟩
theorem lw_p60 : lw_okq (⟨"GrainBinsModel", "valueOn", "(II)I"⟩, 38) := ⟨⟨by decide +kernel, by decide +kernel⟩, List.mem_of_getElem? (i := 977) (by decide +kernel), List.mem_of_getElem? (i := 1295) (by decide +kernel), List.mem_of_getElem? (i := 1296) (by decide +kernel)⟩
theorem lw_p61 : lw_okq (⟨"GrainBinsModel", "rawOn", "(II)I"⟩, 38) := ⟨⟨by decide +kernel, by decide +kernel⟩, List.mem_of_getElem? (i := 977) (by decide +kernel), List.mem_of_getElem? (i := 1299) (by decide +kernel), List.mem_of_getElem? (i := 1300) (by decide +kernel)⟩
theorem lw_p62 : lw_okq (⟨"GrainBinsModel", "mixedIn", "(I)I"⟩, 38) := ⟨⟨by decide +kernel, by decide +kernel⟩, List.mem_of_getElem? (i := 977) (by decide +kernel), List.mem_of_getElem? (i := 1303) (by decide +kernel), List.mem_of_getElem? (i := 1304) (by decide +kernel)⟩
theorem lw_p63 : lw_okq (⟨"GrainBinsModel", "mixedOf", "(III)I"⟩, 38) := ⟨⟨by decide +kernel, by decide +kernel⟩, List.mem_of_getElem? (i := 977) (by decide +kernel), List.mem_of_getElem? (i := 1307) (by decide +kernel), List.mem_of_getElem? (i := 1308) (by decide +kernel)⟩
def lw_privs_4 : List (MethodName × Nat) := [(⟨"GrainBinsModel", "isClosed", "(I)Z"⟩, 38), (⟨"GrainBinsModel", "mayMix", "(II)Z"⟩, 38), (⟨"GrainBinsModel", "isOnTop", "(III)Z"⟩, 38), (⟨"GrainBinsModel", "does", "()V"⟩, 38), (⟨"GrainBinsModel", "keepsAside", "()V"⟩, 38), (⟨"GrainBinsModel", "did", "()V"⟩, 38), (⟨"GrainBinsModel", "lies", "(IIII)V"⟩, 38), (⟨"GrainBinsModel", "sets", "(IIIII)V"⟩, 38), (⟨"GrainBinsModel", "goes", "(II)V"⟩, 38), (⟨"GrainBinsModel", "tell", "(J)V"⟩, 38), (⟨"GrainBinsModel", "counts", "(I)V"⟩, 38), (⟨"GrainBinsModel", "valueOf", "(I)I"⟩, 38), (⟨"GrainBinsModel", "valueOn", "(II)I"⟩, 38), (⟨"GrainBinsModel", "rawOn", "(II)I"⟩, 38), (⟨"GrainBinsModel", "mixedIn", "(I)I"⟩, 38), (⟨"GrainBinsModel", "mixedOf", "(III)I"⟩, 38)]
theorem lw_r4 : ∀ q ∈ lw_privs_4, lw_okq q := List.forall_mem_cons.mpr ⟨lw_p48, List.forall_mem_cons.mpr ⟨lw_p49, List.forall_mem_cons.mpr ⟨lw_p50, List.forall_mem_cons.mpr ⟨lw_p51, List.forall_mem_cons.mpr ⟨lw_p52, List.forall_mem_cons.mpr ⟨lw_p53, List.forall_mem_cons.mpr ⟨lw_p54, List.forall_mem_cons.mpr ⟨lw_p55, List.forall_mem_cons.mpr ⟨lw_p56, List.forall_mem_cons.mpr ⟨lw_p57, List.forall_mem_cons.mpr ⟨lw_p58, List.forall_mem_cons.mpr ⟨lw_p59, List.forall_mem_cons.mpr ⟨lw_p60, List.forall_mem_cons.mpr ⟨lw_p61, List.forall_mem_cons.mpr ⟨lw_p62, List.forall_mem_cons.mpr ⟨lw_p63, fun _ h => absurd h List.not_mem_nil⟩⟩⟩⟩⟩⟩⟩⟩⟩⟩⟩⟩⟩⟩⟩⟩
theorem lw_p64 : lw_okq (⟨"GrainBinsModel", "comes", "(I)I"⟩, 38) := ⟨⟨by decide +kernel, by decide +kernel⟩, List.mem_of_getElem? (i := 977) (by decide +kernel), List.mem_of_getElem? (i := 1311) (by decide +kernel), List.mem_of_getElem? (i := 1312) (by decide +kernel)⟩
theorem lw_p65 : lw_okq (⟨"GrainBinsModel", "putsBack", "()V"⟩, 38) := ⟨⟨by decide +kernel, by decide +kernel⟩, List.mem_of_getElem? (i := 977) (by decide +kernel), List.mem_of_getElem? (i := 1315) (by decide +kernel), List.mem_of_getElem? (i := 1316) (by decide +kernel)⟩
theorem lw_p66 : lw_okq (⟨"GrainBinsModel", "fumigates", "(II)V"⟩, 38) := ⟨⟨by decide +kernel, by decide +kernel⟩, List.mem_of_getElem? (i := 977) (by decide +kernel), List.mem_of_getElem? (i := 1328) (by decide +kernel), List.mem_of_getElem? (i := 1329) (by decide +kernel)⟩
theorem lw_p67 : lw_okq (⟨"GrainBinsModel", "readsList", "()V"⟩, 38) := ⟨⟨by decide +kernel, by decide +kernel⟩, List.mem_of_getElem? (i := 977) (by decide +kernel), List.mem_of_getElem? (i := 1345) (by decide +kernel), List.mem_of_getElem? (i := 1346) (by decide +kernel)⟩
theorem lw_p68 : lw_okq (⟨"GrainBinsModel", "findsServed", "()V"⟩, 38) := ⟨⟨by decide +kernel, by decide +kernel⟩, List.mem_of_getElem? (i := 977) (by decide +kernel), List.mem_of_getElem? (i := 1349) (by decide +kernel), List.mem_of_getElem? (i := 1350) (by decide +kernel)⟩
theorem lw_p69 : lw_okq (⟨"GrainBinsModel", "servesFrom", "(I)V"⟩, 38) := ⟨⟨by decide +kernel, by decide +kernel⟩, List.mem_of_getElem? (i := 977) (by decide +kernel), List.mem_of_getElem? (i := 1353) (by decide +kernel), List.mem_of_getElem? (i := 1354) (by decide +kernel)⟩
theorem lw_p70 : lw_okq (⟨"GrainBinsModel", "findsRow", "(I)V"⟩, 38) := ⟨⟨by decide +kernel, by decide +kernel⟩, List.mem_of_getElem? (i := 977) (by decide +kernel), List.mem_of_getElem? (i := 1357) (by decide +kernel), List.mem_of_getElem? (i := 1358) (by decide +kernel)⟩
theorem lw_p71 : lw_okq (⟨"GrainBinsModel", "laysDown", "(I)V"⟩, 38) := ⟨⟨by decide +kernel, by decide +kernel⟩, List.mem_of_getElem? (i := 977) (by decide +kernel), List.mem_of_getElem? (i := 1361) (by decide +kernel), List.mem_of_getElem? (i := 1362) (by decide +kernel)⟩
theorem lw_p72 : lw_okq (⟨"GrainBinsModel", "canServe", "(II)Z"⟩, 38) := ⟨⟨by decide +kernel, by decide +kernel⟩, List.mem_of_getElem? (i := 977) (by decide +kernel), List.mem_of_getElem? (i := 1365) (by decide +kernel), List.mem_of_getElem? (i := 1366) (by decide +kernel)⟩
theorem lw_p73 : lw_okq (⟨"GrainBinsModel", "lowest", "(II)I"⟩, 38) := ⟨⟨by decide +kernel, by decide +kernel⟩, List.mem_of_getElem? (i := 977) (by decide +kernel), List.mem_of_getElem? (i := 1369) (by decide +kernel), List.mem_of_getElem? (i := 1370) (by decide +kernel)⟩
theorem lw_p74 : lw_okq (⟨"GrainBinsModel", "takesUp", "(I)V"⟩, 38) := ⟨⟨by decide +kernel, by decide +kernel⟩, List.mem_of_getElem? (i := 977) (by decide +kernel), List.mem_of_getElem? (i := 1373) (by decide +kernel), List.mem_of_getElem? (i := 1374) (by decide +kernel)⟩
theorem lw_p75 : lw_okq (⟨"GrainBinsModel", "allNow", "()I"⟩, 38) := ⟨⟨by decide +kernel, by decide +kernel⟩, List.mem_of_getElem? (i := 977) (by decide +kernel), List.mem_of_getElem? (i := 1377) (by decide +kernel), List.mem_of_getElem? (i := 1378) (by decide +kernel)⟩
theorem lw_p76 : lw_okq (⟨"GrainBinsModel", "allOn", "(I)I"⟩, 38) := ⟨⟨by decide +kernel, by decide +kernel⟩, List.mem_of_getElem? (i := 977) (by decide +kernel), List.mem_of_getElem? (i := 1381) (by decide +kernel), List.mem_of_getElem? (i := 1382) (by decide +kernel)⟩
theorem lw_p77 : lw_okq (⟨"GrainBinsModel", "more", "(III)I"⟩, 38) := ⟨⟨by decide +kernel, by decide +kernel⟩, List.mem_of_getElem? (i := 977) (by decide +kernel), List.mem_of_getElem? (i := 1402) (by decide +kernel), List.mem_of_getElem? (i := 1403) (by decide +kernel)⟩
theorem lw_p78 : lw_okq (⟨"GrainBinsModel", "findsWays", "()V"⟩, 38) := ⟨⟨by decide +kernel, by decide +kernel⟩, List.mem_of_getElem? (i := 977) (by decide +kernel), List.mem_of_getElem? (i := 1418) (by decide +kernel), List.mem_of_getElem? (i := 1419) (by decide +kernel)⟩
theorem lw_p79 : lw_okq (⟨"GrainBinsModel", "laysFrom", "(II)V"⟩, 38) := ⟨⟨by decide +kernel, by decide +kernel⟩, List.mem_of_getElem? (i := 977) (by decide +kernel), List.mem_of_getElem? (i := 1422) (by decide +kernel), List.mem_of_getElem? (i := 1423) (by decide +kernel)⟩
def lw_privs_5 : List (MethodName × Nat) := [(⟨"GrainBinsModel", "comes", "(I)I"⟩, 38), (⟨"GrainBinsModel", "putsBack", "()V"⟩, 38), (⟨"GrainBinsModel", "fumigates", "(II)V"⟩, 38), (⟨"GrainBinsModel", "readsList", "()V"⟩, 38), (⟨"GrainBinsModel", "findsServed", "()V"⟩, 38), (⟨"GrainBinsModel", "servesFrom", "(I)V"⟩, 38), (⟨"GrainBinsModel", "findsRow", "(I)V"⟩, 38), (⟨"GrainBinsModel", "laysDown", "(I)V"⟩, 38), (⟨"GrainBinsModel", "canServe", "(II)Z"⟩, 38), (⟨"GrainBinsModel", "lowest", "(II)I"⟩, 38), (⟨"GrainBinsModel", "takesUp", "(I)V"⟩, 38), (⟨"GrainBinsModel", "allNow", "()I"⟩, 38), (⟨"GrainBinsModel", "allOn", "(I)I"⟩, 38), (⟨"GrainBinsModel", "more", "(III)I"⟩, 38), (⟨"GrainBinsModel", "findsWays", "()V"⟩, 38), (⟨"GrainBinsModel", "laysFrom", "(II)V"⟩, 38)]
theorem lw_r5 : ∀ q ∈ lw_privs_5, lw_okq q := List.forall_mem_cons.mpr ⟨lw_p64, List.forall_mem_cons.mpr ⟨lw_p65, List.forall_mem_cons.mpr ⟨lw_p66, List.forall_mem_cons.mpr ⟨lw_p67, List.forall_mem_cons.mpr ⟨lw_p68, List.forall_mem_cons.mpr ⟨lw_p69, List.forall_mem_cons.mpr ⟨lw_p70, List.forall_mem_cons.mpr ⟨lw_p71, List.forall_mem_cons.mpr ⟨lw_p72, List.forall_mem_cons.mpr ⟨lw_p73, List.forall_mem_cons.mpr ⟨lw_p74, List.forall_mem_cons.mpr ⟨lw_p75, List.forall_mem_cons.mpr ⟨lw_p76, List.forall_mem_cons.mpr ⟨lw_p77, List.forall_mem_cons.mpr ⟨lw_p78, List.forall_mem_cons.mpr ⟨lw_p79, fun _ h => absurd h List.not_mem_nil⟩⟩⟩⟩⟩⟩⟩⟩⟩⟩⟩⟩⟩⟩⟩⟩
theorem lw_p80 : lw_okq (⟨"GrainBinsModel", "below", "(III)I"⟩, 38) := ⟨⟨by decide +kernel, by decide +kernel⟩, List.mem_of_getElem? (i := 977) (by decide +kernel), List.mem_of_getElem? (i := 1453) (by decide +kernel), List.mem_of_getElem? (i := 1454) (by decide +kernel)⟩
theorem lw_p81 : lw_okq (⟨"GrainBinsModel", "picksFrom", "(II)V"⟩, 38) := ⟨⟨by decide +kernel, by decide +kernel⟩, List.mem_of_getElem? (i := 977) (by decide +kernel), List.mem_of_getElem? (i := 1465) (by decide +kernel), List.mem_of_getElem? (i := 1466) (by decide +kernel)⟩
theorem lw_p82 : lw_okq (⟨"GrainBinsModel", "mixedOfOthers", "(I)I"⟩, 38) := ⟨⟨by decide +kernel, by decide +kernel⟩, List.mem_of_getElem? (i := 977) (by decide +kernel), List.mem_of_getElem? (i := 1473) (by decide +kernel), List.mem_of_getElem? (i := 1474) (by decide +kernel)⟩
theorem lw_p83 : lw_okq (⟨"GrainBinsModel", "emptiesFrom", "(III)V"⟩, 38) := ⟨⟨by decide +kernel, by decide +kernel⟩, List.mem_of_getElem? (i := 977) (by decide +kernel), List.mem_of_getElem? (i := 1477) (by decide +kernel), List.mem_of_getElem? (i := 1478) (by decide +kernel)⟩
theorem lw_p84 : lw_okq (⟨"GrainBinsModel", "writesSign", "(I)V"⟩, 38) := ⟨⟨by decide +kernel, by decide +kernel⟩, List.mem_of_getElem? (i := 977) (by decide +kernel), List.mem_of_getElem? (i := 1513) (by decide +kernel), List.mem_of_getElem? (i := 1514) (by decide +kernel)⟩
theorem lw_p85 : lw_okq (⟨"GrainBinsModel", "writesNumber", "(I)V"⟩, 38) := ⟨⟨by decide +kernel, by decide +kernel⟩, List.mem_of_getElem? (i := 977) (by decide +kernel), List.mem_of_getElem? (i := 1517) (by decide +kernel), List.mem_of_getElem? (i := 1518) (by decide +kernel)⟩
theorem lw_p86 : lw_okq (⟨"GrainBinsModel", "lost", "()I"⟩, 38) := ⟨⟨by decide +kernel, by decide +kernel⟩, List.mem_of_getElem? (i := 977) (by decide +kernel), List.mem_of_getElem? (i := 1529) (by decide +kernel), List.mem_of_getElem? (i := 1530) (by decide +kernel)⟩
def lw_privs_6 : List (MethodName × Nat) := [(⟨"GrainBinsModel", "below", "(III)I"⟩, 38), (⟨"GrainBinsModel", "picksFrom", "(II)V"⟩, 38), (⟨"GrainBinsModel", "mixedOfOthers", "(I)I"⟩, 38), (⟨"GrainBinsModel", "emptiesFrom", "(III)V"⟩, 38), (⟨"GrainBinsModel", "writesSign", "(I)V"⟩, 38), (⟨"GrainBinsModel", "writesNumber", "(I)V"⟩, 38), (⟨"GrainBinsModel", "lost", "()I"⟩, 38)]
theorem lw_r6 : ∀ q ∈ lw_privs_6, lw_okq q := List.forall_mem_cons.mpr ⟨lw_p80, List.forall_mem_cons.mpr ⟨lw_p81, List.forall_mem_cons.mpr ⟨lw_p82, List.forall_mem_cons.mpr ⟨lw_p83, List.forall_mem_cons.mpr ⟨lw_p84, List.forall_mem_cons.mpr ⟨lw_p85, List.forall_mem_cons.mpr ⟨lw_p86, fun _ h => absurd h List.not_mem_nil⟩⟩⟩⟩⟩⟩⟩
def lw_privs : List (MethodName × Nat) := lw_privs_1 ++ (lw_privs_2 ++ (lw_privs_3 ++ (lw_privs_4 ++ (lw_privs_5 ++ (lw_privs_6)))))
def lw_tbl : List Cond := k2_sels lw_privs ++ tables_1
theorem lw_privs_ok : ∀ q ∈ lw_privs, lw_okq q := by
  show ∀ q ∈ lw_privs_1 ++ (lw_privs_2 ++ (lw_privs_3 ++ (lw_privs_4 ++ (lw_privs_5 ++ (lw_privs_6))))), lw_okq q
  exact List.forall_mem_append.mpr ⟨lw_r1, List.forall_mem_append.mpr ⟨lw_r2, List.forall_mem_append.mpr ⟨lw_r3, List.forall_mem_append.mpr ⟨lw_r4, List.forall_mem_append.mpr ⟨lw_r5, lw_r6⟩⟩⟩⟩⟩

theorem goodIn_r {big : List Cond} (ws : List Cond) (ps : List Nat) (hp : ws = ps.filterMap (fun i => big[i]?)) (h : ws.all goodWord = true) : GoodIn big ws := by
  intro w hw
  have h1 := List.all_eq_true.mp h w hw
  rw [hp] at hw
  obtain ⟨i, -, hi⟩ := List.mem_filterMap.mp hw
  have hm : w ∈ big := by first | exact List.mem_of_getElem? hi | exact List.getElem?_mem hi
  exact ⟨hm, good_of_word h1⟩
theorem goodIn_app {big a b : List Cond} (ha : GoodIn big a) (hb : GoodIn big b) : GoodIn big (a ++ b) := fun w h => (List.mem_append.mp h).elim (ha w) (hb w)
theorem goodIn_ca {big a b : List Cond} {c : Cond} (ha : GoodIn big (c :: a)) (hb : GoodIn big b) : GoodIn big (c :: (a ++ b)) := fun w h => (List.mem_cons.mp h).elim (fun e => ha w (List.mem_cons.mpr (Or.inl e))) (fun h => (List.mem_append.mp h).elim (fun h => ha w (List.mem_cons.mpr (Or.inr h))) (hb w))
theorem goodIn_sub {big ws : List Cond} (hm : ∀ w ∈ ws, w ∈ big) (h : ws.all goodWord = true) : GoodIn big ws := fun w hw => ⟨hm w hw, good_of_word (List.all_eq_true.mp h w hw)⟩
def RX0 : String := "GrainBins$Drawing"
def TX0 : u_T := fun k => match k with
  | 0 => ("GrainBins$Drawing", "store", "LGrainBins$Store;", true)
  | 1 => ("GrainBins$Drawing", "orders", "LGrainBins$Orders;", true)
  | 2 => ("GrainBins$Drawing", "gone", "[I", true)
  | 3 => ("GrainBins$Drawing", "way", "[I", true)
  | 4 => ("GrainBins$Drawing", "bestWay", "[I", true)
  | _ => ("GrainBins$Drawing", "most", "I", false)
def tyX0 : Nat → FieldType := fun k => match k with
  | 0 => .object "GrainBins$Store"
  | 1 => .object "GrainBins$Orders"
  | 2 => .array .int
  | 3 => .array .int
  | 4 => .array .int
  | _ => .int
abbrev wsX00 : List Cond := u_ws RX0 TX0 6
theorem nmX0 : ∀ a, a < 6 → ∀ b, b < 6 → a ≠ b → (TX0 a).2.1 ≠ (TX0 b).2.1 := by decide +kernel
theorem tyX0_ok : ∀ k, k < 6 → parseFieldDescriptor (TX0 k).2.2.1 = some (tyX0 k) := by decide +kernel
abbrev cX0_init : ByteArray := prog_2_method_1_code
def yX0_init : MethodName := ⟨RX0, "<init>", "(LGrainBins$Store;LGrainBins$Orders;)V"⟩
abbrev cX0_serve : ByteArray := prog_2_method_2_code
def yX0_serve : MethodName := ⟨RX0, "serve", "()I"⟩
abbrev cX0_pick : ByteArray := prog_2_method_3_code
def yX0_pick : MethodName := ⟨RX0, "pick", "()I"⟩
abbrev cX0_canDraw : ByteArray := prog_2_method_4_code
def yX0_canDraw : MethodName := ⟨RX0, "canDraw", "(II)Z"⟩
abbrev cX0_takeWay : ByteArray := prog_2_method_5_code
def yX0_takeWay : MethodName := ⟨RX0, "takeWay", "(I)V"⟩
abbrev cX0_serveFrom : ByteArray := prog_2_method_6_code
def yX0_serveFrom : MethodName := ⟨RX0, "serveFrom", "(LGrainBins$Drawing;I)V"⟩
abbrev cX0_pickFrom : ByteArray := prog_2_method_7_code
def yX0_pickFrom : MethodName := ⟨RX0, "pickFrom", "(LGrainBins$Drawing;II)V"⟩
def RX1 : String := "GrainBins$Laying"
def TX1 : u_T := fun k => match k with
  | 0 => ("GrainBins$Laying", "thought", "LGrainBins$Store;", true)
  | 1 => ("GrainBins$Laying", "loads", "LGrainBins$Orders;", true)
  | 2 => ("GrainBins$Laying", "way", "[I", true)
  | 3 => ("GrainBins$Laying", "bestWay", "[I", true)
  | 4 => ("GrainBins$Laying", "skip", "I", false)
  | 5 => ("GrainBins$Laying", "least", "I", false)
  | _ => ("GrainBins$Laying", "bits", "I", false)
def tyX1 : Nat → FieldType := fun k => match k with
  | 0 => .object "GrainBins$Store"
  | 1 => .object "GrainBins$Orders"
  | 2 => .array .int
  | 3 => .array .int
  | 4 => .int
  | 5 => .int
  | _ => .int
abbrev wsX10 : List Cond := u_ws RX1 TX1 7
theorem nmX1 : ∀ a, a < 7 → ∀ b, b < 7 → a ≠ b → (TX1 a).2.1 ≠ (TX1 b).2.1 := by decide +kernel
theorem tyX1_ok : ∀ k, k < 7 → parseFieldDescriptor (TX1 k).2.2.1 = some (tyX1 k) := by decide +kernel
abbrev cX1_init : ByteArray := prog_3_method_1_code
def yX1_init : MethodName := ⟨RX1, "<init>", "(LGrainBins$Rules;LGrainBins$Orders;)V"⟩
abbrev cX1_leastGrowth : ByteArray := prog_3_method_2_code
def yX1_leastGrowth : MethodName := ⟨RX1, "leastGrowth", "(LGrainBins$Store;I)I"⟩
abbrev cX1_fewestBins : ByteArray := prog_3_method_3_code
def yX1_fewestBins : MethodName := ⟨RX1, "fewestBins", "(LGrainBins$Store;)I"⟩
abbrev cX1_start : ByteArray := prog_3_method_4_code
def yX1_start : MethodName := ⟨RX1, "start", "(LGrainBins$Store;I)V"⟩
abbrev cX1_mightLie : ByteArray := prog_3_method_5_code
def yX1_mightLie : MethodName := ⟨RX1, "mightLie", "()Z"⟩
abbrev cX1_mayLie : ByteArray := prog_3_method_6_code
def yX1_mayLie : MethodName := ⟨RX1, "mayLie", "(II)Z"⟩
abbrev cX1_lay : ByteArray := prog_3_method_7_code
def yX1_lay : MethodName := ⟨RX1, "lay", "(II)V"⟩
abbrev cX1_takeWay : ByteArray := prog_3_method_8_code
def yX1_takeWay : MethodName := ⟨RX1, "takeWay", "()V"⟩
abbrev cX1_layCheapest : ByteArray := prog_3_method_9_code
def yX1_layCheapest : MethodName := ⟨RX1, "layCheapest", "(LGrainBins$Laying;II)V"⟩
abbrev cX1_layFewest : ByteArray := prog_3_method_10_code
def yX1_layFewest : MethodName := ⟨RX1, "layFewest", "(LGrainBins$Laying;II)V"⟩
abbrev cX1_isFewer : ByteArray := prog_3_method_11_code
def yX1_isFewer : MethodName := ⟨RX1, "isFewer", "(I)Z"⟩
def RX2 : String := "GrainBins$Orders"
def TX2 : u_T := fun k => match k with
  | 0 => ("GrainBins$Orders", "grade", "[I", true)
  | 1 => ("GrainBins$Orders", "tons", "[I", true)
  | 2 => ("GrainBins$Orders", "since", "[I", true)
  | _ => ("GrainBins$Orders", "count", "I", false)
def tyX2 : Nat → FieldType := fun k => match k with
  | 0 => .array .int
  | 1 => .array .int
  | 2 => .array .int
  | _ => .int
abbrev wsX20 : List Cond := u_ws RX2 TX2 4
theorem nmX2 : ∀ a, a < 4 → ∀ b, b < 4 → a ≠ b → (TX2 a).2.1 ≠ (TX2 b).2.1 := by decide +kernel
theorem tyX2_ok : ∀ k, k < 4 → parseFieldDescriptor (TX2 k).2.2.1 = some (tyX2 k) := by decide +kernel
abbrev cX2_init : ByteArray := prog_4_method_1_code
def yX2_init : MethodName := ⟨RX2, "<init>", "()V"⟩
abbrev cX2_read : ByteArray := prog_4_method_2_code
def yX2_read : MethodName := ⟨RX2, "read", "(LGrainBins$Text;)I"⟩
abbrev cX2_readOne : ByteArray := prog_4_method_3_code
def yX2_readOne : MethodName := ⟨RX2, "readOne", "(LGrainBins$Text;I)Z"⟩
abbrev cX2_comeOn : ByteArray := prog_4_method_4_code
def yX2_comeOn : MethodName := ⟨RX2, "comeOn", "(I)V"⟩
abbrev cX2_takeLayers : ByteArray := prog_4_method_5_code
def yX2_takeLayers : MethodName := ⟨RX2, "takeLayers", "(LGrainBins$Store;I)V"⟩
def RX3 : String := "GrainBins$Past"
def TX3 : u_T := fun k => match k with
  | 0 => ("GrainBins$Past", "ahead", "[LGrainBins$Store;", true)
  | 1 => ("GrainBins$Past", "next", "I", false)
  | _ => ("GrainBins$Past", "count", "I", false)
def tyX3 : Nat → FieldType := fun k => match k with
  | 0 => .array (.object "GrainBins$Store")
  | 1 => .int
  | _ => .int
abbrev wsX30 : List Cond := u_ws RX3 TX3 3
theorem nmX3 : ∀ a, a < 3 → ∀ b, b < 3 → a ≠ b → (TX3 a).2.1 ≠ (TX3 b).2.1 := by decide +kernel
theorem tyX3_ok : ∀ k, k < 3 → parseFieldDescriptor (TX3 k).2.2.1 = some (tyX3 k) := by decide +kernel
abbrev cX3_init : ByteArray := prog_5_method_1_code
def yX3_init : MethodName := ⟨RX3, "<init>", "(LGrainBins$Rules;)V"⟩
abbrev cX3_clear : ByteArray := prog_5_method_2_code
def yX3_clear : MethodName := ⟨RX3, "clear", "()V"⟩
abbrev cX3_add : ByteArray := prog_5_method_3_code
def yX3_add : MethodName := ⟨RX3, "add", "(LGrainBins$Store;)V"⟩
abbrev cX3_takeBack : ByteArray := prog_5_method_4_code
def yX3_takeBack : MethodName := ⟨RX3, "takeBack", "(LGrainBins$Store;)Z"⟩
def RX4 : String := "GrainBins$Row"
def TX4 : u_T := fun k => match k with
  | 0 => ("GrainBins$Row", "at", "[J", true)
  | _ => ("GrainBins$Row", "count", "I", false)
def tyX4 : Nat → FieldType := fun k => match k with
  | 0 => .array .long
  | _ => .int
abbrev wsX40 : List Cond := u_ws RX4 TX4 2
theorem nmX4 : ∀ a, a < 2 → ∀ b, b < 2 → a ≠ b → (TX4 a).2.1 ≠ (TX4 b).2.1 := by decide +kernel
theorem tyX4_ok : ∀ k, k < 2 → parseFieldDescriptor (TX4 k).2.2.1 = some (tyX4 k) := by decide +kernel
abbrev cX4_init : ByteArray := prog_6_method_1_code
def yX4_init : MethodName := ⟨RX4, "<init>", "()V"⟩
abbrev cX4_start : ByteArray := prog_6_method_2_code
def yX4_start : MethodName := ⟨RX4, "start", "()V"⟩
abbrev cX4_add : ByteArray := prog_6_method_3_code
def yX4_add : MethodName := ⟨RX4, "add", "(J)V"⟩
def RX5 : String := "GrainBins$Rules"
def TX5 : u_T := fun k => match k with
  | 0 => ("GrainBins$Rules", "firstWorth", "[I", true)
  | 1 => ("GrainBins$Rules", "keep", "[I", true)
  | 2 => ("GrainBins$Rules", "cap", "[I", true)
  | 3 => ("GrainBins$Rules", "loss", "[I", true)
  | 4 => ("GrainBins$Rules", "apart", "[I", true)
  | 5 => ("GrainBins$Rules", "toldWith", "[I", true)
  | 6 => ("GrainBins$Rules", "toldGrades", "I", false)
  | _ => ("GrainBins$Rules", "toldBins", "I", false)
def tyX5 : Nat → FieldType := fun k => match k with
  | 0 => .array .int
  | 1 => .array .int
  | 2 => .array .int
  | 3 => .array .int
  | 4 => .array .int
  | 5 => .array .int
  | 6 => .int
  | _ => .int
abbrev wsX50 : List Cond := u_ws RX5 TX5 8
theorem nmX5 : ∀ a, a < 8 → ∀ b, b < 8 → a ≠ b → (TX5 a).2.1 ≠ (TX5 b).2.1 := by decide +kernel
theorem tyX5_ok : ∀ k, k < 8 → parseFieldDescriptor (TX5 k).2.2.1 = some (tyX5 k) := by decide +kernel
abbrev cX5_init : ByteArray := prog_7_method_1_code
def yX5_init : MethodName := ⟨RX5, "<init>", "()V"⟩
abbrev cX5_copy : ByteArray := prog_7_method_2_code
def yX5_copy : MethodName := ⟨RX5, "copy", "(LGrainBins$Rules;)V"⟩
abbrev cX5_may : ByteArray := prog_7_method_3_code
def yX5_may : MethodName := ⟨RX5, "may", "(II)Z"⟩
abbrev cX5_lossOf : ByteArray := prog_7_method_4_code
def yX5_lossOf : MethodName := ⟨RX5, "lossOf", "(II)I"⟩
abbrev cX5_read : ByteArray := prog_7_method_5_code
def yX5_read : MethodName := ⟨RX5, "read", "(LGrainBins$Text;)I"⟩
abbrev cX5_clear : ByteArray := prog_7_method_6_code
def yX5_clear : MethodName := ⟨RX5, "clear", "()V"⟩
abbrev cX5_readLine : ByteArray := prog_7_method_7_code
def yX5_readLine : MethodName := ⟨RX5, "readLine", "(LGrainBins$Text;)Z"⟩
abbrev cX5_readGrade : ByteArray := prog_7_method_8_code
def yX5_readGrade : MethodName := ⟨RX5, "readGrade", "(LGrainBins$Text;)Z"⟩
abbrev cX5_readBin : ByteArray := prog_7_method_9_code
def yX5_readBin : MethodName := ⟨RX5, "readBin", "(LGrainBins$Text;)Z"⟩
abbrev cX5_readPair : ByteArray := prog_7_method_10_code
def yX5_readPair : MethodName := ⟨RX5, "readPair", "(LGrainBins$Text;Z)Z"⟩
def RX6 : String := "GrainBins$Script"
def TX6 : u_T := fun k => match k with
  | 0 => ("GrainBins$Script", "signs", "[I", true)
  | _ => ("GrainBins$Script", "length", "I", false)
def tyX6 : Nat → FieldType := fun k => match k with
  | 0 => .array .int
  | _ => .int
abbrev wsX60 : List Cond := u_ws RX6 TX6 2
theorem nmX6 : ∀ a, a < 2 → ∀ b, b < 2 → a ≠ b → (TX6 a).2.1 ≠ (TX6 b).2.1 := by decide +kernel
theorem tyX6_ok : ∀ k, k < 2 → parseFieldDescriptor (TX6 k).2.2.1 = some (tyX6 k) := by decide +kernel
abbrev cX6_init : ByteArray := prog_8_method_1_code
def yX6_init : MethodName := ⟨RX6, "<init>", "()V"⟩
abbrev cX6_signAt : ByteArray := prog_8_method_2_code
def yX6_signAt : MethodName := ⟨RX6, "signAt", "(I)I"⟩
abbrev cX6_write : ByteArray := prog_8_method_3_code
def yX6_write : MethodName := ⟨RX6, "write", "(LGrainBins$Store;)V"⟩
abbrev cX6_writeBin : ByteArray := prog_8_method_4_code
def yX6_writeBin : MethodName := ⟨RX6, "writeBin", "(LGrainBins$Store;I)V"⟩
abbrev cX6_writeTons : ByteArray := prog_8_method_5_code
def yX6_writeTons : MethodName := ⟨RX6, "writeTons", "(I)V"⟩
abbrev cX6_add : ByteArray := prog_8_method_6_code
def yX6_add : MethodName := ⟨RX6, "add", "(I)V"⟩
def RX7 : String := "GrainBins$Store"
def TX7 : u_T := fun k => match k with
  | 0 => ("GrainBins$Store", "rules", "LGrainBins$Rules;", true)
  | 1 => ("GrainBins$Store", "worth", "[I", true)
  | 2 => ("GrainBins$Store", "open", "[I", true)
  | 3 => ("GrainBins$Store", "layers", "[I", true)
  | 4 => ("GrainBins$Store", "total", "[I", true)
  | 5 => ("GrainBins$Store", "grade", "[I", true)
  | 6 => ("GrainBins$Store", "tons", "[I", true)
  | 7 => ("GrainBins$Store", "since", "[I", true)
  | 8 => ("GrainBins$Store", "has", "[I", true)
  | 9 => ("GrainBins$Store", "day", "I", false)
  | _ => ("GrainBins$Store", "drawn", "I", false)
def tyX7 : Nat → FieldType := fun k => match k with
  | 0 => .object "GrainBins$Rules"
  | 1 => .array .int
  | 2 => .array .int
  | 3 => .array .int
  | 4 => .array .int
  | 5 => .array .int
  | 6 => .array .int
  | 7 => .array .int
  | 8 => .array .int
  | 9 => .int
  | _ => .int
abbrev wsX70 : List Cond := u_ws RX7 TX7 11
theorem nmX7 : ∀ a, a < 11 → ∀ b, b < 11 → a ≠ b → (TX7 a).2.1 ≠ (TX7 b).2.1 := by decide +kernel
theorem tyX7_ok : ∀ k, k < 11 → parseFieldDescriptor (TX7 k).2.2.1 = some (tyX7 k) := by decide +kernel
abbrev cX7_init : ByteArray := prog_9_method_1_code
def yX7_init : MethodName := ⟨RX7, "<init>", "(LGrainBins$Rules;)V"⟩
abbrev cX7_place : ByteArray := prog_9_method_2_code
def yX7_place : MethodName := ⟨RX7, "place", "(II)I"⟩
abbrev cX7_copy : ByteArray := prog_9_method_3_code
def yX7_copy : MethodName := ⟨RX7, "copy", "(LGrainBins$Store;)V"⟩
abbrev cX7_copyBin : ByteArray := prog_9_method_4_code
def yX7_copyBin : MethodName := ⟨RX7, "copyBin", "(LGrainBins$Store;I)V"⟩
abbrev cX7_clear : ByteArray := prog_9_method_5_code
def yX7_clear : MethodName := ⟨RX7, "clear", "()V"⟩
abbrev cX7_closed : ByteArray := prog_9_method_6_code
def yX7_closed : MethodName := ⟨RX7, "closed", "(I)Z"⟩
abbrev cX7_gradesIn : ByteArray := prog_9_method_7_code
def yX7_gradesIn : MethodName := ⟨RX7, "gradesIn", "(I)I"⟩
abbrev cX7_tonsOf : ByteArray := prog_9_method_8_code
def yX7_tonsOf : MethodName := ⟨RX7, "tonsOf", "(I)I"⟩
abbrev cX7_tonsInAll : ByteArray := prog_9_method_9_code
def yX7_tonsInAll : MethodName := ⟨RX7, "tonsInAll", "()I"⟩
abbrev cX7_layersInAll : ByteArray := prog_9_method_10_code
def yX7_layersInAll : MethodName := ⟨RX7, "layersInAll", "()I"⟩
abbrev cX7_closedBins : ByteArray := prog_9_method_11_code
def yX7_closedBins : MethodName := ⟨RX7, "closedBins", "()I"⟩
abbrev cX7_emptyBins : ByteArray := prog_9_method_12_code
def yX7_emptyBins : MethodName := ⟨RX7, "emptyBins", "()I"⟩
abbrev cX7_why : ByteArray := prog_9_method_13_code
def yX7_why : MethodName := ⟨RX7, "why", "(IIII)I"⟩
abbrev cX7_onTop : ByteArray := prog_9_method_14_code
def yX7_onTop : MethodName := ⟨RX7, "onTop", "(III)Z"⟩
abbrev cX7_lay : ByteArray := prog_9_method_15_code
def yX7_lay : MethodName := ⟨RX7, "lay", "(IIII)V"⟩
abbrev cX7_unlay : ByteArray := prog_9_method_16_code
def yX7_unlay : MethodName := ⟨RX7, "unlay", "(II)V"⟩
abbrev cX7_partBelow : ByteArray := prog_9_method_17_code
def yX7_partBelow : MethodName := ⟨RX7, "partBelow", "(III)I"⟩
abbrev cX7_tonsUnder : ByteArray := prog_9_method_18_code
def yX7_tonsUnder : MethodName := ⟨RX7, "tonsUnder", "(II)I"⟩
abbrev cX7_tonsBelow : ByteArray := prog_9_method_19_code
def yX7_tonsBelow : MethodName := ⟨RX7, "tonsBelow", "(III)I"⟩
abbrev cX7_drawOut : ByteArray := prog_9_method_20_code
def yX7_drawOut : MethodName := ⟨RX7, "drawOut", "(II)I"⟩
abbrev cX7_take : ByteArray := prog_9_method_21_code
def yX7_take : MethodName := ⟨RX7, "take", "(II)V"⟩
abbrev cX7_whyNotMove : ByteArray := prog_9_method_22_code
def yX7_whyNotMove : MethodName := ⟨RX7, "whyNotMove", "(III)I"⟩
abbrev cX7_layersWith : ByteArray := prog_9_method_23_code
def yX7_layersWith : MethodName := ⟨RX7, "layersWith", "(III)I"⟩
abbrev cX7_shift : ByteArray := prog_9_method_24_code
def yX7_shift : MethodName := ⟨RX7, "shift", "(III)V"⟩
abbrev cX7_turnOver : ByteArray := prog_9_method_25_code
def yX7_turnOver : MethodName := ⟨RX7, "turnOver", "(I)V"⟩
abbrev cX7_swap : ByteArray := prog_9_method_26_code
def yX7_swap : MethodName := ⟨RX7, "swap", "(II)V"⟩
abbrev cX7_fumigate : ByteArray := prog_9_method_27_code
def yX7_fumigate : MethodName := ⟨RX7, "fumigate", "(II)V"⟩
abbrev cX7_join : ByteArray := prog_9_method_28_code
def yX7_join : MethodName := ⟨RX7, "join", "(I)V"⟩
abbrev cX7_unit : ByteArray := prog_9_method_29_code
def yX7_unit : MethodName := ⟨RX7, "unit", "(II)I"⟩
abbrev cX7_raw : ByteArray := prog_9_method_30_code
def yX7_raw : MethodName := ⟨RX7, "raw", "(II)I"⟩
abbrev cX7_rawUnspoilt : ByteArray := prog_9_method_31_code
def yX7_rawUnspoilt : MethodName := ⟨RX7, "rawUnspoilt", "(I)I"⟩
abbrev cX7_mixedOf : ByteArray := prog_9_method_32_code
def yX7_mixedOf : MethodName := ⟨RX7, "mixedOf", "(III)I"⟩
abbrev cX7_mixedIn : ByteArray := prog_9_method_33_code
def yX7_mixedIn : MethodName := ⟨RX7, "mixedIn", "(I)I"⟩
abbrev cX7_valueOf : ByteArray := prog_9_method_34_code
def yX7_valueOf : MethodName := ⟨RX7, "valueOf", "(I)I"⟩
abbrev cX7_valueThen : ByteArray := prog_9_method_35_code
def yX7_valueThen : MethodName := ⟨RX7, "valueThen", "(II)I"⟩
abbrev cX7_valueOfAll : ByteArray := prog_9_method_36_code
def yX7_valueOfAll : MethodName := ⟨RX7, "valueOfAll", "(I)I"⟩
abbrev cX7_worthOfAll : ByteArray := prog_9_method_37_code
def yX7_worthOfAll : MethodName := ⟨RX7, "worthOfAll", "(I)I"⟩
abbrev cX7_worthOfLoads : ByteArray := prog_9_method_38_code
def yX7_worthOfLoads : MethodName := ⟨RX7, "worthOfLoads", "(LGrainBins$Orders;)I"⟩
abbrev cX7_growth : ByteArray := prog_9_method_39_code
def yX7_growth : MethodName := ⟨RX7, "growth", "(III)I"⟩
abbrev cX7_gain : ByteArray := prog_9_method_40_code
def yX7_gain : MethodName := ⟨RX7, "gain", "(III)I"⟩
abbrev cX7_runEnd : ByteArray := prog_9_method_41_code
def yX7_runEnd : MethodName := ⟨RX7, "runEnd", "(II)I"⟩
abbrev cX7_aheadOf : ByteArray := prog_9_method_42_code
def yX7_aheadOf : MethodName := ⟨RX7, "aheadOf", "(III)I"⟩
abbrev cX7_spoilt : ByteArray := prog_9_method_43_code
def yX7_spoilt : MethodName := ⟨RX7, "spoilt", "(II)Z"⟩
abbrev cX7_spoiltGrades : ByteArray := prog_9_method_44_code
def yX7_spoiltGrades : MethodName := ⟨RX7, "spoiltGrades", "(I)I"⟩
abbrev cX7_spoiltTons : ByteArray := prog_9_method_45_code
def yX7_spoiltTons : MethodName := ⟨RX7, "spoiltTons", "(I)I"⟩
abbrev cX7_cureOf : ByteArray := prog_9_method_46_code
def yX7_cureOf : MethodName := ⟨RX7, "cureOf", "(III)I"⟩
def RX8 : String := "GrainBins$Text"
def TX8 : u_T := fun k => match k with
  | 0 => ("GrainBins$Text", "signs", "[I", true)
  | 1 => ("GrainBins$Text", "length", "I", false)
  | _ => ("GrainBins$Text", "at", "I", false)
def tyX8 : Nat → FieldType := fun k => match k with
  | 0 => .array .int
  | 1 => .int
  | _ => .int
abbrev wsX80 : List Cond := u_ws RX8 TX8 3
theorem nmX8 : ∀ a, a < 3 → ∀ b, b < 3 → a ≠ b → (TX8 a).2.1 ≠ (TX8 b).2.1 := by decide +kernel
theorem tyX8_ok : ∀ k, k < 3 → parseFieldDescriptor (TX8 k).2.2.1 = some (tyX8 k) := by decide +kernel
abbrev cX8_init : ByteArray := prog_10_method_1_code
def yX8_init : MethodName := ⟨RX8, "<init>", "()V"⟩
abbrev cX8_add : ByteArray := prog_10_method_2_code
def yX8_add : MethodName := ⟨RX8, "add", "(I)Z"⟩
abbrev cX8_cut : ByteArray := prog_10_method_3_code
def yX8_cut : MethodName := ⟨RX8, "cut", "(I)Z"⟩
abbrev cX8_clear : ByteArray := prog_10_method_4_code
def yX8_clear : MethodName := ⟨RX8, "clear", "()V"⟩
abbrev cX8_start : ByteArray := prog_10_method_5_code
def yX8_start : MethodName := ⟨RX8, "start", "()V"⟩
abbrev cX8_ended : ByteArray := prog_10_method_6_code
def yX8_ended : MethodName := ⟨RX8, "ended", "()Z"⟩
abbrev cX8_fault : ByteArray := prog_10_method_7_code
def yX8_fault : MethodName := ⟨RX8, "fault", "()I"⟩
abbrev cX8_takes : ByteArray := prog_10_method_8_code
def yX8_takes : MethodName := ⟨RX8, "takes", "(C)Z"⟩
abbrev cX8_newNumber : ByteArray := prog_10_method_9_code
def yX8_newNumber : MethodName := ⟨RX8, "newNumber", "(I)I"⟩
abbrev cX8_number : ByteArray := prog_10_method_10_code
def yX8_number : MethodName := ⟨RX8, "number", "(II)I"⟩
abbrev cX8_digitFits : ByteArray := prog_10_method_11_code
def yX8_digitFits : MethodName := ⟨RX8, "digitFits", "(II)Z"⟩
def RX9 : String := "GrainBins"
def TX9 : u_T := fun k => match k with
  | 0 => ("GrainBins", "text", "LGrainBins$Text;", true)
  | 1 => ("GrainBins", "rules", "LGrainBins$Rules;", true)
  | 2 => ("GrainBins", "told", "LGrainBins$Rules;", true)
  | 3 => ("GrainBins", "now", "LGrainBins$Store;", true)
  | 4 => ("GrainBins", "kept", "LGrainBins$Store;", true)
  | 5 => ("GrainBins", "somethingKept", "Z", false)
  | 6 => ("GrainBins", "past", "LGrainBins$Past;", true)
  | 7 => ("GrainBins", "numbers", "LGrainBins$Row;", true)
  | 8 => ("GrainBins", "orders", "LGrainBins$Orders;", true)
  | 9 => ("GrainBins", "laying", "LGrainBins$Laying;", true)
  | 10 => ("GrainBins", "drawing", "LGrainBins$Drawing;", true)
  | _ => ("GrainBins", "script", "LGrainBins$Script;", true)
def tyX9 : Nat → FieldType := fun k => match k with
  | 0 => .object "GrainBins$Text"
  | 1 => .object "GrainBins$Rules"
  | 2 => .object "GrainBins$Rules"
  | 3 => .object "GrainBins$Store"
  | 4 => .object "GrainBins$Store"
  | 5 => .boolean
  | 6 => .object "GrainBins$Past"
  | 7 => .object "GrainBins$Row"
  | 8 => .object "GrainBins$Orders"
  | 9 => .object "GrainBins$Laying"
  | 10 => .object "GrainBins$Drawing"
  | _ => .object "GrainBins$Script"
abbrev wsX90 : List Cond := u_ws RX9 TX9 12
theorem nmX9 : ∀ a, a < 12 → ∀ b, b < 12 → a ≠ b → (TX9 a).2.1 ≠ (TX9 b).2.1 := by decide +kernel
theorem tyX9_ok : ∀ k, k < 12 → parseFieldDescriptor (TX9 k).2.2.1 = some (tyX9 k) := by decide +kernel
abbrev cX9_init : ByteArray := prog_1_method_1_code
def yX9_init : MethodName := ⟨RX9, "<init>", "()V"⟩
abbrev cX9_sign : ByteArray := prog_1_method_2_code
def yX9_sign : MethodName := ⟨RX9, "sign", "(I)I"⟩
abbrev cX9_end : ByteArray := prog_1_method_3_code
def yX9_end : MethodName := ⟨RX9, "end", "(I)Z"⟩
abbrev cX9_land : ByteArray := prog_1_method_4_code
def yX9_land : MethodName := ⟨RX9, "land", "()I"⟩
abbrev cX9_grade : ByteArray := prog_1_method_5_code
def yX9_grade : MethodName := ⟨RX9, "grade", "(II)I"⟩
abbrev cX9_pair : ByteArray := prog_1_method_6_code
def yX9_pair : MethodName := ⟨RX9, "pair", "(II)I"⟩
abbrev cX9_bin : ByteArray := prog_1_method_7_code
def yX9_bin : MethodName := ⟨RX9, "bin", "(II)I"⟩
abbrev cX9_layer : ByteArray := prog_1_method_8_code
def yX9_layer : MethodName := ⟨RX9, "layer", "(III)I"⟩
abbrev cX9_load : ByteArray := prog_1_method_9_code
def yX9_load : MethodName := ⟨RX9, "load", "(III)I"⟩
abbrev cX9_draw : ByteArray := prog_1_method_10_code
def yX9_draw : MethodName := ⟨RX9, "draw", "(II)I"⟩
abbrev cX9_move : ByteArray := prog_1_method_11_code
def yX9_move : MethodName := ⟨RX9, "move", "(III)I"⟩
abbrev cX9_turn : ByteArray := prog_1_method_12_code
def yX9_turn : MethodName := ⟨RX9, "turn", "(I)I"⟩
abbrev cX9_fumes : ByteArray := prog_1_method_13_code
def yX9_fumes : MethodName := ⟨RX9, "fumes", "(II)I"⟩
abbrev cX9_days : ByteArray := prog_1_method_14_code
def yX9_days : MethodName := ⟨RX9, "days", "(I)I"⟩
abbrev cX9_price : ByteArray := prog_1_method_15_code
def yX9_price : MethodName := ⟨RX9, "price", "(II)I"⟩
abbrev cX9_sells : ByteArray := prog_1_method_16_code
def yX9_sells : MethodName := ⟨RX9, "sells", "()I"⟩
abbrev cX9_value : ByteArray := prog_1_method_17_code
def yX9_value : MethodName := ⟨RX9, "value", "(I)I"⟩
abbrev cX9_all : ByteArray := prog_1_method_18_code
def yX9_all : MethodName := ⟨RX9, "all", "()I"⟩
abbrev cX9_mixed : ByteArray := prog_1_method_19_code
def yX9_mixed : MethodName := ⟨RX9, "mixed", "(I)I"⟩
abbrev cX9_would : ByteArray := prog_1_method_20_code
def yX9_would : MethodName := ⟨RX9, "would", "(III)I"⟩
abbrev cX9_worst : ByteArray := prog_1_method_21_code
def yX9_worst : MethodName := ⟨RX9, "worst", "()I"⟩
abbrev cX9_dear : ByteArray := prog_1_method_22_code
def yX9_dear : MethodName := ⟨RX9, "dear", "()I"⟩
abbrev cX9_best : ByteArray := prog_1_method_23_code
def yX9_best : MethodName := ⟨RX9, "best", "(II)I"⟩
abbrev cX9_lays : ByteArray := prog_1_method_24_code
def yX9_lays : MethodName := ⟨RX9, "lays", "()I"⟩
abbrev cX9_few : ByteArray := prog_1_method_25_code
def yX9_few : MethodName := ⟨RX9, "few", "()I"⟩
abbrev cX9_room : ByteArray := prog_1_method_26_code
def yX9_room : MethodName := ⟨RX9, "room", "(I)I"⟩
abbrev cX9_takers : ByteArray := prog_1_method_27_code
def yX9_takers : MethodName := ⟨RX9, "takers", "(I)I"⟩
abbrev cX9_bottom : ByteArray := prog_1_method_28_code
def yX9_bottom : MethodName := ⟨RX9, "bottom", "(I)I"⟩
abbrev cX9_reaches : ByteArray := prog_1_method_29_code
def yX9_reaches : MethodName := ⟨RX9, "reaches", "(II)I"⟩
abbrev cX9_serves : ByteArray := prog_1_method_30_code
def yX9_serves : MethodName := ⟨RX9, "serves", "()I"⟩
abbrev cX9_picks : ByteArray := prog_1_method_31_code
def yX9_picks : MethodName := ⟨RX9, "picks", "()I"⟩
abbrev cX9_empties : ByteArray := prog_1_method_32_code
def yX9_empties : MethodName := ⟨RX9, "empties", "(I)I"⟩
abbrev cX9_then : ByteArray := prog_1_method_33_code
def yX9_then : MethodName := ⟨RX9, "then", "(I)I"⟩
abbrev cX9_falls : ByteArray := prog_1_method_34_code
def yX9_falls : MethodName := ⟨RX9, "falls", "(II)I"⟩
abbrev cX9_old : ByteArray := prog_1_method_35_code
def yX9_old : MethodName := ⟨RX9, "old", "()I"⟩
abbrev cX9_cures : ByteArray := prog_1_method_36_code
def yX9_cures : MethodName := ⟨RX9, "cures", "(II)I"⟩
abbrev cX9_undo : ByteArray := prog_1_method_37_code
def yX9_undo : MethodName := ⟨RX9, "undo", "()I"⟩
abbrev cX9_keeps : ByteArray := prog_1_method_38_code
def yX9_keeps : MethodName := ⟨RX9, "keeps", "()I"⟩
abbrev cX9_back : ByteArray := prog_1_method_39_code
def yX9_back : MethodName := ⟨RX9, "back", "()I"⟩
abbrev cX9_written : ByteArray := prog_1_method_40_code
def yX9_written : MethodName := ⟨RX9, "written", "(I)I"⟩
abbrev cX9_count : ByteArray := prog_1_method_41_code
def yX9_count : MethodName := ⟨RX9, "count", "(I)I"⟩
abbrev cX9_row : ByteArray := prog_1_method_42_code
def yX9_row : MethodName := ⟨RX9, "row", "(I)J"⟩
abbrev cX9_isGrade : ByteArray := prog_1_method_43_code
def yX9_isGrade : MethodName := ⟨RX9, "isGrade", "(I)Z"⟩
abbrev cX9_isBin : ByteArray := prog_1_method_44_code
def yX9_isBin : MethodName := ⟨RX9, "isBin", "(I)Z"⟩
abbrev cX9_isTons : ByteArray := prog_1_method_45_code
def yX9_isTons : MethodName := ⟨RX9, "isTons", "(I)Z"⟩
abbrev cX9_readOrders : ByteArray := prog_1_method_46_code
def yX9_readOrders : MethodName := ⟨RX9, "readOrders", "()I"⟩
def RX10 : String := "GrainBinsModel"
def TX10 : u_T := fun k => match k with
  | 0 => ("GrainBinsModel", "w", "[I", true)
  | 1 => ("GrainBinsModel", "aside", "[I", true)
  | 2 => ("GrainBinsModel", "kept", "[I", true)
  | 3 => ("GrainBinsModel", "isKept", "Z", false)
  | 4 => ("GrainBinsModel", "past", "[I", true)
  | 5 => ("GrainBinsModel", "pastMany", "I", false)
  | 6 => ("GrainBinsModel", "text", "[B", true)
  | 7 => ("GrainBinsModel", "typed", "I", false)
  | 8 => ("GrainBinsModel", "row", "[J", true)
  | 9 => ("GrainBinsModel", "rowMany", "I", false)
  | 10 => ("GrainBinsModel", "thrown", "I", false)
  | 11 => ("GrainBinsModel", "goneGrade", "[I", true)
  | 12 => ("GrainBinsModel", "goneTons", "[I", true)
  | 13 => ("GrainBinsModel", "goneSince", "[I", true)
  | 14 => ("GrainBinsModel", "goneMany", "I", false)
  | 15 => ("GrainBinsModel", "goneLeast", "I", false)
  | 16 => ("GrainBinsModel", "size", "I", false)
  | 17 => ("GrainBinsModel", "here", "I", false)
  | 18 => ("GrainBinsModel", "wrong", "I", false)
  | 19 => ("GrainBinsModel", "toldGrades", "I", false)
  | 20 => ("GrainBinsModel", "toldBins", "I", false)
  | 21 => ("GrainBinsModel", "toldPairs", "J", false)
  | 22 => ("GrainBinsModel", "read", "[I", true)
  | 23 => ("GrainBinsModel", "listGrade", "[I", true)
  | 24 => ("GrainBinsModel", "listTons", "[I", true)
  | 25 => ("GrainBinsModel", "listMany", "I", false)
  | 26 => ("GrainBinsModel", "tried", "[I", true)
  | 27 => ("GrainBinsModel", "found", "[I", true)
  | 28 => ("GrainBinsModel", "lay", "[I", true)
  | 29 => ("GrainBinsModel", "most", "I", false)
  | 30 => ("GrainBinsModel", "wouldThen", "I", false)
  | 31 => ("GrainBinsModel", "wouldMixed", "I", false)
  | 32 => ("GrainBinsModel", "isWay", "Z", false)
  | 33 => ("GrainBinsModel", "bestAll", "I", false)
  | 34 => ("GrainBinsModel", "bestSet", "I", false)
  | 35 => ("GrainBinsModel", "worthOf", "[J", true)
  | 36 => ("GrainBinsModel", "page", "[B", true)
  | _ => ("GrainBinsModel", "pageMany", "I", false)
def tyX10 : Nat → FieldType := fun k => match k with
  | 0 => .array .int
  | 1 => .array .int
  | 2 => .array .int
  | 3 => .boolean
  | 4 => .array .int
  | 5 => .int
  | 6 => .array .byte
  | 7 => .int
  | 8 => .array .long
  | 9 => .int
  | 10 => .int
  | 11 => .array .int
  | 12 => .array .int
  | 13 => .array .int
  | 14 => .int
  | 15 => .int
  | 16 => .int
  | 17 => .int
  | 18 => .int
  | 19 => .int
  | 20 => .int
  | 21 => .long
  | 22 => .array .int
  | 23 => .array .int
  | 24 => .array .int
  | 25 => .int
  | 26 => .array .int
  | 27 => .array .int
  | 28 => .array .int
  | 29 => .int
  | 30 => .int
  | 31 => .int
  | 32 => .boolean
  | 33 => .int
  | 34 => .int
  | 35 => .array .long
  | 36 => .array .byte
  | _ => .int
abbrev wsX100 : List Cond := u_ws RX10 TX10 38
theorem nmX10 : ∀ a, a < 38 → ∀ b, b < 38 → a ≠ b → (TX10 a).2.1 ≠ (TX10 b).2.1 := by decide +kernel
theorem tyX10_ok : ∀ k, k < 38 → parseFieldDescriptor (TX10 k).2.2.1 = some (tyX10 k) := by decide +kernel
abbrev cX10_init : ByteArray := prog_12_method_1_code
def yX10_init : MethodName := ⟨RX10, "<init>", "()V"⟩
abbrev cX10_begins : ByteArray := prog_12_method_2_code
def yX10_begins : MethodName := ⟨RX10, "begins", "()V"⟩
abbrev cX10_thrown : ByteArray := prog_12_method_3_code
def yX10_thrown : MethodName := ⟨RX10, "thrown", "()I"⟩
abbrev cX10_in : ByteArray := prog_12_method_4_code
def yX10_in : MethodName := ⟨RX10, "in", "(JJJ)Z"⟩
abbrev cX10_lost : ByteArray := prog_12_method_5_code
def yX10_lost : MethodName := ⟨RX10, "lost", "()I"⟩
abbrev cX10_tell : ByteArray := prog_12_method_6_code
def yX10_tell : MethodName := ⟨RX10, "tell", "(J)V"⟩
abbrev cX10_sign : ByteArray := prog_12_method_7_code
def yX10_sign : MethodName := ⟨RX10, "sign", "(I)I"⟩
abbrev cX10_end : ByteArray := prog_12_method_8_code
def yX10_end : MethodName := ⟨RX10, "end", "(I)Z"⟩
abbrev cX10_isGrade : ByteArray := prog_12_method_9_code
def yX10_isGrade : MethodName := ⟨RX10, "isGrade", "(I)Z"⟩
abbrev cX10_isBin : ByteArray := prog_12_method_10_code
def yX10_isBin : MethodName := ⟨RX10, "isBin", "(I)Z"⟩
abbrev cX10_isLoad : ByteArray := prog_12_method_11_code
def yX10_isLoad : MethodName := ⟨RX10, "isLoad", "(I)Z"⟩
abbrev cX10_layerOf : ByteArray := prog_12_method_12_code
def yX10_layerOf : MethodName := ⟨RX10, "layerOf", "(III)I"⟩
abbrev cX10_sets : ByteArray := prog_12_method_13_code
def yX10_sets : MethodName := ⟨RX10, "sets", "(IIIII)V"⟩
abbrev cX10_many : ByteArray := prog_12_method_14_code
def yX10_many : MethodName := ⟨RX10, "many", "(I)I"⟩
abbrev cX10_tonsIn : ByteArray := prog_12_method_15_code
def yX10_tonsIn : MethodName := ⟨RX10, "tonsIn", "(I)I"⟩
abbrev cX10_tonsOf : ByteArray := prog_12_method_16_code
def yX10_tonsOf : MethodName := ⟨RX10, "tonsOf", "(II)I"⟩
abbrev cX10_loss : ByteArray := prog_12_method_17_code
def yX10_loss : MethodName := ⟨RX10, "loss", "(II)I"⟩
abbrev cX10_isClosed : ByteArray := prog_12_method_18_code
def yX10_isClosed : MethodName := ⟨RX10, "isClosed", "(I)Z"⟩
abbrev cX10_keepsAside : ByteArray := prog_12_method_19_code
def yX10_keepsAside : MethodName := ⟨RX10, "keepsAside", "()V"⟩
abbrev cX10_putsBack : ByteArray := prog_12_method_20_code
def yX10_putsBack : MethodName := ⟨RX10, "putsBack", "()V"⟩
abbrev cX10_did : ByteArray := prog_12_method_21_code
def yX10_did : MethodName := ⟨RX10, "did", "()V"⟩
abbrev cX10_does : ByteArray := prog_12_method_22_code
def yX10_does : MethodName := ⟨RX10, "does", "()V"⟩
abbrev cX10_unitOn : ByteArray := prog_12_method_23_code
def yX10_unitOn : MethodName := ⟨RX10, "unitOn", "(III)I"⟩
abbrev cX10_unit : ByteArray := prog_12_method_24_code
def yX10_unit : MethodName := ⟨RX10, "unit", "(II)I"⟩
abbrev cX10_rawOn : ByteArray := prog_12_method_25_code
def yX10_rawOn : MethodName := ⟨RX10, "rawOn", "(II)I"⟩
abbrev cX10_mixedOf : ByteArray := prog_12_method_26_code
def yX10_mixedOf : MethodName := ⟨RX10, "mixedOf", "(III)I"⟩
abbrev cX10_mixedIn : ByteArray := prog_12_method_27_code
def yX10_mixedIn : MethodName := ⟨RX10, "mixedIn", "(I)I"⟩
abbrev cX10_valueOn : ByteArray := prog_12_method_28_code
def yX10_valueOn : MethodName := ⟨RX10, "valueOn", "(II)I"⟩
abbrev cX10_valueOf : ByteArray := prog_12_method_29_code
def yX10_valueOf : MethodName := ⟨RX10, "valueOf", "(I)I"⟩
abbrev cX10_allOn : ByteArray := prog_12_method_30_code
def yX10_allOn : MethodName := ⟨RX10, "allOn", "(I)I"⟩
abbrev cX10_allNow : ByteArray := prog_12_method_31_code
def yX10_allNow : MethodName := ⟨RX10, "allNow", "()I"⟩
abbrev cX10_mayMix : ByteArray := prog_12_method_32_code
def yX10_mayMix : MethodName := ⟨RX10, "mayMix", "(II)Z"⟩
abbrev cX10_isOnTop : ByteArray := prog_12_method_33_code
def yX10_isOnTop : MethodName := ⟨RX10, "isOnTop", "(III)Z"⟩
abbrev cX10_whyNot : ByteArray := prog_12_method_34_code
def yX10_whyNot : MethodName := ⟨RX10, "whyNot", "(IIII)I"⟩
abbrev cX10_lies : ByteArray := prog_12_method_35_code
def yX10_lies : MethodName := ⟨RX10, "lies", "(IIII)V"⟩
abbrev cX10_goes : ByteArray := prog_12_method_36_code
def yX10_goes : MethodName := ⟨RX10, "goes", "(II)V"⟩
abbrev cX10_counts : ByteArray := prog_12_method_37_code
def yX10_counts : MethodName := ⟨RX10, "counts", "(I)V"⟩
abbrev cX10_begin : ByteArray := prog_12_method_38_code
def yX10_begin : MethodName := ⟨RX10, "begin", "()V"⟩
abbrev cX10_sees : ByteArray := prog_12_method_39_code
def yX10_sees : MethodName := ⟨RX10, "sees", "()I"⟩
abbrev cX10_fault : ByteArray := prog_12_method_40_code
def yX10_fault : MethodName := ⟨RX10, "fault", "(I)V"⟩
abbrev cX10_expect : ByteArray := prog_12_method_41_code
def yX10_expect : MethodName := ⟨RX10, "expect", "(C)V"⟩
abbrev cX10_gradeSign : ByteArray := prog_12_method_42_code
def yX10_gradeSign : MethodName := ⟨RX10, "gradeSign", "()I"⟩
abbrev cX10_number : ByteArray := prog_12_method_43_code
def yX10_number : MethodName := ⟨RX10, "number", "(III)I"⟩
abbrev cX10_readsGrade : ByteArray := prog_12_method_44_code
def yX10_readsGrade : MethodName := ⟨RX10, "readsGrade", "()V"⟩
abbrev cX10_readsBin : ByteArray := prog_12_method_45_code
def yX10_readsBin : MethodName := ⟨RX10, "readsBin", "()V"⟩
abbrev cX10_readsPair : ByteArray := prog_12_method_46_code
def yX10_readsPair : MethodName := ⟨RX10, "readsPair", "(Z)V"⟩
abbrev cX10_readsLine : ByteArray := prog_12_method_47_code
def yX10_readsLine : MethodName := ⟨RX10, "readsLine", "()V"⟩
abbrev cX10_land : ByteArray := prog_12_method_48_code
def yX10_land : MethodName := ⟨RX10, "land", "()I"⟩
abbrev cX10_grade : ByteArray := prog_12_method_49_code
def yX10_grade : MethodName := ⟨RX10, "grade", "(II)I"⟩
abbrev cX10_pair : ByteArray := prog_12_method_50_code
def yX10_pair : MethodName := ⟨RX10, "pair", "(II)I"⟩
abbrev cX10_gradesIn : ByteArray := prog_12_method_51_code
def yX10_gradesIn : MethodName := ⟨RX10, "gradesIn", "(I)I"⟩
abbrev cX10_bin : ByteArray := prog_12_method_52_code
def yX10_bin : MethodName := ⟨RX10, "bin", "(II)I"⟩
abbrev cX10_layer : ByteArray := prog_12_method_53_code
def yX10_layer : MethodName := ⟨RX10, "layer", "(III)I"⟩
abbrev cX10_load : ByteArray := prog_12_method_54_code
def yX10_load : MethodName := ⟨RX10, "load", "(III)I"⟩
abbrev cX10_draw : ByteArray := prog_12_method_55_code
def yX10_draw : MethodName := ⟨RX10, "draw", "(II)I"⟩
abbrev cX10_comes : ByteArray := prog_12_method_56_code
def yX10_comes : MethodName := ⟨RX10, "comes", "(I)I"⟩
abbrev cX10_move : ByteArray := prog_12_method_57_code
def yX10_move : MethodName := ⟨RX10, "move", "(III)I"⟩
abbrev cX10_turn : ByteArray := prog_12_method_58_code
def yX10_turn : MethodName := ⟨RX10, "turn", "(I)I"⟩
abbrev cX10_fumigates : ByteArray := prog_12_method_59_code
def yX10_fumigates : MethodName := ⟨RX10, "fumigates", "(II)V"⟩
abbrev cX10_fumes : ByteArray := prog_12_method_60_code
def yX10_fumes : MethodName := ⟨RX10, "fumes", "(II)I"⟩
abbrev cX10_days : ByteArray := prog_12_method_61_code
def yX10_days : MethodName := ⟨RX10, "days", "(I)I"⟩
abbrev cX10_price : ByteArray := prog_12_method_62_code
def yX10_price : MethodName := ⟨RX10, "price", "(II)I"⟩
abbrev cX10_readsList : ByteArray := prog_12_method_63_code
def yX10_readsList : MethodName := ⟨RX10, "readsList", "()V"⟩
abbrev cX10_lowest : ByteArray := prog_12_method_64_code
def yX10_lowest : MethodName := ⟨RX10, "lowest", "(II)I"⟩
abbrev cX10_laysDown : ByteArray := prog_12_method_65_code
def yX10_laysDown : MethodName := ⟨RX10, "laysDown", "(I)V"⟩
abbrev cX10_takesUp : ByteArray := prog_12_method_66_code
def yX10_takesUp : MethodName := ⟨RX10, "takesUp", "(I)V"⟩
abbrev cX10_findsRow : ByteArray := prog_12_method_67_code
def yX10_findsRow : MethodName := ⟨RX10, "findsRow", "(I)V"⟩
abbrev cX10_canServe : ByteArray := prog_12_method_68_code
def yX10_canServe : MethodName := ⟨RX10, "canServe", "(II)Z"⟩
abbrev cX10_servesFrom : ByteArray := prog_12_method_69_code
def yX10_servesFrom : MethodName := ⟨RX10, "servesFrom", "(I)V"⟩
abbrev cX10_findsServed : ByteArray := prog_12_method_70_code
def yX10_findsServed : MethodName := ⟨RX10, "findsServed", "()V"⟩
abbrev cX10_picksFrom : ByteArray := prog_12_method_71_code
def yX10_picksFrom : MethodName := ⟨RX10, "picksFrom", "(II)V"⟩
abbrev cX10_sells : ByteArray := prog_12_method_72_code
def yX10_sells : MethodName := ⟨RX10, "sells", "()I"⟩
abbrev cX10_value : ByteArray := prog_12_method_73_code
def yX10_value : MethodName := ⟨RX10, "value", "(I)I"⟩
abbrev cX10_all : ByteArray := prog_12_method_74_code
def yX10_all : MethodName := ⟨RX10, "all", "()I"⟩
abbrev cX10_mixed : ByteArray := prog_12_method_75_code
def yX10_mixed : MethodName := ⟨RX10, "mixed", "(I)I"⟩
abbrev cX10_more : ByteArray := prog_12_method_76_code
def yX10_more : MethodName := ⟨RX10, "more", "(III)I"⟩
abbrev cX10_would : ByteArray := prog_12_method_77_code
def yX10_would : MethodName := ⟨RX10, "would", "(III)I"⟩
abbrev cX10_worst : ByteArray := prog_12_method_78_code
def yX10_worst : MethodName := ⟨RX10, "worst", "()I"⟩
abbrev cX10_best : ByteArray := prog_12_method_79_code
def yX10_best : MethodName := ⟨RX10, "best", "(II)I"⟩
abbrev cX10_ones : ByteArray := prog_12_method_80_code
def yX10_ones : MethodName := ⟨RX10, "ones", "(I)I"⟩
abbrev cX10_laysFrom : ByteArray := prog_12_method_81_code
def yX10_laysFrom : MethodName := ⟨RX10, "laysFrom", "(II)V"⟩
abbrev cX10_findsWays : ByteArray := prog_12_method_82_code
def yX10_findsWays : MethodName := ⟨RX10, "findsWays", "()V"⟩
abbrev cX10_lays : ByteArray := prog_12_method_83_code
def yX10_lays : MethodName := ⟨RX10, "lays", "()I"⟩
abbrev cX10_few : ByteArray := prog_12_method_84_code
def yX10_few : MethodName := ⟨RX10, "few", "()I"⟩
abbrev cX10_dear : ByteArray := prog_12_method_85_code
def yX10_dear : MethodName := ⟨RX10, "dear", "()I"⟩
abbrev cX10_takers : ByteArray := prog_12_method_86_code
def yX10_takers : MethodName := ⟨RX10, "takers", "(I)I"⟩
abbrev cX10_room : ByteArray := prog_12_method_87_code
def yX10_room : MethodName := ⟨RX10, "room", "(I)I"⟩
abbrev cX10_bottom : ByteArray := prog_12_method_88_code
def yX10_bottom : MethodName := ⟨RX10, "bottom", "(I)I"⟩
abbrev cX10_below : ByteArray := prog_12_method_89_code
def yX10_below : MethodName := ⟨RX10, "below", "(III)I"⟩
abbrev cX10_reaches : ByteArray := prog_12_method_90_code
def yX10_reaches : MethodName := ⟨RX10, "reaches", "(II)I"⟩
abbrev cX10_serves : ByteArray := prog_12_method_91_code
def yX10_serves : MethodName := ⟨RX10, "serves", "()I"⟩
abbrev cX10_picks : ByteArray := prog_12_method_92_code
def yX10_picks : MethodName := ⟨RX10, "picks", "()I"⟩
abbrev cX10_emptiesFrom : ByteArray := prog_12_method_93_code
def yX10_emptiesFrom : MethodName := ⟨RX10, "emptiesFrom", "(III)V"⟩
abbrev cX10_mixedOfOthers : ByteArray := prog_12_method_94_code
def yX10_mixedOfOthers : MethodName := ⟨RX10, "mixedOfOthers", "(I)I"⟩
abbrev cX10_empties : ByteArray := prog_12_method_95_code
def yX10_empties : MethodName := ⟨RX10, "empties", "(I)I"⟩
abbrev cX10_then : ByteArray := prog_12_method_96_code
def yX10_then : MethodName := ⟨RX10, "then", "(I)I"⟩
abbrev cX10_falls : ByteArray := prog_12_method_97_code
def yX10_falls : MethodName := ⟨RX10, "falls", "(II)I"⟩
abbrev cX10_old : ByteArray := prog_12_method_98_code
def yX10_old : MethodName := ⟨RX10, "old", "()I"⟩
abbrev cX10_cures : ByteArray := prog_12_method_99_code
def yX10_cures : MethodName := ⟨RX10, "cures", "(II)I"⟩
abbrev cX10_undo : ByteArray := prog_12_method_100_code
def yX10_undo : MethodName := ⟨RX10, "undo", "()I"⟩
abbrev cX10_keeps : ByteArray := prog_12_method_101_code
def yX10_keeps : MethodName := ⟨RX10, "keeps", "()I"⟩
abbrev cX10_back : ByteArray := prog_12_method_102_code
def yX10_back : MethodName := ⟨RX10, "back", "()I"⟩
abbrev cX10_writesSign : ByteArray := prog_12_method_103_code
def yX10_writesSign : MethodName := ⟨RX10, "writesSign", "(I)V"⟩
abbrev cX10_writesNumber : ByteArray := prog_12_method_104_code
def yX10_writesNumber : MethodName := ⟨RX10, "writesNumber", "(I)V"⟩
abbrev cX10_written : ByteArray := prog_12_method_105_code
def yX10_written : MethodName := ⟨RX10, "written", "(I)I"⟩
abbrev cX10_count : ByteArray := prog_12_method_106_code
def yX10_count : MethodName := ⟨RX10, "count", "(I)I"⟩
abbrev cX10_row : ByteArray := prog_12_method_107_code
def yX10_row : MethodName := ⟨RX10, "row", "(I)J"⟩
def RJx145de : String := "java/io/Serializable"
def RJ6 : String := "java/lang/Integer"
abbrev cJ6_bitCount_0f7a4 : ByteArray := prog_15_method_49_code
def yJ6_bitCount_0f7a4 : MethodName := ⟨RJ6, "bitCount", "(I)I"⟩
def RJ9 : String := "java/lang/Math"
abbrev cJ9_max_7cf53 : ByteArray := prog_16_method_65_code
def yJ9_max_7cf53 : MethodName := ⟨RJ9, "max", "(II)I"⟩
abbrev cJ9_min_7cf53 : ByteArray := prog_16_method_69_code
def yJ9_min_7cf53 : MethodName := ⟨RJ9, "min", "(II)I"⟩
abbrev cJ9_min_f86c9 : ByteArray := prog_16_method_70_code
def yJ9_min_f86c9 : MethodName := ⟨RJ9, "min", "(JJ)J"⟩
def RL : String := "GrainBinsLaw"
abbrev cL_row : ByteArray := method_3_code
def yL_row : MethodName := ⟨RL, "row", "(LGrainBins;I[J)I"⟩
abbrev cL_law : ByteArray := code
def yL_law : MethodName := ⟨RL, "law", "([I)Z"⟩
abbrev vwCl : List vw_C := [(RX0, TX0, 6), (RX1, TX1, 7), (RX2, TX2, 4), (RX3, TX3, 3), (RX4, TX4, 2), (RX5, TX5, 8), (RX6, TX6, 2), (RX7, TX7, 11), (RX8, TX8, 3), (RX9, TX9, 12), (RX10, TX10, 38)]
