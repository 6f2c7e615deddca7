/-- a own method of a sort that the tables say can be made, by its rows of tables_1 -/
def lw_okq (q : MethodName × Nat) : Prop := (q.1.cls ≠ "java/lang/invoke/MethodHandle" ∧ q.1.cls ≠ "java/lang/invoke/VarHandle") ∧ Cond.instantiable q.1.cls q.2 ∈ tables_1 ∧ Cond.privateMethod q.1 ∈ tables_1 ∧ Cond.instanceMethod q.1 ∈ tables_1
theorem lw_p0 : lw_okq (⟨"LeverFrame$Text", "readRun", "()V"⟩, 12) := ⟨⟨by decide +kernel, by decide +kernel⟩, List.mem_of_getElem? (i := 35) (by decide +kernel), List.mem_of_getElem? (i := 619) (by decide +kernel), List.mem_of_getElem? (i := 620) (by decide +kernel)⟩
theorem lw_p1 : lw_okq (⟨"LeverFrame$PlanReader", "readLine", "(LLeverFrame$Text;)Z"⟩, 3) := ⟨⟨by decide +kernel, by decide +kernel⟩, List.mem_of_getElem? (i := 270) (by decide +kernel), List.mem_of_getElem? (i := 623) (by decide +kernel), List.mem_of_getElem? (i := 624) (by decide +kernel)⟩
theorem lw_p2 : lw_okq (⟨"LeverFrame$PlanReader", "readSection", "(LLeverFrame$Text;)Z"⟩, 3) := ⟨⟨by decide +kernel, by decide +kernel⟩, List.mem_of_getElem? (i := 270) (by decide +kernel), List.mem_of_getElem? (i := 627) (by decide +kernel), List.mem_of_getElem? (i := 628) (by decide +kernel)⟩
theorem lw_p3 : lw_okq (⟨"LeverFrame$PlanReader", "hasRoom", "(LLeverFrame$Text;II)Z"⟩, 3) := ⟨⟨by decide +kernel, by decide +kernel⟩, List.mem_of_getElem? (i := 270) (by decide +kernel), List.mem_of_getElem? (i := 631) (by decide +kernel), List.mem_of_getElem? (i := 632) (by decide +kernel)⟩
theorem lw_p4 : lw_okq (⟨"LeverFrame$PlanReader", "readPoints", "(LLeverFrame$Text;)Z"⟩, 3) := ⟨⟨by decide +kernel, by decide +kernel⟩, List.mem_of_getElem? (i := 270) (by decide +kernel), List.mem_of_getElem? (i := 664) (by decide +kernel), List.mem_of_getElem? (i := 665) (by decide +kernel)⟩
theorem lw_p5 : lw_okq (⟨"LeverFrame$PlanReader", "readTrack", "(LLeverFrame$Text;)Z"⟩, 3) := ⟨⟨by decide +kernel, by decide +kernel⟩, List.mem_of_getElem? (i := 270) (by decide +kernel), List.mem_of_getElem? (i := 677) (by decide +kernel), List.mem_of_getElem? (i := 678) (by decide +kernel)⟩
theorem lw_p6 : lw_okq (⟨"LeverFrame$PlanReader", "readPointsBy", "(LLeverFrame$Text;II)I"⟩, 3) := ⟨⟨by decide +kernel, by decide +kernel⟩, List.mem_of_getElem? (i := 270) (by decide +kernel), List.mem_of_getElem? (i := 689) (by decide +kernel), List.mem_of_getElem? (i := 690) (by decide +kernel)⟩
theorem lw_p7 : lw_okq (⟨"LeverFrame$PlanReader", "addTrack", "(IIII)V"⟩, 3) := ⟨⟨by decide +kernel, by decide +kernel⟩, List.mem_of_getElem? (i := 270) (by decide +kernel), List.mem_of_getElem? (i := 698) (by decide +kernel), List.mem_of_getElem? (i := 699) (by decide +kernel)⟩
theorem lw_p8 : lw_okq (⟨"LeverFrame$PlanReader", "readSignal", "(LLeverFrame$Text;)Z"⟩, 3) := ⟨⟨by decide +kernel, by decide +kernel⟩, List.mem_of_getElem? (i := 270) (by decide +kernel), List.mem_of_getElem? (i := 702) (by decide +kernel), List.mem_of_getElem? (i := 703) (by decide +kernel)⟩
theorem lw_p9 : lw_okq (⟨"LeverFrame$PlanReader", "readRoute", "(LLeverFrame$Text;)Z"⟩, 3) := ⟨⟨by decide +kernel, by decide +kernel⟩, List.mem_of_getElem? (i := 270) (by decide +kernel), List.mem_of_getElem? (i := 710) (by decide +kernel), List.mem_of_getElem? (i := 711) (by decide +kernel)⟩
theorem lw_p10 : lw_okq (⟨"LeverFrame$PlanReader", "readLock", "(LLeverFrame$Text;)Z"⟩, 3) := ⟨⟨by decide +kernel, by decide +kernel⟩, List.mem_of_getElem? (i := 270) (by decide +kernel), List.mem_of_getElem? (i := 714) (by decide +kernel), List.mem_of_getElem? (i := 715) (by decide +kernel)⟩
theorem lw_p11 : lw_okq (⟨"LeverFrame$PlanReader", "readTrain", "(LLeverFrame$Text;)Z"⟩, 3) := ⟨⟨by decide +kernel, by decide +kernel⟩, List.mem_of_getElem? (i := 270) (by decide +kernel), List.mem_of_getElem? (i := 718) (by decide +kernel), List.mem_of_getElem? (i := 719) (by decide +kernel)⟩
theorem lw_p12 : lw_okq (⟨"LeverFrame$PlanReader", "readHold", "(LLeverFrame$Text;)Z"⟩, 3) := ⟨⟨by decide +kernel, by decide +kernel⟩, List.mem_of_getElem? (i := 270) (by decide +kernel), List.mem_of_getElem? (i := 722) (by decide +kernel), List.mem_of_getElem? (i := 723) (by decide +kernel)⟩
theorem lw_p13 : lw_okq (⟨"LeverFrame$PlanReader", "readOver", "(LLeverFrame$Text;)Z"⟩, 3) := ⟨⟨by decide +kernel, by decide +kernel⟩, List.mem_of_getElem? (i := 270) (by decide +kernel), List.mem_of_getElem? (i := 726) (by decide +kernel), List.mem_of_getElem? (i := 727) (by decide +kernel)⟩
theorem lw_p14 : lw_okq (⟨"LeverFrame$PlanReader", "canGoOver", "(II)Z"⟩, 3) := ⟨⟨by decide +kernel, by decide +kernel⟩, List.mem_of_getElem? (i := 270) (by decide +kernel), List.mem_of_getElem? (i := 730) (by decide +kernel), List.mem_of_getElem? (i := 731) (by decide +kernel)⟩
theorem lw_p15 : lw_okq (⟨"LeverFrame$PlanReader", "addOver", "(II)V"⟩, 3) := ⟨⟨by decide +kernel, by decide +kernel⟩, List.mem_of_getElem? (i := 270) (by decide +kernel), List.mem_of_getElem? (i := 746) (by decide +kernel), List.mem_of_getElem? (i := 747) (by decide +kernel)⟩
def lw_privs_1 : List (MethodName × Nat) := [(⟨"LeverFrame$Text", "readRun", "()V"⟩, 12), (⟨"LeverFrame$PlanReader", "readLine", "(LLeverFrame$Text;)Z"⟩, 3), (⟨"LeverFrame$PlanReader", "readSection", "(LLeverFrame$Text;)Z"⟩, 3), (⟨"LeverFrame$PlanReader", "hasRoom", "(LLeverFrame$Text;II)Z"⟩, 3), (⟨"LeverFrame$PlanReader", "readPoints", "(LLeverFrame$Text;)Z"⟩, 3), (⟨"LeverFrame$PlanReader", "readTrack", "(LLeverFrame$Text;)Z"⟩, 3), (⟨"LeverFrame$PlanReader", "readPointsBy", "(LLeverFrame$Text;II)I"⟩, 3), (⟨"LeverFrame$PlanReader", "addTrack", "(IIII)V"⟩, 3), (⟨"LeverFrame$PlanReader", "readSignal", "(LLeverFrame$Text;)Z"⟩, 3), (⟨"LeverFrame$PlanReader", "readRoute", "(LLeverFrame$Text;)Z"⟩, 3), (⟨"LeverFrame$PlanReader", "readLock", "(LLeverFrame$Text;)Z"⟩, 3), (⟨"LeverFrame$PlanReader", "readTrain", "(LLeverFrame$Text;)Z"⟩, 3), (⟨"LeverFrame$PlanReader", "readHold", "(LLeverFrame$Text;)Z"⟩, 3), (⟨"LeverFrame$PlanReader", "readOver", "(LLeverFrame$Text;)Z"⟩, 3), (⟨"LeverFrame$PlanReader", "canGoOver", "(II)Z"⟩, 3), (⟨"LeverFrame$PlanReader", "addOver", "(II)V"⟩, 3)]
theorem lw_r1 : ∀ q ∈ lw_privs_1, lw_okq q := List.forall_mem_cons.mpr ⟨lw_p0, List.forall_mem_cons.mpr ⟨lw_p1, List.forall_mem_cons.mpr ⟨lw_p2, List.forall_mem_cons.mpr ⟨lw_p3, List.forall_mem_cons.mpr ⟨lw_p4, List.forall_mem_cons.mpr ⟨lw_p5, List.forall_mem_cons.mpr ⟨lw_p6, List.forall_mem_cons.mpr ⟨lw_p7, List.forall_mem_cons.mpr ⟨lw_p8, List.forall_mem_cons.mpr ⟨lw_p9, List.forall_mem_cons.mpr ⟨lw_p10, List.forall_mem_cons.mpr ⟨lw_p11, List.forall_mem_cons.mpr ⟨lw_p12, List.forall_mem_cons.mpr ⟨lw_p13, List.forall_mem_cons.mpr ⟨lw_p14, List.forall_mem_cons.mpr ⟨lw_p15, fun _ h => absurd h List.not_mem_nil⟩⟩⟩⟩⟩⟩⟩⟩⟩⟩⟩⟩⟩⟩⟩⟩
theorem lw_p16 : lw_okq (⟨"LeverFrame$Plan", "conflict", "(II)Z"⟩, 20) := ⟨⟨by decide +kernel, by decide +kernel⟩, List.mem_of_getElem? (i := 147) (by decide +kernel), List.mem_of_getElem? (i := 759) (by decide +kernel), List.mem_of_getElem? (i := 760) (by decide +kernel)⟩
theorem lw_p17 : lw_okq (⟨"LeverFrame", "act", "(III)I"⟩, 15) := ⟨⟨by decide +kernel, by decide +kernel⟩, List.mem_of_getElem? (i := 27) (by decide +kernel), List.mem_of_getElem? (i := 862) (by decide +kernel), List.mem_of_getElem? (i := 863) (by decide +kernel)⟩
theorem lw_p18 : lw_okq (⟨"LeverFrame$State", "setRoute", "(I)I"⟩, 14) := ⟨⟨by decide +kernel, by decide +kernel⟩, List.mem_of_getElem? (i := 290) (by decide +kernel), List.mem_of_getElem? (i := 881) (by decide +kernel), List.mem_of_getElem? (i := 882) (by decide +kernel)⟩
theorem lw_p19 : lw_okq (⟨"LeverFrame$State", "whyNotSet", "(I)I"⟩, 14) := ⟨⟨by decide +kernel, by decide +kernel⟩, List.mem_of_getElem? (i := 290) (by decide +kernel), List.mem_of_getElem? (i := 885) (by decide +kernel), List.mem_of_getElem? (i := 886) (by decide +kernel)⟩
theorem lw_p20 : lw_okq (⟨"LeverFrame$State", "putBack", "(I)I"⟩, 14) := ⟨⟨by decide +kernel, by decide +kernel⟩, List.mem_of_getElem? (i := 290) (by decide +kernel), List.mem_of_getElem? (i := 900) (by decide +kernel), List.mem_of_getElem? (i := 901) (by decide +kernel)⟩
theorem lw_p21 : lw_okq (⟨"LeverFrame$State", "isApproached", "(I)Z"⟩, 14) := ⟨⟨by decide +kernel, by decide +kernel⟩, List.mem_of_getElem? (i := 290) (by decide +kernel), List.mem_of_getElem? (i := 904) (by decide +kernel), List.mem_of_getElem? (i := 905) (by decide +kernel)⟩
theorem lw_p22 : lw_okq (⟨"LeverFrame$State", "throwPoints", "(I)I"⟩, 14) := ⟨⟨by decide +kernel, by decide +kernel⟩, List.mem_of_getElem? (i := 290) (by decide +kernel), List.mem_of_getElem? (i := 908) (by decide +kernel), List.mem_of_getElem? (i := 909) (by decide +kernel)⟩
theorem lw_p23 : lw_okq (⟨"LeverFrame$State", "failSection", "(II)I"⟩, 14) := ⟨⟨by decide +kernel, by decide +kernel⟩, List.mem_of_getElem? (i := 290) (by decide +kernel), List.mem_of_getElem? (i := 913) (by decide +kernel), List.mem_of_getElem? (i := 914) (by decide +kernel)⟩
theorem lw_p24 : lw_okq (⟨"LeverFrame$State", "mendSection", "(I)I"⟩, 14) := ⟨⟨by decide +kernel, by decide +kernel⟩, List.mem_of_getElem? (i := 290) (by decide +kernel), List.mem_of_getElem? (i := 918) (by decide +kernel), List.mem_of_getElem? (i := 919) (by decide +kernel)⟩
theorem lw_p25 : lw_okq (⟨"LeverFrame$State", "runTrain", "(I)V"⟩, 14) := ⟨⟨by decide +kernel, by decide +kernel⟩, List.mem_of_getElem? (i := 290) (by decide +kernel), List.mem_of_getElem? (i := 954) (by decide +kernel), List.mem_of_getElem? (i := 955) (by decide +kernel)⟩
theorem lw_p26 : lw_okq (⟨"LeverFrame$State", "goalByTracks", "(I)I"⟩, 14) := ⟨⟨by decide +kernel, by decide +kernel⟩, List.mem_of_getElem? (i := 290) (by decide +kernel), List.mem_of_getElem? (i := 959) (by decide +kernel), List.mem_of_getElem? (i := 960) (by decide +kernel)⟩
theorem lw_p27 : lw_okq (⟨"LeverFrame$State", "leadsNow", "(I)Z"⟩, 14) := ⟨⟨by decide +kernel, by decide +kernel⟩, List.mem_of_getElem? (i := 290) (by decide +kernel), List.mem_of_getElem? (i := 964) (by decide +kernel), List.mem_of_getElem? (i := 965) (by decide +kernel)⟩
theorem lw_p28 : lw_okq (⟨"LeverFrame$State", "goalBySignal", "(II)I"⟩, 14) := ⟨⟨by decide +kernel, by decide +kernel⟩, List.mem_of_getElem? (i := 290) (by decide +kernel), List.mem_of_getElem? (i := 968) (by decide +kernel), List.mem_of_getElem? (i := 969) (by decide +kernel)⟩
theorem lw_p29 : lw_okq (⟨"LeverFrame$State", "enter", "(II)V"⟩, 14) := ⟨⟨by decide +kernel, by decide +kernel⟩, List.mem_of_getElem? (i := 290) (by decide +kernel), List.mem_of_getElem? (i := 974) (by decide +kernel), List.mem_of_getElem? (i := 975) (by decide +kernel)⟩
theorem lw_p30 : lw_okq (⟨"LeverFrame$State", "crash", "(II)V"⟩, 14) := ⟨⟨by decide +kernel, by decide +kernel⟩, List.mem_of_getElem? (i := 290) (by decide +kernel), List.mem_of_getElem? (i := 979) (by decide +kernel), List.mem_of_getElem? (i := 980) (by decide +kernel)⟩
theorem lw_p31 : lw_okq (⟨"LeverFrame$Plan", "lackingBehind", "(I)I"⟩, 20) := ⟨⟨by decide +kernel, by decide +kernel⟩, List.mem_of_getElem? (i := 147) (by decide +kernel), List.mem_of_getElem? (i := 999) (by decide +kernel), List.mem_of_getElem? (i := 1000) (by decide +kernel)⟩
def lw_privs_2 : List (MethodName × Nat) := [(⟨"LeverFrame$Plan", "conflict", "(II)Z"⟩, 20), (⟨"LeverFrame", "act", "(III)I"⟩, 15), (⟨"LeverFrame$State", "setRoute", "(I)I"⟩, 14), (⟨"LeverFrame$State", "whyNotSet", "(I)I"⟩, 14), (⟨"LeverFrame$State", "putBack", "(I)I"⟩, 14), (⟨"LeverFrame$State", "isApproached", "(I)Z"⟩, 14), (⟨"LeverFrame$State", "throwPoints", "(I)I"⟩, 14), (⟨"LeverFrame$State", "failSection", "(II)I"⟩, 14), (⟨"LeverFrame$State", "mendSection", "(I)I"⟩, 14), (⟨"LeverFrame$State", "runTrain", "(I)V"⟩, 14), (⟨"LeverFrame$State", "goalByTracks", "(I)I"⟩, 14), (⟨"LeverFrame$State", "leadsNow", "(I)Z"⟩, 14), (⟨"LeverFrame$State", "goalBySignal", "(II)I"⟩, 14), (⟨"LeverFrame$State", "enter", "(II)V"⟩, 14), (⟨"LeverFrame$State", "crash", "(II)V"⟩, 14), (⟨"LeverFrame$Plan", "lackingBehind", "(I)I"⟩, 20)]
theorem lw_r2 : ∀ q ∈ lw_privs_2, lw_okq q := List.forall_mem_cons.mpr ⟨lw_p16, List.forall_mem_cons.mpr ⟨lw_p17, List.forall_mem_cons.mpr ⟨lw_p18, List.forall_mem_cons.mpr ⟨lw_p19, List.forall_mem_cons.mpr ⟨lw_p20, List.forall_mem_cons.mpr ⟨lw_p21, List.forall_mem_cons.mpr ⟨lw_p22, List.forall_mem_cons.mpr ⟨lw_p23, List.forall_mem_cons.mpr ⟨lw_p24, List.forall_mem_cons.mpr ⟨lw_p25, List.forall_mem_cons.mpr ⟨lw_p26, List.forall_mem_cons.mpr ⟨lw_p27, List.forall_mem_cons.mpr ⟨lw_p28, List.forall_mem_cons.mpr ⟨lw_p29, List.forall_mem_cons.mpr ⟨lw_p30, List.forall_mem_cons.mpr ⟨lw_p31, fun _ h => absurd h List.not_mem_nil⟩⟩⟩⟩⟩⟩⟩⟩⟩⟩⟩⟩⟩⟩⟩⟩
theorem lw_p32 : lw_okq (⟨"LeverFrame$Counsel", "addPulls", "(III)V"⟩, 6) := ⟨⟨by decide +kernel, by decide +kernel⟩, List.mem_of_getElem? (i := 445) (by decide +kernel), List.mem_of_getElem? (i := 1044) (by decide +kernel), List.mem_of_getElem? (i := 1045) (by decide +kernel)⟩
theorem lw_p33 : lw_okq (⟨"LeverFrame$Plan", "isPeaceful", "(I)Z"⟩, 20) := ⟨⟨by decide +kernel, by decide +kernel⟩, List.mem_of_getElem? (i := 147) (by decide +kernel), List.mem_of_getElem? (i := 1064) (by decide +kernel), List.mem_of_getElem? (i := 1065) (by decide +kernel)⟩
theorem lw_p34 : lw_okq (⟨"LeverFrame$Counsel", "placeRoute", "(LLeverFrame$Plan;III)I"⟩, 6) := ⟨⟨by decide +kernel, by decide +kernel⟩, List.mem_of_getElem? (i := 445) (by decide +kernel), List.mem_of_getElem? (i := 1082) (by decide +kernel), List.mem_of_getElem? (i := 1083) (by decide +kernel)⟩
theorem lw_p35 : lw_okq (⟨"LeverFrame$Counsel", "measure", "(LLeverFrame$Plan;II)V"⟩, 6) := ⟨⟨by decide +kernel, by decide +kernel⟩, List.mem_of_getElem? (i := 445) (by decide +kernel), List.mem_of_getElem? (i := 1094) (by decide +kernel), List.mem_of_getElem? (i := 1095) (by decide +kernel)⟩
theorem lw_p36 : lw_okq (⟨"LeverFrame$Counsel", "costOf", "(LLeverFrame$Plan;II)I"⟩, 6) := ⟨⟨by decide +kernel, by decide +kernel⟩, List.mem_of_getElem? (i := 445) (by decide +kernel), List.mem_of_getElem? (i := 1098) (by decide +kernel), List.mem_of_getElem? (i := 1099) (by decide +kernel)⟩
theorem lw_p37 : lw_okq (⟨"LeverFrame$Counsel", "walk", "(LLeverFrame$Plan;III)V"⟩, 6) := ⟨⟨by decide +kernel, by decide +kernel⟩, List.mem_of_getElem? (i := 445) (by decide +kernel), List.mem_of_getElem? (i := 1104) (by decide +kernel), List.mem_of_getElem? (i := 1105) (by decide +kernel)⟩
theorem lw_p38 : lw_okq (⟨"LeverFrame$Counsel", "leastStep", "(LLeverFrame$Plan;III)I"⟩, 6) := ⟨⟨by decide +kernel, by decide +kernel⟩, List.mem_of_getElem? (i := 445) (by decide +kernel), List.mem_of_getElem? (i := 1108) (by decide +kernel), List.mem_of_getElem? (i := 1109) (by decide +kernel)⟩
theorem lw_p39 : lw_okq (⟨"LeverFrame$Diagnosis", "keepFailures", "(LLeverFrame$Text;II)V"⟩, 3) := ⟨⟨by decide +kernel, by decide +kernel⟩, List.mem_of_getElem? (i := 470) (by decide +kernel), List.mem_of_getElem? (i := 1150) (by decide +kernel), List.mem_of_getElem? (i := 1151) (by decide +kernel)⟩
theorem lw_p40 : lw_okq (⟨"LeverFrame$Diagnosis", "bestLook", "(II)I"⟩, 3) := ⟨⟨by decide +kernel, by decide +kernel⟩, List.mem_of_getElem? (i := 470) (by decide +kernel), List.mem_of_getElem? (i := 1154) (by decide +kernel), List.mem_of_getElem? (i := 1155) (by decide +kernel)⟩
theorem lw_p41 : lw_okq (⟨"LeverFrame$Tag", "addName", "(J)V"⟩, 2) := ⟨⟨by decide +kernel, by decide +kernel⟩, List.mem_of_getElem? (i := 487) (by decide +kernel), List.mem_of_getElem? (i := 1185) (by decide +kernel), List.mem_of_getElem? (i := 1186) (by decide +kernel)⟩
theorem lw_p42 : lw_okq (⟨"LeverFrame$Tag", "addByte", "(I)V"⟩, 2) := ⟨⟨by decide +kernel, by decide +kernel⟩, List.mem_of_getElem? (i := 487) (by decide +kernel), List.mem_of_getElem? (i := 1190) (by decide +kernel), List.mem_of_getElem? (i := 1191) (by decide +kernel)⟩
theorem lw_p43 : lw_okq (⟨"LeverFrame$Tag", "addText", "(Ljava/lang/String;)V"⟩, 2) := ⟨⟨by decide +kernel, by decide +kernel⟩, List.mem_of_getElem? (i := 487) (by decide +kernel), List.mem_of_getElem? (i := 1195) (by decide +kernel), List.mem_of_getElem? (i := 1196) (by decide +kernel)⟩
theorem lw_p44 : lw_okq (⟨"LeverFrame$State", "actByLot", "(II)V"⟩, 14) := ⟨⟨by decide +kernel, by decide +kernel⟩, List.mem_of_getElem? (i := 290) (by decide +kernel), List.mem_of_getElem? (i := 1227) (by decide +kernel), List.mem_of_getElem? (i := 1228) (by decide +kernel)⟩
theorem lw_p45 : lw_okq (⟨"LeverFrame$Book", "readLine", "(LLeverFrame$Text;LLeverFrame$Plan;)Z"⟩, 9) := ⟨⟨by decide +kernel, by decide +kernel⟩, List.mem_of_getElem? (i := 378) (by decide +kernel), List.mem_of_getElem? (i := 1245) (by decide +kernel), List.mem_of_getElem? (i := 1246) (by decide +kernel)⟩
theorem lw_p46 : lw_okq (⟨"LeverFrame$Book", "liveLine", "(LLeverFrame$State;I)I"⟩, 9) := ⟨⟨by decide +kernel, by decide +kernel⟩, List.mem_of_getElem? (i := 378) (by decide +kernel), List.mem_of_getElem? (i := 1262) (by decide +kernel), List.mem_of_getElem? (i := 1263) (by decide +kernel)⟩
theorem lw_p47 : lw_okq (⟨"LeverFrame$Sentence", "readCond", "(LLeverFrame$Text;LLeverFrame$Plan;I)Z"⟩, 7) := ⟨⟨by decide +kernel, by decide +kernel⟩, List.mem_of_getElem? (i := 413) (by decide +kernel), List.mem_of_getElem? (i := 1290) (by decide +kernel), List.mem_of_getElem? (i := 1291) (by decide +kernel)⟩
def lw_privs_3 : List (MethodName × Nat) := [(⟨"LeverFrame$Counsel", "addPulls", "(III)V"⟩, 6), (⟨"LeverFrame$Plan", "isPeaceful", "(I)Z"⟩, 20), (⟨"LeverFrame$Counsel", "placeRoute", "(LLeverFrame$Plan;III)I"⟩, 6), (⟨"LeverFrame$Counsel", "measure", "(LLeverFrame$Plan;II)V"⟩, 6), (⟨"LeverFrame$Counsel", "costOf", "(LLeverFrame$Plan;II)I"⟩, 6), (⟨"LeverFrame$Counsel", "walk", "(LLeverFrame$Plan;III)V"⟩, 6), (⟨"LeverFrame$Counsel", "leastStep", "(LLeverFrame$Plan;III)I"⟩, 6), (⟨"LeverFrame$Diagnosis", "keepFailures", "(LLeverFrame$Text;II)V"⟩, 3), (⟨"LeverFrame$Diagnosis", "bestLook", "(II)I"⟩, 3), (⟨"LeverFrame$Tag", "addName", "(J)V"⟩, 2), (⟨"LeverFrame$Tag", "addByte", "(I)V"⟩, 2), (⟨"LeverFrame$Tag", "addText", "(Ljava/lang/String;)V"⟩, 2), (⟨"LeverFrame$State", "actByLot", "(II)V"⟩, 14), (⟨"LeverFrame$Book", "readLine", "(LLeverFrame$Text;LLeverFrame$Plan;)Z"⟩, 9), (⟨"LeverFrame$Book", "liveLine", "(LLeverFrame$State;I)I"⟩, 9), (⟨"LeverFrame$Sentence", "readCond", "(LLeverFrame$Text;LLeverFrame$Plan;I)Z"⟩, 7)]
theorem lw_r3 : ∀ q ∈ lw_privs_3, lw_okq q := List.forall_mem_cons.mpr ⟨lw_p32, List.forall_mem_cons.mpr ⟨lw_p33, List.forall_mem_cons.mpr ⟨lw_p34, List.forall_mem_cons.mpr ⟨lw_p35, List.forall_mem_cons.mpr ⟨lw_p36, List.forall_mem_cons.mpr ⟨lw_p37, List.forall_mem_cons.mpr ⟨lw_p38, List.forall_mem_cons.mpr ⟨lw_p39, List.forall_mem_cons.mpr ⟨lw_p40, List.forall_mem_cons.mpr ⟨lw_p41, List.forall_mem_cons.mpr ⟨lw_p42, List.forall_mem_cons.mpr ⟨lw_p43, List.forall_mem_cons.mpr ⟨lw_p44, List.forall_mem_cons.mpr ⟨lw_p45, List.forall_mem_cons.mpr ⟨lw_p46, List.forall_mem_cons.mpr ⟨lw_p47, fun _ h => absurd h List.not_mem_nil⟩⟩⟩⟩⟩⟩⟩⟩⟩⟩⟩⟩⟩⟩⟩⟩
theorem lw_p48 : lw_okq (⟨"LeverFrame$Sentence", "readAll", "(LLeverFrame$Text;LLeverFrame$Plan;I)Z"⟩, 7) := ⟨⟨by decide +kernel, by decide +kernel⟩, List.mem_of_getElem? (i := 413) (by decide +kernel), List.mem_of_getElem? (i := 1294) (by decide +kernel), List.mem_of_getElem? (i := 1295) (by decide +kernel)⟩
theorem lw_p49 : lw_okq (⟨"LeverFrame$Sentence", "readOne", "(LLeverFrame$Text;LLeverFrame$Plan;I)Z"⟩, 7) := ⟨⟨by decide +kernel, by decide +kernel⟩, List.mem_of_getElem? (i := 413) (by decide +kernel), List.mem_of_getElem? (i := 1298) (by decide +kernel), List.mem_of_getElem? (i := 1299) (by decide +kernel)⟩
theorem lw_p50 : lw_okq (⟨"LeverFrame$Sentence", "addStep", "(III)V"⟩, 7) := ⟨⟨by decide +kernel, by decide +kernel⟩, List.mem_of_getElem? (i := 413) (by decide +kernel), List.mem_of_getElem? (i := 1305) (by decide +kernel), List.mem_of_getElem? (i := 1306) (by decide +kernel)⟩
theorem lw_p51 : lw_okq (⟨"LeverFrame$Sentence", "readPlainOne", "(LLeverFrame$Text;LLeverFrame$Plan;I)Z"⟩, 7) := ⟨⟨by decide +kernel, by decide +kernel⟩, List.mem_of_getElem? (i := 413) (by decide +kernel), List.mem_of_getElem? (i := 1309) (by decide +kernel), List.mem_of_getElem? (i := 1310) (by decide +kernel)⟩
theorem lw_p52 : lw_okq (⟨"LeverFrame$Sentence", "trainsOfStep", "(LLeverFrame$Plan;LLeverFrame$State;I)I"⟩, 7) := ⟨⟨by decide +kernel, by decide +kernel⟩, List.mem_of_getElem? (i := 413) (by decide +kernel), List.mem_of_getElem? (i := 1328) (by decide +kernel), List.mem_of_getElem? (i := 1329) (by decide +kernel)⟩
theorem lw_p53 : lw_okq (⟨"LeverFrame$Sentence", "isTrueOf", "(LLeverFrame$State;II)Z"⟩, 7) := ⟨⟨by decide +kernel, by decide +kernel⟩, List.mem_of_getElem? (i := 413) (by decide +kernel), List.mem_of_getElem? (i := 1333) (by decide +kernel), List.mem_of_getElem? (i := 1334) (by decide +kernel)⟩
theorem lw_p54 : lw_okq (⟨"LeverFrame$Sentence", "compares", "(II)Z"⟩, 7) := ⟨⟨by decide +kernel, by decide +kernel⟩, List.mem_of_getElem? (i := 413) (by decide +kernel), List.mem_of_getElem? (i := 1341) (by decide +kernel), List.mem_of_getElem? (i := 1342) (by decide +kernel)⟩
theorem lw_p55 : lw_okq (⟨"java/lang/Throwable", "fillInStackTrace", "(I)Ljava/lang/Throwable;"⟩, 6) := ⟨⟨by decide +kernel, by decide +kernel⟩, List.mem_of_getElem? (i := 1412) (by decide +kernel), List.mem_of_getElem? (i := 1410) (by decide +kernel), List.mem_of_getElem? (i := 1411) (by decide +kernel)⟩
theorem lw_p56 : lw_okq (⟨"LeverFrameModel", "four", "(I)V"⟩, 51) := ⟨⟨by decide +kernel, by decide +kernel⟩, List.mem_of_getElem? (i := 1468) (by decide +kernel), List.mem_of_getElem? (i := 1466) (by decide +kernel), List.mem_of_getElem? (i := 1467) (by decide +kernel)⟩
theorem lw_p57 : lw_okq (⟨"LeverFrameModel", "clears", "()V"⟩, 51) := ⟨⟨by decide +kernel, by decide +kernel⟩, List.mem_of_getElem? (i := 1468) (by decide +kernel), List.mem_of_getElem? (i := 1512) (by decide +kernel), List.mem_of_getElem? (i := 1513) (by decide +kernel)⟩
theorem lw_p58 : lw_okq (⟨"LeverFrameModel", "taken", "(I)V"⟩, 51) := ⟨⟨by decide +kernel, by decide +kernel⟩, List.mem_of_getElem? (i := 1468) (by decide +kernel), List.mem_of_getElem? (i := 1675) (by decide +kernel), List.mem_of_getElem? (i := 1676) (by decide +kernel)⟩
theorem lw_p59 : lw_okq (⟨"LeverFrameModel", "next", "()V"⟩, 51) := ⟨⟨by decide +kernel, by decide +kernel⟩, List.mem_of_getElem? (i := 1468) (by decide +kernel), List.mem_of_getElem? (i := 1679) (by decide +kernel), List.mem_of_getElem? (i := 1680) (by decide +kernel)⟩
theorem lw_p60 : lw_okq (⟨"LeverFrameModel", "peek", "()I"⟩, 51) := ⟨⟨by decide +kernel, by decide +kernel⟩, List.mem_of_getElem? (i := 1468) (by decide +kernel), List.mem_of_getElem? (i := 1683) (by decide +kernel), List.mem_of_getElem? (i := 1684) (by decide +kernel)⟩
theorem lw_p61 : lw_okq (⟨"LeverFrameModel", "readLine", "()Z"⟩, 51) := ⟨⟨by decide +kernel, by decide +kernel⟩, List.mem_of_getElem? (i := 1468) (by decide +kernel), List.mem_of_getElem? (i := 1693) (by decide +kernel), List.mem_of_getElem? (i := 1694) (by decide +kernel)⟩
theorem lw_p62 : lw_okq (⟨"LeverFrameModel", "isWord", "(J)Z"⟩, 51) := ⟨⟨by decide +kernel, by decide +kernel⟩, List.mem_of_getElem? (i := 1468) (by decide +kernel), List.mem_of_getElem? (i := 1697) (by decide +kernel), List.mem_of_getElem? (i := 1698) (by decide +kernel)⟩
theorem lw_p63 : lw_okq (⟨"LeverFrameModel", "readSection", "()Z"⟩, 51) := ⟨⟨by decide +kernel, by decide +kernel⟩, List.mem_of_getElem? (i := 1468) (by decide +kernel), List.mem_of_getElem? (i := 1701) (by decide +kernel), List.mem_of_getElem? (i := 1702) (by decide +kernel)⟩
def lw_privs_4 : List (MethodName × Nat) := [(⟨"LeverFrame$Sentence", "readAll", "(LLeverFrame$Text;LLeverFrame$Plan;I)Z"⟩, 7), (⟨"LeverFrame$Sentence", "readOne", "(LLeverFrame$Text;LLeverFrame$Plan;I)Z"⟩, 7), (⟨"LeverFrame$Sentence", "addStep", "(III)V"⟩, 7), (⟨"LeverFrame$Sentence", "readPlainOne", "(LLeverFrame$Text;LLeverFrame$Plan;I)Z"⟩, 7), (⟨"LeverFrame$Sentence", "trainsOfStep", "(LLeverFrame$Plan;LLeverFrame$State;I)I"⟩, 7), (⟨"LeverFrame$Sentence", "isTrueOf", "(LLeverFrame$State;II)Z"⟩, 7), (⟨"LeverFrame$Sentence", "compares", "(II)Z"⟩, 7), (⟨"java/lang/Throwable", "fillInStackTrace", "(I)Ljava/lang/Throwable;"⟩, 6), (⟨"LeverFrameModel", "four", "(I)V"⟩, 51), (⟨"LeverFrameModel", "clears", "()V"⟩, 51), (⟨"LeverFrameModel", "taken", "(I)V"⟩, 51), (⟨"LeverFrameModel", "next", "()V"⟩, 51), (⟨"LeverFrameModel", "peek", "()I"⟩, 51), (⟨"LeverFrameModel", "readLine", "()Z"⟩, 51), (⟨"LeverFrameModel", "isWord", "(J)Z"⟩, 51), (⟨"LeverFrameModel", "readSection", "()Z"⟩, 51)]
theorem lw_r4 : ∀ q ∈ lw_privs_4, lw_okq q := List.forall_mem_cons.mpr ⟨lw_p48, List.forall_mem_cons.mpr ⟨lw_p49, List.forall_mem_cons.mpr ⟨lw_p50, List.forall_mem_cons.mpr ⟨lw_p51, List.forall_mem_cons.mpr ⟨lw_p52, List.forall_mem_cons.mpr ⟨lw_p53, List.forall_mem_cons.mpr ⟨lw_p54, List.forall_mem_cons.mpr ⟨lw_p55, List.forall_mem_cons.mpr ⟨lw_p56, List.forall_mem_cons.mpr ⟨lw_p57, List.forall_mem_cons.mpr ⟨lw_p58, List.forall_mem_cons.mpr ⟨lw_p59, List.forall_mem_cons.mpr ⟨lw_p60, List.forall_mem_cons.mpr ⟨lw_p61, List.forall_mem_cons.mpr ⟨lw_p62, List.forall_mem_cons.mpr ⟨lw_p63, fun _ h => absurd h List.not_mem_nil⟩⟩⟩⟩⟩⟩⟩⟩⟩⟩⟩⟩⟩⟩⟩⟩
theorem lw_p64 : lw_okq (⟨"LeverFrameModel", "bad", "(I)Z"⟩, 51) := ⟨⟨by decide +kernel, by decide +kernel⟩, List.mem_of_getElem? (i := 1468) (by decide +kernel), List.mem_of_getElem? (i := 1705) (by decide +kernel), List.mem_of_getElem? (i := 1706) (by decide +kernel)⟩
theorem lw_p65 : lw_okq (⟨"LeverFrameModel", "fresh", "(I)Z"⟩, 51) := ⟨⟨by decide +kernel, by decide +kernel⟩, List.mem_of_getElem? (i := 1468) (by decide +kernel), List.mem_of_getElem? (i := 1709) (by decide +kernel), List.mem_of_getElem? (i := 1710) (by decide +kernel)⟩
theorem lw_p66 : lw_okq (⟨"LeverFrameModel", "isName", "()Z"⟩, 51) := ⟨⟨by decide +kernel, by decide +kernel⟩, List.mem_of_getElem? (i := 1468) (by decide +kernel), List.mem_of_getElem? (i := 1713) (by decide +kernel), List.mem_of_getElem? (i := 1714) (by decide +kernel)⟩
theorem lw_p67 : lw_okq (⟨"LeverFrameModel", "seek", "(II)I"⟩, 51) := ⟨⟨by decide +kernel, by decide +kernel⟩, List.mem_of_getElem? (i := 1468) (by decide +kernel), List.mem_of_getElem? (i := 1717) (by decide +kernel), List.mem_of_getElem? (i := 1718) (by decide +kernel)⟩
theorem lw_p68 : lw_okq (⟨"LeverFrameModel", "puts", "(III)Z"⟩, 51) := ⟨⟨by decide +kernel, by decide +kernel⟩, List.mem_of_getElem? (i := 1468) (by decide +kernel), List.mem_of_getElem? (i := 1721) (by decide +kernel), List.mem_of_getElem? (i := 1722) (by decide +kernel)⟩
theorem lw_p69 : lw_okq (⟨"LeverFrameModel", "takes", "(II)Z"⟩, 51) := ⟨⟨by decide +kernel, by decide +kernel⟩, List.mem_of_getElem? (i := 1468) (by decide +kernel), List.mem_of_getElem? (i := 1725) (by decide +kernel), List.mem_of_getElem? (i := 1726) (by decide +kernel)⟩
theorem lw_p70 : lw_okq (⟨"LeverFrameModel", "readPoints", "()Z"⟩, 51) := ⟨⟨by decide +kernel, by decide +kernel⟩, List.mem_of_getElem? (i := 1468) (by decide +kernel), List.mem_of_getElem? (i := 1732) (by decide +kernel), List.mem_of_getElem? (i := 1733) (by decide +kernel)⟩
theorem lw_p71 : lw_okq (⟨"LeverFrameModel", "takesName", "(II)Z"⟩, 51) := ⟨⟨by decide +kernel, by decide +kernel⟩, List.mem_of_getElem? (i := 1468) (by decide +kernel), List.mem_of_getElem? (i := 1736) (by decide +kernel), List.mem_of_getElem? (i := 1737) (by decide +kernel)⟩
theorem lw_p72 : lw_okq (⟨"LeverFrameModel", "looksAt", "(II)Z"⟩, 51) := ⟨⟨by decide +kernel, by decide +kernel⟩, List.mem_of_getElem? (i := 1468) (by decide +kernel), List.mem_of_getElem? (i := 1740) (by decide +kernel), List.mem_of_getElem? (i := 1741) (by decide +kernel)⟩
theorem lw_p73 : lw_okq (⟨"LeverFrameModel", "readTrack", "()Z"⟩, 51) := ⟨⟨by decide +kernel, by decide +kernel⟩, List.mem_of_getElem? (i := 1468) (by decide +kernel), List.mem_of_getElem? (i := 1744) (by decide +kernel), List.mem_of_getElem? (i := 1745) (by decide +kernel)⟩
theorem lw_p74 : lw_okq (⟨"LeverFrameModel", "readLie", "(I)Z"⟩, 51) := ⟨⟨by decide +kernel, by decide +kernel⟩, List.mem_of_getElem? (i := 1468) (by decide +kernel), List.mem_of_getElem? (i := 1748) (by decide +kernel), List.mem_of_getElem? (i := 1749) (by decide +kernel)⟩
theorem lw_p75 : lw_okq (⟨"LeverFrameModel", "readSignal", "()Z"⟩, 51) := ⟨⟨by decide +kernel, by decide +kernel⟩, List.mem_of_getElem? (i := 1468) (by decide +kernel), List.mem_of_getElem? (i := 1752) (by decide +kernel), List.mem_of_getElem? (i := 1753) (by decide +kernel)⟩
theorem lw_p76 : lw_okq (⟨"LeverFrameModel", "wayWord", "()I"⟩, 51) := ⟨⟨by decide +kernel, by decide +kernel⟩, List.mem_of_getElem? (i := 1468) (by decide +kernel), List.mem_of_getElem? (i := 1756) (by decide +kernel), List.mem_of_getElem? (i := 1757) (by decide +kernel)⟩
theorem lw_p77 : lw_okq (⟨"LeverFrameModel", "readRoute", "()Z"⟩, 51) := ⟨⟨by decide +kernel, by decide +kernel⟩, List.mem_of_getElem? (i := 1468) (by decide +kernel), List.mem_of_getElem? (i := 1760) (by decide +kernel), List.mem_of_getElem? (i := 1761) (by decide +kernel)⟩
theorem lw_p78 : lw_okq (⟨"LeverFrameModel", "readOver", "()Z"⟩, 51) := ⟨⟨by decide +kernel, by decide +kernel⟩, List.mem_of_getElem? (i := 1468) (by decide +kernel), List.mem_of_getElem? (i := 1764) (by decide +kernel), List.mem_of_getElem? (i := 1765) (by decide +kernel)⟩
theorem lw_p79 : lw_okq (⟨"LeverFrameModel", "readLock", "()Z"⟩, 51) := ⟨⟨by decide +kernel, by decide +kernel⟩, List.mem_of_getElem? (i := 1468) (by decide +kernel), List.mem_of_getElem? (i := 1768) (by decide +kernel), List.mem_of_getElem? (i := 1769) (by decide +kernel)⟩
def lw_privs_5 : List (MethodName × Nat) := [(⟨"LeverFrameModel", "bad", "(I)Z"⟩, 51), (⟨"LeverFrameModel", "fresh", "(I)Z"⟩, 51), (⟨"LeverFrameModel", "isName", "()Z"⟩, 51), (⟨"LeverFrameModel", "seek", "(II)I"⟩, 51), (⟨"LeverFrameModel", "puts", "(III)Z"⟩, 51), (⟨"LeverFrameModel", "takes", "(II)Z"⟩, 51), (⟨"LeverFrameModel", "readPoints", "()Z"⟩, 51), (⟨"LeverFrameModel", "takesName", "(II)Z"⟩, 51), (⟨"LeverFrameModel", "looksAt", "(II)Z"⟩, 51), (⟨"LeverFrameModel", "readTrack", "()Z"⟩, 51), (⟨"LeverFrameModel", "readLie", "(I)Z"⟩, 51), (⟨"LeverFrameModel", "readSignal", "()Z"⟩, 51), (⟨"LeverFrameModel", "wayWord", "()I"⟩, 51), (⟨"LeverFrameModel", "readRoute", "()Z"⟩, 51), (⟨"LeverFrameModel", "readOver", "()Z"⟩, 51), (⟨"LeverFrameModel", "readLock", "()Z"⟩, 51)]
theorem lw_r5 : ∀ q ∈ lw_privs_5, lw_okq q := List.forall_mem_cons.mpr ⟨lw_p64, List.forall_mem_cons.mpr ⟨lw_p65, List.forall_mem_cons.mpr ⟨lw_p66, List.forall_mem_cons.mpr ⟨lw_p67, List.forall_mem_cons.mpr ⟨lw_p68, List.forall_mem_cons.mpr ⟨lw_p69, List.forall_mem_cons.mpr ⟨lw_p70, List.forall_mem_cons.mpr ⟨lw_p71, List.forall_mem_cons.mpr ⟨lw_p72, List.forall_mem_cons.mpr ⟨lw_p73, List.forall_mem_cons.mpr ⟨lw_p74, List.forall_mem_cons.mpr ⟨lw_p75, List.forall_mem_cons.mpr ⟨lw_p76, List.forall_mem_cons.mpr ⟨lw_p77, List.forall_mem_cons.mpr ⟨lw_p78, List.forall_mem_cons.mpr ⟨lw_p79, fun _ h => absurd h List.not_mem_nil⟩⟩⟩⟩⟩⟩⟩⟩⟩⟩⟩⟩⟩⟩⟩⟩
theorem lw_p80 : lw_okq (⟨"LeverFrameModel", "readTrain", "()Z"⟩, 51) := ⟨⟨by decide +kernel, by decide +kernel⟩, List.mem_of_getElem? (i := 1468) (by decide +kernel), List.mem_of_getElem? (i := 1775) (by decide +kernel), List.mem_of_getElem? (i := 1776) (by decide +kernel)⟩
theorem lw_p81 : lw_okq (⟨"LeverFrameModel", "sign", "(I)Z"⟩, 51) := ⟨⟨by decide +kernel, by decide +kernel⟩, List.mem_of_getElem? (i := 1468) (by decide +kernel), List.mem_of_getElem? (i := 1779) (by decide +kernel), List.mem_of_getElem? (i := 1780) (by decide +kernel)⟩
theorem lw_p82 : lw_okq (⟨"LeverFrameModel", "isSign", "(I)Z"⟩, 51) := ⟨⟨by decide +kernel, by decide +kernel⟩, List.mem_of_getElem? (i := 1468) (by decide +kernel), List.mem_of_getElem? (i := 1783) (by decide +kernel), List.mem_of_getElem? (i := 1784) (by decide +kernel)⟩
theorem lw_p83 : lw_okq (⟨"LeverFrameModel", "isSection", "(I)Z"⟩, 51) := ⟨⟨by decide +kernel, by decide +kernel⟩, List.mem_of_getElem? (i := 1468) (by decide +kernel), List.mem_of_getElem? (i := 1795) (by decide +kernel), List.mem_of_getElem? (i := 1796) (by decide +kernel)⟩
theorem lw_p84 : lw_okq (⟨"LeverFrameModel", "sectionsOf", "(I)I"⟩, 51) := ⟨⟨by decide +kernel, by decide +kernel⟩, List.mem_of_getElem? (i := 1468) (by decide +kernel), List.mem_of_getElem? (i := 1799) (by decide +kernel), List.mem_of_getElem? (i := 1800) (by decide +kernel)⟩
theorem lw_p85 : lw_okq (⟨"LeverFrameModel", "trainIn", "(II)I"⟩, 51) := ⟨⟨by decide +kernel, by decide +kernel⟩, List.mem_of_getElem? (i := 1468) (by decide +kernel), List.mem_of_getElem? (i := 1803) (by decide +kernel), List.mem_of_getElem? (i := 1804) (by decide +kernel)⟩
theorem lw_p86 : lw_okq (⟨"LeverFrameModel", "showsFull", "(I)Z"⟩, 51) := ⟨⟨by decide +kernel, by decide +kernel⟩, List.mem_of_getElem? (i := 1468) (by decide +kernel), List.mem_of_getElem? (i := 1807) (by decide +kernel), List.mem_of_getElem? (i := 1808) (by decide +kernel)⟩
theorem lw_p87 : lw_okq (⟨"LeverFrameModel", "showsBy", "(II)Z"⟩, 51) := ⟨⟨by decide +kernel, by decide +kernel⟩, List.mem_of_getElem? (i := 1468) (by decide +kernel), List.mem_of_getElem? (i := 1811) (by decide +kernel), List.mem_of_getElem? (i := 1812) (by decide +kernel)⟩
theorem lw_p88 : lw_okq (⟨"LeverFrameModel", "arePoints", "(I)Z"⟩, 51) := ⟨⟨by decide +kernel, by decide +kernel⟩, List.mem_of_getElem? (i := 1468) (by decide +kernel), List.mem_of_getElem? (i := 1819) (by decide +kernel), List.mem_of_getElem? (i := 1820) (by decide +kernel)⟩
theorem lw_p89 : lw_okq (⟨"LeverFrameModel", "wanting", "(II)I"⟩, 51) := ⟨⟨by decide +kernel, by decide +kernel⟩, List.mem_of_getElem? (i := 1468) (by decide +kernel), List.mem_of_getElem? (i := 1823) (by decide +kernel), List.mem_of_getElem? (i := 1824) (by decide +kernel)⟩
theorem lw_p90 : lw_okq (⟨"LeverFrameModel", "setOf", "(I)I"⟩, 51) := ⟨⟨by decide +kernel, by decide +kernel⟩, List.mem_of_getElem? (i := 1468) (by decide +kernel), List.mem_of_getElem? (i := 1831) (by decide +kernel), List.mem_of_getElem? (i := 1832) (by decide +kernel)⟩
theorem lw_p91 : lw_okq (⟨"LeverFrameModel", "routesOf", "(I)I"⟩, 51) := ⟨⟨by decide +kernel, by decide +kernel⟩, List.mem_of_getElem? (i := 1468) (by decide +kernel), List.mem_of_getElem? (i := 1835) (by decide +kernel), List.mem_of_getElem? (i := 1836) (by decide +kernel)⟩
theorem lw_p92 : lw_okq (⟨"LeverFrameModel", "isRoute", "(I)Z"⟩, 51) := ⟨⟨by decide +kernel, by decide +kernel⟩, List.mem_of_getElem? (i := 1468) (by decide +kernel), List.mem_of_getElem? (i := 1843) (by decide +kernel), List.mem_of_getElem? (i := 1844) (by decide +kernel)⟩
theorem lw_p93 : lw_okq (⟨"LeverFrameModel", "conflictsOf", "(I)I"⟩, 51) := ⟨⟨by decide +kernel, by decide +kernel⟩, List.mem_of_getElem? (i := 1468) (by decide +kernel), List.mem_of_getElem? (i := 1847) (by decide +kernel), List.mem_of_getElem? (i := 1848) (by decide +kernel)⟩
theorem lw_p94 : lw_okq (⟨"LeverFrameModel", "isConflict", "(II)Z"⟩, 51) := ⟨⟨by decide +kernel, by decide +kernel⟩, List.mem_of_getElem? (i := 1468) (by decide +kernel), List.mem_of_getElem? (i := 1851) (by decide +kernel), List.mem_of_getElem? (i := 1852) (by decide +kernel)⟩
theorem lw_p95 : lw_okq (⟨"LeverFrameModel", "isTrain", "(I)Z"⟩, 51) := ⟨⟨by decide +kernel, by decide +kernel⟩, List.mem_of_getElem? (i := 1468) (by decide +kernel), List.mem_of_getElem? (i := 1863) (by decide +kernel), List.mem_of_getElem? (i := 1864) (by decide +kernel)⟩
def lw_privs_6 : List (MethodName × Nat) := [(⟨"LeverFrameModel", "readTrain", "()Z"⟩, 51), (⟨"LeverFrameModel", "sign", "(I)Z"⟩, 51), (⟨"LeverFrameModel", "isSign", "(I)Z"⟩, 51), (⟨"LeverFrameModel", "isSection", "(I)Z"⟩, 51), (⟨"LeverFrameModel", "sectionsOf", "(I)I"⟩, 51), (⟨"LeverFrameModel", "trainIn", "(II)I"⟩, 51), (⟨"LeverFrameModel", "showsFull", "(I)Z"⟩, 51), (⟨"LeverFrameModel", "showsBy", "(II)Z"⟩, 51), (⟨"LeverFrameModel", "arePoints", "(I)Z"⟩, 51), (⟨"LeverFrameModel", "wanting", "(II)I"⟩, 51), (⟨"LeverFrameModel", "setOf", "(I)I"⟩, 51), (⟨"LeverFrameModel", "routesOf", "(I)I"⟩, 51), (⟨"LeverFrameModel", "isRoute", "(I)Z"⟩, 51), (⟨"LeverFrameModel", "conflictsOf", "(I)I"⟩, 51), (⟨"LeverFrameModel", "isConflict", "(II)Z"⟩, 51), (⟨"LeverFrameModel", "isTrain", "(I)Z"⟩, 51)]
theorem lw_r6 : ∀ q ∈ lw_privs_6, lw_okq q := List.forall_mem_cons.mpr ⟨lw_p80, List.forall_mem_cons.mpr ⟨lw_p81, List.forall_mem_cons.mpr ⟨lw_p82, List.forall_mem_cons.mpr ⟨lw_p83, List.forall_mem_cons.mpr ⟨lw_p84, List.forall_mem_cons.mpr ⟨lw_p85, List.forall_mem_cons.mpr ⟨lw_p86, List.forall_mem_cons.mpr ⟨lw_p87, List.forall_mem_cons.mpr ⟨lw_p88, List.forall_mem_cons.mpr ⟨lw_p89, List.forall_mem_cons.mpr ⟨lw_p90, List.forall_mem_cons.mpr ⟨lw_p91, List.forall_mem_cons.mpr ⟨lw_p92, List.forall_mem_cons.mpr ⟨lw_p93, List.forall_mem_cons.mpr ⟨lw_p94, List.forall_mem_cons.mpr ⟨lw_p95, fun _ h => absurd h List.not_mem_nil⟩⟩⟩⟩⟩⟩⟩⟩⟩⟩⟩⟩⟩⟩⟩⟩
theorem lw_p96 : lw_okq (⟨"LeverFrameModel", "throwsIf", "(Z)Z"⟩, 51) := ⟨⟨by decide +kernel, by decide +kernel⟩, List.mem_of_getElem? (i := 1468) (by decide +kernel), List.mem_of_getElem? (i := 1867) (by decide +kernel), List.mem_of_getElem? (i := 1868) (by decide +kernel)⟩
theorem lw_p97 : lw_okq (⟨"LeverFrameModel", "usedBy", "(I)I"⟩, 51) := ⟨⟨by decide +kernel, by decide +kernel⟩, List.mem_of_getElem? (i := 1468) (by decide +kernel), List.mem_of_getElem? (i := 1871) (by decide +kernel), List.mem_of_getElem? (i := 1872) (by decide +kernel)⟩
theorem lw_p98 : lw_okq (⟨"LeverFrameModel", "busy", "()I"⟩, 51) := ⟨⟨by decide +kernel, by decide +kernel⟩, List.mem_of_getElem? (i := 1468) (by decide +kernel), List.mem_of_getElem? (i := 1879) (by decide +kernel), List.mem_of_getElem? (i := 1880) (by decide +kernel)⟩
theorem lw_p99 : lw_okq (⟨"LeverFrameModel", "whySet", "(I)I"⟩, 51) := ⟨⟨by decide +kernel, by decide +kernel⟩, List.mem_of_getElem? (i := 1468) (by decide +kernel), List.mem_of_getElem? (i := 1887) (by decide +kernel), List.mem_of_getElem? (i := 1888) (by decide +kernel)⟩
theorem lw_p100 : lw_okq (⟨"LeverFrameModel", "rivals", "(I)I"⟩, 51) := ⟨⟨by decide +kernel, by decide +kernel⟩, List.mem_of_getElem? (i := 1468) (by decide +kernel), List.mem_of_getElem? (i := 1891) (by decide +kernel), List.mem_of_getElem? (i := 1892) (by decide +kernel)⟩
theorem lw_p101 : lw_okq (⟨"LeverFrameModel", "wrongPoints", "(I)I"⟩, 51) := ⟨⟨by decide +kernel, by decide +kernel⟩, List.mem_of_getElem? (i := 1468) (by decide +kernel), List.mem_of_getElem? (i := 1895) (by decide +kernel), List.mem_of_getElem? (i := 1896) (by decide +kernel)⟩
theorem lw_p102 : lw_okq (⟨"LeverFrameModel", "hasFull", "(I)Z"⟩, 51) := ⟨⟨by decide +kernel, by decide +kernel⟩, List.mem_of_getElem? (i := 1468) (by decide +kernel), List.mem_of_getElem? (i := 1899) (by decide +kernel), List.mem_of_getElem? (i := 1900) (by decide +kernel)⟩
theorem lw_p103 : lw_okq (⟨"LeverFrameModel", "stores", "()V"⟩, 51) := ⟨⟨by decide +kernel, by decide +kernel⟩, List.mem_of_getElem? (i := 1468) (by decide +kernel), List.mem_of_getElem? (i := 1903) (by decide +kernel), List.mem_of_getElem? (i := 1904) (by decide +kernel)⟩
theorem lw_p104 : lw_okq (⟨"LeverFrameModel", "putsBack", "(I)V"⟩, 51) := ⟨⟨by decide +kernel, by decide +kernel⟩, List.mem_of_getElem? (i := 1468) (by decide +kernel), List.mem_of_getElem? (i := 1911) (by decide +kernel), List.mem_of_getElem? (i := 1912) (by decide +kernel)⟩
theorem lw_p105 : lw_okq (⟨"LeverFrameModel", "isMet", "(I)Z"⟩, 51) := ⟨⟨by decide +kernel, by decide +kernel⟩, List.mem_of_getElem? (i := 1468) (by decide +kernel), List.mem_of_getElem? (i := 1915) (by decide +kernel), List.mem_of_getElem? (i := 1916) (by decide +kernel)⟩
theorem lw_p106 : lw_okq (⟨"LeverFrameModel", "whyThrow", "(I)I"⟩, 51) := ⟨⟨by decide +kernel, by decide +kernel⟩, List.mem_of_getElem? (i := 1468) (by decide +kernel), List.mem_of_getElem? (i := 1923) (by decide +kernel), List.mem_of_getElem? (i := 1924) (by decide +kernel)⟩
theorem lw_p107 : lw_okq (⟨"LeverFrameModel", "goesOn", "(I)I"⟩, 51) := ⟨⟨by decide +kernel, by decide +kernel⟩, List.mem_of_getElem? (i := 1468) (by decide +kernel), List.mem_of_getElem? (i := 1939) (by decide +kernel), List.mem_of_getElem? (i := 1940) (by decide +kernel)⟩
theorem lw_p108 : lw_okq (⟨"LeverFrameModel", "tick", "()Z"⟩, 51) := ⟨⟨by decide +kernel, by decide +kernel⟩, List.mem_of_getElem? (i := 1468) (by decide +kernel), List.mem_of_getElem? (i := 1943) (by decide +kernel), List.mem_of_getElem? (i := 1944) (by decide +kernel)⟩
theorem lw_p109 : lw_okq (⟨"LeverFrameModel", "moves", "(I)V"⟩, 51) := ⟨⟨by decide +kernel, by decide +kernel⟩, List.mem_of_getElem? (i := 1468) (by decide +kernel), List.mem_of_getElem? (i := 1947) (by decide +kernel), List.mem_of_getElem? (i := 1948) (by decide +kernel)⟩
theorem lw_p110 : lw_okq (⟨"LeverFrameModel", "goesTo", "(I)I"⟩, 51) := ⟨⟨by decide +kernel, by decide +kernel⟩, List.mem_of_getElem? (i := 1468) (by decide +kernel), List.mem_of_getElem? (i := 1951) (by decide +kernel), List.mem_of_getElem? (i := 1952) (by decide +kernel)⟩
theorem lw_p111 : lw_okq (⟨"LeverFrameModel", "signalFor", "(I)I"⟩, 51) := ⟨⟨by decide +kernel, by decide +kernel⟩, List.mem_of_getElem? (i := 1468) (by decide +kernel), List.mem_of_getElem? (i := 1955) (by decide +kernel), List.mem_of_getElem? (i := 1956) (by decide +kernel)⟩
def lw_privs_7 : List (MethodName × Nat) := [(⟨"LeverFrameModel", "throwsIf", "(Z)Z"⟩, 51), (⟨"LeverFrameModel", "usedBy", "(I)I"⟩, 51), (⟨"LeverFrameModel", "busy", "()I"⟩, 51), (⟨"LeverFrameModel", "whySet", "(I)I"⟩, 51), (⟨"LeverFrameModel", "rivals", "(I)I"⟩, 51), (⟨"LeverFrameModel", "wrongPoints", "(I)I"⟩, 51), (⟨"LeverFrameModel", "hasFull", "(I)Z"⟩, 51), (⟨"LeverFrameModel", "stores", "()V"⟩, 51), (⟨"LeverFrameModel", "putsBack", "(I)V"⟩, 51), (⟨"LeverFrameModel", "isMet", "(I)Z"⟩, 51), (⟨"LeverFrameModel", "whyThrow", "(I)I"⟩, 51), (⟨"LeverFrameModel", "goesOn", "(I)I"⟩, 51), (⟨"LeverFrameModel", "tick", "()Z"⟩, 51), (⟨"LeverFrameModel", "moves", "(I)V"⟩, 51), (⟨"LeverFrameModel", "goesTo", "(I)I"⟩, 51), (⟨"LeverFrameModel", "signalFor", "(I)I"⟩, 51)]
theorem lw_r7 : ∀ q ∈ lw_privs_7, lw_okq q := List.forall_mem_cons.mpr ⟨lw_p96, List.forall_mem_cons.mpr ⟨lw_p97, List.forall_mem_cons.mpr ⟨lw_p98, List.forall_mem_cons.mpr ⟨lw_p99, List.forall_mem_cons.mpr ⟨lw_p100, List.forall_mem_cons.mpr ⟨lw_p101, List.forall_mem_cons.mpr ⟨lw_p102, List.forall_mem_cons.mpr ⟨lw_p103, List.forall_mem_cons.mpr ⟨lw_p104, List.forall_mem_cons.mpr ⟨lw_p105, List.forall_mem_cons.mpr ⟨lw_p106, List.forall_mem_cons.mpr ⟨lw_p107, List.forall_mem_cons.mpr ⟨lw_p108, List.forall_mem_cons.mpr ⟨lw_p109, List.forall_mem_cons.mpr ⟨lw_p110, List.forall_mem_cons.mpr ⟨lw_p111, fun _ h => absurd h List.not_mem_nil⟩⟩⟩⟩⟩⟩⟩⟩⟩⟩⟩⟩⟩⟩⟩⟩
theorem lw_p112 : lw_okq (⟨"LeverFrameModel", "meets", "(II)V"⟩, 51) := ⟨⟨by decide +kernel, by decide +kernel⟩, List.mem_of_getElem? (i := 1468) (by decide +kernel), List.mem_of_getElem? (i := 1959) (by decide +kernel), List.mem_of_getElem? (i := 1960) (by decide +kernel)⟩
theorem lw_p113 : lw_okq (⟨"LeverFrameModel", "isLacking", "(II)Z"⟩, 51) := ⟨⟨by decide +kernel, by decide +kernel⟩, List.mem_of_getElem? (i := 1468) (by decide +kernel), List.mem_of_getElem? (i := 1971) (by decide +kernel), List.mem_of_getElem? (i := 1972) (by decide +kernel)⟩
theorem lw_p114 : lw_okq (⟨"LeverFrameModel", "areTogether", "(I)Z"⟩, 51) := ⟨⟨by decide +kernel, by decide +kernel⟩, List.mem_of_getElem? (i := 1468) (by decide +kernel), List.mem_of_getElem? (i := 1998) (by decide +kernel), List.mem_of_getElem? (i := 1999) (by decide +kernel)⟩
theorem lw_p115 : lw_okq (⟨"LeverFrameModel", "laysWants", "(II)V"⟩, 51) := ⟨⟨by decide +kernel, by decide +kernel⟩, List.mem_of_getElem? (i := 1468) (by decide +kernel), List.mem_of_getElem? (i := 2018) (by decide +kernel), List.mem_of_getElem? (i := 2019) (by decide +kernel)⟩
theorem lw_p116 : lw_okq (⟨"LeverFrameModel", "isFrom", "(III)Z"⟩, 51) := ⟨⟨by decide +kernel, by decide +kernel⟩, List.mem_of_getElem? (i := 1468) (by decide +kernel), List.mem_of_getElem? (i := 2022) (by decide +kernel), List.mem_of_getElem? (i := 2023) (by decide +kernel)⟩
theorem lw_p117 : lw_okq (⟨"LeverFrameModel", "wantsBy", "(II)I"⟩, 51) := ⟨⟨by decide +kernel, by decide +kernel⟩, List.mem_of_getElem? (i := 1468) (by decide +kernel), List.mem_of_getElem? (i := 2026) (by decide +kernel), List.mem_of_getElem? (i := 2027) (by decide +kernel)⟩
theorem lw_p118 : lw_okq (⟨"LeverFrameModel", "endOf", "(I)I"⟩, 51) := ⟨⟨by decide +kernel, by decide +kernel⟩, List.mem_of_getElem? (i := 1468) (by decide +kernel), List.mem_of_getElem? (i := 2030) (by decide +kernel), List.mem_of_getElem? (i := 2031) (by decide +kernel)⟩
theorem lw_p119 : lw_okq (⟨"LeverFrameModel", "tries", "()V"⟩, 51) := ⟨⟨by decide +kernel, by decide +kernel⟩, List.mem_of_getElem? (i := 1468) (by decide +kernel), List.mem_of_getElem? (i := 2042) (by decide +kernel), List.mem_of_getElem? (i := 2043) (by decide +kernel)⟩
theorem lw_p120 : lw_okq (⟨"LeverFrameModel", "brings", "()V"⟩, 51) := ⟨⟨by decide +kernel, by decide +kernel⟩, List.mem_of_getElem? (i := 1468) (by decide +kernel), List.mem_of_getElem? (i := 2046) (by decide +kernel), List.mem_of_getElem? (i := 2047) (by decide +kernel)⟩
theorem lw_p121 : lw_okq (⟨"LeverFrameModel", "octet", "(I)I"⟩, 51) := ⟨⟨by decide +kernel, by decide +kernel⟩, List.mem_of_getElem? (i := 1468) (by decide +kernel), List.mem_of_getElem? (i := 2058) (by decide +kernel), List.mem_of_getElem? (i := 2059) (by decide +kernel)⟩
theorem lw_p122 : lw_okq (⟨"LeverFrameModel", "isFit", "(I)Z"⟩, 51) := ⟨⟨by decide +kernel, by decide +kernel⟩, List.mem_of_getElem? (i := 1468) (by decide +kernel), List.mem_of_getElem? (i := 2062) (by decide +kernel), List.mem_of_getElem? (i := 2063) (by decide +kernel)⟩
theorem lw_p123 : lw_okq (⟨"LeverFrameModel", "showsAt", "(II)I"⟩, 51) := ⟨⟨by decide +kernel, by decide +kernel⟩, List.mem_of_getElem? (i := 1468) (by decide +kernel), List.mem_of_getElem? (i := 2066) (by decide +kernel), List.mem_of_getElem? (i := 2067) (by decide +kernel)⟩
theorem lw_p124 : lw_okq (⟨"LeverFrameModel", "leftBy", "(I)I"⟩, 51) := ⟨⟨by decide +kernel, by decide +kernel⟩, List.mem_of_getElem? (i := 1468) (by decide +kernel), List.mem_of_getElem? (i := 2070) (by decide +kernel), List.mem_of_getElem? (i := 2071) (by decide +kernel)⟩
theorem lw_p125 : lw_okq (⟨"LeverFrameModel", "waitedInAll", "()I"⟩, 51) := ⟨⟨by decide +kernel, by decide +kernel⟩, List.mem_of_getElem? (i := 1468) (by decide +kernel), List.mem_of_getElem? (i := 2089) (by decide +kernel), List.mem_of_getElem? (i := 2090) (by decide +kernel)⟩
theorem lw_p126 : lw_okq (⟨"LeverFrameModel", "spells", "(J)V"⟩, 51) := ⟨⟨by decide +kernel, by decide +kernel⟩, List.mem_of_getElem? (i := 1468) (by decide +kernel), List.mem_of_getElem? (i := 2097) (by decide +kernel), List.mem_of_getElem? (i := 2098) (by decide +kernel)⟩
theorem lw_p127 : lw_okq (⟨"LeverFrameModel", "lays", "(I)V"⟩, 51) := ⟨⟨by decide +kernel, by decide +kernel⟩, List.mem_of_getElem? (i := 1468) (by decide +kernel), List.mem_of_getElem? (i := 2102) (by decide +kernel), List.mem_of_getElem? (i := 2103) (by decide +kernel)⟩
def lw_privs_8 : List (MethodName × Nat) := [(⟨"LeverFrameModel", "meets", "(II)V"⟩, 51), (⟨"LeverFrameModel", "isLacking", "(II)Z"⟩, 51), (⟨"LeverFrameModel", "areTogether", "(I)Z"⟩, 51), (⟨"LeverFrameModel", "laysWants", "(II)V"⟩, 51), (⟨"LeverFrameModel", "isFrom", "(III)Z"⟩, 51), (⟨"LeverFrameModel", "wantsBy", "(II)I"⟩, 51), (⟨"LeverFrameModel", "endOf", "(I)I"⟩, 51), (⟨"LeverFrameModel", "tries", "()V"⟩, 51), (⟨"LeverFrameModel", "brings", "()V"⟩, 51), (⟨"LeverFrameModel", "octet", "(I)I"⟩, 51), (⟨"LeverFrameModel", "isFit", "(I)Z"⟩, 51), (⟨"LeverFrameModel", "showsAt", "(II)I"⟩, 51), (⟨"LeverFrameModel", "leftBy", "(I)I"⟩, 51), (⟨"LeverFrameModel", "waitedInAll", "()I"⟩, 51), (⟨"LeverFrameModel", "spells", "(J)V"⟩, 51), (⟨"LeverFrameModel", "lays", "(I)V"⟩, 51)]
theorem lw_r8 : ∀ q ∈ lw_privs_8, lw_okq q := List.forall_mem_cons.mpr ⟨lw_p112, List.forall_mem_cons.mpr ⟨lw_p113, List.forall_mem_cons.mpr ⟨lw_p114, List.forall_mem_cons.mpr ⟨lw_p115, List.forall_mem_cons.mpr ⟨lw_p116, List.forall_mem_cons.mpr ⟨lw_p117, List.forall_mem_cons.mpr ⟨lw_p118, List.forall_mem_cons.mpr ⟨lw_p119, List.forall_mem_cons.mpr ⟨lw_p120, List.forall_mem_cons.mpr ⟨lw_p121, List.forall_mem_cons.mpr ⟨lw_p122, List.forall_mem_cons.mpr ⟨lw_p123, List.forall_mem_cons.mpr ⟨lw_p124, List.forall_mem_cons.mpr ⟨lw_p125, List.forall_mem_cons.mpr ⟨lw_p126, List.forall_mem_cons.mpr ⟨lw_p127, fun _ h => absurd h List.not_mem_nil⟩⟩⟩⟩⟩⟩⟩⟩⟩⟩⟩⟩⟩⟩⟩⟩
theorem lw_p128 : lw_okq (⟨"LeverFrameModel", "says", "(J)V"⟩, 51) := ⟨⟨by decide +kernel, by decide +kernel⟩, List.mem_of_getElem? (i := 1468) (by decide +kernel), List.mem_of_getElem? (i := 2106) (by decide +kernel), List.mem_of_getElem? (i := 2107) (by decide +kernel)⟩
theorem lw_p129 : lw_okq (⟨"LeverFrameModel", "draws", "(II)I"⟩, 51) := ⟨⟨by decide +kernel, by decide +kernel⟩, List.mem_of_getElem? (i := 1468) (by decide +kernel), List.mem_of_getElem? (i := 2119) (by decide +kernel), List.mem_of_getElem? (i := 2120) (by decide +kernel)⟩
theorem lw_p130 : lw_okq (⟨"LeverFrameModel", "drawTick", "()V"⟩, 51) := ⟨⟨by decide +kernel, by decide +kernel⟩, List.mem_of_getElem? (i := 1468) (by decide +kernel), List.mem_of_getElem? (i := 2123) (by decide +kernel), List.mem_of_getElem? (i := 2124) (by decide +kernel)⟩
theorem lw_p131 : lw_okq (⟨"LeverFrameModel", "draw", "(I)I"⟩, 51) := ⟨⟨by decide +kernel, by decide +kernel⟩, List.mem_of_getElem? (i := 1468) (by decide +kernel), List.mem_of_getElem? (i := 2127) (by decide +kernel), List.mem_of_getElem? (i := 2128) (by decide +kernel)⟩
theorem lw_p132 : lw_okq (⟨"LeverFrameModel", "bookLine", "()Z"⟩, 51) := ⟨⟨by decide +kernel, by decide +kernel⟩, List.mem_of_getElem? (i := 1468) (by decide +kernel), List.mem_of_getElem? (i := 2140) (by decide +kernel), List.mem_of_getElem? (i := 2141) (by decide +kernel)⟩
theorem lw_p133 : lw_okq (⟨"LeverFrameModel", "does", "(III)I"⟩, 51) := ⟨⟨by decide +kernel, by decide +kernel⟩, List.mem_of_getElem? (i := 1468) (by decide +kernel), List.mem_of_getElem? (i := 2144) (by decide +kernel), List.mem_of_getElem? (i := 2145) (by decide +kernel)⟩
theorem lw_p134 : lw_okq (⟨"LeverFrameModel", "nots", "()V"⟩, 51) := ⟨⟨by decide +kernel, by decide +kernel⟩, List.mem_of_getElem? (i := 1468) (by decide +kernel), List.mem_of_getElem? (i := 2156) (by decide +kernel), List.mem_of_getElem? (i := 2157) (by decide +kernel)⟩
theorem lw_p135 : lw_okq (⟨"LeverFrameModel", "code", "(III)V"⟩, 51) := ⟨⟨by decide +kernel, by decide +kernel⟩, List.mem_of_getElem? (i := 1468) (by decide +kernel), List.mem_of_getElem? (i := 2160) (by decide +kernel), List.mem_of_getElem? (i := 2161) (by decide +kernel)⟩
theorem lw_p136 : lw_okq (⟨"LeverFrameModel", "joins", "(I)V"⟩, 51) := ⟨⟨by decide +kernel, by decide +kernel⟩, List.mem_of_getElem? (i := 1468) (by decide +kernel), List.mem_of_getElem? (i := 2164) (by decide +kernel), List.mem_of_getElem? (i := 2165) (by decide +kernel)⟩
theorem lw_p137 : lw_okq (⟨"LeverFrameModel", "behind", "()Z"⟩, 51) := ⟨⟨by decide +kernel, by decide +kernel⟩, List.mem_of_getElem? (i := 1468) (by decide +kernel), List.mem_of_getElem? (i := 2168) (by decide +kernel), List.mem_of_getElem? (i := 2169) (by decide +kernel)⟩
theorem lw_p138 : lw_okq (⟨"LeverFrameModel", "operand", "()Z"⟩, 51) := ⟨⟨by decide +kernel, by decide +kernel⟩, List.mem_of_getElem? (i := 1468) (by decide +kernel), List.mem_of_getElem? (i := 2172) (by decide +kernel), List.mem_of_getElem? (i := 2173) (by decide +kernel)⟩
theorem lw_p139 : lw_okq (⟨"LeverFrameModel", "leafOf", "()I"⟩, 51) := ⟨⟨by decide +kernel, by decide +kernel⟩, List.mem_of_getElem? (i := 1468) (by decide +kernel), List.mem_of_getElem? (i := 2176) (by decide +kernel), List.mem_of_getElem? (i := 2177) (by decide +kernel)⟩
theorem lw_p140 : lw_okq (⟨"LeverFrameModel", "isSaid", "(I)Z"⟩, 51) := ⟨⟨by decide +kernel, by decide +kernel⟩, List.mem_of_getElem? (i := 1468) (by decide +kernel), List.mem_of_getElem? (i := 2184) (by decide +kernel), List.mem_of_getElem? (i := 2185) (by decide +kernel)⟩
theorem lw_p141 : lw_okq (⟨"LeverFrameModel", "isLeaf", "(IIII)Z"⟩, 51) := ⟨⟨by decide +kernel, by decide +kernel⟩, List.mem_of_getElem? (i := 1468) (by decide +kernel), List.mem_of_getElem? (i := 2188) (by decide +kernel), List.mem_of_getElem? (i := 2189) (by decide +kernel)⟩
def lw_privs_9 : List (MethodName × Nat) := [(⟨"LeverFrameModel", "says", "(J)V"⟩, 51), (⟨"LeverFrameModel", "draws", "(II)I"⟩, 51), (⟨"LeverFrameModel", "drawTick", "()V"⟩, 51), (⟨"LeverFrameModel", "draw", "(I)I"⟩, 51), (⟨"LeverFrameModel", "bookLine", "()Z"⟩, 51), (⟨"LeverFrameModel", "does", "(III)I"⟩, 51), (⟨"LeverFrameModel", "nots", "()V"⟩, 51), (⟨"LeverFrameModel", "code", "(III)V"⟩, 51), (⟨"LeverFrameModel", "joins", "(I)V"⟩, 51), (⟨"LeverFrameModel", "behind", "()Z"⟩, 51), (⟨"LeverFrameModel", "operand", "()Z"⟩, 51), (⟨"LeverFrameModel", "leafOf", "()I"⟩, 51), (⟨"LeverFrameModel", "isSaid", "(I)Z"⟩, 51), (⟨"LeverFrameModel", "isLeaf", "(IIII)Z"⟩, 51)]
theorem lw_r9 : ∀ q ∈ lw_privs_9, lw_okq q := List.forall_mem_cons.mpr ⟨lw_p128, List.forall_mem_cons.mpr ⟨lw_p129, List.forall_mem_cons.mpr ⟨lw_p130, List.forall_mem_cons.mpr ⟨lw_p131, List.forall_mem_cons.mpr ⟨lw_p132, List.forall_mem_cons.mpr ⟨lw_p133, List.forall_mem_cons.mpr ⟨lw_p134, List.forall_mem_cons.mpr ⟨lw_p135, List.forall_mem_cons.mpr ⟨lw_p136, List.forall_mem_cons.mpr ⟨lw_p137, List.forall_mem_cons.mpr ⟨lw_p138, List.forall_mem_cons.mpr ⟨lw_p139, List.forall_mem_cons.mpr ⟨lw_p140, List.forall_mem_cons.mpr ⟨lw_p141, fun _ h => absurd h List.not_mem_nil⟩⟩⟩⟩⟩⟩⟩⟩⟩⟩⟩⟩⟩⟩
def lw_privs : List (MethodName × Nat) := lw_privs_1 ++ (lw_privs_2 ++ (lw_privs_3 ++ (lw_privs_4 ++ (lw_privs_5 ++ (lw_privs_6 ++ (lw_privs_7 ++ (lw_privs_8 ++ (lw_privs_9))))))))
def lw_tbl : List Cond := k2_sels lw_privs ++ tables_1
theorem lw_privs_ok : ∀ q ∈ lw_privs, lw_okq q := by
  show ∀ q ∈ lw_privs_1 ++ (lw_privs_2 ++ (lw_privs_3 ++ (lw_privs_4 ++ (lw_privs_5 ++ (lw_privs_6 ++ (lw_privs_7 ++ (lw_privs_8 ++ (lw_privs_9)))))))), lw_okq q
  exact List.forall_mem_append.mpr ⟨lw_r1, List.forall_mem_append.mpr ⟨lw_r2, List.forall_mem_append.mpr ⟨lw_r3, List.forall_mem_append.mpr ⟨lw_r4, List.forall_mem_append.mpr ⟨lw_r5, List.forall_mem_append.mpr ⟨lw_r6, List.forall_mem_append.mpr ⟨lw_r7, List.forall_mem_append.mpr ⟨lw_r8, lw_r9⟩⟩⟩⟩⟩⟩⟩⟩
def RX0 : String := "LeverFrame$Book"
def TX0 : u_T := fun k => match k with
  | 0 => ("LeverFrame$Book", "words", "[I", true)
  | 1 => ("LeverFrame$Book", "things", "[I", true)
  | 2 => ("LeverFrame$Book", "full", "[I", true)
  | 3 => ("LeverFrame$Book", "lines", "I", false)
  | 4 => ("LeverFrame$Book", "judged", "Z", false)
  | 5 => ("LeverFrame$Book", "why", "I", false)
  | 6 => ("LeverFrame$Book", "goodLines", "I", false)
  | 7 => ("LeverFrame$Book", "tickThen", "I", false)
  | _ => ("LeverFrame$Book", "notFreeThen", "I", false)
def tyX0 : Nat → FieldType := fun k => match k with
  | 0 => .array .int
  | 1 => .array .int
  | 2 => .array .int
  | 3 => .int
  | 4 => .boolean
  | 5 => .int
  | 6 => .int
  | 7 => .int
  | _ => .int
abbrev wsX00 : List Cond := u_ws RX0 TX0 9
theorem nmX0 : ∀ a, a < 9 → ∀ b, b < 9 → a ≠ b → (TX0 a).2.1 ≠ (TX0 b).2.1 := by decide +kernel
theorem tyX0_ok : ∀ k, k < 9 → parseFieldDescriptor (TX0 k).2.2.1 = some (tyX0 k) := by decide +kernel
abbrev cX0_init : ByteArray := prog_2_method_1_code
def yX0_init : MethodName := ⟨RX0, "<init>", "()V"⟩
abbrev cX0_readLines : ByteArray := prog_2_method_2_code
def yX0_readLines : MethodName := ⟨RX0, "readLines", "(LLeverFrame$Text;LLeverFrame$Plan;)Z"⟩
abbrev cX0_readLine : ByteArray := prog_2_method_3_code
def yX0_readLine : MethodName := ⟨RX0, "readLine", "(LLeverFrame$Text;LLeverFrame$Plan;)Z"⟩
abbrev cX0_isAct : ByteArray := prog_2_method_4_code
def yX0_isAct : MethodName := ⟨RX0, "isAct", "(I)Z"⟩
abbrev cX0_judge : ByteArray := prog_2_method_5_code
def yX0_judge : MethodName := ⟨RX0, "judge", "(LLeverFrame$State;)I"⟩
abbrev cX0_liveLine : ByteArray := prog_2_method_6_code
def yX0_liveLine : MethodName := ⟨RX0, "liveLine", "(LLeverFrame$State;I)I"⟩
abbrev cX0_tensOf : ByteArray := prog_2_method_7_code
def yX0_tensOf : MethodName := ⟨RX0, "tensOf", "(I)I"⟩
abbrev cX0_tellJudgement : ByteArray := prog_2_method_8_code
def yX0_tellJudgement : MethodName := ⟨RX0, "tellJudgement", "(I)I"⟩
def RX1 : String := "LeverFrame$Counsel"
def TX1 : u_T := fun k => match k with
  | 0 => ("LeverFrame$Counsel", "pulled", "[I", true)
  | 1 => ("LeverFrame$Counsel", "pulledSize", "I", false)
  | 2 => ("LeverFrame$Counsel", "steps", "[I", true)
  | 3 => ("LeverFrame$Counsel", "stepsSize", "I", false)
  | 4 => ("LeverFrame$Counsel", "far", "[I", true)
  | _ => ("LeverFrame$Counsel", "tried", "[I", true)
def tyX1 : Nat → FieldType := fun k => match k with
  | 0 => .array .int
  | 1 => .int
  | 2 => .array .int
  | 3 => .int
  | 4 => .array .int
  | _ => .array .int
abbrev wsX10 : List Cond := u_ws RX1 TX1 6
theorem nmX1 : ∀ a, a < 6 → ∀ b, b < 6 → a ≠ b → (TX1 a).2.1 ≠ (TX1 b).2.1 := by decide +kernel
theorem tyX1_ok : ∀ k, k < 6 → parseFieldDescriptor (TX1 k).2.2.1 = some (tyX1 k) := by decide +kernel
abbrev cX1_init : ByteArray := prog_3_method_1_code
def yX1_init : MethodName := ⟨RX1, "<init>", "()V"⟩
abbrev cX1_workOutPulls : ByteArray := prog_3_method_2_code
def yX1_workOutPulls : MethodName := ⟨RX1, "workOutPulls", "(LLeverFrame$Plan;LLeverFrame$State;I)I"⟩
abbrev cX1_addPulls : ByteArray := prog_3_method_3_code
def yX1_addPulls : MethodName := ⟨RX1, "addPulls", "(III)V"⟩
abbrev cX1_pullAt : ByteArray := prog_3_method_4_code
def yX1_pullAt : MethodName := ⟨RX1, "pullAt", "(I)I"⟩
abbrev cX1_workOutPath : ByteArray := prog_3_method_5_code
def yX1_workOutPath : MethodName := ⟨RX1, "workOutPath", "(LLeverFrame$Plan;LLeverFrame$State;II)I"⟩
abbrev cX1_costOf : ByteArray := prog_3_method_6_code
def yX1_costOf : MethodName := ⟨RX1, "costOf", "(LLeverFrame$Plan;II)I"⟩
abbrev cX1_measure : ByteArray := prog_3_method_7_code
def yX1_measure : MethodName := ⟨RX1, "measure", "(LLeverFrame$Plan;II)V"⟩
abbrev cX1_walk : ByteArray := prog_3_method_8_code
def yX1_walk : MethodName := ⟨RX1, "walk", "(LLeverFrame$Plan;III)V"⟩
abbrev cX1_leastStep : ByteArray := prog_3_method_9_code
def yX1_leastStep : MethodName := ⟨RX1, "leastStep", "(LLeverFrame$Plan;III)I"⟩
abbrev cX1_stepAt : ByteArray := prog_3_method_10_code
def yX1_stepAt : MethodName := ⟨RX1, "stepAt", "(I)I"⟩
abbrev cX1_countRounds : ByteArray := prog_3_method_11_code
def yX1_countRounds : MethodName := ⟨RX1, "countRounds", "(LLeverFrame$Plan;)I"⟩
abbrev cX1_placeRoute : ByteArray := prog_3_method_12_code
def yX1_placeRoute : MethodName := ⟨RX1, "placeRoute", "(LLeverFrame$Plan;III)I"⟩
def RX2 : String := "LeverFrame$Diagnosis"
def TX2 : u_T := fun k => match k with
  | 0 => ("LeverFrame$Diagnosis", "failures", "[I", true)
  | 1 => ("LeverFrame$Diagnosis", "size", "I", false)
  | _ => ("LeverFrame$Diagnosis", "next", "I", false)
def tyX2 : Nat → FieldType := fun k => match k with
  | 0 => .array .int
  | 1 => .int
  | _ => .int
abbrev wsX20 : List Cond := u_ws RX2 TX2 3
theorem nmX2 : ∀ a, a < 3 → ∀ b, b < 3 → a ≠ b → (TX2 a).2.1 ≠ (TX2 b).2.1 := by decide +kernel
theorem tyX2_ok : ∀ k, k < 3 → parseFieldDescriptor (TX2 k).2.2.1 = some (tyX2 k) := by decide +kernel
abbrev cX2_init : ByteArray := prog_4_method_1_code
def yX2_init : MethodName := ⟨RX2, "<init>", "()V"⟩
abbrev cX2_workOut : ByteArray := prog_4_method_2_code
def yX2_workOut : MethodName := ⟨RX2, "workOut", "(LLeverFrame$Text;LLeverFrame$Plan;I)I"⟩
abbrev cX2_isReport : ByteArray := prog_4_method_3_code
def yX2_isReport : MethodName := ⟨RX2, "isReport", "(LLeverFrame$Text;LLeverFrame$Plan;)Z"⟩
abbrev cX2_keepFailures : ByteArray := prog_4_method_4_code
def yX2_keepFailures : MethodName := ⟨RX2, "keepFailures", "(LLeverFrame$Text;II)V"⟩
abbrev cX2_explains : ByteArray := prog_4_method_5_code
def yX2_explains : MethodName := ⟨RX2, "explains", "(LLeverFrame$Text;III)Z"⟩
abbrev cX2_shownBy : ByteArray := prog_4_method_6_code
def yX2_shownBy : MethodName := ⟨RX2, "shownBy", "(IIII)I"⟩
abbrev cX2_bestLook : ByteArray := prog_4_method_7_code
def yX2_bestLook : MethodName := ⟨RX2, "bestLook", "(II)I"⟩
abbrev cX2_failureAt : ByteArray := prog_4_method_8_code
def yX2_failureAt : MethodName := ⟨RX2, "failureAt", "(I)I"⟩
def RX3 : String := "LeverFrame$History"
def TX3 : u_T := fun k => match k with
  | 0 => ("LeverFrame$History", "before", "[LLeverFrame$State;", true)
  | _ => ("LeverFrame$History", "size", "I", false)
def tyX3 : Nat → FieldType := fun k => match k with
  | 0 => .array (.object "LeverFrame$State")
  | _ => .int
abbrev wsX30 : List Cond := u_ws RX3 TX3 2
theorem nmX3 : ∀ a, a < 2 → ∀ b, b < 2 → a ≠ b → (TX3 a).2.1 ≠ (TX3 b).2.1 := by decide +kernel
theorem tyX3_ok : ∀ k, k < 2 → parseFieldDescriptor (TX3 k).2.2.1 = some (tyX3 k) := by decide +kernel
abbrev cX3_init : ByteArray := prog_5_method_1_code
def yX3_init : MethodName := ⟨RX3, "<init>", "(LLeverFrame$Plan;)V"⟩
abbrev cX3_note : ByteArray := prog_5_method_2_code
def yX3_note : MethodName := ⟨RX3, "note", "(LLeverFrame$State;)V"⟩
abbrev cX3_keepNoted : ByteArray := prog_5_method_3_code
def yX3_keepNoted : MethodName := ⟨RX3, "keepNoted", "()V"⟩
abbrev cX3_takeBack : ByteArray := prog_5_method_4_code
def yX3_takeBack : MethodName := ⟨RX3, "takeBack", "(LLeverFrame$State;)I"⟩
def RX4 : String := "LeverFrame$Image"
def TX4 : u_T := fun k => match k with
  | 0 => ("LeverFrame$Image", "plan", "LLeverFrame$Plan;", true)
  | 1 => ("LeverFrame$Image", "state", "LLeverFrame$State;", true)
  | 2 => ("LeverFrame$Image", "saying", "LLeverFrame$Sentence;", true)
  | _ => ("LeverFrame$Image", "kept", "Z", false)
def tyX4 : Nat → FieldType := fun k => match k with
  | 0 => .object "LeverFrame$Plan"
  | 1 => .object "LeverFrame$State"
  | 2 => .object "LeverFrame$Sentence"
  | _ => .boolean
abbrev wsX40 : List Cond := u_ws RX4 TX4 4
theorem nmX4 : ∀ a, a < 4 → ∀ b, b < 4 → a ≠ b → (TX4 a).2.1 ≠ (TX4 b).2.1 := by decide +kernel
theorem tyX4_ok : ∀ k, k < 4 → parseFieldDescriptor (TX4 k).2.2.1 = some (tyX4 k) := by decide +kernel
abbrev cX4_init : ByteArray := prog_6_method_1_code
def yX4_init : MethodName := ⟨RX4, "<init>", "(LLeverFrame$Plan;)V"⟩
abbrev cX4_keep : ByteArray := prog_6_method_2_code
def yX4_keep : MethodName := ⟨RX4, "keep", "(LLeverFrame$Plan;LLeverFrame$State;LLeverFrame$Sentence;)V"⟩
abbrev cX4_giveBack : ByteArray := prog_6_method_3_code
def yX4_giveBack : MethodName := ⟨RX4, "giveBack", "(LLeverFrame$Plan;LLeverFrame$State;LLeverFrame$Sentence;)V"⟩
def RX5 : String := "LeverFrame$Plan"
def TX5 : u_T := fun k => match k with
  | 0 => ("LeverFrame$Plan", "count", "[I", true)
  | 1 => ("LeverFrame$Plan", "names", "[J", true)
  | 2 => ("LeverFrame$Plan", "lengths", "[I", true)
  | 3 => ("LeverFrame$Plan", "pointsIn", "[I", true)
  | 4 => ("LeverFrame$Plan", "trackFrom", "[I", true)
  | 5 => ("LeverFrame$Plan", "trackTo", "[I", true)
  | 6 => ("LeverFrame$Plan", "trackPoints", "[I", true)
  | 7 => ("LeverFrame$Plan", "trackLie", "[I", true)
  | 8 => ("LeverFrame$Plan", "signalIn", "[I", true)
  | 9 => ("LeverFrame$Plan", "signalWay", "[I", true)
  | 10 => ("LeverFrame$Plan", "routeSignal", "[I", true)
  | 11 => ("LeverFrame$Plan", "routeSize", "[I", true)
  | 12 => ("LeverFrame$Plan", "routeOver", "[I", true)
  | 13 => ("LeverFrame$Plan", "sections", "[I", true)
  | 14 => ("LeverFrame$Plan", "needsNormal", "[I", true)
  | 15 => ("LeverFrame$Plan", "needsReverse", "[I", true)
  | 16 => ("LeverFrame$Plan", "locked", "[I", true)
  | 17 => ("LeverFrame$Plan", "clashes", "[I", true)
  | 18 => ("LeverFrame$Plan", "trainIn", "[I", true)
  | _ => ("LeverFrame$Plan", "trainWay", "[I", true)
def tyX5 : Nat → FieldType := fun k => match k with
  | 0 => .array .int
  | 1 => .array .long
  | 2 => .array .int
  | 3 => .array .int
  | 4 => .array .int
  | 5 => .array .int
  | 6 => .array .int
  | 7 => .array .int
  | 8 => .array .int
  | 9 => .array .int
  | 10 => .array .int
  | 11 => .array .int
  | 12 => .array .int
  | 13 => .array .int
  | 14 => .array .int
  | 15 => .array .int
  | 16 => .array .int
  | 17 => .array .int
  | 18 => .array .int
  | _ => .array .int
abbrev wsX50 : List Cond := u_ws RX5 TX5 20
theorem nmX5 : ∀ a, a < 20 → ∀ b, b < 20 → a ≠ b → (TX5 a).2.1 ≠ (TX5 b).2.1 := by decide +kernel
theorem tyX5_ok : ∀ k, k < 20 → parseFieldDescriptor (TX5 k).2.2.1 = some (tyX5 k) := by decide +kernel
abbrev cX5_init : ByteArray := prog_7_method_1_code
def yX5_init : MethodName := ⟨RX5, "<init>", "()V"⟩
abbrev cX5_empty : ByteArray := prog_7_method_2_code
def yX5_empty : MethodName := ⟨RX5, "empty", "()V"⟩
abbrev cX5_copyFrom : ByteArray := prog_7_method_3_code
def yX5_copyFrom : MethodName := ⟨RX5, "copyFrom", "(LLeverFrame$Plan;)V"⟩
abbrev cX5_has : ByteArray := prog_7_method_4_code
def yX5_has : MethodName := ⟨RX5, "has", "(II)Z"⟩
abbrev cX5_nameOf : ByteArray := prog_7_method_5_code
def yX5_nameOf : MethodName := ⟨RX5, "nameOf", "(II)J"⟩
abbrev cX5_addOne : ByteArray := prog_7_method_6_code
def yX5_addOne : MethodName := ⟨RX5, "addOne", "(IJ)I"⟩
abbrev cX5_find : ByteArray := prog_7_method_7_code
def yX5_find : MethodName := ⟨RX5, "find", "(IJ)I"⟩
abbrev cX5_knows : ByteArray := prog_7_method_8_code
def yX5_knows : MethodName := ⟨RX5, "knows", "(J)Z"⟩
abbrev cX5_trackBetween : ByteArray := prog_7_method_9_code
def yX5_trackBetween : MethodName := ⟨RX5, "trackBetween", "(II)I"⟩
abbrev cX5_leadsTo : ByteArray := prog_7_method_10_code
def yX5_leadsTo : MethodName := ⟨RX5, "leadsTo", "(III)I"⟩
abbrev cX5_signalAt : ByteArray := prog_7_method_11_code
def yX5_signalAt : MethodName := ⟨RX5, "signalAt", "(II)I"⟩
abbrev cX5_sectionOf : ByteArray := prog_7_method_12_code
def yX5_sectionOf : MethodName := ⟨RX5, "sectionOf", "(II)I"⟩
abbrev cX5_endOf : ByteArray := prog_7_method_13_code
def yX5_endOf : MethodName := ⟨RX5, "endOf", "(I)I"⟩
abbrev cX5_routesOf : ByteArray := prog_7_method_14_code
def yX5_routesOf : MethodName := ⟨RX5, "routesOf", "(I)I"⟩
abbrev cX5_routesWith : ByteArray := prog_7_method_15_code
def yX5_routesWith : MethodName := ⟨RX5, "routesWith", "(I)I"⟩
abbrev cX5_routesNeeding : ByteArray := prog_7_method_16_code
def yX5_routesNeeding : MethodName := ⟨RX5, "routesNeeding", "(II)I"⟩
abbrev cX5_pointsWithin : ByteArray := prog_7_method_17_code
def yX5_pointsWithin : MethodName := ⟨RX5, "pointsWithin", "(I)I"⟩
abbrev cX5_workOutClashes : ByteArray := prog_7_method_18_code
def yX5_workOutClashes : MethodName := ⟨RX5, "workOutClashes", "()V"⟩
abbrev cX5_conflict : ByteArray := prog_7_method_19_code
def yX5_conflict : MethodName := ⟨RX5, "conflict", "(II)Z"⟩
abbrev cX5_lackingBehind : ByteArray := prog_7_method_20_code
def yX5_lackingBehind : MethodName := ⟨RX5, "lackingBehind", "(I)I"⟩
abbrev cX5_countLacking : ByteArray := prog_7_method_21_code
def yX5_countLacking : MethodName := ⟨RX5, "countLacking", "()I"⟩
abbrev cX5_lackingAt : ByteArray := prog_7_method_22_code
def yX5_lackingAt : MethodName := ⟨RX5, "lackingAt", "(I)I"⟩
abbrev cX5_countSpare : ByteArray := prog_7_method_23_code
def yX5_countSpare : MethodName := ⟨RX5, "countSpare", "()I"⟩
abbrev cX5_mostTogether : ByteArray := prog_7_method_24_code
def yX5_mostTogether : MethodName := ⟨RX5, "mostTogether", "()I"⟩
abbrev cX5_isPeaceful : ByteArray := prog_7_method_25_code
def yX5_isPeaceful : MethodName := ⟨RX5, "isPeaceful", "(I)Z"⟩
def RX6 : String := "LeverFrame$PlanReader"
def TX6 : u_T := fun k => match k with
  | 0 => ("LeverFrame$PlanReader", "draft", "LLeverFrame$Plan;", true)
  | 1 => ("LeverFrame$PlanReader", "lines", "I", false)
  | _ => ("LeverFrame$PlanReader", "holdTold", "Z", false)
def tyX6 : Nat → FieldType := fun k => match k with
  | 0 => .object "LeverFrame$Plan"
  | 1 => .int
  | _ => .boolean
abbrev wsX60 : List Cond := u_ws RX6 TX6 3
theorem nmX6 : ∀ a, a < 3 → ∀ b, b < 3 → a ≠ b → (TX6 a).2.1 ≠ (TX6 b).2.1 := by decide +kernel
theorem tyX6_ok : ∀ k, k < 3 → parseFieldDescriptor (TX6 k).2.2.1 = some (tyX6 k) := by decide +kernel
abbrev cX6_init : ByteArray := prog_8_method_1_code
def yX6_init : MethodName := ⟨RX6, "<init>", "()V"⟩
abbrev cX6_readPlan : ByteArray := prog_8_method_2_code
def yX6_readPlan : MethodName := ⟨RX6, "readPlan", "(LLeverFrame$Text;)Z"⟩
abbrev cX6_readLine : ByteArray := prog_8_method_3_code
def yX6_readLine : MethodName := ⟨RX6, "readLine", "(LLeverFrame$Text;)Z"⟩
abbrev cX6_hasRoom : ByteArray := prog_8_method_4_code
def yX6_hasRoom : MethodName := ⟨RX6, "hasRoom", "(LLeverFrame$Text;II)Z"⟩
abbrev cX6_goOn : ByteArray := prog_8_method_5_code
def yX6_goOn : MethodName := ⟨RX6, "goOn", "(LLeverFrame$Text;)Z"⟩
abbrev cX6_readSection : ByteArray := prog_8_method_6_code
def yX6_readSection : MethodName := ⟨RX6, "readSection", "(LLeverFrame$Text;)Z"⟩
abbrev cX6_readPoints : ByteArray := prog_8_method_7_code
def yX6_readPoints : MethodName := ⟨RX6, "readPoints", "(LLeverFrame$Text;)Z"⟩
abbrev cX6_readTrack : ByteArray := prog_8_method_8_code
def yX6_readTrack : MethodName := ⟨RX6, "readTrack", "(LLeverFrame$Text;)Z"⟩
abbrev cX6_readPointsBy : ByteArray := prog_8_method_9_code
def yX6_readPointsBy : MethodName := ⟨RX6, "readPointsBy", "(LLeverFrame$Text;II)I"⟩
abbrev cX6_addTrack : ByteArray := prog_8_method_10_code
def yX6_addTrack : MethodName := ⟨RX6, "addTrack", "(IIII)V"⟩
abbrev cX6_readSignal : ByteArray := prog_8_method_11_code
def yX6_readSignal : MethodName := ⟨RX6, "readSignal", "(LLeverFrame$Text;)Z"⟩
abbrev cX6_readRoute : ByteArray := prog_8_method_12_code
def yX6_readRoute : MethodName := ⟨RX6, "readRoute", "(LLeverFrame$Text;)Z"⟩
abbrev cX6_readOver : ByteArray := prog_8_method_13_code
def yX6_readOver : MethodName := ⟨RX6, "readOver", "(LLeverFrame$Text;)Z"⟩
abbrev cX6_canGoOver : ByteArray := prog_8_method_14_code
def yX6_canGoOver : MethodName := ⟨RX6, "canGoOver", "(II)Z"⟩
abbrev cX6_addOver : ByteArray := prog_8_method_15_code
def yX6_addOver : MethodName := ⟨RX6, "addOver", "(II)V"⟩
abbrev cX6_readLock : ByteArray := prog_8_method_16_code
def yX6_readLock : MethodName := ⟨RX6, "readLock", "(LLeverFrame$Text;)Z"⟩
abbrev cX6_readTrain : ByteArray := prog_8_method_17_code
def yX6_readTrain : MethodName := ⟨RX6, "readTrain", "(LLeverFrame$Text;)Z"⟩
abbrev cX6_readHold : ByteArray := prog_8_method_18_code
def yX6_readHold : MethodName := ⟨RX6, "readHold", "(LLeverFrame$Text;)Z"⟩
def RX7 : String := "LeverFrame$Sentence"
def TX7 : u_T := fun k => match k with
  | 0 => ("LeverFrame$Sentence", "known", "Z", false)
  | 1 => ("LeverFrame$Sentence", "ones", "I", false)
  | 2 => ("LeverFrame$Sentence", "size", "I", false)
  | 3 => ("LeverFrame$Sentence", "words", "[I", true)
  | 4 => ("LeverFrame$Sentence", "things", "[I", true)
  | 5 => ("LeverFrame$Sentence", "signs", "[I", true)
  | _ => ("LeverFrame$Sentence", "stack", "[I", true)
def tyX7 : Nat → FieldType := fun k => match k with
  | 0 => .boolean
  | 1 => .int
  | 2 => .int
  | 3 => .array .int
  | 4 => .array .int
  | 5 => .array .int
  | _ => .array .int
abbrev wsX70 : List Cond := u_ws RX7 TX7 7
theorem nmX7 : ∀ a, a < 7 → ∀ b, b < 7 → a ≠ b → (TX7 a).2.1 ≠ (TX7 b).2.1 := by decide +kernel
theorem tyX7_ok : ∀ k, k < 7 → parseFieldDescriptor (TX7 k).2.2.1 = some (tyX7 k) := by decide +kernel
abbrev cX7_init : ByteArray := prog_9_method_1_code
def yX7_init : MethodName := ⟨RX7, "<init>", "()V"⟩
abbrev cX7_copyFrom : ByteArray := prog_9_method_2_code
def yX7_copyFrom : MethodName := ⟨RX7, "copyFrom", "(LLeverFrame$Sentence;)V"⟩
abbrev cX7_readOnes : ByteArray := prog_9_method_3_code
def yX7_readOnes : MethodName := ⟨RX7, "readOnes", "(LLeverFrame$Text;LLeverFrame$Plan;)Z"⟩
abbrev cX7_addStep : ByteArray := prog_9_method_4_code
def yX7_addStep : MethodName := ⟨RX7, "addStep", "(III)V"⟩
abbrev cX7_readCond : ByteArray := prog_9_method_5_code
def yX7_readCond : MethodName := ⟨RX7, "readCond", "(LLeverFrame$Text;LLeverFrame$Plan;I)Z"⟩
abbrev cX7_readAll : ByteArray := prog_9_method_6_code
def yX7_readAll : MethodName := ⟨RX7, "readAll", "(LLeverFrame$Text;LLeverFrame$Plan;I)Z"⟩
abbrev cX7_readOne : ByteArray := prog_9_method_7_code
def yX7_readOne : MethodName := ⟨RX7, "readOne", "(LLeverFrame$Text;LLeverFrame$Plan;I)Z"⟩
abbrev cX7_readPlainOne : ByteArray := prog_9_method_8_code
def yX7_readPlainOne : MethodName := ⟨RX7, "readPlainOne", "(LLeverFrame$Text;LLeverFrame$Plan;I)Z"⟩
abbrev cX7_trainsFitting : ByteArray := prog_9_method_9_code
def yX7_trainsFitting : MethodName := ⟨RX7, "trainsFitting", "(LLeverFrame$Plan;LLeverFrame$State;)I"⟩
abbrev cX7_trainsOfStep : ByteArray := prog_9_method_10_code
def yX7_trainsOfStep : MethodName := ⟨RX7, "trainsOfStep", "(LLeverFrame$Plan;LLeverFrame$State;I)I"⟩
abbrev cX7_isTrueOf : ByteArray := prog_9_method_11_code
def yX7_isTrueOf : MethodName := ⟨RX7, "isTrueOf", "(LLeverFrame$State;II)Z"⟩
abbrev cX7_compares : ByteArray := prog_9_method_12_code
def yX7_compares : MethodName := ⟨RX7, "compares", "(II)Z"⟩
def RX8 : String := "LeverFrame$State"
def TX8 : u_T := fun k => match k with
  | 0 => ("LeverFrame$State", "plan", "LLeverFrame$Plan;", true)
  | 1 => ("LeverFrame$State", "tick", "I", false)
  | 2 => ("LeverFrame$State", "meets", "I", false)
  | 3 => ("LeverFrame$State", "reverse", "I", false)
  | 4 => ("LeverFrame$State", "failsClear", "I", false)
  | 5 => ("LeverFrame$State", "failsFull", "I", false)
  | 6 => ("LeverFrame$State", "crashed", "I", false)
  | 7 => ("LeverFrame$State", "waits", "I", false)
  | 8 => ("LeverFrame$State", "how", "[I", true)
  | 9 => ("LeverFrame$State", "held", "[I", true)
  | 10 => ("LeverFrame$State", "user", "[I", true)
  | 11 => ("LeverFrame$State", "at", "[I", true)
  | 12 => ("LeverFrame$State", "stay", "[I", true)
  | _ => ("LeverFrame$State", "waited", "[I", true)
def tyX8 : Nat → FieldType := fun k => match k with
  | 0 => .object "LeverFrame$Plan"
  | 1 => .int
  | 2 => .int
  | 3 => .int
  | 4 => .int
  | 5 => .int
  | 6 => .int
  | 7 => .int
  | 8 => .array .int
  | 9 => .array .int
  | 10 => .array .int
  | 11 => .array .int
  | 12 => .array .int
  | _ => .array .int
abbrev wsX80 : List Cond := u_ws RX8 TX8 14
theorem nmX8 : ∀ a, a < 14 → ∀ b, b < 14 → a ≠ b → (TX8 a).2.1 ≠ (TX8 b).2.1 := by decide +kernel
theorem tyX8_ok : ∀ k, k < 14 → parseFieldDescriptor (TX8 k).2.2.1 = some (tyX8 k) := by decide +kernel
abbrev cX8_init : ByteArray := prog_10_method_1_code
def yX8_init : MethodName := ⟨RX8, "<init>", "(LLeverFrame$Plan;)V"⟩
abbrev cX8_start : ByteArray := prog_10_method_2_code
def yX8_start : MethodName := ⟨RX8, "start", "()V"⟩
abbrev cX8_copyFrom : ByteArray := prog_10_method_3_code
def yX8_copyFrom : MethodName := ⟨RX8, "copyFrom", "(LLeverFrame$State;)V"⟩
abbrev cX8_occupied : ByteArray := prog_10_method_4_code
def yX8_occupied : MethodName := ⟨RX8, "occupied", "()I"⟩
abbrev cX8_showing : ByteArray := prog_10_method_5_code
def yX8_showing : MethodName := ⟨RX8, "showing", "()I"⟩
abbrev cX8_failing : ByteArray := prog_10_method_6_code
def yX8_failing : MethodName := ⟨RX8, "failing", "(I)I"⟩
abbrev cX8_leastTrainIn : ByteArray := prog_10_method_7_code
def yX8_leastTrainIn : MethodName := ⟨RX8, "leastTrainIn", "(II)I"⟩
abbrev cX8_notFree : ByteArray := prog_10_method_8_code
def yX8_notFree : MethodName := ⟨RX8, "notFree", "()I"⟩
abbrev cX8_routesUsedBy : ByteArray := prog_10_method_9_code
def yX8_routesUsedBy : MethodName := ⟨RX8, "routesUsedBy", "(I)I"⟩
abbrev cX8_setRouteOf : ByteArray := prog_10_method_10_code
def yX8_setRouteOf : MethodName := ⟨RX8, "setRouteOf", "(I)I"⟩
abbrev cX8_trainsOut : ByteArray := prog_10_method_11_code
def yX8_trainsOut : MethodName := ⟨RX8, "trainsOut", "()I"⟩
abbrev cX8_waitedByAll : ByteArray := prog_10_method_12_code
def yX8_waitedByAll : MethodName := ⟨RX8, "waitedByAll", "()I"⟩
abbrev cX8_pointsAgainst : ByteArray := prog_10_method_13_code
def yX8_pointsAgainst : MethodName := ⟨RX8, "pointsAgainst", "(I)I"⟩
abbrev cX8_barring : ByteArray := prog_10_method_14_code
def yX8_barring : MethodName := ⟨RX8, "barring", "(I)I"⟩
abbrev cX8_perform : ByteArray := prog_10_method_15_code
def yX8_perform : MethodName := ⟨RX8, "perform", "(III)I"⟩
abbrev cX8_whyNotSet : ByteArray := prog_10_method_16_code
def yX8_whyNotSet : MethodName := ⟨RX8, "whyNotSet", "(I)I"⟩
abbrev cX8_setRoute : ByteArray := prog_10_method_17_code
def yX8_setRoute : MethodName := ⟨RX8, "setRoute", "(I)I"⟩
abbrev cX8_putBack : ByteArray := prog_10_method_18_code
def yX8_putBack : MethodName := ⟨RX8, "putBack", "(I)I"⟩
abbrev cX8_freeByPuttingBack : ByteArray := prog_10_method_19_code
def yX8_freeByPuttingBack : MethodName := ⟨RX8, "freeByPuttingBack", "()I"⟩
abbrev cX8_isApproached : ByteArray := prog_10_method_20_code
def yX8_isApproached : MethodName := ⟨RX8, "isApproached", "(I)Z"⟩
abbrev cX8_throwPoints : ByteArray := prog_10_method_21_code
def yX8_throwPoints : MethodName := ⟨RX8, "throwPoints", "(I)I"⟩
abbrev cX8_failSection : ByteArray := prog_10_method_22_code
def yX8_failSection : MethodName := ⟨RX8, "failSection", "(II)I"⟩
abbrev cX8_mendSection : ByteArray := prog_10_method_23_code
def yX8_mendSection : MethodName := ⟨RX8, "mendSection", "(I)I"⟩
abbrev cX8_passTicks : ByteArray := prog_10_method_24_code
def yX8_passTicks : MethodName := ⟨RX8, "passTicks", "(I)I"⟩
abbrev cX8_passOne : ByteArray := prog_10_method_25_code
def yX8_passOne : MethodName := ⟨RX8, "passOne", "()V"⟩
abbrev cX8_runTrain : ByteArray := prog_10_method_26_code
def yX8_runTrain : MethodName := ⟨RX8, "runTrain", "(I)V"⟩
abbrev cX8_goalBySignal : ByteArray := prog_10_method_27_code
def yX8_goalBySignal : MethodName := ⟨RX8, "goalBySignal", "(II)I"⟩
abbrev cX8_goalByTracks : ByteArray := prog_10_method_28_code
def yX8_goalByTracks : MethodName := ⟨RX8, "goalByTracks", "(I)I"⟩
abbrev cX8_leadsNow : ByteArray := prog_10_method_29_code
def yX8_leadsNow : MethodName := ⟨RX8, "leadsNow", "(I)Z"⟩
abbrev cX8_enter : ByteArray := prog_10_method_30_code
def yX8_enter : MethodName := ⟨RX8, "enter", "(II)V"⟩
abbrev cX8_crash : ByteArray := prog_10_method_31_code
def yX8_crash : MethodName := ⟨RX8, "crash", "(II)V"⟩
abbrev cX8_passDrawn : ByteArray := prog_10_method_32_code
def yX8_passDrawn : MethodName := ⟨RX8, "passDrawn", "(II)I"⟩
abbrev cX8_stir : ByteArray := prog_10_method_33_code
def yX8_stir : MethodName := ⟨RX8, "stir", "(I)I"⟩
abbrev cX8_lotOf : ByteArray := prog_10_method_34_code
def yX8_lotOf : MethodName := ⟨RX8, "lotOf", "(II)I"⟩
abbrev cX8_actByLot : ByteArray := prog_10_method_35_code
def yX8_actByLot : MethodName := ⟨RX8, "actByLot", "(II)V"⟩
def RX9 : String := "LeverFrame$Tag"
def TX9 : u_T := fun k => match k with
  | 0 => ("LeverFrame$Tag", "bytes", "[I", true)
  | _ => ("LeverFrame$Tag", "size", "I", false)
def tyX9 : Nat → FieldType := fun k => match k with
  | 0 => .array .int
  | _ => .int
abbrev wsX90 : List Cond := u_ws RX9 TX9 2
theorem nmX9 : ∀ a, a < 2 → ∀ b, b < 2 → a ≠ b → (TX9 a).2.1 ≠ (TX9 b).2.1 := by decide +kernel
theorem tyX9_ok : ∀ k, k < 2 → parseFieldDescriptor (TX9 k).2.2.1 = some (tyX9 k) := by decide +kernel
abbrev cX9_init : ByteArray := prog_11_method_1_code
def yX9_init : MethodName := ⟨RX9, "<init>", "()V"⟩
abbrev cX9_write : ByteArray := prog_11_method_2_code
def yX9_write : MethodName := ⟨RX9, "write", "(LLeverFrame$Plan;LLeverFrame$State;I)V"⟩
abbrev cX9_addByte : ByteArray := prog_11_method_3_code
def yX9_addByte : MethodName := ⟨RX9, "addByte", "(I)V"⟩
abbrev cX9_addText : ByteArray := prog_11_method_4_code
def yX9_addText : MethodName := ⟨RX9, "addText", "(Ljava/lang/String;)V"⟩
abbrev cX9_addName : ByteArray := prog_11_method_5_code
def yX9_addName : MethodName := ⟨RX9, "addName", "(J)V"⟩
abbrev cX9_at : ByteArray := prog_11_method_6_code
def yX9_at : MethodName := ⟨RX9, "at", "(I)I"⟩
def RX10 : String := "LeverFrame$Text"
def TX10 : u_T := fun k => match k with
  | 0 => ("LeverFrame$Text", "bytes", "[I", true)
  | 1 => ("LeverFrame$Text", "size", "I", false)
  | 2 => ("LeverFrame$Text", "most", "I", false)
  | 3 => ("LeverFrame$Text", "reached", "I", false)
  | 4 => ("LeverFrame$Text", "kind", "I", false)
  | 5 => ("LeverFrame$Text", "place", "I", false)
  | 6 => ("LeverFrame$Text", "value", "I", false)
  | 7 => ("LeverFrame$Text", "letters", "J", false)
  | 8 => ("LeverFrame$Text", "key", "I", false)
  | 9 => ("LeverFrame$Text", "fault", "I", false)
  | 10 => ("LeverFrame$Text", "faultPlace", "I", false)
  | _ => ("LeverFrame$Text", "keys", "[J", true)
def tyX10 : Nat → FieldType := fun k => match k with
  | 0 => .array .int
  | 1 => .int
  | 2 => .int
  | 3 => .int
  | 4 => .int
  | 5 => .int
  | 6 => .int
  | 7 => .long
  | 8 => .int
  | 9 => .int
  | 10 => .int
  | _ => .array .long
abbrev wsX100 : List Cond := u_ws RX10 TX10 12
theorem nmX10 : ∀ a, a < 12 → ∀ b, b < 12 → a ≠ b → (TX10 a).2.1 ≠ (TX10 b).2.1 := by decide +kernel
theorem tyX10_ok : ∀ k, k < 12 → parseFieldDescriptor (TX10 k).2.2.1 = some (tyX10 k) := by decide +kernel
abbrev cX10_init : ByteArray := prog_12_method_1_code
def yX10_init : MethodName := ⟨RX10, "<init>", "()V"⟩
abbrev cX10_codesOfWords : ByteArray := prog_12_method_2_code
def yX10_codesOfWords : MethodName := ⟨RX10, "codesOfWords", "()[J"⟩
abbrev cX10_addNumber : ByteArray := prog_12_method_3_code
def yX10_addNumber : MethodName := ⟨RX10, "addNumber", "(I)V"⟩
abbrev cX10_begin : ByteArray := prog_12_method_4_code
def yX10_begin : MethodName := ⟨RX10, "begin", "(I)V"⟩
abbrev cX10_next : ByteArray := prog_12_method_5_code
def yX10_next : MethodName := ⟨RX10, "next", "()V"⟩
abbrev cX10_readRun : ByteArray := prog_12_method_6_code
def yX10_readRun : MethodName := ⟨RX10, "readRun", "()V"⟩
abbrev cX10_isBlank : ByteArray := prog_12_method_7_code
def yX10_isBlank : MethodName := ⟨RX10, "isBlank", "(I)Z"⟩
abbrev cX10_isLetter : ByteArray := prog_12_method_8_code
def yX10_isLetter : MethodName := ⟨RX10, "isLetter", "(I)Z"⟩
abbrev cX10_isDigit : ByteArray := prog_12_method_9_code
def yX10_isDigit : MethodName := ⟨RX10, "isDigit", "(I)Z"⟩
abbrev cX10_wrong : ByteArray := prog_12_method_10_code
def yX10_wrong : MethodName := ⟨RX10, "wrong", "(I)Z"⟩
abbrev cX10_isSign : ByteArray := prog_12_method_11_code
def yX10_isSign : MethodName := ⟨RX10, "isSign", "(C)Z"⟩
abbrev cX10_mustBe : ByteArray := prog_12_method_12_code
def yX10_mustBe : MethodName := ⟨RX10, "mustBe", "(C)Z"⟩
abbrev cX10_named : ByteArray := prog_12_method_13_code
def yX10_named : MethodName := ⟨RX10, "named", "(LLeverFrame$Plan;I)I"⟩
abbrev cX10_nextNamed : ByteArray := prog_12_method_14_code
def yX10_nextNamed : MethodName := ⟨RX10, "nextNamed", "(LLeverFrame$Plan;I)I"⟩
abbrev cX10_nextNewName : ByteArray := prog_12_method_15_code
def yX10_nextNewName : MethodName := ⟨RX10, "nextNewName", "(LLeverFrame$Plan;)Z"⟩
abbrev cX10_nextNumber : ByteArray := prog_12_method_16_code
def yX10_nextNumber : MethodName := ⟨RX10, "nextNumber", "(II)I"⟩
abbrev cX10_nextOfTwo : ByteArray := prog_12_method_17_code
def yX10_nextOfTwo : MethodName := ⟨RX10, "nextOfTwo", "(I)I"⟩
def RX11 : String := "LeverFrame"
def TX11 : u_T := fun k => match k with
  | 0 => ("LeverFrame", "tape", "LLeverFrame$Text;", true)
  | 1 => ("LeverFrame", "plan", "LLeverFrame$Plan;", true)
  | 2 => ("LeverFrame", "reader", "LLeverFrame$PlanReader;", true)
  | 3 => ("LeverFrame", "state", "LLeverFrame$State;", true)
  | 4 => ("LeverFrame", "trial", "LLeverFrame$State;", true)
  | 5 => ("LeverFrame", "history", "LLeverFrame$History;", true)
  | 6 => ("LeverFrame", "script", "LLeverFrame$Book;", true)
  | 7 => ("LeverFrame", "saying", "LLeverFrame$Sentence;", true)
  | 8 => ("LeverFrame", "draft", "LLeverFrame$Sentence;", true)
  | 9 => ("LeverFrame", "images", "[LLeverFrame$Image;", true)
  | 10 => ("LeverFrame", "counsel", "LLeverFrame$Counsel;", true)
  | 11 => ("LeverFrame", "diagnosis", "LLeverFrame$Diagnosis;", true)
  | 12 => ("LeverFrame", "label", "LLeverFrame$Tag;", true)
  | 13 => ("LeverFrame", "latestFault", "I", false)
  | _ => ("LeverFrame", "latestTogether", "I", false)
def tyX11 : Nat → FieldType := fun k => match k with
  | 0 => .object "LeverFrame$Text"
  | 1 => .object "LeverFrame$Plan"
  | 2 => .object "LeverFrame$PlanReader"
  | 3 => .object "LeverFrame$State"
  | 4 => .object "LeverFrame$State"
  | 5 => .object "LeverFrame$History"
  | 6 => .object "LeverFrame$Book"
  | 7 => .object "LeverFrame$Sentence"
  | 8 => .object "LeverFrame$Sentence"
  | 9 => .array (.object "LeverFrame$Image")
  | 10 => .object "LeverFrame$Counsel"
  | 11 => .object "LeverFrame$Diagnosis"
  | 12 => .object "LeverFrame$Tag"
  | 13 => .int
  | _ => .int
abbrev wsX110 : List Cond := u_ws RX11 TX11 15
theorem nmX11 : ∀ a, a < 15 → ∀ b, b < 15 → a ≠ b → (TX11 a).2.1 ≠ (TX11 b).2.1 := by decide +kernel
theorem tyX11_ok : ∀ k, k < 15 → parseFieldDescriptor (TX11 k).2.2.1 = some (tyX11 k) := by decide +kernel
abbrev cX11_init : ByteArray := prog_1_method_1_code
def yX11_init : MethodName := ⟨RX11, "<init>", "()V"⟩
abbrev cX11_feed : ByteArray := prog_1_method_2_code
def yX11_feed : MethodName := ⟨RX11, "feed", "(IIIII)I"⟩
abbrev cX11_end : ByteArray := prog_1_method_3_code
def yX11_end : MethodName := ⟨RX11, "end", "(I)Z"⟩
abbrev cX11_layout : ByteArray := prog_1_method_4_code
def yX11_layout : MethodName := ⟨RX11, "layout", "()I"⟩
abbrev cX11_fault : ByteArray := prog_1_method_5_code
def yX11_fault : MethodName := ⟨RX11, "fault", "()I"⟩
abbrev cX11_section : ByteArray := prog_1_method_6_code
def yX11_section : MethodName := ⟨RX11, "section", "(II)I"⟩
abbrev cX11_points : ByteArray := prog_1_method_7_code
def yX11_points : MethodName := ⟨RX11, "points", "(II)I"⟩
abbrev cX11_signal : ByteArray := prog_1_method_8_code
def yX11_signal : MethodName := ⟨RX11, "signal", "(II)I"⟩
abbrev cX11_route : ByteArray := prog_1_method_9_code
def yX11_route : MethodName := ⟨RX11, "route", "(II)I"⟩
abbrev cX11_over : ByteArray := prog_1_method_10_code
def yX11_over : MethodName := ⟨RX11, "over", "(II)I"⟩
abbrev cX11_train : ByteArray := prog_1_method_11_code
def yX11_train : MethodName := ⟨RX11, "train", "(II)I"⟩
abbrev cX11_now : ByteArray := prog_1_method_12_code
def yX11_now : MethodName := ⟨RX11, "now", "(I)I"⟩
abbrev cX11_set : ByteArray := prog_1_method_13_code
def yX11_set : MethodName := ⟨RX11, "set", "(I)I"⟩
abbrev cX11_back : ByteArray := prog_1_method_14_code
def yX11_back : MethodName := ⟨RX11, "back", "(I)I"⟩
abbrev cX11_turn : ByteArray := prog_1_method_15_code
def yX11_turn : MethodName := ⟨RX11, "turn", "(I)I"⟩
abbrev cX11_fail : ByteArray := prog_1_method_16_code
def yX11_fail : MethodName := ⟨RX11, "fail", "(II)I"⟩
abbrev cX11_mend : ByteArray := prog_1_method_17_code
def yX11_mend : MethodName := ⟨RX11, "mend", "(I)I"⟩
abbrev cX11_ticks : ByteArray := prog_1_method_18_code
def yX11_ticks : MethodName := ⟨RX11, "ticks", "(I)I"⟩
abbrev cX11_undo : ByteArray := prog_1_method_19_code
def yX11_undo : MethodName := ⟨RX11, "undo", "()I"⟩
abbrev cX11_lacking : ByteArray := prog_1_method_20_code
def yX11_lacking : MethodName := ⟨RX11, "lacking", "()I"⟩
abbrev cX11_lacks : ByteArray := prog_1_method_21_code
def yX11_lacks : MethodName := ⟨RX11, "lacks", "(I)I"⟩
abbrev cX11_spare : ByteArray := prog_1_method_22_code
def yX11_spare : MethodName := ⟨RX11, "spare", "()I"⟩
abbrev cX11_pulls : ByteArray := prog_1_method_23_code
def yX11_pulls : MethodName := ⟨RX11, "pulls", "(I)I"⟩
abbrev cX11_pullsAt : ByteArray := prog_1_method_24_code
def yX11_pullsAt : MethodName := ⟨RX11, "pullsAt", "(I)I"⟩
abbrev cX11_together : ByteArray := prog_1_method_25_code
def yX11_together : MethodName := ⟨RX11, "together", "()I"⟩
abbrev cX11_those : ByteArray := prog_1_method_26_code
def yX11_those : MethodName := ⟨RX11, "those", "()I"⟩
abbrev cX11_rounds : ByteArray := prog_1_method_27_code
def yX11_rounds : MethodName := ⟨RX11, "rounds", "()I"⟩
abbrev cX11_path : ByteArray := prog_1_method_28_code
def yX11_path : MethodName := ⟨RX11, "path", "(II)I"⟩
abbrev cX11_pathAt : ByteArray := prog_1_method_29_code
def yX11_pathAt : MethodName := ⟨RX11, "pathAt", "(I)I"⟩
abbrev cX11_comes : ByteArray := prog_1_method_30_code
def yX11_comes : MethodName := ⟨RX11, "comes", "(II)I"⟩
abbrev cX11_meet : ByteArray := prog_1_method_31_code
def yX11_meet : MethodName := ⟨RX11, "meet", "()I"⟩
abbrev cX11_fits : ByteArray := prog_1_method_32_code
def yX11_fits : MethodName := ⟨RX11, "fits", "()I"⟩
abbrev cX11_fitsAt : ByteArray := prog_1_method_33_code
def yX11_fitsAt : MethodName := ⟨RX11, "fitsAt", "(I)I"⟩
abbrev cX11_ask : ByteArray := prog_1_method_34_code
def yX11_ask : MethodName := ⟨RX11, "ask", "()I"⟩
abbrev cX11_mean : ByteArray := prog_1_method_35_code
def yX11_mean : MethodName := ⟨RX11, "mean", "(I)I"⟩
abbrev cX11_tag : ByteArray := prog_1_method_36_code
def yX11_tag : MethodName := ⟨RX11, "tag", "(I)I"⟩
abbrev cX11_byteAt : ByteArray := prog_1_method_37_code
def yX11_byteAt : MethodName := ⟨RX11, "byteAt", "(I)I"⟩
abbrev cX11_drawn : ByteArray := prog_1_method_38_code
def yX11_drawn : MethodName := ⟨RX11, "drawn", "(II)I"⟩
abbrev cX11_odds : ByteArray := prog_1_method_39_code
def yX11_odds : MethodName := ⟨RX11, "odds", "(II)I"⟩
abbrev cX11_book : ByteArray := prog_1_method_40_code
def yX11_book : MethodName := ⟨RX11, "book", "(I)I"⟩
abbrev cX11_told : ByteArray := prog_1_method_41_code
def yX11_told : MethodName := ⟨RX11, "told", "(I)I"⟩
abbrev cX11_sentence : ByteArray := prog_1_method_42_code
def yX11_sentence : MethodName := ⟨RX11, "sentence", "()I"⟩
abbrev cX11_said : ByteArray := prog_1_method_43_code
def yX11_said : MethodName := ⟨RX11, "said", "(I)I"⟩
abbrev cX11_image : ByteArray := prog_1_method_44_code
def yX11_image : MethodName := ⟨RX11, "image", "(I)Z"⟩
abbrev cX11_restore : ByteArray := prog_1_method_45_code
def yX11_restore : MethodName := ⟨RX11, "restore", "(I)Z"⟩
abbrev cX11_count : ByteArray := prog_1_method_46_code
def yX11_count : MethodName := ⟨RX11, "count", "(I)I"⟩
abbrev cX11_act : ByteArray := prog_1_method_47_code
def yX11_act : MethodName := ⟨RX11, "act", "(III)I"⟩
abbrev cX11_sortOfAct : ByteArray := prog_1_method_48_code
def yX11_sortOfAct : MethodName := ⟨RX11, "sortOfAct", "(I)I"⟩
abbrev cX11_greatestCommon : ByteArray := prog_1_method_49_code
def yX11_greatestCommon : MethodName := ⟨RX11, "greatestCommon", "(II)I"⟩
abbrev cX11_copyRow : ByteArray := prog_1_method_50_code
def yX11_copyRow : MethodName := ⟨RX11, "copyRow", "([I[I)V"⟩
def RX12 : String := "LeverFrameModel"
def TX12 : u_T := fun k => match k with
  | 0 => ("LeverFrameModel", "thrown", "I", false)
  | 1 => ("LeverFrameModel", "tape", "[B", true)
  | 2 => ("LeverFrameModel", "length", "I", false)
  | 3 => ("LeverFrameModel", "size", "I", false)
  | 4 => ("LeverFrameModel", "p", "I", false)
  | 5 => ("LeverFrameModel", "limit", "I", false)
  | 6 => ("LeverFrameModel", "s", "[I", true)
  | 7 => ("LeverFrameModel", "h", "[I", true)
  | 8 => ("LeverFrameModel", "read", "[I", true)
  | 9 => ("LeverFrameModel", "names", "[J", true)
  | 10 => ("LeverFrameModel", "reserved", "[J", true)
  | 11 => ("LeverFrameModel", "token", "I", false)
  | 12 => ("LeverFrameModel", "at", "I", false)
  | 13 => ("LeverFrameModel", "span", "I", false)
  | 14 => ("LeverFrameModel", "number", "I", false)
  | 15 => ("LeverFrameModel", "fault", "I", false)
  | 16 => ("LeverFrameModel", "faultAt", "I", false)
  | 17 => ("LeverFrameModel", "word", "J", false)
  | 18 => ("LeverFrameModel", "got", "I", false)
  | 19 => ("LeverFrameModel", "lines", "I", false)
  | 20 => ("LeverFrameModel", "hasHold", "Z", false)
  | 21 => ("LeverFrameModel", "undone", "[I", true)
  | 22 => ("LeverFrameModel", "before", "[I", true)
  | 23 => ("LeverFrameModel", "undoMany", "I", false)
  | 24 => ("LeverFrameModel", "pullRow", "[I", true)
  | 25 => ("LeverFrameModel", "pullMany", "I", false)
  | 26 => ("LeverFrameModel", "roundsOf", "[I", true)
  | 27 => ("LeverFrameModel", "thoseSet", "I", false)
  | 28 => ("LeverFrameModel", "hasThose", "Z", false)
  | 29 => ("LeverFrameModel", "wants", "[I", true)
  | 30 => ("LeverFrameModel", "pathRow", "[I", true)
  | 31 => ("LeverFrameModel", "pathMany", "I", false)
  | 32 => ("LeverFrameModel", "fitRow", "[I", true)
  | 33 => ("LeverFrameModel", "fitMany", "I", false)
  | 34 => ("LeverFrameModel", "askSection", "I", false)
  | 35 => ("LeverFrameModel", "text", "[B", true)
  | 36 => ("LeverFrameModel", "textMany", "I", false)
  | 37 => ("LeverFrameModel", "seed", "I", false)
  | 38 => ("LeverFrameModel", "toldMany", "I", false)
  | 39 => ("LeverFrameModel", "toldAt", "[I", true)
  | 40 => ("LeverFrameModel", "hasTold", "Z", false)
  | 41 => ("LeverFrameModel", "stack", "[I", true)
  | 42 => ("LeverFrameModel", "codes", "I", false)
  | 43 => ("LeverFrameModel", "ones", "I", false)
  | 44 => ("LeverFrameModel", "top", "I", false)
  | 45 => ("LeverFrameModel", "deep", "I", false)
  | 46 => ("LeverFrameModel", "isWhole", "Z", false)
  | 47 => ("LeverFrameModel", "truths", "[Z", true)
  | 48 => ("LeverFrameModel", "imaged", "[I", true)
  | 49 => ("LeverFrameModel", "namesKept", "[J", true)
  | _ => ("LeverFrameModel", "areKept", "[Z", true)
def tyX12 : Nat → FieldType := fun k => match k with
  | 0 => .int
  | 1 => .array .byte
  | 2 => .int
  | 3 => .int
  | 4 => .int
  | 5 => .int
  | 6 => .array .int
  | 7 => .array .int
  | 8 => .array .int
  | 9 => .array .long
  | 10 => .array .long
  | 11 => .int
  | 12 => .int
  | 13 => .int
  | 14 => .int
  | 15 => .int
  | 16 => .int
  | 17 => .long
  | 18 => .int
  | 19 => .int
  | 20 => .boolean
  | 21 => .array .int
  | 22 => .array .int
  | 23 => .int
  | 24 => .array .int
  | 25 => .int
  | 26 => .array .int
  | 27 => .int
  | 28 => .boolean
  | 29 => .array .int
  | 30 => .array .int
  | 31 => .int
  | 32 => .array .int
  | 33 => .int
  | 34 => .int
  | 35 => .array .byte
  | 36 => .int
  | 37 => .int
  | 38 => .int
  | 39 => .array .int
  | 40 => .boolean
  | 41 => .array .int
  | 42 => .int
  | 43 => .int
  | 44 => .int
  | 45 => .int
  | 46 => .boolean
  | 47 => .array .boolean
  | 48 => .array .int
  | 49 => .array .long
  | _ => .array .boolean
abbrev wsX120 : List Cond := u_ws RX12 TX12 51
theorem nmX12 : ∀ a, a < 51 → ∀ b, b < 51 → a ≠ b → (TX12 a).2.1 ≠ (TX12 b).2.1 := by decide +kernel
theorem tyX12_ok : ∀ k, k < 51 → parseFieldDescriptor (TX12 k).2.2.1 = some (tyX12 k) := by decide +kernel
abbrev cX12_thrown : ByteArray := prog_14_method_1_code
def yX12_thrown : MethodName := ⟨RX12, "thrown", "()I"⟩
abbrev cX12_throwsIf : ByteArray := prog_14_method_2_code
def yX12_throwsIf : MethodName := ⟨RX12, "throwsIf", "(Z)Z"⟩
abbrev cX12_feed : ByteArray := prog_14_method_3_code
def yX12_feed : MethodName := ⟨RX12, "feed", "(IIIII)I"⟩
abbrev cX12_four : ByteArray := prog_14_method_4_code
def yX12_four : MethodName := ⟨RX12, "four", "(I)V"⟩
abbrev cX12_end : ByteArray := prog_14_method_5_code
def yX12_end : MethodName := ⟨RX12, "end", "(I)Z"⟩
abbrev cX12_taken : ByteArray := prog_14_method_6_code
def yX12_taken : MethodName := ⟨RX12, "taken", "(I)V"⟩
abbrev cX12_isIn : ByteArray := prog_14_method_7_code
def yX12_isIn : MethodName := ⟨RX12, "isIn", "(III)Z"⟩
abbrev cX12_bitOf : ByteArray := prog_14_method_8_code
def yX12_bitOf : MethodName := ⟨RX12, "bitOf", "(II)Z"⟩
abbrev cX12_lesser : ByteArray := prog_14_method_9_code
def yX12_lesser : MethodName := ⟨RX12, "lesser", "(II)I"⟩
abbrev cX12_greater : ByteArray := prog_14_method_10_code
def yX12_greater : MethodName := ⟨RX12, "greater", "(II)I"⟩
abbrev cX12_bits : ByteArray := prog_14_method_11_code
def yX12_bits : MethodName := ⟨RX12, "bits", "(I)I"⟩
abbrev cX12_octet : ByteArray := prog_14_method_12_code
def yX12_octet : MethodName := ⟨RX12, "octet", "(I)I"⟩
abbrev cX12_init : ByteArray := prog_14_method_13_code
def yX12_init : MethodName := ⟨RX12, "<init>", "()V"⟩
abbrev cX12_clears : ByteArray := prog_14_method_14_code
def yX12_clears : MethodName := ⟨RX12, "clears", "()V"⟩
abbrev cX12_peek : ByteArray := prog_14_method_15_code
def yX12_peek : MethodName := ⟨RX12, "peek", "()I"⟩
abbrev cX12_isSmall : ByteArray := prog_14_method_16_code
def yX12_isSmall : MethodName := ⟨RX12, "isSmall", "(I)Z"⟩
abbrev cX12_isDigit : ByteArray := prog_14_method_17_code
def yX12_isDigit : MethodName := ⟨RX12, "isDigit", "(I)Z"⟩
abbrev cX12_next : ByteArray := prog_14_method_18_code
def yX12_next : MethodName := ⟨RX12, "next", "()V"⟩
abbrev cX12_bad : ByteArray := prog_14_method_19_code
def yX12_bad : MethodName := ⟨RX12, "bad", "(I)Z"⟩
abbrev cX12_isWord : ByteArray := prog_14_method_20_code
def yX12_isWord : MethodName := ⟨RX12, "isWord", "(J)Z"⟩
abbrev cX12_isSign : ByteArray := prog_14_method_21_code
def yX12_isSign : MethodName := ⟨RX12, "isSign", "(I)Z"⟩
abbrev cX12_sign : ByteArray := prog_14_method_22_code
def yX12_sign : MethodName := ⟨RX12, "sign", "(I)Z"⟩
abbrev cX12_isName : ByteArray := prog_14_method_23_code
def yX12_isName : MethodName := ⟨RX12, "isName", "()Z"⟩
abbrev cX12_takes : ByteArray := prog_14_method_24_code
def yX12_takes : MethodName := ⟨RX12, "takes", "(II)Z"⟩
abbrev cX12_puts : ByteArray := prog_14_method_25_code
def yX12_puts : MethodName := ⟨RX12, "puts", "(III)Z"⟩
abbrev cX12_seek : ByteArray := prog_14_method_26_code
def yX12_seek : MethodName := ⟨RX12, "seek", "(II)I"⟩
abbrev cX12_fresh : ByteArray := prog_14_method_27_code
def yX12_fresh : MethodName := ⟨RX12, "fresh", "(I)Z"⟩
abbrev cX12_looksAt : ByteArray := prog_14_method_28_code
def yX12_looksAt : MethodName := ⟨RX12, "looksAt", "(II)Z"⟩
abbrev cX12_takesName : ByteArray := prog_14_method_29_code
def yX12_takesName : MethodName := ⟨RX12, "takesName", "(II)Z"⟩
abbrev cX12_readLine : ByteArray := prog_14_method_30_code
def yX12_readLine : MethodName := ⟨RX12, "readLine", "()Z"⟩
abbrev cX12_readSection : ByteArray := prog_14_method_31_code
def yX12_readSection : MethodName := ⟨RX12, "readSection", "()Z"⟩
abbrev cX12_readPoints : ByteArray := prog_14_method_32_code
def yX12_readPoints : MethodName := ⟨RX12, "readPoints", "()Z"⟩
abbrev cX12_readTrack : ByteArray := prog_14_method_33_code
def yX12_readTrack : MethodName := ⟨RX12, "readTrack", "()Z"⟩
abbrev cX12_readLie : ByteArray := prog_14_method_34_code
def yX12_readLie : MethodName := ⟨RX12, "readLie", "(I)Z"⟩
abbrev cX12_wayWord : ByteArray := prog_14_method_35_code
def yX12_wayWord : MethodName := ⟨RX12, "wayWord", "()I"⟩
abbrev cX12_readSignal : ByteArray := prog_14_method_36_code
def yX12_readSignal : MethodName := ⟨RX12, "readSignal", "()Z"⟩
abbrev cX12_readRoute : ByteArray := prog_14_method_37_code
def yX12_readRoute : MethodName := ⟨RX12, "readRoute", "()Z"⟩
abbrev cX12_readOver : ByteArray := prog_14_method_38_code
def yX12_readOver : MethodName := ⟨RX12, "readOver", "()Z"⟩
abbrev cX12_readLock : ByteArray := prog_14_method_39_code
def yX12_readLock : MethodName := ⟨RX12, "readLock", "()Z"⟩
abbrev cX12_readTrain : ByteArray := prog_14_method_40_code
def yX12_readTrain : MethodName := ⟨RX12, "readTrain", "()Z"⟩
abbrev cX12_layout : ByteArray := prog_14_method_41_code
def yX12_layout : MethodName := ⟨RX12, "layout", "()I"⟩
abbrev cX12_fault : ByteArray := prog_14_method_42_code
def yX12_fault : MethodName := ⟨RX12, "fault", "()I"⟩
abbrev cX12_isSection : ByteArray := prog_14_method_43_code
def yX12_isSection : MethodName := ⟨RX12, "isSection", "(I)Z"⟩
abbrev cX12_arePoints : ByteArray := prog_14_method_44_code
def yX12_arePoints : MethodName := ⟨RX12, "arePoints", "(I)Z"⟩
abbrev cX12_isRoute : ByteArray := prog_14_method_45_code
def yX12_isRoute : MethodName := ⟨RX12, "isRoute", "(I)Z"⟩
abbrev cX12_isTrain : ByteArray := prog_14_method_46_code
def yX12_isTrain : MethodName := ⟨RX12, "isTrain", "(I)Z"⟩
abbrev cX12_trainIn : ByteArray := prog_14_method_47_code
def yX12_trainIn : MethodName := ⟨RX12, "trainIn", "(II)I"⟩
abbrev cX12_showsBy : ByteArray := prog_14_method_48_code
def yX12_showsBy : MethodName := ⟨RX12, "showsBy", "(II)Z"⟩
abbrev cX12_showsFull : ByteArray := prog_14_method_49_code
def yX12_showsFull : MethodName := ⟨RX12, "showsFull", "(I)Z"⟩
abbrev cX12_sectionsOf : ByteArray := prog_14_method_50_code
def yX12_sectionsOf : MethodName := ⟨RX12, "sectionsOf", "(I)I"⟩
abbrev cX12_isConflict : ByteArray := prog_14_method_51_code
def yX12_isConflict : MethodName := ⟨RX12, "isConflict", "(II)Z"⟩
abbrev cX12_conflictsOf : ByteArray := prog_14_method_52_code
def yX12_conflictsOf : MethodName := ⟨RX12, "conflictsOf", "(I)I"⟩
abbrev cX12_routesOf : ByteArray := prog_14_method_53_code
def yX12_routesOf : MethodName := ⟨RX12, "routesOf", "(I)I"⟩
abbrev cX12_busy : ByteArray := prog_14_method_54_code
def yX12_busy : MethodName := ⟨RX12, "busy", "()I"⟩
abbrev cX12_wanting : ByteArray := prog_14_method_55_code
def yX12_wanting : MethodName := ⟨RX12, "wanting", "(II)I"⟩
abbrev cX12_section : ByteArray := prog_14_method_56_code
def yX12_section : MethodName := ⟨RX12, "section", "(II)I"⟩
abbrev cX12_points : ByteArray := prog_14_method_57_code
def yX12_points : MethodName := ⟨RX12, "points", "(II)I"⟩
abbrev cX12_setOf : ByteArray := prog_14_method_58_code
def yX12_setOf : MethodName := ⟨RX12, "setOf", "(I)I"⟩
abbrev cX12_signal : ByteArray := prog_14_method_59_code
def yX12_signal : MethodName := ⟨RX12, "signal", "(II)I"⟩
abbrev cX12_route : ByteArray := prog_14_method_60_code
def yX12_route : MethodName := ⟨RX12, "route", "(II)I"⟩
abbrev cX12_over : ByteArray := prog_14_method_61_code
def yX12_over : MethodName := ⟨RX12, "over", "(II)I"⟩
abbrev cX12_usedBy : ByteArray := prog_14_method_62_code
def yX12_usedBy : MethodName := ⟨RX12, "usedBy", "(I)I"⟩
abbrev cX12_train : ByteArray := prog_14_method_63_code
def yX12_train : MethodName := ⟨RX12, "train", "(II)I"⟩
abbrev cX12_now : ByteArray := prog_14_method_64_code
def yX12_now : MethodName := ⟨RX12, "now", "(I)I"⟩
abbrev cX12_wrongPoints : ByteArray := prog_14_method_65_code
def yX12_wrongPoints : MethodName := ⟨RX12, "wrongPoints", "(I)I"⟩
abbrev cX12_hasFull : ByteArray := prog_14_method_66_code
def yX12_hasFull : MethodName := ⟨RX12, "hasFull", "(I)Z"⟩
abbrev cX12_rivals : ByteArray := prog_14_method_67_code
def yX12_rivals : MethodName := ⟨RX12, "rivals", "(I)I"⟩
abbrev cX12_whySet : ByteArray := prog_14_method_68_code
def yX12_whySet : MethodName := ⟨RX12, "whySet", "(I)I"⟩
abbrev cX12_isMet : ByteArray := prog_14_method_69_code
def yX12_isMet : MethodName := ⟨RX12, "isMet", "(I)Z"⟩
abbrev cX12_putsBack : ByteArray := prog_14_method_70_code
def yX12_putsBack : MethodName := ⟨RX12, "putsBack", "(I)V"⟩
abbrev cX12_whyThrow : ByteArray := prog_14_method_71_code
def yX12_whyThrow : MethodName := ⟨RX12, "whyThrow", "(I)I"⟩
abbrev cX12_signalFor : ByteArray := prog_14_method_72_code
def yX12_signalFor : MethodName := ⟨RX12, "signalFor", "(I)I"⟩
abbrev cX12_goesTo : ByteArray := prog_14_method_73_code
def yX12_goesTo : MethodName := ⟨RX12, "goesTo", "(I)I"⟩
abbrev cX12_moves : ByteArray := prog_14_method_74_code
def yX12_moves : MethodName := ⟨RX12, "moves", "(I)V"⟩
abbrev cX12_meets : ByteArray := prog_14_method_75_code
def yX12_meets : MethodName := ⟨RX12, "meets", "(II)V"⟩
abbrev cX12_tick : ByteArray := prog_14_method_76_code
def yX12_tick : MethodName := ⟨RX12, "tick", "()Z"⟩
abbrev cX12_goesOn : ByteArray := prog_14_method_77_code
def yX12_goesOn : MethodName := ⟨RX12, "goesOn", "(I)I"⟩
abbrev cX12_set : ByteArray := prog_14_method_78_code
def yX12_set : MethodName := ⟨RX12, "set", "(I)I"⟩
abbrev cX12_back : ByteArray := prog_14_method_79_code
def yX12_back : MethodName := ⟨RX12, "back", "(I)I"⟩
abbrev cX12_turn : ByteArray := prog_14_method_80_code
def yX12_turn : MethodName := ⟨RX12, "turn", "(I)I"⟩
abbrev cX12_fail : ByteArray := prog_14_method_81_code
def yX12_fail : MethodName := ⟨RX12, "fail", "(II)I"⟩
abbrev cX12_mend : ByteArray := prog_14_method_82_code
def yX12_mend : MethodName := ⟨RX12, "mend", "(I)I"⟩
abbrev cX12_ticks : ByteArray := prog_14_method_83_code
def yX12_ticks : MethodName := ⟨RX12, "ticks", "(I)I"⟩
abbrev cX12_stores : ByteArray := prog_14_method_84_code
def yX12_stores : MethodName := ⟨RX12, "stores", "()V"⟩
abbrev cX12_undo : ByteArray := prog_14_method_85_code
def yX12_undo : MethodName := ⟨RX12, "undo", "()I"⟩
abbrev cX12_tries : ByteArray := prog_14_method_86_code
def yX12_tries : MethodName := ⟨RX12, "tries", "()V"⟩
abbrev cX12_brings : ByteArray := prog_14_method_87_code
def yX12_brings : MethodName := ⟨RX12, "brings", "()V"⟩
abbrev cX12_isLacking : ByteArray := prog_14_method_88_code
def yX12_isLacking : MethodName := ⟨RX12, "isLacking", "(II)Z"⟩
abbrev cX12_lacking : ByteArray := prog_14_method_89_code
def yX12_lacking : MethodName := ⟨RX12, "lacking", "()I"⟩
abbrev cX12_lacks : ByteArray := prog_14_method_90_code
def yX12_lacks : MethodName := ⟨RX12, "lacks", "(I)I"⟩
abbrev cX12_spare : ByteArray := prog_14_method_91_code
def yX12_spare : MethodName := ⟨RX12, "spare", "()I"⟩
abbrev cX12_pulls : ByteArray := prog_14_method_92_code
def yX12_pulls : MethodName := ⟨RX12, "pulls", "(I)I"⟩
abbrev cX12_pullsAt : ByteArray := prog_14_method_93_code
def yX12_pullsAt : MethodName := ⟨RX12, "pullsAt", "(I)I"⟩
abbrev cX12_areTogether : ByteArray := prog_14_method_94_code
def yX12_areTogether : MethodName := ⟨RX12, "areTogether", "(I)Z"⟩
abbrev cX12_together : ByteArray := prog_14_method_95_code
def yX12_together : MethodName := ⟨RX12, "together", "()I"⟩
abbrev cX12_those : ByteArray := prog_14_method_96_code
def yX12_those : MethodName := ⟨RX12, "those", "()I"⟩
abbrev cX12_rounds : ByteArray := prog_14_method_97_code
def yX12_rounds : MethodName := ⟨RX12, "rounds", "()I"⟩
abbrev cX12_endOf : ByteArray := prog_14_method_98_code
def yX12_endOf : MethodName := ⟨RX12, "endOf", "(I)I"⟩
abbrev cX12_isFrom : ByteArray := prog_14_method_99_code
def yX12_isFrom : MethodName := ⟨RX12, "isFrom", "(III)Z"⟩
abbrev cX12_wantsBy : ByteArray := prog_14_method_100_code
def yX12_wantsBy : MethodName := ⟨RX12, "wantsBy", "(II)I"⟩
abbrev cX12_laysWants : ByteArray := prog_14_method_101_code
def yX12_laysWants : MethodName := ⟨RX12, "laysWants", "(II)V"⟩
abbrev cX12_path : ByteArray := prog_14_method_102_code
def yX12_path : MethodName := ⟨RX12, "path", "(II)I"⟩
abbrev cX12_pathAt : ByteArray := prog_14_method_103_code
def yX12_pathAt : MethodName := ⟨RX12, "pathAt", "(I)I"⟩
abbrev cX12_comes : ByteArray := prog_14_method_104_code
def yX12_comes : MethodName := ⟨RX12, "comes", "(II)I"⟩
abbrev cX12_meet : ByteArray := prog_14_method_105_code
def yX12_meet : MethodName := ⟨RX12, "meet", "()I"⟩
abbrev cX12_showsAt : ByteArray := prog_14_method_106_code
def yX12_showsAt : MethodName := ⟨RX12, "showsAt", "(II)I"⟩
abbrev cX12_isFit : ByteArray := prog_14_method_107_code
def yX12_isFit : MethodName := ⟨RX12, "isFit", "(I)Z"⟩
abbrev cX12_leftBy : ByteArray := prog_14_method_108_code
def yX12_leftBy : MethodName := ⟨RX12, "leftBy", "(I)I"⟩
abbrev cX12_fits : ByteArray := prog_14_method_109_code
def yX12_fits : MethodName := ⟨RX12, "fits", "()I"⟩
abbrev cX12_fitsAt : ByteArray := prog_14_method_110_code
def yX12_fitsAt : MethodName := ⟨RX12, "fitsAt", "(I)I"⟩
abbrev cX12_ask : ByteArray := prog_14_method_111_code
def yX12_ask : MethodName := ⟨RX12, "ask", "()I"⟩
abbrev cX12_waitedInAll : ByteArray := prog_14_method_112_code
def yX12_waitedInAll : MethodName := ⟨RX12, "waitedInAll", "()I"⟩
abbrev cX12_mean : ByteArray := prog_14_method_113_code
def yX12_mean : MethodName := ⟨RX12, "mean", "(I)I"⟩
abbrev cX12_lays : ByteArray := prog_14_method_114_code
def yX12_lays : MethodName := ⟨RX12, "lays", "(I)V"⟩
abbrev cX12_spells : ByteArray := prog_14_method_115_code
def yX12_spells : MethodName := ⟨RX12, "spells", "(J)V"⟩
abbrev cX12_says : ByteArray := prog_14_method_116_code
def yX12_says : MethodName := ⟨RX12, "says", "(J)V"⟩
abbrev cX12_tag : ByteArray := prog_14_method_117_code
def yX12_tag : MethodName := ⟨RX12, "tag", "(I)I"⟩
abbrev cX12_byteAt : ByteArray := prog_14_method_118_code
def yX12_byteAt : MethodName := ⟨RX12, "byteAt", "(I)I"⟩
abbrev cX12_draw : ByteArray := prog_14_method_119_code
def yX12_draw : MethodName := ⟨RX12, "draw", "(I)I"⟩
abbrev cX12_drawTick : ByteArray := prog_14_method_120_code
def yX12_drawTick : MethodName := ⟨RX12, "drawTick", "()V"⟩
abbrev cX12_draws : ByteArray := prog_14_method_121_code
def yX12_draws : MethodName := ⟨RX12, "draws", "(II)I"⟩
abbrev cX12_drawn : ByteArray := prog_14_method_122_code
def yX12_drawn : MethodName := ⟨RX12, "drawn", "(II)I"⟩
abbrev cX12_odds : ByteArray := prog_14_method_123_code
def yX12_odds : MethodName := ⟨RX12, "odds", "(II)I"⟩
abbrev cX12_bookLine : ByteArray := prog_14_method_124_code
def yX12_bookLine : MethodName := ⟨RX12, "bookLine", "()Z"⟩
abbrev cX12_does : ByteArray := prog_14_method_125_code
def yX12_does : MethodName := ⟨RX12, "does", "(III)I"⟩
abbrev cX12_book : ByteArray := prog_14_method_126_code
def yX12_book : MethodName := ⟨RX12, "book", "(I)I"⟩
abbrev cX12_told : ByteArray := prog_14_method_127_code
def yX12_told : MethodName := ⟨RX12, "told", "(I)I"⟩
abbrev cX12_code : ByteArray := prog_14_method_128_code
def yX12_code : MethodName := ⟨RX12, "code", "(III)V"⟩
abbrev cX12_joins : ByteArray := prog_14_method_129_code
def yX12_joins : MethodName := ⟨RX12, "joins", "(I)V"⟩
abbrev cX12_nots : ByteArray := prog_14_method_130_code
def yX12_nots : MethodName := ⟨RX12, "nots", "()V"⟩
abbrev cX12_leafOf : ByteArray := prog_14_method_131_code
def yX12_leafOf : MethodName := ⟨RX12, "leafOf", "()I"⟩
abbrev cX12_operand : ByteArray := prog_14_method_132_code
def yX12_operand : MethodName := ⟨RX12, "operand", "()Z"⟩
abbrev cX12_behind : ByteArray := prog_14_method_133_code
def yX12_behind : MethodName := ⟨RX12, "behind", "()Z"⟩
abbrev cX12_sentence : ByteArray := prog_14_method_134_code
def yX12_sentence : MethodName := ⟨RX12, "sentence", "()I"⟩
abbrev cX12_isLeaf : ByteArray := prog_14_method_135_code
def yX12_isLeaf : MethodName := ⟨RX12, "isLeaf", "(IIII)Z"⟩
abbrev cX12_isSaid : ByteArray := prog_14_method_136_code
def yX12_isSaid : MethodName := ⟨RX12, "isSaid", "(I)Z"⟩
abbrev cX12_said : ByteArray := prog_14_method_137_code
def yX12_said : MethodName := ⟨RX12, "said", "(I)I"⟩
abbrev cX12_image : ByteArray := prog_14_method_138_code
def yX12_image : MethodName := ⟨RX12, "image", "(I)Z"⟩
abbrev cX12_restore : ByteArray := prog_14_method_139_code
def yX12_restore : MethodName := ⟨RX12, "restore", "(I)Z"⟩
abbrev cX12_count : ByteArray := prog_14_method_140_code
def yX12_count : MethodName := ⟨RX12, "count", "(I)I"⟩
def RJx145de : String := "java/io/Serializable"
def TJx145de : u_T := fun k => match k with
  | _ => ("", "", "", false)
def tyJx145de : Nat → FieldType := fun k => match k with
  | _ => .int
abbrev wsJx145de0 : List Cond := u_ws RJx145de TJx145de 0
theorem nmJx145de : ∀ a, a < 0 → ∀ b, b < 0 → a ≠ b → (TJx145de a).2.1 ≠ (TJx145de b).2.1 := by decide +kernel
theorem tyJx145de_ok : ∀ k, k < 0 → parseFieldDescriptor (TJx145de k).2.2.1 = some (tyJx145de k) := by decide +kernel
def RJx9f9b0 : String := "java/lang/CharSequence"
def TJx9f9b0 : u_T := fun k => match k with
  | _ => ("", "", "", false)
def tyJx9f9b0 : Nat → FieldType := fun k => match k with
  | _ => .int
abbrev wsJx9f9b00 : List Cond := u_ws RJx9f9b0 TJx9f9b0 0
theorem nmJx9f9b0 : ∀ a, a < 0 → ∀ b, b < 0 → a ≠ b → (TJx9f9b0 a).2.1 ≠ (TJx9f9b0 b).2.1 := by decide +kernel
theorem tyJx9f9b0_ok : ∀ k, k < 0 → parseFieldDescriptor (TJx9f9b0 k).2.2.1 = some (tyJx9f9b0 k) := by decide +kernel
def RJxb160c : String := "java/lang/Comparable"
def TJxb160c : u_T := fun k => match k with
  | _ => ("", "", "", false)
def tyJxb160c : Nat → FieldType := fun k => match k with
  | _ => .int
abbrev wsJxb160c0 : List Cond := u_ws RJxb160c TJxb160c 0
theorem nmJxb160c : ∀ a, a < 0 → ∀ b, b < 0 → a ≠ b → (TJxb160c a).2.1 ≠ (TJxb160c b).2.1 := by decide +kernel
theorem tyJxb160c_ok : ∀ k, k < 0 → parseFieldDescriptor (TJxb160c k).2.2.1 = some (tyJxb160c k) := by decide +kernel
def RJ6 : String := "java/lang/Integer"
def TJ6 : u_T := fun k => match k with
  | _ => ("", "", "", false)
def tyJ6 : Nat → FieldType := fun k => match k with
  | _ => .int
abbrev wsJ60 : List Cond := u_ws RJ6 TJ6 0
theorem nmJ6 : ∀ a, a < 0 → ∀ b, b < 0 → a ≠ b → (TJ6 a).2.1 ≠ (TJ6 b).2.1 := by decide +kernel
theorem tyJ6_ok : ∀ k, k < 0 → parseFieldDescriptor (TJ6 k).2.2.1 = some (tyJ6 k) := by decide +kernel
abbrev cJ6_bitCount_0f7a4 : ByteArray := prog_19_method_49_code
def yJ6_bitCount_0f7a4 : MethodName := ⟨RJ6, "bitCount", "(I)I"⟩
def RJ9 : String := "java/lang/Math"
def TJ9 : u_T := fun k => match k with
  | _ => ("", "", "", false)
def tyJ9 : Nat → FieldType := fun k => match k with
  | _ => .int
abbrev wsJ90 : List Cond := u_ws RJ9 TJ9 0
theorem nmJ9 : ∀ a, a < 0 → ∀ b, b < 0 → a ≠ b → (TJ9 a).2.1 ≠ (TJ9 b).2.1 := by decide +kernel
theorem tyJ9_ok : ∀ k, k < 0 → parseFieldDescriptor (TJ9 k).2.2.1 = some (tyJ9 k) := by decide +kernel
abbrev cJ9_max_7cf53 : ByteArray := prog_20_method_65_code
def yJ9_max_7cf53 : MethodName := ⟨RJ9, "max", "(II)I"⟩
abbrev cJ9_min_7cf53 : ByteArray := prog_20_method_69_code
def yJ9_min_7cf53 : MethodName := ⟨RJ9, "min", "(II)I"⟩
def RJ0 : String := "java/lang/String"
def TJ0 : u_T := fun k => match k with
  | _ => ("", "", "", false)
def tyJ0 : Nat → FieldType := fun k => match k with
  | _ => .int
abbrev wsJ00 : List Cond := u_ws RJ0 TJ0 0
theorem nmJ0 : ∀ a, a < 0 → ∀ b, b < 0 → a ≠ b → (TJ0 a).2.1 ≠ (TJ0 b).2.1 := by decide +kernel
theorem tyJ0_ok : ∀ k, k < 0 → parseFieldDescriptor (TJ0 k).2.2.1 = some (tyJ0 k) := by decide +kernel
abbrev cJ0_length_8abf5 : ByteArray := prog_22_method_54_code
def yJ0_length_8abf5 : MethodName := ⟨RJ0, "length", "()I"⟩
abbrev cJ0_charAt_5068e : ByteArray := prog_22_method_56_code
def yJ0_charAt_5068e : MethodName := ⟨RJ0, "charAt", "(I)C"⟩
abbrev cJ0_coder_7d493 : ByteArray := prog_22_method_152_code
def yJ0_coder_7d493 : MethodName := ⟨RJ0, "coder", "()B"⟩
abbrev cJ0_isLatin1_aae02 : ByteArray := prog_22_method_154_code
def yJ0_isLatin1_aae02 : MethodName := ⟨RJ0, "isLatin1", "()Z"⟩
abbrev cJ0_checkIndex_df160 : ByteArray := prog_22_method_155_code
def yJ0_checkIndex_df160 : MethodName := ⟨RJ0, "checkIndex", "(II)V"⟩
def RJ1 : String := "java/lang/StringLatin1"
def TJ1 : u_T := fun k => match k with
  | _ => ("", "", "", false)
def tyJ1 : Nat → FieldType := fun k => match k with
  | _ => .int
abbrev wsJ10 : List Cond := u_ws RJ1 TJ1 0
theorem nmJ1 : ∀ a, a < 0 → ∀ b, b < 0 → a ≠ b → (TJ1 a).2.1 ≠ (TJ1 b).2.1 := by decide +kernel
theorem tyJ1_ok : ∀ k, k < 0 → parseFieldDescriptor (TJ1 k).2.2.1 = some (tyJ1 k) := by decide +kernel
abbrev cJ1_charAt_3b067 : ByteArray := prog_23_method_2_code
def yJ1_charAt_3b067 : MethodName := ⟨RJ1, "charAt", "([BI)C"⟩
def RJ2 : String := "java/lang/StringUTF16"
def TJ2 : u_T := fun k => match k with
  | _ => ("", "", "", false)
def tyJ2 : Nat → FieldType := fun k => match k with
  | _ => .int
abbrev wsJ20 : List Cond := u_ws RJ2 TJ2 0
theorem nmJ2 : ∀ a, a < 0 → ∀ b, b < 0 → a ≠ b → (TJ2 a).2.1 ≠ (TJ2 b).2.1 := by decide +kernel
theorem tyJ2_ok : ∀ k, k < 0 → parseFieldDescriptor (TJ2 k).2.2.1 = some (tyJ2 k) := by decide +kernel
abbrev cJ2_getChar_3b067 : ByteArray := prog_24_method_5_code
def yJ2_getChar_3b067 : MethodName := ⟨RJ2, "getChar", "([BI)C"⟩
abbrev cJ2_length_9d52b : ByteArray := prog_24_method_6_code
def yJ2_length_9d52b : MethodName := ⟨RJ2, "length", "([B)I"⟩
abbrev cJ2_charAt_3b067 : ByteArray := prog_24_method_83_code
def yJ2_charAt_3b067 : MethodName := ⟨RJ2, "charAt", "([BI)C"⟩
abbrev cJ2_checkIndex_2214a : ByteArray := prog_24_method_91_code
def yJ2_checkIndex_2214a : MethodName := ⟨RJ2, "checkIndex", "(I[B)V"⟩
def RJ10 : String := "java/lang/System"
def TJ10 : u_T := fun k => match k with
  | _ => ("", "", "", false)
def tyJ10 : Nat → FieldType := fun k => match k with
  | _ => .int
abbrev wsJ100 : List Cond := u_ws RJ10 TJ10 0
theorem nmJ10 : ∀ a, a < 0 → ∀ b, b < 0 → a ≠ b → (TJ10 a).2.1 ≠ (TJ10 b).2.1 := by decide +kernel
theorem tyJ10_ok : ∀ k, k < 0 → parseFieldDescriptor (TJ10 k).2.2.1 = some (tyJ10 k) := by decide +kernel
def RJxfd54e : String := "java/lang/constant/Constable"
def TJxfd54e : u_T := fun k => match k with
  | _ => ("", "", "", false)
def tyJxfd54e : Nat → FieldType := fun k => match k with
  | _ => .int
abbrev wsJxfd54e0 : List Cond := u_ws RJxfd54e TJxfd54e 0
theorem nmJxfd54e : ∀ a, a < 0 → ∀ b, b < 0 → a ≠ b → (TJxfd54e a).2.1 ≠ (TJxfd54e b).2.1 := by decide +kernel
theorem tyJxfd54e_ok : ∀ k, k < 0 → parseFieldDescriptor (TJxfd54e k).2.2.1 = some (tyJxfd54e k) := by decide +kernel
def RJx3cf43 : String := "java/lang/constant/ConstantDesc"
def TJx3cf43 : u_T := fun k => match k with
  | _ => ("", "", "", false)
def tyJx3cf43 : Nat → FieldType := fun k => match k with
  | _ => .int
abbrev wsJx3cf430 : List Cond := u_ws RJx3cf43 TJx3cf43 0
theorem nmJx3cf43 : ∀ a, a < 0 → ∀ b, b < 0 → a ≠ b → (TJx3cf43 a).2.1 ≠ (TJx3cf43 b).2.1 := by decide +kernel
theorem tyJx3cf43_ok : ∀ k, k < 0 → parseFieldDescriptor (TJx3cf43 k).2.2.1 = some (tyJx3cf43 k) := by decide +kernel
def RJ7 : String := "java/util/Arrays"
def TJ7 : u_T := fun k => match k with
  | _ => ("", "", "", false)
def tyJ7 : Nat → FieldType := fun k => match k with
  | _ => .int
abbrev wsJ70 : List Cond := u_ws RJ7 TJ7 0
theorem nmJ7 : ∀ a, a < 0 → ∀ b, b < 0 → a ≠ b → (TJ7 a).2.1 ≠ (TJ7 b).2.1 := by decide +kernel
theorem tyJ7_ok : ∀ k, k < 0 → parseFieldDescriptor (TJ7 k).2.2.1 = some (tyJ7 k) := by decide +kernel
abbrev cJ7_fill_53178 : ByteArray := prog_29_method_103_code
def yJ7_fill_53178 : MethodName := ⟨RJ7, "fill", "([II)V"⟩
def RJ3 : String := "jdk/internal/util/Preconditions"
def TJ3 : u_T := fun k => match k with
  | _ => ("", "", "", false)
def tyJ3 : Nat → FieldType := fun k => match k with
  | _ => .int
abbrev wsJ30 : List Cond := u_ws RJ3 TJ3 0
theorem nmJ3 : ∀ a, a < 0 → ∀ b, b < 0 → a ≠ b → (TJ3 a).2.1 ≠ (TJ3 b).2.1 := by decide +kernel
theorem tyJ3_ok : ∀ k, k < 0 → parseFieldDescriptor (TJ3 k).2.2.1 = some (tyJ3 k) := by decide +kernel
abbrev cJ3_checkIndex_8e157 : ByteArray := prog_31_method_11_code
def yJ3_checkIndex_8e157 : MethodName := ⟨RJ3, "checkIndex", "(IILjava/util/function/BiFunction;)I"⟩
def RL : String := "LeverFrameLaw"
abbrev cL_train : ByteArray := method_3_code
def yL_train : MethodName := ⟨RL, "train", "(LLeverFrame;II[J)I"⟩
abbrev cL_mean : ByteArray := method_4_code
def yL_mean : MethodName := ⟨RL, "mean", "(LLeverFrame;I[J)I"⟩
abbrev cL_law : ByteArray := code
def yL_law : MethodName := ⟨RL, "law", "([I)Z"⟩
