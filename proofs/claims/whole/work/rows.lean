section
-- ===== PART A: goes FIRST, ahead of the names: the tables' words, and 'selects' of the private methods out of them =====
/-- a private method of a class that the tables say can be made, by its rows of tables_1 -/
def lw_okq (q : MethodName × Nat) : Prop := (q.1.cls ≠ "java/lang/invoke/MethodHandle" ∧ q.1.cls ≠ "java/lang/invoke/VarHandle") ∧ Cond.instantiable q.1.cls q.2 ∈ tables_1 ∧ Cond.privateMethod q.1 ∈ tables_1 ∧ Cond.instanceMethod q.1 ∈ tables_1
theorem lw_p0 : lw_okq (⟨"SinglesPast", "freshWorlds", "()LSinglesPast$Worlds;"⟩, 15) := ⟨⟨by decide +kernel, by decide +kernel⟩, List.mem_of_getElem? (i := 31) (by decide +kernel), List.mem_of_getElem? (i := 406) (by decide +kernel), List.mem_of_getElem? (i := 407) (by decide +kernel)⟩
theorem lw_p1 : lw_okq (⟨"SinglesPast$Worlds", "orderByStops", "(LSinglesPast$Things;)V"⟩, 8) := ⟨⟨by decide +kernel, by decide +kernel⟩, List.mem_of_getElem? (i := 270) (by decide +kernel), List.mem_of_getElem? (i := 418) (by decide +kernel), List.mem_of_getElem? (i := 419) (by decide +kernel)⟩
theorem lw_p2 : lw_okq (⟨"SinglesPast$Worlds", "turnTies", "(LSinglesPast$Things;)V"⟩, 8) := ⟨⟨by decide +kernel, by decide +kernel⟩, List.mem_of_getElem? (i := 270) (by decide +kernel), List.mem_of_getElem? (i := 422) (by decide +kernel), List.mem_of_getElem? (i := 423) (by decide +kernel)⟩
theorem lw_p3 : lw_okq (⟨"SinglesPast$Worlds", "findDoers", "(LSinglesPast$State;)V"⟩, 8) := ⟨⟨by decide +kernel, by decide +kernel⟩, List.mem_of_getElem? (i := 270) (by decide +kernel), List.mem_of_getElem? (i := 426) (by decide +kernel), List.mem_of_getElem? (i := 427) (by decide +kernel)⟩
theorem lw_p4 : lw_okq (⟨"SinglesPast$Worlds", "build", "(II)I"⟩, 8) := ⟨⟨by decide +kernel, by decide +kernel⟩, List.mem_of_getElem? (i := 270) (by decide +kernel), List.mem_of_getElem? (i := 433) (by decide +kernel), List.mem_of_getElem? (i := 434) (by decide +kernel)⟩
theorem lw_p5 : lw_okq (⟨"SinglesPast$Worlds", "lastMakes", "(I)Z"⟩, 8) := ⟨⟨by decide +kernel, by decide +kernel⟩, List.mem_of_getElem? (i := 270) (by decide +kernel), List.mem_of_getElem? (i := 437) (by decide +kernel), List.mem_of_getElem? (i := 438) (by decide +kernel)⟩
theorem lw_p6 : lw_okq (⟨"SinglesPast", "soNow", "()I"⟩, 15) := ⟨⟨by decide +kernel, by decide +kernel⟩, List.mem_of_getElem? (i := 31) (by decide +kernel), List.mem_of_getElem? (i := 487) (by decide +kernel), List.mem_of_getElem? (i := 488) (by decide +kernel)⟩
theorem lw_p7 : lw_okq (⟨"SinglesPast", "changesBy", "(I)I"⟩, 15) := ⟨⟨by decide +kernel, by decide +kernel⟩, List.mem_of_getElem? (i := 31) (by decide +kernel), List.mem_of_getElem? (i := 505) (by decide +kernel), List.mem_of_getElem? (i := 506) (by decide +kernel)⟩
theorem lw_p8 : lw_okq (⟨"SinglesPast", "hangingOn", "(I)I"⟩, 15) := ⟨⟨by decide +kernel, by decide +kernel⟩, List.mem_of_getElem? (i := 31) (by decide +kernel), List.mem_of_getElem? (i := 517) (by decide +kernel), List.mem_of_getElem? (i := 518) (by decide +kernel)⟩
theorem lw_p9 : lw_okq (⟨"SinglesPast$Seating", "seatFrom", "(LSinglesPast$State;III)V"⟩, 4) := ⟨⟨by decide +kernel, by decide +kernel⟩, List.mem_of_getElem? (i := 303) (by decide +kernel), List.mem_of_getElem? (i := 544) (by decide +kernel), List.mem_of_getElem? (i := 545) (by decide +kernel)⟩
theorem lw_p10 : lw_okq (⟨"SinglesPast$Seating", "hasRoom", "(LSinglesPast$State;II)Z"⟩, 4) := ⟨⟨by decide +kernel, by decide +kernel⟩, List.mem_of_getElem? (i := 303) (by decide +kernel), List.mem_of_getElem? (i := 551) (by decide +kernel), List.mem_of_getElem? (i := 552) (by decide +kernel)⟩
theorem lw_p11 : lw_okq (⟨"SinglesPast", "bestPrice", "(I)I"⟩, 15) := ⟨⟨by decide +kernel, by decide +kernel⟩, List.mem_of_getElem? (i := 31) (by decide +kernel), List.mem_of_getElem? (i := 563) (by decide +kernel), List.mem_of_getElem? (i := 564) (by decide +kernel)⟩
theorem lw_p12 : lw_okq (⟨"SinglesPast", "earningsAt", "(II)I"⟩, 15) := ⟨⟨by decide +kernel, by decide +kernel⟩, List.mem_of_getElem? (i := 31) (by decide +kernel), List.mem_of_getElem? (i := 567) (by decide +kernel), List.mem_of_getElem? (i := 568) (by decide +kernel)⟩
theorem lw_p13 : lw_okq (⟨"SinglesPast", "forgetActs", "()V"⟩, 15) := ⟨⟨by decide +kernel, by decide +kernel⟩, List.mem_of_getElem? (i := 31) (by decide +kernel), List.mem_of_getElem? (i := 655) (by decide +kernel), List.mem_of_getElem? (i := 656) (by decide +kernel)⟩
theorem lw_p14 : lw_okq (⟨"SinglesPast$Tape", "moveTo", "(I)V"⟩, 6) := ⟨⟨by decide +kernel, by decide +kernel⟩, List.mem_of_getElem? (i := 39) (by decide +kernel), List.mem_of_getElem? (i := 687) (by decide +kernel), List.mem_of_getElem? (i := 688) (by decide +kernel)⟩
theorem lw_p15 : lw_okq (⟨"SinglesPast$Tape", "isNext", "(Ljava/lang/String;II)Z"⟩, 6) := ⟨⟨by decide +kernel, by decide +kernel⟩, List.mem_of_getElem? (i := 39) (by decide +kernel), List.mem_of_getElem? (i := 754) (by decide +kernel), List.mem_of_getElem? (i := 755) (by decide +kernel)⟩
def lw_privs_1 : List (MethodName × Nat) := [(⟨"SinglesPast", "freshWorlds", "()LSinglesPast$Worlds;"⟩, 15), (⟨"SinglesPast$Worlds", "orderByStops", "(LSinglesPast$Things;)V"⟩, 8), (⟨"SinglesPast$Worlds", "turnTies", "(LSinglesPast$Things;)V"⟩, 8), (⟨"SinglesPast$Worlds", "findDoers", "(LSinglesPast$State;)V"⟩, 8), (⟨"SinglesPast$Worlds", "build", "(II)I"⟩, 8), (⟨"SinglesPast$Worlds", "lastMakes", "(I)Z"⟩, 8), (⟨"SinglesPast", "soNow", "()I"⟩, 15), (⟨"SinglesPast", "changesBy", "(I)I"⟩, 15), (⟨"SinglesPast", "hangingOn", "(I)I"⟩, 15), (⟨"SinglesPast$Seating", "seatFrom", "(LSinglesPast$State;III)V"⟩, 4), (⟨"SinglesPast$Seating", "hasRoom", "(LSinglesPast$State;II)Z"⟩, 4), (⟨"SinglesPast", "bestPrice", "(I)I"⟩, 15), (⟨"SinglesPast", "earningsAt", "(II)I"⟩, 15), (⟨"SinglesPast", "forgetActs", "()V"⟩, 15), (⟨"SinglesPast$Tape", "moveTo", "(I)V"⟩, 6), (⟨"SinglesPast$Tape", "isNext", "(Ljava/lang/String;II)Z"⟩, 6)]
theorem lw_r1 : ∀ q ∈ lw_privs_1, lw_okq q := List.forall_mem_cons.mpr ⟨lw_p0, List.forall_mem_cons.mpr ⟨lw_p1, List.forall_mem_cons.mpr ⟨lw_p2, List.forall_mem_cons.mpr ⟨lw_p3, List.forall_mem_cons.mpr ⟨lw_p4, List.forall_mem_cons.mpr ⟨lw_p5, List.forall_mem_cons.mpr ⟨lw_p6, List.forall_mem_cons.mpr ⟨lw_p7, List.forall_mem_cons.mpr ⟨lw_p8, List.forall_mem_cons.mpr ⟨lw_p9, List.forall_mem_cons.mpr ⟨lw_p10, List.forall_mem_cons.mpr ⟨lw_p11, List.forall_mem_cons.mpr ⟨lw_p12, List.forall_mem_cons.mpr ⟨lw_p13, List.forall_mem_cons.mpr ⟨lw_p14, List.forall_mem_cons.mpr ⟨lw_p15, fun _ h => absurd h List.not_mem_nil⟩⟩⟩⟩⟩⟩⟩⟩⟩⟩⟩⟩⟩⟩⟩⟩
theorem lw_p16 : lw_okq (⟨"SinglesPast", "closeText", "(Z)V"⟩, 15) := ⟨⟨by decide +kernel, by decide +kernel⟩, List.mem_of_getElem? (i := 31) (by decide +kernel), List.mem_of_getElem? (i := 838) (by decide +kernel), List.mem_of_getElem? (i := 839) (by decide +kernel)⟩
theorem lw_p17 : lw_okq (⟨"java/lang/Throwable", "fillInStackTrace", "(I)Ljava/lang/Throwable;"⟩, 6) := ⟨⟨by decide +kernel, by decide +kernel⟩, List.mem_of_getElem? (i := 882) (by decide +kernel), List.mem_of_getElem? (i := 880) (by decide +kernel), List.mem_of_getElem? (i := 881) (by decide +kernel)⟩
theorem lw_p18 : lw_okq (⟨"SinglesPast$LawText", "readLine", "(LSinglesPast$Tape;I)Z"⟩, 6) := ⟨⟨by decide +kernel, by decide +kernel⟩, List.mem_of_getElem? (i := 245) (by decide +kernel), List.mem_of_getElem? (i := 940) (by decide +kernel), List.mem_of_getElem? (i := 941) (by decide +kernel)⟩
theorem lw_p19 : lw_okq (⟨"SinglesPast$LawText", "readCondition", "(LSinglesPast$Tape;I)Z"⟩, 6) := ⟨⟨by decide +kernel, by decide +kernel⟩, List.mem_of_getElem? (i := 245) (by decide +kernel), List.mem_of_getElem? (i := 949) (by decide +kernel), List.mem_of_getElem? (i := 950) (by decide +kernel)⟩
theorem lw_p20 : lw_okq (⟨"SinglesPast$LawText", "readAtom", "(LSinglesPast$Tape;I)Z"⟩, 6) := ⟨⟨by decide +kernel, by decide +kernel⟩, List.mem_of_getElem? (i := 245) (by decide +kernel), List.mem_of_getElem? (i := 953) (by decide +kernel), List.mem_of_getElem? (i := 954) (by decide +kernel)⟩
theorem lw_p21 : lw_okq (⟨"SinglesPast$LawText", "put", "(I)V"⟩, 6) := ⟨⟨by decide +kernel, by decide +kernel⟩, List.mem_of_getElem? (i := 245) (by decide +kernel), List.mem_of_getElem? (i := 959) (by decide +kernel), List.mem_of_getElem? (i := 960) (by decide +kernel)⟩
theorem lw_p22 : lw_okq (⟨"SinglesPast$LawText", "readSum", "(LSinglesPast$Tape;)Z"⟩, 6) := ⟨⟨by decide +kernel, by decide +kernel⟩, List.mem_of_getElem? (i := 245) (by decide +kernel), List.mem_of_getElem? (i := 965) (by decide +kernel), List.mem_of_getElem? (i := 966) (by decide +kernel)⟩
theorem lw_p23 : lw_okq (⟨"SinglesPast", "needThing", "(I)V"⟩, 15) := ⟨⟨by decide +kernel, by decide +kernel⟩, List.mem_of_getElem? (i := 31) (by decide +kernel), List.mem_of_getElem? (i := 1026) (by decide +kernel), List.mem_of_getElem? (i := 1027) (by decide +kernel)⟩
theorem lw_p24 : lw_okq (⟨"SinglesPast$Things", "longestAhead", "(I[I)I"⟩, 6) := ⟨⟨by decide +kernel, by decide +kernel⟩, List.mem_of_getElem? (i := 76) (by decide +kernel), List.mem_of_getElem? (i := 1050) (by decide +kernel), List.mem_of_getElem? (i := 1051) (by decide +kernel)⟩
theorem lw_p25 : lw_okq (⟨"SinglesPast", "latestStop", "(I)I"⟩, 15) := ⟨⟨by decide +kernel, by decide +kernel⟩, List.mem_of_getElem? (i := 31) (by decide +kernel), List.mem_of_getElem? (i := 1057) (by decide +kernel), List.mem_of_getElem? (i := 1058) (by decide +kernel)⟩
theorem lw_p26 : lw_okq (⟨"SinglesPast", "needGoer", "(I)V"⟩, 15) := ⟨⟨by decide +kernel, by decide +kernel⟩, List.mem_of_getElem? (i := 31) (by decide +kernel), List.mem_of_getElem? (i := 1084) (by decide +kernel), List.mem_of_getElem? (i := 1085) (by decide +kernel)⟩
theorem lw_p27 : lw_okq (⟨"SinglesPast$Law", "holds", "(II)Z"⟩, 7) := ⟨⟨by decide +kernel, by decide +kernel⟩, List.mem_of_getElem? (i := 976) (by decide +kernel), List.mem_of_getElem? (i := 1110) (by decide +kernel), List.mem_of_getElem? (i := 1111) (by decide +kernel)⟩
theorem lw_p28 : lw_okq (⟨"SinglesPast", "needTrain", "(I)V"⟩, 15) := ⟨⟨by decide +kernel, by decide +kernel⟩, List.mem_of_getElem? (i := 31) (by decide +kernel), List.mem_of_getElem? (i := 1122) (by decide +kernel), List.mem_of_getElem? (i := 1123) (by decide +kernel)⟩
theorem lw_p29 : lw_okq (⟨"SinglesPast", "shareOf", "(I)I"⟩, 15) := ⟨⟨by decide +kernel, by decide +kernel⟩, List.mem_of_getElem? (i := 31) (by decide +kernel), List.mem_of_getElem? (i := 1127) (by decide +kernel), List.mem_of_getElem? (i := 1128) (by decide +kernel)⟩
theorem lw_p30 : lw_okq (⟨"SinglesPast", "beginAct", "()V"⟩, 15) := ⟨⟨by decide +kernel, by decide +kernel⟩, List.mem_of_getElem? (i := 31) (by decide +kernel), List.mem_of_getElem? (i := 1170) (by decide +kernel), List.mem_of_getElem? (i := 1171) (by decide +kernel)⟩
theorem lw_p31 : lw_okq (⟨"SinglesPast$State", "drawnTrainOf", "(I)I"⟩, 18) := ⟨⟨by decide +kernel, by decide +kernel⟩, List.mem_of_getElem? (i := 70) (by decide +kernel), List.mem_of_getElem? (i := 1183) (by decide +kernel), List.mem_of_getElem? (i := 1184) (by decide +kernel)⟩
def lw_privs_2 : List (MethodName × Nat) := [(⟨"SinglesPast", "closeText", "(Z)V"⟩, 15), (⟨"java/lang/Throwable", "fillInStackTrace", "(I)Ljava/lang/Throwable;"⟩, 6), (⟨"SinglesPast$LawText", "readLine", "(LSinglesPast$Tape;I)Z"⟩, 6), (⟨"SinglesPast$LawText", "readCondition", "(LSinglesPast$Tape;I)Z"⟩, 6), (⟨"SinglesPast$LawText", "readAtom", "(LSinglesPast$Tape;I)Z"⟩, 6), (⟨"SinglesPast$LawText", "put", "(I)V"⟩, 6), (⟨"SinglesPast$LawText", "readSum", "(LSinglesPast$Tape;)Z"⟩, 6), (⟨"SinglesPast", "needThing", "(I)V"⟩, 15), (⟨"SinglesPast$Things", "longestAhead", "(I[I)I"⟩, 6), (⟨"SinglesPast", "latestStop", "(I)I"⟩, 15), (⟨"SinglesPast", "needGoer", "(I)V"⟩, 15), (⟨"SinglesPast$Law", "holds", "(II)Z"⟩, 7), (⟨"SinglesPast", "needTrain", "(I)V"⟩, 15), (⟨"SinglesPast", "shareOf", "(I)I"⟩, 15), (⟨"SinglesPast", "beginAct", "()V"⟩, 15), (⟨"SinglesPast$State", "drawnTrainOf", "(I)I"⟩, 18)]
theorem lw_r2 : ∀ q ∈ lw_privs_2, lw_okq q := List.forall_mem_cons.mpr ⟨lw_p16, List.forall_mem_cons.mpr ⟨lw_p17, List.forall_mem_cons.mpr ⟨lw_p18, List.forall_mem_cons.mpr ⟨lw_p19, List.forall_mem_cons.mpr ⟨lw_p20, List.forall_mem_cons.mpr ⟨lw_p21, List.forall_mem_cons.mpr ⟨lw_p22, List.forall_mem_cons.mpr ⟨lw_p23, List.forall_mem_cons.mpr ⟨lw_p24, List.forall_mem_cons.mpr ⟨lw_p25, List.forall_mem_cons.mpr ⟨lw_p26, List.forall_mem_cons.mpr ⟨lw_p27, List.forall_mem_cons.mpr ⟨lw_p28, List.forall_mem_cons.mpr ⟨lw_p29, List.forall_mem_cons.mpr ⟨lw_p30, List.forall_mem_cons.mpr ⟨lw_p31, fun _ h => absurd h List.not_mem_nil⟩⟩⟩⟩⟩⟩⟩⟩⟩⟩⟩⟩⟩⟩⟩⟩
theorem lw_p32 : lw_okq (⟨"SinglesPast$State", "draw", "()I"⟩, 18) := ⟨⟨by decide +kernel, by decide +kernel⟩, List.mem_of_getElem? (i := 70) (by decide +kernel), List.mem_of_getElem? (i := 1187) (by decide +kernel), List.mem_of_getElem? (i := 1188) (by decide +kernel)⟩
theorem lw_p33 : lw_okq (⟨"SinglesPast", "needNotGone", "(I)V"⟩, 15) := ⟨⟨by decide +kernel, by decide +kernel⟩, List.mem_of_getElem? (i := 31) (by decide +kernel), List.mem_of_getElem? (i := 1257) (by decide +kernel), List.mem_of_getElem? (i := 1258) (by decide +kernel)⟩
theorem lw_p34 : lw_okq (⟨"SinglesPast", "needTwoGoers", "(II)V"⟩, 15) := ⟨⟨by decide +kernel, by decide +kernel⟩, List.mem_of_getElem? (i := 31) (by decide +kernel), List.mem_of_getElem? (i := 1277) (by decide +kernel), List.mem_of_getElem? (i := 1278) (by decide +kernel)⟩
theorem lw_p35 : lw_okq (⟨"SinglesPast", "readTold", "()V"⟩, 15) := ⟨⟨by decide +kernel, by decide +kernel⟩, List.mem_of_getElem? (i := 31) (by decide +kernel), List.mem_of_getElem? (i := 1317) (by decide +kernel), List.mem_of_getElem? (i := 1318) (by decide +kernel)⟩
theorem lw_p36 : lw_okq (⟨"SinglesPast", "comesAbout", "(LSinglesPast$Worlds;I)Z"⟩, 15) := ⟨⟨by decide +kernel, by decide +kernel⟩, List.mem_of_getElem? (i := 31) (by decide +kernel), List.mem_of_getElem? (i := 1322) (by decide +kernel), List.mem_of_getElem? (i := 1323) (by decide +kernel)⟩
theorem lw_p37 : lw_okq (⟨"SinglesPast", "isTold", "(I)Z"⟩, 15) := ⟨⟨by decide +kernel, by decide +kernel⟩, List.mem_of_getElem? (i := 31) (by decide +kernel), List.mem_of_getElem? (i := 1326) (by decide +kernel), List.mem_of_getElem? (i := 1327) (by decide +kernel)⟩
theorem lw_p38 : lw_okq (⟨"SinglesPast", "fits", "(LSinglesPast$Worlds;I)Z"⟩, 15) := ⟨⟨by decide +kernel, by decide +kernel⟩, List.mem_of_getElem? (i := 31) (by decide +kernel), List.mem_of_getElem? (i := 1337) (by decide +kernel), List.mem_of_getElem? (i := 1338) (by decide +kernel)⟩
theorem lw_p39 : lw_okq (⟨"SinglesPast", "countFitting", "(LSinglesPast$Worlds;I)I"⟩, 15) := ⟨⟨by decide +kernel, by decide +kernel⟩, List.mem_of_getElem? (i := 31) (by decide +kernel), List.mem_of_getElem? (i := 1348) (by decide +kernel), List.mem_of_getElem? (i := 1349) (by decide +kernel)⟩
theorem lw_p40 : lw_okq (⟨"SinglesPast$Pairing", "pairFrom", "(LSinglesPast$State;III)V"⟩, 3) := ⟨⟨by decide +kernel, by decide +kernel⟩, List.mem_of_getElem? (i := 323) (by decide +kernel), List.mem_of_getElem? (i := 1415) (by decide +kernel), List.mem_of_getElem? (i := 1416) (by decide +kernel)⟩
theorem lw_p41 : lw_okq (⟨"SinglesPastModel", "readAll", "(Z)I"⟩, 24) := ⟨⟨by decide +kernel, by decide +kernel⟩, List.mem_of_getElem? (i := 1498) (by decide +kernel), List.mem_of_getElem? (i := 1605) (by decide +kernel), List.mem_of_getElem? (i := 1606) (by decide +kernel)⟩
theorem lw_p42 : lw_okq (⟨"SinglesPastModel", "uses", "()V"⟩, 24) := ⟨⟨by decide +kernel, by decide +kernel⟩, List.mem_of_getElem? (i := 1498) (by decide +kernel), List.mem_of_getElem? (i := 1609) (by decide +kernel), List.mem_of_getElem? (i := 1610) (by decide +kernel)⟩
theorem lw_p43 : lw_okq (⟨"SinglesPastModel", "blanks", "()V"⟩, 24) := ⟨⟨by decide +kernel, by decide +kernel⟩, List.mem_of_getElem? (i := 1498) (by decide +kernel), List.mem_of_getElem? (i := 1613) (by decide +kernel), List.mem_of_getElem? (i := 1614) (by decide +kernel)⟩
theorem lw_p44 : lw_okq (⟨"SinglesPastModel", "isAt", "(II)Z"⟩, 24) := ⟨⟨by decide +kernel, by decide +kernel⟩, List.mem_of_getElem? (i := 1498) (by decide +kernel), List.mem_of_getElem? (i := 1617) (by decide +kernel), List.mem_of_getElem? (i := 1618) (by decide +kernel)⟩
theorem lw_p45 : lw_okq (⟨"SinglesPastModel", "readLine", "(ZI)Z"⟩, 24) := ⟨⟨by decide +kernel, by decide +kernel⟩, List.mem_of_getElem? (i := 1498) (by decide +kernel), List.mem_of_getElem? (i := 1621) (by decide +kernel), List.mem_of_getElem? (i := 1622) (by decide +kernel)⟩
theorem lw_p46 : lw_okq (⟨"SinglesPastModel", "letters", "()V"⟩, 24) := ⟨⟨by decide +kernel, by decide +kernel⟩, List.mem_of_getElem? (i := 1498) (by decide +kernel), List.mem_of_getElem? (i := 1625) (by decide +kernel), List.mem_of_getElem? (i := 1626) (by decide +kernel)⟩
theorem lw_p47 : lw_okq (⟨"SinglesPastModel", "readStationLine", "()Z"⟩, 24) := ⟨⟨by decide +kernel, by decide +kernel⟩, List.mem_of_getElem? (i := 1498) (by decide +kernel), List.mem_of_getElem? (i := 1629) (by decide +kernel), List.mem_of_getElem? (i := 1630) (by decide +kernel)⟩
def lw_privs_3 : List (MethodName × Nat) := [(⟨"SinglesPast$State", "draw", "()I"⟩, 18), (⟨"SinglesPast", "needNotGone", "(I)V"⟩, 15), (⟨"SinglesPast", "needTwoGoers", "(II)V"⟩, 15), (⟨"SinglesPast", "readTold", "()V"⟩, 15), (⟨"SinglesPast", "comesAbout", "(LSinglesPast$Worlds;I)Z"⟩, 15), (⟨"SinglesPast", "isTold", "(I)Z"⟩, 15), (⟨"SinglesPast", "fits", "(LSinglesPast$Worlds;I)Z"⟩, 15), (⟨"SinglesPast", "countFitting", "(LSinglesPast$Worlds;I)I"⟩, 15), (⟨"SinglesPast$Pairing", "pairFrom", "(LSinglesPast$State;III)V"⟩, 3), (⟨"SinglesPastModel", "readAll", "(Z)I"⟩, 24), (⟨"SinglesPastModel", "uses", "()V"⟩, 24), (⟨"SinglesPastModel", "blanks", "()V"⟩, 24), (⟨"SinglesPastModel", "isAt", "(II)Z"⟩, 24), (⟨"SinglesPastModel", "readLine", "(ZI)Z"⟩, 24), (⟨"SinglesPastModel", "letters", "()V"⟩, 24), (⟨"SinglesPastModel", "readStationLine", "()Z"⟩, 24)]
theorem lw_r3 : ∀ q ∈ lw_privs_3, lw_okq q := List.forall_mem_cons.mpr ⟨lw_p32, List.forall_mem_cons.mpr ⟨lw_p33, List.forall_mem_cons.mpr ⟨lw_p34, List.forall_mem_cons.mpr ⟨lw_p35, List.forall_mem_cons.mpr ⟨lw_p36, List.forall_mem_cons.mpr ⟨lw_p37, List.forall_mem_cons.mpr ⟨lw_p38, List.forall_mem_cons.mpr ⟨lw_p39, List.forall_mem_cons.mpr ⟨lw_p40, List.forall_mem_cons.mpr ⟨lw_p41, List.forall_mem_cons.mpr ⟨lw_p42, List.forall_mem_cons.mpr ⟨lw_p43, List.forall_mem_cons.mpr ⟨lw_p44, List.forall_mem_cons.mpr ⟨lw_p45, List.forall_mem_cons.mpr ⟨lw_p46, List.forall_mem_cons.mpr ⟨lw_p47, fun _ h => absurd h List.not_mem_nil⟩⟩⟩⟩⟩⟩⟩⟩⟩⟩⟩⟩⟩⟩⟩⟩
theorem lw_p48 : lw_okq (⟨"SinglesPastModel", "isWord", "(Ljava/lang/String;)Z"⟩, 24) := ⟨⟨by decide +kernel, by decide +kernel⟩, List.mem_of_getElem? (i := 1498) (by decide +kernel), List.mem_of_getElem? (i := 1634) (by decide +kernel), List.mem_of_getElem? (i := 1635) (by decide +kernel)⟩
theorem lw_p49 : lw_okq (⟨"SinglesPastModel", "readThing", "()Z"⟩, 24) := ⟨⟨by decide +kernel, by decide +kernel⟩, List.mem_of_getElem? (i := 1498) (by decide +kernel), List.mem_of_getElem? (i := 1640) (by decide +kernel), List.mem_of_getElem? (i := 1641) (by decide +kernel)⟩
theorem lw_p50 : lw_okq (⟨"SinglesPastModel", "things", "()I"⟩, 24) := ⟨⟨by decide +kernel, by decide +kernel⟩, List.mem_of_getElem? (i := 1498) (by decide +kernel), List.mem_of_getElem? (i := 1644) (by decide +kernel), List.mem_of_getElem? (i := 1645) (by decide +kernel)⟩
theorem lw_p51 : lw_okq (⟨"SinglesPastModel", "behind", "(Ljava/lang/String;II)I"⟩, 24) := ⟨⟨by decide +kernel, by decide +kernel⟩, List.mem_of_getElem? (i := 1498) (by decide +kernel), List.mem_of_getElem? (i := 1649) (by decide +kernel), List.mem_of_getElem? (i := 1650) (by decide +kernel)⟩
theorem lw_p52 : lw_okq (⟨"SinglesPastModel", "number", "(II)I"⟩, 24) := ⟨⟨by decide +kernel, by decide +kernel⟩, List.mem_of_getElem? (i := 1498) (by decide +kernel), List.mem_of_getElem? (i := 1653) (by decide +kernel), List.mem_of_getElem? (i := 1654) (by decide +kernel)⟩
theorem lw_p53 : lw_okq (⟨"SinglesPastModel", "passes", "(Ljava/lang/String;)Z"⟩, 24) := ⟨⟨by decide +kernel, by decide +kernel⟩, List.mem_of_getElem? (i := 1498) (by decide +kernel), List.mem_of_getElem? (i := 1658) (by decide +kernel), List.mem_of_getElem? (i := 1659) (by decide +kernel)⟩
theorem lw_p54 : lw_okq (⟨"SinglesPastModel", "told", "(Ljava/lang/String;II)I"⟩, 24) := ⟨⟨by decide +kernel, by decide +kernel⟩, List.mem_of_getElem? (i := 1498) (by decide +kernel), List.mem_of_getElem? (i := 1663) (by decide +kernel), List.mem_of_getElem? (i := 1664) (by decide +kernel)⟩
theorem lw_p55 : lw_okq (⟨"SinglesPastModel", "readLink", "(II)Z"⟩, 24) := ⟨⟨by decide +kernel, by decide +kernel⟩, List.mem_of_getElem? (i := 1498) (by decide +kernel), List.mem_of_getElem? (i := 1672) (by decide +kernel), List.mem_of_getElem? (i := 1673) (by decide +kernel)⟩
theorem lw_p56 : lw_okq (⟨"SinglesPastModel", "ofThing", "(II)I"⟩, 24) := ⟨⟨by decide +kernel, by decide +kernel⟩, List.mem_of_getElem? (i := 1498) (by decide +kernel), List.mem_of_getElem? (i := 1676) (by decide +kernel), List.mem_of_getElem? (i := 1677) (by decide +kernel)⟩
theorem lw_p57 : lw_okq (⟨"SinglesPastModel", "readGoer", "()Z"⟩, 24) := ⟨⟨by decide +kernel, by decide +kernel⟩, List.mem_of_getElem? (i := 1498) (by decide +kernel), List.mem_of_getElem? (i := 1682) (by decide +kernel), List.mem_of_getElem? (i := 1683) (by decide +kernel)⟩
theorem lw_p58 : lw_okq (⟨"SinglesPastModel", "goers", "()I"⟩, 24) := ⟨⟨by decide +kernel, by decide +kernel⟩, List.mem_of_getElem? (i := 1498) (by decide +kernel), List.mem_of_getElem? (i := 1686) (by decide +kernel), List.mem_of_getElem? (i := 1687) (by decide +kernel)⟩
theorem lw_p59 : lw_okq (⟨"SinglesPastModel", "readShuns", "()Z"⟩, 24) := ⟨⟨by decide +kernel, by decide +kernel⟩, List.mem_of_getElem? (i := 1498) (by decide +kernel), List.mem_of_getElem? (i := 1701) (by decide +kernel), List.mem_of_getElem? (i := 1702) (by decide +kernel)⟩
theorem lw_p60 : lw_okq (⟨"SinglesPastModel", "readTrain", "()Z"⟩, 24) := ⟨⟨by decide +kernel, by decide +kernel⟩, List.mem_of_getElem? (i := 1498) (by decide +kernel), List.mem_of_getElem? (i := 1706) (by decide +kernel), List.mem_of_getElem? (i := 1707) (by decide +kernel)⟩
theorem lw_p61 : lw_okq (⟨"SinglesPastModel", "trains", "()I"⟩, 24) := ⟨⟨by decide +kernel, by decide +kernel⟩, List.mem_of_getElem? (i := 1498) (by decide +kernel), List.mem_of_getElem? (i := 1710) (by decide +kernel), List.mem_of_getElem? (i := 1711) (by decide +kernel)⟩
theorem lw_p62 : lw_okq (⟨"SinglesPastModel", "stopsTold", "()I"⟩, 24) := ⟨⟨by decide +kernel, by decide +kernel⟩, List.mem_of_getElem? (i := 1498) (by decide +kernel), List.mem_of_getElem? (i := 1716) (by decide +kernel), List.mem_of_getElem? (i := 1717) (by decide +kernel)⟩
theorem lw_p63 : lw_okq (⟨"SinglesPastModel", "readNumber", "(III)Z"⟩, 24) := ⟨⟨by decide +kernel, by decide +kernel⟩, List.mem_of_getElem? (i := 1498) (by decide +kernel), List.mem_of_getElem? (i := 1727) (by decide +kernel), List.mem_of_getElem? (i := 1728) (by decide +kernel)⟩
def lw_privs_4 : List (MethodName × Nat) := [(⟨"SinglesPastModel", "isWord", "(Ljava/lang/String;)Z"⟩, 24), (⟨"SinglesPastModel", "readThing", "()Z"⟩, 24), (⟨"SinglesPastModel", "things", "()I"⟩, 24), (⟨"SinglesPastModel", "behind", "(Ljava/lang/String;II)I"⟩, 24), (⟨"SinglesPastModel", "number", "(II)I"⟩, 24), (⟨"SinglesPastModel", "passes", "(Ljava/lang/String;)Z"⟩, 24), (⟨"SinglesPastModel", "told", "(Ljava/lang/String;II)I"⟩, 24), (⟨"SinglesPastModel", "readLink", "(II)Z"⟩, 24), (⟨"SinglesPastModel", "ofThing", "(II)I"⟩, 24), (⟨"SinglesPastModel", "readGoer", "()Z"⟩, 24), (⟨"SinglesPastModel", "goers", "()I"⟩, 24), (⟨"SinglesPastModel", "readShuns", "()Z"⟩, 24), (⟨"SinglesPastModel", "readTrain", "()Z"⟩, 24), (⟨"SinglesPastModel", "trains", "()I"⟩, 24), (⟨"SinglesPastModel", "stopsTold", "()I"⟩, 24), (⟨"SinglesPastModel", "readNumber", "(III)Z"⟩, 24)]
theorem lw_r4 : ∀ q ∈ lw_privs_4, lw_okq q := List.forall_mem_cons.mpr ⟨lw_p48, List.forall_mem_cons.mpr ⟨lw_p49, List.forall_mem_cons.mpr ⟨lw_p50, List.forall_mem_cons.mpr ⟨lw_p51, List.forall_mem_cons.mpr ⟨lw_p52, List.forall_mem_cons.mpr ⟨lw_p53, List.forall_mem_cons.mpr ⟨lw_p54, List.forall_mem_cons.mpr ⟨lw_p55, List.forall_mem_cons.mpr ⟨lw_p56, List.forall_mem_cons.mpr ⟨lw_p57, List.forall_mem_cons.mpr ⟨lw_p58, List.forall_mem_cons.mpr ⟨lw_p59, List.forall_mem_cons.mpr ⟨lw_p60, List.forall_mem_cons.mpr ⟨lw_p61, List.forall_mem_cons.mpr ⟨lw_p62, List.forall_mem_cons.mpr ⟨lw_p63, fun _ h => absurd h List.not_mem_nil⟩⟩⟩⟩⟩⟩⟩⟩⟩⟩⟩⟩⟩⟩⟩⟩
theorem lw_p64 : lw_okq (⟨"SinglesPastModel", "readLawLine", "(I)Z"⟩, 24) := ⟨⟨by decide +kernel, by decide +kernel⟩, List.mem_of_getElem? (i := 1498) (by decide +kernel), List.mem_of_getElem? (i := 1731) (by decide +kernel), List.mem_of_getElem? (i := 1732) (by decide +kernel)⟩
theorem lw_p65 : lw_okq (⟨"SinglesPastModel", "readCond", "()Z"⟩, 24) := ⟨⟨by decide +kernel, by decide +kernel⟩, List.mem_of_getElem? (i := 1498) (by decide +kernel), List.mem_of_getElem? (i := 1739) (by decide +kernel), List.mem_of_getElem? (i := 1740) (by decide +kernel)⟩
theorem lw_p66 : lw_okq (⟨"SinglesPastModel", "readAllOf", "()Z"⟩, 24) := ⟨⟨by decide +kernel, by decide +kernel⟩, List.mem_of_getElem? (i := 1498) (by decide +kernel), List.mem_of_getElem? (i := 1743) (by decide +kernel), List.mem_of_getElem? (i := 1744) (by decide +kernel)⟩
theorem lw_p67 : lw_okq (⟨"SinglesPastModel", "readAtom", "()Z"⟩, 24) := ⟨⟨by decide +kernel, by decide +kernel⟩, List.mem_of_getElem? (i := 1498) (by decide +kernel), List.mem_of_getElem? (i := 1747) (by decide +kernel), List.mem_of_getElem? (i := 1748) (by decide +kernel)⟩
theorem lw_p68 : lw_okq (⟨"SinglesPastModel", "sign", "(I)Z"⟩, 24) := ⟨⟨by decide +kernel, by decide +kernel⟩, List.mem_of_getElem? (i := 1498) (by decide +kernel), List.mem_of_getElem? (i := 1751) (by decide +kernel), List.mem_of_getElem? (i := 1752) (by decide +kernel)⟩
theorem lw_p69 : lw_okq (⟨"SinglesPastModel", "emits", "(II)V"⟩, 24) := ⟨⟨by decide +kernel, by decide +kernel⟩, List.mem_of_getElem? (i := 1498) (by decide +kernel), List.mem_of_getElem? (i := 1756) (by decide +kernel), List.mem_of_getElem? (i := 1757) (by decide +kernel)⟩
theorem lw_p70 : lw_okq (⟨"SinglesPastModel", "readTag", "()Z"⟩, 24) := ⟨⟨by decide +kernel, by decide +kernel⟩, List.mem_of_getElem? (i := 1498) (by decide +kernel), List.mem_of_getElem? (i := 1760) (by decide +kernel), List.mem_of_getElem? (i := 1761) (by decide +kernel)⟩
theorem lw_p71 : lw_okq (⟨"SinglesPastModel", "readSum", "()Z"⟩, 24) := ⟨⟨by decide +kernel, by decide +kernel⟩, List.mem_of_getElem? (i := 1498) (by decide +kernel), List.mem_of_getElem? (i := 1765) (by decide +kernel), List.mem_of_getElem? (i := 1766) (by decide +kernel)⟩
theorem lw_p72 : lw_okq (⟨"SinglesPastModel", "readPart", "()Z"⟩, 24) := ⟨⟨by decide +kernel, by decide +kernel⟩, List.mem_of_getElem? (i := 1498) (by decide +kernel), List.mem_of_getElem? (i := 1769) (by decide +kernel), List.mem_of_getElem? (i := 1770) (by decide +kernel)⟩
theorem lw_p73 : lw_okq (⟨"SinglesPastModel", "wordOfPart", "()I"⟩, 24) := ⟨⟨by decide +kernel, by decide +kernel⟩, List.mem_of_getElem? (i := 1498) (by decide +kernel), List.mem_of_getElem? (i := 1773) (by decide +kernel), List.mem_of_getElem? (i := 1774) (by decide +kernel)⟩
theorem lw_p74 : lw_okq (⟨"SinglesPastModel", "throwsIf", "(ZI)Z"⟩, 24) := ⟨⟨by decide +kernel, by decide +kernel⟩, List.mem_of_getElem? (i := 1498) (by decide +kernel), List.mem_of_getElem? (i := 1781) (by decide +kernel), List.mem_of_getElem? (i := 1782) (by decide +kernel)⟩
theorem lw_p75 : lw_okq (⟨"SinglesPastModel", "everybody", "()I"⟩, 24) := ⟨⟨by decide +kernel, by decide +kernel⟩, List.mem_of_getElem? (i := 1498) (by decide +kernel), List.mem_of_getElem? (i := 1793) (by decide +kernel), List.mem_of_getElem? (i := 1794) (by decide +kernel)⟩
theorem lw_p76 : lw_okq (⟨"SinglesPastModel", "worldOf", "(I)I"⟩, 24) := ⟨⟨by decide +kernel, by decide +kernel⟩, List.mem_of_getElem? (i := 1498) (by decide +kernel), List.mem_of_getElem? (i := 1797) (by decide +kernel), List.mem_of_getElem? (i := 1798) (by decide +kernel)⟩
theorem lw_p77 : lw_okq (⟨"SinglesPastModel", "isSo", "(II)Z"⟩, 24) := ⟨⟨by decide +kernel, by decide +kernel⟩, List.mem_of_getElem? (i := 1498) (by decide +kernel), List.mem_of_getElem? (i := 1801) (by decide +kernel), List.mem_of_getElem? (i := 1802) (by decide +kernel)⟩
theorem lw_p78 : lw_okq (⟨"SinglesPastModel", "of", "(II)I"⟩, 24) := ⟨⟨by decide +kernel, by decide +kernel⟩, List.mem_of_getElem? (i := 1498) (by decide +kernel), List.mem_of_getElem? (i := 1805) (by decide +kernel), List.mem_of_getElem? (i := 1806) (by decide +kernel)⟩
theorem lw_p79 : lw_okq (⟨"SinglesPastModel", "goneOnes", "()I"⟩, 24) := ⟨⟨by decide +kernel, by decide +kernel⟩, List.mem_of_getElem? (i := 1498) (by decide +kernel), List.mem_of_getElem? (i := 1813) (by decide +kernel), List.mem_of_getElem? (i := 1814) (by decide +kernel)⟩
def lw_privs_5 : List (MethodName × Nat) := [(⟨"SinglesPastModel", "readLawLine", "(I)Z"⟩, 24), (⟨"SinglesPastModel", "readCond", "()Z"⟩, 24), (⟨"SinglesPastModel", "readAllOf", "()Z"⟩, 24), (⟨"SinglesPastModel", "readAtom", "()Z"⟩, 24), (⟨"SinglesPastModel", "sign", "(I)Z"⟩, 24), (⟨"SinglesPastModel", "emits", "(II)V"⟩, 24), (⟨"SinglesPastModel", "readTag", "()Z"⟩, 24), (⟨"SinglesPastModel", "readSum", "()Z"⟩, 24), (⟨"SinglesPastModel", "readPart", "()Z"⟩, 24), (⟨"SinglesPastModel", "wordOfPart", "()I"⟩, 24), (⟨"SinglesPastModel", "throwsIf", "(ZI)Z"⟩, 24), (⟨"SinglesPastModel", "everybody", "()I"⟩, 24), (⟨"SinglesPastModel", "worldOf", "(I)I"⟩, 24), (⟨"SinglesPastModel", "isSo", "(II)Z"⟩, 24), (⟨"SinglesPastModel", "of", "(II)I"⟩, 24), (⟨"SinglesPastModel", "goneOnes", "()I"⟩, 24)]
theorem lw_r5 : ∀ q ∈ lw_privs_5, lw_okq q := List.forall_mem_cons.mpr ⟨lw_p64, List.forall_mem_cons.mpr ⟨lw_p65, List.forall_mem_cons.mpr ⟨lw_p66, List.forall_mem_cons.mpr ⟨lw_p67, List.forall_mem_cons.mpr ⟨lw_p68, List.forall_mem_cons.mpr ⟨lw_p69, List.forall_mem_cons.mpr ⟨lw_p70, List.forall_mem_cons.mpr ⟨lw_p71, List.forall_mem_cons.mpr ⟨lw_p72, List.forall_mem_cons.mpr ⟨lw_p73, List.forall_mem_cons.mpr ⟨lw_p74, List.forall_mem_cons.mpr ⟨lw_p75, List.forall_mem_cons.mpr ⟨lw_p76, List.forall_mem_cons.mpr ⟨lw_p77, List.forall_mem_cons.mpr ⟨lw_p78, List.forall_mem_cons.mpr ⟨lw_p79, fun _ h => absurd h List.not_mem_nil⟩⟩⟩⟩⟩⟩⟩⟩⟩⟩⟩⟩⟩⟩⟩⟩
theorem lw_p80 : lw_okq (⟨"SinglesPastModel", "agreesBy", "(II)Z"⟩, 24) := ⟨⟨by decide +kernel, by decide +kernel⟩, List.mem_of_getElem? (i := 1498) (by decide +kernel), List.mem_of_getElem? (i := 1817) (by decide +kernel), List.mem_of_getElem? (i := 1818) (by decide +kernel)⟩
theorem lw_p81 : lw_okq (⟨"SinglesPastModel", "bornIn", "(II)I"⟩, 24) := ⟨⟨by decide +kernel, by decide +kernel⟩, List.mem_of_getElem? (i := 1498) (by decide +kernel), List.mem_of_getElem? (i := 1821) (by decide +kernel), List.mem_of_getElem? (i := 1822) (by decide +kernel)⟩
theorem lw_p82 : lw_okq (⟨"SinglesPastModel", "manyAgree", "()I"⟩, 24) := ⟨⟨by decide +kernel, by decide +kernel⟩, List.mem_of_getElem? (i := 1498) (by decide +kernel), List.mem_of_getElem? (i := 1829) (by decide +kernel), List.mem_of_getElem? (i := 1830) (by decide +kernel)⟩
theorem lw_p83 : lw_okq (⟨"SinglesPastModel", "pastBy", "(I)I"⟩, 24) := ⟨⟨by decide +kernel, by decide +kernel⟩, List.mem_of_getElem? (i := 1498) (by decide +kernel), List.mem_of_getElem? (i := 1837) (by decide +kernel), List.mem_of_getElem? (i := 1838) (by decide +kernel)⟩
theorem lw_p84 : lw_okq (⟨"SinglesPastModel", "nowBy", "(I)I"⟩, 24) := ⟨⟨by decide +kernel, by decide +kernel⟩, List.mem_of_getElem? (i := 1498) (by decide +kernel), List.mem_of_getElem? (i := 1846) (by decide +kernel), List.mem_of_getElem? (i := 1847) (by decide +kernel)⟩
theorem lw_p85 : lw_okq (⟨"SinglesPastModel", "noGoer", "(I)Z"⟩, 24) := ⟨⟨by decide +kernel, by decide +kernel⟩, List.mem_of_getElem? (i := 1498) (by decide +kernel), List.mem_of_getElem? (i := 1858) (by decide +kernel), List.mem_of_getElem? (i := 1859) (by decide +kernel)⟩
theorem lw_p86 : lw_okq (⟨"SinglesPastModel", "ifOtherwise", "(I)I"⟩, 24) := ⟨⟨by decide +kernel, by decide +kernel⟩, List.mem_of_getElem? (i := 1498) (by decide +kernel), List.mem_of_getElem? (i := 1865) (by decide +kernel), List.mem_of_getElem? (i := 1866) (by decide +kernel)⟩
theorem lw_p87 : lw_okq (⟨"SinglesPastModel", "changesOf", "(I)I"⟩, 24) := ⟨⟨by decide +kernel, by decide +kernel⟩, List.mem_of_getElem? (i := 1498) (by decide +kernel), List.mem_of_getElem? (i := 1873) (by decide +kernel), List.mem_of_getElem? (i := 1874) (by decide +kernel)⟩
theorem lw_p88 : lw_okq (⟨"SinglesPastModel", "worthOf", "(I)I"⟩, 24) := ⟨⟨by decide +kernel, by decide +kernel⟩, List.mem_of_getElem? (i := 1498) (by decide +kernel), List.mem_of_getElem? (i := 1877) (by decide +kernel), List.mem_of_getElem? (i := 1878) (by decide +kernel)⟩
theorem lw_p89 : lw_okq (⟨"SinglesPastModel", "noThing", "(I)Z"⟩, 24) := ⟨⟨by decide +kernel, by decide +kernel⟩, List.mem_of_getElem? (i := 1498) (by decide +kernel), List.mem_of_getElem? (i := 1885) (by decide +kernel), List.mem_of_getElem? (i := 1886) (by decide +kernel)⟩
theorem lw_p90 : lw_okq (⟨"SinglesPastModel", "lineOf", "(I)I"⟩, 24) := ⟨⟨by decide +kernel, by decide +kernel⟩, List.mem_of_getElem? (i := 1498) (by decide +kernel), List.mem_of_getElem? (i := 1889) (by decide +kernel), List.mem_of_getElem? (i := 1890) (by decide +kernel)⟩
theorem lw_p91 : lw_okq (⟨"SinglesPastModel", "latestOf", "(I)I"⟩, 24) := ⟨⟨by decide +kernel, by decide +kernel⟩, List.mem_of_getElem? (i := 1498) (by decide +kernel), List.mem_of_getElem? (i := 1893) (by decide +kernel), List.mem_of_getElem? (i := 1894) (by decide +kernel)⟩
theorem lw_p92 : lw_okq (⟨"SinglesPastModel", "allStops", "()I"⟩, 24) := ⟨⟨by decide +kernel, by decide +kernel⟩, List.mem_of_getElem? (i := 1498) (by decide +kernel), List.mem_of_getElem? (i := 1897) (by decide +kernel), List.mem_of_getElem? (i := 1898) (by decide +kernel)⟩
theorem lw_p93 : lw_okq (⟨"SinglesPastModel", "ofTrain", "(II)I"⟩, 24) := ⟨⟨by decide +kernel, by decide +kernel⟩, List.mem_of_getElem? (i := 1498) (by decide +kernel), List.mem_of_getElem? (i := 1901) (by decide +kernel), List.mem_of_getElem? (i := 1902) (by decide +kernel)⟩
theorem lw_p94 : lw_okq (⟨"SinglesPastModel", "trainOf", "(I)I"⟩, 24) := ⟨⟨by decide +kernel, by decide +kernel⟩, List.mem_of_getElem? (i := 1498) (by decide +kernel), List.mem_of_getElem? (i := 1909) (by decide +kernel), List.mem_of_getElem? (i := 1910) (by decide +kernel)⟩
theorem lw_p95 : lw_okq (⟨"SinglesPastModel", "canGo", "(II)Z"⟩, 24) := ⟨⟨by decide +kernel, by decide +kernel⟩, List.mem_of_getElem? (i := 1498) (by decide +kernel), List.mem_of_getElem? (i := 1913) (by decide +kernel), List.mem_of_getElem? (i := 1914) (by decide +kernel)⟩
def lw_privs_6 : List (MethodName × Nat) := [(⟨"SinglesPastModel", "agreesBy", "(II)Z"⟩, 24), (⟨"SinglesPastModel", "bornIn", "(II)I"⟩, 24), (⟨"SinglesPastModel", "manyAgree", "()I"⟩, 24), (⟨"SinglesPastModel", "pastBy", "(I)I"⟩, 24), (⟨"SinglesPastModel", "nowBy", "(I)I"⟩, 24), (⟨"SinglesPastModel", "noGoer", "(I)Z"⟩, 24), (⟨"SinglesPastModel", "ifOtherwise", "(I)I"⟩, 24), (⟨"SinglesPastModel", "changesOf", "(I)I"⟩, 24), (⟨"SinglesPastModel", "worthOf", "(I)I"⟩, 24), (⟨"SinglesPastModel", "noThing", "(I)Z"⟩, 24), (⟨"SinglesPastModel", "lineOf", "(I)I"⟩, 24), (⟨"SinglesPastModel", "latestOf", "(I)I"⟩, 24), (⟨"SinglesPastModel", "allStops", "()I"⟩, 24), (⟨"SinglesPastModel", "ofTrain", "(II)I"⟩, 24), (⟨"SinglesPastModel", "trainOf", "(I)I"⟩, 24), (⟨"SinglesPastModel", "canGo", "(II)Z"⟩, 24)]
theorem lw_r6 : ∀ q ∈ lw_privs_6, lw_okq q := List.forall_mem_cons.mpr ⟨lw_p80, List.forall_mem_cons.mpr ⟨lw_p81, List.forall_mem_cons.mpr ⟨lw_p82, List.forall_mem_cons.mpr ⟨lw_p83, List.forall_mem_cons.mpr ⟨lw_p84, List.forall_mem_cons.mpr ⟨lw_p85, List.forall_mem_cons.mpr ⟨lw_p86, List.forall_mem_cons.mpr ⟨lw_p87, List.forall_mem_cons.mpr ⟨lw_p88, List.forall_mem_cons.mpr ⟨lw_p89, List.forall_mem_cons.mpr ⟨lw_p90, List.forall_mem_cons.mpr ⟨lw_p91, List.forall_mem_cons.mpr ⟨lw_p92, List.forall_mem_cons.mpr ⟨lw_p93, List.forall_mem_cons.mpr ⟨lw_p94, List.forall_mem_cons.mpr ⟨lw_p95, fun _ h => absurd h List.not_mem_nil⟩⟩⟩⟩⟩⟩⟩⟩⟩⟩⟩⟩⟩⟩⟩⟩
theorem lw_p96 : lw_okq (⟨"SinglesPastModel", "isGone", "(I)Z"⟩, 24) := ⟨⟨by decide +kernel, by decide +kernel⟩, List.mem_of_getElem? (i := 1498) (by decide +kernel), List.mem_of_getElem? (i := 1917) (by decide +kernel), List.mem_of_getElem? (i := 1918) (by decide +kernel)⟩
theorem lw_p97 : lw_okq (⟨"SinglesPastModel", "stopsFor", "(II)Z"⟩, 24) := ⟨⟨by decide +kernel, by decide +kernel⟩, List.mem_of_getElem? (i := 1498) (by decide +kernel), List.mem_of_getElem? (i := 1921) (by decide +kernel), List.mem_of_getElem? (i := 1922) (by decide +kernel)⟩
theorem lw_p98 : lw_okq (⟨"SinglesPastModel", "goneBy", "(I)I"⟩, 24) := ⟨⟨by decide +kernel, by decide +kernel⟩, List.mem_of_getElem? (i := 1498) (by decide +kernel), List.mem_of_getElem? (i := 1925) (by decide +kernel), List.mem_of_getElem? (i := 1926) (by decide +kernel)⟩
theorem lw_p99 : lw_okq (⟨"SinglesPastModel", "costOf", "(II)I"⟩, 24) := ⟨⟨by decide +kernel, by decide +kernel⟩, List.mem_of_getElem? (i := 1498) (by decide +kernel), List.mem_of_getElem? (i := 1929) (by decide +kernel), List.mem_of_getElem? (i := 1930) (by decide +kernel)⟩
theorem lw_p100 : lw_okq (⟨"SinglesPastModel", "sumOf", "(III)I"⟩, 24) := ⟨⟨by decide +kernel, by decide +kernel⟩, List.mem_of_getElem? (i := 1498) (by decide +kernel), List.mem_of_getElem? (i := 1933) (by decide +kernel), List.mem_of_getElem? (i := 1934) (by decide +kernel)⟩
theorem lw_p101 : lw_okq (⟨"SinglesPastModel", "holdsLine", "(III)Z"⟩, 24) := ⟨⟨by decide +kernel, by decide +kernel⟩, List.mem_of_getElem? (i := 1498) (by decide +kernel), List.mem_of_getElem? (i := 1937) (by decide +kernel), List.mem_of_getElem? (i := 1938) (by decide +kernel)⟩
theorem lw_p102 : lw_okq (⟨"SinglesPastModel", "factOf", "(IIII)I"⟩, 24) := ⟨⟨by decide +kernel, by decide +kernel⟩, List.mem_of_getElem? (i := 1498) (by decide +kernel), List.mem_of_getElem? (i := 1941) (by decide +kernel), List.mem_of_getElem? (i := 1942) (by decide +kernel)⟩
theorem lw_p103 : lw_okq (⟨"SinglesPastModel", "isBarred", "(II)Z"⟩, 24) := ⟨⟨by decide +kernel, by decide +kernel⟩, List.mem_of_getElem? (i := 1498) (by decide +kernel), List.mem_of_getElem? (i := 1945) (by decide +kernel), List.mem_of_getElem? (i := 1946) (by decide +kernel)⟩
theorem lw_p104 : lw_okq (⟨"SinglesPastModel", "meetsNone", "(II)Z"⟩, 24) := ⟨⟨by decide +kernel, by decide +kernel⟩, List.mem_of_getElem? (i := 1498) (by decide +kernel), List.mem_of_getElem? (i := 1949) (by decide +kernel), List.mem_of_getElem? (i := 1950) (by decide +kernel)⟩
theorem lw_p105 : lw_okq (⟨"SinglesPastModel", "noTrain", "(I)Z"⟩, 24) := ⟨⟨by decide +kernel, by decide +kernel⟩, List.mem_of_getElem? (i := 1498) (by decide +kernel), List.mem_of_getElem? (i := 1957) (by decide +kernel), List.mem_of_getElem? (i := 1958) (by decide +kernel)⟩
theorem lw_p106 : lw_okq (⟨"SinglesPastModel", "noSuch", "(II)Z"⟩, 24) := ⟨⟨by decide +kernel, by decide +kernel⟩, List.mem_of_getElem? (i := 1498) (by decide +kernel), List.mem_of_getElem? (i := 1965) (by decide +kernel), List.mem_of_getElem? (i := 1966) (by decide +kernel)⟩
theorem lw_p107 : lw_okq (⟨"SinglesPastModel", "fearOf", "(II)I"⟩, 24) := ⟨⟨by decide +kernel, by decide +kernel⟩, List.mem_of_getElem? (i := 1498) (by decide +kernel), List.mem_of_getElem? (i := 1973) (by decide +kernel), List.mem_of_getElem? (i := 1974) (by decide +kernel)⟩
theorem lw_p108 : lw_okq (⟨"SinglesPastModel", "remembers", "()V"⟩, 24) := ⟨⟨by decide +kernel, by decide +kernel⟩, List.mem_of_getElem? (i := 1498) (by decide +kernel), List.mem_of_getElem? (i := 1985) (by decide +kernel), List.mem_of_getElem? (i := 1986) (by decide +kernel)⟩
theorem lw_p109 : lw_okq (⟨"SinglesPastModel", "goesOn", "(IZ)I"⟩, 24) := ⟨⟨by decide +kernel, by decide +kernel⟩, List.mem_of_getElem? (i := 1498) (by decide +kernel), List.mem_of_getElem? (i := 1989) (by decide +kernel), List.mem_of_getElem? (i := 1990) (by decide +kernel)⟩
theorem lw_p110 : lw_okq (⟨"SinglesPastModel", "oneDay", "(Z)I"⟩, 24) := ⟨⟨by decide +kernel, by decide +kernel⟩, List.mem_of_getElem? (i := 1498) (by decide +kernel), List.mem_of_getElem? (i := 1993) (by decide +kernel), List.mem_of_getElem? (i := 1994) (by decide +kernel)⟩
theorem lw_p111 : lw_okq (⟨"SinglesPastModel", "decides", "(IZ)Z"⟩, 24) := ⟨⟨by decide +kernel, by decide +kernel⟩, List.mem_of_getElem? (i := 1498) (by decide +kernel), List.mem_of_getElem? (i := 1997) (by decide +kernel), List.mem_of_getElem? (i := 1998) (by decide +kernel)⟩
def lw_privs_7 : List (MethodName × Nat) := [(⟨"SinglesPastModel", "isGone", "(I)Z"⟩, 24), (⟨"SinglesPastModel", "stopsFor", "(II)Z"⟩, 24), (⟨"SinglesPastModel", "goneBy", "(I)I"⟩, 24), (⟨"SinglesPastModel", "costOf", "(II)I"⟩, 24), (⟨"SinglesPastModel", "sumOf", "(III)I"⟩, 24), (⟨"SinglesPastModel", "holdsLine", "(III)Z"⟩, 24), (⟨"SinglesPastModel", "factOf", "(IIII)I"⟩, 24), (⟨"SinglesPastModel", "isBarred", "(II)Z"⟩, 24), (⟨"SinglesPastModel", "meetsNone", "(II)Z"⟩, 24), (⟨"SinglesPastModel", "noTrain", "(I)Z"⟩, 24), (⟨"SinglesPastModel", "noSuch", "(II)Z"⟩, 24), (⟨"SinglesPastModel", "fearOf", "(II)I"⟩, 24), (⟨"SinglesPastModel", "remembers", "()V"⟩, 24), (⟨"SinglesPastModel", "goesOn", "(IZ)I"⟩, 24), (⟨"SinglesPastModel", "oneDay", "(Z)I"⟩, 24), (⟨"SinglesPastModel", "decides", "(IZ)Z"⟩, 24)]
theorem lw_r7 : ∀ q ∈ lw_privs_7, lw_okq q := List.forall_mem_cons.mpr ⟨lw_p96, List.forall_mem_cons.mpr ⟨lw_p97, List.forall_mem_cons.mpr ⟨lw_p98, List.forall_mem_cons.mpr ⟨lw_p99, List.forall_mem_cons.mpr ⟨lw_p100, List.forall_mem_cons.mpr ⟨lw_p101, List.forall_mem_cons.mpr ⟨lw_p102, List.forall_mem_cons.mpr ⟨lw_p103, List.forall_mem_cons.mpr ⟨lw_p104, List.forall_mem_cons.mpr ⟨lw_p105, List.forall_mem_cons.mpr ⟨lw_p106, List.forall_mem_cons.mpr ⟨lw_p107, List.forall_mem_cons.mpr ⟨lw_p108, List.forall_mem_cons.mpr ⟨lw_p109, List.forall_mem_cons.mpr ⟨lw_p110, List.forall_mem_cons.mpr ⟨lw_p111, fun _ h => absurd h List.not_mem_nil⟩⟩⟩⟩⟩⟩⟩⟩⟩⟩⟩⟩⟩⟩⟩⟩
theorem lw_p112 : lw_okq (⟨"SinglesPastModel", "drawn", "(I)I"⟩, 24) := ⟨⟨by decide +kernel, by decide +kernel⟩, List.mem_of_getElem? (i := 1498) (by decide +kernel), List.mem_of_getElem? (i := 2001) (by decide +kernel), List.mem_of_getElem? (i := 2002) (by decide +kernel)⟩
theorem lw_p113 : lw_okq (⟨"SinglesPastModel", "isSold", "(II)I"⟩, 24) := ⟨⟨by decide +kernel, by decide +kernel⟩, List.mem_of_getElem? (i := 1498) (by decide +kernel), List.mem_of_getElem? (i := 2006) (by decide +kernel), List.mem_of_getElem? (i := 2007) (by decide +kernel)⟩
theorem lw_p114 : lw_okq (⟨"SinglesPastModel", "isTold", "(III)V"⟩, 24) := ⟨⟨by decide +kernel, by decide +kernel⟩, List.mem_of_getElem? (i := 1498) (by decide +kernel), List.mem_of_getElem? (i := 2010) (by decide +kernel), List.mem_of_getElem? (i := 2011) (by decide +kernel)⟩
theorem lw_p115 : lw_okq (⟨"SinglesPastModel", "isNow", "(II)I"⟩, 24) := ⟨⟨by decide +kernel, by decide +kernel⟩, List.mem_of_getElem? (i := 1498) (by decide +kernel), List.mem_of_getElem? (i := 2023) (by decide +kernel), List.mem_of_getElem? (i := 2024) (by decide +kernel)⟩
theorem lw_p116 : lw_okq (⟨"SinglesPastModel", "noTwo", "(II)Z"⟩, 24) := ⟨⟨by decide +kernel, by decide +kernel⟩, List.mem_of_getElem? (i := 1498) (by decide +kernel), List.mem_of_getElem? (i := 2046) (by decide +kernel), List.mem_of_getElem? (i := 2047) (by decide +kernel)⟩
theorem lw_p117 : lw_okq (⟨"SinglesPastModel", "isRows", "()Z"⟩, 24) := ⟨⟨by decide +kernel, by decide +kernel⟩, List.mem_of_getElem? (i := 1498) (by decide +kernel), List.mem_of_getElem? (i := 2063) (by decide +kernel), List.mem_of_getElem? (i := 2064) (by decide +kernel)⟩
theorem lw_p118 : lw_okq (⟨"SinglesPastModel", "areSo", "(I)Z"⟩, 24) := ⟨⟨by decide +kernel, by decide +kernel⟩, List.mem_of_getElem? (i := 1498) (by decide +kernel), List.mem_of_getElem? (i := 2067) (by decide +kernel), List.mem_of_getElem? (i := 2068) (by decide +kernel)⟩
theorem lw_p119 : lw_okq (⟨"SinglesPastModel", "fitsWho", "(I)Z"⟩, 24) := ⟨⟨by decide +kernel, by decide +kernel⟩, List.mem_of_getElem? (i := 1498) (by decide +kernel), List.mem_of_getElem? (i := 2075) (by decide +kernel), List.mem_of_getElem? (i := 2076) (by decide +kernel)⟩
theorem lw_p120 : lw_okq (⟨"SinglesPastModel", "hangsOn", "(I)I"⟩, 24) := ⟨⟨by decide +kernel, by decide +kernel⟩, List.mem_of_getElem? (i := 1498) (by decide +kernel), List.mem_of_getElem? (i := 2087) (by decide +kernel), List.mem_of_getElem? (i := 2088) (by decide +kernel)⟩
theorem lw_p121 : lw_okq (⟨"SinglesPastModel", "mostOf", "(I)I"⟩, 24) := ⟨⟨by decide +kernel, by decide +kernel⟩, List.mem_of_getElem? (i := 1498) (by decide +kernel), List.mem_of_getElem? (i := 2107) (by decide +kernel), List.mem_of_getElem? (i := 2108) (by decide +kernel)⟩
theorem lw_p122 : lw_okq (⟨"SinglesPastModel", "laysWay", "(II)I"⟩, 24) := ⟨⟨by decide +kernel, by decide +kernel⟩, List.mem_of_getElem? (i := 1498) (by decide +kernel), List.mem_of_getElem? (i := 2111) (by decide +kernel), List.mem_of_getElem? (i := 2112) (by decide +kernel)⟩
theorem lw_p123 : lw_okq (⟨"SinglesPastModel", "mayGo", "(II)Z"⟩, 24) := ⟨⟨by decide +kernel, by decide +kernel⟩, List.mem_of_getElem? (i := 1498) (by decide +kernel), List.mem_of_getElem? (i := 2115) (by decide +kernel), List.mem_of_getElem? (i := 2116) (by decide +kernel)⟩
theorem lw_p124 : lw_okq (⟨"SinglesPastModel", "canAll", "(I)Z"⟩, 24) := ⟨⟨by decide +kernel, by decide +kernel⟩, List.mem_of_getElem? (i := 1498) (by decide +kernel), List.mem_of_getElem? (i := 2123) (by decide +kernel), List.mem_of_getElem? (i := 2124) (by decide +kernel)⟩
theorem lw_p125 : lw_okq (⟨"SinglesPastModel", "laysMembers", "(I)I"⟩, 24) := ⟨⟨by decide +kernel, by decide +kernel⟩, List.mem_of_getElem? (i := 1498) (by decide +kernel), List.mem_of_getElem? (i := 2127) (by decide +kernel), List.mem_of_getElem? (i := 2128) (by decide +kernel)⟩
theorem lw_p126 : lw_okq (⟨"SinglesPastModel", "earnsOf", "(I)I"⟩, 24) := ⟨⟨by decide +kernel, by decide +kernel⟩, List.mem_of_getElem? (i := 1498) (by decide +kernel), List.mem_of_getElem? (i := 2135) (by decide +kernel), List.mem_of_getElem? (i := 2136) (by decide +kernel)⟩
theorem lw_p127 : lw_okq (⟨"SinglesPastModel", "priceOf", "(I)I"⟩, 24) := ⟨⟨by decide +kernel, by decide +kernel⟩, List.mem_of_getElem? (i := 1498) (by decide +kernel), List.mem_of_getElem? (i := 2139) (by decide +kernel), List.mem_of_getElem? (i := 2140) (by decide +kernel)⟩
def lw_privs_8 : List (MethodName × Nat) := [(⟨"SinglesPastModel", "drawn", "(I)I"⟩, 24), (⟨"SinglesPastModel", "isSold", "(II)I"⟩, 24), (⟨"SinglesPastModel", "isTold", "(III)V"⟩, 24), (⟨"SinglesPastModel", "isNow", "(II)I"⟩, 24), (⟨"SinglesPastModel", "noTwo", "(II)Z"⟩, 24), (⟨"SinglesPastModel", "isRows", "()Z"⟩, 24), (⟨"SinglesPastModel", "areSo", "(I)Z"⟩, 24), (⟨"SinglesPastModel", "fitsWho", "(I)Z"⟩, 24), (⟨"SinglesPastModel", "hangsOn", "(I)I"⟩, 24), (⟨"SinglesPastModel", "mostOf", "(I)I"⟩, 24), (⟨"SinglesPastModel", "laysWay", "(II)I"⟩, 24), (⟨"SinglesPastModel", "mayGo", "(II)Z"⟩, 24), (⟨"SinglesPastModel", "canAll", "(I)Z"⟩, 24), (⟨"SinglesPastModel", "laysMembers", "(I)I"⟩, 24), (⟨"SinglesPastModel", "earnsOf", "(I)I"⟩, 24), (⟨"SinglesPastModel", "priceOf", "(I)I"⟩, 24)]
theorem lw_r8 : ∀ q ∈ lw_privs_8, lw_okq q := List.forall_mem_cons.mpr ⟨lw_p112, List.forall_mem_cons.mpr ⟨lw_p113, List.forall_mem_cons.mpr ⟨lw_p114, List.forall_mem_cons.mpr ⟨lw_p115, List.forall_mem_cons.mpr ⟨lw_p116, List.forall_mem_cons.mpr ⟨lw_p117, List.forall_mem_cons.mpr ⟨lw_p118, List.forall_mem_cons.mpr ⟨lw_p119, List.forall_mem_cons.mpr ⟨lw_p120, List.forall_mem_cons.mpr ⟨lw_p121, List.forall_mem_cons.mpr ⟨lw_p122, List.forall_mem_cons.mpr ⟨lw_p123, List.forall_mem_cons.mpr ⟨lw_p124, List.forall_mem_cons.mpr ⟨lw_p125, List.forall_mem_cons.mpr ⟨lw_p126, List.forall_mem_cons.mpr ⟨lw_p127, fun _ h => absurd h List.not_mem_nil⟩⟩⟩⟩⟩⟩⟩⟩⟩⟩⟩⟩⟩⟩⟩⟩
theorem lw_p128 : lw_okq (⟨"SinglesPastModel", "payersOf", "(II)I"⟩, 24) := ⟨⟨by decide +kernel, by decide +kernel⟩, List.mem_of_getElem? (i := 1498) (by decide +kernel), List.mem_of_getElem? (i := 2143) (by decide +kernel), List.mem_of_getElem? (i := 2144) (by decide +kernel)⟩
theorem lw_p129 : lw_okq (⟨"SinglesPastModel", "laysPairs", "()V"⟩, 24) := ⟨⟨by decide +kernel, by decide +kernel⟩, List.mem_of_getElem? (i := 1498) (by decide +kernel), List.mem_of_getElem? (i := 2173) (by decide +kernel), List.mem_of_getElem? (i := 2174) (by decide +kernel)⟩
theorem lw_p130 : lw_okq (⟨"SinglesPastModel", "pairedBy", "(II)I"⟩, 24) := ⟨⟨by decide +kernel, by decide +kernel⟩, List.mem_of_getElem? (i := 1498) (by decide +kernel), List.mem_of_getElem? (i := 2177) (by decide +kernel), List.mem_of_getElem? (i := 2178) (by decide +kernel)⟩
theorem lw_p131 : lw_okq (⟨"SinglesPastModel", "canPair", "(II)Z"⟩, 24) := ⟨⟨by decide +kernel, by decide +kernel⟩, List.mem_of_getElem? (i := 1498) (by decide +kernel), List.mem_of_getElem? (i := 2188) (by decide +kernel), List.mem_of_getElem? (i := 2189) (by decide +kernel)⟩
theorem lw_p132 : lw_okq (⟨"SinglesPastModel", "goerHas", "(III)I"⟩, 24) := ⟨⟨by decide +kernel, by decide +kernel⟩, List.mem_of_getElem? (i := 1498) (by decide +kernel), List.mem_of_getElem? (i := 2196) (by decide +kernel), List.mem_of_getElem? (i := 2197) (by decide +kernel)⟩
theorem lw_p133 : lw_okq (⟨"SinglesPastModel", "keepsAll", "()V"⟩, 24) := ⟨⟨by decide +kernel, by decide +kernel⟩, List.mem_of_getElem? (i := 1498) (by decide +kernel), List.mem_of_getElem? (i := 2242) (by decide +kernel), List.mem_of_getElem? (i := 2243) (by decide +kernel)⟩
theorem lw_p134 : lw_okq (⟨"SinglesPastModel", "bringsBack", "()V"⟩, 24) := ⟨⟨by decide +kernel, by decide +kernel⟩, List.mem_of_getElem? (i := 1498) (by decide +kernel), List.mem_of_getElem? (i := 2246) (by decide +kernel), List.mem_of_getElem? (i := 2247) (by decide +kernel)⟩
theorem lw_p135 : lw_okq (⟨"SinglesPastModel", "ofLog", "(II)I"⟩, 24) := ⟨⟨by decide +kernel, by decide +kernel⟩, List.mem_of_getElem? (i := 1498) (by decide +kernel), List.mem_of_getElem? (i := 2262) (by decide +kernel), List.mem_of_getElem? (i := 2263) (by decide +kernel)⟩
def lw_privs_9 : List (MethodName × Nat) := [(⟨"SinglesPastModel", "payersOf", "(II)I"⟩, 24), (⟨"SinglesPastModel", "laysPairs", "()V"⟩, 24), (⟨"SinglesPastModel", "pairedBy", "(II)I"⟩, 24), (⟨"SinglesPastModel", "canPair", "(II)Z"⟩, 24), (⟨"SinglesPastModel", "goerHas", "(III)I"⟩, 24), (⟨"SinglesPastModel", "keepsAll", "()V"⟩, 24), (⟨"SinglesPastModel", "bringsBack", "()V"⟩, 24), (⟨"SinglesPastModel", "ofLog", "(II)I"⟩, 24)]
theorem lw_r9 : ∀ q ∈ lw_privs_9, lw_okq q := List.forall_mem_cons.mpr ⟨lw_p128, List.forall_mem_cons.mpr ⟨lw_p129, List.forall_mem_cons.mpr ⟨lw_p130, List.forall_mem_cons.mpr ⟨lw_p131, List.forall_mem_cons.mpr ⟨lw_p132, List.forall_mem_cons.mpr ⟨lw_p133, List.forall_mem_cons.mpr ⟨lw_p134, List.forall_mem_cons.mpr ⟨lw_p135, fun _ h => absurd h List.not_mem_nil⟩⟩⟩⟩⟩⟩⟩⟩
def lw_privs : List (MethodName × Nat) := lw_privs_1 ++ (lw_privs_2 ++ (lw_privs_3 ++ (lw_privs_4 ++ (lw_privs_5 ++ (lw_privs_6 ++ (lw_privs_7 ++ (lw_privs_8 ++ (lw_privs_9))))))))
def lw_tbl : List Cond := k2_sels lw_privs ++ tables_1
theorem lw_privs_ok : ∀ q ∈ lw_privs, lw_okq q := by
  show ∀ q ∈ lw_privs_1 ++ (lw_privs_2 ++ (lw_privs_3 ++ (lw_privs_4 ++ (lw_privs_5 ++ (lw_privs_6 ++ (lw_privs_7 ++ (lw_privs_8 ++ (lw_privs_9)))))))), lw_okq q
  exact List.forall_mem_append.mpr ⟨lw_r1, List.forall_mem_append.mpr ⟨lw_r2, List.forall_mem_append.mpr ⟨lw_r3, List.forall_mem_append.mpr ⟨lw_r4, List.forall_mem_append.mpr ⟨lw_r5, List.forall_mem_append.mpr ⟨lw_r6, List.forall_mem_append.mpr ⟨lw_r7, List.forall_mem_append.mpr ⟨lw_r8, lw_r9⟩⟩⟩⟩⟩⟩⟩⟩
-- ===== end of PART A; then your names; then what follows =====
end
section
/-! ===== BEGIN words of one list among another's, by their places ===== -/
theorem goodIn_r {big : List Cond} (ws : List Cond) (ps : List Nat) (hp : ws = ps.filterMap (fun i => big[i]?)) (h : ws.all goodWord = true) : GoodIn big ws := by
  intro w hw
  have h1 := List.all_eq_true.mp h w hw
  rw [hp] at hw
  obtain ⟨i, -, hi⟩ := List.mem_filterMap.mp hw
  have hm : w ∈ big := by first | exact List.mem_of_getElem? hi | exact List.getElem?_mem hi
  exact ⟨hm, good_of_word h1⟩
theorem goodIn_app {big a b : List Cond} (ha : GoodIn big a) (hb : GoodIn big b) : GoodIn big (a ++ b) := fun w h => (List.mem_append.mp h).elim (ha w) (hb w)
theorem goodIn_ca {big a b : List Cond} {c : Cond} (ha : GoodIn big (c :: a)) (hb : GoodIn big b) : GoodIn big (c :: (a ++ b)) := fun w h => (List.mem_cons.mp h).elim (fun e => ha w (List.mem_cons.mpr (Or.inl e))) (fun h => (List.mem_append.mp h).elim (fun h => ha w (List.mem_cons.mpr (Or.inr h))) (hb w))
theorem goodIn_sub {big ws : List Cond} (hm : ∀ w ∈ ws, w ∈ big) (h : ws.all goodWord = true) : GoodIn big ws := fun w hw => ⟨hm w hw, good_of_word (List.all_eq_true.mp h w hw)⟩
/-! ===== END ===== -/

/-! ===== BEGIN a throw that comes back into a method and is caught behind rows that are passed ===== -/
section TC
def tc_F (e : Env) (s : State) (f : JFrame) (a : Addr) (h : Handler) (vm' : Vm) : Prop :=
  ∀ (Q : Handler → Pre) (E : CtlPost) (d : Bool) (acts : List Action), wp (findHandler f a) Q E e d acts s ↔ Q h d acts (s.setVm vm')
def tc_pass (pl : Platform) (s₀ : State) (d : ClassId) (pc : Nat) (thrown : ClassId) (y : ExceptionTableEntry) : Prop :=
  covers y pc = false ∨ (y.catchType ≠ 0 ∧ ∃ c, s₀.vm.ClassLinks pl d y.catchType c ∧ s₀.vm.assignable thrown c = false)
theorem tc_row {e : Env} {s : State} {f : JFrame} {a : Addr} {x : ExceptionTableEntry} {t : List ExceptionTableEntry} {c : ClassId} {cell : Cell} (hx : covers x f.pc = true) (h0 : x.catchType ≠ 0)
    (hl : s.vm.ClassLinks e.platform f.method.cls x.catchType c) (hcell : s.heap[a]? = some cell) (hobj : ∀ k, cell.vm ≠ .statics k)
    (hk : ∃ k, s.vm.classes[cell.cls]? = some k) (hc : ∃ k, s.vm.classes[c]? = some k) (Q : Handler → Pre) (E : CtlPost) (d : Bool) (acts : List Action) :
    (s.vm.assignable cell.cls c = true → (wp (findHandler.go f a (x :: t)) Q E e d acts s ↔ Q (.found x.handlerPc) d acts (s.setVm (s.vm.noted f.method.cls x.catchType (.cls c))))) ∧
    (s.vm.assignable cell.cls c = false → (wp (findHandler.go f a (x :: t)) Q E e d acts s ↔ wp (findHandler.go f a t) Q E e d acts (s.setVm (s.vm.noted f.method.cls x.catchType (.cls c))))) := by
  simp only [covers] at hx
  obtain ⟨ha, ht⟩ := (resolveClass_links e.toSetting hl).op (op := VmOp.resolveClass f.method.cls x.catchType) rfl
  have hal : s.vm.Alike (s.vm.noted f.method.cls x.catchType (.cls c)) := (Vm.Alike.refl s.vm).noted _ _ _
  obtain ⟨k1, hk1⟩ := hk
  obtain ⟨k2, hk2⟩ := hc
  obtain ⟨k1', hk1', -⟩ := hal.2.2 _ _ hk1
  obtain ⟨k2', hk2', -⟩ := hal.2.2 _ _ hk2
  refine ⟨fun hf => ?_, fun hf => ?_⟩
  · have hf' : (s.vm.noted f.method.cls x.catchType (.cls c)).assignable cell.cls c = true := by rw [hal.assignable]; exact hf
    simp [findHandler.go, hx, h0, ha, ht, hcell, hobj, hk1', hk2', hf', VmOp.dirties, VmOp.acts]
  · have hf' : (s.vm.noted f.method.cls x.catchType (.cls c)).assignable cell.cls c = false := by rw [hal.assignable]; exact hf
    simp [findHandler.go, hx, h0, ha, ht, hcell, hobj, hk1', hk2', hf', VmOp.dirties, VmOp.acts]
theorem tc_go {e : Env} {s₀ : State} {f : JFrame} {a : Addr} {cell : Cell} (hobj : ∀ k, cell.vm ≠ .statics k) (hk0 : ∃ k, s₀.vm.classes[cell.cls]? = some k)
    (x : ExceptionTableEntry) (rest : List ExceptionTableEntry) (hx : covers x f.pc = true) (h0 : x.catchType ≠ 0) {c : ClassId} (hl : s₀.vm.ClassLinks e.platform f.method.cls x.catchType c) (hfit : s₀.vm.assignable cell.cls c = true) :
    ∀ (pre : List ExceptionTableEntry) (S : State), s₀.WarmedH S.vm → S.heap[a]? = some cell → (∀ y ∈ pre, tc_pass e.platform s₀ f.method.cls f.pc cell.cls y) →
      ∃ vm', s₀.WarmedH vm' ∧ ∀ (Q : Handler → Pre) (E : CtlPost) (d : Bool) (acts : List Action), wp (findHandler.go f a (pre ++ x :: rest)) Q E e d acts S ↔ Q (.found x.handlerPc) d acts (S.setVm vm') := by
  obtain ⟨k0, hk0⟩ := hk0
  intro pre
  induction pre with
  | nil =>
    intro S hW hcell _
    obtain ⟨k0', hk0', -⟩ := hW.alike.2.2 _ _ hk0
    obtain ⟨dk, _, _, kt, hd, _, _, _, _, hkt, _, hopen⟩ := hl.here
    obtain ⟨kt', hkt', -⟩ := hW.alike.2.2 _ _ hkt
    exact ⟨_, hW.noted hd hopen (State.rightAt_cls hl), fun Q E d acts => by
      rw [List.nil_append]
      exact (tc_row hx h0 (hW.classLinks hl) hcell hobj ⟨k0', hk0'⟩ ⟨kt', hkt'⟩ Q E d acts).1 (by rw [hW.alike.assignable]; exact hfit)⟩
  | cons y ys ih =>
    intro S hW hcell hpass
    obtain ⟨k0', hk0', -⟩ := hW.alike.2.2 _ _ hk0
    have hrest : ∀ z ∈ ys, tc_pass e.platform s₀ f.method.cls f.pc cell.cls z := fun z hz => hpass z (List.mem_cons_of_mem _ hz)
    by_cases hcov : covers y f.pc = true
    · rcases hpass y List.mem_cons_self with h | ⟨h0', c', hl', hno⟩
      · rw [h] at hcov; cases hcov
      · obtain ⟨dk, _, _, kt, hd, _, _, _, _, hkt, _, hopen⟩ := hl'.here
        obtain ⟨kt', hkt', -⟩ := hW.alike.2.2 _ _ hkt
        obtain ⟨vm', hW', hq⟩ := ih (S.setVm (S.vm.noted f.method.cls y.catchType (.cls c'))) (hW.noted hd hopen (State.rightAt_cls hl')) hcell hrest
        exact ⟨vm', hW', fun Q E d acts => by
          rw [List.cons_append, (tc_row hcov h0' (hW.classLinks hl') hcell hobj ⟨k0', hk0'⟩ ⟨kt', hkt'⟩ Q E d acts).2 (by rw [hW.alike.assignable]; exact hno)]
          exact hq Q E d acts⟩
    · obtain ⟨vm', hW', hq⟩ := ih S hW hcell hrest
      exact ⟨vm', hW', fun Q E d acts => by
        rw [List.cons_append, W.findHandler_go_skip (by simpa using hcov)]
        exact hq Q E d acts⟩
theorem tc_step {e : Env} {s : State} {a : Addr} {f : JFrame} {r : List Frame} {pc : Nat} {vm' : Vm} (hfind : tc_F e s f a (.found pc) vm') :
    (stepThrowing e s a (.java f :: r)).Is ((s.setVm vm').setFrames (.java { f with pc := pc, stack := [.ref a] } :: r)) [] := by
  simp only [stepThrowing, searchFrame, vmDo]
  generalize hr : Sem.go _ e false [] s = res
  obtain ⟨as, rfl, ha⟩ := Sem.eq_ok_of hr (a := Handler.found pc) (s' := s.setVm vm') (acts' := []) (by simp [hfind _ _ _ _])
  exact ⟨rfl, ha⟩
theorem tc_frames (u : State) (vm' : Vm) (F G : List Frame) : ((u.setFrames F).setVm vm').setFrames G = (u.setVm vm').setFrames G := by
  rw [show (u.setFrames F).setVm vm' = (u.setVm vm').setFrames F from rfl, State.setFrames_setFrames]
theorem tc_steps {tb : Tables} {e : Env} {s target : State} {g : JFrame} {c : Code} {below : List Frame} {a : Addr} (h : At s g.method c below) {pc : Nat} {vm' : Vm}
    (hfind : tc_F e ((s.setTop g).pushFrame (.throwing a)) g a (.found pc) vm') (hrest : Steps tb e below ((s.setVm vm').setTop { g with pc := pc, stack := [.ref a] }) target) :
    Steps tb e below ((s.setTop g).pushFrame (.throwing a)) target := by
  obtain ⟨hgo, hw⟩ := h.throwing a
  refine Steps.head hgo hw ?_
  rw [stepThread_throwing (frames_entered h.top _), (tc_step (s := (s.setTop g).pushFrame (.throwing a)) hfind).1]
  obtain ⟨g₀, hg⟩ := Option.isSome_iff_exists.mp h.top
  obtain ⟨r, hr⟩ := State.topJava?_eq_some.mp hg
  have hr' : (s.setVm vm').frames = .java g₀ :: r := hr
  rw [State.setTop_of_frames _ hr'] at hrest
  rw [hr, List.tail_cons, State.pushFrame, tc_frames, State.setTop_of_frames _ hr, tc_frames]
  exact hrest
theorem tc_caught {p : Program} {l : Launch} {e : Env} {R : Room} {s : State} {m₀ : MethodId} {args : Array Value} {below : List Frame} {meth : Method} {c : Code} {T : State} {locs : List Loc} {cells slots : Nat}
    (X : Stand p l e R s m₀ args below meth c T locs cells slots) (a : Addr) {g : JFrame} (hg : g.method = m₀) {cell : Cell} (hcell : T.heap[a]? = some cell) (hobj : cell.vm.isStatics = false) (hk0 : ∃ k, s.vm.classes[cell.cls]? = some k)
    (pre : List ExceptionTableEntry) (x : ExceptionTableEntry) (rest : List ExceptionTableEntry) (hsplit : c.exceptionTable.toList = pre ++ x :: rest)
    (hpass : ∀ y ∈ pre, tc_pass e.platform s m₀.cls g.pc cell.cls y) (hx : covers x g.pc = true) (h0 : x.catchType ≠ 0) {cT : ClassId} (hl : s.vm.ClassLinks e.platform m₀.cls x.catchType cT) (hfit : s.vm.assignable cell.cls cT = true) :
    ∃ vm', Stand p l e R s m₀ args below meth c (T.setVm vm') locs cells slots ∧ Steps p.tables e below ((T.setTop g).pushFrame (.throwing a)) ((T.setVm vm').setTop { g with pc := x.handlerPc, stack := [.ref a] }) := by
  subst hg
  obtain ⟨vm', hW', hq⟩ := tc_go (e := e) (s₀ := s) (f := g) (a := a) (cell := cell) (VmData.ne_statics_of hobj) hk0 x rest hx h0 hl hfit pre ((T.setTop g).pushFrame (.throwing a)) X.warmed hcell hpass
  refine ⟨vm', X.noted hW', tc_steps X.here (fun Q E d acts => ?_) (Steps.refl _)⟩
  rw [W.findHandler_eq (s := (T.setTop g).pushFrame (.throwing a)) (f := g) (meth := meth) (code := c) X.method' X.code, hsplit]
  exact hq Q E d acts
end TC
/-! ===== END ===== -/
/-! ===== BEGIN exceptions that leave a method, and their catching by the caller (launches without stack traces) ===== -/
section VXA
/-! The laws vx_back, vx_callV, vx_callS, vx_callSW, vx_throw0, vx_throwS follow proofs of the library, with one case more: JvmDerived/Free/Laws.lean (Back.of_free), Shelf42/LK1.lean (callV, callS), Shelf/KitTraced.lean (throwNew0V, throwNewS). -/
/-- where a method has thrown q: the class by its name, the cell, what was written, the world -/
def vx_T (XC : String → State → State → Prop) (st : State) (q : Addr) (t : State) (mc ms : Nat) (free : Addr → Prop) : Prop :=
  ∃ (E : String) (ce : Cell) (L : List Loc), XC E st t ∧ t.heap[q]? = some ce ∧ ce.vm = .none ∧ st.vm.findClass E = some ce.cls ∧ st.WarmedH t.vm ∧ st.sameButNew ({ t with vm := st.vm } : State) L mc ms ∧ ∀ z ∈ L, free z.base
def vx_Q (Qc : Array Value → State → Outcome → State → Prop) (XC : String → State → State → Prop) (mc ms : Nat) (free : Addr → Prop) : Array Value → State → Outcome → State → Prop := fun a st o t =>
  (Qc a st o t ∧ ∃ L, FrameEnd st o t L mc ms ∧ ∀ q ∈ L, free q.base) ∨ ∃ q, o = .threw q ∧ vx_T XC st q t mc ms free
/-- a callee that returns or throws -/
def vx_Met (l : Launch) (y : MethodName) (ws : List Cond) (rm : Room) (Pc : Array Value → State → Prop) (Qc : Array Value → State → Outcome → State → Prop) (XC : String → State → State → Prop) (mc ms : Nat) (free : Addr → Prop) : Prop :=
  MetFree l y (headSpec ws rm) Pc (fun _ _ _ _ _ => True) (vx_Q Qc XC mc ms free)
def vx_Post (XC : String → State → State → Prop) (mc ms : Nat) (free : Addr → Prop) : Pt → Array Value → Addr → Pt → Prop := fun A a q B =>
  ∃ (g : JFrame) (mk : MethodId) (t : State) (L : List Loc) (E : String) (ce : Cell), B.U.heap = t.heap ∧ B.U.vm = t.vm ∧ XC E (A.U.calling g mk a) t ∧ t.heap[q]? = some ce ∧ ce.vm = .none ∧ A.U.vm.findClass E = some ce.cls ∧ B.locs = A.locs ++ L ∧ (∀ z ∈ L, free z.base) ∧ B.cells = A.cells + mc ∧ B.slots = A.slots + ms
def vx_Back (l : Launch) (R : Room) (p : Program) (e : Env) (below : List Frame) (s : State) (sargs : Array Value) (y : MethodName) (len W9 : Nat)
    (Pre : Pt → Array Value → Prop) (Post : Pt → Array Value → Option Value → Pt → Prop) (PostX : Pt → Array Value → Addr → Pt → Prop) : Prop :=
  ∀ (m : MethodId) (meth : Method) (c : Code) (A : Pt) (g : JFrame) (ig : Instr) (mk : MethodId) (a : Array Value),
    Stand p l e R s m sargs below meth c A.U A.locs A.cells A.slots → g.method = m → g.locals.size = c.maxLocals → decode c.code g.pc = .ok (ig, len) →
    2 * g.monitorRoom + (g.stack.map fun v => v.category).sum ≤ W9 → A.U.methodNamed? y = some mk → Pre A a →
    (∃ (v : Option Value) (B : Pt), Stand p l e R s m sargs below meth c B.U B.locs B.cells B.slots ∧ Post A a v B ∧
      Steps p.tables e below (doInvoke e (A.U.setTop g) [] mk a).1 (B.U.setTop { g with pc := g.pc + len, stack := v.toList ++ g.stack })) ∨
    (∃ (q : Addr) (B : Pt), Stand p l e R s m sargs below meth c B.U B.locs B.cells B.slots ∧ PostX A a q B ∧
      Steps p.tables e below (doInvoke e (A.U.setTop g) [] mk a).1 ((B.U.setTop g).pushFrame (.throwing q)))
section Payer
variable {l : Launch} {R : Room} {p : Program} {e : Env} {below : List Frame} {s : State} {sargs : Array Value} {y : MethodName} {len W9 : Nat}
theorem vx_back {ws : List Cond} {rm : Room} {Pc : Array Value → State → Prop} {Qc : Array Value → State → Outcome → State → Prop} {XC : String → State → State → Prop} {mc ms : Nat} {free : Addr → Prop} {bytes : ByteArray} {maxL : Nat} {ret : Option FieldType}
    (hM : vx_Met l y ws rm Pc Qc XC mc ms free) (hblind : FrameBlind Pc) (hrc : rm.cells = mc) (hrs : rm.slots = ms)
    (hframes : rm.frames + 1 ≤ R.frames) (hlocals : W9 + (maxL + 11) + rm.locals ≤ R.locals)
    (hws : ∀ w ∈ ws, ∀ a' U, s.WarmedH U.vm → w.before a' U = true) (hcode : Cond.code y bytes maxL ret ∈ ws) (hinit : ∀ a' U, s.WarmedH U.vm → (Cond.initialized y.cls).before a' U = true) :
    vx_Back l R p e below s sargs y len W9 (PreOf R mc ms Pc) (PostOf Qc mc ms free) (vx_Post XC mc ms free) := by
  intro m meth c A g ig mk a X hg hsize hdg hW hn hp
  have h1 : (headSpec ws rm).pre.before a A.U = true := atoms_intro fun w hw => hws w hw _ _ X.warmed
  have h2 : (Cond.code y bytes maxL ret).before a A.U = true := hws _ hcode _ _ X.warmed
  have h3 : (Cond.initialized y.cls).before a A.U = true := hinit _ _ X.warmed
  have h4 : A.cells + (headSpec ws rm).room.cells ≤ R.cells := by rw [show (headSpec ws rm).room.cells = mc from hrc]; exact hp.1
  have h5 : A.slots + (headSpec ws rm).room.slots ≤ R.slots := by rw [show (headSpec ws rm).room.slots = ms from hrs]; exact hp.2.1
  have hPc : Pc a (A.U.calling g mk a) := hblind _ _ _ _ hp.2.2
  obtain ⟨U, Ls, c0, s0⟩ := A
  dsimp only [Pt.U, Pt.locs, Pt.cells, Pt.slots] at h1 h2 h3 h4 h5 X hn hPc ⊢
  obtain ⟨methY, cY, hmY, hcY, -, hlY, -, -, -, -⟩ := Cond.code_spec hn h2
  obtain ⟨kY, hkY, -⟩ := className_of_methodNamed hn
  have hinitY : kY.init = .initialized := Cond.initialized_spec (findClass_of_methodNamed hn) hkY h3
  have h : At U g.method c below := by rw [hg]; exact X.here
  have hlocals9 : W9 + (maxL + 11) + (headSpec ws rm).room.locals ≤ R.locals := hlocals
  have happ : (headSpec ws rm).appliesLoose y e.platform (U.calling g mk a) = true :=
    Spec.appliesLoose_calling (g := g) h hdg hn hkY hinitY
      (X.room_calling (g := g) (R' := (headSpec ws rm).room) hsize hmY hcY hframes (by rw [hlY]; omega) h4 h5) h1
  obtain ⟨mid, hmid⟩ := h.above
  have hfr : (U.setTop g).frames = (.java g :: mid) ++ below := by rw [State.frames_setTop' g h.top, hmid]; rfl
  obtain ⟨o, s₂, hsteps, -, hend, hq⟩ := Steps.callFree hM p X.admits X.cas X.clock (acts := []) hfr happ hPc trivial
  have hq' : vx_Q Qc XC mc ms free a (U.calling g mk a) o s₂ := hq
  rw [State.frames_setTop' g h.top] at hend
  obtain ⟨g₀, hg0⟩ := Option.isSome_iff_exists.mp h.top
  obtain ⟨r, hr⟩ := State.topJava?_eq_some.mp hg0
  have hr' : (({ U with heap := s₂.heap, slotsUsed := s₂.slotsUsed } : State).setVm s₂.vm).frames = .java g₀ :: r := hr
  rcases hq' with ⟨hqc, L, hfe, hL⟩ | ⟨q, rfl, E, ce, L, hx, hce, hcv, hcl, hW₂, hsm, hL⟩
  · obtain ⟨⟨v, rfl⟩, hW₂, e2, q2, q3, q4, q5, q6⟩ := id hfe
    have e3 : s₂ = ({ (U.calling g mk a).setFrames s₂.frames with heap := s₂.heap, slotsUsed := s₂.slotsUsed } : State).setVm s₂.vm := by
      have : s₂ = ({ s₂ with vm := (U.calling g mk a).vm } : State).setVm s₂.vm := rfl
      rw [e2] at this
      exact this
    obtain ⟨c₂, i₂, len₂, hc₂, hd₂, hf₂⟩ := hend
    have hW' : U.WarmedH s₂.vm := hW₂
    have hcc : c₂ = c := by
      have h1 : s₂.code? g.method = U.code? g.method := by
        rw [State.code?_eq, State.code?_eq, hW'.alike.method?]
      exact Option.some.inj (hc₂.symm.trans (h1.trans h.code))
    subst hcc
    have hlen : len₂ = len := by rw [hdg] at hd₂; cases hd₂; rfl
    subst hlen
    have hs₂ : s₂ = (({ U with heap := s₂.heap, slotsUsed := s₂.slotsUsed } : State).setVm s₂.vm).setTop { g with pc := g.pc + len₂, stack := v.toList ++ g.stack } := by
      refine e3.trans ?_
      rw [hf₂, State.calling_eq h.top, State.setFrames_setFrames, State.setTop_of_frames _ hr', hr]
      rfl
    have hsame : U.sameButNew ({ U with heap := s₂.heap, slotsUsed := s₂.slotsUsed } : State) L mc ms := by
      refine ⟨?_, q2, q3, q4, q5, q6⟩
      obtain ⟨t, ht, -⟩ := State.frames_cons hr
      show ({ U with heap := s₂.heap, slotsUsed := s₂.slotsUsed } : State) = { U.setFrames U.frames with heap := s₂.heap, slotsUsed := s₂.slotsUsed }
      rw [State.setFrames_self ht]
    subst hg
    refine Or.inl ⟨v, ⟨(({ U with heap := s₂.heap, slotsUsed := s₂.slotsUsed } : State).setVm s₂.vm), Ls ++ L, c0 + mc, s0 + ms⟩,
      ⟨X.admits, X.cas, X.clock, X.frames, X.room, X.hears, X.method, X.code, (X.here.setHeapUsed s₂.heap s₂.slotsUsed).setVm hW'.alike, X.tail, State.WarmedH.trans X.warmed hW', X.limits, X.bytes, X.same.trans (hsame.setVm s.vm)⟩,
      ⟨g, mk, s₂, L, rfl, rfl, hqc, rfl, hL, rfl, rfl⟩, ?_⟩
    show Steps p.tables e below _ ((({ U with heap := s₂.heap, slotsUsed := s₂.slotsUsed } : State).setVm s₂.vm).setTop { g with pc := g.pc + len₂, stack := v.toList ++ g.stack })
    rw [← hs₂]
    exact hsteps
  · obtain ⟨e2, q2, q3, q4, q5, q6⟩ := id hsm
    have e3 : s₂ = ({ (U.calling g mk a).setFrames s₂.frames with heap := s₂.heap, slotsUsed := s₂.slotsUsed } : State).setVm s₂.vm := by
      have : s₂ = ({ s₂ with vm := (U.calling g mk a).vm } : State).setVm s₂.vm := rfl
      rw [e2] at this
      exact this
    have hf₂ : s₂.frames = .throwing q :: .java g :: U.frames.tail := hend
    have hW' : U.WarmedH s₂.vm := hW₂
    have hs₂ : s₂ = ((({ U with heap := s₂.heap, slotsUsed := s₂.slotsUsed } : State).setVm s₂.vm).setTop g).pushFrame (.throwing q) := by
      refine e3.trans ?_
      rw [hf₂, State.calling_eq h.top, State.setFrames_setFrames, State.pushFrame, State.frames_setTop _ hr', State.setTop_of_frames _ hr', State.setFrames_setFrames, hr]
      rfl
    have hsame : U.sameButNew ({ U with heap := s₂.heap, slotsUsed := s₂.slotsUsed } : State) L mc ms := by
      refine ⟨?_, q2, q3, q4, q5, q6⟩
      obtain ⟨t, ht, -⟩ := State.frames_cons hr
      show ({ U with heap := s₂.heap, slotsUsed := s₂.slotsUsed } : State) = { U.setFrames U.frames with heap := s₂.heap, slotsUsed := s₂.slotsUsed }
      rw [State.setFrames_self ht]
    subst hg
    refine Or.inr ⟨q, ⟨(({ U with heap := s₂.heap, slotsUsed := s₂.slotsUsed } : State).setVm s₂.vm), Ls ++ L, c0 + mc, s0 + ms⟩,
      ⟨X.admits, X.cas, X.clock, X.frames, X.room, X.hears, X.method, X.code, (X.here.setHeapUsed s₂.heap s₂.slotsUsed).setVm hW'.alike, X.tail, State.WarmedH.trans X.warmed hW', X.limits, X.bytes, X.same.trans (hsame.setVm s.vm)⟩,
      ⟨g, mk, s₂, L, E, ce, rfl, rfl, hx, hce, hcv, hcl, rfl, hL, rfl, rfl⟩, ?_⟩
    show Steps p.tables e below _ (((({ U with heap := s₂.heap, slotsUsed := s₂.slotsUsed } : State).setVm s₂.vm).setTop g).pushFrame (.throwing q))
    rw [← hs₂]
    exact hsteps
end Payer
section Calls
variable {p : Program} {l : Launch} {e : Env} {R : Room} {s : State} {m : MethodId} {args : Array Value} {below : List Frame} {meth : Method} {c : Code} {T : State} {locs : List Loc} {cells slots : Nat}
theorem vx_callV (X : Stand p l e R s m args below meth c T locs cells slots) (hexec : p.tables.exec = Jvm.exec) {own C : String} {index : Nat} {y : MethodName} {bytes : ByteArray} {maxL : Nat} {ret : Option FieldType}
    (hown : s.vm.findClass own = some m.cls) (hlink : (Cond.methodLink own index y).before args s = true) (hinst : (Cond.instanceMethod y).before args s = true) (hsel : (Cond.selects C y y).before args s = true)
    (hcode : (Cond.code y bytes maxL ret).before args s = true) (hy : y.cls ≠ "java/lang/invoke/MethodHandle" ∧ y.cls ≠ "java/lang/invoke/VarHandle")
    {W9 : Nat} {Pre : Pt → Array Value → Prop} {Post : Pt → Array Value → Option Value → Pt → Prop} {PostX : Pt → Array Value → Addr → Pt → Prop} (hK : vx_Back l R p e below s args y 3 W9 Pre Post PostX)
    {b : Addr} {cellB : Cell} (hcell : T.heap[b]? = some cellB) (hobj : cellB.vm.isStatics = false) (hcls : s.vm.findClass C = some cellB.cls)
    {g : JFrame} (hg : g.method = m) (hsize : g.locals.size = c.maxLocals) {argsL rest : List Value} (hlen : ∀ sig, parseMethodDescriptor y.desc = some sig → argsL.length = sig.parameters.length)
    (hstack : g.stack = argsL.reverse ++ .ref b :: rest) (hW : 2 * g.monitorRoom + (rest.map fun v => v.category).sum ≤ W9) (hdg : decode c.code g.pc = .ok (.invokevirtual index, 3))
    (hpre : ∀ vm₁, s.WarmedH vm₁ → Pre ⟨T.setVm vm₁, locs, cells, slots⟩ (Value.ref b :: argsL).toArray) :
    (∃ (v : Option Value) (vm₁ : Vm) (B : Pt), s.WarmedH vm₁ ∧ Stand p l e R s m args below meth c B.U B.locs B.cells B.slots ∧ Post ⟨T.setVm vm₁, locs, cells, slots⟩ (Value.ref b :: argsL).toArray v B ∧
      ∀ target, Steps p.tables e below (B.U.setTop { g with pc := g.pc + 3, stack := v.toList ++ rest }) target → Steps p.tables e below (T.setTop g) target) ∨
    (∃ (q : Addr) (vm₁ : Vm) (B : Pt), s.WarmedH vm₁ ∧ Stand p l e R s m args below meth c B.U B.locs B.cells B.slots ∧ PostX ⟨T.setVm vm₁, locs, cells, slots⟩ (Value.ref b :: argsL).toArray q B ∧
      Steps p.tables e below (T.setTop g) ((B.U.setTop { g with stack := rest }).pushFrame (.throwing q))) := by
  obtain ⟨mk, methM, hnamed, hmethM, hstM, habM⟩ := Cond.instanceMethod_spec hinst
  obtain ⟨methM', cM, hmethM', -, -, -, -, -, -, hsigM⟩ := Cond.code_spec hnamed hcode
  cases hmethM.symm.trans hmethM'
  obtain ⟨c2, r2, m2, q1, q2, q3, q4, kP, hkP, hkPi⟩ := Cond.selects_spec hsel
  cases hcls.symm.trans q1
  cases (State.methodFound?_of_named hnamed hy).symm.trans q2
  cases hnamed.symm.trans q3
  have hselP : selectMethod e.platform s.vm cellB.cls mk = .method mk := by rw [Launch.admits_selectMethod X.admits]; exact q4
  obtain ⟨vm₁, X₁, hstep₁⟩ := X.invokevirtual hexec hown hlink hnamed hmethM hstM hkP hkPi hy (a := b) (cell := cellB) hcell
    (fun z h => by rw [h] at hobj; cases hobj) hselP hmethM habM hkP hkPi (g := g) hg (argsL := argsL) (rest := rest) (hlen _ hsigM) hstack hdg
  rcases hK m meth c ⟨T.setVm vm₁, locs, cells, slots⟩ { g with stack := rest } (.invokevirtual index) mk (Value.ref b :: argsL).toArray X₁ hg hsize hdg hW (X₁.named hnamed) (hpre vm₁ X₁.warmed) with ⟨v, B, X', hpost, hsteps⟩ | ⟨q, B, X', hpost, hsteps⟩
  · exact Or.inl ⟨v, vm₁, B, X₁.warmed, X', hpost, fun target h => hstep₁ _ fun acts => by rw [doInvoke_state]; exact hsteps.trans h⟩
  · exact Or.inr ⟨q, vm₁, B, X₁.warmed, X', hpost, hstep₁ _ fun acts => by rw [doInvoke_state]; exact hsteps⟩
theorem vx_callS (X : Stand p l e R s m args below meth c T locs cells slots) (hexec : p.tables.exec = Jvm.exec) {own : String} {index : Nat} {y : MethodName} {bytes : ByteArray} {maxL : Nat} {ret : Option FieldType}
    (hown : s.vm.findClass own = some m.cls) (hlink : (Cond.methodLink own index y).before args s = true) (hstat : (Cond.static y).before args s = true) (hinit : (Cond.initialized y.cls).before args s = true)
    (hcode : (Cond.code y bytes maxL ret).before args s = true) (hy : y.cls ≠ "java/lang/invoke/MethodHandle" ∧ y.cls ≠ "java/lang/invoke/VarHandle")
    {W9 : Nat} {Pre : Pt → Array Value → Prop} {Post : Pt → Array Value → Option Value → Pt → Prop} {PostX : Pt → Array Value → Addr → Pt → Prop} (hK : vx_Back l R p e below s args y 3 W9 Pre Post PostX)
    {g : JFrame} (hg : g.method = m) (hsize : g.locals.size = c.maxLocals) {argsL rest : List Value} (hlen : ∀ sig, parseMethodDescriptor y.desc = some sig → argsL.length = sig.parameters.length)
    (hstack : g.stack = argsL.reverse ++ rest) (hW : 2 * g.monitorRoom + (rest.map fun v => v.category).sum ≤ W9) (hdg : decode c.code g.pc = .ok (.invokestatic index, 3))
    (hpre : ∀ vm₁, s.WarmedH vm₁ → Pre ⟨T.setVm vm₁, locs, cells, slots⟩ argsL.toArray) :
    (∃ (v : Option Value) (vm₁ : Vm) (B : Pt), s.WarmedH vm₁ ∧ Stand p l e R s m args below meth c B.U B.locs B.cells B.slots ∧ Post ⟨T.setVm vm₁, locs, cells, slots⟩ argsL.toArray v B ∧
      ∀ target, Steps p.tables e below (B.U.setTop { g with pc := g.pc + 3, stack := v.toList ++ rest }) target → Steps p.tables e below (T.setTop g) target) ∨
    (∃ (q : Addr) (vm₁ : Vm) (B : Pt), s.WarmedH vm₁ ∧ Stand p l e R s m args below meth c B.U B.locs B.cells B.slots ∧ PostX ⟨T.setVm vm₁, locs, cells, slots⟩ argsL.toArray q B ∧
      Steps p.tables e below (T.setTop g) ((B.U.setTop { g with stack := rest }).pushFrame (.throwing q))) := by
  obtain ⟨mk, hnamed⟩ := Cond.code_named hcode
  obtain ⟨methM, cM, hmethM, -, -, -, -, -, -, hsigM⟩ := Cond.code_spec hnamed hcode
  have hstatic : methM.isStatic = true := Cond.static_spec hnamed hmethM hstat
  obtain ⟨kP, hkP, -⟩ := className_of_methodNamed hnamed
  have hinitP : kP.init = .initialized := Cond.initialized_spec (findClass_of_methodNamed hnamed) hkP hinit
  obtain ⟨vm₁, X₁, hstep₁⟩ := X.invokestatic hexec hown hlink hnamed hmethM hstatic hkP hinitP hy (g := g) hg (argsL := argsL) (rest := rest) (hlen _ hsigM) hstack hdg
  rcases hK m meth c ⟨T.setVm vm₁, locs, cells, slots⟩ { g with stack := rest } (.invokestatic index) mk argsL.toArray X₁ hg hsize hdg hW (X₁.named hnamed) (hpre vm₁ X₁.warmed) with ⟨v, B, X', hpost, hsteps⟩ | ⟨q, B, X', hpost, hsteps⟩
  · exact Or.inl ⟨v, vm₁, B, X₁.warmed, X', hpost, fun target h => hstep₁ _ fun acts => by rw [doInvoke_state]; exact hsteps.trans h⟩
  · exact Or.inr ⟨q, vm₁, B, X₁.warmed, X', hpost, hstep₁ _ fun acts => by rw [doInvoke_state]; exact hsteps⟩
end Calls
theorem vx_cls {s : State} {T : State} {vm₁ : Vm} {E : String} {k : ClassId} (hW : s.WarmedH vm₁) (h : (T.setVm vm₁).vm.findClass E = some k) : s.vm.findClass E = some k := by
  have h1 : vm₁.findClass E = some k := h
  rw [hW.alike.findClass] at h1
  exact h1
/-- the method's frame g, with q thrown over it -/
def vx_W (p : Program) (l : Launch) (e : Env) (R : Room) (s : State) (m : MethodId) (args : Array Value) (below : List Frame) (meth : Method) (c : Code) (H : Heap) (locs : List Loc) (cells slots : Nat) (Q : State → Prop) (g : JFrame) (q : Addr) : Prop :=
  ∀ T : State, T.heap = H → Stand p l e R s m args below meth c T locs cells slots → ∃ t, Steps p.tables e below ((T.setTop g).pushFrame (.throwing q)) t ∧ Q t
def vx_Run (p : Program) (l : Launch) (e : Env) (R : Room) (s : State) (m : MethodId) (args : Array Value) (below : List Frame) (meth : Method) (c : Code) (H : Heap) (locs : List Loc) (cells slots mc ms : Nat) (g : JFrame) (rest : List Value) (Qa : State → Outcome → State → Prop) (XC : String → State → State → Prop) (free : Addr → Prop) : Prop :=
  ∀ T : State, T.heap = H → Stand p l e R s m args below meth c T locs cells slots →
    (∃ (v : Option Value) (st₀ t T' : State) (L : List Loc), st₀.heap = H ∧ Stand p l e R s m args below meth c T' (locs ++ L) (cells + mc) (slots + ms) ∧ (∀ q ∈ L, free q.base) ∧ T'.heap = t.heap ∧ T'.vm = t.vm ∧ Qa st₀ (.returned v) t ∧
      Goes p e below T g T' { g with pc := g.pc + 3, stack := v.toList ++ rest }) ∨
    (∃ (q : Addr) (st₀ t T' : State) (L : List Loc) (E : String) (ce : Cell), st₀.heap = H ∧ Stand p l e R s m args below meth c T' (locs ++ L) (cells + mc) (slots + ms) ∧ (∀ z ∈ L, free z.base) ∧ T'.heap = t.heap ∧ T'.vm = t.vm ∧ XC E st₀ t ∧ t.heap[q]? = some ce ∧ ce.vm = .none ∧ s.vm.findClass E = some ce.cls ∧
      Steps p.tables e below (T.setTop g) ((T'.setTop { g with stack := rest }).pushFrame (.throwing q)))
def vx_X {S : Type} (px : S → Prop) (B : String → S → State → Prop) (A : Nat → Prop) : String → State → State → Prop := fun E st t => ∃ u : S, px u ∧ B E u t ∧ va_F A st t
section Runs
variable {p : Program} {l : Launch} {e : Env} {R : Room} {s : State} {m : MethodId} {args : Array Value} {below : List Frame} {meth : Method} {c : Code} {H : Heap} {locs : List Loc} {cells slots : Nat}
variable {y : MethodName} {bytes cc : ByteArray} {maxL nL mc ms n index : Nat} {ret : Option FieldType} {ws : List Cond} {rm : Room} {Pc : Array Value → State → Prop} {Qc : Array Value → State → Outcome → State → Prop} {XC : String → State → State → Prop} {free : Addr → Prop} {Ts : List Cond} {own C : String} {b : Addr} {As rest : List Value} {g : JFrame}
theorem vx_callBack (cb : CallB R s args own index y bytes maxL ret ws rm mc ms n) (hM : vx_Met l y ws rm Pc Qc XC mc ms free) (hbl : FrameBlind Pc) : vx_Back l R p e below s args y 3 8 (PreOf R mc ms Pc) (PostOf Qc mc ms free) (vx_Post XC mc ms free) := by
  obtain ⟨hrc, hrs, hfr, hlo, hws, hcw, -, hini, -⟩ := cb
  exact vx_back (bytes := bytes) (maxL := maxL) (ret := ret) hM hbl hrc hrs hfr hlo hws hcw (fun a' U hW => word_at hW (Or.inl (by first | rfl | simp [Cond.onTables, Cond.keeps, Cond.steady])) hini)
theorem vx_runV (S : CallFix p m c cc nL s args Ts own) (hM : vx_Met l y ws rm Pc Qc XC mc ms free) (cw : CallW R s args own C index y bytes maxL ret ws rm mc ms n) (hp : PreV s H C b Pc As)
    (hg : g.method = m) (hn : As.length = n) (hsize : g.locals.size = nL) (hstack : g.stack = As.reverse ++ .ref b :: rest) (hW : 2 * g.monitorRoom + (rest.map fun v => v.category).sum ≤ 8) (hdg : decode cc g.pc = .ok (.invokevirtual index, 3)) (hf : cells + mc ≤ R.cells ∧ slots + ms ≤ R.slots) :
    vx_Run p l e R s m args below meth c H locs cells slots mc ms g rest (Qc (Value.ref b :: As).toArray) XC free := by
  have hK : vx_Back l R p e below s args y 3 8 (PreOf R mc ms Pc) (PostOf Qc mc ms free) (vx_Post XC mc ms free) := vx_callBack cw.1 hM hp.1
  obtain ⟨⟨-, -, -, -, -, -, hcode, -, hy, hlen, hl⟩, hin, hse⟩ := cw
  obtain ⟨hx, hb, hml, ho, -⟩ := S
  obtain ⟨-, ⟨cellB, hcB, hoB, hclB⟩, hPc⟩ := hp
  intro T hT X
  rcases vx_callV X hx (C := C) (bytes := bytes) (maxL := maxL) (ret := ret) ho hl hin hse hcode hy hK (by rw [hT]; exact hcB) hoB hclB hg (hsize.trans hml.symm) (argsL := As) (rest := rest) (fun sig h => hn.trans (hlen sig h)) hstack hW (by rw [hb]; exact hdg)
    (fun vm₁ hW₁ => ⟨hf.1, hf.2, hPc (T.setVm vm₁) hT hW₁⟩) with ⟨v, vm₁, ⟨U', l2, c2, s2⟩, hW₁, X', ⟨g', mk, t, L, e1, e2, hq, h1, hL, h2, h3⟩, st⟩ | ⟨q, vm₁, ⟨U', l2, c2, s2⟩, hW₁, X', ⟨g', mk, t, L, E, ce, e1, e2, hq, hce, hcv, hcl, h1, hL, h2, h3⟩, st⟩
  · dsimp only [Pt.U, Pt.locs, Pt.cells, Pt.slots] at X' e1 e2 h1 h2 h3 st
    subst h1; subst h2; subst h3
    exact Or.inl ⟨v, (T.setVm vm₁).calling g' mk (Value.ref b :: As).toArray, t, U', L, hT, X', hL, e1, e2, hq, st⟩
  · dsimp only [Pt.U, Pt.locs, Pt.cells, Pt.slots] at X' e1 e2 h1 h2 h3 st hcl
    subst h1; subst h2; subst h3
    exact Or.inr ⟨q, (T.setVm vm₁).calling g' mk (Value.ref b :: As).toArray, t, U', L, E, ce, hT, X', hL, e1, e2, hq, hce, hcv, vx_cls hW₁ hcl, st⟩
theorem vx_runS (S : CallFix p m c cc nL s args Ts own) (hM : vx_Met l y ws rm Pc Qc XC mc ms free) (cw : CallB R s args own index y bytes maxL ret ws rm mc ms n ∧ (Cond.static y).before args s = true) (hp : PreS s H Pc As)
    (hg : g.method = m) (hn : As.length = n) (hsize : g.locals.size = nL) (hstack : g.stack = As.reverse ++ rest) (hW : 2 * g.monitorRoom + (rest.map fun v => v.category).sum ≤ 8) (hdg : decode cc g.pc = .ok (.invokestatic index, 3)) (hf : cells + mc ≤ R.cells ∧ slots + ms ≤ R.slots) :
    vx_Run p l e R s m args below meth c H locs cells slots mc ms g rest (Qc As.toArray) XC free := by
  have hK : vx_Back l R p e below s args y 3 8 (PreOf R mc ms Pc) (PostOf Qc mc ms free) (vx_Post XC mc ms free) := vx_callBack cw.1 hM hp.1
  obtain ⟨⟨-, -, -, -, -, -, hcode, hini, hy, hlen, hl⟩, hstt⟩ := cw
  obtain ⟨hx, hb, hml, ho, -⟩ := S
  intro T hT X
  rcases vx_callS X hx (bytes := bytes) (maxL := maxL) (ret := ret) ho hl hstt hini hcode hy hK hg (hsize.trans hml.symm) (argsL := As) (rest := rest) (fun sig h => hn.trans (hlen sig h)) hstack hW (by rw [hb]; exact hdg)
    (fun vm₁ hW₁ => ⟨hf.1, hf.2, hp.2 (T.setVm vm₁) hT hW₁⟩) with ⟨v, vm₁, ⟨U', l2, c2, s2⟩, hW₁, X', ⟨g', mk, t, L, e1, e2, hq, h1, hL, h2, h3⟩, st⟩ | ⟨q, vm₁, ⟨U', l2, c2, s2⟩, hW₁, X', ⟨g', mk, t, L, E, ce, e1, e2, hq, hce, hcv, hcl, h1, hL, h2, h3⟩, st⟩
  · dsimp only [Pt.U, Pt.locs, Pt.cells, Pt.slots] at X' e1 e2 h1 h2 h3 st
    subst h1; subst h2; subst h3
    exact Or.inl ⟨v, (T.setVm vm₁).calling g' mk As.toArray, t, U', L, hT, X', hL, e1, e2, hq, st⟩
  · dsimp only [Pt.U, Pt.locs, Pt.cells, Pt.slots] at X' e1 e2 h1 h2 h3 st hcl
    subst h1; subst h2; subst h3
    exact Or.inr ⟨q, (T.setVm vm₁).calling g' mk As.toArray, t, U', L, E, ce, hT, X', hL, e1, e2, hq, hce, hcv, vx_cls hW₁ hcl, st⟩
end Runs
section Rows
variable {p : Program} {l : Launch} {e : Env} {R : Room} {s : State} {m : MethodId} {args : Array Value} {below : List Frame} {meth : Method} {c : Code} {H : Heap} {locs : List Loc} {cells slots : Nat} {Q : State → Prop}
variable {mc ms : Nat} {free : Addr → Prop} {A0 A1 : Nat → Prop} {H0 : Heap} {a : Array Value} {pc : Nat} {ls : Array Slot} {st0 rest : List Value}
theorem vx_keep {st₀ t T' : State} {L : List Loc} (h0 : st₀.heap = H) (e1 : T'.heap = t.heap) (hS : va_S A0 H0 H locs) (hA : ∀ q, q < H.size → A1 q → A0 q) (hf : ∀ q, free q → A0 q) (hL : ∀ q ∈ L, free q.base) (hF : va_F A1 st₀ t) :
    H.size ≤ T'.heap.size ∧ (∀ q : Nat, q < H.size → ¬ A1 q → T'.heap[q]? = H[q]?) ∧ va_S A0 H0 T'.heap (locs ++ L) := by
  obtain ⟨hz, hk⟩ := hF
  rw [h0] at hz hk
  exact ⟨by rw [e1]; exact hz, fun q h1 h2 => by rw [e1]; exact hk q h1 h2,
    ⟨Nat.le_trans hS.1 (by rw [e1]; exact hz), fun q h1 h2 => by rw [e1, hk q (Nat.lt_of_lt_of_le h1 hS.1) (fun z => h2 (hA q (Nat.lt_of_lt_of_le h1 hS.1) z))]; exact hS.2.1 q h1 h2, fun q hq => by
      rcases List.mem_append.mp hq with h | h
      · exact hS.2.2 q h
      · exact hf _ (hL q h)⟩⟩
theorem vx_calli {S SX : Type} {post : Int32 → S → Prop} {px : SX → Prop} {B : S → State → Prop} {BX : String → SX → State → Prop} {AX : Nat → Prop} (hr : vx_Run p l e R s m args below meth c H locs cells slots mc ms (F0 m pc ls st0) rest (va_Qi post B A1 a) (vx_X px BX AX) free) (hS : va_S A0 H0 H locs) (hA : ∀ q, q < H.size → A1 q → A0 q) (hf : ∀ q, free q → A0 q) (hAX : ∀ q, q < H.size → AX q → A0 q)
    (kx : ∀ (E : String) (ce : Cell) (q9 : Addr) (u : SX) (t : State) (H1 : Heap) (locs1 : List Loc), t.heap = H1 → s.vm.Alike t.vm → px u → BX E u t → H.size ≤ H1.size → (∀ q : Nat, q < H.size → ¬ AX q → H1[q]? = H[q]?) → va_S A0 H0 H1 locs1 → H1[q9]? = some ce → ce.vm = .none → s.vm.findClass E = some ce.cls → vx_W p l e R s m args below meth c H1 locs1 (cells + mc) (slots + ms) Q (F0 m pc ls rest) q9)
    (kk : ∀ (r : Int32) (u : S) (t : State) (H1 : Heap) (locs1 : List Loc), t.heap = H1 → s.vm.Alike t.vm → post r u → B u t → H.size ≤ H1.size → (∀ q : Nat, q < H.size → ¬ A1 q → H1[q]? = H[q]?) → va_S A0 H0 H1 locs1 → W p l e R s m args below meth c H1 locs1 (cells + mc) (slots + ms) Q (F0 m (pc + 3) ls (.int r :: rest))) : W p l e R s m args below meth c H locs cells slots Q (F0 m pc ls st0) := by
  intro T hT X
  rcases hr T hT X with ⟨v, st₀, t, T', L, h0, X', hL, e1, e2, ⟨⟨r, u, hv, hp, hb⟩, hF⟩, st⟩ | ⟨q, st₀, t, T', L, E, ce, h0, X', hL, e1, e2, ⟨u, hp, hb, hF⟩, hce, hcv, hcl, st⟩
  · cases hv
    obtain ⟨k1, k2, k3⟩ := vx_keep h0 e1 hS hA hf hL hF
    obtain ⟨t2, a1, b1⟩ := kk r u t T'.heap (locs ++ L) e1.symm (by rw [← e2]; exact X'.warmed.alike) hp hb k1 k2 k3 T' rfl X'
    exact ⟨t2, st t2 a1, b1⟩
  · obtain ⟨k1, k2, k3⟩ := vx_keep h0 e1 hS hAX hf hL hF
    obtain ⟨t2, a1, b1⟩ := kx E ce q u t T'.heap (locs ++ L) e1.symm (by rw [← e2]; exact X'.warmed.alike) hp hb k1 k2 k3 (by rw [e1]; exact hce) hcv hcl T' rfl X'
    exact ⟨t2, st.trans a1, b1⟩
theorem vx_calll {S SX : Type} {post : Int64 → S → Prop} {px : SX → Prop} {B : S → State → Prop} {BX : String → SX → State → Prop} {AX : Nat → Prop} (hr : vx_Run p l e R s m args below meth c H locs cells slots mc ms (F0 m pc ls st0) rest (va_Ql post B A1 a) (vx_X px BX AX) free) (hS : va_S A0 H0 H locs) (hA : ∀ q, q < H.size → A1 q → A0 q) (hf : ∀ q, free q → A0 q) (hAX : ∀ q, q < H.size → AX q → A0 q)
    (kx : ∀ (E : String) (ce : Cell) (q9 : Addr) (u : SX) (t : State) (H1 : Heap) (locs1 : List Loc), t.heap = H1 → s.vm.Alike t.vm → px u → BX E u t → H.size ≤ H1.size → (∀ q : Nat, q < H.size → ¬ AX q → H1[q]? = H[q]?) → va_S A0 H0 H1 locs1 → H1[q9]? = some ce → ce.vm = .none → s.vm.findClass E = some ce.cls → vx_W p l e R s m args below meth c H1 locs1 (cells + mc) (slots + ms) Q (F0 m pc ls rest) q9)
    (kk : ∀ (r : Int64) (u : S) (t : State) (H1 : Heap) (locs1 : List Loc), t.heap = H1 → s.vm.Alike t.vm → post r u → B u t → H.size ≤ H1.size → (∀ q : Nat, q < H.size → ¬ A1 q → H1[q]? = H[q]?) → va_S A0 H0 H1 locs1 → W p l e R s m args below meth c H1 locs1 (cells + mc) (slots + ms) Q (F0 m (pc + 3) ls (.long r :: rest))) : W p l e R s m args below meth c H locs cells slots Q (F0 m pc ls st0) := by
  intro T hT X
  rcases hr T hT X with ⟨v, st₀, t, T', L, h0, X', hL, e1, e2, ⟨⟨r, u, hv, hp, hb⟩, hF⟩, st⟩ | ⟨q, st₀, t, T', L, E, ce, h0, X', hL, e1, e2, ⟨u, hp, hb, hF⟩, hce, hcv, hcl, st⟩
  · cases hv
    obtain ⟨k1, k2, k3⟩ := vx_keep h0 e1 hS hA hf hL hF
    obtain ⟨t2, a1, b1⟩ := kk r u t T'.heap (locs ++ L) e1.symm (by rw [← e2]; exact X'.warmed.alike) hp hb k1 k2 k3 T' rfl X'
    exact ⟨t2, st t2 a1, b1⟩
  · obtain ⟨k1, k2, k3⟩ := vx_keep h0 e1 hS hAX hf hL hF
    obtain ⟨t2, a1, b1⟩ := kx E ce q u t T'.heap (locs ++ L) e1.symm (by rw [← e2]; exact X'.warmed.alike) hp hb k1 k2 k3 (by rw [e1]; exact hce) hcv hcl T' rfl X'
    exact ⟨t2, st.trans a1, b1⟩
theorem vx_callf {S SX : Type} {post : UInt32 → S → Prop} {px : SX → Prop} {B : S → State → Prop} {BX : String → SX → State → Prop} {AX : Nat → Prop} (hr : vx_Run p l e R s m args below meth c H locs cells slots mc ms (F0 m pc ls st0) rest (va_Qf post B A1 a) (vx_X px BX AX) free) (hS : va_S A0 H0 H locs) (hA : ∀ q, q < H.size → A1 q → A0 q) (hf : ∀ q, free q → A0 q) (hAX : ∀ q, q < H.size → AX q → A0 q)
    (kx : ∀ (E : String) (ce : Cell) (q9 : Addr) (u : SX) (t : State) (H1 : Heap) (locs1 : List Loc), t.heap = H1 → s.vm.Alike t.vm → px u → BX E u t → H.size ≤ H1.size → (∀ q : Nat, q < H.size → ¬ AX q → H1[q]? = H[q]?) → va_S A0 H0 H1 locs1 → H1[q9]? = some ce → ce.vm = .none → s.vm.findClass E = some ce.cls → vx_W p l e R s m args below meth c H1 locs1 (cells + mc) (slots + ms) Q (F0 m pc ls rest) q9)
    (kk : ∀ (r : UInt32) (u : S) (t : State) (H1 : Heap) (locs1 : List Loc), t.heap = H1 → s.vm.Alike t.vm → post r u → B u t → H.size ≤ H1.size → (∀ q : Nat, q < H.size → ¬ A1 q → H1[q]? = H[q]?) → va_S A0 H0 H1 locs1 → W p l e R s m args below meth c H1 locs1 (cells + mc) (slots + ms) Q (F0 m (pc + 3) ls (.float r :: rest))) : W p l e R s m args below meth c H locs cells slots Q (F0 m pc ls st0) := by
  intro T hT X
  rcases hr T hT X with ⟨v, st₀, t, T', L, h0, X', hL, e1, e2, ⟨⟨r, u, hv, hp, hb⟩, hF⟩, st⟩ | ⟨q, st₀, t, T', L, E, ce, h0, X', hL, e1, e2, ⟨u, hp, hb, hF⟩, hce, hcv, hcl, st⟩
  · cases hv
    obtain ⟨k1, k2, k3⟩ := vx_keep h0 e1 hS hA hf hL hF
    obtain ⟨t2, a1, b1⟩ := kk r u t T'.heap (locs ++ L) e1.symm (by rw [← e2]; exact X'.warmed.alike) hp hb k1 k2 k3 T' rfl X'
    exact ⟨t2, st t2 a1, b1⟩
  · obtain ⟨k1, k2, k3⟩ := vx_keep h0 e1 hS hAX hf hL hF
    obtain ⟨t2, a1, b1⟩ := kx E ce q u t T'.heap (locs ++ L) e1.symm (by rw [← e2]; exact X'.warmed.alike) hp hb k1 k2 k3 (by rw [e1]; exact hce) hcv hcl T' rfl X'
    exact ⟨t2, st.trans a1, b1⟩
theorem vx_calld {S SX : Type} {post : UInt64 → S → Prop} {px : SX → Prop} {B : S → State → Prop} {BX : String → SX → State → Prop} {AX : Nat → Prop} (hr : vx_Run p l e R s m args below meth c H locs cells slots mc ms (F0 m pc ls st0) rest (va_Qd post B A1 a) (vx_X px BX AX) free) (hS : va_S A0 H0 H locs) (hA : ∀ q, q < H.size → A1 q → A0 q) (hf : ∀ q, free q → A0 q) (hAX : ∀ q, q < H.size → AX q → A0 q)
    (kx : ∀ (E : String) (ce : Cell) (q9 : Addr) (u : SX) (t : State) (H1 : Heap) (locs1 : List Loc), t.heap = H1 → s.vm.Alike t.vm → px u → BX E u t → H.size ≤ H1.size → (∀ q : Nat, q < H.size → ¬ AX q → H1[q]? = H[q]?) → va_S A0 H0 H1 locs1 → H1[q9]? = some ce → ce.vm = .none → s.vm.findClass E = some ce.cls → vx_W p l e R s m args below meth c H1 locs1 (cells + mc) (slots + ms) Q (F0 m pc ls rest) q9)
    (kk : ∀ (r : UInt64) (u : S) (t : State) (H1 : Heap) (locs1 : List Loc), t.heap = H1 → s.vm.Alike t.vm → post r u → B u t → H.size ≤ H1.size → (∀ q : Nat, q < H.size → ¬ A1 q → H1[q]? = H[q]?) → va_S A0 H0 H1 locs1 → W p l e R s m args below meth c H1 locs1 (cells + mc) (slots + ms) Q (F0 m (pc + 3) ls (.double r :: rest))) : W p l e R s m args below meth c H locs cells slots Q (F0 m pc ls st0) := by
  intro T hT X
  rcases hr T hT X with ⟨v, st₀, t, T', L, h0, X', hL, e1, e2, ⟨⟨r, u, hv, hp, hb⟩, hF⟩, st⟩ | ⟨q, st₀, t, T', L, E, ce, h0, X', hL, e1, e2, ⟨u, hp, hb, hF⟩, hce, hcv, hcl, st⟩
  · cases hv
    obtain ⟨k1, k2, k3⟩ := vx_keep h0 e1 hS hA hf hL hF
    obtain ⟨t2, a1, b1⟩ := kk r u t T'.heap (locs ++ L) e1.symm (by rw [← e2]; exact X'.warmed.alike) hp hb k1 k2 k3 T' rfl X'
    exact ⟨t2, st t2 a1, b1⟩
  · obtain ⟨k1, k2, k3⟩ := vx_keep h0 e1 hS hAX hf hL hF
    obtain ⟨t2, a1, b1⟩ := kx E ce q u t T'.heap (locs ++ L) e1.symm (by rw [← e2]; exact X'.warmed.alike) hp hb k1 k2 k3 (by rw [e1]; exact hce) hcv hcl T' rfl X'
    exact ⟨t2, st.trans a1, b1⟩
theorem vx_callv {S SX : Type} {post : S → Prop} {px : SX → Prop} {B : S → State → Prop} {BX : String → SX → State → Prop} {AX : Nat → Prop} (hr : vx_Run p l e R s m args below meth c H locs cells slots mc ms (F0 m pc ls st0) rest (va_Qv post B A1 a) (vx_X px BX AX) free) (hS : va_S A0 H0 H locs) (hA : ∀ q, q < H.size → A1 q → A0 q) (hf : ∀ q, free q → A0 q) (hAX : ∀ q, q < H.size → AX q → A0 q)
    (kx : ∀ (E : String) (ce : Cell) (q9 : Addr) (u : SX) (t : State) (H1 : Heap) (locs1 : List Loc), t.heap = H1 → s.vm.Alike t.vm → px u → BX E u t → H.size ≤ H1.size → (∀ q : Nat, q < H.size → ¬ AX q → H1[q]? = H[q]?) → va_S A0 H0 H1 locs1 → H1[q9]? = some ce → ce.vm = .none → s.vm.findClass E = some ce.cls → vx_W p l e R s m args below meth c H1 locs1 (cells + mc) (slots + ms) Q (F0 m pc ls rest) q9)
    (kk : ∀ (u : S) (t : State) (H1 : Heap) (locs1 : List Loc), t.heap = H1 → s.vm.Alike t.vm → post u → B u t → H.size ≤ H1.size → (∀ q : Nat, q < H.size → ¬ A1 q → H1[q]? = H[q]?) → va_S A0 H0 H1 locs1 → W p l e R s m args below meth c H1 locs1 (cells + mc) (slots + ms) Q (F0 m (pc + 3) ls (rest))) : W p l e R s m args below meth c H locs cells slots Q (F0 m pc ls st0) := by
  intro T hT X
  rcases hr T hT X with ⟨v, st₀, t, T', L, h0, X', hL, e1, e2, ⟨⟨u, hv, hp, hb⟩, hF⟩, st⟩ | ⟨q, st₀, t, T', L, E, ce, h0, X', hL, e1, e2, ⟨u, hp, hb, hF⟩, hce, hcv, hcl, st⟩
  · cases hv
    obtain ⟨k1, k2, k3⟩ := vx_keep h0 e1 hS hA hf hL hF
    obtain ⟨t2, a1, b1⟩ := kk u t T'.heap (locs ++ L) e1.symm (by rw [← e2]; exact X'.warmed.alike) hp hb k1 k2 k3 T' rfl X'
    exact ⟨t2, st t2 a1, b1⟩
  · obtain ⟨k1, k2, k3⟩ := vx_keep h0 e1 hS hAX hf hL hF
    obtain ⟨t2, a1, b1⟩ := kx E ce q u t T'.heap (locs ++ L) e1.symm (by rw [← e2]; exact X'.warmed.alike) hp hb k1 k2 k3 (by rw [e1]; exact hce) hcv hcl T' rfl X'
    exact ⟨t2, st.trans a1, b1⟩
/-- caught by the row x of this method's table; the rows ahead don't take it -/
theorem vx_catch {own name : String} {E : String} {ce : Cell} {q : Addr} (hown : s.vm.findClass own = some m.cls) (pre : List ExceptionTableEntry) (x : ExceptionTableEntry) (suf : List ExceptionTableEntry) (hsplit : c.exceptionTable.toList = pre ++ x :: suf)
    (hpass : ∀ z ∈ pre, covers z pc = false ∨ (z.catchType ≠ 0 ∧ ∃ nm : String, (Cond.classLink own z.catchType nm).before args s = true ∧ va_Nc E nm s)) (hx : covers x pc = true) (h0 : x.catchType ≠ 0)
    (hlink : (Cond.classLink own x.catchType name).before args s = true) (hcast : (Cond.castable E name).before args s = true) (hcell : H[q]? = some ce) (hv : ce.vm = .none) (hcl : s.vm.findClass E = some ce.cls)
    (kk : W p l e R s m args below meth c H locs cells slots Q (F0 m x.handlerPc ls [.ref q])) : vx_W p l e R s m args below meth c H locs cells slots Q (F0 m pc ls rest) q := by
  intro T hT X
  have hpl : e.platform.magicAccessors = ({} : Platform).magicAccessors := by rw [X.admits.platform]
  obtain ⟨c3, c4, hc3, hc4, hasg⟩ := Cond.castable_spec hcast
  cases Option.some.inj (hc3.symm.trans hcl)
  obtain ⟨c5, hc5, hcl5⟩ := Cond.classLink_spec hown hlink e.platform hpl
  cases Option.some.inj (hc4.symm.trans hc5)
  obtain ⟨vm', X', st⟩ := tc_caught X q (g := F0 m pc ls rest) rfl (by rw [hT]; exact hcell) (by rw [hv]; rfl) (by obtain ⟨k9, h9, -⟩ := Vm.findClass_spec hcl; exact ⟨k9, h9⟩) pre x suf hsplit
    (fun z hz => by
      rcases hpass z hz with h | ⟨hz0, nm, hl1, hn1⟩
      · exact Or.inl h
      · obtain ⟨c6, hc6, hcl6⟩ := Cond.classLink_spec hown hl1 e.platform hpl
        obtain ⟨a8, b8, h1, h2, h3⟩ := hn1
        cases Option.some.inj (h1.symm.trans hcl)
        cases Option.some.inj (h2.symm.trans hc6)
        exact Or.inr ⟨hz0, _, hcl6, h3⟩) hx h0 hcl5 hasg
  obtain ⟨t, a1, b1⟩ := kk (T.setVm vm') hT X'
  exact ⟨t, st.trans a1, b1⟩
end Rows
section Ends
variable {p : Program} {l : Launch} {e : Env} {R : Room} {s : State} {m : MethodId} {args : Array Value} {below : List Frame} {meth : Method} {c : Code} {H : Heap} {locs : List Loc} {cells slots : Nat} {Q : State → Prop}
variable {mc ms : Nat} {free : Addr → Prop} {A0 A1 : Nat → Prop} {H0 : Heap} {a : Array Value} {ls : Array Slot} {st0 rest : List Value}
variable {Qc : Array Value → State → Outcome → State → Prop} {XC : String → State → State → Prop}
/-- what a body that may throw owes at its end -/
def vx_MQ (below : List Frame) (Qc : Array Value → State → Outcome → State → Prop) (XC : String → State → State → Prop) (a : Array Value) (s : State) (mc ms : Nat) (free : Addr → Prop) : State → Prop := fun t =>
  ∃ o, t.status = .running ∧ Ended t below o ∧ vx_Q Qc XC mc ms free a s o t
theorem vx_ret {g : JFrame} {mc ms : Nat} (k : W p l e R s m args below meth c H locs cells slots (MQ below Qc args s mc ms free) g) : W p l e R s m args below meth c H locs cells slots (vx_MQ below Qc XC args s mc ms free) g := by
  intro T hT X
  obtain ⟨t, a1, o, b1, b2, b3, b4⟩ := k T hT X
  exact ⟨t, a1, o, b1, b2, Or.inl ⟨b3, b4⟩⟩
/-- not caught here: it goes on to the caller -/
theorem vx_widen {g : JFrame} {q : Addr} {k n : Nat} (h1 : cells ≤ k) (h2 : slots ≤ n) (kk : vx_W p l e R s m args below meth c H locs k n Q g q) : vx_W p l e R s m args below meth c H locs cells slots Q g q := fun T hT X => kk T hT (stand_widen X h1 h2)
theorem vx_out {pc : Nat} {E : String} {ce : Cell} {q : Addr} {mc ms : Nat} (hout : ∀ x ∈ c.exceptionTable.toList, covers x pc = false) (hlocks : meth.locks = false) (hcell : H[q]? = some ce) (hv : ce.vm = .none) (hcl : s.vm.findClass E = some ce.cls)
    (hx : ∀ t : State, t.heap = H → s.vm.Alike t.vm → XC E s t) (hf : ∀ z ∈ locs, free z.base) (hc : cells ≤ mc) (hs : slots ≤ ms) :
    vx_W p l e R s m args below meth c H locs cells slots (vx_MQ below Qc XC args s mc ms free) (F0 m pc ls rest) q := by
  intro T hT X
  obtain ⟨st1, hrun, hend, hW, hsm⟩ := X.leaveThrown q (g := F0 m pc ls rest) rfl rfl rfl hout hlocks
  have hcell9 : (T.setFrames (.throwing q :: below)).heap[q]? = some ce := by
    show T.heap[q]? = some ce
    rw [hT]; exact hcell
  exact ⟨_, st1, .threw q, hrun, hend, Or.inr ⟨q, rfl, E, ce, locs, hx _ hT hW.alike, hcell9, hv, hcl, hW, hsm.mono hc hs, hf⟩⟩
theorem vx_frame {U : State} {k n : Nat} (h : s.sameButNew ({ U with vm := s.vm } : State) locs k n) : s.heap.size ≤ U.heap.size ∧ ∀ q : Nat, q < s.heap.size → (∀ z ∈ locs, z.base ≠ q) → U.heap[q]? = s.heap[q]? := by
  obtain ⟨-, h2, -, -, -, h6⟩ := h
  refine ⟨h2, fun q hq hz => ?_⟩
  obtain ⟨c9, e1, e2, e3, e4⟩ := h6 q _ (Array.getElem?_eq_getElem hq)
  have hs : c9.slots = (s.heap[q]).slots := Array.ext_getElem? fun i => e4 i fun hm => hz _ hm rfl
  have h9 : c9 = s.heap[q] := by
    rw [hs] at e2
    exact e2
  have e5 : U.heap[q]? = some c9 := e1
  rw [e5, h9, Array.getElem?_eq_getElem hq]
/-- the words of a throw but the four that speak of the heap -/
def vx_no (w : Cond) : Bool := decide (w ≠ .isRef (.static Bundle.tN "UNASSIGNED_STACK" Bundle.steD)) && decide (w ≠ .isRef (.static Bundle.tN "SUPPRESSED_SENTINEL" Bundle.listD)) && decide (w ≠ .laysStatic Bundle.tN "UNASSIGNED_STACK" Bundle.steD) && decide (w ≠ .laysStatic Bundle.tN "SUPPRESSED_SENTINEL" Bundle.listD)
def vx_at0 (own : String) (ic : Nat) (X : String) (names : List String) : List Cond := (Bundle.ownAtoms0 own ic X names).filter vx_no
def vx_atS (own : String) (ic : Nat) (X : String) (names : List String) : List Cond := (Bundle.ownAtoms own ic X names).filter vx_no
/-- a word that the tables alone decide, or a good one -/
def vx_ot (w : Cond) : Bool := w.onTables || goodWord w
theorem vx_ot_at {args a' : Array Value} {s U : State} {w : Cond} (hW : s.WarmedH U.vm) (hvm : s.vm = U.vm) (hg : vx_ot w = true) (h : w.before args s = true) : w.before a' U = true := by
  simp only [vx_ot, Bool.or_eq_true] at hg
  rcases hg with hg | hg
  · exact va_tabs hg hvm h
  · exact word_at hW (good_of_word hg) h
/-- a list's words: the good ones out of the method's own list, the others by premises of their own -/
theorem vx_hat {args : Array Value} {s : State} {L B : List Cond} (h1 : ∀ w ∈ L.filter goodWord, w.before args s = true) (h2 : ∀ w ∈ L.filter (fun w => !goodWord w), w ∈ B) (h3 : ∀ w ∈ B, w.before args s = true) : ∀ w ∈ L, w.before args s = true := by
  intro w hw
  by_cases g : goodWord w = true
  · exact h1 w (List.mem_filter.mpr ⟨hw, g⟩)
  · refine h3 w (h2 w (List.mem_filter.mpr ⟨hw, ?_⟩))
    show (!goodWord w) = true
    cases hgw : goodWord w
    · rfl
    · exact absurd hgw g
theorem vx_c {args : Array Value} {s : State} {w : Cond} {B : List Cond} (h : w.before args s = true) (t : ∀ w ∈ B, w.before args s = true) : ∀ w' ∈ w :: B, w'.before args s = true := fun w' h' => (List.mem_cons.mp h').elim (fun e => by rw [e]; exact h) (t w')
theorem vx_n {args : Array Value} {s : State} : ∀ w ∈ ([] : List Cond), w.before args s = true := fun _ h => nomatch h
theorem vx_own {args : Array Value} {s : State} {L : List Cond} (h1 : ∀ w ∈ L.filter vx_no, w.before args s = true)
    (hU : (Cond.isRef (.static Bundle.tN "UNASSIGNED_STACK" Bundle.steD)).before args s = true) (hN : (Cond.isRef (.static Bundle.tN "SUPPRESSED_SENTINEL" Bundle.listD)).before args s = true)
    (lU : (Cond.laysStatic Bundle.tN "UNASSIGNED_STACK" Bundle.steD).before args s = true) (lN : (Cond.laysStatic Bundle.tN "SUPPRESSED_SENTINEL" Bundle.listD).before args s = true) : ∀ w ∈ L, w.before args s = true := by
  intro w hw
  by_cases e1 : w = .isRef (.static Bundle.tN "UNASSIGNED_STACK" Bundle.steD)
  · rw [e1]; exact hU
  · by_cases e2 : w = .isRef (.static Bundle.tN "SUPPRESSED_SENTINEL" Bundle.listD)
    · rw [e2]; exact hN
    · by_cases e3 : w = .laysStatic Bundle.tN "UNASSIGNED_STACK" Bundle.steD
      · rw [e3]; exact lU
      · by_cases e4 : w = .laysStatic Bundle.tN "SUPPRESSED_SENTINEL" Bundle.listD
        · rw [e4]; exact lN
        · exact h1 w (List.mem_filter.mpr ⟨hw, by unfold vx_no; rw [decide_eq_true e1, decide_eq_true e2, decide_eq_true e3, decide_eq_true e4]; rfl⟩)
/-- where a static field lies, its class's statics cell in H -/
def vx_L (C n d : String) (A : Nat → Prop) (U : State) (H : Heap) : Prop := ∃ (c : ClassId) (k : Class) (i : Nat) (f : Field) (a : Nat) (cell : Cell), U.vm.findClass C = some c ∧ U.fieldFound? C n d = some (c, k, i, f) ∧ f.isStatic = true ∧ k.statics = some a ∧ H[a]? = some cell ∧ cell.vm.isStatics = true ∧ cell.cls = c ∧ f.slot < cell.slots.size ∧ k.staticTypes[f.slot]? = some f.type ∧ ¬ A a
theorem vx_L.moved {C n d : String} {A : Nat → Prop} {u U : State} {H : Heap} (hvm : u.vm.Alike U.vm) (h : vx_L C n d A u H) : vx_L C n d A U H := by
  obtain ⟨c, k, i, f, a, cell, h1, h2, h3, h4, h5, h6, h7, h8, h9, h10⟩ := h
  obtain ⟨k', hi', he⟩ := State.fieldFound?_setVm hvm h2
  exact ⟨c, k', i, f, a, cell, by rw [hvm.findClass]; exact h1, hi', h3, by rw [he]; exact h4, h5, h6, h7, h8, by rw [he]; exact h9, h10⟩
theorem vx_L.kept {C n d : String} {A : Nat → Prop} {U : State} {H H1 : Heap} (h : vx_L C n d A U H) (hq : ∀ a : Nat, a < H.size → ¬ A a → H1[a]? = H[a]?) : vx_L C n d A U H1 := by
  obtain ⟨c, k, i, f, a, cell, h1, h2, h3, h4, h5, h6, h7, h8, h9, h10⟩ := h
  exact ⟨c, k, i, f, a, cell, h1, h2, h3, h4, by rw [hq a (Array.getElem?_eq_some_iff.mp h5).1 h10]; exact h5, h6, h7, h8, h9, h10⟩
theorem vx_L.narrow {C n d : String} {A B : Nat → Prop} {U : State} {H : Heap} (h : vx_L C n d A U H) (hAB : ∀ q, B q → A q) : vx_L C n d B U H := by
  obtain ⟨c, k, i, f, a, cell, h1, h2, h3, h4, h5, h6, h7, h8, h9, h10⟩ := h
  exact ⟨c, k, i, f, a, cell, h1, h2, h3, h4, h5, h6, h7, h8, h9, fun z => h10 (hAB _ z)⟩
theorem vx_L.word {C n d : String} {A : Nat → Prop} {s : State} {args : Array Value} (h : vx_L C n d A s s.heap) : (Cond.laysStatic C n d).before args s = true := by
  obtain ⟨c, k, i, f, a, cell, h1, h2, h3, h4, h5, h6, h7, h8, h9, -⟩ := h
  show (Cond.laysStatic C n d).holds args s none s [] = true
  exact Cond.laysStatic_of h1 h2 h3 h4 h5 h6 h7 h8 h9
/-- .. and what it holds: null or some reference -/
def vx_Zq (C n d : String) (A : Nat → Prop) (U : State) (H : Heap) : Prop := va_Zq C n d A U H ∧ vx_L C n d A U H
theorem vx_Zq.moved {C n d : String} {A : Nat → Prop} {u U : State} {H : Heap} (hvm : u.vm.Alike U.vm) (h : vx_Zq C n d A u H) : vx_Zq C n d A U H := ⟨va_Zq.moved hvm h.1, vx_L.moved hvm h.2⟩
theorem vx_Zq.kept {C n d : String} {A : Nat → Prop} {U : State} {H H1 : Heap} (h : vx_Zq C n d A U H) (hq : ∀ a : Nat, a < H.size → ¬ A a → H1[a]? = H[a]?) : vx_Zq C n d A U H1 := ⟨va_Zq.kept h.1 hq, vx_L.kept h.2 hq⟩
theorem vx_Zq.narrow {C n d : String} {A B : Nat → Prop} {U : State} {H : Heap} (h : vx_Zq C n d A U H) (hAB : ∀ q, B q → A q) : vx_Zq C n d B U H := ⟨va_Zq.narrow h.1 hAB, vx_L.narrow h.2 hAB⟩
theorem vx_Zqof {args : Array Value} {s : State} {C n d : String} {A : Nat → Prop} (hl : (Cond.laysStatic C n d).before args s = true) (hini : (Cond.initialized C).before args s = true) (h : (Cond.isRef (.static C n d)).before args s = true) (hA : ∀ a : Nat, a < s.heap.size → ¬ A a) : vx_Zq C n d A s s.heap := by
  refine ⟨va_Zqof hl hini h hA, ?_⟩
  obtain ⟨c, k, i, f, a, cell, h1, h2, h3, h4, h5, h6, h7, h8, h9⟩ := Cond.laysStatic_spec hl
  exact ⟨c, k, i, f, a, cell, h1, h2, h3, h4, h5, h6, h7, h8, h9, hA a (Array.getElem?_eq_some_iff.mp h5).1⟩
theorem vx_isRef {C n d : String} {v : Value} {A : Nat → Prop} {s : State} {args : Array Value} (h : va_Z C n d v A s s.heap) (hv : v.isRef = true) : (Cond.isRef (.static C n d)).before args s = true := by
  obtain ⟨cf, kf, fi, f, a, cell, h1, h2, h3, h4, h5, h6, h7, -⟩ := h
  have he : (Term.static C n d).eval args s none [] s = some v := by
    simp [Term.eval, State.fieldNamed?, h1, h2, h4, h5, h6, h7]
  simp only [Cond.before, Cond.holds, Cond.value, he]
  cases v <;> simp_all [Value.isRef]
theorem vx_isRefq {C n d : String} {A : Nat → Prop} {s : State} {args : Array Value} (h : va_Zq C n d A s s.heap) : (Cond.isRef (.static C n d)).before args s = true := by
  rcases h with h | ⟨t, h⟩
  · exact vx_isRef h rfl
  · exact vx_isRef h rfl
/-- the same frame, seen from here: as if the method were called anew in this heap -/
theorem vx_rebase {T : State} (X : Stand p l e R s m args below meth c T locs cells slots) {R' : Room} (hf : R'.frames ≤ R.frames) (hl : R'.locals ≤ R.locals) (hc : cells + R'.cells ≤ R.cells) (hs : slots + R'.slots ≤ R.slots) :
    Stand p l e R' ((T.setVm s.vm).setFrames (.invoking m args :: below)) m args below meth c T [] 0 0 := by
  have htop : (T.setVm s.vm).topJava?.isSome := X.here.top
  have hF : ((T.setVm s.vm).setFrames (.invoking m args :: below)).frames = .invoking m args :: below := State.frames_setFrames _ (State.cur_lt_of_top htop)
  obtain ⟨g₀, hg0⟩ := Option.isSome_iff_exists.mp htop
  obtain ⟨r, hr⟩ := State.topJava?_eq_some.mp hg0
  have hl9 : e.platform.stackLimits (T.setVm s.vm).me = e.platform.stackLimits s.me := X.limits
  have hb9 : (T.setVm s.vm).me.stackBytes = s.me.stackBytes := X.bytes
  refine ⟨X.admits, X.cas, X.clock, hF, ?_, X.hears, X.method, X.code, X.here, X.tail, X.warmed, ?_, ?_, ?_⟩
  · have h := X.room
    have hU : ((T.setVm s.vm).setFrames (.invoking m args :: below)).localsInUse = s.localsInUse := by
      rw [State.localsInUse_invoking hF (meth := meth) (c := c) X.method X.code, State.localsInUse_invoking X.frames X.method X.code]
    simp only [State.hasRoom, Bool.and_eq_true, decide_eq_true_eq] at h ⊢
    obtain ⟨⟨⟨⟨h1, h2, h3, h4, h5, h6⟩, h7⟩, h8⟩, h9⟩ := h
    rw [X.frames, List.length_cons] at h2 h3
    have q1 := X.heapSize
    have q2 := X.used
    simp only [hF, hU, List.length_cons, State.stackLimits_setFrames, State.stackBytes_setFrames, hl9, hb9]
    refine ⟨⟨⟨⟨by omega, by omega, by omega, by omega, by omega, h6⟩, ?_⟩, ?_⟩, X.book⟩
    · show T.heap.size + R'.cells ≤ e.platform.maxCells
      omega
    · show T.slotsUsed + R'.slots ≤ e.platform.maxSlots
      omega
  · rw [State.stackLimits_setFrames]; rfl
  · rw [State.stackBytes_setFrames]; rfl
  · refine ⟨?_, Nat.le_refl _, Nat.le_refl _, ?_, ?_, fun a c9 h9 => ⟨c9, h9, rfl, rfl, fun _ _ => rfl⟩⟩
    · obtain ⟨t, ht, -⟩ := State.frames_cons hr
      show T.setVm s.vm = { ((T.setVm s.vm).setFrames (.invoking m args :: below)).setFrames (T.setVm s.vm).frames with heap := T.heap, slotsUsed := T.slotsUsed }
      rw [State.setFrames_setFrames, State.setFrames_self ht]
      rfl
    · show T.slotsUsed = T.slotsUsed + ((T.heap.toList.drop T.heap.size).map (·.slots.size)).sum
      rw [List.drop_eq_nil_of_le (Nat.le_of_eq Array.length_toList)]
      rfl
    · show ((T.heap.toList.drop T.heap.size).map (·.slots.size)).sum ≤ 0
      rw [List.drop_eq_nil_of_le (Nat.le_of_eq Array.length_toList)]
      exact Nat.le_refl _
/-- 'throw new E()': new; dup; invokespecial; athrow -/
theorem vx_throw0 {cc : ByteArray} {pc : Nat} (hexec : p.tables.exec = Jvm.exec) (hb : c.code = cc) (hl : l.stackTraces = false) {own cls : String} {names : List String} {ik ic mc ms : Nat} {A : Nat → Prop}
    (hown : s.vm.findClass own = some m.cls) (hcls : Bundle.fit cls = true) (hnames : ∀ n ∈ names, Bundle.fit n = true)
    (hk : (Cond.classLink own ik cls).before args s = true) (hini : (Cond.initialized cls).before args s = true) (hat : ∀ w ∈ vx_at0 own ic cls names, w.before args s = true)
    (hgood : ∀ w ∈ Cond.classLink own ik cls :: Cond.initialized cls :: vx_at0 own ic cls names, vx_ot w = true)
    (hU : vx_Zq Bundle.tN "UNASSIGNED_STACK" Bundle.steD A s s.heap) (hN : vx_Zq Bundle.tN "SUPPRESSED_SENTINEL" Bundle.listD A s s.heap) (hS : va_S A s.heap H locs) (hsize : ls.size = c.maxLocals)
    (d0 : decode cc pc = .ok (.new ik, 3)) (d3 : decode cc (pc + 3) = .ok (.dup, 1)) (d4 : decode cc (pc + 4) = .ok (.invokespecial ic, 3)) (d7 : decode cc (pc + 7) = .ok (.athrow, 1))
    (hout : ∀ x ∈ c.exceptionTable.toList, covers x (pc + 7) = false)
    (hRframes : names.length + 3 < R.frames) (hRlocals : (rest.map fun v => v.category).sum + (13 * (names.length + 1) + 42) ≤ R.locals) (hRcells : cells + 1 ≤ R.cells) (hRslots : slots + 6 ≤ R.slots) (hlocks : meth.locks = false)
    (hx : ∀ t : State, s.vm.Alike t.vm → H.size ≤ t.heap.size → (∀ q : Nat, q < H.size → t.heap[q]? = H[q]?) → XC cls s t)
    (hf : ∀ z ∈ locs, free z.base) (hc : cells + 1 ≤ mc) (hs : slots + 6 ≤ ms) :
    W p l e R s m args below meth c H locs cells slots (vx_MQ below Qc XC args s mc ms free) (F0 m pc ls rest) := by
  intro T hT X
  have htr : e.platform.stackTraces = false := (show e.platform.stackTraces = l.stackTraces by rw [X.admits.platform]).trans hl
  have Y := vx_rebase X (R' := { frames := R.frames, locals := R.locals, cells := 1, slots := 6 }) (Nat.le_refl _) (Nat.le_refl _) hRcells hRslots
  obtain ⟨s', hA⟩ : ∃ z, z = (T.setVm s.vm).setFrames (.invoking m args :: below) := ⟨_, rfl⟩
  rw [← hA] at Y
  have hvm : s'.vm = s.vm := by rw [hA]; rfl
  have hhp : s'.heap = H := by rw [hA]; exact hT
  have hW0 : s.WarmedH s'.vm := by rw [hvm]; exact State.WarmedH.refl s
  have hat' : ∀ w ∈ vx_at0 own ic cls names, w.before args s' = true := fun w hw => vx_ot_at hW0 hvm.symm (hgood w (List.mem_cons_of_mem _ (List.mem_cons_of_mem _ hw))) (hat w hw)
  have hk' : (Cond.classLink own ik cls).before args s' = true := vx_ot_at hW0 hvm.symm (hgood _ List.mem_cons_self) hk
  have hini' : (Cond.initialized cls).before args s' = true := vx_ot_at hW0 hvm.symm (hgood _ (List.mem_cons_of_mem _ List.mem_cons_self)) hini
  have hU' : vx_Zq Bundle.tN "UNASSIGNED_STACK" Bundle.steD A s' s'.heap := by rw [hhp]; exact vx_Zq.moved hW0.alike (hU.kept hS.2.1)
  have hN' : vx_Zq Bundle.tN "SUPPRESSED_SENTINEL" Bundle.listD A s' s'.heap := by rw [hhp]; exact vx_Zq.moved hW0.alike (hN.kept hS.2.1)
  have h : ∀ w ∈ Bundle.ownAtoms0 own ic cls names, w.before args s' = true := vx_own hat' (vx_isRefq hU'.1) (vx_isRefq hN'.1) hU'.2.word hN'.2.word
  have hown' : s'.vm.findClass own = some m.cls := by rw [hvm]; exact hown
  have hins : (Cond.instantiable cls 6).before args s' = true := h _ (by simp [Bundle.ownAtoms0])
  obtain ⟨vm₁, cX, kX, hfX, hkX, -, -, X₁, st1⟩ := Y.newCold hexec (own := own) (C := cls) (index := ik) (n := 6) hown' hk' hins hini'
    (g := F0 m pc ls rest) rfl (by rw [hb]; exact d0) (Nat.le_refl _) (Nat.le_refl _)
  generalize hT1 : (T.setVm vm₁).pushCell { cls := cX, slots := kX.instanceTypes.map defaultValue, vm := .none } = T1 at X₁ st1
  have hcat : (Value.ref T.heap.size).category = 1 := rfl
  have hcellA : T1.heap[T.heap.size]? = some (freshCell cX kX) := by rw [← hT1]; exact State.heap_pushCell_size _ _
  have d3' : decode c.code (pc + 3) = .ok (.dup, 1) := by rw [hb]; exact d3
  obtain ⟨U, hsteps, hrun, hend, hW, hsame, ce, hce, hO⟩ := X₁.ctorThrow0 hexec htr (own := own) (cls := cls) (names := names) (ic := ic) hown' hcls hnames h (fun x hx => nomatch hx) hfX hkX hcellA (by rw [hhp, hT]; exact Nat.le_refl _)
    (g := { method := m, pc := pc + 4, locals := ls, stack := .ref T.heap.size :: .ref T.heap.size :: rest, locked := none }) rfl hsize rfl rfl (rest := rest) rfl
    (by rw [hb]; exact d4) (by rw [hb]; exact d7) hout hRframes (by simp only [List.map_cons, List.sum_cons, hcat]; omega) hlocks
  obtain ⟨f1, f2⟩ := vx_frame hsame
  rw [hhp] at f1 f2
  have hWs : s.WarmedH U.vm := State.WarmedH.trans hW0 hW
  have hcl : s.vm.findClass cls = some ce.cls := by
    have h9 := hO.cls
    rw [hvm] at h9
    exact h9
  have hall : s.sameButNew ({ U with vm := s.vm } : State) locs mc ms := by
    subst hA
    obtain ⟨e1, e2⟩ := hsame
    rw [State.setFrames_setFrames] at e1
    have h2 : (T.setVm s.vm).sameButNew ({ U with vm := s.vm } : State) [] (0 + 1) (0 + 6) := ⟨e1, e2⟩
    have h3 := X.same.trans h2
    rw [List.append_nil] at h3
    exact h3.mono hc hs
  refine ⟨U, ?_, .threw T.heap.size, hrun, hend, Or.inr ⟨T.heap.size, rfl, cls, ce, locs, hx U hWs.alike f1 (fun q hq => f2 q hq (fun z hz => nomatch hz)), hce, hO.vm, hcl, hWs, hall, hf⟩⟩
  refine st1 _ ?_
  show Steps p.tables e below (T1.setTop { method := m, pc := pc + 3, locals := ls, stack := .ref T.heap.size :: rest, locked := none }) _
  jvm_step X₁.here [X₁.here.top, hexec, d3', Value.category]
  exact hsteps
/-- 'throw new E("text")': new; dup; ldc; invokespecial; athrow -/
theorem vx_throwS {cc : ByteArray} {pc : Nat} (hexec : p.tables.exec = Jvm.exec) (hb : c.code = cc) (hl : l.stackTraces = false) {own cls text : String} {names : List String} {ik is ic mc ms sa : Nat} {A : Nat → Prop}
    (hown : s.vm.findClass own = some m.cls) (hcls : Bundle.fit cls = true) (hnames : ∀ n ∈ names, Bundle.fit n = true)
    (hk : (Cond.classLink own ik cls).before args s = true) (hini : (Cond.initialized cls).before args s = true) (hstr : vk_R own is text sa s) (hat : ∀ w ∈ vx_atS own ic cls names, w.before args s = true)
    (hgood : ∀ w ∈ Cond.classLink own ik cls :: Cond.initialized cls :: vx_atS own ic cls names, vx_ot w = true)
    (hU : vx_Zq Bundle.tN "UNASSIGNED_STACK" Bundle.steD A s s.heap) (hN : vx_Zq Bundle.tN "SUPPRESSED_SENTINEL" Bundle.listD A s s.heap) (hS : va_S A s.heap H locs) (hsize : ls.size = c.maxLocals)
    (d0 : decode cc pc = .ok (.new ik, 3)) (d3 : decode cc (pc + 3) = .ok (.dup, 1)) (d4 : decode cc (pc + 4) = .ok (.ldc is, 2)) (d6 : decode cc (pc + 6) = .ok (.invokespecial ic, 3)) (d9 : decode cc (pc + 9) = .ok (.athrow, 1))
    (hout : ∀ x ∈ c.exceptionTable.toList, covers x (pc + 9) = false)
    (hRframes : names.length + 3 < R.frames) (hRlocals : (rest.map fun v => v.category).sum + (13 * (names.length + 1) + 43) ≤ R.locals) (hRcells : cells + 1 ≤ R.cells) (hRslots : slots + 6 ≤ R.slots) (hlocks : meth.locks = false)
    (hx : ∀ t : State, s.vm.Alike t.vm → H.size ≤ t.heap.size → (∀ q : Nat, q < H.size → t.heap[q]? = H[q]?) → XC cls s t)
    (hf : ∀ z ∈ locs, free z.base) (hc : cells + 1 ≤ mc) (hs : slots + 6 ≤ ms) :
    W p l e R s m args below meth c H locs cells slots (vx_MQ below Qc XC args s mc ms free) (F0 m pc ls rest) := by
  intro T hT X
  have htr : e.platform.stackTraces = false := (show e.platform.stackTraces = l.stackTraces by rw [X.admits.platform]).trans hl
  have Y := vx_rebase X (R' := { frames := R.frames, locals := R.locals, cells := 1, slots := 6 }) (Nat.le_refl _) (Nat.le_refl _) hRcells hRslots
  obtain ⟨s', hA⟩ : ∃ z, z = (T.setVm s.vm).setFrames (.invoking m args :: below) := ⟨_, rfl⟩
  rw [← hA] at Y
  have hvm : s'.vm = s.vm := by rw [hA]; rfl
  have hhp : s'.heap = H := by rw [hA]; exact hT
  have hW0 : s.WarmedH s'.vm := by rw [hvm]; exact State.WarmedH.refl s
  have hat' : ∀ w ∈ vx_atS own ic cls names, w.before args s' = true := fun w hw => vx_ot_at hW0 hvm.symm (hgood w (List.mem_cons_of_mem _ (List.mem_cons_of_mem _ hw))) (hat w hw)
  have hk' : (Cond.classLink own ik cls).before args s' = true := vx_ot_at hW0 hvm.symm (hgood _ List.mem_cons_self) hk
  have hini' : (Cond.initialized cls).before args s' = true := vx_ot_at hW0 hvm.symm (hgood _ (List.mem_cons_of_mem _ List.mem_cons_self)) hini
  have hU' : vx_Zq Bundle.tN "UNASSIGNED_STACK" Bundle.steD A s' s'.heap := by rw [hhp]; exact vx_Zq.moved hW0.alike (hU.kept hS.2.1)
  have hN' : vx_Zq Bundle.tN "SUPPRESSED_SENTINEL" Bundle.listD A s' s'.heap := by rw [hhp]; exact vx_Zq.moved hW0.alike (hN.kept hS.2.1)
  have h : ∀ w ∈ Bundle.ownAtoms own ic cls names, w.before args s' = true := vx_own hat' (vx_isRefq hU'.1) (vx_isRefq hN'.1) hU'.2.word hN'.2.word
  have hown' : s'.vm.findClass own = some m.cls := by rw [hvm]; exact hown
  have hins : (Cond.instantiable cls 6).before args s' = true := h _ (by simp [Bundle.ownAtoms])
  obtain ⟨vm₁, cX, kX, hfX, hkX, -, -, X₁, st1⟩ := Y.newCold hexec (own := own) (C := cls) (index := ik) (n := 6) hown' hk' hins hini'
    (g := F0 m pc ls rest) rfl (by rw [hb]; exact d0) (Nat.le_refl _) (Nat.le_refl _)
  generalize hT1 : (T.setVm vm₁).pushCell { cls := cX, slots := kX.instanceTypes.map defaultValue, vm := .none } = T1 at X₁ st1
  have hcat : (Value.ref T.heap.size).category = 1 := rfl
  have hcellA : T1.heap[T.heap.size]? = some (freshCell cX kX) := by rw [← hT1]; exact State.heap_pushCell_size _ _
  have d3' : decode c.code (pc + 3) = .ok (.dup, 1) := by rw [hb]; exact d3
  have d4' : decode c.code (pc + 4) = .ok (.ldc is, 2) := by rw [hb]; exact d4
  have hstr' : vk_R own is text sa s' := vk_R.warm hW0 hstr
  obtain ⟨U, hsteps, hrun, hend, hW, hsame, ce, hce, hO⟩ := X₁.ctorThrowS hexec htr (own := own) (cls := cls) (names := names) (ic := ic) hown' hcls hnames h (fun x hx => nomatch hx) hfX hkX hcellA (by rw [hhp, hT]; exact Nat.le_refl _) (msg := .ref sa) rfl
    (g := { method := m, pc := pc + 6, locals := ls, stack := .ref sa :: .ref T.heap.size :: .ref T.heap.size :: rest, locked := none }) rfl hsize rfl rfl (rest := rest) rfl
    (by rw [hb]; exact d6) (by rw [hb]; exact d9) hout hRframes (by simp only [List.map_cons, List.sum_cons, hcat]; omega) hlocks
  obtain ⟨f1, f2⟩ := vx_frame hsame
  rw [hhp] at f1 f2
  have hWs : s.WarmedH U.vm := State.WarmedH.trans hW0 hW
  have hcl : s.vm.findClass cls = some ce.cls := by
    have h9 := hO.cls
    rw [hvm] at h9
    exact h9
  have hall : s.sameButNew ({ U with vm := s.vm } : State) locs mc ms := by
    subst hA
    obtain ⟨e1, e2⟩ := hsame
    rw [State.setFrames_setFrames] at e1
    have h2 : (T.setVm s.vm).sameButNew ({ U with vm := s.vm } : State) [] (0 + 1) (0 + 6) := ⟨e1, e2⟩
    have h3 := X.same.trans h2
    rw [List.append_nil] at h3
    exact h3.mono hc hs
  refine ⟨U, ?_, .threw T.heap.size, hrun, hend, Or.inr ⟨T.heap.size, rfl, cls, ce, locs, hx U hWs.alike f1 (fun q hq => f2 q hq (fun z hz => nomatch hz)), hce, hO.vm, hcl, hWs, hall, hf⟩⟩
  refine st1 _ ?_
  show Steps p.tables e below (T1.setTop { method := m, pc := pc + 3, locals := ls, stack := .ref T.heap.size :: rest, locked := none }) _
  jvm_step X₁.here [X₁.here.top, hexec, d3', Value.category]
  exact X₁.ldcString hexec (own := own) (text := text) (index := is) (a := sa) hown' hstr'.1 hstr'.2
    (g := { method := m, pc := pc + 4, locals := ls, stack := .ref T.heap.size :: .ref T.heap.size :: rest, locked := none }) rfl d4' _ hsteps
/-- 'throw new E("text")', the text by a wide index -/
theorem vx_throwSW {cc : ByteArray} {pc : Nat} (hexec : p.tables.exec = Jvm.exec) (hb : c.code = cc) (hl : l.stackTraces = false) {own cls text : String} {names : List String} {ik is ic mc ms sa : Nat} {A : Nat → Prop}
    (hown : s.vm.findClass own = some m.cls) (hcls : Bundle.fit cls = true) (hnames : ∀ n ∈ names, Bundle.fit n = true)
    (hk : (Cond.classLink own ik cls).before args s = true) (hini : (Cond.initialized cls).before args s = true) (hstr : vk_R own is text sa s) (hat : ∀ w ∈ vx_atS own ic cls names, w.before args s = true)
    (hgood : ∀ w ∈ Cond.classLink own ik cls :: Cond.initialized cls :: vx_atS own ic cls names, vx_ot w = true)
    (hU : vx_Zq Bundle.tN "UNASSIGNED_STACK" Bundle.steD A s s.heap) (hN : vx_Zq Bundle.tN "SUPPRESSED_SENTINEL" Bundle.listD A s s.heap) (hS : va_S A s.heap H locs) (hsize : ls.size = c.maxLocals)
    (d0 : decode cc pc = .ok (.new ik, 3)) (d3 : decode cc (pc + 3) = .ok (.dup, 1)) (d4 : decode cc (pc + 4) = .ok (.ldc_w is, 3)) (d7 : decode cc (pc + 7) = .ok (.invokespecial ic, 3)) (d10 : decode cc (pc + 10) = .ok (.athrow, 1))
    (hout : ∀ x ∈ c.exceptionTable.toList, covers x (pc + 10) = false)
    (hRframes : names.length + 3 < R.frames) (hRlocals : (rest.map fun v => v.category).sum + (13 * (names.length + 1) + 43) ≤ R.locals) (hRcells : cells + 1 ≤ R.cells) (hRslots : slots + 6 ≤ R.slots) (hlocks : meth.locks = false)
    (hx : ∀ t : State, s.vm.Alike t.vm → H.size ≤ t.heap.size → (∀ q : Nat, q < H.size → t.heap[q]? = H[q]?) → XC cls s t)
    (hf : ∀ z ∈ locs, free z.base) (hc : cells + 1 ≤ mc) (hs : slots + 6 ≤ ms) :
    W p l e R s m args below meth c H locs cells slots (vx_MQ below Qc XC args s mc ms free) (F0 m pc ls rest) := by
  intro T hT X
  have htr : e.platform.stackTraces = false := (show e.platform.stackTraces = l.stackTraces by rw [X.admits.platform]).trans hl
  have Y := vx_rebase X (R' := { frames := R.frames, locals := R.locals, cells := 1, slots := 6 }) (Nat.le_refl _) (Nat.le_refl _) hRcells hRslots
  obtain ⟨s', hA⟩ : ∃ z, z = (T.setVm s.vm).setFrames (.invoking m args :: below) := ⟨_, rfl⟩
  rw [← hA] at Y
  have hvm : s'.vm = s.vm := by rw [hA]; rfl
  have hhp : s'.heap = H := by rw [hA]; exact hT
  have hW0 : s.WarmedH s'.vm := by rw [hvm]; exact State.WarmedH.refl s
  have hat' : ∀ w ∈ vx_atS own ic cls names, w.before args s' = true := fun w hw => vx_ot_at hW0 hvm.symm (hgood w (List.mem_cons_of_mem _ (List.mem_cons_of_mem _ hw))) (hat w hw)
  have hk' : (Cond.classLink own ik cls).before args s' = true := vx_ot_at hW0 hvm.symm (hgood _ List.mem_cons_self) hk
  have hini' : (Cond.initialized cls).before args s' = true := vx_ot_at hW0 hvm.symm (hgood _ (List.mem_cons_of_mem _ List.mem_cons_self)) hini
  have hU' : vx_Zq Bundle.tN "UNASSIGNED_STACK" Bundle.steD A s' s'.heap := by rw [hhp]; exact vx_Zq.moved hW0.alike (hU.kept hS.2.1)
  have hN' : vx_Zq Bundle.tN "SUPPRESSED_SENTINEL" Bundle.listD A s' s'.heap := by rw [hhp]; exact vx_Zq.moved hW0.alike (hN.kept hS.2.1)
  have h : ∀ w ∈ Bundle.ownAtoms own ic cls names, w.before args s' = true := vx_own hat' (vx_isRefq hU'.1) (vx_isRefq hN'.1) hU'.2.word hN'.2.word
  have hown' : s'.vm.findClass own = some m.cls := by rw [hvm]; exact hown
  have hins : (Cond.instantiable cls 6).before args s' = true := h _ (by simp [Bundle.ownAtoms])
  obtain ⟨vm₁, cX, kX, hfX, hkX, -, -, X₁, st1⟩ := Y.newCold hexec (own := own) (C := cls) (index := ik) (n := 6) hown' hk' hins hini'
    (g := F0 m pc ls rest) rfl (by rw [hb]; exact d0) (Nat.le_refl _) (Nat.le_refl _)
  generalize hT1 : (T.setVm vm₁).pushCell { cls := cX, slots := kX.instanceTypes.map defaultValue, vm := .none } = T1 at X₁ st1
  have hcat : (Value.ref T.heap.size).category = 1 := rfl
  have hcellA : T1.heap[T.heap.size]? = some (freshCell cX kX) := by rw [← hT1]; exact State.heap_pushCell_size _ _
  have d3' : decode c.code (pc + 3) = .ok (.dup, 1) := by rw [hb]; exact d3
  have d4' : decode c.code (pc + 4) = .ok (.ldc_w is, 3) := by rw [hb]; exact d4
  have hstr' : vk_R own is text sa s' := vk_R.warm hW0 hstr
  obtain ⟨U, hsteps, hrun, hend, hW, hsame, ce, hce, hO⟩ := X₁.ctorThrowS hexec htr (own := own) (cls := cls) (names := names) (ic := ic) hown' hcls hnames h (fun x hx => nomatch hx) hfX hkX hcellA (by rw [hhp, hT]; exact Nat.le_refl _) (msg := .ref sa) rfl
    (g := { method := m, pc := pc + 7, locals := ls, stack := .ref sa :: .ref T.heap.size :: .ref T.heap.size :: rest, locked := none }) rfl hsize rfl rfl (rest := rest) rfl
    (by rw [hb]; exact d7) (by rw [hb]; exact d10) hout hRframes (by simp only [List.map_cons, List.sum_cons, hcat]; omega) hlocks
  obtain ⟨f1, f2⟩ := vx_frame hsame
  rw [hhp] at f1 f2
  have hWs : s.WarmedH U.vm := State.WarmedH.trans hW0 hW
  have hcl : s.vm.findClass cls = some ce.cls := by
    have h9 := hO.cls
    rw [hvm] at h9
    exact h9
  have hall : s.sameButNew ({ U with vm := s.vm } : State) locs mc ms := by
    subst hA
    obtain ⟨e1, e2⟩ := hsame
    rw [State.setFrames_setFrames] at e1
    have h2 : (T.setVm s.vm).sameButNew ({ U with vm := s.vm } : State) [] (0 + 1) (0 + 6) := ⟨e1, e2⟩
    have h3 := X.same.trans h2
    rw [List.append_nil] at h3
    exact h3.mono hc hs
  refine ⟨U, ?_, .threw T.heap.size, hrun, hend, Or.inr ⟨T.heap.size, rfl, cls, ce, locs, hx U hWs.alike f1 (fun q hq => f2 q hq (fun z hz => nomatch hz)), hce, hO.vm, hcl, hWs, hall, hf⟩⟩
  refine st1 _ ?_
  show Steps p.tables e below (T1.setTop { method := m, pc := pc + 3, locals := ls, stack := .ref T.heap.size :: rest, locked := none }) _
  jvm_step X₁.here [X₁.here.top, hexec, d3', Value.category]
  exact X₁.ldcStringW hexec (own := own) (text := text) (index := is) (a := sa) hown' hstr'.1 hstr'.2
    (g := { method := m, pc := pc + 4, locals := ls, stack := .ref T.heap.size :: .ref T.heap.size :: rest, locked := none }) rfl d4' _ hsteps
end Ends
section Bodies
variable {l : Launch}
theorem vx_ofW {y : MethodName} {ws ws' : List Cond} {rm : Room} {Pc : Array Value → State → Prop} {Qc : Array Value → State → Outcome → State → Prop} {XC : String → State → State → Prop} {mc ms : Nat} {free : Addr → Prop} {cc : ByteArray} {maxL : Nat} {ret : Option FieldType}
    (hy : plainName y.cls = true) (hw : ws = Cond.code y cc maxL ret :: ws')
    (body : ∀ p e s m args below meth c s₁, BodyLoose p l y (headSpec ws rm) cc maxL ret e s m args below meth c s₁ → c.maxLocals = maxL → (∀ x ∈ c.exceptionTable.toList, False) → Pc args s →
      W p l e (headSpec ws rm).room s m args below meth c s.heap [] 0 0 (vx_MQ below Qc XC args s mc ms free) (entryFrame m args maxL)) : vx_Met l y ws rm Pc Qc XC mc ms free := by
  refine MetFree.of_bodyS (code := cc) (maxLocals := maxL) (ret := ret) hy ?_ ?_
  · intro args s m h hn
    obtain ⟨meth, c, h1, h2, h3, h4, h5, h6, -, -⟩ := Cond.code_spec hn (atoms_spec (ws := ws) h _ (by rw [hw]; exact List.mem_cons_self))
    exact ⟨meth, c, h1, h2, h3, h4, h5, h6⟩
  · intro p e s m args below meth c s₁ B hml hP _
    have hh0 : s₁.heap = s.heap := by rw [B.state]; rfl
    have ht : ∀ x ∈ c.exceptionTable.toList, False := by
      obtain ⟨meth9, c9, h1, h2, -, -, -, -, h7, -⟩ := Cond.code_spec B.named (atoms_spec (ws := ws) B.pre _ (by rw [hw]; exact List.mem_cons_self))
      cases Option.some.inj (h1.symm.trans B.method)
      cases Option.some.inj (h2.symm.trans (Stand.of_body B).code)
      intro x hx
      rw [Array.isEmpty_iff.mp h7] at hx
      cases hx
    obtain ⟨t, a1, o, b1, b2, b3⟩ := body p e s m args below meth c s₁ B hml ht hP s₁ hh0 (Stand.of_body B)
    exact ⟨t, o, a1, b1, b2, b3⟩
/-- the table of a body with handlers -/
theorem vx_table {p : Program} {x y : MethodName} {S : Spec} {cc bytes : ByteArray} {maxL maxL' : Nat} {ret ret' : Option FieldType} {e : Env} {s s₁ : State} {m : MethodId} {args : Array Value} {below : List Frame} {meth : Method} {c : Code} {hh : List (Nat × Nat × Nat × Nat)}
    (B : BodyLoose p l y S cc maxL ret e s m args below meth c s₁) (h : (Cond.codeWith y bytes maxL' ret' hh).before args s = true) : c.exceptionTable.toList = tableOf hh := by
  obtain ⟨m9, meth9, c9, hn9, h1, h2, -, -, h6, -⟩ := Cond.codeWith_spec h
  cases Option.some.inj (hn9.symm.trans B.named)
  cases Option.some.inj (h1.symm.trans B.method)
  cases Option.some.inj (h2.symm.trans (Stand.of_body B).code)
  rw [← h6, table_eq]
end Bodies
end VXA
/-! ===== END ===== -/
/-! ===== BEGIN a static call of a method with an exception table ===== -/
section VXS
variable {p : Program} {l : Launch} {e : Env} {R : Room} {s : State} {m : MethodId} {args : Array Value} {below : List Frame} {meth : Method} {c : Code} {T : State} {H : Heap} {locs : List Loc} {cells slots : Nat}
abbrev vx_CSW (R : Room) (s : State) (args : Array Value) (own : String) (index : Nat) (y : MethodName) (bytes : ByteArray) (maxL : Nat) (ret : Option FieldType) (hh : List (Nat × Nat × Nat × Nat)) (ws : List Cond) (rm : Room) (mc ms n : Nat) : Prop :=
  (rm.cells = mc ∧ rm.slots = ms ∧ rm.frames + 1 ≤ R.frames ∧ 8 + (maxL + 11) + rm.locals ≤ R.locals ∧ (∀ w ∈ ws, ∀ (a' : Array Value) (U : State), s.WarmedH U.vm → w.before a' U = true) ∧ Cond.codeWith y bytes maxL ret hh ∈ ws) ∧
  (Cond.codeWith y bytes maxL ret hh).before args s = true ∧ (Cond.initialized y.cls).before args s = true ∧ (y.cls ≠ "java/lang/invoke/MethodHandle" ∧ y.cls ≠ "java/lang/invoke/VarHandle") ∧
  (∀ sig, parseMethodDescriptor y.desc = some sig → n = sig.parameters.length) ∧ (Cond.methodLink own index y).before args s = true ∧ (Cond.static y).before args s = true
theorem vx_cwSW {own : String} {index maxL mc ms : Nat} {y : MethodName} {bytes : ByteArray} {ret : Option FieldType} {hh : List (Nat × Nat × Nat × Nat)} {Ts ws ws' : List Cond} {rm : Room} (n : Nat) (ht : ∀ w ∈ Ts, w.before args s = true) (hT : GoodIn Ts (va_wsS own index y ws)) (hw : ws = Cond.codeWith y bytes maxL ret hh :: ws') (hrc : rm.cells = mc) (hrs : rm.slots = ms)
    (hd : y.cls ≠ "java/lang/invoke/MethodHandle" ∧ y.cls ≠ "java/lang/invoke/VarHandle" ∧ (parseMethodDescriptor y.desc).map (fun d => d.parameters.length) = some n) (hR : rm.frames + 1 ≤ R.frames ∧ 8 + (maxL + 11) + rm.locals ≤ R.locals) :
    vx_CSW R s args own index y bytes maxL ret hh ws rm mc ms n := by
  have ok : ∀ w ∈ va_wsS own index y ws, w.before args s = true := fun w h => ht w (hT w h).1
  have hG : GoodIn Ts ws := fun w h => hT w (by unfold va_wsS; exact List.mem_append_right _ h)
  have hc : Cond.codeWith y bytes maxL ret hh ∈ ws := by rw [hw]; exact List.mem_cons_self
  refine ⟨⟨hrc, hrs, hR.1, hR.2, pay_in ht hG, hc⟩, ht _ (hG _ hc).1, ok _ (by simp [va_wsS]), ⟨hd.1, hd.2.1⟩, fun sig h => ?_, ok _ (by simp [va_wsS]), ok _ (by simp [va_wsS])⟩
  have h2 := hd.2.2
  rw [h] at h2
  exact (Option.some.inj h2).symm
theorem vx_callSW (X : Stand p l e R s m args below meth c T locs cells slots) (hexec : p.tables.exec = Jvm.exec) {own : String} {index : Nat} {y : MethodName} {bytes : ByteArray} {maxL : Nat} {ret : Option FieldType} {hh : List (Nat × Nat × Nat × Nat)}
    (hown : s.vm.findClass own = some m.cls) (hlink : (Cond.methodLink own index y).before args s = true) (hstat : (Cond.static y).before args s = true) (hinit : (Cond.initialized y.cls).before args s = true)
    (hcode : (Cond.codeWith y bytes maxL ret hh).before args s = true) (hy : y.cls ≠ "java/lang/invoke/MethodHandle" ∧ y.cls ≠ "java/lang/invoke/VarHandle")
    {W9 : Nat} {Pre : Pt → Array Value → Prop} {Post : Pt → Array Value → Option Value → Pt → Prop} (hK : Back l R p e below s args y 3 W9 Pre Post)
    {g : JFrame} (hg : g.method = m) (hsize : g.locals.size = c.maxLocals) {argsL rest : List Value} (hlen : ∀ sig, parseMethodDescriptor y.desc = some sig → argsL.length = sig.parameters.length)
    (hstack : g.stack = argsL.reverse ++ rest) (hW : 2 * g.monitorRoom + (rest.map fun v => v.category).sum ≤ W9) (hdg : decode c.code g.pc = .ok (.invokestatic index, 3))
    (hpre : ∀ vm₁, s.WarmedH vm₁ → Pre ⟨T.setVm vm₁, locs, cells, slots⟩ argsL.toArray) :
    ∃ (v : Option Value) (vm₁ : Vm) (B : Pt), s.WarmedH vm₁ ∧ Stand p l e R s m args below meth c B.U B.locs B.cells B.slots ∧ Post ⟨T.setVm vm₁, locs, cells, slots⟩ argsL.toArray v B ∧
      ∀ target, Steps p.tables e below (B.U.setTop { g with pc := g.pc + 3, stack := v.toList ++ rest }) target → Steps p.tables e below (T.setTop g) target := by
  obtain ⟨mk, methM, cM, hnamed, hmethM, -, -, -, -, -, -, hsigM⟩ := Cond.codeWith_spec hcode
  have hstatic : methM.isStatic = true := Cond.static_spec hnamed hmethM hstat
  obtain ⟨kP, hkP, -⟩ := className_of_methodNamed hnamed
  have hinitP : kP.init = .initialized := Cond.initialized_spec (findClass_of_methodNamed hnamed) hkP hinit
  obtain ⟨vm₁, X₁, hstep₁⟩ := X.invokestatic hexec hown hlink hnamed hmethM hstatic hkP hinitP hy (g := g) hg (argsL := argsL) (rest := rest) (hlen _ hsigM) hstack hdg
  obtain ⟨v, B, X', hpost, hsteps⟩ := hK m meth c ⟨T.setVm vm₁, locs, cells, slots⟩ { g with stack := rest } (.invokestatic index) mk argsL.toArray X₁ hg hsize hdg hW (X₁.named hnamed) (hpre vm₁ X₁.warmed)
  exact ⟨v, vm₁, B, X₁.warmed, X', hpost, fun target h => hstep₁ _ fun acts => by rw [doInvoke_state]; exact hsteps.trans h⟩
theorem vx_runSW {y : MethodName} {bytes cc : ByteArray} {maxL nL mc ms n index : Nat} {ret : Option FieldType} {hh : List (Nat × Nat × Nat × Nat)} {ws : List Cond} {rm : Room} {Pc : Array Value → State → Prop} {Qc : Array Value → State → Outcome → State → Prop} {free : Addr → Prop} {Ts : List Cond} {own : String} {As rest : List Value} {g : JFrame}
    (S : CallFix p m c cc nL s args Ts own) (hM : Met l y ws rm Pc Qc mc ms free) (cw : vx_CSW R s args own index y bytes maxL ret hh ws rm mc ms n) (hp : PreS s H Pc As)
    (hg : g.method = m) (hn : As.length = n) (hsize : g.locals.size = nL) (hstack : g.stack = As.reverse ++ rest) (hW : 2 * g.monitorRoom + (rest.map fun v => v.category).sum ≤ 8) (hdg : decode cc g.pc = .ok (.invokestatic index, 3)) (hf : cells + mc ≤ R.cells ∧ slots + ms ≤ R.slots) :
    va_Run p l e R s m args below meth c H locs cells slots mc ms g rest (Qc As.toArray) (free) := by
  obtain ⟨⟨hrc, hrs, hfr, hlo, hws, hcw⟩, hcode, hini, hy, hlen, hl, hstt⟩ := cw
  have hK : Back l R p e below s args y 3 8 (PreOf R mc ms Pc) (PostOf Qc mc ms free) := va_backW (hh := hh) (bytes := bytes) (maxL := maxL) (ret := ret) hM hp.1 hrc hrs hfr hlo hws hcw (fun a' U hW => word_at hW (Or.inl (by first | rfl | simp [Cond.onTables, Cond.keeps, Cond.steady])) hini)
  obtain ⟨hx, hb, hml, ho, -⟩ := S
  intro T hT X
  obtain ⟨v, vm₁, ⟨U', l2, c2, s2⟩, hW₁, X', ⟨g', mk, t, L, e1, e2, hq, h1, hL, h2, h3⟩, st⟩ := vx_callSW X hx (hh := hh) (bytes := bytes) (maxL := maxL) (ret := ret) ho hl hstt hini hcode hy hK hg (hsize.trans hml.symm) (argsL := As) (rest := rest) (fun sig h => hn.trans (hlen sig h)) hstack hW (by rw [hb]; exact hdg)
    (fun vm₁ hW₁ => ⟨hf.1, hf.2, hp.2 (T.setVm vm₁) hT hW₁⟩)
  dsimp only [Pt.U, Pt.locs, Pt.cells, Pt.slots] at X' e1 e2 h1 h2 h3 st
  subst h1; subst h2; subst h3
  exact ⟨v, (T.setVm vm₁).calling g' mk As.toArray, t, U', L, hT, X', hL, e1, e2, hq, st⟩
/-- a thing of a world lies in the heap -/
theorem vx_lt {D : va_G} {cl : List vw_C} {ws : va_W} {H1 : Heap} (h : va_P D cl ws H1) {k : Nat} {q : Nat × va_E} (hk : ws[k]? = some q) : q.1 < H1.size := (h k q hk).lt
end VXS
/-! ===== END ===== -/
/-! ===== BEGIN methods with a table of their own: called by a name, returning or throwing ===== -/
section VXH
/-! vx_backW, vx_callVX, vx_callSX, vx_callVW, vx_runVW, vx_runVX, vx_runSX, vx_ofWH follow the same proofs as their sisters above (Free/Laws.lean, Shelf42/LK1.lean); vx_outP calls Shelf42/NT130.lean (outThrough). -/
section
variable {l : Launch} {R : Room} {p : Program} {e : Env} {below : List Frame} {s : State} {sargs : Array Value} {y : MethodName} {len W9 : Nat}
theorem vx_backW {ws : List Cond} {rm : Room} {Pc : Array Value → State → Prop} {Qc : Array Value → State → Outcome → State → Prop} {XC : String → State → State → Prop} {mc ms : Nat} {free : Addr → Prop} {bytes : ByteArray} {maxL : Nat} {ret : Option FieldType} {hh : List (Nat × Nat × Nat × Nat)}
    (hM : vx_Met l y ws rm Pc Qc XC mc ms free) (hblind : FrameBlind Pc) (hrc : rm.cells = mc) (hrs : rm.slots = ms)
    (hframes : rm.frames + 1 ≤ R.frames) (hlocals : W9 + (maxL + 11) + rm.locals ≤ R.locals)
    (hws : ∀ w ∈ ws, ∀ a' U, s.WarmedH U.vm → w.before a' U = true) (hcode : Cond.codeWith y bytes maxL ret hh ∈ ws) (hinit : ∀ a' U, s.WarmedH U.vm → (Cond.initialized y.cls).before a' U = true) :
    vx_Back l R p e below s sargs y len W9 (PreOf R mc ms Pc) (PostOf Qc mc ms free) (vx_Post XC mc ms free) := by
  intro m meth c A g ig mk a X hg hsize hdg hW hn hp
  have h1 : (headSpec ws rm).pre.before a A.U = true := atoms_intro fun w hw => hws w hw _ _ X.warmed
  have h2 : (Cond.codeWith y bytes maxL ret hh).before a A.U = true := hws _ hcode _ _ X.warmed
  have h3 : (Cond.initialized y.cls).before a A.U = true := hinit _ _ X.warmed
  have h4 : A.cells + (headSpec ws rm).room.cells ≤ R.cells := by rw [show (headSpec ws rm).room.cells = mc from hrc]; exact hp.1
  have h5 : A.slots + (headSpec ws rm).room.slots ≤ R.slots := by rw [show (headSpec ws rm).room.slots = ms from hrs]; exact hp.2.1
  have hPc : Pc a (A.U.calling g mk a) := hblind _ _ _ _ hp.2.2
  obtain ⟨U, Ls, c0, s0⟩ := A
  dsimp only [Pt.U, Pt.locs, Pt.cells, Pt.slots] at h1 h2 h3 h4 h5 X hn hPc ⊢
  obtain ⟨m9, methY, cY, hn9, hmY, hcY, -, hlY, -⟩ := Cond.codeWith_spec h2
  cases Option.some.inj (hn9.symm.trans hn)
  obtain ⟨kY, hkY, -⟩ := className_of_methodNamed hn
  have hinitY : kY.init = .initialized := Cond.initialized_spec (findClass_of_methodNamed hn) hkY h3
  have h : At U g.method c below := by rw [hg]; exact X.here
  have hlocals9 : W9 + (maxL + 11) + (headSpec ws rm).room.locals ≤ R.locals := hlocals
  have happ : (headSpec ws rm).appliesLoose y e.platform (U.calling g mk a) = true :=
    Spec.appliesLoose_calling (g := g) h hdg hn hkY hinitY
      (X.room_calling (g := g) (R' := (headSpec ws rm).room) hsize hmY hcY hframes (by rw [hlY]; omega) h4 h5) h1
  obtain ⟨mid, hmid⟩ := h.above
  have hfr : (U.setTop g).frames = (.java g :: mid) ++ below := by rw [State.frames_setTop' g h.top, hmid]; rfl
  obtain ⟨o, s₂, hsteps, -, hend, hq⟩ := Steps.callFree hM p X.admits X.cas X.clock (acts := []) hfr happ hPc trivial
  have hq' : vx_Q Qc XC mc ms free a (U.calling g mk a) o s₂ := hq
  rw [State.frames_setTop' g h.top] at hend
  obtain ⟨g₀, hg0⟩ := Option.isSome_iff_exists.mp h.top
  obtain ⟨r, hr⟩ := State.topJava?_eq_some.mp hg0
  have hr' : (({ U with heap := s₂.heap, slotsUsed := s₂.slotsUsed } : State).setVm s₂.vm).frames = .java g₀ :: r := hr
  rcases hq' with ⟨hqc, L, hfe, hL⟩ | ⟨q, rfl, E, ce, L, hx, hce, hcv, hcl, hW₂, hsm, hL⟩
  · obtain ⟨⟨v, rfl⟩, hW₂, e2, q2, q3, q4, q5, q6⟩ := id hfe
    have e3 : s₂ = ({ (U.calling g mk a).setFrames s₂.frames with heap := s₂.heap, slotsUsed := s₂.slotsUsed } : State).setVm s₂.vm := by
      have : s₂ = ({ s₂ with vm := (U.calling g mk a).vm } : State).setVm s₂.vm := rfl
      rw [e2] at this
      exact this
    obtain ⟨c₂, i₂, len₂, hc₂, hd₂, hf₂⟩ := hend
    have hW' : U.WarmedH s₂.vm := hW₂
    have hcc : c₂ = c := by
      have h1 : s₂.code? g.method = U.code? g.method := by
        rw [State.code?_eq, State.code?_eq, hW'.alike.method?]
      exact Option.some.inj (hc₂.symm.trans (h1.trans h.code))
    subst hcc
    have hlen : len₂ = len := by rw [hdg] at hd₂; cases hd₂; rfl
    subst hlen
    have hs₂ : s₂ = (({ U with heap := s₂.heap, slotsUsed := s₂.slotsUsed } : State).setVm s₂.vm).setTop { g with pc := g.pc + len₂, stack := v.toList ++ g.stack } := by
      refine e3.trans ?_
      rw [hf₂, State.calling_eq h.top, State.setFrames_setFrames, State.setTop_of_frames _ hr', hr]
      rfl
    have hsame : U.sameButNew ({ U with heap := s₂.heap, slotsUsed := s₂.slotsUsed } : State) L mc ms := by
      refine ⟨?_, q2, q3, q4, q5, q6⟩
      obtain ⟨t, ht, -⟩ := State.frames_cons hr
      show ({ U with heap := s₂.heap, slotsUsed := s₂.slotsUsed } : State) = { U.setFrames U.frames with heap := s₂.heap, slotsUsed := s₂.slotsUsed }
      rw [State.setFrames_self ht]
    subst hg
    refine Or.inl ⟨v, ⟨(({ U with heap := s₂.heap, slotsUsed := s₂.slotsUsed } : State).setVm s₂.vm), Ls ++ L, c0 + mc, s0 + ms⟩,
      ⟨X.admits, X.cas, X.clock, X.frames, X.room, X.hears, X.method, X.code, (X.here.setHeapUsed s₂.heap s₂.slotsUsed).setVm hW'.alike, X.tail, State.WarmedH.trans X.warmed hW', X.limits, X.bytes, X.same.trans (hsame.setVm s.vm)⟩,
      ⟨g, mk, s₂, L, rfl, rfl, hqc, rfl, hL, rfl, rfl⟩, ?_⟩
    show Steps p.tables e below _ ((({ U with heap := s₂.heap, slotsUsed := s₂.slotsUsed } : State).setVm s₂.vm).setTop { g with pc := g.pc + len₂, stack := v.toList ++ g.stack })
    rw [← hs₂]
    exact hsteps
  · obtain ⟨e2, q2, q3, q4, q5, q6⟩ := id hsm
    have e3 : s₂ = ({ (U.calling g mk a).setFrames s₂.frames with heap := s₂.heap, slotsUsed := s₂.slotsUsed } : State).setVm s₂.vm := by
      have : s₂ = ({ s₂ with vm := (U.calling g mk a).vm } : State).setVm s₂.vm := rfl
      rw [e2] at this
      exact this
    have hf₂ : s₂.frames = .throwing q :: .java g :: U.frames.tail := hend
    have hW' : U.WarmedH s₂.vm := hW₂
    have hs₂ : s₂ = ((({ U with heap := s₂.heap, slotsUsed := s₂.slotsUsed } : State).setVm s₂.vm).setTop g).pushFrame (.throwing q) := by
      refine e3.trans ?_
      rw [hf₂, State.calling_eq h.top, State.setFrames_setFrames, State.pushFrame, State.frames_setTop _ hr', State.setTop_of_frames _ hr', State.setFrames_setFrames, hr]
      rfl
    have hsame : U.sameButNew ({ U with heap := s₂.heap, slotsUsed := s₂.slotsUsed } : State) L mc ms := by
      refine ⟨?_, q2, q3, q4, q5, q6⟩
      obtain ⟨t, ht, -⟩ := State.frames_cons hr
      show ({ U with heap := s₂.heap, slotsUsed := s₂.slotsUsed } : State) = { U.setFrames U.frames with heap := s₂.heap, slotsUsed := s₂.slotsUsed }
      rw [State.setFrames_self ht]
    subst hg
    refine Or.inr ⟨q, ⟨(({ U with heap := s₂.heap, slotsUsed := s₂.slotsUsed } : State).setVm s₂.vm), Ls ++ L, c0 + mc, s0 + ms⟩,
      ⟨X.admits, X.cas, X.clock, X.frames, X.room, X.hears, X.method, X.code, (X.here.setHeapUsed s₂.heap s₂.slotsUsed).setVm hW'.alike, X.tail, State.WarmedH.trans X.warmed hW', X.limits, X.bytes, X.same.trans (hsame.setVm s.vm)⟩,
      ⟨g, mk, s₂, L, E, ce, rfl, rfl, hx, hce, hcv, hcl, rfl, hL, rfl, rfl⟩, ?_⟩
    show Steps p.tables e below _ (((({ U with heap := s₂.heap, slotsUsed := s₂.slotsUsed } : State).setVm s₂.vm).setTop g).pushFrame (.throwing q))
    rw [← hs₂]
    exact hsteps
end
variable {p : Program} {l : Launch} {e : Env} {R : Room} {s : State} {m : MethodId} {args : Array Value} {below : List Frame} {meth : Method} {c : Code} {T : State} {H : Heap} {locs : List Loc} {cells slots : Nat}
theorem vx_callVX (X : Stand p l e R s m args below meth c T locs cells slots) (hexec : p.tables.exec = Jvm.exec) {own C : String} {index : Nat} {y : MethodName} {bytes : ByteArray} {maxL : Nat} {ret : Option FieldType} {hh : List (Nat × Nat × Nat × Nat)}
    (hown : s.vm.findClass own = some m.cls) (hlink : (Cond.methodLink own index y).before args s = true) (hinst : (Cond.instanceMethod y).before args s = true) (hsel : (Cond.selects C y y).before args s = true)
    (hcode : (Cond.codeWith y bytes maxL ret hh).before args s = true) (hy : y.cls ≠ "java/lang/invoke/MethodHandle" ∧ y.cls ≠ "java/lang/invoke/VarHandle")
    {W9 : Nat} {Pre : Pt → Array Value → Prop} {Post : Pt → Array Value → Option Value → Pt → Prop} {PostX : Pt → Array Value → Addr → Pt → Prop} (hK : vx_Back l R p e below s args y 3 W9 Pre Post PostX)
    {b : Addr} {cellB : Cell} (hcell : T.heap[b]? = some cellB) (hobj : cellB.vm.isStatics = false) (hcls : s.vm.findClass C = some cellB.cls)
    {g : JFrame} (hg : g.method = m) (hsize : g.locals.size = c.maxLocals) {argsL rest : List Value} (hlen : ∀ sig, parseMethodDescriptor y.desc = some sig → argsL.length = sig.parameters.length)
    (hstack : g.stack = argsL.reverse ++ .ref b :: rest) (hW : 2 * g.monitorRoom + (rest.map fun v => v.category).sum ≤ W9) (hdg : decode c.code g.pc = .ok (.invokevirtual index, 3))
    (hpre : ∀ vm₁, s.WarmedH vm₁ → Pre ⟨T.setVm vm₁, locs, cells, slots⟩ (Value.ref b :: argsL).toArray) :
    (∃ (v : Option Value) (vm₁ : Vm) (B : Pt), s.WarmedH vm₁ ∧ Stand p l e R s m args below meth c B.U B.locs B.cells B.slots ∧ Post ⟨T.setVm vm₁, locs, cells, slots⟩ (Value.ref b :: argsL).toArray v B ∧
      ∀ target, Steps p.tables e below (B.U.setTop { g with pc := g.pc + 3, stack := v.toList ++ rest }) target → Steps p.tables e below (T.setTop g) target) ∨
    (∃ (q : Addr) (vm₁ : Vm) (B : Pt), s.WarmedH vm₁ ∧ Stand p l e R s m args below meth c B.U B.locs B.cells B.slots ∧ PostX ⟨T.setVm vm₁, locs, cells, slots⟩ (Value.ref b :: argsL).toArray q B ∧
      Steps p.tables e below (T.setTop g) ((B.U.setTop { g with stack := rest }).pushFrame (.throwing q))) := by
  obtain ⟨mk, methM, hnamed, hmethM, hstM, habM⟩ := Cond.instanceMethod_spec hinst
  obtain ⟨m8, methM', cM, hn8, hmethM', -, -, -, -, -, -, hsigM⟩ := Cond.codeWith_spec hcode
  cases Option.some.inj (hn8.symm.trans hnamed)
  cases hmethM.symm.trans hmethM'
  obtain ⟨c2, r2, m2, q1, q2, q3, q4, kP, hkP, hkPi⟩ := Cond.selects_spec hsel
  cases hcls.symm.trans q1
  cases (State.methodFound?_of_named hnamed hy).symm.trans q2
  cases hnamed.symm.trans q3
  have hselP : selectMethod e.platform s.vm cellB.cls mk = .method mk := by rw [Launch.admits_selectMethod X.admits]; exact q4
  obtain ⟨vm₁, X₁, hstep₁⟩ := X.invokevirtual hexec hown hlink hnamed hmethM hstM hkP hkPi hy (a := b) (cell := cellB) hcell
    (fun z h => by rw [h] at hobj; cases hobj) hselP hmethM habM hkP hkPi (g := g) hg (argsL := argsL) (rest := rest) (hlen _ hsigM) hstack hdg
  rcases hK m meth c ⟨T.setVm vm₁, locs, cells, slots⟩ { g with stack := rest } (.invokevirtual index) mk (Value.ref b :: argsL).toArray X₁ hg hsize hdg hW (X₁.named hnamed) (hpre vm₁ X₁.warmed) with ⟨v, B, X', hpost, hsteps⟩ | ⟨q, B, X', hpost, hsteps⟩
  · exact Or.inl ⟨v, vm₁, B, X₁.warmed, X', hpost, fun target h => hstep₁ _ fun acts => by rw [doInvoke_state]; exact hsteps.trans h⟩
  · exact Or.inr ⟨q, vm₁, B, X₁.warmed, X', hpost, hstep₁ _ fun acts => by rw [doInvoke_state]; exact hsteps⟩
theorem vx_callSX (X : Stand p l e R s m args below meth c T locs cells slots) (hexec : p.tables.exec = Jvm.exec) {own : String} {index : Nat} {y : MethodName} {bytes : ByteArray} {maxL : Nat} {ret : Option FieldType} {hh : List (Nat × Nat × Nat × Nat)}
    (hown : s.vm.findClass own = some m.cls) (hlink : (Cond.methodLink own index y).before args s = true) (hstat : (Cond.static y).before args s = true) (hinit : (Cond.initialized y.cls).before args s = true)
    (hcode : (Cond.codeWith y bytes maxL ret hh).before args s = true) (hy : y.cls ≠ "java/lang/invoke/MethodHandle" ∧ y.cls ≠ "java/lang/invoke/VarHandle")
    {W9 : Nat} {Pre : Pt → Array Value → Prop} {Post : Pt → Array Value → Option Value → Pt → Prop} {PostX : Pt → Array Value → Addr → Pt → Prop} (hK : vx_Back l R p e below s args y 3 W9 Pre Post PostX)
    {g : JFrame} (hg : g.method = m) (hsize : g.locals.size = c.maxLocals) {argsL rest : List Value} (hlen : ∀ sig, parseMethodDescriptor y.desc = some sig → argsL.length = sig.parameters.length)
    (hstack : g.stack = argsL.reverse ++ rest) (hW : 2 * g.monitorRoom + (rest.map fun v => v.category).sum ≤ W9) (hdg : decode c.code g.pc = .ok (.invokestatic index, 3))
    (hpre : ∀ vm₁, s.WarmedH vm₁ → Pre ⟨T.setVm vm₁, locs, cells, slots⟩ argsL.toArray) :
    (∃ (v : Option Value) (vm₁ : Vm) (B : Pt), s.WarmedH vm₁ ∧ Stand p l e R s m args below meth c B.U B.locs B.cells B.slots ∧ Post ⟨T.setVm vm₁, locs, cells, slots⟩ argsL.toArray v B ∧
      ∀ target, Steps p.tables e below (B.U.setTop { g with pc := g.pc + 3, stack := v.toList ++ rest }) target → Steps p.tables e below (T.setTop g) target) ∨
    (∃ (q : Addr) (vm₁ : Vm) (B : Pt), s.WarmedH vm₁ ∧ Stand p l e R s m args below meth c B.U B.locs B.cells B.slots ∧ PostX ⟨T.setVm vm₁, locs, cells, slots⟩ argsL.toArray q B ∧
      Steps p.tables e below (T.setTop g) ((B.U.setTop { g with stack := rest }).pushFrame (.throwing q))) := by
  obtain ⟨mk, methM, cM, hnamed, hmethM, -, -, -, -, -, -, hsigM⟩ := Cond.codeWith_spec hcode
  have hstatic : methM.isStatic = true := Cond.static_spec hnamed hmethM hstat
  obtain ⟨kP, hkP, -⟩ := className_of_methodNamed hnamed
  have hinitP : kP.init = .initialized := Cond.initialized_spec (findClass_of_methodNamed hnamed) hkP hinit
  obtain ⟨vm₁, X₁, hstep₁⟩ := X.invokestatic hexec hown hlink hnamed hmethM hstatic hkP hinitP hy (g := g) hg (argsL := argsL) (rest := rest) (hlen _ hsigM) hstack hdg
  rcases hK m meth c ⟨T.setVm vm₁, locs, cells, slots⟩ { g with stack := rest } (.invokestatic index) mk argsL.toArray X₁ hg hsize hdg hW (X₁.named hnamed) (hpre vm₁ X₁.warmed) with ⟨v, B, X', hpost, hsteps⟩ | ⟨q, B, X', hpost, hsteps⟩
  · exact Or.inl ⟨v, vm₁, B, X₁.warmed, X', hpost, fun target h => hstep₁ _ fun acts => by rw [doInvoke_state]; exact hsteps.trans h⟩
  · exact Or.inr ⟨q, vm₁, B, X₁.warmed, X', hpost, hstep₁ _ fun acts => by rw [doInvoke_state]; exact hsteps⟩
theorem vx_callVW (X : Stand p l e R s m args below meth c T locs cells slots) (hexec : p.tables.exec = Jvm.exec) {own C : String} {index : Nat} {y : MethodName} {bytes : ByteArray} {maxL : Nat} {ret : Option FieldType} {hh : List (Nat × Nat × Nat × Nat)}
    (hown : s.vm.findClass own = some m.cls) (hlink : (Cond.methodLink own index y).before args s = true) (hinst : (Cond.instanceMethod y).before args s = true) (hsel : (Cond.selects C y y).before args s = true)
    (hcode : (Cond.codeWith y bytes maxL ret hh).before args s = true) (hy : y.cls ≠ "java/lang/invoke/MethodHandle" ∧ y.cls ≠ "java/lang/invoke/VarHandle")
    {W9 : Nat} {Pre : Pt → Array Value → Prop} {Post : Pt → Array Value → Option Value → Pt → Prop} (hK : Back l R p e below s args y 3 W9 Pre Post)
    {b : Addr} {cellB : Cell} (hcell : T.heap[b]? = some cellB) (hobj : cellB.vm.isStatics = false) (hcls : s.vm.findClass C = some cellB.cls)
    {g : JFrame} (hg : g.method = m) (hsize : g.locals.size = c.maxLocals) {argsL rest : List Value} (hlen : ∀ sig, parseMethodDescriptor y.desc = some sig → argsL.length = sig.parameters.length)
    (hstack : g.stack = argsL.reverse ++ .ref b :: rest) (hW : 2 * g.monitorRoom + (rest.map fun v => v.category).sum ≤ W9) (hdg : decode c.code g.pc = .ok (.invokevirtual index, 3))
    (hpre : ∀ vm₁, s.WarmedH vm₁ → Pre ⟨T.setVm vm₁, locs, cells, slots⟩ (Value.ref b :: argsL).toArray) :
    ∃ (v : Option Value) (vm₁ : Vm) (B : Pt), s.WarmedH vm₁ ∧ Stand p l e R s m args below meth c B.U B.locs B.cells B.slots ∧ Post ⟨T.setVm vm₁, locs, cells, slots⟩ (Value.ref b :: argsL).toArray v B ∧
      ∀ target, Steps p.tables e below (B.U.setTop { g with pc := g.pc + 3, stack := v.toList ++ rest }) target → Steps p.tables e below (T.setTop g) target := by
  obtain ⟨mk, methM, hnamed, hmethM, hstM, habM⟩ := Cond.instanceMethod_spec hinst
  obtain ⟨m8, methM', cM, hn8, hmethM', -, -, -, -, -, -, hsigM⟩ := Cond.codeWith_spec hcode
  cases Option.some.inj (hn8.symm.trans hnamed)
  cases hmethM.symm.trans hmethM'
  obtain ⟨c2, r2, m2, q1, q2, q3, q4, kP, hkP, hkPi⟩ := Cond.selects_spec hsel
  cases hcls.symm.trans q1
  cases (State.methodFound?_of_named hnamed hy).symm.trans q2
  cases hnamed.symm.trans q3
  have hselP : selectMethod e.platform s.vm cellB.cls mk = .method mk := by rw [Launch.admits_selectMethod X.admits]; exact q4
  obtain ⟨vm₁, X₁, hstep₁⟩ := X.invokevirtual hexec hown hlink hnamed hmethM hstM hkP hkPi hy (a := b) (cell := cellB) hcell
    (fun z h => by rw [h] at hobj; cases hobj) hselP hmethM habM hkP hkPi (g := g) hg (argsL := argsL) (rest := rest) (hlen _ hsigM) hstack hdg
  obtain ⟨v, B, X', hpost, hsteps⟩ := hK m meth c ⟨T.setVm vm₁, locs, cells, slots⟩ { g with stack := rest } (.invokevirtual index) mk (Value.ref b :: argsL).toArray X₁ hg hsize hdg hW (X₁.named hnamed) (hpre vm₁ X₁.warmed)
  exact ⟨v, vm₁, B, X₁.warmed, X', hpost, fun target h => hstep₁ _ fun acts => by rw [doInvoke_state]; exact hsteps.trans h⟩
abbrev vx_CVW (R : Room) (s : State) (args : Array Value) (own C : String) (index : Nat) (y : MethodName) (bytes : ByteArray) (maxL : Nat) (ret : Option FieldType) (hh : List (Nat × Nat × Nat × Nat)) (ws : List Cond) (rm : Room) (mc ms n : Nat) : Prop :=
  (rm.cells = mc ∧ rm.slots = ms ∧ rm.frames + 1 ≤ R.frames ∧ 8 + (maxL + 11) + rm.locals ≤ R.locals ∧ (∀ w ∈ ws, ∀ (a' : Array Value) (U : State), s.WarmedH U.vm → w.before a' U = true) ∧ Cond.codeWith y bytes maxL ret hh ∈ ws) ∧
  (Cond.codeWith y bytes maxL ret hh).before args s = true ∧ (Cond.initialized y.cls).before args s = true ∧ (y.cls ≠ "java/lang/invoke/MethodHandle" ∧ y.cls ≠ "java/lang/invoke/VarHandle") ∧
  (∀ sig, parseMethodDescriptor y.desc = some sig → n = sig.parameters.length) ∧ (Cond.methodLink own index y).before args s = true ∧ (Cond.instanceMethod y).before args s = true ∧ (Cond.selects C y y).before args s = true
theorem vx_cwVW {own C : String} {index maxL mc ms : Nat} {y : MethodName} {bytes : ByteArray} {ret : Option FieldType} {hh : List (Nat × Nat × Nat × Nat)} {Ts ws ws' : List Cond} {rm : Room} (n : Nat) (ht : ∀ w ∈ Ts, w.before args s = true) (hT : GoodIn Ts (wsV own index C y ws)) (hw : ws = Cond.codeWith y bytes maxL ret hh :: ws') (hrc : rm.cells = mc) (hrs : rm.slots = ms)
    (hd : y.cls = C ∧ y.cls ≠ "java/lang/invoke/MethodHandle" ∧ y.cls ≠ "java/lang/invoke/VarHandle" ∧ (parseMethodDescriptor y.desc).map (fun d => d.parameters.length) = some n) (hR : rm.frames + 1 ≤ R.frames ∧ 8 + (maxL + 11) + rm.locals ≤ R.locals) :
    vx_CVW R s args own C index y bytes maxL ret hh ws rm mc ms n := by
  obtain ⟨hC, hd⟩ := hd
  subst hC
  have ok : ∀ w ∈ wsV own index y.cls y ws, w.before args s = true := fun w h => ht w (hT w h).1
  have hG : GoodIn Ts ws := fun w h => hT w (by unfold wsV; exact List.mem_append_right _ h)
  have hc : Cond.codeWith y bytes maxL ret hh ∈ ws := by rw [hw]; exact List.mem_cons_self
  refine ⟨⟨hrc, hrs, hR.1, hR.2, pay_in ht hG, hc⟩, ht _ (hG _ hc).1, ok _ (by simp [wsV]), ⟨hd.1, hd.2.1⟩, fun sig h => ?_, ok _ (by simp [wsV]), ok _ (by simp [wsV]), ok _ (by simp [wsV])⟩
  have h2 := hd.2.2
  rw [h] at h2
  exact (Option.some.inj h2).symm
theorem vx_runVW {y : MethodName} {bytes cc : ByteArray} {maxL nL mc ms n index : Nat} {ret : Option FieldType} {hh : List (Nat × Nat × Nat × Nat)} {ws : List Cond} {rm : Room} {Pc : Array Value → State → Prop} {Qc : Array Value → State → Outcome → State → Prop} {free : Addr → Prop} {Ts : List Cond} {own C : String} {b : Addr} {As rest : List Value} {g : JFrame}
    (S : CallFix p m c cc nL s args Ts own) (hM : Met l y ws rm Pc Qc mc ms free) (cw : vx_CVW R s args own C index y bytes maxL ret hh ws rm mc ms n) (hp : PreV s H C b Pc As)
    (hg : g.method = m) (hn : As.length = n) (hsize : g.locals.size = nL) (hstack : g.stack = As.reverse ++ .ref b :: rest) (hW : 2 * g.monitorRoom + (rest.map fun v => v.category).sum ≤ 8) (hdg : decode cc g.pc = .ok (.invokevirtual index, 3)) (hf : cells + mc ≤ R.cells ∧ slots + ms ≤ R.slots) :
    va_Run p l e R s m args below meth c H locs cells slots mc ms g rest (Qc (Value.ref b :: As).toArray) free := by
  obtain ⟨⟨hrc, hrs, hfr, hlo, hws, hcw⟩, hcode, hini, hy, hlen, hl, hin, hse⟩ := cw
  have hK : Back l R p e below s args y 3 8 (PreOf R mc ms Pc) (PostOf Qc mc ms free) := va_backW (hh := hh) (bytes := bytes) (maxL := maxL) (ret := ret) hM hp.1 hrc hrs hfr hlo hws hcw (fun a' U hW => word_at hW (Or.inl (by first | rfl | simp [Cond.onTables, Cond.keeps, Cond.steady])) hini)
  obtain ⟨hx, hb, hml, ho, -⟩ := S
  obtain ⟨-, ⟨cellB, hcB, hoB, hclB⟩, hPc⟩ := hp
  intro T hT X
  obtain ⟨v, vm₁, ⟨U', l2, c2, s2⟩, hW₁, X', ⟨g', mk, t, L, e1, e2, hq, h1, hL, h2, h3⟩, st⟩ := vx_callVW X hx (C := C) (hh := hh) (bytes := bytes) (maxL := maxL) (ret := ret) ho hl hin hse hcode hy hK (by rw [hT]; exact hcB) hoB hclB hg (hsize.trans hml.symm) (argsL := As) (rest := rest) (fun sig h => hn.trans (hlen sig h)) hstack hW (by rw [hb]; exact hdg)
    (fun vm₁ hW₁ => ⟨hf.1, hf.2, hPc (T.setVm vm₁) hT hW₁⟩)
  dsimp only [Pt.U, Pt.locs, Pt.cells, Pt.slots] at X' e1 e2 h1 h2 h3 st
  subst h1; subst h2; subst h3
  exact ⟨v, (T.setVm vm₁).calling g' mk (Value.ref b :: As).toArray, t, U', L, hT, X', hL, e1, e2, hq, st⟩
section
variable {y : MethodName} {bytes cc : ByteArray} {maxL nL mc ms n index : Nat} {ret : Option FieldType} {ws : List Cond} {rm : Room} {Pc : Array Value → State → Prop} {Qc : Array Value → State → Outcome → State → Prop} {XC : String → State → State → Prop} {free : Addr → Prop} {Ts : List Cond} {own C : String} {b : Addr} {As rest : List Value} {g : JFrame}
theorem vx_runVX {hh : List (Nat × Nat × Nat × Nat)} (S : CallFix p m c cc nL s args Ts own) (hM : vx_Met l y ws rm Pc Qc XC mc ms free) (cw : vx_CVW R s args own C index y bytes maxL ret hh ws rm mc ms n) (hp : PreV s H C b Pc As)
    (hg : g.method = m) (hn : As.length = n) (hsize : g.locals.size = nL) (hstack : g.stack = As.reverse ++ .ref b :: rest) (hW : 2 * g.monitorRoom + (rest.map fun v => v.category).sum ≤ 8) (hdg : decode cc g.pc = .ok (.invokevirtual index, 3)) (hf : cells + mc ≤ R.cells ∧ slots + ms ≤ R.slots) :
    vx_Run p l e R s m args below meth c H locs cells slots mc ms g rest (Qc (Value.ref b :: As).toArray) XC free := by
  obtain ⟨⟨hrc, hrs, hfr, hlo, hws, hcw⟩, hcode, hini, hy, hlen, hl, hin, hse⟩ := cw
  have hK : vx_Back l R p e below s args y 3 8 (PreOf R mc ms Pc) (PostOf Qc mc ms free) (vx_Post XC mc ms free) := vx_backW (hh := hh) (bytes := bytes) (maxL := maxL) (ret := ret) hM hp.1 hrc hrs hfr hlo hws hcw (fun a' U hW => word_at hW (Or.inl (by first | rfl | simp [Cond.onTables, Cond.keeps, Cond.steady])) hini)
  obtain ⟨hx, hb, hml, ho, -⟩ := S
  obtain ⟨-, ⟨cellB, hcB, hoB, hclB⟩, hPc⟩ := hp
  intro T hT X
  rcases vx_callVX X hx (C := C) (hh := hh) (bytes := bytes) (maxL := maxL) (ret := ret) ho hl hin hse hcode hy hK (by rw [hT]; exact hcB) hoB hclB hg (hsize.trans hml.symm) (argsL := As) (rest := rest) (fun sig h => hn.trans (hlen sig h)) hstack hW (by rw [hb]; exact hdg)
    (fun vm₁ hW₁ => ⟨hf.1, hf.2, hPc (T.setVm vm₁) hT hW₁⟩) with ⟨v, vm₁, ⟨U', l2, c2, s2⟩, hW₁, X', ⟨g', mk, t, L, e1, e2, hq, h1, hL, h2, h3⟩, st⟩ | ⟨q, vm₁, ⟨U', l2, c2, s2⟩, hW₁, X', ⟨g', mk, t, L, E, ce, e1, e2, hq, hce, hcv, hcl, h1, hL, h2, h3⟩, st⟩
  · dsimp only [Pt.U, Pt.locs, Pt.cells, Pt.slots] at X' e1 e2 h1 h2 h3 st
    subst h1; subst h2; subst h3
    exact Or.inl ⟨v, (T.setVm vm₁).calling g' mk (Value.ref b :: As).toArray, t, U', L, hT, X', hL, e1, e2, hq, st⟩
  · dsimp only [Pt.U, Pt.locs, Pt.cells, Pt.slots] at X' e1 e2 h1 h2 h3 st hcl
    subst h1; subst h2; subst h3
    exact Or.inr ⟨q, (T.setVm vm₁).calling g' mk (Value.ref b :: As).toArray, t, U', L, E, ce, hT, X', hL, e1, e2, hq, hce, hcv, vx_cls hW₁ hcl, st⟩
theorem vx_runSX {hh : List (Nat × Nat × Nat × Nat)} (S : CallFix p m c cc nL s args Ts own) (hM : vx_Met l y ws rm Pc Qc XC mc ms free) (cw : vx_CSW R s args own index y bytes maxL ret hh ws rm mc ms n) (hp : PreS s H Pc As)
    (hg : g.method = m) (hn : As.length = n) (hsize : g.locals.size = nL) (hstack : g.stack = As.reverse ++ rest) (hW : 2 * g.monitorRoom + (rest.map fun v => v.category).sum ≤ 8) (hdg : decode cc g.pc = .ok (.invokestatic index, 3)) (hf : cells + mc ≤ R.cells ∧ slots + ms ≤ R.slots) :
    vx_Run p l e R s m args below meth c H locs cells slots mc ms g rest (Qc As.toArray) XC free := by
  obtain ⟨⟨hrc, hrs, hfr, hlo, hws, hcw⟩, hcode, hini, hy, hlen, hl, hstt⟩ := cw
  have hK : vx_Back l R p e below s args y 3 8 (PreOf R mc ms Pc) (PostOf Qc mc ms free) (vx_Post XC mc ms free) := vx_backW (hh := hh) (bytes := bytes) (maxL := maxL) (ret := ret) hM hp.1 hrc hrs hfr hlo hws hcw (fun a' U hW => word_at hW (Or.inl (by first | rfl | simp [Cond.onTables, Cond.keeps, Cond.steady])) hini)
  obtain ⟨hx, hb, hml, ho, -⟩ := S
  intro T hT X
  rcases vx_callSX X hx (hh := hh) (bytes := bytes) (maxL := maxL) (ret := ret) ho hl hstt hini hcode hy hK hg (hsize.trans hml.symm) (argsL := As) (rest := rest) (fun sig h => hn.trans (hlen sig h)) hstack hW (by rw [hb]; exact hdg)
    (fun vm₁ hW₁ => ⟨hf.1, hf.2, hp.2 (T.setVm vm₁) hT hW₁⟩) with ⟨v, vm₁, ⟨U', l2, c2, s2⟩, hW₁, X', ⟨g', mk, t, L, e1, e2, hq, h1, hL, h2, h3⟩, st⟩ | ⟨q, vm₁, ⟨U', l2, c2, s2⟩, hW₁, X', ⟨g', mk, t, L, E, ce, e1, e2, hq, hce, hcv, hcl, h1, hL, h2, h3⟩, st⟩
  · dsimp only [Pt.U, Pt.locs, Pt.cells, Pt.slots] at X' e1 e2 h1 h2 h3 st
    subst h1; subst h2; subst h3
    exact Or.inl ⟨v, (T.setVm vm₁).calling g' mk As.toArray, t, U', L, hT, X', hL, e1, e2, hq, st⟩
  · dsimp only [Pt.U, Pt.locs, Pt.cells, Pt.slots] at X' e1 e2 h1 h2 h3 st hcl
    subst h1; subst h2; subst h3
    exact Or.inr ⟨q, (T.setVm vm₁).calling g' mk As.toArray, t, U', L, E, ce, hT, X', hL, e1, e2, hq, hce, hcv, vx_cls hW₁ hcl, st⟩
end
end VXH
theorem vx_ofWH {l : Launch} {y : MethodName} {ws ws' : List Cond} {rm : Room} {Pc : Array Value → State → Prop} {Qc : Array Value → State → Outcome → State → Prop} {XC : String → State → State → Prop} {mc ms : Nat} {free : Addr → Prop} {cc : ByteArray} {maxL : Nat} {ret : Option FieldType} {hh : List (Nat × Nat × Nat × Nat)}
    (hy : plainName y.cls = true) (hw : ws = Cond.codeWith y cc maxL ret hh :: ws')
    (body : ∀ p e s m args below meth c s₁, BodyLoose p l y (headSpec ws rm) cc maxL ret e s m args below meth c s₁ → c.maxLocals = maxL → Pc args s →
      W p l e (headSpec ws rm).room s m args below meth c s.heap [] 0 0 (vx_MQ below Qc XC args s mc ms free) (entryFrame m args maxL)) : vx_Met l y ws rm Pc Qc XC mc ms free := by
  refine MetFree.of_bodyS (code := cc) (maxLocals := maxL) (ret := ret) hy ?_ ?_
  · intro args s m h hn
    obtain ⟨m9, meth, c, hn9, h1, h2, h3, h4, -, h5, h6, -⟩ := Cond.codeWith_spec (atoms_spec (ws := ws) h _ (by rw [hw]; exact List.mem_cons_self))
    cases hn.symm.trans hn9
    exact ⟨meth, c, h1, h2, h3, h4, h5, h6⟩
  · intro p e s m args below meth c s₁ B hml hP _
    have hh0 : s₁.heap = s.heap := by rw [B.state]; rfl
    obtain ⟨t, a1, o, b1, b2, b3⟩ := body p e s m args below meth c s₁ B hml hP s₁ hh0 (Stand.of_body B)
    exact ⟨t, o, a1, b1, b2, b3⟩
/-! ===== END ===== -/
end
section
/-! ===== THE ABSTRACT MACHINE: the bytecode over a heap of numbered cells; a reference is a cell's number; the script is retAddr 0, the texts are retAddr 1 and on ===== -/
abbrev av_O : Type := Instr × Nat × Nat
abbrev av_L : Type := List (Option Value)
abbrev av_H : Type := List va_E
abbrev av_F : Type := Nat × av_L × List Value × av_H × Nat × Nat
abbrev av_S : Type := av_F ⊕ (Option Value ⊕ ((Nat × List Value × List Value) ⊕ String))
abbrev av_R : Type := (Option Value ⊕ String) × av_H × Nat × Nat
/-- a method: its name, its bytes, its locals, what it answers, how many values it takes off the stack, its handlers (from, to, at, the entry of the class), their classes, its class's number, whether it may throw -/
abbrev av_M : Type := MethodName × ByteArray × Nat × Option FieldType × Nat × List (Nat × Nat × Nat × Nat) × List String × Nat × Bool
/-- a program: its instructions, its methods, the types of each class's fields, the throws (class), the texts, the script's length and ints -/
abbrev av_P : Type := (Nat → Nat → Option av_O) × (Nat → av_M) × (Nat → List FieldType) × (Nat → String) × (Nat → List Int32) × Nat × (Nat → Int32)
def av_op (P : av_P) : Nat → Nat → Option av_O := P.1
def av_me (P : av_P) : Nat → av_M := P.2.1
def av_ty (P : av_P) : Nat → List FieldType := P.2.2.1
def av_th (P : av_P) : Nat → String := P.2.2.2.1
def av_tx (P : av_P) : Nat → List Int32 := P.2.2.2.2.1
def av_nx (P : av_P) : Nat := P.2.2.2.2.2.1
def av_xs (P : av_P) : Nat → Int32 := P.2.2.2.2.2.2
def av_cmp (k : Jvm.ClassFile.Cond) (x y : Int32) : Bool := match k with
  | .eq => decide (x = y)
  | .ne => decide (x ≠ y)
  | .lt => decide (x < y)
  | .ge => decide (y ≤ x)
  | .gt => decide (y < x)
  | .le => decide (x ≤ y)
def av_goto (t : Int) (L : av_L) (st : List Value) (h : av_H) (c s : Nat) : Option av_S := some (.inl (t.toNat, L, st, h, c, s))
def av_def (t : FieldType) : Value := defaultValue t
/-- may the value be put into a field of that type -/
def av_fit (t : FieldType) (v : Value) : Bool := match t, v with
  | .int, .int _ => true
  | .boolean, .int x => decide (x = 0) || decide (x = 1)
  | .object _, .ref _ => true
  | .object _, .null => true
  | .array _, .ref _ => true
  | .array _, .null => true
  | _, _ => false
def av_in (i : Int32) (n : Nat) : Bool := decide (¬ i < 0) && decide (i.toNatClampNeg < n)
def av_bin (pc len : Nat) (L : av_L) (st : List Value) (h : av_H) (c s : Nat) (f : Int32 → Int32 → Option Int32) : Option av_S := match st with
  | .int y :: .int x :: r => match f x y with
    | some z => some (.inl (pc + len, L, .int z :: r, h, c, s))
    | none => none
  | _ => none
def av_iaload (P : av_P) (pc len : Nat) (L : av_L) (st : List Value) (h : av_H) (c s : Nat) : Option av_S := match st with
  | .int i :: .ref a :: r => match h[a]? with
    | some (.inl (0, n, .inl f)) => if av_in i n then some (.inl (pc + len, L, .int (f i.toNatClampNeg) :: r, h, c, s)) else none
    | _ => none
  | .int i :: .retAddr 0 :: r => if av_in i (av_nx P) then some (.inl (pc + len, L, .int (av_xs P i.toNatClampNeg) :: r, h, c, s)) else none
  | _ => none
def av_alen (P : av_P) (pc len : Nat) (L : av_L) (st : List Value) (h : av_H) (c s : Nat) : Option av_S := match st with
  | .ref a :: r => match h[a]? with
    | some (.inl (t, n, _)) => if t < 4 then some (.inl (pc + len, L, .int (Int32.ofNat n) :: r, h, c, s)) else none
    | _ => none
  | .retAddr 0 :: r => some (.inl (pc + len, L, .int (Int32.ofNat (av_nx P)) :: r, h, c, s))
  | _ => none
def av_copy (pc len : Nat) (L : av_L) (st : List Value) (h : av_H) (c s : Nat) : Option av_S := match st with
  | .int n :: .int dp :: .ref b :: .int sp :: .ref a :: r => match h[a]?, h[b]? with
    | some (.inl (0, n0, .inl f)), some (.inl (0, n1, .inl g)) =>
      if ¬ sp < 0 ∧ ¬ dp < 0 ∧ ¬ n < 0 ∧ sp.toNatClampNeg + n.toNatClampNeg ≤ n0 ∧ dp.toNatClampNeg + n.toNatClampNeg ≤ n1 ∧ (r.map fun v => v.category).sum ≤ 8
      then some (.inl (pc + len, L, r, h.set b (.inl (0, n1, .inl (va_cpy f g sp.toNatClampNeg dp.toNatClampNeg n.toNatClampNeg))), c, s)) else none
    | _, _ => none
  | _ => none
/-- the arrays that are made: ints, bytes, longs -/
def av_newa (k : ArrayType) (n : Nat) : Option va_E := match k with
  | .int => some (.inl (0, n, .inl (fun _ => 0)))
  | .byte => some (.inl (1, n, .inl (fun _ => 0)))
  | .long => some (.inl (2, n, .inr (.inl (fun _ => 0))))
  | _ => none
/-- the receiver is an object of that class -/
def av_rcv (h : av_H) (ci : Nat) (as : List Value) : Bool := match as with
  | .ref b :: _ => match h[b]? with
    | some (.inr (k, _)) => decide (k = ci)
    | _ => false
  | _ => false
def av_isr (as : List Value) : Bool := match as with
  | .ref _ :: _ => true
  | _ => false
/-- one instruction -/
def av_one (P : av_P) (mi pc : Nat) (ins : Instr) (len : Nat) (L : av_L) (st : List Value) (h : av_H) (c s : Nat) : Option av_S := match ins with
  | .sipush v => some (.inl (pc + len, L, .int (Int32.ofInt v) :: st, h, c, s))
  | .lconst n => some (.inl (pc + len, L, .long (Int64.ofNat (n : Nat)) :: st, h, c, s))
  | .ldc i => some (.inl (pc + len, L, .retAddr (i + 1) :: st, h, c, s))
  | .iload i => match L[i]? with
    | some (some (.int x)) => some (.inl (pc + len, L, .int x :: st, h, c, s))
    | _ => none
  | .aload i => match L[i]? with
    | some (some (.ref x)) => some (.inl (pc + len, L, .ref x :: st, h, c, s))
    | some (some (.retAddr x)) => some (.inl (pc + len, L, .retAddr x :: st, h, c, s))
    | _ => none
  | .istore i => match st with
    | .int x :: r => if i < L.length then some (.inl (pc + len, L.set i (some (.int x)), r, h, c, s)) else none
    | _ => none
  | .astore i => match st with
    | .ref x :: r => if i < L.length then some (.inl (pc + len, L.set i (some (.ref x)), r, h, c, s)) else none
    | .retAddr x :: r => if i < L.length then some (.inl (pc + len, L.set i (some (.retAddr x)), r, h, c, s)) else none
    | _ => none
  | .iinc i n => match L[i]? with
    | some (some (.int x)) => some (.inl (pc + len, L.set i (some (.int (x + Int32.ofInt n))), st, h, c, s))
    | _ => none
  | .dup => match st with
    | v :: r => if v.category = 1 then some (.inl (pc + len, L, v :: v :: r, h, c, s)) else none
    | _ => none
  | .dup2 => match st with
    | v :: w :: r => if v.category = 1 ∧ w.category = 1 then some (.inl (pc + len, L, v :: w :: v :: w :: r, h, c, s)) else none
    | _ => none
  | .pop => match st with
    | v :: r => if v.category = 1 then some (.inl (pc + len, L, r, h, c, s)) else none
    | _ => none
  | .iadd => av_bin pc len L st h c s fun x y => some (x + y)
  | .isub => av_bin pc len L st h c s fun x y => some (x - y)
  | .imul => av_bin pc len L st h c s fun x y => some (x * y)
  | .idiv => av_bin pc len L st h c s fun x y => if y = 0 then none else some (x / y)
  | .irem => av_bin pc len L st h c s fun x y => if y = 0 then none else some (x - x / y * y)
  | .iand => av_bin pc len L st h c s fun x y => some (x &&& y)
  | .ior => av_bin pc len L st h c s fun x y => some (x ||| y)
  | .ixor => av_bin pc len L st h c s fun x y => some (x ^^^ y)
  | .ishl => av_bin pc len L st h c s fun x y => some (x <<< (y &&& 31))
  | .ishr => av_bin pc len L st h c s fun x y => some (x >>> (y &&& 31))
  | .iushr => av_bin pc len L st h c s fun x y => some ((x.toUInt32 >>> (y.toUInt32 &&& Int32.toUInt32 31)).toInt32)
  | .i2l => match st with
    | .int x :: r => some (.inl (pc + len, L, .long x.toInt64 :: r, h, c, s))
    | _ => none
  | .i2b => match st with
    | .int x :: r => some (.inl (pc + len, L, .int x.toInt8.toInt32 :: r, h, c, s))
    | _ => none
  | .lcmp => match st with
    | .long y :: .long x :: r => some (.inl (pc + len, L, .int (lg_cmp x y) :: r, h, c, s))
    | _ => none
  | .if_icmp k t => match st with
    | .int y :: .int x :: r => if av_cmp k x y then av_goto t L r h c s else some (.inl (pc + len, L, r, h, c, s))
    | _ => none
  | .ifCond k t => match st with
    | .int x :: r => if av_cmp k x 0 then av_goto t L r h c s else some (.inl (pc + len, L, r, h, c, s))
    | _ => none
  | .ifnonnull t => match st with
    | .ref _ :: r => av_goto t L r h c s
    | .null :: r => some (.inl (pc + len, L, r, h, c, s))
    | _ => none
  | .goto t => av_goto t L st h c s
  | .tableswitch d lo hi ts => match st with
    | .int x :: r => if x.toInt < lo ∨ hi < x.toInt then av_goto d L r h c s else match ts[(x.toInt - lo).toNat]? with
      | some t => av_goto t L r h c s
      | none => none
    | _ => none
  | .getfield q => match st with
    | .ref a :: r => match h[a]? with
      | some (.inr (ci, fs)) => if ci = q / 64 then match fs[q % 64]? with
        | some v => some (.inl (pc + len, L, v :: r, h, c, s))
        | none => none
        else none
      | _ => none
    | _ => none
  | .putfield q => match st with
    | v :: .ref a :: r => match h[a]? with
      | some (.inr (ci, fs)) => if ci = q / 64 ∧ q % 64 < fs.length ∧ av_fit ((av_ty P ci).getD (q % 64) .float) v = true then some (.inl (pc + len, L, r, h.set a (.inr (ci, fs.set (q % 64) v)), c, s)) else none
      | _ => none
    | _ => none
  | .iaload => av_iaload P pc len L st h c s
  | .baload => match st with
    | .int i :: .ref a :: r => match h[a]? with
      | some (.inl (1, n, .inl f)) => if av_in i n then some (.inl (pc + len, L, .int (f i.toNatClampNeg) :: r, h, c, s)) else none
      | _ => none
    | _ => none
  | .laload => match st with
    | .int i :: .ref a :: r => match h[a]? with
      | some (.inl (2, n, .inr (.inl f))) => if av_in i n then some (.inl (pc + len, L, .long (f i.toNatClampNeg) :: r, h, c, s)) else none
      | _ => none
    | _ => none
  | .aaload => match st with
    | .int i :: .ref a :: r => match h[a]? with
      | some (.inl (3, n, .inr (.inr (.inr (.inr f))))) => if av_in i n then some (.inl (pc + len, L, va_rf (f i.toNatClampNeg) :: r, h, c, s)) else none
      | _ => none
    | _ => none
  | .iastore => match st with
    | .int x :: .int i :: .ref a :: r => match h[a]? with
      | some (.inl (0, n, .inl f)) => if av_in i n then some (.inl (pc + len, L, r, h.set a (.inl (0, n, .inl (upd f i.toNatClampNeg x))), c, s)) else none
      | _ => none
    | _ => none
  | .bastore => match st with
    | .int x :: .int i :: .ref a :: r => match h[a]? with
      | some (.inl (1, n, .inl f)) => if av_in i n then some (.inl (pc + len, L, r, h.set a (.inl (1, n, .inl (upd f i.toNatClampNeg (vp_nar .byte x)))), c, s)) else none
      | _ => none
    | _ => none
  | .lastore => match st with
    | .long x :: .int i :: .ref a :: r => match h[a]? with
      | some (.inl (2, n, .inr (.inl f))) => if av_in i n then some (.inl (pc + len, L, r, h.set a (.inl (2, n, .inr (.inl (vp_updL f i.toNatClampNeg x)))), c, s)) else none
      | _ => none
    | _ => none
  | .aastore => match st with
    | .ref b :: .int i :: .ref a :: r => match h[a]?, h[b]? with
      | some (.inl (3, n, .inr (.inr (.inr (.inr f))))), some (.inr (6, _)) => if av_in i n then some (.inl (pc + len, L, r, h.set a (.inl (3, n, .inr (.inr (.inr (.inr (va_up f i.toNatClampNeg (some b))))))), c, s)) else none
      | _, _ => none
    | _ => none
  | .arraylength => av_alen P pc len L st h c s
  | .newarray k => match st with
    | .int n :: r => if ¬ n < 0 ∧ n.toNatClampNeg ≤ 60000 then match av_newa k n.toNatClampNeg with
      | some e => some (.inl (pc + len, L, .ref h.length :: r, h ++ [e], c + 1, s + n.toNatClampNeg))
      | none => none
      else none
    | _ => none
  | .anewarray _ => match st with
    | .int n :: r => if ¬ n < 0 ∧ n.toNatClampNeg ≤ 60000 then some (.inl (pc + len, L, .ref h.length :: r, h ++ [.inl (3, n.toNatClampNeg, .inr (.inr (.inr (.inr (fun _ => none)))))], c + 1, s + n.toNatClampNeg)) else none
    | _ => none
  | .new ci => some (.inl (pc + len, L, .ref h.length :: st, h ++ [.inr (ci, (av_ty P ci).map av_def)], c + 1, s + (av_ty P ci).length))
  | .monitorenter => match st with
    | .ref _ :: r => if (r.map fun v => v.category).sum ≤ 8 then some (.inl (pc + len, L, r, h, c, s)) else none
    | _ => none
  | .invokedynamic 0 => av_copy pc len L st h c s
  | .invokedynamic 1 => match st with
    | .retAddr (a + 1) :: r => if (r.map fun v => v.category).sum ≤ 8 then some (.inl (pc + len, L, .int (Int32.ofNat (av_tx P a).length) :: r, h, c, s)) else none
    | _ => none
  | .invokedynamic 2 => match st with
    | .int i :: .retAddr (a + 1) :: r => if (r.map fun v => v.category).sum ≤ 8 ∧ av_in i (av_tx P a).length = true then some (.inl (pc + len, L, .int ((av_tx P a).getD i.toNatClampNeg 0) :: r, h, c, s)) else none
    | _ => none
  | .invokedynamic 3 => match st with
    | .ref a :: r => match h[a]? with
      | some (.inl (0, n, .inl f)) => if (r.map fun v => v.category).sum ≤ 8 ∧ n ≤ 60000 then some (.inl (pc + len, L, .ref h.length :: r, h ++ [.inl (0, n, .inl f)], c + 1, s + n)) else none
      | _ => none
    | _ => none
  | .checkcast _ => match st with
    | .ref a :: r => match h[a]? with
      | some (.inl (0, n, .inl _)) => some (.inl (pc + len, L, .ref a :: r, h, c, s))
      | _ => none
    | _ => none
  | .instanceof k => if (st.map fun v => v.category).sum ≤ 8 then some (.inr (.inr (.inr (av_th P k)))) else none
  | .ireturn => match st with
    | [.int x] => match (av_me P mi).2.2.2.1 with
      | some .int => some (.inr (.inl (some (.int x))))
      | some .boolean => if x = 0 ∨ x = 1 then some (.inr (.inl (some (.int x)))) else none
      | _ => none
    | _ => none
  | .areturn => match st with
    | [.ref x] => match (av_me P mi).2.2.2.1 with
      | some (.object _) => some (.inr (.inl (some (.ref x))))
      | some (.array _) => some (.inr (.inl (some (.ref x))))
      | _ => none
    | _ => none
  | .return_ => match st, (av_me P mi).2.2.2.1 with
    | [], none => some (.inr (.inl none))
    | _, _ => none
  | .invokestatic mj => let a := (av_me P mj).2.2.2.2.1
    if a ≤ st.length ∧ ((st.drop a).map fun v => v.category).sum ≤ 8 ∧ ((st.take a).all fun v => v.category == 1) = true then some (.inr (.inr (.inl (mj, (st.take a).reverse, st.drop a)))) else none
  | .invokevirtual mj => let a := (av_me P mj).2.2.2.2.1
    if a ≤ st.length ∧ ((st.drop a).map fun v => v.category).sum ≤ 8 ∧ ((st.take a).all fun v => v.category == 1) = true ∧ av_rcv h (av_me P mj).2.2.2.2.2.2.2.1 (st.take a).reverse = true then some (.inr (.inr (.inl (mj, (st.take a).reverse, st.drop a)))) else none
  | .invokespecial mj => let a := (av_me P mj).2.2.2.2.1
    if a ≤ st.length ∧ ((st.drop a).map fun v => v.category).sum ≤ 8 ∧ ((st.take a).all fun v => v.category == 1) = true ∧ av_isr (st.take a).reverse = true then some (.inr (.inr (.inl (mj, (st.take a).reverse, st.drop a)))) else none
  | _ => none
def av_stp (P : av_P) (mi pc : Nat) (L : av_L) (st : List Value) (h : av_H) (c s : Nat) : Option av_S := match av_op P mi pc with
  | some (ins, len, _) => av_one P mi pc ins len L st h c s
  | none => none
/-- the locals with which a method begins -/
def av_ent (P : av_P) (mj : Nat) (as : List Value) : av_L := as.map some ++ List.replicate ((av_me P mj).2.2.1 - as.length) none
/-- the classes that are thrown and caught -/
def av_es : List String := ["java/lang/IllegalArgumentException", "java/lang/IllegalStateException", "java/lang/IndexOutOfBoundsException", "java/lang/UnsupportedOperationException", "java/util/NoSuchElementException"]
/-- where a thrown E is caught: the first row over pc that names E -/
def av_hnd (pc : Nat) (E : String) : List (Nat × Nat × Nat × Nat) → List String → Option Nat
  | (a, b, t, _) :: hh, nm :: nms => if a ≤ pc ∧ pc < b ∧ nm = E then some t else av_hnd pc E hh nms
  | _, _ => none
/-- the machine: n steps at most, d calls deep at most -/
def av_rn (P : av_P) : Nat → Nat → Nat → Nat → av_L → List Value → av_H → Nat → Nat → Option av_R
  | 0, _, _, _, _, _, _, _, _ => none
  | n + 1, d, mi, pc, L, st, h, c, s => match av_stp P mi pc L st h c s with
    | none => none
    | some (.inl (pc', L', st', h', c', s')) => av_rn P n d mi pc' L' st' h' c' s'
    | some (.inr (.inl v)) => some (.inl v, h, c, s)
    | some (.inr (.inr (.inr E))) => some (.inr E, h, c + 1, s + 6)
    | some (.inr (.inr (.inl (mj, as, r)))) => match d with
      | 0 => none
      | d' + 1 => match av_rn P n d' mj 0 (av_ent P mj as) [] h 0 0 with
        | none => none
        | some (.inl v, h', c', s') => av_rn P n (d' + 1) mi (pc + 3) L (v.toList ++ r) h' (c + c') (s + s')
        | some (.inr E, h', c', s') => if (av_me P mj).2.2.2.2.2.2.2.2 = false then none else if (av_me P mi).2.2.2.2.2.1 = [] then some (.inr E, h', c + c', s + s') else if E ∉ av_es then none else match av_hnd pc E (av_me P mi).2.2.2.2.2.1 (av_me P mi).2.2.2.2.2.2.1 with
          | none => none
          | some t => match av_op P mi t with
            | some (.astore i, len, _) => if i < L.length then av_rn P n (d' + 1) mi (t + len) (L.set i none) [] h' (c + c') (s + s') else none
            | _ => none
end
section
/-! ===== WHAT THE ABSTRACT MACHINE SAYS OF THE REAL ONE ===== -/
/-- class names; fields (own, index, class, slot); methods (own, index, method); nest mates' methods; int constants; texts; classes that are made; the JDK's own (0 arraycopy, 1 length, 2 charAt, 3 Object's, 4 the class of rows of State, 5 clone of ints, 6 the class of ints) -/
abbrev av_K : Type := (Nat → String) × List (Nat × Nat × Nat × Nat) × List (Nat × Nat × Nat) × List (Nat × Nat × Nat) × List (Nat × Nat × Int) × List (Nat × Nat × Nat) × List (Nat × Nat × Nat) × List (Nat × Nat × Nat)
def av_cn (K : av_K) : Nat → String := K.1
def av_fl (K : av_K) : List (Nat × Nat × Nat × Nat) := K.2.1
def av_ml (K : av_K) : List (Nat × Nat × Nat) := K.2.2.1
def av_nl (K : av_K) : List (Nat × Nat × Nat) := K.2.2.2.1
def av_kl (K : av_K) : List (Nat × Nat × Int) := K.2.2.2.2.1
def av_sl (K : av_K) : List (Nat × Nat × Nat) := K.2.2.2.2.2.1
def av_kc (K : av_K) : List (Nat × Nat × Nat) := K.2.2.2.2.2.2.1
def av_jl (K : av_K) : List (Nat × Nat × Nat) := K.2.2.2.2.2.2.2
def av_fin (K : av_K) (cl : List vw_C) (oc : Nat) (ini : Bool) (ci k : Nat) : Bool := match cl[ci]? with
  | some (_, T, _) => decide ((T k).2.2.2 = false) || (ini && decide ((T k).1 = av_cn K oc))
  | none => false
/-- the op at pc says what the bytes say (calls, throws and ends apart) -/
def av_ok (K : av_K) (cl : List vw_C) (oc : Nat) (ini : Bool) (cc : ByteArray) (pc : Nat) (ins : Instr) (len ix : Nat) : Bool := match ins with
  | .sipush v => (decide (len = 1) && decide (decode cc pc = .ok (.iconst v, 1))) || (decide (len = 2) && decide (decode cc pc = .ok (.bipush v, 2)) && decide ((Int8.ofInt v).toInt32 = Int32.ofInt v)) || (decide (len = 3) && decide (decode cc pc = .ok (.sipush v, 3)) && decide ((Int16.ofInt v).toInt32 = Int32.ofInt v)) || (decide (len = 2) && decide (decode cc pc = .ok (.ldc ix, 2)) && decide ((oc, ix, v) ∈ av_kl K)) || (decide (len = 3) && decide (decode cc pc = .ok (.ldc_w ix, 3)) && decide ((oc, ix, v) ∈ av_kl K))
  | .lconst n => decide (len = 1) && decide (decode cc pc = .ok (.lconst n, 1))
  | .ldc i => ((decide (len = 2) && decide (decode cc pc = .ok (.ldc ix, 2))) || (decide (len = 3) && decide (decode cc pc = .ok (.ldc_w ix, 3)))) && decide ((oc, ix, i) ∈ av_sl K)
  | .iload i => (decide (len = 2) && decide (decode cc pc = .ok (.iload i, 2))) || (decide (len = 1) && decide (i < 4) && decide (decode cc pc = .ok (.iload_n (Fin.ofNat 4 i), 1)))
  | .aload i => (decide (len = 2) && decide (decode cc pc = .ok (.aload i, 2))) || (decide (len = 1) && decide (i < 4) && decide (decode cc pc = .ok (.aload_n (Fin.ofNat 4 i), 1)))
  | .istore i => (decide (len = 2) && decide (decode cc pc = .ok (.istore i, 2))) || (decide (len = 1) && decide (i < 4) && decide (decode cc pc = .ok (.istore_n (Fin.ofNat 4 i), 1)))
  | .astore i => (decide (len = 2) && decide (decode cc pc = .ok (.astore i, 2))) || (decide (len = 1) && decide (i < 4) && decide (decode cc pc = .ok (.astore_n (Fin.ofNat 4 i), 1)))
  | .iinc i n => decide (len = 3) && decide (decode cc pc = .ok (.iinc i n, 3))
  | .if_icmp k t => decide (len = 3) && decide (0 ≤ t) && decide (decode cc pc = .ok (.if_icmp k (t - pc), 3))
  | .ifCond k t => decide (len = 3) && decide (0 ≤ t) && decide (decode cc pc = .ok (.ifCond k (t - pc), 3))
  | .ifnonnull t => decide (len = 3) && decide (0 ≤ t) && decide (decode cc pc = .ok (.ifnonnull (t - pc), 3))
  | .goto t => decide (len = 3) && decide (0 ≤ t) && decide (decode cc pc = .ok (.goto (t - pc), 3))
  | .tableswitch d lo hi ts => decide (0 ≤ d) && ts.all (fun t => decide (0 ≤ t)) && decide (decode cc pc = .ok (.tableswitch (d - pc) lo hi (ts.map (fun t => t - pc)), len))
  | .getfield q => decide (len = 3) && decide (decode cc pc = .ok (.getfield ix, 3)) && decide ((oc, ix, q / 64, q % 64) ∈ av_fl K)
  | .putfield q => decide (len = 3) && decide (decode cc pc = .ok (.putfield ix, 3)) && decide ((oc, ix, q / 64, q % 64) ∈ av_fl K) && av_fin K cl oc ini (q / 64) (q % 64)
  | .newarray k => decide (len = 2) && decide (decode cc pc = .ok (.newarray k, 2))
  | .anewarray _ => decide (len = 3) && decide (decode cc pc = .ok (.anewarray ix, 3)) && decide ((oc, ix, 4) ∈ av_jl K)
  | .new ci => decide (len = 3) && decide (decode cc pc = .ok (.new ix, 3)) && decide ((oc, ix, ci) ∈ av_kc K)
  | .monitorenter => decide (len = 3) && decide (decode cc pc = .ok (.invokespecial ix, 3)) && decide ((oc, ix, 3) ∈ av_jl K)
  | .invokedynamic 0 => decide (len = 3) && decide (decode cc pc = .ok (.invokestatic ix, 3)) && decide ((oc, ix, 0) ∈ av_jl K)
  | .invokedynamic 1 => decide (len = 3) && decide (decode cc pc = .ok (.invokevirtual ix, 3)) && decide ((oc, ix, 1) ∈ av_jl K)
  | .invokedynamic 2 => decide (len = 3) && decide (decode cc pc = .ok (.invokevirtual ix, 3)) && decide ((oc, ix, 2) ∈ av_jl K)
  | .invokedynamic 3 => decide (len = 3) && decide (decode cc pc = .ok (.invokevirtual ix, 3)) && decide ((oc, ix, 5) ∈ av_jl K)
  | .checkcast _ => decide (len = 3) && decide (decode cc pc = .ok (.checkcast ix, 3)) && decide ((oc, ix, 6) ∈ av_jl K)
  | i => decide (len = 1) && decide (decode cc pc = .ok (i, 1))
/-- values, cells, worlds: a number stands for the address that σ gives it, a text or the script for that of τ -/
def av_v (σ τ : Nat → Nat) : Value → Value
  | .ref a => .ref (σ a)
  | .retAddr a => .ref (τ a)
  | v => v
def av_e (cy σ τ : Nat → Nat) : va_E → va_E
  | .inl (t, n, .inr (.inr (.inr (.inr f)))) => .inl (cy t, n, .inr (.inr (.inr (.inr (fun j => (f j).map σ)))))
  | .inl (t, n, x) => .inl (cy t, n, x)
  | .inr (ci, fs) => .inr (ci, fs.map (av_v σ τ))
def av_ws (cy σ τ : Nat → Nat) (h : av_H) : va_W := h.mapIdx fun k e => (σ k, av_e cy σ τ e)
def av_wv (n : Nat) : Value → Prop
  | .ref a => a < n
  | _ => True
def av_we (n : Nat) : va_E → Prop
  | .inl (_, _, .inr (.inr (.inr (.inr f)))) => ∀ j a, f j = some a → a < n
  | .inl _ => True
  | .inr (_, fs) => ∀ v ∈ fs, av_wv n v
def av_lv (σ τ : Nat → Nat) (L : av_L) : List (Nat × Value) := (List.range L.length).filterMap fun i => match L[i]? with
  | some (some v) => some (i, av_v σ τ v)
  | _ => none
theorem av_v_cat (σ τ : Nat → Nat) (v : Value) : (av_v σ τ v).category = v.category := by cases v <;> rfl
theorem av_ws_get {cy σ τ : Nat → Nat} {h : av_H} {k : Nat} {e : va_E} (hk : h[k]? = some e) : (av_ws cy σ τ h)[k]? = some (σ k, av_e cy σ τ e) := by
  simp [av_ws, List.getElem?_mapIdx, hk]
theorem av_ws_set {cy σ τ : Nat → Nat} {h : av_H} {k : Nat} {e : va_E} : av_ws cy σ τ (h.set k e) = (av_ws cy σ τ h).set k (σ k, av_e cy σ τ e) := by
  apply List.ext_getElem?
  intro j
  simp only [av_ws, List.getElem?_mapIdx, List.getElem?_set, List.length_mapIdx]
  by_cases hj : k = j
  · subst hj
    by_cases hl : k < h.length <;> simp [hl]
  · simp [hj]
theorem av_ws_app {cy σ τ : Nat → Nat} {h : av_H} {e : va_E} : av_ws cy σ τ (h ++ [e]) = av_ws cy σ τ h ++ [(σ h.length, av_e cy σ τ e)] := by
  simp [av_ws, List.mapIdx_append]
theorem av_v_ext {σ σ' τ : Nat → Nat} {n : Nat} (hσ : ∀ k, k < n → σ' k = σ k) {v : Value} (hv : av_wv n v) : av_v σ' τ v = av_v σ τ v := by
  cases v <;> simp_all [av_v, av_wv]
theorem av_e_ext {cy σ σ' τ : Nat → Nat} {n : Nat} (hσ : ∀ k, k < n → σ' k = σ k) {e : va_E} (he : av_we n e) : av_e cy σ' τ e = av_e cy σ τ e := by
  rcases e with ⟨t, m, x⟩ | ⟨ci, fs⟩
  · rcases x with f | f | f | f | f
    · rfl
    · rfl
    · rfl
    · rfl
    · simp only [av_e]
      have : (fun j => (f j).map σ') = fun j => (f j).map σ := by
        funext j
        cases hj : f j with
        | none => rfl
        | some a => simp [hσ a (he j a hj)]
      rw [this]
  · simp only [av_e]
    rw [List.map_congr_left (fun v hv => av_v_ext hσ (he v hv))]
theorem av_ws_ext {cy σ σ' τ : Nat → Nat} {h : av_H} (hσ : ∀ k, k < h.length → σ' k = σ k) (he : ∀ e ∈ h, av_we h.length e) : av_ws cy σ' τ h = av_ws cy σ τ h := by
  apply List.ext_getElem?
  intro j
  simp only [av_ws, List.getElem?_mapIdx]
  cases hj : h[j]? with
  | none => rfl
  | some e =>
    have h1 : j < h.length := (List.getElem?_eq_some_iff.mp hj).1
    simp [hσ j h1, av_e_ext hσ (he e (List.mem_of_getElem? hj))]
theorem av_wv_le {n n' : Nat} (hn : n ≤ n') {v : Value} (h : av_wv n v) : av_wv n' v := by
  cases v with
  | ref a => exact Nat.lt_of_lt_of_le h hn
  | _ => trivial
theorem av_we_le {n n' : Nat} (hn : n ≤ n') {e : va_E} (h : av_we n e) : av_we n' e := by
  rcases e with ⟨t, m, x⟩ | ⟨ci, fs⟩
  · rcases x with f | f | f | f | f
    · trivial
    · trivial
    · trivial
    · trivial
    · exact fun j a hj => Nat.lt_of_lt_of_le (h j a hj) hn
  · exact fun v hv => av_wv_le hn (h v hv)
theorem av_lv_mem {σ τ : Nat → Nat} {L : av_L} {q : Nat × Value} : q ∈ av_lv σ τ L ↔ ∃ v, L[q.1]? = some (some v) ∧ q.2 = av_v σ τ v := by
  obtain ⟨i, w⟩ := q
  simp only [av_lv, List.mem_filterMap, List.mem_range]
  constructor
  · rintro ⟨j, hj, h⟩
    split at h
    · next v hv => cases h; exact ⟨v, hv, rfl⟩
    · cases h
  · rintro ⟨v, hv, rfl⟩
    exact ⟨i, (List.getElem?_eq_some_iff.mp hv).1, by rw [hv]⟩
theorem av_lv_ext {σ σ' τ : Nat → Nat} {L : av_L} {n : Nat} (hσ : ∀ k, k < n → σ' k = σ k) (hL : ∀ (i : Nat) (v : Value), L[i]? = some (some v) → v.category = 1 ∧ av_wv n v) {ls : Array Slot} {nL : Nat} (h : lv_has ls nL (av_lv σ τ L)) : lv_has ls nL (av_lv σ' τ L) := by
  refine ⟨h.1, h.2.1, fun q hq => ?_⟩
  obtain ⟨v, hv, e⟩ := av_lv_mem.mp hq
  rw [e, av_v_ext hσ (hL _ v hv).2]
  exact h.2.2 (q.1, av_v σ τ v) (av_lv_mem.mpr ⟨v, hv, rfl⟩)
/-- what goes on from state to state: the locals, the stack, the cells -/
def av_Rel (cy τ : Nat → Nat) (D : va_G) (cl : List vw_C) (A : Nat → Prop) (H0 : Heap) (σ0 : Nat → Nat) (n0 nL : Nat) (σ : Nat → Nat) (L : av_L) (st : List Value) (h : av_H) (ls : Array Slot) (H : Heap) (locs : List Loc) : Prop :=
  (∀ k, k < n0 → σ k = σ0 k) ∧ n0 ≤ h.length ∧ (L.length = nL ∧ lv_has ls nL (av_lv σ τ L)) ∧ (∀ (i : Nat) (v : Value), L[i]? = some (some v) → v.category = 1 ∧ av_wv h.length v) ∧ (∀ v ∈ st, av_wv h.length v) ∧ (∀ e ∈ h, av_we h.length e) ∧
  va_P D cl (av_ws cy σ τ h) H ∧ va_D A (av_ws cy σ τ h) ∧ va_S A H0 H locs
theorem av_get {cy τ : Nat → Nat} {D : va_G} {cl : List vw_C} {A : Nat → Prop} {H0 : Heap} {σ0 : Nat → Nat} {n0 nL : Nat} {σ : Nat → Nat} {L : av_L} {st : List Value} {h : av_H} {ls : Array Slot} {H : Heap} {locs : List Loc} (r : av_Rel cy τ D cl A H0 σ0 n0 nL σ L st h ls H locs) {i : Nat} {v : Value} (hv : L[i]? = some (some v)) : ls[i]? = some (.val (av_v σ τ v)) :=
  r.2.2.1.2.2.2 (i, av_v σ τ v) (av_lv_mem.mpr ⟨v, hv, rfl⟩)
end
section
/-! ===== ONE INSTRUCTION ===== -/
def av_tys (cy : Nat → Nat) : List (ClassId × FieldType) := [(cy 0, .int), (cy 1, .byte), (cy 2, .long), (cy 3, .object "SinglesPast$State")]
/-- what the tables say, once for all -/
def av_Env (P : av_P) (K : av_K) (Ts : List Cond) (cl : List vw_C) : Prop :=
  (∀ (ci : Nat) (C : String) (T : u_T) (N : Nat), cl[ci]? = some (C, T, N) → (∀ w ∈ u_ws C T N, w ∈ Ts) ∧ (∀ k, k < N → parseFieldDescriptor (T k).2.2.1 = some ((av_ty P ci).getD k .float)) ∧ (∀ a, a < N → ∀ b, b < N → a ≠ b → (T a).2.1 ≠ (T b).2.1) ∧ (av_ty P ci).length = N ∧ Cond.instantiable C N ∈ Ts ∧ Cond.initialized C ∈ Ts) ∧
  (∀ q ∈ av_fl K, ∃ (C : String) (T : u_T) (N : Nat), cl[q.2.2.1]? = some (C, T, N) ∧ q.2.2.2 < N ∧ Cond.fieldLink (av_cn K q.1) q.2.1 (T q.2.2.2).1 (T q.2.2.2).2.1 (T q.2.2.2).2.2.1 ∈ Ts) ∧
  (∀ q ∈ av_kl K, Cond.constant (av_cn K q.1) q.2.1 (Int32.ofInt q.2.2) ∈ Ts) ∧
  (∀ q ∈ av_kc K, ∃ (C : String) (T : u_T) (N : Nat), cl[q.2.2]? = some (C, T, N) ∧ Cond.classLink (av_cn K q.1) q.2.1 C ∈ Ts) ∧
  (∀ q ∈ av_jl K, (q.2.2 = 0 → Cond.methodLink (av_cn K q.1) q.2.1 arraycopyName ∈ Ts) ∧ (q.2.2 = 3 → Cond.methodLink (av_cn K q.1) q.2.1 Lib.objectInit ∈ Ts) ∧ (q.2.2 = 4 → Cond.classLink (av_cn K q.1) q.2.1 "SinglesPast$State" ∈ Ts)) ∧
  ((∀ q ∈ av_jl K, (q.2.2 = 5 → Cond.methodLink (av_cn K q.1) q.2.1 ⟨"[I", "clone", "()Ljava/lang/Object;"⟩ ∈ Ts) ∧ (q.2.2 = 6 → Cond.classLink (av_cn K q.1) q.2.1 "[I" ∈ Ts)) ∧ Cond.sameMethod "[I" "java/lang/Object" "clone" "()Ljava/lang/Object;" ∈ Ts ∧ Cond.native ⟨"java/lang/Object", "clone", "()Ljava/lang/Object;"⟩ ∈ Ts ∧ Cond.instanceMethod ⟨"java/lang/Object", "clone", "()Ljava/lang/Object;"⟩ ∈ Ts ∧ Cond.selects "[I" ⟨"[I", "clone", "()Ljava/lang/Object;"⟩ ⟨"java/lang/Object", "clone", "()Ljava/lang/Object;"⟩ ∈ Ts) ∧
  (Cond.native arraycopyName ∈ Ts ∧ Cond.static arraycopyName ∈ Ts ∧ Cond.initialized "java/lang/System" ∈ Ts) ∧ (Cond.instanceMethod Lib.objectInit ∈ Ts ∧ Cond.code Lib.objectInit ⟨#[0xb1]⟩ 1 none ∈ Ts) ∧
  (Cond.arrayClass .int ∈ Ts ∧ Cond.arrayClass .byte ∈ Ts ∧ Cond.arrayClass .long ∈ Ts) ∧ cl[6]?.map (fun r => r.1) = some "SinglesPast$State"
/-- the texts and the script at a method's start -/
def av_Old (P : av_P) (K : av_K) (τ : Nat → Nat) (A : Nat → Prop) (s : State) : Prop :=
  (∀ q ∈ av_sl K, ∃ tx : String, vk_R (av_cn K q.1) q.2.1 tx (τ (q.2.2 + 1)) s) ∧ (va_X (τ 0) (av_nx P) (av_xs P) s s.heap ∧ τ 0 < s.heap.size ∧ ¬ A (τ 0)) ∧ va_AO "SinglesPast$State" s ∧ va_Nw (.castable "[I" "java/lang/Cloneable") s
section SD
variable {P : av_P} {K : av_K} {Ts : List Cond} {cl : List vw_C} {cy τ : Nat → Nat} {D : va_G} {A : Nat → Prop} {σ0 σ : Nat → Nat} {n0 nL oc mi pc : Nat} {ini : Bool} {cc : ByteArray}
variable {p : Program} {l : Launch} {e : Env} {R : Room} {s : State} {m : MethodId} {args : Array Value} {below : List Frame} {meth : Method} {c : Code} {H : Heap} {locs : List Loc} {cells slots : Nat} {Q : State → Prop} {ls : Array Slot}
variable {L L' : av_L} {st st' : List Value} {h h' : av_H} {pc' cells' slots' : Nat}
/-- what stays in a method -/
def av_Fix (P : av_P) (K : av_K) (Ts : List Cond) (cl : List vw_C) (cy τ : Nat → Nat) (D : va_G) (A : Nat → Prop) (nL oc : Nat) (ini : Bool) (cc : ByteArray) (p : Program) (R : Room) (s : State) (m : MethodId) (args : Array Value) (meth : Method) (c : Code) : Prop :=
  (p.tables.exec = Jvm.exec ∧ c.code = cc ∧ c.maxLocals = nL ∧ s.vm.findClass (av_cn K oc) = some m.cls) ∧ (∀ w ∈ Ts, w.before args s = true) ∧ (ini = true → meth.name = "<init>") ∧ va_K D cl (av_tys cy) s ∧ (∀ q, s.heap.size ≤ q → A q) ∧ av_Old P K τ A s ∧ (20 ≤ R.frames ∧ 400 ≤ R.locals)
/-- the texts' two methods, as steps -/
def av_Str (P : av_P) (K : av_K) (τ : Nat → Nat) (A : Nat → Prop) (oc : Nat) (cc : ByteArray) (p : Program) (l : Launch) (e : Env) (R : Room) (s : State) (m : MethodId) (args : Array Value) (below : List Frame) (meth : Method) (c : Code) (Q : State → Prop) (nL : Nat) : Prop :=
  (∀ (pc ix a : Nat) (ls : Array Slot) (rest : List Value) (H : Heap) (locs : List Loc) (cells slots : Nat), decode cc pc = .ok (.invokevirtual ix, 3) → (oc, ix, 1) ∈ av_jl K → ls.size = nL → va_S A s.heap H locs → (rest.map fun v => v.category).sum ≤ 8 → cells ≤ R.cells → slots ≤ R.slots →
    W p l e R s m args below meth c H locs cells slots Q (F0 m (pc + 3) ls (.int (Int32.ofNat (av_tx P a).length) :: rest)) → W p l e R s m args below meth c H locs cells slots Q (F0 m pc ls (.ref (τ (a + 1)) :: rest))) ∧
  (∀ (pc ix a : Nat) (i : Int32) (ls : Array Slot) (rest : List Value) (H : Heap) (locs : List Loc) (cells slots : Nat), decode cc pc = .ok (.invokevirtual ix, 3) → (oc, ix, 2) ∈ av_jl K → ls.size = nL → va_S A s.heap H locs → (rest.map fun v => v.category).sum ≤ 8 → cells ≤ R.cells → slots ≤ R.slots → av_in i (av_tx P a).length = true →
    W p l e R s m args below meth c H locs cells slots Q (F0 m (pc + 3) ls (.int ((av_tx P a).getD i.toNatClampNeg 0) :: rest)) → W p l e R s m args below meth c H locs cells slots Q (F0 m pc ls (.int i :: .ref (τ (a + 1)) :: rest)))
theorem av_in_iff {i : Int32} {n : Nat} (h : av_in i n = true) : vp_in i n := by
  simp only [av_in, Bool.and_eq_true, decide_eq_true_eq] at h
  rintro (h1 | h1)
  · exact h.1 h1
  · omega
theorem av_cats (σ τ : Nat → Nat) (r : List Value) : ((r.map (av_v σ τ)).map fun v => v.category).sum = (r.map fun v => v.category).sum := by
  rw [List.map_map]
  congr 1
  exact List.map_congr_left fun v _ => av_v_cat σ τ v
/-- the stack changes alone -/
theorem av_Rel.stk (r : av_Rel cy τ D cl A s.heap σ0 n0 nL σ L st h ls H locs) (hs : ∀ v ∈ st', av_wv h.length v) : av_Rel cy τ D cl A s.heap σ0 n0 nL σ L st' h ls H locs :=
  ⟨r.1, r.2.1, r.2.2.1, r.2.2.2.1, hs, r.2.2.2.2.2⟩
theorem av_Rel.store (r : av_Rel cy τ D cl A s.heap σ0 n0 nL σ L st h ls H locs) {i : Nat} {v : Value} (hc : v.category = 1) (hv : av_wv h.length v) (hs : ∀ v ∈ st', av_wv h.length v) {ls' : Array Slot}
    (hl : lv_has ls' nL ((i, av_v σ τ v) :: (av_lv σ τ L).filter (fun q => !(q.1 == i) && !(q.1 + 1 == i && q.2.category == 2)))) : av_Rel cy τ D cl A s.heap σ0 n0 nL σ (L.set i (some v)) st' h ls' H locs := by
  refine ⟨r.1, r.2.1, ⟨by rw [List.length_set]; exact r.2.2.1.1, hl.1, hl.2.1, fun q hq => ?_⟩, fun j w hw => ?_, hs, r.2.2.2.2.2⟩
  · obtain ⟨w, hw, e⟩ := av_lv_mem.mp hq
    refine hl.2.2 q ?_
    rw [List.getElem?_set] at hw
    by_cases hj : i = q.1
    · rw [if_pos hj] at hw
      split at hw
      · cases hw
        refine List.mem_cons.mpr (Or.inl ?_)
        rw [hj, ← e]
      · cases hw
    · rw [if_neg hj] at hw
      refine List.mem_cons.mpr (Or.inr (List.mem_filter.mpr ⟨av_lv_mem.mpr ⟨w, hw, e⟩, ?_⟩))
      have h1 : q.2.category = 1 := by rw [e, av_v_cat]; exact (r.2.2.2.1 _ w hw).1
      simp [h1]
      exact fun z => hj z.symm
  · rw [List.getElem?_set] at hw
    split at hw
    · split at hw
      · cases hw
        exact ⟨hc, hv⟩
      · cases hw
    · exact r.2.2.2.1 j w hw
/-- a cell changes -/
theorem av_Rel.cell (r : av_Rel cy τ D cl A s.heap σ0 n0 nL σ L st h ls H locs) {a : Nat} {x : va_E} (hx : av_we h.length x) (hs : ∀ v ∈ st', av_wv h.length v) {H1 : Heap} {locs1 : List Loc}
    (hP : va_P D cl ((av_ws cy σ τ h).set a (σ a, av_e cy σ τ x)) H1) (hD : va_D A ((av_ws cy σ τ h).set a (σ a, av_e cy σ τ x))) (hS : va_S A s.heap H1 locs1) : av_Rel cy τ D cl A s.heap σ0 n0 nL σ L st' (h.set a x) ls H1 locs1 := by
  rw [← av_ws_set] at hP hD
  refine ⟨r.1, by rw [List.length_set]; exact r.2.1, r.2.2.1, by rw [List.length_set]; exact r.2.2.2.1, by rw [List.length_set]; exact hs, fun y hy => ?_, hP, hD, hS⟩
  rw [List.length_set]
  rcases List.mem_or_eq_of_mem_set hy with h1 | h1
  · exact r.2.2.2.2.2.1 y h1
  · rw [h1]; exact hx
/-- a cell is made -/
theorem av_Rel.make (r : av_Rel cy τ D cl A s.heap σ0 n0 nL σ L st h ls H locs) {q : Nat} {x y : va_E} (hx : av_we h.length x) (hs : ∀ v ∈ st', av_wv (h.length + 1) v) (hxy : ∀ σ', av_e cy σ' τ x = y) {H1 : Heap} {locs1 : List Loc}
    (hP : va_P D cl (av_ws cy σ τ h ++ [(q, y)]) H1) (hD : va_D A (av_ws cy σ τ h ++ [(q, y)])) (hS : va_S A s.heap H1 locs1) :
    ∃ σ', (∀ k, k < h.length → σ' k = σ k) ∧ σ' h.length = q ∧ av_Rel cy τ D cl A s.heap σ0 n0 nL σ' L st' (h ++ [x]) ls H1 locs1 := by
  have hσ : ∀ k, k < h.length → (fun k => if k = h.length then q else σ k) k = σ k := fun k hk => if_neg (Nat.ne_of_lt hk)
  refine ⟨fun k => if k = h.length then q else σ k, hσ, if_pos rfl, fun k hk => (hσ k (Nat.lt_of_lt_of_le hk r.2.1)).trans (r.1 k hk), by rw [List.length_append]; exact Nat.le_trans r.2.1 (Nat.le_add_right _ _), ⟨r.2.2.1.1, av_lv_ext hσ r.2.2.2.1 r.2.2.1.2⟩, fun i v hv => ⟨(r.2.2.2.1 i v hv).1, ?_⟩, by simpa using hs, fun z hz => ?_, ?_, ?_, hS⟩
  · exact av_wv_le (by simp) (r.2.2.2.1 i v hv).2
  · rcases List.mem_append.mp hz with h1 | h1
    · exact av_we_le (by simp) (r.2.2.2.2.2.1 z h1)
    · rw [List.mem_singleton.mp h1]; exact av_we_le (by simp) hx
  · rw [av_ws_app, av_ws_ext hσ r.2.2.2.2.2.1, hxy]
    simpa using hP
  · rw [av_ws_app, av_ws_ext hσ r.2.2.2.2.2.1, hxy]
    simpa using hD
end SD
end
section
/-! ===== ONE INSTRUCTION OF THE ABSTRACT MACHINE IS ONE OF THE REAL ONE ===== -/
section SE
variable {P : av_P} {K : av_K} {Ts : List Cond} {cl : List vw_C} {cy τ : Nat → Nat} {D : va_G} {A : Nat → Prop} {σ0 σ : Nat → Nat} {n0 nL oc mi pc : Nat} {ini : Bool} {cc : ByteArray}
variable {p : Program} {l : Launch} {e : Env} {R : Room} {s : State} {m : MethodId} {args : Array Value} {below : List Frame} {meth : Method} {c : Code} {H : Heap} {locs : List Loc} {cells slots : Nat} {Q : State → Prop} {ls : Array Slot}
variable {L L' : av_L} {st st' : List Value} {h h' : av_H} {pc' cells' slots' : Nat}
/-- the goal of a step: from all that the next state may be -/
def av_K1 (cy τ : Nat → Nat) (D : va_G) (cl : List vw_C) (A : Nat → Prop) (σ0 : Nat → Nat) (n0 nL : Nat) (p : Program) (l : Launch) (e : Env) (R : Room) (s : State) (m : MethodId) (args : Array Value) (below : List Frame) (meth : Method) (c : Code) (Q : State → Prop) (pc' : Nat) (L' : av_L) (st' : List Value) (h' : av_H) (cells' slots' : Nat) : Prop :=
  ∀ (σ' : Nat → Nat) (ls' : Array Slot) (H' : Heap) (locs' : List Loc), av_Rel cy τ D cl A s.heap σ0 n0 nL σ' L' st' h' ls' H' locs' → W p l e R s m args below meth c H' locs' cells' slots' Q (F0 m pc' ls' (st'.map (av_v σ' τ)))
theorem sd_bin (r : av_Rel cy τ D cl A s.heap σ0 n0 nL σ L st h ls H locs) {f : Int32 → Int32 → Option Int32} {len : Nat} (hs : av_bin pc len L st h cells slots f = some (.inl (pc', L', st', h', cells', slots')))
    (kk : av_K1 cy τ D cl A σ0 n0 nL p l e R s m args below meth c Q pc' L' st' h' cells' slots')
    (row : ∀ (x y z : Int32) (rest : List Value), f x y = some z → W p l e R s m args below meth c H locs cells slots Q (F0 m (pc + len) ls (.int z :: rest)) → W p l e R s m args below meth c H locs cells slots Q (F0 m pc ls (.int y :: .int x :: rest))) :
    W p l e R s m args below meth c H locs cells slots Q (F0 m pc ls (st.map (av_v σ τ))) := by
  unfold av_bin at hs
  split at hs
  · next y x r0 =>
    split at hs
    · next z hz =>
      cases hs
      exact row x y z _ hz (kk σ ls H locs (r.stk (fun v hv => by
        rcases List.mem_cons.mp hv with h1 | h1
        · rw [h1]; trivial
        · exact r.2.2.2.2.1 v (List.mem_cons_of_mem _ (List.mem_cons_of_mem _ h1)))))
    · cases hs
  · cases hs
theorem sd_icmp {k : Jvm.ClassFile.Cond} {t : Int} (hx : p.tables.exec = Jvm.exec) (hb : c.code = cc) (ht : 0 ≤ t) (hd : decode cc pc = .ok (.if_icmp k (t - pc), 3)) {x y : Int32} {rest : List Value}
    (kt : av_cmp k x y = true → W p l e R s m args below meth c H locs cells slots Q (F0 m t.toNat ls rest)) (kf : ¬ av_cmp k x y = true → W p l e R s m args below meth c H locs cells slots Q (F0 m (pc + 3) ls rest)) :
    W p l e R s m args below meth c H locs cells slots Q (F0 m pc ls (.int y :: .int x :: rest)) := by
  have h1 : (pc : Int) + (t - pc) = (t.toNat : Int) := by omega
  cases k with
  | eq => exact lv_icmp_eq hx hb hd h1 (fun z => kt (by simp [av_cmp, z])) (fun z => kf (by simpa [av_cmp] using z))
  | ne => exact lv_icmp_ne hx hb hd h1 (fun z => kt (by simpa [av_cmp] using z)) (fun z => kf (by simpa [av_cmp] using z))
  | lt => exact lv_icmp_lt hx hb hd h1 (fun z => kt (by simpa [av_cmp] using z)) (fun z => kf (by simpa [av_cmp] using z))
  | ge => exact lv_icmp_ge hx hb hd h1 (fun z => kt (by simpa [av_cmp] using z)) (fun z => kf (by simpa [av_cmp] using z))
  | gt => exact lv_icmp_gt hx hb hd h1 (fun z => kt (by simpa [av_cmp] using z)) (fun z => kf (by simpa [av_cmp] using z))
  | le => exact lv_icmp_le hx hb hd h1 (fun z => kt (by simpa [av_cmp] using z)) (fun z => kf (by simpa [av_cmp] using z))
theorem sd_if {k : Jvm.ClassFile.Cond} {t : Int} (hx : p.tables.exec = Jvm.exec) (hb : c.code = cc) (ht : 0 ≤ t) (hd : decode cc pc = .ok (.ifCond k (t - pc), 3)) {x : Int32} {rest : List Value}
    (kt : av_cmp k x 0 = true → W p l e R s m args below meth c H locs cells slots Q (F0 m t.toNat ls rest)) (kf : ¬ av_cmp k x 0 = true → W p l e R s m args below meth c H locs cells slots Q (F0 m (pc + 3) ls rest)) :
    W p l e R s m args below meth c H locs cells slots Q (F0 m pc ls (.int x :: rest)) := by
  have h1 : (pc : Int) + (t - pc) = (t.toNat : Int) := by omega
  cases k with
  | eq => exact lv_if_eq hx hb hd h1 (fun z => kt (by simp [av_cmp, z])) (fun z => kf (by simpa [av_cmp] using z))
  | ne => exact lv_if_ne hx hb hd h1 (fun z => kt (by simpa [av_cmp] using z)) (fun z => kf (by simpa [av_cmp] using z))
  | lt => exact lv_if_lt hx hb hd h1 (fun z => kt (by simpa [av_cmp] using z)) (fun z => kf (by simpa [av_cmp] using z))
  | ge => exact lv_if_ge hx hb hd h1 (fun z => kt (by simpa [av_cmp] using z)) (fun z => kf (by simpa [av_cmp] using z))
  | gt => exact lv_if_gt hx hb hd h1 (fun z => kt (by simpa [av_cmp] using z)) (fun z => kf (by simpa [av_cmp] using z))
  | le => exact lv_if_le hx hb hd h1 (fun z => kt (by simpa [av_cmp] using z)) (fun z => kf (by simpa [av_cmp] using z))
theorem sd_ld (r : av_Rel cy τ D cl A s.heap σ0 n0 nL σ L st h ls H locs) {v : Value} (hv : av_wv h.length v) {len : Nat} (kk : av_K1 cy τ D cl A σ0 n0 nL p l e R s m args below meth c Q (pc + len) L (v :: st) h cells slots)
    (row : W p l e R s m args below meth c H locs cells slots Q (F0 m (pc + len) ls (av_v σ τ v :: st.map (av_v σ τ))) → W p l e R s m args below meth c H locs cells slots Q (F0 m pc ls (st.map (av_v σ τ)))) :
    W p l e R s m args below meth c H locs cells slots Q (F0 m pc ls (st.map (av_v σ τ))) :=
  row (kk σ ls H locs (r.stk (fun w hw => by
    rcases List.mem_cons.mp hw with h1 | h1
    · rw [h1]; exact hv
    · exact r.2.2.2.2.1 w h1)))
/-- a text by a wide index -/
theorem sd_ldcw (hx : p.tables.exec = Jvm.exec) (hb : c.code = cc) {own tx : String} {index q : Nat} (hown : s.vm.findClass own = some m.cls) (hZ : vk_R own index tx q s) {rest : List Value} (hd : decode cc pc = .ok (.ldc_w index, 3))
    (k : W p l e R s m args below meth c H locs cells slots Q (F0 m (pc + 3) ls (.ref q :: rest))) : W p l e R s m args below meth c H locs cells slots Q (F0 m pc ls rest) := by
  intro T hT X
  obtain ⟨t, a1, b1⟩ := k T hT X
  refine ⟨t, ?_, b1⟩
  obtain ⟨k1, cf, i, a', hk, hcf, hcp, -, hr, hev'⟩ := Cond.stringRef_spec (args := #[]) hown hZ.1
  cases hZ.2.symm.trans hev'
  obtain ⟨k', hk', he⟩ := X.warmed.alike.2.2 _ _ hk
  have hr' : k'.resolved[index]? = some (some (.string q)) := by
    rcases X.warmed.entry hk hk' index with h1 | ⟨h1, -⟩
    · rw [h1]; exact hr
    · rw [hr] at h1; cases h1
  have hd' : decode c.code pc = .ok (.ldc_w index, 3) := by rw [hb]; exact hd
  jvm_step X.here [hx, hd', ldc_w.wp_string (e := e) (s := T) (f := F0 m pc ls rest) X.here.top hk' (by rw [he]; exact hcf) hcp hr']
  exact a1
theorem av_tl {n : Nat} {v : Value} {r : List Value} (h : ∀ w ∈ v :: r, av_wv n w) : ∀ w ∈ r, av_wv n w := fun w hw => h w (List.mem_cons_of_mem _ hw)
theorem av_hd {n : Nat} {v : Value} {r : List Value} (h : ∀ w ∈ v :: r, av_wv n w) : av_wv n v := h v List.mem_cons_self
theorem av_co {n : Nat} {v : Value} {r : List Value} (hv : av_wv n v) (h : ∀ w ∈ r, av_wv n w) : ∀ w ∈ v :: r, av_wv n w := fun w hw => by
  rcases List.mem_cons.mp hw with h1 | h1
  · rw [h1]; exact hv
  · exact h w h1
theorem av_fit_ok {t : FieldType} {v : Value} (hf : av_fit t v = true) : narrow t (av_v σ τ v) = av_v σ τ v ∧ fits t (av_v σ τ v) = true := by
  cases t <;> cases v <;> simp_all [av_fit, av_v, narrow, fits]
  rcases hf with rfl | rfl <;> decide
theorem av_v_def (t : FieldType) : av_v σ τ (av_def t) = av_def t := by cases t <;> rfl
theorem av_v_rf (q : Option Nat) : av_v σ τ (va_rf q) = va_rf (q.map σ) := by cases q <;> rfl
theorem av_ra {tys : List (ClassId × FieldType)} {k1 k2 : Nat} {c1 c2 : ClassId} {t : FieldType} {C : String} {tys2 : List (ClassId × FieldType)} (ht : t = .int ∨ t = .byte ∨ t = .long ∨ t = .object C) (h1 : va_K D cl tys s) (h2 : va_K D cl tys2 s) (e1 : tys[k1]? = some (c1, t)) (e2 : tys2[k2]? = some (c2, t)) : c1 = c2 := by
  have a1 := (h1.2 _ _ e1).2
  have a2 := (h2.2 _ _ e2).2
  rcases ht with rfl | rfl | rfl | rfl
  · exact Option.some.inj (a1.symm.trans a2)
  · exact Option.some.inj (a1.symm.trans a2)
  · exact Option.some.inj (a1.symm.trans a2)
  · obtain ⟨_, _, _, _, _, f1⟩ := a1
    obtain ⟨_, _, _, _, _, f2⟩ := a2
    exact Option.some.inj (f1.symm.trans f2)
theorem sd_field (hE : av_Env P K Ts cl) (hF : av_Fix P K Ts cl cy τ D A nL oc ini cc p R s m args meth c) (r : av_Rel cy τ D cl A s.heap σ0 n0 nL σ L st h ls H locs) {q len ix : Nat} (hok : av_ok K cl oc ini cc pc (.getfield q) len ix = true)
    (hs : av_one P mi pc (.getfield q) len L st h cells slots = some (.inl (pc', L', st', h', cells', slots'))) (kk : av_K1 cy τ D cl A σ0 n0 nL p l e R s m args below meth c Q pc' L' st' h' cells' slots') :
    W p l e R s m args below meth c H locs cells slots Q (F0 m pc ls (st.map (av_v σ τ))) := by
  obtain ⟨⟨hx, hb, hml, hown⟩, hts, hin, hK, hA, hOld, hR⟩ := hF
  simp only [av_ok, Bool.and_eq_true, decide_eq_true_eq] at hok
  obtain ⟨⟨rfl, hd⟩, hm⟩ := hok
  obtain ⟨C, T, N, hc, hk, hw⟩ := hE.2.1 _ hm
  simp only [av_one] at hs
  split at hs
  · next a r0 =>
    split at hs
    · next ci fs ha =>
      split at hs
      · next hci =>
        split at hs
        · next v hv =>
          cases hs
          subst hci
          have hwv : av_wv h.length v := r.2.2.2.2.2.1 _ (List.mem_of_getElem? ha) v (List.mem_of_getElem? hv)
          refine va_get (D := D) (C := C) (T := T) (N := N) (v := av_v σ τ v) hx hb hts (hE.1 _ _ _ _ hc).1 hown hK r.2.2.2.2.2.2.1 a (av_ws_get ha) hc (q % 64) hk (hts _ hw) (fun _ z => z) ?_ hd (kk σ ls H locs (r.stk (av_co hwv (av_tl r.2.2.2.2.1))))
          rw [List.getElem?_map, hv]
          rfl
        · cases hs
      · cases hs
    · cases hs
  · cases hs
theorem sd_put (hE : av_Env P K Ts cl) (hF : av_Fix P K Ts cl cy τ D A nL oc ini cc p R s m args meth c) (r : av_Rel cy τ D cl A s.heap σ0 n0 nL σ L st h ls H locs) {q len ix : Nat} (hok : av_ok K cl oc ini cc pc (.putfield q) len ix = true)
    (hs : av_one P mi pc (.putfield q) len L st h cells slots = some (.inl (pc', L', st', h', cells', slots'))) (kk : av_K1 cy τ D cl A σ0 n0 nL p l e R s m args below meth c Q pc' L' st' h' cells' slots') :
    W p l e R s m args below meth c H locs cells slots Q (F0 m pc ls (st.map (av_v σ τ))) := by
  obtain ⟨⟨hx, hb, hml, hown⟩, hts, hin, hK, hA, hOld, hR⟩ := hF
  simp only [av_ok, Bool.and_eq_true, decide_eq_true_eq] at hok
  obtain ⟨⟨⟨rfl, hd⟩, hm⟩, hfin⟩ := hok
  obtain ⟨C, T, N, hc, hk, hw⟩ := hE.2.1 _ hm
  obtain ⟨hu, hty, hnm, hN, -, -⟩ := hE.1 _ _ _ _ hc
  simp only [av_one] at hs
  split at hs
  · next v a r0 =>
    split at hs
    · next ci fs ha =>
      split at hs
      · next hh =>
        obtain ⟨hci, hlt, hf⟩ := hh
        cases hs
        subst hci
        obtain ⟨hn1, hf1⟩ := av_fit_ok (σ := σ) (τ := τ) hf
        have hwe : av_we h.length (.inr (q / 64, fs.set (q % 64) v)) := fun w hw => by
          rcases List.mem_or_eq_of_mem_set hw with h1 | h1
          · exact r.2.2.2.2.2.1 _ (List.mem_of_getElem? ha) w h1
          · rw [h1]; exact av_hd r.2.2.2.2.1
        have hnext : ∀ (H1 : Heap) (locs1 : List Loc), va_P D cl ((av_ws cy σ τ h).set a (σ a, .inr (q / 64, (fs.map (av_v σ τ)).set (q % 64) (av_v σ τ v)))) H1 → va_D A ((av_ws cy σ τ h).set a (σ a, .inr (q / 64, (fs.map (av_v σ τ)).set (q % 64) (av_v σ τ v)))) → va_S A s.heap H1 locs1 →
            W p l e R s m args below meth c H1 locs1 cells slots Q (F0 m (pc + 3) ls (st'.map (av_v σ τ))) := fun H1 locs1 hP1 hD1 hS1 => by
          rw [← List.map_set] at hP1 hD1
          exact kk σ ls H1 locs1 (r.cell hwe (av_tl (av_tl r.2.2.2.2.1)) hP1 hD1 hS1)
        simp only [av_fin, hc, Bool.or_eq_true, Bool.and_eq_true, decide_eq_true_eq] at hfin
        by_cases hfi : (T (q % 64)).2.2.2 = false
        · exact va_put (D := D) (C := C) (T := T) (N := N) hx hb hts hu (fun k => (av_ty P (q / 64)).getD k .float) hty hnm hown hK r.2.2.2.2.2.2.1 r.2.2.2.2.2.2.2.1 r.2.2.2.2.2.2.2.2 a (av_ws_get ha) hc (q % 64) hk (hts _ hw) (fun _ z => z) hfi (hty _ hk) hn1 hf1 (by rw [List.length_map]; exact hlt) hd hnext
        · rcases hfin with h1 | ⟨h1, h2⟩
          · exact absurd h1 hfi
          · exact va_putF (D := D) (C := C) (T := T) (N := N) hx hb hts hu (fun k => (av_ty P (q / 64)).getD k .float) hty hnm hown hK r.2.2.2.2.2.2.1 r.2.2.2.2.2.2.2.1 r.2.2.2.2.2.2.2.2 a (av_ws_get ha) hc (q % 64) hk (hts _ hw) (fun _ z => z) (by simpa using hfi) (hin h1) h2 (hty _ hk) hn1 hf1 (by rw [List.length_map]; exact hlt) hd hnext
      · cases hs
    · cases hs
  · cases hs
end SE
end
section
/-! ===== ALL INSTRUCTIONS BUT CALLS, THROWS AND ENDS ===== -/
section SF
variable {P : av_P} {K : av_K} {Ts : List Cond} {cl : List vw_C} {cy τ : Nat → Nat} {D : va_G} {A : Nat → Prop} {σ0 σ : Nat → Nat} {n0 nL oc mi pc : Nat} {ini : Bool} {cc : ByteArray}
variable {p : Program} {l : Launch} {e : Env} {R : Room} {s : State} {m : MethodId} {args : Array Value} {below : List Frame} {meth : Method} {c : Code} {H : Heap} {locs : List Loc} {cells slots : Nat} {Q : State → Prop} {ls : Array Slot}
variable {L L' : av_L} {st st' : List Value} {h h' : av_H} {pc' cells' slots' : Nat}
theorem av_4 (cy : Nat → Nat) (t : Nat) (h : t < 4) : ∃ ty, (av_tys cy)[t]? = some (cy t, ty) := by
  rcases (show t = 0 ∨ t = 1 ∨ t = 2 ∨ t = 3 by omega) with rfl | rfl | rfl | rfl <;> exact ⟨_, rfl⟩
theorem sd_arr (hE : av_Env P K Ts cl) (hF : av_Fix P K Ts cl cy τ D A nL oc ini cc p R s m args meth c) (r : av_Rel cy τ D cl A s.heap σ0 n0 nL σ L st h ls H locs) {ins : Instr} {len ix : Nat}
    (hi : ins = .iaload ∨ ins = .baload ∨ ins = .laload ∨ ins = .aaload ∨ ins = .arraylength) (hok : av_ok K cl oc ini cc pc ins len ix = true)
    (hs : av_one P mi pc ins len L st h cells slots = some (.inl (pc', L', st', h', cells', slots'))) (kk : av_K1 cy τ D cl A σ0 n0 nL p l e R s m args below meth c Q pc' L' st' h' cells' slots') :
    W p l e R s m args below meth c H locs cells slots Q (F0 m pc ls (st.map (av_v σ τ))) := by
  obtain ⟨⟨hx, hb, hml, hown⟩, hts, hin, hK, hA, hOld, hR⟩ := hF
  have hP := r.2.2.2.2.2.2.1
  have hst := r.2.2.2.2.1
  rcases hi with rfl | rfl | rfl | rfl | rfl
  · simp only [av_ok, Bool.and_eq_true, decide_eq_true_eq] at hok
    obtain ⟨rfl, hd⟩ := hok
    simp only [av_one, av_iaload] at hs
    split at hs
    · next i a r0 =>
      split at hs
      · next n f ha =>
        split at hs
        · next hin1 =>
          cases hs
          exact va_iald (D := D) hx hb hK hP a 0 (av_ws_get ha) rfl (av_in_iff hin1) hd (kk σ ls H locs (r.stk (av_co trivial (av_tl (av_tl hst)))))
        · cases hs
      · cases hs
    · next i r0 =>
      split at hs
      · next hin1 =>
        cases hs
        exact va_sld (A := A) hx hb hOld.2.1.1 hOld.2.1.2.1 hOld.2.1.2.2 r.2.2.2.2.2.2.2.2 (av_in_iff hin1) hd (kk σ ls H locs (r.stk (av_co trivial (av_tl (av_tl hst)))))
      · cases hs
    · cases hs
  · simp only [av_ok, Bool.and_eq_true, decide_eq_true_eq] at hok
    obtain ⟨rfl, hd⟩ := hok
    simp only [av_one] at hs
    split at hs
    · next i a r0 =>
      split at hs
      · next n f ha =>
        split at hs
        · next hin1 =>
          cases hs
          exact va_bald (D := D) hx hb hK hP a 1 (av_ws_get ha) rfl (av_in_iff hin1) hd (kk σ ls H locs (r.stk (av_co trivial (av_tl (av_tl hst)))))
        · cases hs
      · cases hs
    · cases hs
  · simp only [av_ok, Bool.and_eq_true, decide_eq_true_eq] at hok
    obtain ⟨rfl, hd⟩ := hok
    simp only [av_one] at hs
    split at hs
    · next i a r0 =>
      split at hs
      · next n f ha =>
        split at hs
        · next hin1 =>
          cases hs
          exact va_lald (D := D) hx hb hK hP a 2 (av_ws_get ha) rfl (av_in_iff hin1) hd (kk σ ls H locs (r.stk (av_co trivial (av_tl (av_tl hst)))))
        · cases hs
      · cases hs
    · cases hs
  · simp only [av_ok, Bool.and_eq_true, decide_eq_true_eq] at hok
    obtain ⟨rfl, hd⟩ := hok
    simp only [av_one] at hs
    split at hs
    · next i a r0 =>
      split at hs
      · next n f ha =>
        split at hs
        · next hin1 =>
          cases hs
          have hwe := r.2.2.2.2.2.1 _ (List.mem_of_getElem? ha)
          have hwv : av_wv h.length (va_rf (f i.toNatClampNeg)) := by
            cases hj : f i.toNatClampNeg with
            | none => trivial
            | some b => exact hwe _ b hj
          have k1 := kk σ ls H locs (r.stk (av_co hwv (av_tl (av_tl hst))))
          rw [List.map_cons, av_v_rf] at k1
          exact va_aldq (D := D) hx hb hK hP a 3 (av_ws_get ha) rfl (av_in_iff hin1) hd k1
        · cases hs
      · cases hs
    · cases hs
  · simp only [av_ok, Bool.and_eq_true, decide_eq_true_eq] at hok
    obtain ⟨rfl, hd⟩ := hok
    simp only [av_one, av_alen] at hs
    split at hs
    · next a r0 =>
      split at hs
      · next t n x ha =>
        split at hs
        · next ht =>
          cases hs
          have hk1 := kk σ ls H locs (r.stk (av_co (v := .int (Int32.ofNat n)) trivial (av_tl hst)))
          have hw := av_ws_get (cy := cy) (σ := σ) (τ := τ) ha
          obtain ⟨ty, hty⟩ := av_4 cy t ht
          rcases x with f | f | f | f | f
          · exact va_alen (D := D) hx hb hK hP a t hw hty rfl hd hk1
          · exact va_alen (D := D) hx hb hK hP a t hw hty rfl hd hk1
          · exact va_alen (D := D) hx hb hK hP a t hw hty rfl hd hk1
          · exact va_alen (D := D) hx hb hK hP a t hw hty rfl hd hk1
          · exact va_alen (D := D) hx hb hK hP a t hw hty rfl hd hk1
        · cases hs
      · cases hs
    · next r0 =>
      cases hs
      exact va_slen (A := A) hx hb hOld.2.1.1 hOld.2.1.2.1 hOld.2.1.2.2 r.2.2.2.2.2.2.2.2 hd (kk σ ls H locs (r.stk (av_co trivial (av_tl hst))))
    · cases hs
theorem sd_ast (hE : av_Env P K Ts cl) (hF : av_Fix P K Ts cl cy τ D A nL oc ini cc p R s m args meth c) (r : av_Rel cy τ D cl A s.heap σ0 n0 nL σ L st h ls H locs) {ins : Instr} {len ix : Nat}
    (hi : ins = .iastore ∨ ins = .bastore ∨ ins = .lastore ∨ ins = .aastore) (hok : av_ok K cl oc ini cc pc ins len ix = true)
    (hs : av_one P mi pc ins len L st h cells slots = some (.inl (pc', L', st', h', cells', slots'))) (kk : av_K1 cy τ D cl A σ0 n0 nL p l e R s m args below meth c Q pc' L' st' h' cells' slots') :
    W p l e R s m args below meth c H locs cells slots Q (F0 m pc ls (st.map (av_v σ τ))) := by
  obtain ⟨⟨hx, hb, hml, hown⟩, hts, hin, hK, hA, hOld, hR⟩ := hF
  have hP := r.2.2.2.2.2.2.1
  have hD := r.2.2.2.2.2.2.2.1
  have hS := r.2.2.2.2.2.2.2.2
  have hst := r.2.2.2.2.1
  rcases hi with rfl | rfl | rfl | rfl
  · simp only [av_ok, Bool.and_eq_true, decide_eq_true_eq] at hok
    obtain ⟨rfl, hd⟩ := hok
    simp only [av_one] at hs
    split at hs
    · next x i a r0 =>
      split at hs
      · next n f ha =>
        split at hs
        · next hin1 =>
          cases hs
          exact va_iast (D := D) hx hb hK hP hD hS a 0 (av_ws_get ha) rfl (av_in_iff hin1) hd (fun H1 locs1 hP1 hD1 hS1 => kk σ ls H1 locs1 (r.cell (x := .inl (0, n, .inl (upd f i.toNatClampNeg x))) trivial (av_tl (av_tl (av_tl hst))) hP1 hD1 hS1))
        · cases hs
      · cases hs
    · cases hs
  · simp only [av_ok, Bool.and_eq_true, decide_eq_true_eq] at hok
    obtain ⟨rfl, hd⟩ := hok
    simp only [av_one] at hs
    split at hs
    · next x i a r0 =>
      split at hs
      · next n f ha =>
        split at hs
        · next hin1 =>
          cases hs
          exact va_bast (D := D) hx hb hK hP hD hS a 1 (av_ws_get ha) rfl (av_in_iff hin1) hd (fun H1 locs1 hP1 hD1 hS1 => kk σ ls H1 locs1 (r.cell (x := .inl (1, n, .inl (upd f i.toNatClampNeg (vp_nar .byte x)))) trivial (av_tl (av_tl (av_tl hst))) hP1 hD1 hS1))
        · cases hs
      · cases hs
    · cases hs
  · simp only [av_ok, Bool.and_eq_true, decide_eq_true_eq] at hok
    obtain ⟨rfl, hd⟩ := hok
    simp only [av_one] at hs
    split at hs
    · next x i a r0 =>
      split at hs
      · next n f ha =>
        split at hs
        · next hin1 =>
          cases hs
          exact va_last (D := D) hx hb hK hP hD hS a 2 (av_ws_get ha) rfl (av_in_iff hin1) hd (fun H1 locs1 hP1 hD1 hS1 => kk σ ls H1 locs1 (r.cell (x := .inl (2, n, .inr (.inl (vp_updL f i.toNatClampNeg x)))) trivial (av_tl (av_tl (av_tl hst))) hP1 hD1 hS1))
        · cases hs
      · cases hs
    · cases hs
  · simp only [av_ok, Bool.and_eq_true, decide_eq_true_eq] at hok
    obtain ⟨rfl, hd⟩ := hok
    simp only [av_one] at hs
    split at hs
    · next b i a r0 =>
      split at hs
      · next n f fs ha hb6 =>
        split at hs
        · next hin1 =>
          cases hs
          have h6 := hE.2.2.2.2.2.2.2.2.2
          obtain ⟨rc, hrc, hrn⟩ : ∃ rc, cl[6]? = some rc ∧ rc.1 = "SinglesPast$State" := by
            cases h9 : cl[6]? with
            | none => rw [h9] at h6; cases h6
            | some rc => rw [h9] at h6; exact ⟨rc, rfl, Option.some.inj h6⟩
          have hwe := r.2.2.2.2.2.1 _ (List.mem_of_getElem? ha)
          refine va_astq (D := D) (r := rc) hx hb hK hP hD hS a 3 b 6 (av_ws_get ha) (by rw [hrn]; rfl) (av_ws_get hb6) hrc (av_in_iff hin1) hd (fun H1 locs1 hP1 hD1 hS1 => kk σ ls H1 locs1 (r.cell (x := .inl (3, n, .inr (.inr (.inr (.inr (va_up f i.toNatClampNeg (some b))))))) (fun j z hz => ?_) (av_tl (av_tl (av_tl hst))) ?_ ?_ hS1))
          · simp only [va_up] at hz
            split at hz
            · cases hz; exact av_hd hst
            · exact hwe j z hz
          · have e1 : av_e cy σ τ (.inl (3, n, .inr (.inr (.inr (.inr (va_up f i.toNatClampNeg (some b))))))) = .inl (cy 3, n, .inr (.inr (.inr (.inr (va_up (fun j => (f j).map σ) i.toNatClampNeg (some (σ b))))))) := by
              simp only [av_e]
              congr 7
              funext j
              simp only [va_up]
              split <;> rfl
            rw [e1]; exact hP1
          · have e1 : av_e cy σ τ (.inl (3, n, .inr (.inr (.inr (.inr (va_up f i.toNatClampNeg (some b))))))) = .inl (cy 3, n, .inr (.inr (.inr (.inr (va_up (fun j => (f j).map σ) i.toNatClampNeg (some (σ b))))))) := by
              simp only [av_e]
              congr 7
              funext j
              simp only [va_up]
              split <;> rfl
            rw [e1]; exact hD1
        · cases hs
      · cases hs
    · cases hs
end SF
end
section
section SG
variable {P : av_P} {K : av_K} {Ts : List Cond} {cl : List vw_C} {cy τ : Nat → Nat} {D : va_G} {A : Nat → Prop} {σ0 σ : Nat → Nat} {n0 nL oc mi pc : Nat} {ini : Bool} {cc : ByteArray}
variable {p : Program} {l : Launch} {e : Env} {R : Room} {s : State} {m : MethodId} {args : Array Value} {below : List Frame} {meth : Method} {c : Code} {H : Heap} {locs : List Loc} {cells slots : Nat} {Q : State → Prop} {ls : Array Slot}
variable {L L' : av_L} {st st' : List Value} {h h' : av_H} {pc' cells' slots' : Nat}
/-- behind a making: the stack's other values stand as they did -/
theorem av_made (r : av_Rel cy τ D cl A s.heap σ0 n0 nL σ L st h ls H locs) {q : Nat} {x y : va_E} {r0 : List Value} (hr0 : ∀ w ∈ r0, av_wv h.length w) (hx : av_we h.length x) (hxy : ∀ σ', av_e cy σ' τ x = y) {H1 : Heap} {locs1 : List Loc} {pc1 c1 s1 : Nat}
    (hP : va_P D cl (av_ws cy σ τ h ++ [(q, y)]) H1) (hD : va_D A (av_ws cy σ τ h ++ [(q, y)])) (hS : va_S A s.heap H1 locs1)
    (kk : av_K1 cy τ D cl A σ0 n0 nL p l e R s m args below meth c Q pc1 L (.ref h.length :: r0) (h ++ [x]) c1 s1) : W p l e R s m args below meth c H1 locs1 c1 s1 Q (F0 m pc1 ls (.ref q :: r0.map (av_v σ τ))) := by
  obtain ⟨σ', h1, h2, r'⟩ := r.make (st' := .ref h.length :: r0) hx (av_co (Nat.lt_succ_self _) (fun w hw => av_wv_le (Nat.le_succ _) (hr0 w hw))) hxy hP hD hS
  have k1 := kk σ' ls H1 locs1 r'
  have e1 : (Value.ref h.length :: r0).map (av_v σ' τ) = .ref q :: r0.map (av_v σ τ) := by
    rw [List.map_cons, List.map_congr_left (fun w hw => av_v_ext h1 (hr0 w hw))]
    exact congrArg (fun z => Value.ref z :: r0.map (av_v σ τ)) h2
  rw [e1] at k1
  exact k1
theorem sd_new (hE : av_Env P K Ts cl) (hF : av_Fix P K Ts cl cy τ D A nL oc ini cc p R s m args meth c) (r : av_Rel cy τ D cl A s.heap σ0 n0 nL σ L st h ls H locs) {ci len ix : Nat} (hok : av_ok K cl oc ini cc pc (.new ci) len ix = true)
    (hs : av_one P mi pc (.new ci) len L st h cells slots = some (.inl (pc', L', st', h', cells', slots'))) (hc1 : cells' ≤ R.cells) (hs1 : slots' ≤ R.slots) (kk : av_K1 cy τ D cl A σ0 n0 nL p l e R s m args below meth c Q pc' L' st' h' cells' slots') :
    W p l e R s m args below meth c H locs cells slots Q (F0 m pc ls (st.map (av_v σ τ))) := by
  obtain ⟨⟨hx, hb, hml, hown⟩, hts, hin, hK, hA, hOld, hR⟩ := hF
  simp only [av_ok, Bool.and_eq_true, decide_eq_true_eq] at hok
  obtain ⟨⟨rfl, hd⟩, hm⟩ := hok
  obtain ⟨C, T, N, hc, hw⟩ := hE.2.2.2.1 _ hm
  obtain ⟨hu, hty, hnm, hN, hi1, hi2⟩ := hE.1 _ _ _ _ hc
  simp only [av_one] at hs
  cases hs
  subst hN
  refine va_new (D := D) (C := C) (T := T) (N := (av_ty P ci).length) (fs := (av_ty P ci).map av_def) hx hb hts hu (fun k => (av_ty P ci).getD k .float) hty hown (hts _ hw) (hts _ hi1) (hts _ hi2) hK r.2.2.2.2.2.2.1 r.2.2.2.2.2.2.2.1 r.2.2.2.2.2.2.2.2 hA hc (fun j hj => ?_) hc1 hs1 hd (fun q H1 hP1 hD1 hS1 => ?_)
  · simp [vp_V, av_def, List.getD_eq_getElem?_getD, hj]
  · refine av_made r (x := .inr (ci, (av_ty P ci).map av_def)) r.2.2.2.2.1 (fun w hw => ?_) (fun σ' => ?_) hP1 hD1 hS1 kk
    · obtain ⟨t, -, rfl⟩ := List.mem_map.mp hw
      cases t <;> trivial
    · simp only [av_e, List.map_map]
      congr 2
      exact List.map_congr_left (fun t _ => av_v_def t)
theorem sd_newa (hE : av_Env P K Ts cl) (hF : av_Fix P K Ts cl cy τ D A nL oc ini cc p R s m args meth c) (r : av_Rel cy τ D cl A s.heap σ0 n0 nL σ L st h ls H locs) {k : ArrayType} {len ix : Nat} (hok : av_ok K cl oc ini cc pc (.newarray k) len ix = true)
    (hs : av_one P mi pc (.newarray k) len L st h cells slots = some (.inl (pc', L', st', h', cells', slots'))) (hc1 : cells' ≤ R.cells) (hs1 : slots' ≤ R.slots) (kk : av_K1 cy τ D cl A σ0 n0 nL p l e R s m args below meth c Q pc' L' st' h' cells' slots') :
    W p l e R s m args below meth c H locs cells slots Q (F0 m pc ls (st.map (av_v σ τ))) := by
  obtain ⟨⟨hx, hb, hml, hown⟩, hts, hin, hK, hA, hOld, hR⟩ := hF
  simp only [av_ok, Bool.and_eq_true, decide_eq_true_eq] at hok
  obtain ⟨rfl, hd⟩ := hok
  have hcls := hE.2.2.2.2.2.2.2.2.1
  simp only [av_one] at hs
  split at hs
  · next n r0 =>
    split at hs
    · next hn =>
      obtain ⟨hn0, hn1⟩ := hn
      cases k with
      | int =>
        simp only [av_newa] at hs
        cases hs
        refine va_newa (D := D) (atype := .int) (ty := .int) (a0 := (n.toNatClampNeg, .inl (fun _ => 0))) hx hb (hts _ hcls.1) rfl hK r.2.2.2.2.2.2.1 r.2.2.2.2.2.2.2.1 r.2.2.2.2.2.2.2.2 hA (fun cA => rfl) hn0 rfl (by simp only [componentBytes]; omega) hc1 hs1 hd (fun q cA H1 hK1 hP1 hD1 hS1 => ?_)
        have hcA : cA = cy 0 := av_ra (C := "") (Or.inl rfl) hK1 hK (k1 := 4) (k2 := 0) rfl rfl
        subst hcA
        exact av_made r (x := .inl (0, n.toNatClampNeg, .inl (fun _ => 0))) (av_tl r.2.2.2.2.1) trivial (fun _ => rfl) hP1 hD1 hS1 kk
      | byte =>
        simp only [av_newa] at hs
        cases hs
        refine va_newa (D := D) (atype := .byte) (ty := .byte) (a0 := (n.toNatClampNeg, .inl (fun _ => 0))) hx hb (hts _ hcls.2.1) rfl hK r.2.2.2.2.2.2.1 r.2.2.2.2.2.2.2.1 r.2.2.2.2.2.2.2.2 hA (fun cA => rfl) hn0 rfl (by simp only [componentBytes]; omega) hc1 hs1 hd (fun q cA H1 hK1 hP1 hD1 hS1 => ?_)
        have hcA : cA = cy 1 := av_ra (C := "") (Or.inr (Or.inl rfl)) hK1 hK (k1 := 4) (k2 := 1) rfl rfl
        subst hcA
        exact av_made r (x := .inl (1, n.toNatClampNeg, .inl (fun _ => 0))) (av_tl r.2.2.2.2.1) trivial (fun _ => rfl) hP1 hD1 hS1 kk
      | long =>
        simp only [av_newa] at hs
        cases hs
        refine va_newa (D := D) (atype := .long) (ty := .long) (a0 := (n.toNatClampNeg, .inr (.inl (fun _ => 0)))) hx hb (hts _ hcls.2.2) rfl hK r.2.2.2.2.2.2.1 r.2.2.2.2.2.2.2.1 r.2.2.2.2.2.2.2.2 hA (fun cA => rfl) hn0 rfl (by simp only [componentBytes]; omega) hc1 hs1 hd (fun q cA H1 hK1 hP1 hD1 hS1 => ?_)
        have hcA : cA = cy 2 := av_ra (C := "") (Or.inr (Or.inr (Or.inl rfl))) hK1 hK (k1 := 4) (k2 := 2) rfl rfl
        subst hcA
        exact av_made r (x := .inl (2, n.toNatClampNeg, .inr (.inl (fun _ => 0)))) (av_tl r.2.2.2.2.1) trivial (fun _ => rfl) hP1 hD1 hS1 kk
      | _ => simp only [av_newa] at hs; cases hs
    · cases hs
  · cases hs
theorem sd_newr (hE : av_Env P K Ts cl) (hF : av_Fix P K Ts cl cy τ D A nL oc ini cc p R s m args meth c) (r : av_Rel cy τ D cl A s.heap σ0 n0 nL σ L st h ls H locs) {k : Nat} {len ix : Nat} (hok : av_ok K cl oc ini cc pc (.anewarray k) len ix = true)
    (hs : av_one P mi pc (.anewarray k) len L st h cells slots = some (.inl (pc', L', st', h', cells', slots'))) (hc1 : cells' ≤ R.cells) (hs1 : slots' ≤ R.slots) (kk : av_K1 cy τ D cl A σ0 n0 nL p l e R s m args below meth c Q pc' L' st' h' cells' slots') :
    W p l e R s m args below meth c H locs cells slots Q (F0 m pc ls (st.map (av_v σ τ))) := by
  obtain ⟨⟨hx, hb, hml, hown⟩, hts, hin, hK, hA, hOld, hR⟩ := hF
  simp only [av_ok, Bool.and_eq_true, decide_eq_true_eq] at hok
  obtain ⟨⟨rfl, hd⟩, hm⟩ := hok
  simp only [av_one] at hs
  split at hs
  · next n r0 =>
    split at hs
    · next hn =>
      obtain ⟨hn0, hn1⟩ := hn
      cases hs
      refine va_newq (D := D) (C := "SinglesPast$State") hx hb hown (hts _ ((hE.2.2.2.2.1 _ hm).2.2 rfl)) hOld.2.2.1 hK r.2.2.2.2.2.2.1 r.2.2.2.2.2.2.2.1 r.2.2.2.2.2.2.2.2 hA hn0 rfl (by omega) hc1 hs1 hd (fun q cA H1 hK1 hP1 hD1 hS1 => ?_)
      have hcA : cA = cy 3 := av_ra (C := "SinglesPast$State") (Or.inr (Or.inr (Or.inr rfl))) hK1 hK (k1 := 4) (k2 := 3) rfl rfl
      subst hcA
      exact av_made r (x := .inl (3, n.toNatClampNeg, .inr (.inr (.inr (.inr (fun _ => none)))))) (av_tl r.2.2.2.2.1) (fun j a hj => by cases hj) (fun _ => rfl) hP1 hD1 hS1 kk
    · cases hs
  · cases hs
theorem sd_copy (hE : av_Env P K Ts cl) (hF : av_Fix P K Ts cl cy τ D A nL oc ini cc p R s m args meth c) (r : av_Rel cy τ D cl A s.heap σ0 n0 nL σ L st h ls H locs) {len ix : Nat} (hok : av_ok K cl oc ini cc pc (.invokedynamic 0) len ix = true)
    (hs : av_one P mi pc (.invokedynamic 0) len L st h cells slots = some (.inl (pc', L', st', h', cells', slots'))) (kk : av_K1 cy τ D cl A σ0 n0 nL p l e R s m args below meth c Q pc' L' st' h' cells' slots') :
    W p l e R s m args below meth c H locs cells slots Q (F0 m pc ls (st.map (av_v σ τ))) := by
  obtain ⟨⟨hx, hb, hml, hown⟩, hts, hin, hK, hA, hOld, hR⟩ := hF
  simp only [av_ok, Bool.and_eq_true, decide_eq_true_eq] at hok
  obtain ⟨⟨rfl, hd⟩, hm⟩ := hok
  have hj := hE.2.2.2.2.2.2.1
  simp only [av_one, av_copy] at hs
  split at hs
  · next n dp b sp a r0 =>
    split at hs
    · next n0' f n1 g ha hb1 =>
      split at hs
      · next hh =>
        obtain ⟨h1, h2, h3, h4, h5, h6⟩ := hh
        cases hs
        refine va_copyi (D := D) (ty := .int) hx hb (by rw [hml]; exact r.2.2.1.2.1.symm) hown (hts _ ((hE.2.2.2.2.1 _ hm).1 rfl)) (hts _ hj.1) (hts _ hj.2.1) (hts _ hj.2.2) hK r.2.2.2.2.2.2.1 r.2.2.2.2.2.2.2.1 r.2.2.2.2.2.2.2.2 a b 0 0 (av_ws_get ha) (av_ws_get hb1) rfl rfl rfl h1 h2 h3 h4 h5 (fun _ _ => rfl) (by omega) ?_ hd (fun H1 locs1 hP1 hD1 hS1 => kk σ ls H1 locs1 (r.cell (x := .inl (0, n1, .inl (va_cpy f g sp.toNatClampNeg dp.toNatClampNeg n.toNatClampNeg))) trivial (av_tl (av_tl (av_tl (av_tl (av_tl r.2.2.2.2.1))))) hP1 hD1 hS1))
        have e1 := av_cats σ τ st'
        have e2 : nativeFrameWords "java/lang/System" "arraycopy" 5 ≤ 100 := by decide
        have e3 := hR.2
        omega
      · cases hs
    · cases hs
  · cases hs
theorem sd_clone (hE : av_Env P K Ts cl) (hF : av_Fix P K Ts cl cy τ D A nL oc ini cc p R s m args meth c) (r : av_Rel cy τ D cl A s.heap σ0 n0 nL σ L st h ls H locs) {len ix : Nat} (hok : av_ok K cl oc ini cc pc (.invokedynamic 3) len ix = true)
    (hs : av_one P mi pc (.invokedynamic 3) len L st h cells slots = some (.inl (pc', L', st', h', cells', slots'))) (hc1 : cells' ≤ R.cells) (hs1 : slots' ≤ R.slots) (kk : av_K1 cy τ D cl A σ0 n0 nL p l e R s m args below meth c Q pc' L' st' h' cells' slots') :
    W p l e R s m args below meth c H locs cells slots Q (F0 m pc ls (st.map (av_v σ τ))) := by
  obtain ⟨⟨hx, hb, hml, hown⟩, hts, hin, hK, hA, hOld, hR⟩ := hF
  simp only [av_ok, Bool.and_eq_true, decide_eq_true_eq] at hok
  obtain ⟨⟨rfl, hd⟩, hm⟩ := hok
  obtain ⟨hj, w1, w2, w3, w4⟩ := hE.2.2.2.2.2.1
  simp only [av_one] at hs
  split at hs
  · next a r0 =>
    split at hs
    · next n f ha =>
      split at hs
      · next h8 =>
        cases hs
        have e1 := av_cats σ τ r0
        have e3 := hR.2
        have hnm : s.vm.findClass "[I" = some (cy 0) := (hK.2 0 _ rfl).2
        refine va_clone (D := D) (ad := "[I") (x := (n, .inl f)) (ty := .int) hx hb (by rw [hml]; exact r.2.2.1.2.1.symm) hown (hts _ ((hj _ hm).1 rfl)) (hts _ w1) (hts _ w2) (hts _ w3) (hts _ w4) hOld.2.2.2 hK r.2.2.2.2.2.2.1 r.2.2.2.2.2.2.2.1 r.2.2.2.2.2.2.2.2 hA a 0 (av_ws_get ha) rfl hnm (fun i v hv => ?_) (by omega) (by omega) hc1 hs1 hd (fun q H1 hK1 hP1 hD1 hS1 => ?_)
        · rw [vp_cell_i] at hv
          by_cases hi : i < n
          · rw [arrV_read _ _ hi] at hv; cases hv; rfl
          · rw [Array.getElem?_eq_none (by rw [arrV_size]; omega)] at hv; cases hv
        · exact av_made r (x := .inl (0, n, .inl f)) (av_tl r.2.2.2.2.1) trivial (fun _ => rfl) hP1 hD1 hS1 kk
      · cases hs
    · cases hs
  · cases hs
theorem sd_cast (hE : av_Env P K Ts cl) (hF : av_Fix P K Ts cl cy τ D A nL oc ini cc p R s m args meth c) (r : av_Rel cy τ D cl A s.heap σ0 n0 nL σ L st h ls H locs) {k len ix : Nat} (hok : av_ok K cl oc ini cc pc (.checkcast k) len ix = true)
    (hs : av_one P mi pc (.checkcast k) len L st h cells slots = some (.inl (pc', L', st', h', cells', slots'))) (kk : av_K1 cy τ D cl A σ0 n0 nL p l e R s m args below meth c Q pc' L' st' h' cells' slots') :
    W p l e R s m args below meth c H locs cells slots Q (F0 m pc ls (st.map (av_v σ τ))) := by
  obtain ⟨⟨hx, hb, hml, hown⟩, hts, hin, hK, hA, hOld, hR⟩ := hF
  simp only [av_ok, Bool.and_eq_true, decide_eq_true_eq] at hok
  obtain ⟨⟨rfl, hd⟩, hm⟩ := hok
  simp only [av_one] at hs
  split at hs
  · next a r0 =>
    split at hs
    · next n f ha =>
      cases hs
      have hnm : s.vm.findClass "[I" = some (cy 0) := (hK.2 0 _ rfl).2
      exact va_castA (D := D) (nm := "[I") hx hb hown (hts _ ((hE.2.2.2.2.2.1.1 _ hm).2 rfl)) r.2.2.2.2.2.2.1 a (av_ws_get ha) hnm hd (kk σ ls H locs r)
    · cases hs
  · cases hs
end SG
end
section
section SH
variable {P : av_P} {K : av_K} {Ts : List Cond} {cl : List vw_C} {cy τ : Nat → Nat} {D : va_G} {A : Nat → Prop} {σ0 σ : Nat → Nat} {n0 nL oc mi pc : Nat} {ini : Bool} {cc : ByteArray}
variable {p : Program} {l : Launch} {e : Env} {R : Room} {s : State} {m : MethodId} {args : Array Value} {below : List Frame} {meth : Method} {c : Code} {H : Heap} {locs : List Loc} {cells slots : Nat} {Q : State → Prop} {ls : Array Slot}
variable {L L' : av_L} {st st' : List Value} {h h' : av_H} {pc' cells' slots' : Nat}
set_option maxHeartbeats 4000000 in
/-- one instruction (no call, no throw, no end) -/
theorem sd_one (hE : av_Env P K Ts cl) (hF : av_Fix P K Ts cl cy τ D A nL oc ini cc p R s m args meth c) (hStr : av_Str P K τ A oc cc p l e R s m args below meth c Q nL) (r : av_Rel cy τ D cl A s.heap σ0 n0 nL σ L st h ls H locs) {ins : Instr} {len ix : Nat} (hok : av_ok K cl oc ini cc pc ins len ix = true)
    (hs : av_one P mi pc ins len L st h cells slots = some (.inl (pc', L', st', h', cells', slots'))) (hc1 : cells' ≤ R.cells) (hs1 : slots' ≤ R.slots) (kk : av_K1 cy τ D cl A σ0 n0 nL p l e R s m args below meth c Q pc' L' st' h' cells' slots') :
    W p l e R s m args below meth c H locs cells slots Q (F0 m pc ls (st.map (av_v σ τ))) := by
  have hF0 := hF
  obtain ⟨⟨hx, hb, hml, hown⟩, hts, hin, hK, hA, hOld, hR⟩ := hF
  have hst := r.2.2.2.2.1
  have hlh := r.2.2.1.2
  cases ins with
  | sipush v =>
    simp only [av_one] at hs
    cases hs
    refine sd_ld (v := .int (Int32.ofInt v)) r trivial kk (fun k1 => ?_)
    simp only [av_ok, Bool.or_eq_true, Bool.and_eq_true, decide_eq_true_eq] at hok
    rcases hok with (((⟨rfl, hd⟩ | ⟨⟨rfl, hd⟩, hv⟩) | ⟨⟨rfl, hd⟩, hv⟩) | ⟨⟨rfl, hd⟩, hm⟩) | ⟨⟨rfl, hd⟩, hm⟩
    · exact lv_iconst hx hb hd rfl k1
    · exact lv_bipush hx hb hd hv k1
    · exact lv_sipush hx hb hd hv k1
    · exact lv_ldc hx hb hown (hts _ (hE.2.2.1 _ hm)) hd k1
    · exact lv_ldcw hx hb hown (hts _ (hE.2.2.1 _ hm)) hd k1
  | lconst n =>
    simp only [av_one] at hs
    cases hs
    simp only [av_ok, Bool.and_eq_true, decide_eq_true_eq] at hok
    obtain ⟨rfl, hd⟩ := hok
    exact sd_ld (v := .long (Int64.ofNat (n : Nat))) r trivial kk (fun k1 => lv_lconst hx hb hd rfl k1)
  | ldc i =>
    simp only [av_one] at hs
    cases hs
    simp only [av_ok, Bool.or_eq_true, Bool.and_eq_true, decide_eq_true_eq] at hok
    obtain ⟨hd2, hm⟩ := hok
    obtain ⟨tx, hZ⟩ := hOld.1 _ hm
    rcases hd2 with ⟨rfl, hd⟩ | ⟨rfl, hd⟩
    · exact sd_ld (v := .retAddr (i + 1)) r trivial kk (fun k1 => va_ldcS hx hb hown hZ hd k1)
    · exact sd_ld (v := .retAddr (i + 1)) r trivial kk (fun k1 => sd_ldcw hx hb hown hZ hd k1)
  | iload i =>
    simp only [av_one] at hs
    split at hs
    · next x hv =>
      cases hs
      refine sd_ld (v := .int x) r trivial kk (fun k1 => ?_)
      simp only [av_ok, Bool.or_eq_true, Bool.and_eq_true, decide_eq_true_eq] at hok
      rcases hok with ⟨rfl, hd⟩ | ⟨⟨rfl, hi⟩, hd⟩
      · exact lv_iload hx hb hd (av_get r hv) k1
      · exact lv_iload_n hx hb hd (Nat.mod_eq_of_lt hi) (av_get r hv) k1
    · cases hs
  | aload i =>
    simp only [av_one] at hs
    split at hs
    · next x hv =>
      cases hs
      refine sd_ld (v := .ref x) r (r.2.2.2.1 _ _ hv).2 kk (fun k1 => ?_)
      simp only [av_ok, Bool.or_eq_true, Bool.and_eq_true, decide_eq_true_eq] at hok
      rcases hok with ⟨rfl, hd⟩ | ⟨⟨rfl, hi⟩, hd⟩
      · exact lv_aload hx hb hd (av_get r hv) k1
      · exact lv_aload_n hx hb hd (Nat.mod_eq_of_lt hi) (av_get r hv) k1
    · next x hv =>
      cases hs
      refine sd_ld (v := .retAddr x) r trivial kk (fun k1 => ?_)
      simp only [av_ok, Bool.or_eq_true, Bool.and_eq_true, decide_eq_true_eq] at hok
      rcases hok with ⟨rfl, hd⟩ | ⟨⟨rfl, hi⟩, hd⟩
      · exact lv_aload hx hb hd (av_get r hv) k1
      · exact lv_aload_n hx hb hd (Nat.mod_eq_of_lt hi) (av_get r hv) k1
    · cases hs
  | istore i =>
    simp only [av_one] at hs
    split at hs
    · next x r0 =>
      split at hs
      · next hi1 =>
        cases hs
        rw [r.2.2.1.1] at hi1
        simp only [av_ok, Bool.or_eq_true, Bool.and_eq_true, decide_eq_true_eq] at hok
        rcases hok with ⟨rfl, hd⟩ | ⟨⟨rfl, hi⟩, hd⟩
        · exact lv_istore hx hb hd hlh hi1 rfl (fun ls' hl => kk σ ls' H locs (r.store (v := .int x) rfl trivial (av_tl hst) hl))
        · exact lv_istore_n hx hb hd (Nat.mod_eq_of_lt hi) hlh hi1 rfl (fun ls' hl => kk σ ls' H locs (r.store (v := .int x) rfl trivial (av_tl hst) hl))
      · cases hs
    · cases hs
  | astore i =>
    simp only [av_one] at hs
    split at hs
    · next x r0 =>
      split at hs
      · next hi1 =>
        cases hs
        rw [r.2.2.1.1] at hi1
        simp only [av_ok, Bool.or_eq_true, Bool.and_eq_true, decide_eq_true_eq] at hok
        rcases hok with ⟨rfl, hd⟩ | ⟨⟨rfl, hi⟩, hd⟩
        · exact lv_astore hx hb hd hlh hi1 rfl (fun ls' hl => kk σ ls' H locs (r.store (v := .ref x) rfl (av_hd hst) (av_tl hst) hl))
        · exact lv_astore_n hx hb hd (Nat.mod_eq_of_lt hi) hlh hi1 rfl (fun ls' hl => kk σ ls' H locs (r.store (v := .ref x) rfl (av_hd hst) (av_tl hst) hl))
      · cases hs
    · next x r0 =>
      split at hs
      · next hi1 =>
        cases hs
        rw [r.2.2.1.1] at hi1
        simp only [av_ok, Bool.or_eq_true, Bool.and_eq_true, decide_eq_true_eq] at hok
        rcases hok with ⟨rfl, hd⟩ | ⟨⟨rfl, hi⟩, hd⟩
        · exact lv_astore hx hb hd hlh hi1 rfl (fun ls' hl => kk σ ls' H locs (r.store (v := .retAddr x) rfl trivial (av_tl hst) hl))
        · exact lv_astore_n hx hb hd (Nat.mod_eq_of_lt hi) hlh hi1 rfl (fun ls' hl => kk σ ls' H locs (r.store (v := .retAddr x) rfl trivial (av_tl hst) hl))
      · cases hs
    · cases hs
  | iinc i n =>
    simp only [av_one] at hs
    split at hs
    · next x hv =>
      cases hs
      simp only [av_ok, Bool.and_eq_true, decide_eq_true_eq] at hok
      obtain ⟨rfl, hd⟩ := hok
      have hi1 : i < nL := by rw [← r.2.2.1.1]; exact (List.getElem?_eq_some_iff.mp hv).1
      obtain ⟨k, hk⟩ := List.getElem?_of_mem (av_lv_mem (σ := σ) (τ := τ) (q := (i, .int x)).mpr ⟨.int x, hv, rfl⟩)
      exact lv_iinc hx hb hd hlh hk rfl hi1 rfl (fun ls' hl => kk σ ls' H locs (r.store (v := .int (x + Int32.ofInt n)) rfl trivial hst hl))
    · cases hs
  | dup =>
    simp only [av_one] at hs
    split at hs
    · next v r0 =>
      split at hs
      · next hv =>
        cases hs
        simp only [av_ok, Bool.and_eq_true, decide_eq_true_eq] at hok
        obtain ⟨rfl, hd⟩ := hok
        exact lv_dup hx hb hd (by rw [av_v_cat]; exact hv) (kk σ ls H locs (r.stk (av_co (av_hd hst) hst)))
      · cases hs
    · cases hs
  | dup2 =>
    simp only [av_one] at hs
    split at hs
    · next v w r0 =>
      split at hs
      · next hv =>
        cases hs
        simp only [av_ok, Bool.and_eq_true, decide_eq_true_eq] at hok
        obtain ⟨rfl, hd⟩ := hok
        exact lv_dup2_11 hx hb hd (by rw [av_v_cat]; exact hv.1) (by rw [av_v_cat]; exact hv.2) (kk σ ls H locs (r.stk (av_co (av_hd hst) (av_co (av_hd (av_tl hst)) hst))))
      · cases hs
    · cases hs
  | pop =>
    simp only [av_one] at hs
    split at hs
    · next v r0 =>
      split at hs
      · next hv =>
        cases hs
        simp only [av_ok, Bool.and_eq_true, decide_eq_true_eq] at hok
        obtain ⟨rfl, hd⟩ := hok
        exact lv_pop hx hb hd (by rw [av_v_cat]; exact hv) (kk σ ls H locs (r.stk (av_tl hst)))
      · cases hs
    · cases hs
  | iadd =>
    simp only [av_ok, Bool.and_eq_true, decide_eq_true_eq] at hok
    obtain ⟨rfl, hd⟩ := hok
    simp only [av_one] at hs
    exact sd_bin r hs kk (fun x y z rest hz k1 => by cases hz; exact lv_iadd hx hb hd k1)
  | isub =>
    simp only [av_ok, Bool.and_eq_true, decide_eq_true_eq] at hok
    obtain ⟨rfl, hd⟩ := hok
    simp only [av_one] at hs
    exact sd_bin r hs kk (fun x y z rest hz k1 => by cases hz; exact lv_isub hx hb hd k1)
  | imul =>
    simp only [av_ok, Bool.and_eq_true, decide_eq_true_eq] at hok
    obtain ⟨rfl, hd⟩ := hok
    simp only [av_one] at hs
    exact sd_bin r hs kk (fun x y z rest hz k1 => by cases hz; exact lv_imul hx hb hd k1)
  | idiv =>
    simp only [av_ok, Bool.and_eq_true, decide_eq_true_eq] at hok
    obtain ⟨rfl, hd⟩ := hok
    simp only [av_one] at hs
    refine sd_bin r hs kk (fun x y z rest hz k1 => ?_)
    split at hz
    · cases hz
    · next hy => cases hz; exact lv_idiv hx hb hd hy k1
  | irem =>
    simp only [av_ok, Bool.and_eq_true, decide_eq_true_eq] at hok
    obtain ⟨rfl, hd⟩ := hok
    simp only [av_one] at hs
    refine sd_bin r hs kk (fun x y z rest hz k1 => ?_)
    split at hz
    · cases hz
    · next hy => cases hz; exact lv_irem hx hb hd hy k1
  | iand =>
    simp only [av_ok, Bool.and_eq_true, decide_eq_true_eq] at hok
    obtain ⟨rfl, hd⟩ := hok
    simp only [av_one] at hs
    exact sd_bin r hs kk (fun x y z rest hz k1 => by cases hz; exact lv_iand hx hb hd k1)
  | ior =>
    simp only [av_ok, Bool.and_eq_true, decide_eq_true_eq] at hok
    obtain ⟨rfl, hd⟩ := hok
    simp only [av_one] at hs
    exact sd_bin r hs kk (fun x y z rest hz k1 => by cases hz; exact lv_ior hx hb hd k1)
  | ixor =>
    simp only [av_ok, Bool.and_eq_true, decide_eq_true_eq] at hok
    obtain ⟨rfl, hd⟩ := hok
    simp only [av_one] at hs
    exact sd_bin r hs kk (fun x y z rest hz k1 => by cases hz; exact lv_ixor hx hb hd k1)
  | ishl =>
    simp only [av_ok, Bool.and_eq_true, decide_eq_true_eq] at hok
    obtain ⟨rfl, hd⟩ := hok
    simp only [av_one] at hs
    exact sd_bin r hs kk (fun x y z rest hz k1 => by cases hz; exact lv_ishl hx hb hd k1)
  | ishr =>
    simp only [av_ok, Bool.and_eq_true, decide_eq_true_eq] at hok
    obtain ⟨rfl, hd⟩ := hok
    simp only [av_one] at hs
    exact sd_bin r hs kk (fun x y z rest hz k1 => by cases hz; exact lv_ishr hx hb hd k1)
  | iushr =>
    simp only [av_ok, Bool.and_eq_true, decide_eq_true_eq] at hok
    obtain ⟨rfl, hd⟩ := hok
    simp only [av_one] at hs
    exact sd_bin r hs kk (fun x y z rest hz k1 => by cases hz; exact lv_iushr hx hb hd rfl k1)
  | i2l =>
    simp only [av_one] at hs
    split at hs
    · cases hs
      simp only [av_ok, Bool.and_eq_true, decide_eq_true_eq] at hok
      obtain ⟨rfl, hd⟩ := hok
      exact lv_i2l hx hb hd rfl (kk σ ls H locs (r.stk (av_co trivial (av_tl hst))))
    · cases hs
  | i2b =>
    simp only [av_one] at hs
    split at hs
    · cases hs
      simp only [av_ok, Bool.and_eq_true, decide_eq_true_eq] at hok
      obtain ⟨rfl, hd⟩ := hok
      exact lv_i2b hx hb hd rfl (kk σ ls H locs (r.stk (av_co trivial (av_tl hst))))
    · cases hs
  | lcmp =>
    simp only [av_one] at hs
    split at hs
    · cases hs
      simp only [av_ok, Bool.and_eq_true, decide_eq_true_eq] at hok
      obtain ⟨rfl, hd⟩ := hok
      exact W.lcmp hx hb hd (kk σ ls H locs (r.stk (av_co trivial (av_tl (av_tl hst)))))
    · cases hs
  | if_icmp k t =>
    simp only [av_one] at hs
    simp only [av_ok, Bool.and_eq_true, decide_eq_true_eq] at hok
    obtain ⟨⟨rfl, ht⟩, hd⟩ := hok
    split at hs
    · next y x r0 =>
      refine sd_icmp hx hb ht hd (fun hz => ?_) (fun hz => ?_)
      · rw [if_pos hz] at hs
        simp only [av_goto] at hs
        cases hs
        exact kk σ ls H locs (r.stk (av_tl (av_tl hst)))
      · rw [if_neg hz] at hs
        cases hs
        exact kk σ ls H locs (r.stk (av_tl (av_tl hst)))
    · cases hs
  | ifCond k t =>
    simp only [av_one] at hs
    simp only [av_ok, Bool.and_eq_true, decide_eq_true_eq] at hok
    obtain ⟨⟨rfl, ht⟩, hd⟩ := hok
    split at hs
    · next x r0 =>
      refine sd_if hx hb ht hd (fun hz => ?_) (fun hz => ?_)
      · rw [if_pos hz] at hs
        simp only [av_goto] at hs
        cases hs
        exact kk σ ls H locs (r.stk (av_tl hst))
      · rw [if_neg hz] at hs
        cases hs
        exact kk σ ls H locs (r.stk (av_tl hst))
    · cases hs
  | ifnonnull t =>
    simp only [av_one] at hs
    simp only [av_ok, Bool.and_eq_true, decide_eq_true_eq] at hok
    obtain ⟨⟨rfl, ht⟩, hd⟩ := hok
    split at hs
    · next a r0 =>
      simp only [av_goto] at hs
      cases hs
      exact lv_ifnonnull hx hb hd (by omega) (kk σ ls H locs (r.stk (av_tl hst)))
    · next r0 =>
      cases hs
      exact lv_ifnonnullN hx hb hd (kk σ ls H locs (r.stk (av_tl hst)))
    · cases hs
  | goto t =>
    simp only [av_one, av_goto] at hs
    simp only [av_ok, Bool.and_eq_true, decide_eq_true_eq] at hok
    obtain ⟨⟨rfl, ht⟩, hd⟩ := hok
    cases hs
    exact lv_goto hx hb hd (by omega) (kk σ ls H locs r)
  | tableswitch d lo hi ts =>
    simp only [av_one] at hs
    simp only [av_ok, Bool.and_eq_true, decide_eq_true_eq] at hok
    obtain ⟨⟨h0, hts1⟩, hd⟩ := hok
    split at hs
    · next x r0 =>
      split at hs
      · next hz =>
        simp only [av_goto] at hs
        cases hs
        exact lv_tableOut hx hb hd hz (by omega) (kk σ ls H locs (r.stk (av_tl hst)))
      · next hz =>
        split at hs
        · next t htt =>
          simp only [av_goto] at hs
          cases hs
          have h1 : 0 ≤ t := by
            have h2 := Array.all_eq_true'.mp hts1 t (Array.mem_of_getElem? htt)
            simpa using h2
          exact lv_tableIn (off := t - pc) hx hb hd (fun q => hz (Or.inl q)) (fun q => hz (Or.inr q)) (by rw [Array.getElem?_map, htt]; rfl) (by omega) (kk σ ls H locs (r.stk (av_tl hst)))
        · cases hs
    · cases hs
  | getfield q => exact sd_field hE hF0 r hok hs kk
  | putfield q => exact sd_put hE hF0 r hok hs kk
  | iaload => exact sd_arr hE hF0 r (Or.inl rfl) hok hs kk
  | baload => exact sd_arr hE hF0 r (Or.inr (Or.inl rfl)) hok hs kk
  | laload => exact sd_arr hE hF0 r (Or.inr (Or.inr (Or.inl rfl))) hok hs kk
  | aaload => exact sd_arr hE hF0 r (Or.inr (Or.inr (Or.inr (Or.inl rfl)))) hok hs kk
  | arraylength => exact sd_arr hE hF0 r (Or.inr (Or.inr (Or.inr (Or.inr rfl)))) hok hs kk
  | iastore => exact sd_ast hE hF0 r (Or.inl rfl) hok hs kk
  | bastore => exact sd_ast hE hF0 r (Or.inr (Or.inl rfl)) hok hs kk
  | lastore => exact sd_ast hE hF0 r (Or.inr (Or.inr (Or.inl rfl))) hok hs kk
  | aastore => exact sd_ast hE hF0 r (Or.inr (Or.inr (Or.inr rfl))) hok hs kk
  | newarray k => exact sd_newa hE hF0 r hok hs hc1 hs1 kk
  | anewarray k => exact sd_newr hE hF0 r hok hs hc1 hs1 kk
  | new ci => exact sd_new hE hF0 r hok hs hc1 hs1 kk
  | monitorenter =>
    simp only [av_one] at hs
    simp only [av_ok, Bool.and_eq_true, decide_eq_true_eq] at hok
    obtain ⟨⟨rfl, hd⟩, hm⟩ := hok
    split at hs
    · next a r0 =>
      split at hs
      · next h8 =>
        cases hs
        refine W.objInit (g := F0 m pc ls _) hx hb hown (hts _ ((hE.2.2.2.2.1 _ hm).2.1 rfl)) (hts _ hE.2.2.2.2.2.2.2.1.1) (hts _ hE.2.2.2.2.2.2.2.1.2) rfl (by rw [hml]; exact hlh.1) rfl hd (by omega) ?_ (kk σ ls H locs (r.stk (av_tl hst)))
        have e1 := lv_room (m := m) (pc := pc) (ls := ls) (rest := av_v σ τ (Value.ref a) :: st'.map (av_v σ τ)) (st := st'.map (av_v σ τ)) (by rw [av_cats]; exact h8)
        have e3 := hR.2
        exact Nat.le_trans (Nat.add_le_add_right e1 12) (by omega)
      · cases hs
    · cases hs
  | invokedynamic k =>
    match k, hs, hok with
    | 0, hs, hok => exact sd_copy hE hF0 r hok hs kk
    | 1, hs, hok =>
      simp only [av_one] at hs
      simp only [av_ok, Bool.and_eq_true, decide_eq_true_eq] at hok
      obtain ⟨⟨rfl, hd⟩, hm⟩ := hok
      split at hs
      · next a r0 _ =>
        split at hs
        · next h8 =>
          cases hs
          exact hStr.1 pc ix a ls (r0.map (av_v σ τ)) H locs cells slots hd hm hlh.1 r.2.2.2.2.2.2.2.2 (by rw [av_cats σ τ]; exact h8) hc1 hs1 (kk σ ls H locs (r.stk (av_co trivial (av_tl hst))))
        · cases hs
      · cases hs
    | 2, hs, hok =>
      simp only [av_one] at hs
      simp only [av_ok, Bool.and_eq_true, decide_eq_true_eq] at hok
      obtain ⟨⟨rfl, hd⟩, hm⟩ := hok
      split at hs
      · next i a r0 _ =>
        split at hs
        · next h8 =>
          cases hs
          exact hStr.2 pc ix a i ls (r0.map (av_v σ τ)) H locs cells slots hd hm hlh.1 r.2.2.2.2.2.2.2.2 (by rw [av_cats σ τ]; exact h8.1) hc1 hs1 h8.2 (kk σ ls H locs (r.stk (av_co trivial (av_tl (av_tl hst)))))
        · cases hs
      · cases hs
    | 3, hs, hok => exact sd_clone hE hF0 r hok hs hc1 hs1 kk
    | k + 4, hs, hok => simp only [av_one] at hs; cases hs
  | checkcast k => exact sd_cast hE hF0 r hok hs kk
  | instanceof k => simp only [av_one] at hs; split at hs <;> cases hs
  | ireturn =>
    simp only [av_one] at hs
    split at hs
    · split at hs
      · cases hs
      · split at hs <;> cases hs
      · cases hs
    · cases hs
  | areturn =>
    simp only [av_one] at hs
    split at hs
    · split at hs <;> cases hs
    · cases hs
  | return_ =>
    simp only [av_one] at hs
    split at hs <;> cases hs
  | invokestatic mj => simp only [av_one] at hs; split at hs <;> cases hs
  | invokevirtual mj => simp only [av_one] at hs; split at hs <;> cases hs
  | invokespecial mj => simp only [av_one] at hs; split at hs <;> cases hs
  | _ => simp only [av_one] at hs; cases hs
end SH
end
section
/-! ===== BEGINNINGS AND ENDS ===== -/
/-- what is carried beside the tables' good words: words of the nest, of declarations, of casts; classes that are not castable; two statics of Throwable; the texts -/
def av_Ol2 (P : av_P) (Xs : List Cond) (Nc : List (String × String)) (nt : Nat) (τ : Nat → Nat) (A : Nat → Prop) (s : State) : Prop :=
  (∀ w ∈ Xs, va_Nw w s) ∧ (∀ q ∈ Nc, va_Nc q.1 q.2 s) ∧ (vx_Zq Bundle.tN "UNASSIGNED_STACK" Bundle.steD A s s.heap ∧ vx_Zq Bundle.tN "SUPPRESSED_SENTINEL" Bundle.listD A s s.heap) ∧ va_Z "java/lang/String" "COMPACT_STRINGS" "Z" (.int 1) A s s.heap ∧
  ∀ i, i < nt → va_O "java/lang/String" (τ (i + 1)) A s s.heap ∧ va_OF "java/lang/String" "coder" "B" (.int 0) (τ (i + 1)) A s s.heap ∧ ∃ v, va_OF "java/lang/String" "value" "[B" (.ref v) (τ (i + 1)) A s s.heap ∧ va_T .byte v (av_tx P i).length (fun j => .int ((av_tx P i).getD j 0)) A s s.heap
def av_xw (w : Cond) : Bool := match w with
  | .methodLinkNest _ _ _ _ => true
  | .declares _ => true
  | .castable _ _ => true
  | _ => false
theorem av_Nw_go {w : Cond} (hw : av_xw w = true) {s U : State} (hW : s.WarmedH U.vm) (h : va_Nw w s) : va_Nw w U := by
  cases w with
  | methodLinkNest a i x b => exact va_Nw.warmM hW h
  | declares x => exact va_Nw.warmD hW h
  | castable a b => exact va_Nw.warmC hW h
  | _ => cases hw
theorem av_Old_go {P : av_P} {K : av_K} {τ : Nat → Nat} {A : Nat → Prop} {s U : State} (h : av_Old P K τ A s) (hW : s.WarmedH U.vm) (hz : s.heap.size ≤ U.heap.size) (hq : ∀ q, q < s.heap.size → ¬ A q → U.heap[q]? = s.heap[q]?) : av_Old P K τ A U := by
  refine ⟨fun q hq1 => ?_, ⟨?_, Nat.lt_of_lt_of_le h.2.1.2.1 hz, h.2.1.2.2⟩, va_AO.moved hW.alike h.2.2.1, va_Nw.warmC hW h.2.2.2⟩
  · obtain ⟨tx, hx⟩ := h.1 q hq1
    exact ⟨tx, vk_R.warm hW hx⟩
  · exact va_X.moved hW.alike (h.2.1.1.kept (hq _ h.2.1.2.1 h.2.1.2.2))
theorem av_Ol2_go {P : av_P} {Xs : List Cond} {Nc : List (String × String)} {nt : Nat} {τ : Nat → Nat} {A : Nat → Prop} {s U : State} (hX : ∀ w ∈ Xs, av_xw w = true) (h : av_Ol2 P Xs Nc nt τ A s) (hW : s.WarmedH U.vm) (hq : ∀ q, q < s.heap.size → ¬ A q → U.heap[q]? = s.heap[q]?) : av_Ol2 P Xs Nc nt τ A U := by
  refine ⟨fun w hw => av_Nw_go (hX w hw) hW (h.1 w hw), fun q hq1 => va_Nc.moved hW.alike (h.2.1 q hq1), ⟨vx_Zq.moved hW.alike (h.2.2.1.1.kept hq), vx_Zq.moved hW.alike (h.2.2.1.2.kept hq)⟩, va_Z.moved hW.alike (h.2.2.2.1.kept hq), fun i hi => ?_⟩
  obtain ⟨h1, h2, v, h3, h4⟩ := h.2.2.2.2 i hi
  exact ⟨va_O.moved hW.alike (h1.kept hq), va_OF.moved hW.alike (h2.kept hq), v, va_OF.moved hW.alike (h3.kept hq), va_T.moved hW.alike (h4.kept hq)⟩
/-- the cells at a state -/
def av_B (cy τ : Nat → Nat) (D : va_G) (cl : List vw_C) (A : Nat → Prop) (σ : Nat → Nat) (h : av_H) (t : State) : Prop :=
  va_P D cl (av_ws cy σ τ h) t.heap ∧ va_K D cl (av_tys cy) t ∧ va_D A (av_ws cy σ τ h) ∧ ∀ x ∈ h, av_we h.length x
/-- a method's start -/
def av_Pc (P : av_P) (K : av_K) (Xs : List Cond) (Nc : List (String × String)) (nt : Nat) (cy τ : Nat → Nat) (D : va_G) (cl : List vw_C) (A : Nat → Prop) (σ : Nat → Nat) (h : av_H) (as : List Value) : Array Value → State → Prop :=
  va_Pc (as.map (av_v σ τ)) (fun U => av_B cy τ D cl A σ h U ∧ av_Old P K τ A U ∧ av_Ol2 P Xs Nc nt τ A U ∧ ∀ q, U.heap.size ≤ q → A q)
/-- its end: it answers .. -/
def av_Qc (cy τ : Nat → Nat) (D : va_G) (cl : List vw_C) (A : Nat → Prop) (σ0 : Nat → Nat) (n0 : Nat) (o : Option Value ⊕ String) (h' : av_H) : Array Value → State → Outcome → State → Prop := fun _ st oc t => match o with
  | .inl v => ∃ σ', (∀ k, k < n0 → σ' k = σ0 k) ∧ n0 ≤ h'.length ∧ oc = .returned (v.map (av_v σ' τ)) ∧ (∀ w, v = some w → av_wv h'.length w) ∧ av_B cy τ D cl A σ' h' t ∧ va_F A st t
  | .inr _ => False
/-- .. or throws -/
def av_Xc (cy τ : Nat → Nat) (D : va_G) (cl : List vw_C) (A : Nat → Prop) (σ0 : Nat → Nat) (n0 : Nat) (o : Option Value ⊕ String) (h' : av_H) : String → State → State → Prop := fun E st t => match o with
  | .inl _ => False
  | .inr E' => E = E' ∧ ∃ σ', (∀ k, k < n0 → σ' k = σ0 k) ∧ n0 ≤ h'.length ∧ av_B cy τ D cl A σ' h' t ∧ va_F A st t
theorem av_Pc_blind {P : av_P} {K : av_K} {Xs : List Cond} {Nc : List (String × String)} {nt : Nat} {cy τ : Nat → Nat} {D : va_G} {cl : List vw_C} {A : Nat → Prop} {σ : Nat → Nat} {h : av_H} {as : List Value} (hX : ∀ w ∈ Xs, av_xw w = true) : FrameBlind (av_Pc P K Xs Nc nt cy τ D cl A σ h as) := by
  intro a U g mk q
  obtain ⟨q0, ⟨q1, q2, q3, q4⟩, q5, q6, q7⟩ := q
  have hW : U.WarmedH (U.calling g mk a).vm := State.WarmedH.refl U
  exact ⟨q0, ⟨q1, va_K.moved (u := U) (U := U.calling g mk a) (Vm.Alike.refl U.vm) q2, q3, q4⟩, av_Old_go (U := U.calling g mk a) q5 hW (Nat.le_refl _) (fun _ _ _ => rfl), av_Ol2_go (U := U.calling g mk a) hX q6 hW (fun _ _ _ => rfl), q7⟩
section SI
variable {P : av_P} {K : av_K} {Ts : List Cond} {cl : List vw_C} {cy τ : Nat → Nat} {D : va_G} {A : Nat → Prop} {σ0 σ : Nat → Nat} {n0 nL oc mi pc : Nat} {ini : Bool} {cc : ByteArray}
variable {p : Program} {l : Launch} {e : Env} {R : Room} {s : State} {m : MethodId} {args : Array Value} {below : List Frame} {meth : Method} {c : Code} {H : Heap} {locs : List Loc} {cells slots : Nat} {Q : State → Prop} {ls : Array Slot}
variable {L L' : av_L} {st st' : List Value} {h h' : av_H} {pc' cells' slots' : Nat}
/-- an end -/
theorem sd_ret (hF : av_Fix P K Ts cl cy τ D A nL oc ini cc p R s m args meth c) (r : av_Rel cy τ D cl A s.heap σ0 n0 nL σ L st h ls H locs) (hret : meth.sig.returnType = (av_me P mi).2.2.2.1) (hlocks : meth.locks = false) {ins : Instr} {len ix : Nat}
    (hi : ins = .ireturn ∨ ins = .areturn ∨ ins = .return_) (hok : av_ok K cl oc ini cc pc ins len ix = true) {v : Option Value} (hs : av_one P mi pc ins len L st h cells slots = some (.inr (.inl v))) :
    W p l e R s m args below meth c H locs cells slots (vx_MQ below (av_Qc cy τ D cl A σ0 n0 (.inl v) h) (av_Xc cy τ D cl A σ0 n0 (.inl v) h) args s cells slots A) (F0 m pc ls (st.map (av_v σ τ))) := by
  obtain ⟨⟨hx, hb, hml, hown⟩, hts, hin, hK, hA, hOld, hR⟩ := hF
  obtain ⟨r1, r2, r3, r4, r5, r6, r7, r8, r9⟩ := r
  apply vx_ret
  have key : ∀ (w : Option Value), (∀ z, w = some z → av_wv h.length z) → ∀ t : State, t.heap = H → s.WarmedH t.vm → av_Qc cy τ D cl A σ0 n0 (.inl w) h args s (.returned (w.map (av_v σ τ))) t := fun w hw t ht hW =>
    ⟨σ, r1, r2, rfl, hw, ⟨by rw [ht]; exact r7, va_K.moved hW.alike hK, r8, r6⟩, r9.F ht⟩
  rcases hi with rfl | rfl | rfl
  · simp only [av_ok, Bool.and_eq_true, decide_eq_true_eq] at hok
    obtain ⟨rfl, hd⟩ := hok
    simp only [av_one] at hs
    split at hs
    · next x =>
      split at hs
      · next ht =>
        cases hs
        exact W.iret hx hb (hret.trans ht) (fun t ht hW => key (some (.int x)) (fun z hz => by cases hz; trivial) t ht hW) r9.2.2 hd
      · next ht =>
        split at hs
        · next h01 =>
          cases hs
          exact W.zret (ty := .boolean) hx hb (hret.trans ht) (by rcases h01 with rfl | rfl <;> decide) (fun t ht hW => key (some (.int x)) (fun z hz => by cases hz; trivial) t ht hW) r9.2.2 hd
        · cases hs
      · cases hs
    · cases hs
  · simp only [av_ok, Bool.and_eq_true, decide_eq_true_eq] at hok
    obtain ⟨rfl, hd⟩ := hok
    simp only [av_one] at hs
    split at hs
    · next x =>
      split at hs
      · next C ht =>
        cases hs
        exact W.aret (v := .ref (σ x)) hx hb (hret.trans ht) (Or.inl ⟨_, rfl⟩) (Or.inr ⟨_, rfl⟩) (fun t ht hW => key (some (.ref x)) (fun z hz => by cases hz; exact av_hd r5) t ht hW) r9.2.2 hd
      · next C ht =>
        cases hs
        exact W.aret (v := .ref (σ x)) hx hb (hret.trans ht) (Or.inr ⟨_, rfl⟩) (Or.inr ⟨_, rfl⟩) (fun t ht hW => key (some (.ref x)) (fun z hz => by cases hz; exact av_hd r5) t ht hW) r9.2.2 hd
      · cases hs
    · cases hs
  · simp only [av_ok, Bool.and_eq_true, decide_eq_true_eq] at hok
    obtain ⟨rfl, hd⟩ := hok
    simp only [av_one] at hs
    split at hs
    · next ht =>
      cases hs
      exact W.vret hx hb (hret.trans ht) (fun t ht hW => key none (fun z hz => by cases hz) t ht hW) r9.2.2 hd
    · cases hs
end SI
end
section
/-! ===== THROWS AND CALLS ===== -/
def av_nms : List String := ["java/lang/RuntimeException", "java/lang/Exception"]
/-- the throws: own class, the class's entry, the text's, the constructor's, is the text's wide -/
abbrev av_I : Type := List (Nat × Nat × Nat × Nat × Bool)
def av_EnvT (P : av_P) (K : av_K) (Ts Xs : List Cond) (I : av_I) : Prop :=
  ∀ k oc ik is ic wd, I[k]? = some (oc, ik, is, ic, wd) → Bundle.fit (av_th P k) = true ∧ Cond.classLink (av_cn K oc) ik (av_th P k) ∈ Ts ∧ Cond.initialized (av_th P k) ∈ Ts ∧ (∃ si, (oc, is, si) ∈ av_sl K) ∧
    (∀ w ∈ vx_atS (av_cn K oc) ic (av_th P k) av_nms, w ∈ Ts ∨ w ∈ Xs) ∧ ∀ w ∈ vx_atS (av_cn K oc) ic (av_th P k) av_nms, vx_ot w = true
def av_tok (I : av_I) (oc : Nat) (cc : ByteArray) (pc k : Nat) : Bool := match I[k]? with
  | some (oc', ik, is, ic, false) => decide (oc' = oc) && decide (decode cc pc = .ok (.new ik, 3)) && decide (decode cc (pc + 3) = .ok (.dup, 1)) && decide (decode cc (pc + 4) = .ok (.ldc is, 2)) && decide (decode cc (pc + 6) = .ok (.invokespecial ic, 3)) && decide (decode cc (pc + 9) = .ok (.athrow, 1))
  | some (oc', ik, is, ic, true) => decide (oc' = oc) && decide (decode cc pc = .ok (.new ik, 3)) && decide (decode cc (pc + 3) = .ok (.dup, 1)) && decide (decode cc (pc + 4) = .ok (.ldc_w is, 3)) && decide (decode cc (pc + 7) = .ok (.invokespecial ic, 3)) && decide (decode cc (pc + 10) = .ok (.athrow, 1))
  | none => false
section SJ
variable {P : av_P} {K : av_K} {Ts Xs : List Cond} {Nc : List (String × String)} {nt : Nat} {I : av_I} {cl : List vw_C} {cy τ : Nat → Nat} {D : va_G} {A : Nat → Prop} {σ0 σ : Nat → Nat} {n0 nL oc mi pc : Nat} {ini : Bool} {cc : ByteArray}
variable {p : Program} {l : Launch} {e : Env} {R : Room} {s : State} {m : MethodId} {args : Array Value} {below : List Frame} {meth : Method} {c : Code} {H : Heap} {locs : List Loc} {cells slots : Nat} {Q : State → Prop} {ls : Array Slot}
variable {L L' : av_L} {st st' : List Value} {h h' : av_H} {pc' cells' slots' : Nat}
theorem av_B_kept (r : av_Rel cy τ D cl A s.heap σ0 n0 nL σ L st h ls H locs) (hK : va_K D cl (av_tys cy) s) {t : State} (hvm : s.vm.Alike t.vm) (hq : ∀ q : Nat, q < H.size → t.heap[q]? = H[q]?) : av_B cy τ D cl A σ h t :=
  ⟨r.2.2.2.2.2.2.1.kept (fun k x hx => hq x.1 ((r.2.2.2.2.2.2.1 k x hx).lt)), va_K.moved hvm hK, r.2.2.2.2.2.2.2.1, r.2.2.2.2.2.1⟩
theorem sd_thr (hT : av_EnvT P K Ts Xs I) (hF : av_Fix P K Ts cl cy τ D A nL oc ini cc p R s m args meth c) (hO2 : av_Ol2 P Xs Nc nt τ A s) (hXs : ∀ w ∈ Xs, av_xw w = true) (hGd : ∀ w ∈ Ts, goodWord w = true) (hl : l.stackTraces = false) (hlocks : meth.locks = false) (htab : c.exceptionTable.toList = [])
    (r : av_Rel cy τ D cl A s.heap σ0 n0 nL σ L st h ls H locs) {k : Nat} (hok : av_tok I oc cc pc k = true) (h8 : (st.map fun v => v.category).sum ≤ 8) (hc : cells + 1 ≤ R.cells) (hs : slots + 6 ≤ R.slots) :
    W p l e R s m args below meth c H locs cells slots (vx_MQ below (av_Qc cy τ D cl A σ0 n0 (.inr (av_th P k)) h) (av_Xc cy τ D cl A σ0 n0 (.inr (av_th P k)) h) args s (cells + 1) (slots + 6) A) (F0 m pc ls (st.map (av_v σ τ))) := by
  obtain ⟨⟨hx, hb, hml, hown⟩, hts, hin, hK, hA, hOld, hR⟩ := hF
  have hX : ∀ t : State, s.vm.Alike t.vm → H.size ≤ t.heap.size → (∀ q : Nat, q < H.size → t.heap[q]? = H[q]?) → av_Xc cy τ D cl A σ0 n0 (.inr (av_th P k)) h (av_th P k) s t := fun t hvm hz hq =>
    ⟨rfl, σ, r.1, r.2.1, av_B_kept r hK hvm hq, ⟨Nat.le_trans r.2.2.2.2.2.2.2.2.1 hz, fun q h1 h2 => (hq q (Nat.lt_of_lt_of_le h1 r.2.2.2.2.2.2.2.2.1)).trans (r.2.2.2.2.2.2.2.2.2.1 q h1 h2)⟩⟩
  have hout : ∀ j, ∀ x ∈ c.exceptionTable.toList, covers x j = false := fun j x hx => by rw [htab] at hx; cases hx
  have hcat := av_cats σ τ st
  have hlen : av_nms.length = 2 := rfl
  unfold av_tok at hok
  split at hok
  · next oc' ik is ic hI =>
    simp only [Bool.and_eq_true, decide_eq_true_eq] at hok
    obtain ⟨⟨⟨⟨⟨rfl, d0⟩, d3⟩, d4⟩, d6⟩, d9⟩ := hok
    obtain ⟨t1, t2, t3, ⟨si, hsi⟩, t5, t6⟩ := hT _ _ _ _ _ _ hI
    obtain ⟨tx, hZ⟩ := hOld.1 _ hsi
    have hat : ∀ w ∈ vx_atS (av_cn K oc') ic (av_th P k) av_nms, w.before args s = true := fun w hw => (t5 w hw).elim (fun h1 => hts w h1) (fun h1 => va_Nw.use (by have h2 := hXs w h1; cases w <;> first | rfl | cases h2) (hO2.1 w h1))
    exact vx_throwS (names := av_nms) hx hb hl hown t1 (by decide) (hts _ t2) (hts _ t3) hZ hat (fun w hw => by
      rcases List.mem_cons.mp hw with h1 | h1
      · rw [h1]; exact Bool.or_eq_true _ _ |>.mpr (Or.inr (hGd _ t2))
      · rcases List.mem_cons.mp h1 with h2 | h2
        · rw [h2]; exact Bool.or_eq_true _ _ |>.mpr (Or.inr (hGd _ t3))
        · exact t6 w h2) hO2.2.2.1.1 hO2.2.2.1.2 r.2.2.2.2.2.2.2.2 (by rw [hml]; exact r.2.2.1.2.1) d0 d3 d4 d6 d9 (hout _) (by omega) (by omega) hc hs hlocks hX r.2.2.2.2.2.2.2.2.2.2 (Nat.le_refl _) (Nat.le_refl _)
  · next oc' ik is ic hI =>
    simp only [Bool.and_eq_true, decide_eq_true_eq] at hok
    obtain ⟨⟨⟨⟨⟨rfl, d0⟩, d3⟩, d4⟩, d6⟩, d9⟩ := hok
    obtain ⟨t1, t2, t3, ⟨si, hsi⟩, t5, t6⟩ := hT _ _ _ _ _ _ hI
    obtain ⟨tx, hZ⟩ := hOld.1 _ hsi
    have hat : ∀ w ∈ vx_atS (av_cn K oc') ic (av_th P k) av_nms, w.before args s = true := fun w hw => (t5 w hw).elim (fun h1 => hts w h1) (fun h1 => va_Nw.use (by have h2 := hXs w h1; cases w <;> first | rfl | cases h2) (hO2.1 w h1))
    exact vx_throwSW (names := av_nms) hx hb hl hown t1 (by decide) (hts _ t2) (hts _ t3) hZ hat (fun w hw => by
      rcases List.mem_cons.mp hw with h1 | h1
      · rw [h1]; exact Bool.or_eq_true _ _ |>.mpr (Or.inr (hGd _ t2))
      · rcases List.mem_cons.mp h1 with h2 | h2
        · rw [h2]; exact Bool.or_eq_true _ _ |>.mpr (Or.inr (hGd _ t3))
        · exact t6 w h2) hO2.2.2.1.1 hO2.2.2.1.2 r.2.2.2.2.2.2.2.2 (by rw [hml]; exact r.2.2.1.2.1) d0 d3 d4 d6 d9 (hout _) (by omega) (by omega) hc hs hlocks hX r.2.2.2.2.2.2.2.2.2.2 (Nat.le_refl _) (Nat.le_refl _)
  · cases hok
/-- behind a call: it has answered, or thrown -/
theorem sd_ran (hK : va_K D cl (av_tys cy) s) (r : av_Rel cy τ D cl A s.heap σ0 n0 nL σ L st h ls H locs) {rest : List Value} (hrest : ∀ v ∈ rest, av_wv h.length v) {mc ms : Nat} {st0 : List Value} {o : Option Value ⊕ String} {a0 : Array Value}
    (hr : vx_Run p l e R s m args below meth c H locs cells slots mc ms (F0 m pc ls st0) (rest.map (av_v σ τ)) (av_Qc cy τ D cl A σ h.length o h' a0) (av_Xc cy τ D cl A σ h.length o h') A)
    (kret : ∀ v, o = .inl v → av_K1 cy τ D cl A σ0 n0 nL p l e R s m args below meth c Q (pc + 3) L (v.toList ++ rest) h' (cells + mc) (slots + ms))
    (kthr : ∀ E, o = .inr E → ∀ (σ' : Nat → Nat) (H' : Heap) (locs' : List Loc) (q : Addr) (ce : Cell), av_Rel cy τ D cl A s.heap σ0 n0 nL σ' L [] h' ls H' locs' → H'[q]? = some ce → ce.vm = .none → s.vm.findClass E = some ce.cls → vx_W p l e R s m args below meth c H' locs' (cells + mc) (slots + ms) Q (F0 m pc ls (rest.map (av_v σ τ))) q) :
    W p l e R s m args below meth c H locs cells slots Q (F0 m pc ls st0) := by
  intro T hT X
  obtain ⟨r1, r2, r3, r4, r5, r6, r7, r8, r9⟩ := r
  have key : ∀ (σ' : Nat → Nat) (t T' : State) (st₀ : State) (Lc : List Loc) (stk : List Value), st₀.heap = H → T'.heap = t.heap → (∀ q ∈ Lc, A q.base) → (∀ k, k < h.length → σ' k = σ k) → h.length ≤ h'.length → av_B cy τ D cl A σ' h' t → va_F A st₀ t → (∀ v ∈ stk, av_wv h'.length v) →
      av_Rel cy τ D cl A s.heap σ0 n0 nL σ' L stk h' ls T'.heap (locs ++ Lc) := fun σ' t T' st₀ Lc stk h0 e1 hL hσ hn hB hF hstk => by
    obtain ⟨k1, k2, k3⟩ := vx_keep (A0 := A) (A1 := A) (free := A) h0 e1 r9 (fun _ _ z => z) (fun _ z => z) hL hF
    refine ⟨fun k hk => (hσ k (Nat.lt_of_lt_of_le hk r2)).trans (r1 k hk), Nat.le_trans r2 hn, ⟨r3.1, av_lv_ext hσ r4 r3.2⟩, fun i v hv => ⟨(r4 i v hv).1, av_wv_le hn (r4 i v hv).2⟩, hstk, hB.2.2.2, by rw [e1]; exact hB.1, hB.2.2.1, k3⟩
  rcases hr T hT X with ⟨v, st₀, t, T', Lc, h0, X', hL, e1, e2, hq, go⟩ | ⟨q, st₀, t, T', Lc, E, ce, h0, X', hL, e1, e2, hq, hce, hcv, hcl, go⟩
  · rcases o with v0 | E
    · obtain ⟨σ', hσ, hn, hv, hwv, hB, hF⟩ := hq
      cases hv
      have hrel := key σ' t T' st₀ Lc (v0.toList ++ rest) h0 e1 hL hσ hn hB hF (fun w hw => by
        rcases List.mem_append.mp hw with h1 | h1
        · exact hwv w (by simpa using h1)
        · exact av_wv_le hn (hrest w h1))
      obtain ⟨t2, a1, b1⟩ := kret v0 rfl σ' ls T'.heap (locs ++ Lc) hrel T' rfl X'
      refine ⟨t2, go t2 ?_, b1⟩
      have e3 : (v0.toList ++ rest).map (av_v σ' τ) = (v0.map (av_v σ' τ)).toList ++ rest.map (av_v σ τ) := by
        rw [List.map_append, List.map_congr_left (fun w hw => av_v_ext hσ (hrest w hw))]
        cases v0 <;> rfl
      rw [e3] at a1
      exact a1
    · exact hq.elim
  · rcases o with v0 | E0
    · exact hq.elim
    · obtain ⟨rfl, σ', hσ, hn, hB, hF⟩ := hq
      have hrel := key σ' t T' st₀ Lc [] h0 e1 hL hσ hn hB hF (fun w hw => by cases hw)
      obtain ⟨t2, a1, b1⟩ := kthr E rfl σ' T'.heap (locs ++ Lc) q ce hrel (by rw [e1]; exact hce) hcv hcl T' rfl X'
      exact ⟨t2, go.trans a1, b1⟩
end SJ
end
section
/-! ===== CALLS BY CONTRACT; THE WHOLE RUN ===== -/
def av_cw (M : av_M) : Cond := match M.2.2.2.2.2.1 with
  | [] => .code M.1 M.2.1 M.2.2.1 M.2.2.2.1
  | hh => .codeWith M.1 M.2.1 M.2.2.1 M.2.2.2.1 hh
def av_rm (d c s : Nat) : Room := { frames := d + 20, cells := c, slots := s, locals := 100 * d + 400 }
/-- what the tables say of the methods: nm of them, their classes' numbers (as the code's), their kinds (0 static, 1 of an object, 2 a constructor) -/
def av_EnvM (P : av_P) (K : av_K) (Ts Xs : List Cond) (cl : List vw_C) (nm : Nat) (mo mk : Nat → Nat) : Prop :=
  (∀ w ∈ Ts, goodWord w = true) ∧ (∀ w ∈ Xs, av_xw w = true) ∧
  (∀ mj, mj < nm → av_cw (av_me P mj) ∈ Ts ∧ plainName (av_me P mj).1.cls = true ∧ ((av_me P mj).1.cls ≠ "java/lang/invoke/MethodHandle" ∧ (av_me P mj).1.cls ≠ "java/lang/invoke/VarHandle") ∧ Cond.initialized (av_me P mj).1.cls ∈ Ts ∧ (av_me P mj).2.2.1 ≤ 80 ∧ (av_me P mj).2.2.2.2.1 ≤ (av_me P mj).2.2.1 ∧ av_cn K (mo mj) = (av_me P mj).1.cls) ∧
  (∀ mj, mj < nm → (mk mj = 0 → Cond.static (av_me P mj).1 ∈ Ts ∧ (parseMethodDescriptor (av_me P mj).1.desc).map (fun d => d.parameters.length) = some (av_me P mj).2.2.2.2.1) ∧
    (mk mj = 1 → Cond.instanceMethod (av_me P mj).1 ∈ Ts ∧ Cond.selects (av_me P mj).1.cls (av_me P mj).1 (av_me P mj).1 ∈ Ts ∧ (∃ n, (parseMethodDescriptor (av_me P mj).1.desc).map (fun d => d.parameters.length) = some n ∧ (av_me P mj).2.2.2.2.1 = n + 1) ∧ (av_me P mj).2.2.2.2.2.1 = [] ∧ cl[(av_me P mj).2.2.2.2.2.2.2.1]?.map (fun r => r.1) = some (av_me P mj).1.cls) ∧
    (mk mj = 2 → Cond.instanceMethod (av_me P mj).1 ∈ Ts ∧ (av_me P mj).1.name = "<init>" ∧ (∃ n, (parseMethodDescriptor (av_me P mj).1.desc).map (fun d => d.parameters.length) = some n ∧ (av_me P mj).2.2.2.2.1 = n + 1) ∧ (av_me P mj).2.2.2.2.2.1 = [] ∧ (av_me P mj).2.2.2.1 = none ∧ (av_me P mj).2.2.2.2.2.2.2.2 = false)) ∧
  (∀ q ∈ av_ml K, Cond.methodLink (av_cn K q.1) q.2.1 (av_me P q.2.2).1 ∈ Ts) ∧ ∀ q ∈ av_nl K, Cond.methodLinkNest (av_cn K q.1) q.2.1 (av_me P q.2.2).1 "SinglesPast" ∈ Xs ∧ (av_me P q.2.2).2.2.2.2.2.1 = [] ∧ (av_me P q.2.2).2.2.2.2.2.2.2.2 = false
/-- the op at pc says what the bytes say, calls and throws too -/
def av_chk (P : av_P) (K : av_K) (cl : List vw_C) (I : av_I) (nm : Nat) (mk : Nat → Nat) (oc mi : Nat) (ini : Bool) (cc : ByteArray) (pc : Nat) (ins : Instr) (len ix : Nat) : Bool := match ins with
  | .instanceof k => av_tok I oc cc pc k && decide ((av_me P mi).2.2.2.2.2.1 = [])
  | .invokestatic mj => decide (mj < nm) && decide (mk mj = 0) && decide (len = 3) && decide (decode cc pc = .ok (.invokestatic ix, 3)) && (decide ((oc, ix, mj) ∈ av_ml K) || decide ((oc, ix, mj) ∈ av_nl K))
  | .invokevirtual mj => decide (mj < nm) && decide (mk mj = 1) && decide (len = 3) && decide (decode cc pc = .ok (.invokevirtual ix, 3)) && decide ((oc, ix, mj) ∈ av_ml K)
  | .invokespecial mj => decide (mj < nm) && decide (mk mj = 2) && decide (len = 3) && decide (decode cc pc = .ok (.invokespecial ix, 3)) && (decide ((oc, ix, mj) ∈ av_ml K) || decide ((oc, ix, mj) ∈ av_nl K))
  | ins => av_ok K cl oc ini cc pc ins len ix
theorem met_of {l : Launch} {y : MethodName} {ws : List Cond} {rm : Room} {Pc : Array Value → State → Prop} {Qc : Array Value → State → Outcome → State → Prop} {XC : String → State → State → Prop} {mc ms : Nat} {free : Addr → Prop} (h : vx_Met l y ws rm Pc Qc XC mc ms free) (hX : ∀ E st t, ¬ XC E st t) : Met l y ws rm Pc Qc mc ms free := by
  intro p e ha hc hk s m args below hf happ hP hK
  obtain ⟨n, o, h1, h2, h3, hQ⟩ := h p e ha hc hk s m args below hf happ hP hK
  refine ⟨n, o, h1, h2, h3, ?_⟩
  rcases hQ with hQ | ⟨q, -, E, ce, L, hx, -⟩
  · exact hQ
  · exact absurd hx (hX _ _ _)
section SK
variable {P : av_P} {K : av_K} {Ts Xs : List Cond} {Nc : List (String × String)} {nt nm : Nat} {mo mk : Nat → Nat} {I : av_I} {cl : List vw_C} {cy τ : Nat → Nat} {D : va_G} {A : Nat → Prop} {σ0 σ : Nat → Nat} {n0 nL oc mi pc : Nat} {ini : Bool} {cc : ByteArray}
variable {p : Program} {l : Launch} {e : Env} {R : Room} {s : State} {m : MethodId} {args : Array Value} {below : List Frame} {meth : Method} {c : Code} {H : Heap} {locs : List Loc} {cells slots : Nat} {Q : State → Prop} {ls : Array Slot}
variable {L L' : av_L} {st st' : List Value} {h h' : av_H} {pc' cells' slots' : Nat}
theorem av_pre (hF : av_Fix P K Ts cl cy τ D A nL oc ini cc p R s m args meth c) (hXs : ∀ w ∈ Xs, av_xw w = true) (hO2 : av_Ol2 P Xs Nc nt τ A s) (r : av_Rel cy τ D cl A s.heap σ0 n0 nL σ L st h ls H locs) {as : List Value} :
    ∀ U : State, U.heap = H → s.WarmedH U.vm → av_Pc P K Xs Nc nt cy τ D cl A σ h as (as.map (av_v σ τ)).toArray U := fun U hU hW => by
  obtain ⟨⟨hx, hb, hml, hown⟩, hts, hin, hK, hA, hOld, hR⟩ := hF
  obtain ⟨r1, r2, r3, r4, r5, r6, r7, r8, r9⟩ := r
  exact ⟨rfl, ⟨by rw [hU]; exact r7, va_K.moved hW.alike hK, r8, r6⟩, av_Old_go hOld hW (by rw [hU]; exact r9.1) (fun q h1 h2 => by rw [hU]; exact r9.2.1 q h1 h2), av_Ol2_go hXs hO2 hW (fun q h1 h2 => by rw [hU]; exact r9.2.1 q h1 h2), fun q hq => hA q (Nat.le_trans r9.1 (by rw [← hU]; exact hq))⟩
/-- a call, by the callee's contract -/
theorem sd_go (hM0 : av_EnvM P K Ts Xs cl nm mo mk) (hF : av_Fix P K Ts cl cy τ D A nL oc ini cc p R s m args meth c) (hO2 : av_Ol2 P Xs Nc nt τ A s) (r : av_Rel cy τ D cl A s.heap σ0 n0 nL σ L st h ls H locs) {ins : Instr} {mj len ix : Nat}
    (hi : ins = .invokestatic mj ∨ ins = .invokevirtual mj ∨ ins = .invokespecial mj) (hok : av_chk P K cl I nm mk oc mi ini cc pc ins len ix = true) {as rest : List Value} {mj' : Nat} (hs : av_one P mi pc ins len L st h cells slots = some (.inr (.inr (.inl (mj', as, rest)))))
    {d' c1 s1 : Nat} (hR : (av_rm d' c1 s1).frames + 1 ≤ R.frames ∧ (av_rm d' c1 s1).locals + 100 ≤ R.locals) {o : Option Value ⊕ String} {h1 : av_H} (hmt : ∀ E, o = .inr E → (av_me P mj).2.2.2.2.2.2.2.2 = true) (hf : cells + c1 ≤ R.cells ∧ slots + s1 ≤ R.slots)
    (hM : vx_Met l (av_me P mj).1 (av_cw (av_me P mj) :: Ts) (av_rm d' c1 s1) (av_Pc P K Xs Nc nt cy τ D cl A σ h as) (av_Qc cy τ D cl A σ h.length o h1) (av_Xc cy τ D cl A σ h.length o h1) c1 s1 A) :
    mj' = mj ∧ (∀ v ∈ rest, av_wv h.length v) ∧ vx_Run p l e R s m args below meth c H locs cells slots c1 s1 (F0 m pc ls (st.map (av_v σ τ))) (rest.map (av_v σ τ)) (av_Qc cy τ D cl A σ h.length o h1 (as.map (av_v σ τ)).toArray) (av_Xc cy τ D cl A σ h.length o h1) A := by
  have hpre := av_pre (as := as) hF hM0.2.1 hO2 r
  obtain ⟨⟨hx, hb, hml, hown⟩, hts, hin, hK, hA, hOld, hR0⟩ := hF
  have hbl : FrameBlind (av_Pc P K Xs Nc nt cy τ D cl A σ h as) := av_Pc_blind hM0.2.1
  have hsize : ls.size = nL := r.2.2.1.2.1
  -- what all three kinds share
  have key : mj < nm → (mj' = mj ∧ (av_me P mj).2.2.2.2.1 ≤ st.length ∧ ((st.drop (av_me P mj).2.2.2.2.1).map fun v => v.category).sum ≤ 8 ∧ (st.take (av_me P mj).2.2.2.2.1).reverse = as ∧ st.drop (av_me P mj).2.2.2.2.1 = rest) →
      (as.map (av_v σ τ)).length = (av_me P mj).2.2.2.2.1 ∧ st.map (av_v σ τ) = (as.map (av_v σ τ)).reverse ++ rest.map (av_v σ τ) ∧ 2 * (F0 m pc ls (st.map (av_v σ τ))).monitorRoom + ((rest.map (av_v σ τ)).map fun v => v.category).sum ≤ 8 ∧ (∀ v ∈ rest, av_wv h.length v) ∧
      GoodIn Ts (av_cw (av_me P mj) :: Ts) ∧ (av_rm d' c1 s1).frames + 1 ≤ R.frames ∧ 8 + ((av_me P mj).2.2.1 + 11) + (av_rm d' c1 s1).locals ≤ R.locals := fun hlt hz => by
    obtain ⟨-, z1, z2, rfl, rfl⟩ := hz
    obtain ⟨m1, -, -, -, m5, -, -⟩ := hM0.2.2.1 mj hlt
    refine ⟨by simp [z1], ?_, lv_room (by rw [av_cats]; exact z2), fun v hv => r.2.2.2.2.1 v (List.mem_of_mem_drop hv), fun w hw => ?_, hR.1, by omega⟩
    · rw [List.map_reverse, List.reverse_reverse, ← List.map_append, List.take_append_drop]
    · rcases List.mem_cons.mp hw with e1 | e1
      · rw [e1]; exact ⟨m1, good_of_word (hM0.1 _ m1)⟩
      · exact ⟨e1, good_of_word (hM0.1 _ e1)⟩
  have hsig : ∀ n, (parseMethodDescriptor (av_me P mj).1.desc).map (fun d => d.parameters.length) = some n → ∀ sig, parseMethodDescriptor (av_me P mj).1.desc = some sig → n = sig.parameters.length := fun n hn sig hs => by
    rw [hs] at hn
    exact (Option.some.inj hn).symm
  have hinl : (av_me P mj).2.2.2.2.2.2.2.2 = false → ∀ E st t, ¬ av_Xc cy τ D cl A σ h.length o h1 E st t := fun hf0 E st t hz => by
    rcases o with v | E0
    · exact hz
    · have := hmt E0 rfl
      rw [hf0] at this
      cases this
  rcases hi with rfl | rfl | rfl
  · -- static
    simp only [av_one] at hs
    split at hs
    · next hz =>
      cases hs
      simp only [av_chk, Bool.and_eq_true, Bool.or_eq_true, decide_eq_true_eq] at hok
      obtain ⟨⟨⟨⟨hlt, hk0⟩, rfl⟩, hd⟩, hlk⟩ := hok
      obtain ⟨a1, a2, a3, a4, a5, a6, a7⟩ := key hlt ⟨rfl, hz.1, hz.2.1, rfl, rfl⟩
      obtain ⟨m1, m2, m3, m4, m5, m6, m7⟩ := hM0.2.2.1 mj hlt
      obtain ⟨k1, k2⟩ := (hM0.2.2.2.1 mj hlt).1 hk0
      refine ⟨rfl, a4, ?_⟩
      by_cases hh : (av_me P mj).2.2.2.2.2.1 = []
      · have hcw : av_cw (av_me P mj) = .code (av_me P mj).1 (av_me P mj).2.1 (av_me P mj).2.2.1 (av_me P mj).2.2.2.1 := by simp only [av_cw, hh]
        rw [hcw] at hM a5 m1
        rcases hlk with hlk | hlk
        · exact vx_runS (n := (av_me P mj).2.2.2.2.1) (bytes := (av_me P mj).2.1) (maxL := (av_me P mj).2.2.1) (ret := (av_me P mj).2.2.2.1) ⟨hx, hb, hml, hown, hts⟩ hM ⟨⟨rfl, rfl, a6, a7, pay_in hts a5, List.mem_cons_self, hts _ m1, hts _ m4, m3, hsig _ k2, hts _ (hM0.2.2.2.2.1 _ hlk)⟩, hts _ k1⟩ ⟨hbl, hpre⟩ rfl a1 hsize a2 a3 hd hf
        · obtain ⟨w1, w2, w3⟩ := hM0.2.2.2.2.2 _ hlk
          intro T hT X
          exact Or.inl (va_runSN (n := (av_me P mj).2.2.2.2.1) (bytes := (av_me P mj).2.1) (maxL := (av_me P mj).2.2.1) (ret := (av_me P mj).2.2.2.1) (host := "SinglesPast") ⟨hx, hb, hml, hown, hts⟩ (met_of hM (hinl w3)) ⟨⟨⟨rfl, rfl, a6, a7, pay_in hts a5, List.mem_cons_self⟩, hts _ m1, hts _ m4, m3, hsig _ k2, va_Nw.use rfl (hO2.1 _ w1)⟩, hts _ k1, trivial⟩ ⟨hbl, hpre⟩ rfl a1 hsize a2 a3 hd hf T hT X)
      · obtain ⟨q0, qs, hq⟩ : ∃ q0 qs, (av_me P mj).2.2.2.2.2.1 = q0 :: qs := by
          cases hq : (av_me P mj).2.2.2.2.2.1 with
          | nil => exact absurd hq hh
          | cons q0 qs => exact ⟨q0, qs, rfl⟩
        have hcw : av_cw (av_me P mj) = .codeWith (av_me P mj).1 (av_me P mj).2.1 (av_me P mj).2.2.1 (av_me P mj).2.2.2.1 (q0 :: qs) := by simp only [av_cw, hq]
        rw [hcw] at hM a5 m1
        rcases hlk with hlk | hlk
        · exact vx_runSX (n := (av_me P mj).2.2.2.2.1) (bytes := (av_me P mj).2.1) (maxL := (av_me P mj).2.2.1) (ret := (av_me P mj).2.2.2.1) (hh := q0 :: qs) ⟨hx, hb, hml, hown, hts⟩ hM ⟨⟨rfl, rfl, a6, a7, pay_in hts a5, List.mem_cons_self⟩, hts _ m1, hts _ m4, m3, hsig _ k2, hts _ (hM0.2.2.2.2.1 _ hlk), hts _ k1⟩ ⟨hbl, hpre⟩ rfl a1 hsize a2 a3 hd hf
        · exact absurd (hM0.2.2.2.2.2 _ hlk).2.1 hh
    · cases hs
  · -- of an object
    simp only [av_one] at hs
    split at hs
    · next hz =>
      cases hs
      simp only [av_chk, Bool.and_eq_true, decide_eq_true_eq] at hok
      obtain ⟨⟨⟨⟨hlt, hk0⟩, rfl⟩, hd⟩, hlk⟩ := hok
      obtain ⟨a1, a2, a3, a4, a5, a6, a7⟩ := key hlt ⟨rfl, hz.1, hz.2.1, rfl, rfl⟩
      obtain ⟨m1, m2, m3, m4, m5, m6, m7⟩ := hM0.2.2.1 mj hlt
      obtain ⟨k1, k2, ⟨n, kn, kn1⟩, kh, kc⟩ := (hM0.2.2.2.1 mj hlt).2.1 hk0
      refine ⟨rfl, a4, ?_⟩
      have hcw : av_cw (av_me P mj) = .code (av_me P mj).1 (av_me P mj).2.1 (av_me P mj).2.2.1 (av_me P mj).2.2.2.1 := by simp only [av_cw, kh]
      rw [hcw] at hM a5 m1
      have hrv := hz.2.2.2
      unfold av_rcv at hrv
      split at hrv
      · next b tl hb0 =>
        split at hrv
        · next k fs hk =>
          simp only [decide_eq_true_eq] at hrv
          subst hrv
          rw [hb0] at hpre a1 a2 hM
          obtain ⟨rc, hrc, hrn⟩ : ∃ rc, cl[(av_me P mj).2.2.2.2.2.2.2.1]? = some rc ∧ rc.1 = (av_me P mj).1.cls := by
            cases h9 : cl[(av_me P mj).2.2.2.2.2.2.2.1]? with
            | none => rw [h9] at kc; cases kc
            | some rc => rw [h9] at kc; exact ⟨rc, rfl, Option.some.inj kc⟩
          have hrecv := va_recv hK r.2.2.2.2.2.2.1 hrc (av_ws_get (cy := cy) (σ := σ) (τ := τ) hk)
          rw [hrn] at hrecv
          rw [hb0]
          have hbl' : FrameBlind (av_Pc P K Xs Nc nt cy τ D cl A σ h (Value.ref b :: tl)) := av_Pc_blind hM0.2.1
          exact vx_runV (n := n) (C := (av_me P mj).1.cls) (b := σ b) (As := tl.map (av_v σ τ)) (bytes := (av_me P mj).2.1) (maxL := (av_me P mj).2.2.1) (ret := (av_me P mj).2.2.2.1) ⟨hx, hb, hml, hown, hts⟩ hM ⟨⟨rfl, rfl, a6, a7, pay_in hts a5, List.mem_cons_self, hts _ m1, hts _ m4, m3, hsig _ kn, hts _ (hM0.2.2.2.2.1 _ hlk)⟩, hts _ k1, hts _ k2⟩ ⟨hbl', hrecv, hpre⟩ rfl (by simp only [List.map_cons, List.length_cons] at a1; omega) hsize (by rw [a2]; simp [av_v]) a3 hd hf
        · cases hrv
      · cases hrv
    · cases hs
  · -- a constructor
    simp only [av_one] at hs
    split at hs
    · next hz =>
      cases hs
      simp only [av_chk, Bool.and_eq_true, Bool.or_eq_true, decide_eq_true_eq] at hok
      obtain ⟨⟨⟨⟨hlt, hk0⟩, rfl⟩, hd⟩, hlk⟩ := hok
      obtain ⟨a1, a2, a3, a4, a5, a6, a7⟩ := key hlt ⟨rfl, hz.1, hz.2.1, rfl, rfl⟩
      obtain ⟨m1, m2, m3, m4, m5, m6, m7⟩ := hM0.2.2.1 mj hlt
      obtain ⟨k1, k2, ⟨n, kn, kn1⟩, kh, kr, kt⟩ := (hM0.2.2.2.1 mj hlt).2.2 hk0
      refine ⟨rfl, a4, ?_⟩
      have hcw : av_cw (av_me P mj) = .code (av_me P mj).1 (av_me P mj).2.1 (av_me P mj).2.2.1 none := by simp only [av_cw, kh, kr]
      rw [hcw] at hM a5 m1
      have hrv := hz.2.2.2
      unfold av_isr at hrv
      split at hrv
      · next b tl hb0 =>
        rw [hb0] at hpre a1 a2 hM
        rw [hb0]
        have hbl' : FrameBlind (av_Pc P K Xs Nc nt cy τ D cl A σ h (Value.ref b :: tl)) := av_Pc_blind hM0.2.1
        have hlen : (tl.map (av_v σ τ)).length = n := by simp only [List.map_cons, List.length_cons] at a1; omega
        have hstk : (F0 m pc ls (st.map (av_v σ τ))).stack = (tl.map (av_v σ τ)).reverse ++ .ref (σ b) :: (st.drop (av_me P mj).2.2.2.2.1).map (av_v σ τ) := by rw [show (F0 m pc ls (st.map (av_v σ τ))).stack = st.map (av_v σ τ) from rfl, a2]; simp [av_v]
        intro T hT X
        rcases hlk with hlk | hlk
        · exact Or.inl (va_runI (n := n) (b := σ b) (As := tl.map (av_v σ τ)) (bytes := (av_me P mj).2.1) (maxL := (av_me P mj).2.2.1) ⟨hx, hb, hml, hown, hts⟩ (met_of hM (hinl kt)) ⟨⟨rfl, rfl, a6, a7, pay_in hts a5, List.mem_cons_self, hts _ m1, hts _ m4, m3, hsig _ kn, hts _ (hM0.2.2.2.2.1 _ hlk)⟩, k2, hts _ k1⟩ ⟨hbl', hpre⟩ rfl hlen hsize hstk a3 hd hf T hT X)
        · exact Or.inl (va_runIN (n := n) (b := σ b) (As := tl.map (av_v σ τ)) (bytes := (av_me P mj).2.1) (maxL := (av_me P mj).2.2.1) (host := "SinglesPast") ⟨hx, hb, hml, hown, hts⟩ (met_of hM (hinl kt)) ⟨⟨⟨rfl, rfl, a6, a7, pay_in hts a5, List.mem_cons_self⟩, hts _ m1, hts _ m4, m3, hsig _ kn, va_Nw.use rfl (hO2.1 _ (hM0.2.2.2.2.2 _ hlk).1)⟩, k2, hts _ k1⟩ ⟨hbl', hpre⟩ rfl hlen hsize hstk a3 hd hf T hT X)
      · cases hrv
    · cases hs
end SK
end
section
/-! ===== THE RUN OF THE ABSTRACT MACHINE IS ONE OF THE REAL ONE ===== -/
set_option maxHeartbeats 4000000 in
theorem av_one_cls {P : av_P} {mi pc len : Nat} {ins : Instr} {L : av_L} {st : List Value} {h : av_H} {c s : Nat} {x : av_S} (hs : av_one P mi pc ins len L st h c s = some x) :
    (∃ pc' L' st' h' c' s', x = .inl (pc', L', st', h', c', s') ∧ c ≤ c' ∧ s ≤ s') ∨ (∃ v, x = .inr (.inl v) ∧ (ins = .ireturn ∨ ins = .areturn ∨ ins = .return_)) ∨
    (∃ mj as r, x = .inr (.inr (.inl (mj, as, r))) ∧ (ins = .invokestatic mj ∨ ins = .invokevirtual mj ∨ ins = .invokespecial mj) ∧ as.length = (av_me P mj).2.2.2.2.1 ∧ ∀ v ∈ as, v.category = 1 ∧ v ∈ st) ∨ ∃ k, x = .inr (.inr (.inr (av_th P k))) ∧ ins = .instanceof k ∧ (st.map fun v => v.category).sum ≤ 8 := by
  have key : ∀ a : Nat, a ≤ st.length → (((st.take a).all fun v => v.category == 1) = true) → (st.take a).reverse.length = a ∧ ∀ v ∈ (st.take a).reverse, v.category = 1 ∧ v ∈ st := fun a h1 h2 => ⟨by simp [h1], fun v hv => by
    have h3 := List.mem_reverse.mp hv
    have h4 := List.all_eq_true.mp h2 v h3
    exact ⟨by simpa using h4, List.mem_of_mem_take h3⟩⟩
  cases ins with
  | invokestatic mj =>
    simp only [av_one] at hs
    split at hs
    · next hz => cases hs; exact Or.inr (Or.inr (Or.inl ⟨_, _, _, rfl, Or.inl rfl, key _ hz.1 hz.2.2⟩))
    · cases hs
  | invokevirtual mj =>
    simp only [av_one] at hs
    split at hs
    · next hz => cases hs; exact Or.inr (Or.inr (Or.inl ⟨_, _, _, rfl, Or.inr (Or.inl rfl), key _ hz.1 hz.2.2.1⟩))
    · cases hs
  | invokespecial mj =>
    simp only [av_one] at hs
    split at hs
    · next hz => cases hs; exact Or.inr (Or.inr (Or.inl ⟨_, _, _, rfl, Or.inr (Or.inr rfl), key _ hz.1 hz.2.2.1⟩))
    · cases hs
  | instanceof k =>
    simp only [av_one] at hs
    split at hs
    · next hz => cases hs; exact Or.inr (Or.inr (Or.inr ⟨_, rfl, rfl, hz⟩))
    · cases hs
  | ireturn =>
    simp only [av_one] at hs
    (repeat' split at hs) <;> first | (cases hs; exact Or.inr (Or.inl ⟨_, rfl, Or.inl rfl⟩)) | cases hs
  | areturn =>
    simp only [av_one] at hs
    (repeat' split at hs) <;> first | (cases hs; exact Or.inr (Or.inl ⟨_, rfl, Or.inr (Or.inl rfl)⟩)) | cases hs
  | return_ =>
    simp only [av_one] at hs
    (repeat' split at hs) <;> first | (cases hs; exact Or.inr (Or.inl ⟨_, rfl, Or.inr (Or.inr rfl)⟩)) | cases hs
  | invokedynamic k =>
    match k, hs with
    | 0, hs => simp only [av_one, av_copy] at hs; (repeat' split at hs) <;> first | (cases hs; exact Or.inl ⟨_, _, _, _, _, _, rfl, Nat.le_refl _, Nat.le_refl _⟩) | cases hs
    | 1, hs => simp only [av_one] at hs; (repeat' split at hs) <;> first | (cases hs; exact Or.inl ⟨_, _, _, _, _, _, rfl, Nat.le_refl _, Nat.le_refl _⟩) | cases hs
    | 2, hs => simp only [av_one] at hs; (repeat' split at hs) <;> first | (cases hs; exact Or.inl ⟨_, _, _, _, _, _, rfl, Nat.le_refl _, Nat.le_refl _⟩) | cases hs
    | 3, hs => simp only [av_one] at hs; (repeat' split at hs) <;> first | (cases hs; exact Or.inl ⟨_, _, _, _, _, _, rfl, Nat.le_succ _, Nat.le_add_right _ _⟩) | cases hs
    | k + 4, hs => simp only [av_one] at hs; cases hs
  | _ =>
    simp only [av_one, av_bin, av_iaload, av_alen, av_copy, av_goto] at hs
    (repeat' split at hs) <;> first | (cases hs; exact Or.inl ⟨_, _, _, _, _, _, rfl, Nat.le_refl _, Nat.le_refl _⟩) | (cases hs; exact Or.inl ⟨_, _, _, _, _, _, rfl, Nat.le_succ _, Nat.le_add_right _ _⟩) | cases hs
theorem av_rn_mono {P : av_P} : ∀ (n d mi pc : Nat) (L : av_L) (st : List Value) (h : av_H) (c s : Nat) (x : av_R), av_rn P n d mi pc L st h c s = some x → c ≤ x.2.2.1 ∧ s ≤ x.2.2.2
  | 0, _, _, _, _, _, _, _, _, _, hr => by simp [av_rn] at hr
  | n + 1, d, mi, pc, L, st, h, c, s, x, hr => by
    simp only [av_rn] at hr
    split at hr
    · cases hr
    · next pc' L' st' h' c' s' hs =>
      have ih := av_rn_mono n d mi pc' L' st' h' c' s' x hr
      unfold av_stp at hs
      split at hs
      · rcases av_one_cls hs with ⟨_, _, _, _, _, _, e, h1, h2⟩ | ⟨_, e, _⟩ | ⟨_, _, _, e, _⟩ | ⟨_, e, _⟩
        · cases e; exact ⟨Nat.le_trans h1 ih.1, Nat.le_trans h2 ih.2⟩
        · cases e
        · cases e
        · cases e
      · cases hs
    · cases hr; exact ⟨Nat.le_refl _, Nat.le_refl _⟩
    · cases hr; exact ⟨Nat.le_succ _, Nat.le_add_right _ _⟩
    · split at hr
      · cases hr
      · split at hr
        · cases hr
        · next v h' c' s' hc =>
          have ih := av_rn_mono n _ mi _ _ _ _ _ _ x hr
          exact ⟨Nat.le_trans (Nat.le_add_right _ _) ih.1, Nat.le_trans (Nat.le_add_right _ _) ih.2⟩
        · next E h' c' s' hc =>
          split at hr
          · cases hr
          · split at hr
            · cases hr; exact ⟨Nat.le_add_right _ _, Nat.le_add_right _ _⟩
            · split at hr
              · cases hr
              · split at hr
                · cases hr
                · split at hr
                  · split at hr
                    · have ih := av_rn_mono n _ mi _ _ _ _ _ _ x hr
                      exact ⟨Nat.le_trans (Nat.le_add_right _ _) ih.1, Nat.le_trans (Nat.le_add_right _ _) ih.2⟩
                    · cases hr
                  · cases hr
end
section
/-- what the tables say of handlers -/
def av_EnvH (P : av_P) (K : av_K) (Ts Xs : List Cond) (Nc : List (String × String)) (nm : Nat) (mo : Nat → Nat) : Prop :=
  (∀ mi, mi < nm → (av_me P mi).2.2.2.2.2.1.length = (av_me P mi).2.2.2.2.2.2.1.length ∧ ∀ (i : Nat) (q : Nat × Nat × Nat × Nat) (nm : String), (av_me P mi).2.2.2.2.2.1[i]? = some q → (av_me P mi).2.2.2.2.2.2.1[i]? = some nm → q.2.2.2 ≠ 0 ∧ Cond.classLink (av_cn K (mo mi)) q.2.2.2 nm ∈ Ts ∧ nm ∈ av_es) ∧
  ∀ E ∈ av_es, Cond.castable E E ∈ Xs ∧ ∀ nm ∈ av_es, E ≠ nm → (E, nm) ∈ Nc
theorem av_hnd_spec {pc : Nat} {E : String} {t : Nat} : ∀ (hh : List (Nat × Nat × Nat × Nat)) (nms : List String), av_hnd pc E hh nms = some t → ∃ (i : Nat) (x : Nat × Nat × Nat × Nat), hh[i]? = some x ∧ nms[i]? = some E ∧ x.1 ≤ pc ∧ pc < x.2.1 ∧ x.2.2.1 = t ∧ ∀ j, j < i → ∃ y nm, hh[j]? = some y ∧ nms[j]? = some nm ∧ ¬ (y.1 ≤ pc ∧ pc < y.2.1 ∧ nm = E)
  | [], _, h => by simp [av_hnd] at h
  | _ :: _, [], h => by simp [av_hnd] at h
  | (a, b, u, ct) :: hh, nm :: nms, h => by
    simp only [av_hnd] at h
    split at h
    · next hz =>
      cases h
      exact ⟨0, (a, b, t, ct), rfl, by rw [← hz.2.2]; rfl, hz.1, hz.2.1, rfl, fun j hj => absurd hj (Nat.not_lt_zero _)⟩
    · next hz =>
      obtain ⟨i, x, h1, h2, h3, h4, h5, h6⟩ := av_hnd_spec hh nms h
      refine ⟨i + 1, x, h1, h2, h3, h4, h5, fun j hj => ?_⟩
      cases j with
      | zero => exact ⟨(a, b, u, ct), nm, rfl, rfl, hz⟩
      | succ j => exact h6 j (Nat.lt_of_succ_lt_succ hj)
section SL
variable {P : av_P} {K : av_K} {Ts Xs : List Cond} {Nc : List (String × String)} {nt nm : Nat} {mo mk : Nat → Nat} {I : av_I} {cl : List vw_C} {cy τ : Nat → Nat} {D : va_G} {A : Nat → Prop} {l : Launch}
variable {p : Program} {e : Env} {R : Room} {s : State} {m : MethodId} {args : Array Value} {below : List Frame} {meth : Method} {c : Code} {H : Heap} {locs : List Loc} {cells slots : Nat} {Q : State → Prop} {ls : Array Slot} {σ0 σ : Nat → Nat} {n0 nL oc mi pc : Nat} {ini : Bool} {cc : ByteArray} {L : av_L} {st : List Value} {h : av_H}
theorem av_Rel.drop (r : av_Rel cy τ D cl A s.heap σ0 n0 nL σ L st h ls H locs) {i q : Nat} {ls' : Array Slot} (hl : lv_has ls' nL ((i, Value.ref q) :: (av_lv σ τ L).filter (fun q => !(q.1 == i) && !(q.1 + 1 == i && q.2.category == 2)))) : av_Rel cy τ D cl A s.heap σ0 n0 nL σ (L.set i none) st h ls' H locs := by
  refine ⟨r.1, r.2.1, ⟨by rw [List.length_set]; exact r.2.2.1.1, hl.1, hl.2.1, fun q hq => ?_⟩, fun j w hw => ?_, r.2.2.2.2⟩
  · obtain ⟨w, hw, e⟩ := av_lv_mem.mp hq
    refine hl.2.2 q ?_
    rw [List.getElem?_set] at hw
    by_cases hj : i = q.1
    · rw [if_pos hj] at hw
      split at hw <;> cases hw
    · rw [if_neg hj] at hw
      refine List.mem_cons.mpr (Or.inr (List.mem_filter.mpr ⟨av_lv_mem.mpr ⟨w, hw, e⟩, ?_⟩))
      have h1 : q.2.category = 1 := by rw [e, av_v_cat]; exact (r.2.2.2.1 _ w hw).1
      simp [h1]
      exact fun z => hj z.symm
  · rw [List.getElem?_set] at hw
    split at hw
    · split at hw <;> cases hw
    · exact r.2.2.2.1 j w hw
/-- a thrown E is caught by this method -/
theorem sd_catch (hM0 : av_EnvM P K Ts Xs cl nm mo mk) (hH : av_EnvH P K Ts Xs Nc nm mo) (hF : av_Fix P K Ts cl cy τ D A nL (mo mi) ini cc p R s m args meth c) (hO2 : av_Ol2 P Xs Nc nt τ A s) (hmi : mi < nm) (htab : c.exceptionTable.toList = tableOf (av_me P mi).2.2.2.2.2.1)
    {E : String} (hE : E ∈ av_es) {t : Nat} (ht : av_hnd pc E (av_me P mi).2.2.2.2.2.1 (av_me P mi).2.2.2.2.2.2.1 = some t) {q : Addr} {ce : Cell} (hce : H[q]? = some ce) (hcv : ce.vm = .none) (hcl : s.vm.findClass E = some ce.cls) {rest : List Value}
    (kk : W p l e R s m args below meth c H locs cells slots Q (F0 m t ls [.ref q])) : vx_W p l e R s m args below meth c H locs cells slots Q (F0 m pc ls rest) q := by
  obtain ⟨⟨hx, hb, hml, hown⟩, hts, hin, hK, hA, hOld, hR0⟩ := hF
  obtain ⟨i, x, h1, h2, h3, h4, h5, h6⟩ := av_hnd_spec _ _ ht
  obtain ⟨hlen, hh⟩ := hH.1 mi hmi
  obtain ⟨c0, c1, -⟩ := hh i x E h1 h2
  obtain ⟨e1, e2⟩ := hH.2 E hE
  have hil : i < (av_me P mi).2.2.2.2.2.1.length := (List.getElem?_eq_some_iff.mp h1).1
  have hg : (av_me P mi).2.2.2.2.2.1 = (av_me P mi).2.2.2.2.2.1.take i ++ x :: (av_me P mi).2.2.2.2.2.1.drop (i + 1) := by
    have h9 : (av_me P mi).2.2.2.2.2.1[i] = x := (List.getElem?_eq_some_iff.mp h1).2
    rw [← h9, ← List.drop_eq_getElem_cons hil, List.take_append_drop]
  have hsplit : c.exceptionTable.toList = tableOf ((av_me P mi).2.2.2.2.2.1.take i) ++ (⟨x.1, x.2.1, x.2.2.1, x.2.2.2⟩ : ExceptionTableEntry) :: tableOf ((av_me P mi).2.2.2.2.2.1.drop (i + 1)) := by
    rw [htab]
    conv => lhs; rw [hg]
    simp [tableOf]
  refine vx_catch (own := av_cn K (mo mi)) (name := E) (E := E) (ce := ce) hown _ _ _ hsplit (fun z hz => ?_) (by simp [covers]; omega) c0 (hts _ c1) (va_Nw.use rfl (hO2.1 _ e1)) hce hcv hcl (by rw [← h5] at kk; exact kk)
  obtain ⟨y, hy, rfl⟩ := List.mem_map.mp hz
  obtain ⟨j, hj⟩ := List.getElem?_of_mem hy
  have hji : j < i := by
    have := (List.getElem?_eq_some_iff.mp hj).1
    simp at this
    omega
  obtain ⟨y', nm', g1, g2, g3⟩ := h6 j hji
  have hyy : y = y' := by
    rw [List.getElem?_take_of_lt hji, g1] at hj
    exact (Option.some.inj hj).symm
  subst hyy
  obtain ⟨d0, d1, d2⟩ := hh j y nm' g1 g2
  by_cases hcov : y.1 ≤ pc ∧ pc < y.2.1
  · refine Or.inr ⟨d0, nm', hts _ d1, hO2.2.1 _ (e2 nm' d2 (fun z => g3 ⟨hcov.1, hcov.2, z.symm⟩))⟩
  · refine Or.inl ?_
    simp [covers]
    omega
theorem lv_args1 : ∀ (vs : List Value) (k i : Nat) (v : Value), (∀ w ∈ vs, w.category = 1) → vs[i]? = some v → (k + i, v) ∈ lv_args k vs
  | [], _, _, _, _, h => by simp at h
  | w :: vs, k, 0, v, hc, h => by
    cases h
    exact List.mem_cons_self
  | w :: vs, k, i + 1, v, hc, h => by
    have h1 := lv_args1 vs (k + 1) i v (fun z hz => hc z (List.mem_cons_of_mem _ hz)) (by simpa using h)
    refine List.mem_cons_of_mem _ ?_
    rw [if_neg (by rw [hc w List.mem_cons_self]; decide)]
    rw [show k + (i + 1) = k + 1 + i by omega]
    exact h1
theorem lg_sl1 : ∀ vs : List Value, (∀ w ∈ vs, w.category = 1) → (lg_sl vs).length = vs.length
  | [], _ => rfl
  | w :: vs, hc => by
    have h1 := lg_sl1 vs (fun z hz => hc z (List.mem_cons_of_mem _ hz))
    simp only [lg_sl, List.flatMap_cons, List.length_append] at h1 ⊢
    rw [if_neg (by rw [hc w List.mem_cons_self]; decide), h1]
    simp
    omega
end SL
end
section
def av_ini (P : av_P) (mi : Nat) : Bool := decide ((av_me P mi).1.name = "<init>")
/-- all that the tables say -/
def av_All (P : av_P) (K : av_K) (Ts Xs : List Cond) (Nc : List (String × String)) (nm : Nat) (mo mk : Nat → Nat) (I : av_I) (cl : List vw_C) : Prop :=
  av_Env P K Ts cl ∧ av_EnvT P K Ts Xs I ∧ av_EnvM P K Ts Xs cl nm mo mk ∧ av_EnvH P K Ts Xs Nc nm mo ∧ ∀ mi, mi < nm → ∀ pc ins len ix, av_op P mi pc = some (ins, len, ix) → av_chk P K cl I nm mk (mo mi) mi (av_ini P mi) (av_me P mi).2.1 pc ins len ix = true
/-- the texts' methods, wherever -/
def av_Strs (P : av_P) (K : av_K) (Ts Xs : List Cond) (Nc : List (String × String)) (nt : Nat) (cl : List vw_C) (cy τ : Nat → Nat) (D : va_G) (A : Nat → Prop) (l : Launch) : Prop :=
  ∀ (nL oc : Nat) (ini : Bool) (cc : ByteArray) (p : Program) (e : Env) (R : Room) (s : State) (m : MethodId) (args : Array Value) (below : List Frame) (meth : Method) (c : Code) (Q : State → Prop), av_Fix P K Ts cl cy τ D A nL oc ini cc p R s m args meth c → av_Ol2 P Xs Nc nt τ A s → av_Str P K τ A oc cc p l e R s m args below meth c Q nL
section SM
variable {P : av_P} {K : av_K} {Ts Xs : List Cond} {Nc : List (String × String)} {nt nm : Nat} {mo mk : Nat → Nat} {I : av_I} {cl : List vw_C} {cy τ : Nat → Nat} {D : va_G} {A : Nat → Prop} {l : Launch}
/-- what a run gives, at n steps -/
def av_Snd (P : av_P) (K : av_K) (Ts Xs : List Cond) (Nc : List (String × String)) (nt nm : Nat) (mo : Nat → Nat) (cl : List vw_C) (cy τ : Nat → Nat) (D : va_G) (A : Nat → Prop) (l : Launch) (n : Nat) : Prop :=
  ∀ (d mi pc : Nat) (L : av_L) (st : List Value) (h : av_H) (c s : Nat) (o : Option Value ⊕ String) (h' : av_H) (c' s' : Nat), av_rn P n d mi pc L st h c s = some (o, h', c', s') → mi < nm →
  ∀ (p : Program) (e : Env) (S : State) (m : MethodId) (args : Array Value) (below : List Frame) (meth : Method) (cd : Code) (H : Heap) (locs : List Loc) (ls : Array Slot) (σ0 σ : Nat → Nat) (n0 : Nat) (R : Room), (d + 20 ≤ R.frames ∧ 100 * d + 400 ≤ R.locals ∧ c' ≤ R.cells ∧ s' ≤ R.slots) →
    av_Fix P K Ts cl cy τ D A (av_me P mi).2.2.1 (mo mi) (av_ini P mi) (av_me P mi).2.1 p R S m args meth cd → av_Ol2 P Xs Nc nt τ A S → meth.sig.returnType = (av_me P mi).2.2.2.1 → meth.locks = false → cd.exceptionTable.toList = tableOf (av_me P mi).2.2.2.2.2.1 →
    av_Rel cy τ D cl A S.heap σ0 n0 (av_me P mi).2.2.1 σ L st h ls H locs →
    W p l e R S m args below meth cd H locs c s (vx_MQ below (av_Qc cy τ D cl A σ0 n0 o h') (av_Xc cy τ D cl A σ0 n0 o h') args S c' s' A) (F0 m pc ls (st.map (av_v σ τ)))
/-- a method's contract, out of its run -/
theorem sd_meth (hAll : av_All P K Ts Xs Nc nm mo mk I cl) {n : Nat} (ih : av_Snd P K Ts Xs Nc nt nm mo cl cy τ D A l n) {d mj : Nat} (hmj : mj < nm) {as : List Value} {h h' : av_H} {o : Option Value ⊕ String} {c' s' : Nat} (hr : av_rn P n d mj 0 (av_ent P mj as) [] h 0 0 = some (o, h', c', s')) {σ : Nat → Nat}
    (hlen : as.length = (av_me P mj).2.2.2.2.1) (has : ∀ v ∈ as, v.category = 1 ∧ av_wv h.length v) :
    vx_Met l (av_me P mj).1 (av_cw (av_me P mj) :: Ts) (av_rm d c' s') (av_Pc P K Xs Nc nt cy τ D cl A σ h as) (av_Qc cy τ D cl A σ h.length o h') (av_Xc cy τ D cl A σ h.length o h') c' s' A := by
  obtain ⟨m1, m2, m3, m4, m5, m6, m7⟩ := hAll.2.2.1.2.2.1 mj hmj
  have body : ∀ (p : Program) (e : Env) (s : State) (m : MethodId) (args : Array Value) (below : List Frame) (meth : Method) (c : Code) (s₁ : State), BodyLoose p l (av_me P mj).1 (headSpec (av_cw (av_me P mj) :: Ts) (av_rm d c' s')) (av_me P mj).2.1 (av_me P mj).2.2.1 (av_me P mj).2.2.2.1 e s m args below meth c s₁ → c.maxLocals = (av_me P mj).2.2.1 → c.exceptionTable.toList = tableOf (av_me P mj).2.2.2.2.2.1 → av_Pc P K Xs Nc nt cy τ D cl A σ h as args s →
      W p l e (headSpec (av_cw (av_me P mj) :: Ts) (av_rm d c' s')).room s m args below meth c s.heap [] 0 0 (vx_MQ below (av_Qc cy τ D cl A σ h.length o h') (av_Xc cy τ D cl A σ h.length o h') args s c' s' A) (entryFrame m args (av_me P mj).2.2.1) := fun p e s m args below meth c s₁ B hml htab hv => by
    obtain ⟨rfl, ⟨b1, b2, b3, b4⟩, v2, v3, v4⟩ := hv
    have hts := atoms_spec (ws := av_cw (av_me P mj) :: Ts) B.pre
    have hown : s.vm.findClass (av_cn K (mo mj)) = some m.cls := by rw [m7]; exact findClass_of_methodNamed B.named
    have hcat : ∀ w ∈ as.map (av_v σ τ), w.category = 1 := fun w hw => by
      obtain ⟨v, hv, rfl⟩ := List.mem_map.mp hw
      rw [av_v_cat]
      exact (has v hv).1
    have hle : (lg_sl (as.map (av_v σ τ))).length ≤ (av_me P mj).2.2.1 := by rw [lg_sl1 _ hcat, List.length_map, hlen]; exact m6
    have hl := lv_entry (as.map (av_v σ τ)) hle
    rw [lg_entry_eq]
    refine ih d mj 0 (av_ent P mj as) [] h 0 0 o h' c' s' hr hmj p e s m _ below meth c s.heap [] _ σ σ h.length (av_rm d c' s') ⟨Nat.le_refl _, Nat.le_refl _, Nat.le_refl _, Nat.le_refl _⟩ ⟨⟨B.exec, B.bytes, hml, hown⟩, fun w hw => hts w (List.mem_cons_of_mem _ hw), fun hi => (name_of_methodNamed B.named B.method).1.trans (by simpa [av_ini] using hi), b2, v4, v2, ?_, ?_⟩ v3 B.returns B.notSynchronized htab ⟨fun _ _ => rfl, Nat.le_refl _, ⟨?_, hl.1, hl.2.1, fun q hq => ?_⟩, fun i v hv => ?_, fun v hv => (by cases hv), b4, b1, b3, va_S.rf⟩
    · show 20 ≤ d + 20
      omega
    · show 400 ≤ 100 * d + 400
      omega
    · simp only [av_ent, List.length_append, List.length_map, List.length_replicate]
      omega
    · obtain ⟨v, hv, e1⟩ := av_lv_mem.mp hq
      refine hl.2.2 q ?_
      have h1 : as[q.1]? = some v := by
        simp only [av_ent] at hv
        by_cases hq1 : q.1 < as.length
        · rw [List.getElem?_append_left (by simpa using hq1), List.getElem?_map] at hv
          cases h9 : as[q.1]? with
          | none => rw [h9] at hv; cases hv
          | some z => rw [h9] at hv; cases hv; rfl
        · rw [List.getElem?_append_right (by simpa using hq1)] at hv
          have := List.eq_of_mem_replicate (List.mem_of_getElem? hv)
          cases this
      have h2 := lv_args1 (as.map (av_v σ τ)) 0 q.1 (av_v σ τ v) hcat (by rw [List.getElem?_map, h1]; rfl)
      rw [Nat.zero_add, ← e1] at h2
      exact h2
    · have h1 : v ∈ as := by
        simp only [av_ent] at hv
        have h2 := List.mem_of_getElem? hv
        rcases List.mem_append.mp h2 with h3 | h3
        · obtain ⟨z, hz, e1⟩ := List.mem_map.mp h3
          cases e1
          exact hz
        · have := List.eq_of_mem_replicate h3
          cases this
      exact has v h1
  by_cases hh : (av_me P mj).2.2.2.2.2.1 = []
  · have hcw : av_cw (av_me P mj) = .code (av_me P mj).1 (av_me P mj).2.1 (av_me P mj).2.2.1 (av_me P mj).2.2.2.1 := by simp only [av_cw, hh]
    refine vx_ofW (cc := (av_me P mj).2.1) (maxL := (av_me P mj).2.2.1) (ret := (av_me P mj).2.2.2.1) m2 (by rw [hcw]) (fun p e s m args below meth c s₁ B hml hno hv => body p e s m args below meth c s₁ B hml ?_ hv)
    rw [hh]
    exact List.eq_nil_iff_forall_not_mem.mpr hno
  · obtain ⟨q0, qs, hq⟩ : ∃ q0 qs, (av_me P mj).2.2.2.2.2.1 = q0 :: qs := by
      cases hq : (av_me P mj).2.2.2.2.2.1 with
      | nil => exact absurd hq hh
      | cons q0 qs => exact ⟨q0, qs, rfl⟩
    have hcw : av_cw (av_me P mj) = .codeWith (av_me P mj).1 (av_me P mj).2.1 (av_me P mj).2.2.1 (av_me P mj).2.2.2.1 (q0 :: qs) := by simp only [av_cw, hq]
    refine vx_ofWH (cc := (av_me P mj).2.1) (maxL := (av_me P mj).2.2.1) (ret := (av_me P mj).2.2.2.1) (hh := q0 :: qs) m2 (by rw [hcw]) (fun p e s m args below meth c s₁ B hml hv => body p e s m args below meth c s₁ B hml ?_ hv)
    have hts := atoms_spec (ws := av_cw (av_me P mj) :: Ts) B.pre
    have h1 := hts _ List.mem_cons_self
    rw [hcw] at h1
    rw [hq]
    exact vx_table (x := (av_me P mj).1) B h1
set_option maxHeartbeats 4000000 in
/-- THE RUN IS SOUND -/
theorem sd_run (hAll : av_All P K Ts Xs Nc nm mo mk I cl) (hl : l.stackTraces = false) (hStr : av_Strs P K Ts Xs Nc nt cl cy τ D A l) : ∀ n, av_Snd P K Ts Xs Nc nt nm mo cl cy τ D A l n := by
  intro n
  induction n with
  | zero =>
    intro d mi pc L st h c s o h' c' s' hr
    simp [av_rn] at hr
  | succ n ih =>
    intro d mi pc L st h c s o h' c' s' hr hmi p e S m args below meth cd H locs ls σ0 σ n0 R hRm hF hO2 hret hlocks htab r
    have hmono := av_rn_mono (n + 1) d mi pc L st h c s _ hr
    simp only at hmono
    simp only [av_rn] at hr
    cases hstp : av_stp P mi pc L st h c s with
    | none => rw [hstp] at hr; cases hr
    | some x =>
      rw [hstp] at hr
      unfold av_stp at hstp
      cases hop : av_op P mi pc with
      | none => rw [hop] at hstp; cases hstp
      | some q =>
        obtain ⟨ins, len, ix⟩ := q
        rw [hop] at hstp
        simp only at hstp
        have hchk := hAll.2.2.2.2 mi hmi pc ins len ix hop
        rcases av_one_cls hstp with ⟨pc', L', st', h1, c1, s1, rfl, hc1, hs1⟩ | ⟨v, rfl, hi⟩ | ⟨mj, as, rs, rfl, hi, hlen, has⟩ | ⟨k, rfl, rfl, h8⟩
        · -- a plain instruction
          simp only at hr
          have hok : av_ok K cl (mo mi) (av_ini P mi) (av_me P mi).2.1 pc ins len ix = true := by
            cases ins with
            | instanceof k => simp only [av_one] at hstp; split at hstp <;> cases hstp
            | invokestatic k => simp only [av_one] at hstp; split at hstp <;> cases hstp
            | invokevirtual k => simp only [av_one] at hstp; split at hstp <;> cases hstp
            | invokespecial k => simp only [av_one] at hstp; split at hstp <;> cases hstp
            | _ => exact hchk
          have hm := av_rn_mono n d mi pc' L' st' h1 c1 s1 _ hr
          exact sd_one hAll.1 hF (hStr _ _ _ _ _ _ _ _ _ _ _ _ _ _ hF hO2) r hok hstp (Nat.le_trans hm.1 hRm.2.2.1) (Nat.le_trans hm.2 hRm.2.2.2) (fun σ' ls' H' locs' r' => ih d mi pc' L' st' h1 c1 s1 o h' c' s' hr hmi p e S m args below meth cd H' locs' ls' σ0 σ' n0 R hRm hF hO2 hret hlocks htab r')
        · -- an end
          simp only at hr
          cases hr
          have hok : av_ok K cl (mo mi) (av_ini P mi) (av_me P mi).2.1 pc ins len ix = true := by rcases hi with rfl | rfl | rfl <;> exact hchk
          exact sd_ret hF r hret hlocks hi hok hstp
        · -- a call
          simp only at hr
          cases d with
          | zero => simp only at hr; cases hr
          | succ d' =>
            simp only at hr
            have hmj : mj < nm := by
              rcases hi with rfl | rfl | rfl <;> (simp only [av_chk, Bool.and_eq_true, decide_eq_true_eq] at hchk; exact hchk.1.1.1.1)
            cases hcall : av_rn P n d' mj 0 (av_ent P mj as) [] h 0 0 with
            | none => rw [hcall] at hr; cases hr
            | some y =>
              obtain ⟨o1, h1, c1, s1⟩ := y
              rw [hcall] at hr
              have hM := sd_meth hAll ih hmj hcall (σ := σ) hlen (fun v hv => ⟨(has v hv).1, r.2.2.2.2.1 v (has v hv).2⟩)
              have hmt : ∀ E, o1 = .inr E → (av_me P mj).2.2.2.2.2.2.2.2 = true := fun E hE => by
                subst hE
                simp only at hr
                split at hr
                · cases hr
                · next hz => simpa using hz
              have hroom : c + c1 ≤ c' ∧ s + s1 ≤ s' := by
                rcases o1 with v | E
                · simp only at hr
                  have := av_rn_mono n _ mi _ _ _ _ _ _ _ hr
                  exact this
                · simp only at hr
                  split at hr
                  · cases hr
                  · split at hr
                    · cases hr; exact ⟨Nat.le_refl _, Nat.le_refl _⟩
                    · split at hr
                      · cases hr
                      · split at hr
                        · cases hr
                        · split at hr
                          · split at hr
                            · have := av_rn_mono n _ mi _ _ _ _ _ _ _ hr
                              exact this
                            · cases hr
                          · cases hr
              obtain ⟨-, hrs, hrun⟩ := sd_go (I := I) (mi := mi) (p := p) (e := e) (below := below) hAll.2.2.1 hF hO2 r hi hchk hstp (d' := d') (c1 := c1) (s1 := s1) (by constructor <;> (simp only [av_rm]; omega)) hmt ⟨Nat.le_trans hroom.1 hRm.2.2.1, Nat.le_trans hroom.2 hRm.2.2.2⟩ hM
              refine sd_ran hF.2.2.2.1 r hrs hrun (fun v hv => ?_) (fun E hE σ' H' locs' q ce r' hce hcv hcl => ?_)
              · subst hv
                simp only at hr
                intro σ' ls' H' locs' r'
                exact ih (d' + 1) mi (pc + 3) L (v.toList ++ rs) h1 (c + c1) (s + s1) o h' c' s' hr hmi p e S m args below meth cd H' locs' ls' σ0 σ' n0 R hRm hF hO2 hret hlocks htab r'
              · subst hE
                simp only at hr
                split at hr
                · cases hr
                · split at hr
                  · next hz1 hz =>
                    cases hr
                    refine vx_out (fun x hx => ?_) hlocks hce hcv hcl (fun t ht hvm => ⟨rfl, σ', r'.1, r'.2.1, ⟨by rw [ht]; exact r'.2.2.2.2.2.2.1, va_K.moved hvm hF.2.2.2.1, r'.2.2.2.2.2.2.2.1, r'.2.2.2.2.2.1⟩, r'.2.2.2.2.2.2.2.2.F ht⟩) r'.2.2.2.2.2.2.2.2.2.2 (Nat.le_refl _) (Nat.le_refl _)
                    rw [htab, hz] at hx
                    cases hx
                  · split at hr
                    · cases hr
                    · next hEs =>
                      split at hr
                      · cases hr
                      · next t ht =>
                        split at hr
                        · next i len1 ix1 hop1 =>
                          split at hr
                          · next hiL =>
                            refine sd_catch hAll.2.2.1 hAll.2.2.2.1 hF hO2 hmi htab (by simpa using hEs) ht hce hcv hcl ?_
                            have hchk1 := hAll.2.2.2.2 mi hmi t (.astore i) len1 ix1 hop1
                            simp only [av_chk, av_ok, Bool.or_eq_true, Bool.and_eq_true, decide_eq_true_eq] at hchk1
                            have hiL1 : i < (av_me P mi).2.2.1 := by rw [← r'.2.2.1.1]; exact hiL
                            have kk : ∀ ls' : Array Slot, lv_has ls' (av_me P mi).2.2.1 ((i, Value.ref q) :: (av_lv σ' τ L).filter (fun q => !(q.1 == i) && !(q.1 + 1 == i && q.2.category == 2))) → W p l e R S m args below meth cd H' locs' (c + c1) (s + s1) (vx_MQ below (av_Qc cy τ D cl A σ0 n0 o h') (av_Xc cy τ D cl A σ0 n0 o h') args S c' s' A) (F0 m (t + len1) ls' []) := fun ls' hl' =>
                              ih (d' + 1) mi (t + len1) (L.set i none) [] h1 (c + c1) (s + s1) o h' c' s' hr hmi p e S m args below meth cd H' locs' ls' σ0 σ' n0 R hRm hF hO2 hret hlocks htab (r'.drop hl')
                            rcases hchk1 with ⟨rfl, hd⟩ | ⟨⟨rfl, hi4⟩, hd⟩
                            · exact lv_astore hF.1.1 hF.1.2.1 hd r'.2.2.1.2 hiL1 rfl kk
                            · exact lv_astore_n hF.1.1 hF.1.2.1 hd (Nat.mod_eq_of_lt hi4) r'.2.2.1.2 hiL1 rfl kk
                          · cases hr
                        · cases hr
        · -- a throw
          simp only at hr
          cases hr
          simp only [av_chk, Bool.and_eq_true, decide_eq_true_eq] at hchk
          exact sd_thr hAll.2.1 hF hO2 hAll.2.2.1.2.1 hAll.2.2.1.1 hl hlocks (by rw [htab, hchk.2]; rfl) r hchk.1 h8 hRm.2.2.1 hRm.2.2.2
end SM
end
section
/-! ===== THE TABLES (by wip/whole/gen2.py out of the printed names): classes, methods, instructions ===== -/
def tF_0 : u_T := fun k => match k with
  | 0 => ("SinglesPast$Law", "lines", "I", true)
  | 1 => ("SinglesPast$Law", "kinds", "[I", true)
  | 2 => ("SinglesPast$Law", "amounts", "[I", true)
  | 3 => ("SinglesPast$Law", "ends", "[I", true)
  | 4 => ("SinglesPast$Law", "code", "[I", true)
  | 5 => ("SinglesPast$Law", "facts", "[I", true)
  | _ => ("SinglesPast$Law", "stack", "[I", true)
def tF_1 : u_T := fun k => match k with
  | 0 => ("SinglesPast$LawText", "lines", "I", false)
  | 1 => ("SinglesPast$LawText", "signs", "I", false)
  | 2 => ("SinglesPast$LawText", "kinds", "[I", true)
  | 3 => ("SinglesPast$LawText", "amounts", "[I", true)
  | 4 => ("SinglesPast$LawText", "ends", "[I", true)
  | _ => ("SinglesPast$LawText", "code", "[I", true)
def tF_2 : u_T := fun k => match k with
  | 0 => ("SinglesPast$Log", "rows", "I", false)
  | _ => ("SinglesPast$Log", "entries", "[I", true)
def tF_3 : u_T := fun k => match k with
  | 0 => ("SinglesPast$Memory", "kept", "I", false)
  | 1 => ("SinglesPast$Memory", "next", "I", false)
  | _ => ("SinglesPast$Memory", "before", "[LSinglesPast$State;", true)
def tF_4 : u_T := fun k => match k with
  | 0 => ("SinglesPast$Pairing", "bestWay", "[I", true)
  | 1 => ("SinglesPast$Pairing", "most", "I", false)
  | _ => ("SinglesPast$Pairing", "way", "[I", true)
def tF_5 : u_T := fun k => match k with
  | 0 => ("SinglesPast$Seating", "bestWay", "[I", true)
  | 1 => ("SinglesPast$Seating", "most", "I", false)
  | 2 => ("SinglesPast$Seating", "way", "[I", true)
  | _ => ("SinglesPast$Seating", "aboard", "[I", true)
def tF_6 : u_T := fun k => match k with
  | 0 => ("SinglesPast$State", "things", "LSinglesPast$Things;", true)
  | 1 => ("SinglesPast$State", "goers", "I", false)
  | 2 => ("SinglesPast$State", "wish", "[I", true)
  | 3 => ("SinglesPast$State", "deed", "[I", true)
  | 4 => ("SinglesPast$State", "makers", "I", false)
  | 5 => ("SinglesPast$State", "born", "[I", true)
  | 6 => ("SinglesPast$State", "money", "[I", true)
  | 7 => ("SinglesPast$State", "nerve", "[I", true)
  | 8 => ("SinglesPast$State", "shuns", "[I", true)
  | 9 => ("SinglesPast$State", "by", "[I", true)
  | 10 => ("SinglesPast$State", "trains", "I", false)
  | 11 => ("SinglesPast$State", "halts", "[I", true)
  | 12 => ("SinglesPast$State", "seats", "[I", true)
  | 13 => ("SinglesPast$State", "texts", "I", false)
  | 14 => ("SinglesPast$State", "law", "LSinglesPast$Law;", false)
  | 15 => ("SinglesPast$State", "day", "I", false)
  | 16 => ("SinglesPast$State", "seed", "I", false)
  | _ => ("SinglesPast$State", "log", "LSinglesPast$Log;", true)
def tF_7 : u_T := fun k => match k with
  | 0 => ("SinglesPast$Tape", "bytes", "[I", true)
  | 1 => ("SinglesPast$Tape", "length", "I", false)
  | 2 => ("SinglesPast$Tape", "place", "I", false)
  | 3 => ("SinglesPast$Tape", "number", "I", false)
  | 4 => ("SinglesPast$Tape", "textLength", "I", false)
  | _ => ("SinglesPast$Tape", "begin", "I", false)
def tF_8 : u_T := fun k => match k with
  | 0 => ("SinglesPast$Things", "count", "I", false)
  | 1 => ("SinglesPast$Things", "first", "I", false)
  | 2 => ("SinglesPast$Things", "at", "[I", true)
  | 3 => ("SinglesPast$Things", "worth", "[I", true)
  | 4 => ("SinglesPast$Things", "makes", "[I", true)
  | _ => ("SinglesPast$Things", "hinders", "[I", true)
def tF_9 : u_T := fun k => match k with
  | 0 => ("SinglesPast$Worlds", "so", "[I", true)
  | 1 => ("SinglesPast$Worlds", "alive", "[I", true)
  | 2 => ("SinglesPast$Worlds", "count", "I", false)
  | 3 => ("SinglesPast$Worlds", "makers", "I", false)
  | 4 => ("SinglesPast$Worlds", "order", "[I", true)
  | 5 => ("SinglesPast$Worlds", "madeBy", "[I", true)
  | 6 => ("SinglesPast$Worlds", "hinderedBy", "[I", true)
  | _ => ("SinglesPast$Worlds", "doers", "[I", true)
def tF_10 : u_T := fun k => match k with
  | 0 => ("SinglesPast", "tape", "LSinglesPast$Tape;", true)
  | 1 => ("SinglesPast", "wrongAt", "I", false)
  | 2 => ("SinglesPast", "state", "LSinglesPast$State;", true)
  | 3 => ("SinglesPast", "image", "LSinglesPast$State;", true)
  | 4 => ("SinglesPast", "imageKept", "Z", false)
  | 5 => ("SinglesPast", "draft", "LSinglesPast$State;", true)
  | 6 => ("SinglesPast", "memory", "LSinglesPast$Memory;", true)
  | 7 => ("SinglesPast", "lawText", "LSinglesPast$LawText;", true)
  | 8 => ("SinglesPast", "worlds", "LSinglesPast$Worlds;", true)
  | 9 => ("SinglesPast", "worldsFresh", "Z", false)
  | 10 => ("SinglesPast", "otherWorlds", "LSinglesPast$Worlds;", true)
  | 11 => ("SinglesPast", "seating", "LSinglesPast$Seating;", true)
  | 12 => ("SinglesPast", "pairing", "LSinglesPast$Pairing;", true)
  | 13 => ("SinglesPast", "toldSo", "I", false)
  | _ => ("SinglesPast", "toldNot", "I", false)
def tF_11 : u_T := fun k => match k with
  | 0 => ("SinglesPastModel", "thrown", "I", false)
  | 1 => ("SinglesPastModel", "row", "[I", true)
  | 2 => ("SinglesPastModel", "image", "[I", true)
  | 3 => ("SinglesPastModel", "earlier", "[I", true)
  | 4 => ("SinglesPastModel", "trial", "[I", true)
  | 5 => ("SinglesPastModel", "acts", "[I", true)
  | 6 => ("SinglesPastModel", "hasImage", "Z", false)
  | 7 => ("SinglesPastModel", "remembered", "I", false)
  | 8 => ("SinglesPastModel", "tape", "[B", true)
  | 9 => ("SinglesPastModel", "taped", "I", false)
  | 10 => ("SinglesPastModel", "point", "I", false)
  | 11 => ("SinglesPastModel", "end", "I", false)
  | 12 => ("SinglesPastModel", "begin", "I", false)
  | 13 => ("SinglesPastModel", "deep", "I", false)
  | 14 => ("SinglesPastModel", "faultAt", "I", false)
  | 15 => ("SinglesPastModel", "five", "[I", true)
  | 16 => ("SinglesPastModel", "codes", "I", false)
  | 17 => ("SinglesPastModel", "value", "[I", true)
  | 18 => ("SinglesPastModel", "so", "I", false)
  | 19 => ("SinglesPastModel", "lines", "[I", true)
  | 20 => ("SinglesPastModel", "chosen", "[I", true)
  | 21 => ("SinglesPastModel", "best", "[I", true)
  | 22 => ("SinglesPastModel", "members", "[I", true)
  | _ => ("SinglesPastModel", "paired", "[I", true)
def tCl : List vw_C := [("SinglesPast$Law", tF_0, 7), ("SinglesPast$LawText", tF_1, 6), ("SinglesPast$Log", tF_2, 2), ("SinglesPast$Memory", tF_3, 3), ("SinglesPast$Pairing", tF_4, 3), ("SinglesPast$Seating", tF_5, 4), ("SinglesPast$State", tF_6, 18), ("SinglesPast$Tape", tF_7, 6), ("SinglesPast$Things", tF_8, 6), ("SinglesPast$Worlds", tF_9, 8), ("SinglesPast", tF_10, 15), ("SinglesPastModel", tF_11, 24)]
def tTy : List (List FieldType) := [[.int, (.array .int), (.array .int), (.array .int), (.array .int), (.array .int), (.array .int)],
  [.int, .int, (.array .int), (.array .int), (.array .int), (.array .int)],
  [.int, (.array .int)],
  [.int, .int, (.array (.object "SinglesPast$State"))],
  [(.array .int), .int, (.array .int)],
  [(.array .int), .int, (.array .int), (.array .int)],
  [(.object "SinglesPast$Things"), .int, (.array .int), (.array .int), .int, (.array .int), (.array .int), (.array .int), (.array .int), (.array .int), .int, (.array .int), (.array .int), .int, (.object "SinglesPast$Law"), .int, .int, (.object "SinglesPast$Log")],
  [(.array .int), .int, .int, .int, .int, .int],
  [.int, .int, (.array .int), (.array .int), (.array .int), (.array .int)],
  [(.array .int), (.array .int), .int, .int, (.array .int), (.array .int), (.array .int), (.array .int)],
  [(.object "SinglesPast$Tape"), .int, (.object "SinglesPast$State"), (.object "SinglesPast$State"), .boolean, (.object "SinglesPast$State"), (.object "SinglesPast$Memory"), (.object "SinglesPast$LawText"), (.object "SinglesPast$Worlds"), .boolean, (.object "SinglesPast$Worlds"), (.object "SinglesPast$Seating"), (.object "SinglesPast$Pairing"), .int, .int],
  [.int, (.array .int), (.array .int), (.array .int), (.array .int), (.array .int), .boolean, .int, (.array .byte), .int, .int, .int, .int, .int, .int, (.array .int), .int, (.array .int), .int, (.array .int), (.array .int), (.array .int), (.array .int), (.array .int)]]
def tCn : List String := ["SinglesPast$Law", "SinglesPast$LawText", "SinglesPast$Log", "SinglesPast$Memory", "SinglesPast$Pairing", "SinglesPast$Seating", "SinglesPast$State", "SinglesPast$StationText", "SinglesPast$Tape", "SinglesPast$Things", "SinglesPast$Worlds", "SinglesPast", "SinglesPastModel", "java/lang/Integer", "java/lang/Math", "java/util/Arrays", "SinglesPastLaw"]
def tFl : List (Nat × Nat × Nat × Nat) := [(0, 11, 0, 5), (0, 15, 0, 6), (0, 18, 0, 0), (0, 22, 0, 1), (0, 25, 0, 2), (0, 28, 0, 3), (0, 31, 0, 4), (0, 45, 6, 2), (0, 48, 6, 6), (0, 51, 6, 7), (0, 54, 6, 15), (0, 57, 6, 5), (0, 60, 6, 3), (0, 63, 6, 12), (1, 11, 1, 2), (1, 15, 1, 3), (1, 18, 1, 4), (1, 21, 1, 5), (1, 26, 1, 0), (1, 36, 1, 1), (1, 66, 7, 3), (2, 11, 2, 1), (2, 15, 2, 0), (3, 11, 3, 2), (3, 16, 3, 1), (3, 24, 3, 0), (4, 9, 4, 0), (4, 15, 4, 2), (4, 18, 4, 1), (4, 38, 6, 1), (4, 49, 6, 8), (4, 52, 6, 2), (5, 9, 5, 0), (5, 15, 5, 2), (5, 18, 5, 3), (5, 21, 5, 1), (5, 35, 6, 1), (5, 46, 6, 10), (5, 57, 6, 8), (5, 60, 6, 12), (6, 12, 6, 0), (6, 18, 6, 2), (6, 22, 6, 3), (6, 25, 6, 5), (6, 28, 6, 6), (6, 31, 6, 7), (6, 34, 6, 8), (6, 37, 6, 9), (6, 40, 6, 11), (6, 43, 6, 12), (6, 46, 6, 16), (6, 53, 6, 17), (6, 61, 6, 1), (6, 70, 6, 4), (6, 73, 6, 10), (6, 76, 6, 13), (6, 79, 6, 14), (6, 83, 6, 15), (7, 31, 6, 0), (7, 37, 8, 0), (7, 54, 6, 1), (7, 63, 6, 10), (7, 82, 7, 3), (7, 93, 8, 2), (7, 110, 6, 7), (7, 128, 6, 5), (7, 145, 6, 15), (8, 9, 7, 0), (8, 15, 7, 1), (8, 25, 7, 4), (8, 32, 7, 2), (8, 35, 7, 5), (8, 51, 7, 3), (9, 9, 8, 2), (9, 15, 8, 3), (9, 18, 8, 4), (9, 21, 8, 5), (9, 24, 8, 0), (9, 28, 8, 1), (10, 9, 9, 0), (10, 15, 9, 1), (10, 18, 9, 4), (10, 21, 9, 5), (10, 24, 9, 6), (10, 27, 9, 7), (10, 30, 6, 0), (10, 36, 8, 0), (10, 42, 9, 2), (10, 43, 6, 4), (10, 46, 9, 3), (10, 66, 8, 2), (10, 69, 8, 4), (10, 72, 8, 5), (10, 81, 6, 1), (10, 84, 6, 3), (10, 87, 6, 2), (11, 10, 10, 0), (11, 16, 10, 1), (11, 23, 10, 2), (11, 27, 10, 3), (11, 30, 10, 5), (11, 36, 10, 6), (11, 43, 10, 7), (11, 50, 10, 8), (11, 54, 10, 10), (11, 60, 10, 11), (11, 67, 10, 12), (11, 71, 7, 1), (11, 95, 6, 13), (11, 115, 6, 14), (11, 119, 0, 0), (11, 124, 7, 2), (11, 135, 10, 9), (11, 142, 6, 0), (11, 146, 8, 2), (11, 152, 8, 1), (11, 155, 8, 3), (11, 158, 8, 4), (11, 161, 8, 5), (11, 183, 6, 2), (11, 186, 6, 3), (11, 189, 6, 4), (11, 192, 6, 5), (11, 195, 6, 6), (11, 198, 6, 7), (11, 201, 6, 8), (11, 204, 6, 9), (11, 218, 6, 11), (11, 221, 6, 12), (11, 312, 9, 0), (11, 333, 6, 1), (11, 357, 8, 0), (11, 363, 10, 13), (11, 366, 10, 14), (11, 369, 7, 0), (11, 378, 9, 1), (11, 394, 5, 0), (11, 421, 4, 0), (11, 434, 6, 10), (11, 440, 6, 16), (11, 443, 6, 17), (11, 464, 10, 4), (11, 467, 6, 15), (11, 473, 2, 0), (11, 476, 3, 0), (12, 3, 11, 0), (12, 13, 11, 1), (12, 17, 11, 2), (12, 20, 11, 3), (12, 23, 11, 4), (12, 26, 11, 5), (12, 29, 11, 8), (12, 33, 11, 14), (12, 36, 11, 15), (12, 39, 11, 17), (12, 42, 11, 19), (12, 45, 11, 20), (12, 48, 11, 21), (12, 51, 11, 22), (12, 54, 11, 23), (12, 57, 11, 6), (12, 61, 11, 7), (12, 96, 11, 9), (12, 99, 11, 10), (12, 102, 11, 11), (12, 109, 11, 12), (12, 213, 11, 16), (12, 235, 11, 13), (12, 346, 11, 18)]
def tMl : List (Nat × Nat × Nat) := [(0, 34, 39), (0, 40, 357), (0, 66, 3), (1, 30, 361), (1, 39, 0), (1, 42, 66), (1, 48, 7), (1, 52, 69), (1, 58, 71), (1, 62, 73), (1, 71, 70), (1, 75, 9), (1, 78, 10), (1, 81, 8), (1, 91, 68), (1, 96, 11), (3, 20, 31), (3, 27, 359), (4, 22, 360), (4, 28, 24), (4, 32, 357), (5, 25, 28), (5, 29, 357), (5, 49, 29), (5, 53, 42), (6, 57, 76), (6, 86, 13), (6, 89, 34), (6, 93, 36), (6, 97, 37), (6, 100, 1), (6, 106, 2), (6, 110, 42), (6, 114, 39), (6, 117, 357), (6, 122, 46), (6, 125, 44), (6, 129, 14), (6, 133, 51), (6, 136, 47), (6, 139, 48), (6, 142, 359), (6, 147, 52), (6, 150, 45), (7, 9, 66), (7, 17, 54), (7, 21, 69), (7, 27, 71), (7, 43, 55), (7, 47, 68), (7, 50, 56), (7, 57, 57), (7, 60, 60), (7, 66, 61), (7, 69, 62), (7, 74, 70), (7, 78, 73), (7, 89, 77), (7, 96, 78), (7, 104, 32), (7, 112, 58), (7, 116, 59), (7, 123, 34), (7, 130, 35), (7, 137, 74), (7, 141, 33), (8, 19, 359), (8, 28, 67), (8, 43, 72), (9, 37, 82), (9, 41, 358), (10, 47, 85), (10, 51, 86), (10, 54, 87), (10, 58, 88), (10, 62, 43), (10, 75, 360), (10, 90, 89), (10, 94, 90), (10, 101, 92), (11, 35, 18), (11, 74, 64), (11, 78, 31), (11, 82, 65), (11, 85, 53), (11, 91, 99), (11, 105, 100), (11, 108, 6), (11, 111, 5), (11, 132, 21), (11, 139, 180), (11, 164, 129), (11, 168, 81), (11, 172, 105), (11, 180, 181), (11, 207, 47), (11, 210, 130), (11, 215, 183), (11, 224, 39), (11, 227, 357), (11, 232, 106), (11, 237, 40), (11, 240, 37), (11, 243, 44), (11, 247, 45), (11, 250, 46), (11, 256, 119), (11, 259, 50), (11, 268, 48), (11, 273, 359), (11, 280, 179), (11, 283, 184), (11, 286, 34), (11, 290, 182), (11, 294, 35), (11, 302, 49), (11, 305, 19), (11, 308, 128), (11, 315, 36), (11, 318, 90), (11, 321, 91), (11, 324, 92), (11, 327, 131), (11, 330, 93), (11, 336, 79), (11, 339, 84), (11, 343, 135), (11, 346, 137), (11, 350, 138), (11, 353, 139), (11, 360, 358), (11, 374, 136), (11, 381, 142), (11, 384, 80), (11, 387, 38), (11, 390, 26), (11, 397, 27), (11, 401, 149), (11, 404, 150), (11, 407, 153), (11, 410, 154), (11, 415, 156), (11, 418, 23), (11, 422, 159), (11, 426, 160), (11, 431, 43), (11, 437, 185), (11, 447, 17), (11, 452, 16), (11, 457, 15), (11, 460, 20), (11, 470, 41), (12, 64, 200), (12, 68, 202), (12, 71, 204), (12, 74, 198), (12, 78, 203), (12, 81, 207), (12, 85, 197), (12, 88, 188), (12, 92, 199), (12, 105, 217), (12, 112, 218), (12, 124, 219), (12, 127, 220), (12, 131, 223), (12, 134, 221), (12, 139, 224), (12, 147, 225), (12, 150, 201), (12, 165, 358), (12, 170, 189), (12, 177, 233), (12, 182, 229), (12, 188, 230), (12, 195, 231), (12, 200, 232), (12, 205, 234), (12, 210, 228), (12, 220, 237), (12, 223, 236), (12, 227, 238), (12, 230, 222), (12, 238, 243), (12, 243, 241), (12, 246, 240), (12, 249, 239), (12, 254, 242), (12, 267, 235), (12, 270, 244), (12, 273, 227), (12, 276, 245), (12, 280, 246), (12, 284, 187), (12, 287, 209), (12, 291, 205), (12, 294, 249), (12, 298, 250), (12, 301, 251), (12, 305, 255), (12, 308, 253), (12, 311, 252), (12, 314, 256), (12, 317, 257), (12, 320, 359), (12, 323, 259), (12, 327, 258), (12, 330, 214), (12, 333, 254), (12, 336, 260), (12, 339, 261), (12, 343, 262), (12, 348, 264), (12, 351, 265), (12, 354, 266), (12, 357, 267), (12, 360, 357), (12, 365, 268), (12, 368, 206), (12, 371, 208), (12, 374, 270), (12, 377, 269), (12, 380, 211), (12, 383, 277), (12, 386, 280), (12, 389, 279), (12, 392, 283), (12, 395, 210), (12, 398, 282), (12, 401, 284), (12, 404, 212), (12, 407, 288), (12, 410, 193), (12, 413, 263), (12, 417, 294), (12, 420, 213), (12, 423, 299), (12, 427, 303), (12, 430, 304), (12, 433, 306), (12, 436, 309), (12, 439, 314), (12, 442, 315), (12, 445, 316), (12, 448, 318), (12, 451, 319), (12, 454, 321), (12, 457, 322), (12, 460, 323), (12, 463, 327), (12, 466, 329), (12, 469, 356), (12, 472, 331), (12, 475, 332), (12, 478, 333), (12, 481, 334), (12, 484, 336), (12, 487, 337), (12, 490, 347), (12, 493, 195), (12, 496, 196), (12, 499, 351), (15, 304, 359), (16, 7, 97), (16, 17, 98), (16, 20, 102), (16, 28, 103), (16, 31, 104), (16, 34, 107), (16, 37, 108), (16, 40, 109), (16, 44, 110), (16, 48, 111), (16, 53, 112), (16, 56, 113), (16, 59, 114), (16, 62, 115), (16, 66, 116), (16, 70, 117), (16, 73, 118), (16, 76, 126), (16, 79, 132), (16, 82, 133), (16, 86, 134), (16, 89, 140), (16, 92, 144), (16, 95, 145), (16, 98, 147), (16, 102, 151), (16, 105, 155), (16, 108, 157), (16, 111, 158), (16, 114, 161), (16, 117, 169), (16, 120, 170), (16, 123, 171), (16, 126, 172), (16, 129, 173), (16, 132, 94), (16, 135, 190), (16, 136, 95), (16, 140, 215), (16, 141, 96), (16, 145, 216), (16, 146, 362), (16, 151, 247), (16, 152, 186), (16, 155, 363), (16, 157, 248), (16, 158, 101), (16, 161, 226), (16, 162, 364), (16, 165, 285), (16, 166, 365), (16, 168, 286), (16, 169, 366), (16, 171, 287), (16, 172, 367), (16, 174, 289), (16, 175, 368), (16, 177, 290), (16, 178, 369), (16, 180, 291), (16, 181, 370), (16, 184, 292), (16, 185, 371), (16, 187, 293), (16, 188, 372), (16, 190, 295), (16, 191, 373), (16, 193, 296), (16, 194, 374), (16, 196, 297), (16, 197, 375), (16, 200, 298), (16, 201, 376), (16, 203, 300), (16, 204, 377), (16, 206, 301), (16, 207, 378), (16, 209, 302), (16, 210, 120), (16, 213, 271), (16, 214, 121), (16, 217, 272), (16, 218, 122), (16, 221, 273), (16, 222, 123), (16, 225, 274), (16, 226, 124), (16, 229, 275), (16, 230, 125), (16, 233, 276), (16, 234, 379), (16, 236, 278), (16, 237, 127), (16, 240, 281), (16, 241, 380), (16, 243, 305), (16, 244, 381), (16, 247, 307), (16, 248, 382), (16, 250, 308), (16, 251, 383), (16, 253, 310), (16, 254, 141), (16, 257, 311), (16, 258, 143), (16, 261, 312), (16, 262, 384), (16, 264, 313), (16, 265, 385), (16, 267, 317), (16, 268, 146), (16, 271, 320), (16, 272, 386), (16, 275, 324), (16, 276, 148), (16, 279, 325), (16, 280, 387), (16, 282, 326), (16, 283, 152), (16, 286, 328), (16, 287, 388), (16, 289, 330), (16, 290, 389), (16, 292, 335), (16, 293, 390), (16, 295, 338), (16, 296, 391), (16, 298, 339), (16, 299, 162), (16, 302, 340), (16, 303, 163), (16, 306, 341), (16, 307, 164), (16, 310, 342), (16, 311, 165), (16, 314, 343), (16, 315, 166), (16, 318, 344), (16, 319, 167), (16, 322, 345), (16, 323, 168), (16, 326, 346), (16, 327, 392), (16, 329, 348), (16, 330, 393), (16, 332, 349), (16, 333, 394), (16, 335, 350), (16, 336, 395), (16, 338, 352), (16, 339, 396), (16, 341, 353), (16, 342, 174), (16, 345, 354), (16, 346, 175), (16, 350, 194), (16, 351, 176), (16, 354, 191), (16, 355, 177), (16, 358, 192), (16, 359, 178), (16, 362, 355)]
def tNl : List (Nat × Nat × Nat) := [(3, 15, 30), (6, 11, 75), (6, 52, 12), (10, 98, 131), (11, 9, 63), (11, 22, 30), (11, 42, 4), (11, 49, 83), (11, 59, 25), (11, 66, 22)]
def tKl : List (Nat × Nat × Int) := [(6, 153, 1103515245), (11, 297, 65535), (12, 95, 1103515245), (12, 137, 1000000), (12, 426, 65535), (13, 264, 65536), (13, 265, 1431655765), (13, 266, 858993459), (13, 267, 252645135)]
def tSl : List (Nat × Nat × Nat) := [(1, 56, 14), (1, 69, 15), (1, 85, 19), (1, 87, 20), (1, 89, 16), (1, 94, 17), (1, 100, 18), (7, 25, 0), (7, 72, 1), (7, 85, 2), (7, 87, 3), (7, 100, 4), (7, 102, 5), (7, 108, 6), (7, 119, 7), (7, 121, 8), (7, 126, 9), (7, 133, 10), (7, 135, 11), (11, 100, 13), (11, 129, 12), (11, 177, 22), (11, 213, 24), (11, 235, 26), (11, 254, 27), (11, 265, 28), (11, 271, 29), (11, 278, 30), (11, 298, 34), (11, 300, 35), (11, 372, 36), (11, 413, 37), (11, 429, 38), (11, 455, 40), (11, 481, 31), (11, 484, 21), (11, 486, 23), (11, 488, 33), (11, 490, 25), (11, 492, 32), (11, 494, 39), (12, 138, 42), (12, 143, 43), (12, 145, 44), (12, 153, 48), (12, 155, 49), (12, 157, 50), (12, 159, 51), (12, 161, 52), (12, 163, 53), (12, 173, 56), (12, 175, 57), (12, 180, 41), (12, 186, 45), (12, 191, 46), (12, 193, 47), (12, 198, 54), (12, 203, 55), (12, 208, 58), (12, 216, 65), (12, 218, 66), (12, 233, 64), (12, 241, 63), (12, 252, 67), (12, 257, 68), (12, 259, 59), (12, 261, 60), (12, 263, 61), (12, 265, 62)]
def tKc : List (Nat × Nat × Nat) := [(1, 24, 0), (3, 9, 6), (6, 9, 8), (6, 50, 2), (11, 7, 7), (11, 20, 6), (11, 33, 3), (11, 40, 1), (11, 47, 9), (11, 57, 5), (11, 64, 4), (16, 8, 10), (16, 133, 11)]
def tJl : List (Nat × Nat × Nat) := [(0, 3, 3), (1, 3, 3), (2, 3, 3), (2, 19, 0), (3, 1, 3), (3, 9, 4), (4, 3, 3), (4, 43, 0), (5, 3, 3), (5, 40, 0), (6, 3, 3), (6, 64, 0), (8, 3, 3), (8, 38, 1), (8, 47, 2), (9, 3, 3), (9, 31, 0), (10, 3, 3), (11, 1, 3), (12, 7, 3), (12, 115, 1), (12, 120, 2), (15, 150, 0), (15, 316, 5), (15, 317, 6)]
def tI : av_I := [(11, 98, 100, 102, false), (11, 127, 129, 131, false), (11, 175, 177, 179, false), (11, 175, 213, 179, false), (11, 175, 235, 179, false), (11, 127, 254, 131, false), (11, 263, 265, 267, true), (11, 127, 271, 131, true), (11, 127, 278, 131, true), (11, 127, 298, 131, true), (11, 263, 300, 267, true), (11, 127, 372, 131, true), (11, 127, 413, 131, true), (11, 127, 429, 131, true), (11, 175, 455, 179, true), (11, 479, 481, 483, true), (11, 479, 484, 483, true), (11, 479, 486, 483, true), (11, 127, 488, 131, true), (11, 479, 490, 483, true), (11, 263, 492, 267, true), (11, 127, 494, 131, true)]
def tTh : List String := ["java/lang/UnsupportedOperationException", "java/lang/IllegalArgumentException", "java/util/NoSuchElementException", "java/util/NoSuchElementException", "java/util/NoSuchElementException", "java/lang/IllegalArgumentException", "java/lang/IllegalStateException", "java/lang/IllegalArgumentException", "java/lang/IllegalArgumentException", "java/lang/IllegalArgumentException", "java/lang/IllegalStateException", "java/lang/IllegalArgumentException", "java/lang/IllegalArgumentException", "java/lang/IllegalArgumentException", "java/util/NoSuchElementException", "java/lang/IndexOutOfBoundsException", "java/lang/IndexOutOfBoundsException", "java/lang/IndexOutOfBoundsException", "java/lang/IllegalArgumentException", "java/lang/IndexOutOfBoundsException", "java/lang/IllegalStateException", "java/lang/IllegalArgumentException"]
def tTx : List (List Int32) := [[116, 104, 105, 110, 103, 32, 109, 97, 107, 101, 115, 32, 104, 105, 110, 100, 101, 114, 115, 32, 103, 111, 101, 114, 32, 115, 104, 117, 110, 115, 32, 116, 114, 97, 105, 110, 32, 100, 97, 121],
  [97, 116],
  [115, 111],
  [119, 111, 114, 116, 104],
  [116, 111],
  [109, 111, 110, 101, 121],
  [110, 101, 114, 118, 101],
  [100, 111, 101, 115],
  [117, 110, 100, 111, 101, 115],
  [98, 111, 114, 110],
  [115, 101, 97, 116, 115],
  [115, 116, 111, 112, 115],
  [116, 104, 101, 32, 116, 101, 120, 116, 32, 105, 115, 32, 119, 114, 111, 110, 103],
  [116, 104, 101, 114, 101, 32, 97, 114, 101, 32, 49, 50, 32, 116, 101, 120, 116, 115],
  [99, 111, 115, 116, 32, 102, 101, 97, 114, 32, 98, 97, 114],
  [105, 102],
  [110, 111, 116],
  [98, 111, 114, 110, 32, 100, 111, 101, 115, 32, 102, 117, 108, 108],
  [103, 111, 101, 114, 32, 119, 105, 115, 104, 32, 109, 111, 110, 101, 121, 32, 110, 101, 114, 118, 101, 32, 116, 114, 97, 105, 110, 32, 103, 111, 110, 101, 32, 100, 97, 121],
  [97, 110, 100],
  [111, 114],
  [116, 104, 101, 114, 101, 32, 105, 115, 32, 110, 111, 32, 115, 117, 99, 104, 32, 84, 72, 73, 78, 71],
  [97, 32, 84, 72, 73, 78, 71, 32, 104, 97, 115, 32, 110, 111, 32, 115, 117, 99, 104, 32, 119, 104, 97, 116],
  [116, 104, 101, 114, 101, 32, 105, 115, 32, 110, 111, 32, 115, 117, 99, 104, 32, 71, 79, 69, 82],
  [97, 32, 71, 79, 69, 82, 32, 104, 97, 115, 32, 110, 111, 32, 115, 117, 99, 104, 32, 119, 104, 97, 116],
  [116, 104, 101, 114, 101, 32, 105, 115, 32, 110, 111, 32, 115, 117, 99, 104, 32, 84, 82, 65, 73, 78],
  [97, 32, 84, 82, 65, 73, 78, 32, 104, 97, 115, 32, 110, 111, 32, 115, 117, 99, 104, 32, 119, 104, 97, 116],
  [68, 65, 89, 83, 32, 97, 114, 101, 32, 49, 32, 116, 111, 32, 54, 48],
  [104, 101, 32, 67, 65, 78, 32, 110, 111, 116, 32, 103, 111, 32, 98, 121, 32, 105, 116],
  [77, 79, 78, 69, 89, 32, 116, 104, 97, 116, 32, 105, 115, 32, 103, 105, 118, 101, 110, 32, 105, 115, 32, 49, 32, 116, 111, 32, 57, 57, 57],
  [78, 69, 82, 86, 69, 32, 105, 115, 32, 48, 32, 116, 111, 32, 49, 48, 48],
  [116, 104, 101, 114, 101, 32, 105, 115, 32, 110, 111, 32, 115, 117, 99, 104, 32, 83, 84, 79, 80],
  [104, 101, 32, 105, 115, 32, 71, 79, 78, 69],
  [98, 111, 116, 104, 32, 97, 114, 101, 32, 111, 110, 101],
  [97, 32, 84, 82, 65, 73, 78, 32, 104, 97, 115, 32, 97, 32, 83, 84, 79, 80],
  [104, 101, 32, 105, 115, 32, 110, 111, 116, 32, 71, 79, 78, 69],
  [116, 104, 101, 32, 84, 65, 80, 69, 32, 104, 97, 115, 32, 110, 111, 32, 115, 117, 99, 104, 32, 114, 111, 119, 115],
  [121, 101, 97, 114, 115, 32, 116, 111, 32, 112, 105, 99, 107, 32, 102, 114, 111, 109, 32, 97, 114, 101, 32, 49, 32, 116, 111, 32, 49, 48],
  [68, 65, 89, 83, 32, 111, 102, 32, 111, 100, 100, 115, 32, 97, 114, 101, 32, 48, 32, 116, 111, 32, 52],
  [68, 65, 89, 83, 32, 97, 104, 101, 97, 100, 32, 97, 114, 101, 32, 48, 32, 116, 111, 32, 54, 48],
  [97, 32, 114, 111, 119, 32, 104, 97, 115, 32, 110, 111, 32, 115, 117, 99, 104, 32, 119, 104, 97, 116],
  [116, 104, 105, 110, 103],
  [97, 116],
  [115, 111],
  [119, 111, 114, 116, 104],
  [109, 97, 107, 101, 115],
  [104, 105, 110, 100, 101, 114, 115],
  [103, 111, 101, 114],
  [116, 111],
  [109, 111, 110, 101, 121],
  [110, 101, 114, 118, 101],
  [100, 111, 101, 115],
  [117, 110, 100, 111, 101, 115],
  [98, 111, 114, 110],
  [115, 104, 117, 110, 115],
  [116, 114, 97, 105, 110],
  [115, 101, 97, 116, 115],
  [115, 116, 111, 112, 115],
  [100, 97, 121],
  [99, 111, 115, 116],
  [102, 101, 97, 114],
  [98, 97, 114],
  [105, 102],
  [110, 111, 116],
  [102, 117, 108, 108],
  [119, 105, 115, 104],
  [103, 111, 110, 101],
  [97, 110, 100],
  [111, 114]]
def tM0 : av_M := (⟨"", "", ""⟩, ⟨#[]⟩, 0, none, 0, [], [], 0, false)
/-- SinglesPast$Law.<init> -/
def tM_0 : av_M := (⟨"SinglesPast$Law", "<init>", "(I[I[I[I[I)V"⟩, prog_2_method_1_code, 6, none, 6, [], [], 0, false)
/-- SinglesPast$Law.lookAt -/
def tM_1 : av_M := (⟨"SinglesPast$Law", "lookAt", "(LSinglesPast$State;II)V"⟩, prog_2_method_2_code, 5, none, 4, [], [], 0, false)
/-- SinglesPast$Law.sumOf -/
def tM_2 : av_M := (⟨"SinglesPast$Law", "sumOf", "(I)I"⟩, prog_2_method_3_code, 5, (some .int), 2, [], [], 0, false)
/-- SinglesPast$Law.holds -/
def tM_3 : av_M := (⟨"SinglesPast$Law", "holds", "(II)Z"⟩, prog_2_method_4_code, 8, (some .boolean), 3, [], [], 0, false)
/-- SinglesPast$LawText.<init> -/
def tM_4 : av_M := (⟨"SinglesPast$LawText", "<init>", "()V"⟩, prog_3_method_1_code, 1, none, 1, [], [], 1, false)
/-- SinglesPast$LawText.toLaw -/
def tM_5 : av_M := (⟨"SinglesPast$LawText", "toLaw", "()LSinglesPast$Law;"⟩, prog_3_method_2_code, 1, (some (.object "SinglesPast$Law")), 1, [], [], 1, false)
/-- SinglesPast$LawText.read -/
def tM_6 : av_M := (⟨"SinglesPast$LawText", "read", "(LSinglesPast$Tape;)Z"⟩, prog_3_method_3_code, 3, (some .boolean), 2, [], [], 1, false)
/-- SinglesPast$LawText.readLine -/
def tM_7 : av_M := (⟨"SinglesPast$LawText", "readLine", "(LSinglesPast$Tape;I)Z"⟩, prog_3_method_4_code, 4, (some .boolean), 3, [], [], 1, false)
/-- SinglesPast$LawText.put -/
def tM_8 : av_M := (⟨"SinglesPast$LawText", "put", "(I)V"⟩, prog_3_method_5_code, 2, none, 2, [], [], 1, false)
/-- SinglesPast$LawText.readCondition -/
def tM_9 : av_M := (⟨"SinglesPast$LawText", "readCondition", "(LSinglesPast$Tape;I)Z"⟩, prog_3_method_6_code, 6, (some .boolean), 3, [], [], 1, false)
/-- SinglesPast$LawText.readAtom -/
def tM_10 : av_M := (⟨"SinglesPast$LawText", "readAtom", "(LSinglesPast$Tape;I)Z"⟩, prog_3_method_7_code, 5, (some .boolean), 3, [], [], 1, false)
/-- SinglesPast$LawText.readSum -/
def tM_11 : av_M := (⟨"SinglesPast$LawText", "readSum", "(LSinglesPast$Tape;)Z"⟩, prog_3_method_8_code, 4, (some .boolean), 2, [], [], 1, false)
/-- SinglesPast$Log.<init> -/
def tM_12 : av_M := (⟨"SinglesPast$Log", "<init>", "()V"⟩, prog_4_method_1_code, 1, none, 1, [], [], 2, false)
/-- SinglesPast$Log.copyFrom -/
def tM_13 : av_M := (⟨"SinglesPast$Log", "copyFrom", "(LSinglesPast$Log;)V"⟩, prog_4_method_2_code, 2, none, 2, [], [], 2, false)
/-- SinglesPast$Log.add -/
def tM_14 : av_M := (⟨"SinglesPast$Log", "add", "(IIII)V"⟩, prog_4_method_3_code, 6, none, 5, [], [], 2, false)
/-- SinglesPast$Log.entryOf -/
def tM_15 : av_M := (⟨"SinglesPast$Log", "entryOf", "(II)I"⟩, prog_4_method_4_code, 3, (some .int), 3, [], [], 2, false)
/-- SinglesPast$Log.countOf -/
def tM_16 : av_M := (⟨"SinglesPast$Log", "countOf", "(I)I"⟩, prog_4_method_5_code, 4, (some .int), 2, [], [], 2, false)
/-- SinglesPast$Log.latestDayOf -/
def tM_17 : av_M := (⟨"SinglesPast$Log", "latestDayOf", "(I)I"⟩, prog_4_method_6_code, 3, (some .int), 2, [], [], 2, false)
/-- SinglesPast$Memory.<init> -/
def tM_18 : av_M := (⟨"SinglesPast$Memory", "<init>", "()V"⟩, prog_5_method_1_code, 2, none, 1, [], [], 3, false)
/-- SinglesPast$Memory.keep -/
def tM_19 : av_M := (⟨"SinglesPast$Memory", "keep", "(LSinglesPast$State;)V"⟩, prog_5_method_2_code, 2, none, 2, [], [], 3, false)
/-- SinglesPast$Memory.bringBack -/
def tM_20 : av_M := (⟨"SinglesPast$Memory", "bringBack", "(LSinglesPast$State;)Z"⟩, prog_5_method_3_code, 2, (some .boolean), 2, [], [], 3, false)
/-- SinglesPast$Memory.forget -/
def tM_21 : av_M := (⟨"SinglesPast$Memory", "forget", "()V"⟩, prog_5_method_4_code, 1, none, 1, [], [], 3, false)
/-- SinglesPast$Pairing.<init> -/
def tM_22 : av_M := (⟨"SinglesPast$Pairing", "<init>", "()V"⟩, prog_6_method_1_code, 1, none, 1, [], [], 4, false)
/-- SinglesPast$Pairing.pairMost -/
def tM_23 : av_M := (⟨"SinglesPast$Pairing", "pairMost", "(LSinglesPast$State;I)I"⟩, prog_6_method_2_code, 3, (some .int), 3, [], [], 4, false)
/-- SinglesPast$Pairing.pairFrom -/
def tM_24 : av_M := (⟨"SinglesPast$Pairing", "pairFrom", "(LSinglesPast$State;III)V"⟩, prog_6_method_3_code, 8, none, 5, [], [], 4, false)
/-- SinglesPast$Seating.<init> -/
def tM_25 : av_M := (⟨"SinglesPast$Seating", "<init>", "()V"⟩, prog_7_method_1_code, 1, none, 1, [], [], 5, false)
/-- SinglesPast$Seating.seatMost -/
def tM_26 : av_M := (⟨"SinglesPast$Seating", "seatMost", "(LSinglesPast$State;I)I"⟩, prog_7_method_2_code, 3, (some .int), 3, [], [], 5, false)
/-- SinglesPast$Seating.canSeatAll -/
def tM_27 : av_M := (⟨"SinglesPast$Seating", "canSeatAll", "(LSinglesPast$State;I)Z"⟩, prog_7_method_3_code, 4, (some .boolean), 3, [], [], 5, false)
/-- SinglesPast$Seating.seatFrom -/
def tM_28 : av_M := (⟨"SinglesPast$Seating", "seatFrom", "(LSinglesPast$State;III)V"⟩, prog_7_method_4_code, 6, none, 5, [], [], 5, false)
/-- SinglesPast$Seating.hasRoom -/
def tM_29 : av_M := (⟨"SinglesPast$Seating", "hasRoom", "(LSinglesPast$State;II)Z"⟩, prog_7_method_5_code, 5, (some .boolean), 4, [], [], 5, false)
/-- SinglesPast$State.<init> -/
def tM_30 : av_M := (⟨"SinglesPast$State", "<init>", "()V"⟩, prog_8_method_1_code, 1, none, 1, [], [], 6, false)
/-- SinglesPast$State.copyFrom -/
def tM_31 : av_M := (⟨"SinglesPast$State", "copyFrom", "(LSinglesPast$State;)V"⟩, prog_8_method_2_code, 2, none, 2, [], [], 6, false)
/-- SinglesPast$State.addGoer -/
def tM_32 : av_M := (⟨"SinglesPast$State", "addGoer", "(II)I"⟩, prog_8_method_3_code, 4, (some .int), 3, [], [], 6, false)
/-- SinglesPast$State.addTrain -/
def tM_33 : av_M := (⟨"SinglesPast$State", "addTrain", "(II)V"⟩, prog_8_method_4_code, 3, none, 3, [], [], 6, false)
/-- SinglesPast$State.tellDeed -/
def tM_34 : av_M := (⟨"SinglesPast$State", "tellDeed", "(IIZ)V"⟩, prog_8_method_5_code, 5, none, 4, [], [], 6, false)
/-- SinglesPast$State.tellShunning -/
def tM_35 : av_M := (⟨"SinglesPast$State", "tellShunning", "(IIZ)V"⟩, prog_8_method_6_code, 4, none, 4, [], [], 6, false)
/-- SinglesPast$State.everyone -/
def tM_36 : av_M := (⟨"SinglesPast$State", "everyone", "()I"⟩, prog_8_method_7_code, 1, (some .int), 1, [], [], 6, false)
/-- SinglesPast$State.goneSet -/
def tM_37 : av_M := (⟨"SinglesPast$State", "goneSet", "()I"⟩, prog_8_method_8_code, 3, (some .int), 1, [], [], 6, false)
/-- SinglesPast$State.stayingSet -/
def tM_38 : av_M := (⟨"SinglesPast$State", "stayingSet", "()I"⟩, prog_8_method_9_code, 1, (some .int), 1, [], [], 6, false)
/-- SinglesPast$State.ridersOf -/
def tM_39 : av_M := (⟨"SinglesPast$State", "ridersOf", "(I)I"⟩, prog_8_method_10_code, 4, (some .int), 2, [], [], 6, false)
/-- SinglesPast$State.everyHalt -/
def tM_40 : av_M := (⟨"SinglesPast$State", "everyHalt", "()I"⟩, prog_8_method_11_code, 3, (some .int), 1, [], [], 6, false)
/-- SinglesPast$State.allMoney -/
def tM_41 : av_M := (⟨"SinglesPast$State", "allMoney", "()I"⟩, prog_8_method_12_code, 3, (some .int), 1, [], [], 6, false)
/-- SinglesPast$State.stopsForHim -/
def tM_42 : av_M := (⟨"SinglesPast$State", "stopsForHim", "(II)Z"⟩, prog_8_method_13_code, 3, (some .boolean), 3, [], [], 6, false)
/-- SinglesPast$State.aliveIn -/
def tM_43 : av_M := (⟨"SinglesPast$State", "aliveIn", "(I)I"⟩, prog_8_method_14_code, 4, (some .int), 2, [], [], 6, false)
/-- SinglesPast$State.costOf -/
def tM_44 : av_M := (⟨"SinglesPast$State", "costOf", "(II)I"⟩, prog_8_method_15_code, 3, (some .int), 3, [], [], 6, false)
/-- SinglesPast$State.fearOf -/
def tM_45 : av_M := (⟨"SinglesPast$State", "fearOf", "(II)I"⟩, prog_8_method_16_code, 3, (some .int), 3, [], [], 6, false)
/-- SinglesPast$State.canGo -/
def tM_46 : av_M := (⟨"SinglesPast$State", "canGo", "(II)Z"⟩, prog_8_method_17_code, 4, (some .boolean), 3, [], [], 6, false)
/-- SinglesPast$State.trainOf -/
def tM_47 : av_M := (⟨"SinglesPast$State", "trainOf", "(I)I"⟩, prog_8_method_18_code, 3, (some .int), 2, [], [], 6, false)
/-- SinglesPast$State.board -/
def tM_48 : av_M := (⟨"SinglesPast$State", "board", "(II)I"⟩, prog_8_method_19_code, 4, (some .int), 3, [], [], 6, false)
/-- SinglesPast$State.callBack -/
def tM_49 : av_M := (⟨"SinglesPast$State", "callBack", "(I)I"⟩, prog_8_method_20_code, 3, (some .int), 2, [], [], 6, false)
/-- SinglesPast$State.passDays -/
def tM_50 : av_M := (⟨"SinglesPast$State", "passDays", "(IZ)I"⟩, prog_8_method_21_code, 7, (some .int), 3, [], [], 6, false)
/-- SinglesPast$State.drawnTrainOf -/
def tM_51 : av_M := (⟨"SinglesPast$State", "drawnTrainOf", "(I)I"⟩, prog_8_method_22_code, 4, (some .int), 2, [], [], 6, false)
/-- SinglesPast$State.draw -/
def tM_52 : av_M := (⟨"SinglesPast$State", "draw", "()I"⟩, prog_8_method_23_code, 1, (some .int), 1, [], [], 6, false)
/-- SinglesPast$StationText.read -/
def tM_53 : av_M := (⟨"SinglesPast$StationText", "read", "(LSinglesPast$Tape;LSinglesPast$State;)Z"⟩, prog_9_method_2_code, 3, (some .boolean), 2, [], [], 99, false)
/-- SinglesPast$StationText.readLine -/
def tM_54 : av_M := (⟨"SinglesPast$StationText", "readLine", "(LSinglesPast$Tape;LSinglesPast$State;)Z"⟩, prog_9_method_3_code, 2, (some .boolean), 2, [], [], 99, false)
/-- SinglesPast$StationText.readThing -/
def tM_55 : av_M := (⟨"SinglesPast$StationText", "readThing", "(LSinglesPast$Tape;LSinglesPast$Things;)Z"⟩, prog_9_method_4_code, 5, (some .boolean), 2, [], [], 99, false)
/-- SinglesPast$StationText.readTie -/
def tM_56 : av_M := (⟨"SinglesPast$StationText", "readTie", "(LSinglesPast$Tape;LSinglesPast$Things;Z)Z"⟩, prog_9_method_5_code, 5, (some .boolean), 3, [], [], 99, false)
/-- SinglesPast$StationText.readGoer -/
def tM_57 : av_M := (⟨"SinglesPast$StationText", "readGoer", "(LSinglesPast$Tape;LSinglesPast$State;)Z"⟩, prog_9_method_6_code, 4, (some .boolean), 2, [], [], 99, false)
/-- SinglesPast$StationText.readDeed -/
def tM_58 : av_M := (⟨"SinglesPast$StationText", "readDeed", "(LSinglesPast$Tape;LSinglesPast$State;I)Z"⟩, prog_9_method_7_code, 4, (some .boolean), 3, [], [], 99, false)
/-- SinglesPast$StationText.readBirth -/
def tM_59 : av_M := (⟨"SinglesPast$StationText", "readBirth", "(LSinglesPast$Tape;LSinglesPast$State;I)Z"⟩, prog_9_method_8_code, 3, (some .boolean), 3, [], [], 99, false)
/-- SinglesPast$StationText.readShunning -/
def tM_60 : av_M := (⟨"SinglesPast$StationText", "readShunning", "(LSinglesPast$Tape;LSinglesPast$State;)Z"⟩, prog_9_method_9_code, 3, (some .boolean), 2, [], [], 99, false)
/-- SinglesPast$StationText.readTrain -/
def tM_61 : av_M := (⟨"SinglesPast$StationText", "readTrain", "(LSinglesPast$Tape;LSinglesPast$State;)Z"⟩, prog_9_method_10_code, 4, (some .boolean), 2, [], [], 99, false)
/-- SinglesPast$StationText.readDay -/
def tM_62 : av_M := (⟨"SinglesPast$StationText", "readDay", "(LSinglesPast$Tape;LSinglesPast$State;)Z"⟩, prog_9_method_11_code, 2, (some .boolean), 2, [], [], 99, false)
/-- SinglesPast$Tape.<init> -/
def tM_63 : av_M := (⟨"SinglesPast$Tape", "<init>", "()V"⟩, prog_10_method_1_code, 1, none, 1, [], [], 7, false)
/-- SinglesPast$Tape.append -/
def tM_64 : av_M := (⟨"SinglesPast$Tape", "append", "(I)V"⟩, prog_10_method_2_code, 3, none, 2, [], [], 7, false)
/-- SinglesPast$Tape.open -/
def tM_65 : av_M := (⟨"SinglesPast$Tape", "open", "()V"⟩, prog_10_method_3_code, 1, none, 1, [], [], 7, false)
/-- SinglesPast$Tape.isOver -/
def tM_66 : av_M := (⟨"SinglesPast$Tape", "isOver", "()Z"⟩, prog_10_method_4_code, 1, (some .boolean), 1, [], [], 7, false)
/-- SinglesPast$Tape.moveTo -/
def tM_67 : av_M := (⟨"SinglesPast$Tape", "moveTo", "(I)V"⟩, prog_10_method_5_code, 2, none, 2, [], [], 7, false)
/-- SinglesPast$Tape.refuse -/
def tM_68 : av_M := (⟨"SinglesPast$Tape", "refuse", "()Z"⟩, prog_10_method_6_code, 1, (some .boolean), 1, [], [], 7, false)
/-- SinglesPast$Tape.takeSign -/
def tM_69 : av_M := (⟨"SinglesPast$Tape", "takeSign", "(C)Z"⟩, prog_10_method_7_code, 2, (some .boolean), 2, [], [], 7, false)
/-- SinglesPast$Tape.takeWord -/
def tM_70 : av_M := (⟨"SinglesPast$Tape", "takeWord", "(Ljava/lang/String;)Z"⟩, prog_10_method_8_code, 2, (some .boolean), 2, [], [], 7, false)
/-- SinglesPast$Tape.takeOneOf -/
def tM_71 : av_M := (⟨"SinglesPast$Tape", "takeOneOf", "(Ljava/lang/String;)I"⟩, prog_10_method_9_code, 5, (some .int), 2, [], [], 7, false)
/-- SinglesPast$Tape.isNext -/
def tM_72 : av_M := (⟨"SinglesPast$Tape", "isNext", "(Ljava/lang/String;II)Z"⟩, prog_10_method_10_code, 6, (some .boolean), 4, [], [], 7, false)
/-- SinglesPast$Tape.takeNumber -/
def tM_73 : av_M := (⟨"SinglesPast$Tape", "takeNumber", "(II)Z"⟩, prog_10_method_11_code, 6, (some .boolean), 3, [], [], 7, false)
/-- SinglesPast$Tape.takeStopLetters -/
def tM_74 : av_M := (⟨"SinglesPast$Tape", "takeStopLetters", "()I"⟩, prog_10_method_12_code, 4, (some .int), 1, [], [], 7, false)
/-- SinglesPast$Things.<init> -/
def tM_75 : av_M := (⟨"SinglesPast$Things", "<init>", "()V"⟩, prog_11_method_1_code, 1, none, 1, [], [], 8, false)
/-- SinglesPast$Things.copyFrom -/
def tM_76 : av_M := (⟨"SinglesPast$Things", "copyFrom", "(LSinglesPast$Things;)V"⟩, prog_11_method_2_code, 2, none, 2, [], [], 8, false)
/-- SinglesPast$Things.add -/
def tM_77 : av_M := (⟨"SinglesPast$Things", "add", "(IZI)V"⟩, prog_11_method_3_code, 5, none, 4, [], [], 8, false)
/-- SinglesPast$Things.tie -/
def tM_78 : av_M := (⟨"SinglesPast$Things", "tie", "(IIZ)V"⟩, prog_11_method_4_code, 5, none, 4, [], [], 8, false)
/-- SinglesPast$Things.worthOf -/
def tM_79 : av_M := (⟨"SinglesPast$Things", "worthOf", "(I)I"⟩, prog_11_method_5_code, 4, (some .int), 2, [], [], 8, false)
/-- SinglesPast$Things.looseSet -/
def tM_80 : av_M := (⟨"SinglesPast$Things", "looseSet", "()I"⟩, prog_11_method_6_code, 4, (some .int), 1, [], [], 8, false)
/-- SinglesPast$Things.lineOf -/
def tM_81 : av_M := (⟨"SinglesPast$Things", "lineOf", "(I)I"⟩, prog_11_method_7_code, 5, (some .int), 2, [], [], 8, false)
/-- SinglesPast$Things.longestAhead -/
def tM_82 : av_M := (⟨"SinglesPast$Things", "longestAhead", "(I[I)I"⟩, prog_11_method_8_code, 5, (some .int), 3, [], [], 8, false)
/-- SinglesPast$Worlds.<init> -/
def tM_83 : av_M := (⟨"SinglesPast$Worlds", "<init>", "()V"⟩, prog_12_method_1_code, 1, none, 1, [], [], 9, false)
/-- SinglesPast$Worlds.fill -/
def tM_84 : av_M := (⟨"SinglesPast$Worlds", "fill", "(LSinglesPast$State;II)V"⟩, prog_12_method_2_code, 5, none, 4, [], [], 9, false)
/-- SinglesPast$Worlds.orderByStops -/
def tM_85 : av_M := (⟨"SinglesPast$Worlds", "orderByStops", "(LSinglesPast$Things;)V"⟩, prog_12_method_3_code, 5, none, 2, [], [], 9, false)
/-- SinglesPast$Worlds.turnTies -/
def tM_86 : av_M := (⟨"SinglesPast$Worlds", "turnTies", "(LSinglesPast$Things;)V"⟩, prog_12_method_4_code, 4, none, 2, [], [], 9, false)
/-- SinglesPast$Worlds.findDoers -/
def tM_87 : av_M := (⟨"SinglesPast$Worlds", "findDoers", "(LSinglesPast$State;)V"⟩, prog_12_method_5_code, 4, none, 2, [], [], 9, false)
/-- SinglesPast$Worlds.build -/
def tM_88 : av_M := (⟨"SinglesPast$Worlds", "build", "(II)I"⟩, prog_12_method_6_code, 9, (some .int), 3, [], [], 9, false)
/-- SinglesPast$Worlds.lastMakes -/
def tM_89 : av_M := (⟨"SinglesPast$Worlds", "lastMakes", "(I)Z"⟩, prog_12_method_7_code, 3, (some .boolean), 2, [], [], 9, false)
/-- SinglesPast$Worlds.isAgreeing -/
def tM_90 : av_M := (⟨"SinglesPast$Worlds", "isAgreeing", "(II)Z"⟩, prog_12_method_8_code, 3, (some .boolean), 3, [], [], 9, false)
/-- SinglesPast$Worlds.countAgreeing -/
def tM_91 : av_M := (⟨"SinglesPast$Worlds", "countAgreeing", "(I)I"⟩, prog_12_method_9_code, 4, (some .int), 2, [], [], 9, false)
/-- SinglesPast$Worlds.pastOf -/
def tM_92 : av_M := (⟨"SinglesPast$Worlds", "pastOf", "(I)I"⟩, prog_12_method_10_code, 4, (some .int), 2, [], [], 9, false)
/-- SinglesPast$Worlds.nowOf -/
def tM_93 : av_M := (⟨"SinglesPast$Worlds", "nowOf", "(I)I"⟩, prog_12_method_11_code, 3, (some .int), 2, [], [], 9, false)
/-- SinglesPast.<init> -/
def tM_94 : av_M := (⟨"SinglesPast", "<init>", "()V"⟩, prog_1_method_1_code, 1, none, 1, [], [], 10, false)
/-- SinglesPast.feed -/
def tM_95 : av_M := (⟨"SinglesPast", "feed", "(IIIII)I"⟩, prog_1_method_2_code, 6, (some .int), 6, [], [], 10, false)
/-- SinglesPast.end -/
def tM_96 : av_M := (⟨"SinglesPast", "end", "(I)Z"⟩, prog_1_method_3_code, 2, (some .boolean), 2, [], [], 10, false)
/-- SinglesPast.station -/
def tM_97 : av_M := (⟨"SinglesPast", "station", "()I"⟩, prog_1_method_4_code, 1, (some .int), 1, [], [], 10, true)
/-- SinglesPast.law -/
def tM_98 : av_M := (⟨"SinglesPast", "law", "()I"⟩, prog_1_method_5_code, 1, (some .int), 1, [], [], 10, true)
/-- SinglesPast.closeText -/
def tM_99 : av_M := (⟨"SinglesPast", "closeText", "(Z)V"⟩, prog_1_method_6_code, 2, none, 2, [], [], 10, true)
/-- SinglesPast.forgetActs -/
def tM_100 : av_M := (⟨"SinglesPast", "forgetActs", "()V"⟩, prog_1_method_7_code, 1, none, 1, [], [], 10, false)
/-- SinglesPast.fault -/
def tM_101 : av_M := (⟨"SinglesPast", "fault", "()I"⟩, prog_1_method_8_code, 1, (some .int), 1, [], [], 10, false)
/-- SinglesPast.thing -/
def tM_102 : av_M := (⟨"SinglesPast", "thing", "(II)I"⟩, prog_1_method_9_code, 3, (some .int), 3, [], [], 10, true)
/-- SinglesPast.goer -/
def tM_103 : av_M := (⟨"SinglesPast", "goer", "(II)I"⟩, prog_1_method_10_code, 3, (some .int), 3, [], [], 10, true)
/-- SinglesPast.train -/
def tM_104 : av_M := (⟨"SinglesPast", "train", "(II)I"⟩, prog_1_method_11_code, 3, (some .int), 3, [], [], 10, true)
/-- SinglesPast.latestStop -/
def tM_105 : av_M := (⟨"SinglesPast", "latestStop", "(I)I"⟩, prog_1_method_12_code, 4, (some .int), 2, [], [], 10, false)
/-- SinglesPast.shareOf -/
def tM_106 : av_M := (⟨"SinglesPast", "shareOf", "(I)I"⟩, prog_1_method_13_code, 3, (some .int), 2, [], [], 10, false)
/-- SinglesPast.cost -/
def tM_107 : av_M := (⟨"SinglesPast", "cost", "(II)I"⟩, prog_1_method_14_code, 3, (some .int), 3, [], [], 10, true)
/-- SinglesPast.fear -/
def tM_108 : av_M := (⟨"SinglesPast", "fear", "(II)I"⟩, prog_1_method_15_code, 3, (some .int), 3, [], [], 10, true)
/-- SinglesPast.may -/
def tM_109 : av_M := (⟨"SinglesPast", "may", "(II)Z"⟩, prog_1_method_16_code, 3, (some .boolean), 3, [], [], 10, true)
/-- SinglesPast.days -/
def tM_110 : av_M := (⟨"SinglesPast", "days", "(I)I"⟩, prog_1_method_17_code, 2, (some .int), 2, [], [], 10, true)
/-- SinglesPast.sell -/
def tM_111 : av_M := (⟨"SinglesPast", "sell", "(II)I"⟩, prog_1_method_18_code, 3, (some .int), 3, [], [], 10, true)
/-- SinglesPast.pay -/
def tM_112 : av_M := (⟨"SinglesPast", "pay", "(II)I"⟩, prog_1_method_19_code, 3, (some .int), 3, [], [], 10, true)
/-- SinglesPast.nerve -/
def tM_113 : av_M := (⟨"SinglesPast", "nerve", "(II)I"⟩, prog_1_method_20_code, 4, (some .int), 3, [], [], 10, true)
/-- SinglesPast.wish -/
def tM_114 : av_M := (⟨"SinglesPast", "wish", "(II)I"⟩, prog_1_method_21_code, 4, (some .int), 3, [], [], 10, true)
/-- SinglesPast.deed -/
def tM_115 : av_M := (⟨"SinglesPast", "deed", "(IIZ)I"⟩, prog_1_method_22_code, 5, (some .int), 4, [], [], 10, true)
/-- SinglesPast.quarrel -/
def tM_116 : av_M := (⟨"SinglesPast", "quarrel", "(IIZ)Z"⟩, prog_1_method_23_code, 5, (some .boolean), 4, [], [], 10, true)
/-- SinglesPast.stops -/
def tM_117 : av_M := (⟨"SinglesPast", "stops", "(II)I"⟩, prog_1_method_24_code, 4, (some .int), 3, [], [], 10, true)
/-- SinglesPast.recall -/
def tM_118 : av_M := (⟨"SinglesPast", "recall", "(I)I"⟩, prog_1_method_25_code, 2, (some .int), 2, [], [], 10, true)
/-- SinglesPast.beginAct -/
def tM_119 : av_M := (⟨"SinglesPast", "beginAct", "()V"⟩, prog_1_method_26_code, 1, none, 1, [], [], 10, false)
/-- SinglesPast.world -/
def tM_120 : av_M := (⟨"SinglesPast", "world", "(I)I"⟩, prog_1_method_27_code, 2, (some .int), 2, [], [], 10, false)
/-- SinglesPast.agrees -/
def tM_121 : av_M := (⟨"SinglesPast", "agrees", "(I)Z"⟩, prog_1_method_28_code, 2, (some .boolean), 2, [], [], 10, false)
/-- SinglesPast.agree -/
def tM_122 : av_M := (⟨"SinglesPast", "agree", "()I"⟩, prog_1_method_29_code, 1, (some .int), 1, [], [], 10, false)
/-- SinglesPast.past -/
def tM_123 : av_M := (⟨"SinglesPast", "past", "()I"⟩, prog_1_method_30_code, 1, (some .int), 1, [], [], 10, false)
/-- SinglesPast.now -/
def tM_124 : av_M := (⟨"SinglesPast", "now", "()I"⟩, prog_1_method_31_code, 1, (some .int), 1, [], [], 10, false)
/-- SinglesPast.ring -/
def tM_125 : av_M := (⟨"SinglesPast", "ring", "()I"⟩, prog_1_method_32_code, 6, (some .int), 1, [], [], 10, false)
/-- SinglesPast.otherwise -/
def tM_126 : av_M := (⟨"SinglesPast", "otherwise", "(I)I"⟩, prog_1_method_33_code, 2, (some .int), 2, [], [], 10, true)
/-- SinglesPast.heavy -/
def tM_127 : av_M := (⟨"SinglesPast", "heavy", "()I"⟩, prog_1_method_34_code, 5, (some .int), 1, [], [], 10, false)
/-- SinglesPast.freshWorlds -/
def tM_128 : av_M := (⟨"SinglesPast", "freshWorlds", "()LSinglesPast$Worlds;"⟩, prog_1_method_35_code, 1, (some (.object "SinglesPast$Worlds")), 1, [], [], 10, false)
/-- SinglesPast.soNow -/
def tM_129 : av_M := (⟨"SinglesPast", "soNow", "()I"⟩, prog_1_method_36_code, 1, (some .int), 1, [], [], 10, false)
/-- SinglesPast.changesBy -/
def tM_130 : av_M := (⟨"SinglesPast", "changesBy", "(I)I"⟩, prog_1_method_37_code, 2, (some .int), 2, [], [], 10, false)
/-- SinglesPast.isFewer -/
def tM_131 : av_M := (⟨"SinglesPast", "isFewer", "(II)Z"⟩, prog_1_method_38_code, 2, (some .boolean), 2, [], [], 10, false)
/-- SinglesPast.send -/
def tM_132 : av_M := (⟨"SinglesPast", "send", "()I"⟩, prog_1_method_39_code, 6, (some .int), 1, [], [], 10, true)
/-- SinglesPast.who -/
def tM_133 : av_M := (⟨"SinglesPast", "who", "(Z)I"⟩, prog_1_method_40_code, 5, (some .int), 2, [], [], 10, true)
/-- SinglesPast.look -/
def tM_134 : av_M := (⟨"SinglesPast", "look", "()I"⟩, prog_1_method_41_code, 8, (some .int), 1, [], [], 10, true)
/-- SinglesPast.readTold -/
def tM_135 : av_M := (⟨"SinglesPast", "readTold", "()V"⟩, prog_1_method_42_code, 6, none, 1, [], [], 10, true)
/-- SinglesPast.isTold -/
def tM_136 : av_M := (⟨"SinglesPast", "isTold", "(I)Z"⟩, prog_1_method_43_code, 2, (some .boolean), 2, [], [], 10, false)
/-- SinglesPast.comesAbout -/
def tM_137 : av_M := (⟨"SinglesPast", "comesAbout", "(LSinglesPast$Worlds;I)Z"⟩, prog_1_method_44_code, 4, (some .boolean), 3, [], [], 10, false)
/-- SinglesPast.fits -/
def tM_138 : av_M := (⟨"SinglesPast", "fits", "(LSinglesPast$Worlds;I)Z"⟩, prog_1_method_45_code, 3, (some .boolean), 3, [], [], 10, false)
/-- SinglesPast.countFitting -/
def tM_139 : av_M := (⟨"SinglesPast", "countFitting", "(LSinglesPast$Worlds;I)I"⟩, prog_1_method_46_code, 6, (some .int), 3, [], [], 10, false)
/-- SinglesPast.hangs -/
def tM_140 : av_M := (⟨"SinglesPast", "hangs", "(I)I"⟩, prog_1_method_47_code, 2, (some .int), 2, [], [], 10, true)
/-- SinglesPast.key -/
def tM_141 : av_M := (⟨"SinglesPast", "key", "()I"⟩, prog_1_method_48_code, 5, (some .int), 1, [], [], 10, false)
/-- SinglesPast.hangingOn -/
def tM_142 : av_M := (⟨"SinglesPast", "hangingOn", "(I)I"⟩, prog_1_method_49_code, 3, (some .int), 2, [], [], 10, false)
/-- SinglesPast.loose -/
def tM_143 : av_M := (⟨"SinglesPast", "loose", "()I"⟩, prog_1_method_50_code, 1, (some .int), 1, [], [], 10, false)
/-- SinglesPast.kills -/
def tM_144 : av_M := (⟨"SinglesPast", "kills", "(II)Z"⟩, prog_1_method_51_code, 3, (some .boolean), 3, [], [], 10, true)
/-- SinglesPast.colours -/
def tM_145 : av_M := (⟨"SinglesPast", "colours", "(I)I"⟩, prog_1_method_52_code, 3, (some .int), 2, [], [], 10, true)
/-- SinglesPast.clash -/
def tM_146 : av_M := (⟨"SinglesPast", "clash", "()I"⟩, prog_1_method_53_code, 5, (some .int), 1, [], [], 10, false)
/-- SinglesPast.price -/
def tM_147 : av_M := (⟨"SinglesPast", "price", "(IZ)I"⟩, prog_1_method_54_code, 4, (some .int), 3, [], [], 10, true)
/-- SinglesPast.dearest -/
def tM_148 : av_M := (⟨"SinglesPast", "dearest", "()I"⟩, prog_1_method_55_code, 5, (some .int), 1, [], [], 10, false)
/-- SinglesPast.bestPrice -/
def tM_149 : av_M := (⟨"SinglesPast", "bestPrice", "(I)I"⟩, prog_1_method_56_code, 7, (some .int), 2, [], [], 10, false)
/-- SinglesPast.earningsAt -/
def tM_150 : av_M := (⟨"SinglesPast", "earningsAt", "(II)I"⟩, prog_1_method_57_code, 6, (some .int), 3, [], [], 10, false)
/-- SinglesPast.crowd -/
def tM_151 : av_M := (⟨"SinglesPast", "crowd", "(I)I"⟩, prog_1_method_58_code, 4, (some .int), 2, [], [], 10, true)
/-- SinglesPast.asks -/
def tM_152 : av_M := (⟨"SinglesPast", "asks", "(IZ)I"⟩, prog_1_method_59_code, 5, (some .int), 3, [], [], 10, false)
/-- SinglesPast.questionsFor -/
def tM_153 : av_M := (⟨"SinglesPast", "questionsFor", "(I)I"⟩, prog_1_method_60_code, 3, (some .int), 1, [], [], 10, false)
/-- SinglesPast.openingOf -/
def tM_154 : av_M := (⟨"SinglesPast", "openingOf", "(II)I"⟩, prog_1_method_61_code, 5, (some .int), 2, [], [], 10, false)
/-- SinglesPast.pick -/
def tM_155 : av_M := (⟨"SinglesPast", "pick", "(IZ)I"⟩, prog_1_method_62_code, 7, (some .int), 3, [], [], 10, true)
/-- SinglesPast.ordersThatPickBest -/
def tM_156 : av_M := (⟨"SinglesPast", "ordersThatPickBest", "(II)I"⟩, prog_1_method_63_code, 5, (some .int), 2, [], [], 10, false)
/-- SinglesPast.pairs -/
def tM_157 : av_M := (⟨"SinglesPast", "pairs", "(I)I"⟩, prog_1_method_64_code, 3, (some .int), 2, [], [], 10, true)
/-- SinglesPast.rests -/
def tM_158 : av_M := (⟨"SinglesPast", "rests", "(I)I"⟩, prog_1_method_65_code, 8, (some .int), 2, [], [], 10, true)
/-- SinglesPast.manHas -/
def tM_159 : av_M := (⟨"SinglesPast", "manHas", "(III)I"⟩, prog_1_method_66_code, 3, (some .int), 3, [], [], 10, false)
/-- SinglesPast.clerkHas -/
def tM_160 : av_M := (⟨"SinglesPast", "clerkHas", "(II)I"⟩, prog_1_method_67_code, 2, (some .int), 2, [], [], 10, false)
/-- SinglesPast.odds -/
def tM_161 : av_M := (⟨"SinglesPast", "odds", "(II)I"⟩, prog_1_method_68_code, 7, (some .int), 3, [], [], 10, true)
/-- SinglesPast.brave -/
def tM_162 : av_M := (⟨"SinglesPast", "brave", "()I"⟩, prog_1_method_69_code, 4, (some .int), 1, [], [], 10, false)
/-- SinglesPast.gone -/
def tM_163 : av_M := (⟨"SinglesPast", "gone", "()I"⟩, prog_1_method_70_code, 1, (some .int), 1, [], [], 10, false)
/-- SinglesPast.unborn -/
def tM_164 : av_M := (⟨"SinglesPast", "unborn", "()I"⟩, prog_1_method_71_code, 1, (some .int), 1, [], [], 10, false)
/-- SinglesPast.twins -/
def tM_165 : av_M := (⟨"SinglesPast", "twins", "()I"⟩, prog_1_method_72_code, 4, (some .int), 1, [], [], 10, false)
/-- SinglesPast.worth -/
def tM_166 : av_M := (⟨"SinglesPast", "worth", "()I"⟩, prog_1_method_73_code, 1, (some .int), 1, [], [], 10, false)
/-- SinglesPast.empty -/
def tM_167 : av_M := (⟨"SinglesPast", "empty", "()I"⟩, prog_1_method_74_code, 3, (some .int), 1, [], [], 10, false)
/-- SinglesPast.never -/
def tM_168 : av_M := (⟨"SinglesPast", "never", "()I"⟩, prog_1_method_75_code, 1, (some .int), 1, [], [], 10, false)
/-- SinglesPast.ahead -/
def tM_169 : av_M := (⟨"SinglesPast", "ahead", "(II)I"⟩, prog_1_method_76_code, 3, (some .int), 3, [], [], 10, true)
/-- SinglesPast.trial -/
def tM_170 : av_M := (⟨"SinglesPast", "trial", "(IZ)I"⟩, prog_1_method_77_code, 4, (some .int), 3, [], [], 10, true)
/-- SinglesPast.span -/
def tM_171 : av_M := (⟨"SinglesPast", "span", "(IZ)I"⟩, prog_1_method_78_code, 7, (some .int), 3, [], [], 10, true)
/-- SinglesPast.led -/
def tM_172 : av_M := (⟨"SinglesPast", "led", "(IZ)I"⟩, prog_1_method_79_code, 3, (some .int), 3, [], [], 10, true)
/-- SinglesPast.log -/
def tM_173 : av_M := (⟨"SinglesPast", "log", "(II)I"⟩, prog_1_method_80_code, 3, (some .int), 3, [], [], 10, true)
/-- SinglesPast.seed -/
def tM_174 : av_M := (⟨"SinglesPast", "seed", "(I)I"⟩, prog_1_method_81_code, 3, (some .int), 2, [], [], 10, false)
/-- SinglesPast.undo -/
def tM_175 : av_M := (⟨"SinglesPast", "undo", "()Z"⟩, prog_1_method_82_code, 2, (some .boolean), 1, [], [], 10, false)
/-- SinglesPast.image -/
def tM_176 : av_M := (⟨"SinglesPast", "image", "()V"⟩, prog_1_method_83_code, 1, none, 1, [], [], 10, false)
/-- SinglesPast.back -/
def tM_177 : av_M := (⟨"SinglesPast", "back", "()Z"⟩, prog_1_method_84_code, 1, (some .boolean), 1, [], [], 10, false)
/-- SinglesPast.count -/
def tM_178 : av_M := (⟨"SinglesPast", "count", "(I)I"⟩, prog_1_method_85_code, 2, (some .int), 2, [], [], 10, false)
/-- SinglesPast.needStop -/
def tM_179 : av_M := (⟨"SinglesPast", "needStop", "(I)V"⟩, prog_1_method_86_code, 1, none, 1, [], [], 10, true)
/-- SinglesPast.needThing -/
def tM_180 : av_M := (⟨"SinglesPast", "needThing", "(I)V"⟩, prog_1_method_87_code, 2, none, 2, [], [], 10, true)
/-- SinglesPast.needGoer -/
def tM_181 : av_M := (⟨"SinglesPast", "needGoer", "(I)V"⟩, prog_1_method_88_code, 2, none, 2, [], [], 10, true)
/-- SinglesPast.needTwoGoers -/
def tM_182 : av_M := (⟨"SinglesPast", "needTwoGoers", "(II)V"⟩, prog_1_method_89_code, 3, none, 3, [], [], 10, true)
/-- SinglesPast.needTrain -/
def tM_183 : av_M := (⟨"SinglesPast", "needTrain", "(I)V"⟩, prog_1_method_90_code, 2, none, 2, [], [], 10, true)
/-- SinglesPast.needNotGone -/
def tM_184 : av_M := (⟨"SinglesPast", "needNotGone", "(I)V"⟩, prog_1_method_91_code, 2, none, 2, [], [], 10, true)
/-- SinglesPast.needTrialDays -/
def tM_185 : av_M := (⟨"SinglesPast", "needTrialDays", "(I)V"⟩, prog_1_method_92_code, 1, none, 1, [], [], 10, true)
/-- SinglesPastModel.thrown -/
def tM_186 : av_M := (⟨"SinglesPastModel", "thrown", "()I"⟩, prog_14_method_1_code, 1, (some .int), 1, [], [], 11, false)
/-- SinglesPastModel.throwsIf -/
def tM_187 : av_M := (⟨"SinglesPastModel", "throwsIf", "(ZI)Z"⟩, prog_14_method_2_code, 3, (some .boolean), 3, [], [], 11, false)
/-- SinglesPastModel.in -/
def tM_188 : av_M := (⟨"SinglesPastModel", "in", "(III)Z"⟩, prog_14_method_3_code, 3, (some .boolean), 3, [], [], 11, false)
/-- SinglesPastModel.has -/
def tM_189 : av_M := (⟨"SinglesPastModel", "has", "(II)Z"⟩, prog_14_method_4_code, 2, (some .boolean), 2, [], [], 11, false)
/-- SinglesPastModel.<init> -/
def tM_190 : av_M := (⟨"SinglesPastModel", "<init>", "()V"⟩, prog_14_method_5_code, 1, none, 1, [], [], 11, false)
/-- SinglesPastModel.image -/
def tM_191 : av_M := (⟨"SinglesPastModel", "image", "()V"⟩, prog_14_method_6_code, 2, none, 1, [], [], 11, false)
/-- SinglesPastModel.back -/
def tM_192 : av_M := (⟨"SinglesPastModel", "back", "()Z"⟩, prog_14_method_7_code, 2, (some .boolean), 1, [], [], 11, false)
/-- SinglesPastModel.remembers -/
def tM_193 : av_M := (⟨"SinglesPastModel", "remembers", "()V"⟩, prog_14_method_8_code, 2, none, 1, [], [], 11, false)
/-- SinglesPastModel.undo -/
def tM_194 : av_M := (⟨"SinglesPastModel", "undo", "()Z"⟩, prog_14_method_9_code, 2, (some .boolean), 1, [], [], 11, false)
/-- SinglesPastModel.keepsAll -/
def tM_195 : av_M := (⟨"SinglesPastModel", "keepsAll", "()V"⟩, prog_14_method_10_code, 2, none, 1, [], [], 11, false)
/-- SinglesPastModel.bringsBack -/
def tM_196 : av_M := (⟨"SinglesPastModel", "bringsBack", "()V"⟩, prog_14_method_11_code, 2, none, 1, [], [], 11, false)
/-- SinglesPastModel.things -/
def tM_197 : av_M := (⟨"SinglesPastModel", "things", "()I"⟩, prog_14_method_12_code, 1, (some .int), 1, [], [], 11, false)
/-- SinglesPastModel.goers -/
def tM_198 : av_M := (⟨"SinglesPastModel", "goers", "()I"⟩, prog_14_method_13_code, 1, (some .int), 1, [], [], 11, false)
/-- SinglesPastModel.trains -/
def tM_199 : av_M := (⟨"SinglesPastModel", "trains", "()I"⟩, prog_14_method_14_code, 1, (some .int), 1, [], [], 11, false)
/-- SinglesPastModel.thingAt -/
def tM_200 : av_M := (⟨"SinglesPastModel", "thingAt", "(II)I"⟩, prog_14_method_15_code, 2, (some .int), 2, [], [], 11, false)
/-- SinglesPastModel.ofThing -/
def tM_201 : av_M := (⟨"SinglesPastModel", "ofThing", "(II)I"⟩, prog_14_method_16_code, 3, (some .int), 3, [], [], 11, false)
/-- SinglesPastModel.at -/
def tM_202 : av_M := (⟨"SinglesPastModel", "at", "(II)I"⟩, prog_14_method_17_code, 2, (some .int), 2, [], [], 11, false)
/-- SinglesPastModel.of -/
def tM_203 : av_M := (⟨"SinglesPastModel", "of", "(II)I"⟩, prog_14_method_18_code, 3, (some .int), 3, [], [], 11, false)
/-- SinglesPastModel.trainAt -/
def tM_204 : av_M := (⟨"SinglesPastModel", "trainAt", "(II)I"⟩, prog_14_method_19_code, 2, (some .int), 2, [], [], 11, false)
/-- SinglesPastModel.ofTrain -/
def tM_205 : av_M := (⟨"SinglesPastModel", "ofTrain", "(II)I"⟩, prog_14_method_20_code, 3, (some .int), 3, [], [], 11, false)
/-- SinglesPastModel.everybody -/
def tM_206 : av_M := (⟨"SinglesPastModel", "everybody", "()I"⟩, prog_14_method_21_code, 1, (some .int), 1, [], [], 11, false)
/-- SinglesPastModel.isGone -/
def tM_207 : av_M := (⟨"SinglesPastModel", "isGone", "(I)Z"⟩, prog_14_method_22_code, 2, (some .boolean), 2, [], [], 11, false)
/-- SinglesPastModel.goneOnes -/
def tM_208 : av_M := (⟨"SinglesPastModel", "goneOnes", "()I"⟩, prog_14_method_23_code, 3, (some .int), 1, [], [], 11, false)
/-- SinglesPastModel.goneBy -/
def tM_209 : av_M := (⟨"SinglesPastModel", "goneBy", "(I)I"⟩, prog_14_method_24_code, 4, (some .int), 2, [], [], 11, false)
/-- SinglesPastModel.noThing -/
def tM_210 : av_M := (⟨"SinglesPastModel", "noThing", "(I)Z"⟩, prog_14_method_25_code, 2, (some .boolean), 2, [], [], 11, false)
/-- SinglesPastModel.noGoer -/
def tM_211 : av_M := (⟨"SinglesPastModel", "noGoer", "(I)Z"⟩, prog_14_method_26_code, 2, (some .boolean), 2, [], [], 11, false)
/-- SinglesPastModel.noTrain -/
def tM_212 : av_M := (⟨"SinglesPastModel", "noTrain", "(I)Z"⟩, prog_14_method_27_code, 2, (some .boolean), 2, [], [], 11, false)
/-- SinglesPastModel.noStop -/
def tM_213 : av_M := (⟨"SinglesPastModel", "noStop", "(I)Z"⟩, prog_14_method_28_code, 1, (some .boolean), 1, [], [], 11, false)
/-- SinglesPastModel.drawn -/
def tM_214 : av_M := (⟨"SinglesPastModel", "drawn", "(I)I"⟩, prog_14_method_29_code, 2, (some .int), 2, [], [], 11, false)
/-- SinglesPastModel.feed -/
def tM_215 : av_M := (⟨"SinglesPastModel", "feed", "(IIIII)I"⟩, prog_14_method_30_code, 7, (some .int), 6, [], [], 11, false)
/-- SinglesPastModel.end -/
def tM_216 : av_M := (⟨"SinglesPastModel", "end", "(I)Z"⟩, prog_14_method_31_code, 2, (some .boolean), 2, [], [], 11, false)
/-- SinglesPastModel.isAt -/
def tM_217 : av_M := (⟨"SinglesPastModel", "isAt", "(II)Z"⟩, prog_14_method_32_code, 3, (some .boolean), 3, [], [], 11, false)
/-- SinglesPastModel.blanks -/
def tM_218 : av_M := (⟨"SinglesPastModel", "blanks", "()V"⟩, prog_14_method_33_code, 1, none, 1, [], [], 11, false)
/-- SinglesPastModel.letters -/
def tM_219 : av_M := (⟨"SinglesPastModel", "letters", "()V"⟩, prog_14_method_34_code, 1, none, 1, [], [], 11, false)
/-- SinglesPastModel.isWord -/
def tM_220 : av_M := (⟨"SinglesPastModel", "isWord", "(Ljava/lang/String;)Z"⟩, prog_14_method_35_code, 4, (some .boolean), 2, [], [], 11, false)
/-- SinglesPastModel.passes -/
def tM_221 : av_M := (⟨"SinglesPastModel", "passes", "(Ljava/lang/String;)Z"⟩, prog_14_method_36_code, 2, (some .boolean), 2, [], [], 11, false)
/-- SinglesPastModel.sign -/
def tM_222 : av_M := (⟨"SinglesPastModel", "sign", "(I)Z"⟩, prog_14_method_37_code, 2, (some .boolean), 2, [], [], 11, false)
/-- SinglesPastModel.number -/
def tM_223 : av_M := (⟨"SinglesPastModel", "number", "(II)I"⟩, prog_14_method_38_code, 4, (some .int), 3, [], [], 11, false)
/-- SinglesPastModel.behind -/
def tM_224 : av_M := (⟨"SinglesPastModel", "behind", "(Ljava/lang/String;II)I"⟩, prog_14_method_39_code, 4, (some .int), 4, [], [], 11, false)
/-- SinglesPastModel.told -/
def tM_225 : av_M := (⟨"SinglesPastModel", "told", "(Ljava/lang/String;II)I"⟩, prog_14_method_40_code, 5, (some .int), 4, [], [], 11, false)
/-- SinglesPastModel.fault -/
def tM_226 : av_M := (⟨"SinglesPastModel", "fault", "()I"⟩, prog_14_method_41_code, 1, (some .int), 1, [], [], 11, false)
/-- SinglesPastModel.uses -/
def tM_227 : av_M := (⟨"SinglesPastModel", "uses", "()V"⟩, prog_14_method_42_code, 1, none, 1, [], [], 11, false)
/-- SinglesPastModel.readNumber -/
def tM_228 : av_M := (⟨"SinglesPastModel", "readNumber", "(III)Z"⟩, prog_14_method_43_code, 5, (some .boolean), 4, [], [], 11, false)
/-- SinglesPastModel.readThing -/
def tM_229 : av_M := (⟨"SinglesPastModel", "readThing", "()Z"⟩, prog_14_method_44_code, 5, (some .boolean), 1, [], [], 11, false)
/-- SinglesPastModel.readLink -/
def tM_230 : av_M := (⟨"SinglesPastModel", "readLink", "(II)Z"⟩, prog_14_method_45_code, 5, (some .boolean), 3, [], [], 11, false)
/-- SinglesPastModel.readGoer -/
def tM_231 : av_M := (⟨"SinglesPastModel", "readGoer", "()Z"⟩, prog_14_method_46_code, 8, (some .boolean), 1, [], [], 11, false)
/-- SinglesPastModel.readShuns -/
def tM_232 : av_M := (⟨"SinglesPastModel", "readShuns", "()Z"⟩, prog_14_method_47_code, 3, (some .boolean), 1, [], [], 11, false)
/-- SinglesPastModel.stopsTold -/
def tM_233 : av_M := (⟨"SinglesPastModel", "stopsTold", "()I"⟩, prog_14_method_48_code, 5, (some .int), 1, [], [], 11, false)
/-- SinglesPastModel.readTrain -/
def tM_234 : av_M := (⟨"SinglesPastModel", "readTrain", "()Z"⟩, prog_14_method_49_code, 4, (some .boolean), 1, [], [], 11, false)
/-- SinglesPastModel.readStationLine -/
def tM_235 : av_M := (⟨"SinglesPastModel", "readStationLine", "()Z"⟩, prog_14_method_50_code, 1, (some .boolean), 1, [], [], 11, false)
/-- SinglesPastModel.emits -/
def tM_236 : av_M := (⟨"SinglesPastModel", "emits", "(II)V"⟩, prog_14_method_51_code, 3, none, 3, [], [], 11, false)
/-- SinglesPastModel.wordOfPart -/
def tM_237 : av_M := (⟨"SinglesPastModel", "wordOfPart", "()I"⟩, prog_14_method_52_code, 1, (some .int), 1, [], [], 11, false)
/-- SinglesPastModel.readPart -/
def tM_238 : av_M := (⟨"SinglesPastModel", "readPart", "()Z"⟩, prog_14_method_53_code, 3, (some .boolean), 1, [], [], 11, false)
/-- SinglesPastModel.readSum -/
def tM_239 : av_M := (⟨"SinglesPastModel", "readSum", "()Z"⟩, prog_14_method_54_code, 1, (some .boolean), 1, [], [], 11, false)
/-- SinglesPastModel.readTag -/
def tM_240 : av_M := (⟨"SinglesPastModel", "readTag", "()Z"⟩, prog_14_method_55_code, 2, (some .boolean), 1, [], [], 11, false)
/-- SinglesPastModel.readAtom -/
def tM_241 : av_M := (⟨"SinglesPastModel", "readAtom", "()Z"⟩, prog_14_method_56_code, 2, (some .boolean), 1, [], [], 11, false)
/-- SinglesPastModel.readAllOf -/
def tM_242 : av_M := (⟨"SinglesPastModel", "readAllOf", "()Z"⟩, prog_14_method_57_code, 1, (some .boolean), 1, [], [], 11, false)
/-- SinglesPastModel.readCond -/
def tM_243 : av_M := (⟨"SinglesPastModel", "readCond", "()Z"⟩, prog_14_method_58_code, 1, (some .boolean), 1, [], [], 11, false)
/-- SinglesPastModel.readLawLine -/
def tM_244 : av_M := (⟨"SinglesPastModel", "readLawLine", "(I)Z"⟩, prog_14_method_59_code, 3, (some .boolean), 2, [], [], 11, false)
/-- SinglesPastModel.readLine -/
def tM_245 : av_M := (⟨"SinglesPastModel", "readLine", "(ZI)Z"⟩, prog_14_method_60_code, 3, (some .boolean), 3, [], [], 11, false)
/-- SinglesPastModel.readAll -/
def tM_246 : av_M := (⟨"SinglesPastModel", "readAll", "(Z)I"⟩, prog_14_method_61_code, 3, (some .int), 2, [], [], 11, false)
/-- SinglesPastModel.station -/
def tM_247 : av_M := (⟨"SinglesPastModel", "station", "()I"⟩, prog_14_method_62_code, 3, (some .int), 1, [], [], 11, false)
/-- SinglesPastModel.law -/
def tM_248 : av_M := (⟨"SinglesPastModel", "law", "()I"⟩, prog_14_method_63_code, 3, (some .int), 1, [], [], 11, false)
/-- SinglesPastModel.factOf -/
def tM_249 : av_M := (⟨"SinglesPastModel", "factOf", "(IIII)I"⟩, prog_14_method_64_code, 5, (some .int), 5, [], [], 11, false)
/-- SinglesPastModel.holdsLine -/
def tM_250 : av_M := (⟨"SinglesPastModel", "holdsLine", "(III)Z"⟩, prog_14_method_65_code, 11, (some .boolean), 4, [], [], 11, false)
/-- SinglesPastModel.sumOf -/
def tM_251 : av_M := (⟨"SinglesPastModel", "sumOf", "(III)I"⟩, prog_14_method_66_code, 6, (some .int), 4, [], [], 11, false)
/-- SinglesPastModel.isBarred -/
def tM_252 : av_M := (⟨"SinglesPastModel", "isBarred", "(II)Z"⟩, prog_14_method_67_code, 5, (some .boolean), 3, [], [], 11, false)
/-- SinglesPastModel.costOf -/
def tM_253 : av_M := (⟨"SinglesPastModel", "costOf", "(II)I"⟩, prog_14_method_68_code, 3, (some .int), 3, [], [], 11, false)
/-- SinglesPastModel.fearOf -/
def tM_254 : av_M := (⟨"SinglesPastModel", "fearOf", "(II)I"⟩, prog_14_method_69_code, 3, (some .int), 3, [], [], 11, false)
/-- SinglesPastModel.stopsFor -/
def tM_255 : av_M := (⟨"SinglesPastModel", "stopsFor", "(II)Z"⟩, prog_14_method_70_code, 3, (some .boolean), 3, [], [], 11, false)
/-- SinglesPastModel.meetsNone -/
def tM_256 : av_M := (⟨"SinglesPastModel", "meetsNone", "(II)Z"⟩, prog_14_method_71_code, 5, (some .boolean), 3, [], [], 11, false)
/-- SinglesPastModel.canGo -/
def tM_257 : av_M := (⟨"SinglesPastModel", "canGo", "(II)Z"⟩, prog_14_method_72_code, 3, (some .boolean), 3, [], [], 11, false)
/-- SinglesPastModel.trainOf -/
def tM_258 : av_M := (⟨"SinglesPastModel", "trainOf", "(I)I"⟩, prog_14_method_73_code, 4, (some .int), 2, [], [], 11, false)
/-- SinglesPastModel.isTold -/
def tM_259 : av_M := (⟨"SinglesPastModel", "isTold", "(III)V"⟩, prog_14_method_74_code, 5, none, 4, [], [], 11, false)
/-- SinglesPastModel.isSold -/
def tM_260 : av_M := (⟨"SinglesPastModel", "isSold", "(II)I"⟩, prog_14_method_75_code, 4, (some .int), 3, [], [], 11, false)
/-- SinglesPastModel.decides -/
def tM_261 : av_M := (⟨"SinglesPastModel", "decides", "(IZ)Z"⟩, prog_14_method_76_code, 5, (some .boolean), 3, [], [], 11, false)
/-- SinglesPastModel.oneDay -/
def tM_262 : av_M := (⟨"SinglesPastModel", "oneDay", "(Z)I"⟩, prog_14_method_77_code, 4, (some .int), 2, [], [], 11, false)
/-- SinglesPastModel.goesOn -/
def tM_263 : av_M := (⟨"SinglesPastModel", "goesOn", "(IZ)I"⟩, prog_14_method_78_code, 5, (some .int), 3, [], [], 11, false)
/-- SinglesPastModel.isSo -/
def tM_264 : av_M := (⟨"SinglesPastModel", "isSo", "(II)Z"⟩, prog_14_method_79_code, 6, (some .boolean), 3, [], [], 11, false)
/-- SinglesPastModel.worldOf -/
def tM_265 : av_M := (⟨"SinglesPastModel", "worldOf", "(I)I"⟩, prog_14_method_80_code, 4, (some .int), 2, [], [], 11, false)
/-- SinglesPastModel.bornIn -/
def tM_266 : av_M := (⟨"SinglesPastModel", "bornIn", "(II)I"⟩, prog_14_method_81_code, 5, (some .int), 3, [], [], 11, false)
/-- SinglesPastModel.agreesBy -/
def tM_267 : av_M := (⟨"SinglesPastModel", "agreesBy", "(II)Z"⟩, prog_14_method_82_code, 3, (some .boolean), 3, [], [], 11, false)
/-- SinglesPastModel.pastBy -/
def tM_268 : av_M := (⟨"SinglesPastModel", "pastBy", "(I)I"⟩, prog_14_method_83_code, 4, (some .int), 2, [], [], 11, false)
/-- SinglesPastModel.nowBy -/
def tM_269 : av_M := (⟨"SinglesPastModel", "nowBy", "(I)I"⟩, prog_14_method_84_code, 3, (some .int), 2, [], [], 11, false)
/-- SinglesPastModel.manyAgree -/
def tM_270 : av_M := (⟨"SinglesPastModel", "manyAgree", "()I"⟩, prog_14_method_85_code, 3, (some .int), 1, [], [], 11, false)
/-- SinglesPastModel.world -/
def tM_271 : av_M := (⟨"SinglesPastModel", "world", "(I)I"⟩, prog_14_method_86_code, 2, (some .int), 2, [], [], 11, false)
/-- SinglesPastModel.agrees -/
def tM_272 : av_M := (⟨"SinglesPastModel", "agrees", "(I)Z"⟩, prog_14_method_87_code, 2, (some .boolean), 2, [], [], 11, false)
/-- SinglesPastModel.agree -/
def tM_273 : av_M := (⟨"SinglesPastModel", "agree", "()I"⟩, prog_14_method_88_code, 1, (some .int), 1, [], [], 11, false)
/-- SinglesPastModel.past -/
def tM_274 : av_M := (⟨"SinglesPastModel", "past", "()I"⟩, prog_14_method_89_code, 1, (some .int), 1, [], [], 11, false)
/-- SinglesPastModel.now -/
def tM_275 : av_M := (⟨"SinglesPastModel", "now", "()I"⟩, prog_14_method_90_code, 1, (some .int), 1, [], [], 11, false)
/-- SinglesPastModel.ring -/
def tM_276 : av_M := (⟨"SinglesPastModel", "ring", "()I"⟩, prog_14_method_91_code, 4, (some .int), 1, [], [], 11, false)
/-- SinglesPastModel.ifOtherwise -/
def tM_277 : av_M := (⟨"SinglesPastModel", "ifOtherwise", "(I)I"⟩, prog_14_method_92_code, 2, (some .int), 2, [], [], 11, false)
/-- SinglesPastModel.otherwise -/
def tM_278 : av_M := (⟨"SinglesPastModel", "otherwise", "(I)I"⟩, prog_14_method_93_code, 2, (some .int), 2, [], [], 11, false)
/-- SinglesPastModel.worthOf -/
def tM_279 : av_M := (⟨"SinglesPastModel", "worthOf", "(I)I"⟩, prog_14_method_94_code, 4, (some .int), 2, [], [], 11, false)
/-- SinglesPastModel.changesOf -/
def tM_280 : av_M := (⟨"SinglesPastModel", "changesOf", "(I)I"⟩, prog_14_method_95_code, 2, (some .int), 2, [], [], 11, false)
/-- SinglesPastModel.heavy -/
def tM_281 : av_M := (⟨"SinglesPastModel", "heavy", "()I"⟩, prog_14_method_96_code, 5, (some .int), 1, [], [], 11, false)
/-- SinglesPastModel.lineOf -/
def tM_282 : av_M := (⟨"SinglesPastModel", "lineOf", "(I)I"⟩, prog_14_method_97_code, 5, (some .int), 2, [], [], 11, false)
/-- SinglesPastModel.allStops -/
def tM_283 : av_M := (⟨"SinglesPastModel", "allStops", "()I"⟩, prog_14_method_98_code, 3, (some .int), 1, [], [], 11, false)
/-- SinglesPastModel.latestOf -/
def tM_284 : av_M := (⟨"SinglesPastModel", "latestOf", "(I)I"⟩, prog_14_method_99_code, 4, (some .int), 2, [], [], 11, false)
/-- SinglesPastModel.thing -/
def tM_285 : av_M := (⟨"SinglesPastModel", "thing", "(II)I"⟩, prog_14_method_100_code, 3, (some .int), 3, [], [], 11, false)
/-- SinglesPastModel.goer -/
def tM_286 : av_M := (⟨"SinglesPastModel", "goer", "(II)I"⟩, prog_14_method_101_code, 3, (some .int), 3, [], [], 11, false)
/-- SinglesPastModel.train -/
def tM_287 : av_M := (⟨"SinglesPastModel", "train", "(II)I"⟩, prog_14_method_102_code, 4, (some .int), 3, [], [], 11, false)
/-- SinglesPastModel.noSuch -/
def tM_288 : av_M := (⟨"SinglesPastModel", "noSuch", "(II)Z"⟩, prog_14_method_103_code, 3, (some .boolean), 3, [], [], 11, false)
/-- SinglesPastModel.cost -/
def tM_289 : av_M := (⟨"SinglesPastModel", "cost", "(II)I"⟩, prog_14_method_104_code, 3, (some .int), 3, [], [], 11, false)
/-- SinglesPastModel.fear -/
def tM_290 : av_M := (⟨"SinglesPastModel", "fear", "(II)I"⟩, prog_14_method_105_code, 3, (some .int), 3, [], [], 11, false)
/-- SinglesPastModel.may -/
def tM_291 : av_M := (⟨"SinglesPastModel", "may", "(II)Z"⟩, prog_14_method_106_code, 3, (some .boolean), 3, [], [], 11, false)
/-- SinglesPastModel.days -/
def tM_292 : av_M := (⟨"SinglesPastModel", "days", "(I)I"⟩, prog_14_method_107_code, 2, (some .int), 2, [], [], 11, false)
/-- SinglesPastModel.sell -/
def tM_293 : av_M := (⟨"SinglesPastModel", "sell", "(II)I"⟩, prog_14_method_108_code, 3, (some .int), 3, [], [], 11, false)
/-- SinglesPastModel.isNow -/
def tM_294 : av_M := (⟨"SinglesPastModel", "isNow", "(II)I"⟩, prog_14_method_109_code, 4, (some .int), 3, [], [], 11, false)
/-- SinglesPastModel.pay -/
def tM_295 : av_M := (⟨"SinglesPastModel", "pay", "(II)I"⟩, prog_14_method_110_code, 3, (some .int), 3, [], [], 11, false)
/-- SinglesPastModel.nerve -/
def tM_296 : av_M := (⟨"SinglesPastModel", "nerve", "(II)I"⟩, prog_14_method_111_code, 3, (some .int), 3, [], [], 11, false)
/-- SinglesPastModel.wish -/
def tM_297 : av_M := (⟨"SinglesPastModel", "wish", "(II)I"⟩, prog_14_method_112_code, 3, (some .int), 3, [], [], 11, false)
/-- SinglesPastModel.deed -/
def tM_298 : av_M := (⟨"SinglesPastModel", "deed", "(IIZ)I"⟩, prog_14_method_113_code, 5, (some .int), 4, [], [], 11, false)
/-- SinglesPastModel.noTwo -/
def tM_299 : av_M := (⟨"SinglesPastModel", "noTwo", "(II)Z"⟩, prog_14_method_114_code, 3, (some .boolean), 3, [], [], 11, false)
/-- SinglesPastModel.quarrel -/
def tM_300 : av_M := (⟨"SinglesPastModel", "quarrel", "(IIZ)Z"⟩, prog_14_method_115_code, 6, (some .boolean), 4, [], [], 11, false)
/-- SinglesPastModel.stops -/
def tM_301 : av_M := (⟨"SinglesPastModel", "stops", "(II)I"⟩, prog_14_method_116_code, 3, (some .int), 3, [], [], 11, false)
/-- SinglesPastModel.recall -/
def tM_302 : av_M := (⟨"SinglesPastModel", "recall", "(I)I"⟩, prog_14_method_117_code, 3, (some .int), 2, [], [], 11, false)
/-- SinglesPastModel.isRows -/
def tM_303 : av_M := (⟨"SinglesPastModel", "isRows", "()Z"⟩, prog_14_method_118_code, 3, (some .boolean), 1, [], [], 11, false)
/-- SinglesPastModel.areSo -/
def tM_304 : av_M := (⟨"SinglesPastModel", "areSo", "(I)Z"⟩, prog_14_method_119_code, 4, (some .boolean), 2, [], [], 11, false)
/-- SinglesPastModel.send -/
def tM_305 : av_M := (⟨"SinglesPastModel", "send", "()I"⟩, prog_14_method_120_code, 4, (some .int), 1, [], [], 11, false)
/-- SinglesPastModel.fitsWho -/
def tM_306 : av_M := (⟨"SinglesPastModel", "fitsWho", "(I)Z"⟩, prog_14_method_121_code, 3, (some .boolean), 2, [], [], 11, false)
/-- SinglesPastModel.who -/
def tM_307 : av_M := (⟨"SinglesPastModel", "who", "(Z)I"⟩, prog_14_method_122_code, 5, (some .int), 2, [], [], 11, false)
/-- SinglesPastModel.look -/
def tM_308 : av_M := (⟨"SinglesPastModel", "look", "()I"⟩, prog_14_method_123_code, 8, (some .int), 1, [], [], 11, false)
/-- SinglesPastModel.hangsOn -/
def tM_309 : av_M := (⟨"SinglesPastModel", "hangsOn", "(I)I"⟩, prog_14_method_124_code, 4, (some .int), 2, [], [], 11, false)
/-- SinglesPastModel.hangs -/
def tM_310 : av_M := (⟨"SinglesPastModel", "hangs", "(I)I"⟩, prog_14_method_125_code, 2, (some .int), 2, [], [], 11, false)
/-- SinglesPastModel.key -/
def tM_311 : av_M := (⟨"SinglesPastModel", "key", "()I"⟩, prog_14_method_126_code, 5, (some .int), 1, [], [], 11, false)
/-- SinglesPastModel.loose -/
def tM_312 : av_M := (⟨"SinglesPastModel", "loose", "()I"⟩, prog_14_method_127_code, 4, (some .int), 1, [], [], 11, false)
/-- SinglesPastModel.kills -/
def tM_313 : av_M := (⟨"SinglesPastModel", "kills", "(II)Z"⟩, prog_14_method_128_code, 3, (some .boolean), 3, [], [], 11, false)
/-- SinglesPastModel.mayGo -/
def tM_314 : av_M := (⟨"SinglesPastModel", "mayGo", "(II)Z"⟩, prog_14_method_129_code, 6, (some .boolean), 3, [], [], 11, false)
/-- SinglesPastModel.laysWay -/
def tM_315 : av_M := (⟨"SinglesPastModel", "laysWay", "(II)I"⟩, prog_14_method_130_code, 6, (some .int), 3, [], [], 11, false)
/-- SinglesPastModel.mostOf -/
def tM_316 : av_M := (⟨"SinglesPastModel", "mostOf", "(I)I"⟩, prog_14_method_131_code, 7, (some .int), 2, [], [], 11, false)
/-- SinglesPastModel.colours -/
def tM_317 : av_M := (⟨"SinglesPastModel", "colours", "(I)I"⟩, prog_14_method_132_code, 3, (some .int), 2, [], [], 11, false)
/-- SinglesPastModel.laysMembers -/
def tM_318 : av_M := (⟨"SinglesPastModel", "laysMembers", "(I)I"⟩, prog_14_method_133_code, 4, (some .int), 2, [], [], 11, false)
/-- SinglesPastModel.canAll -/
def tM_319 : av_M := (⟨"SinglesPastModel", "canAll", "(I)Z"⟩, prog_14_method_134_code, 6, (some .boolean), 2, [], [], 11, false)
/-- SinglesPastModel.clash -/
def tM_320 : av_M := (⟨"SinglesPastModel", "clash", "()I"⟩, prog_14_method_135_code, 4, (some .int), 1, [], [], 11, false)
/-- SinglesPastModel.payersOf -/
def tM_321 : av_M := (⟨"SinglesPastModel", "payersOf", "(II)I"⟩, prog_14_method_136_code, 5, (some .int), 3, [], [], 11, false)
/-- SinglesPastModel.priceOf -/
def tM_322 : av_M := (⟨"SinglesPastModel", "priceOf", "(I)I"⟩, prog_14_method_137_code, 4, (some .int), 2, [], [], 11, false)
/-- SinglesPastModel.earnsOf -/
def tM_323 : av_M := (⟨"SinglesPastModel", "earnsOf", "(I)I"⟩, prog_14_method_138_code, 3, (some .int), 2, [], [], 11, false)
/-- SinglesPastModel.price -/
def tM_324 : av_M := (⟨"SinglesPastModel", "price", "(IZ)I"⟩, prog_14_method_139_code, 3, (some .int), 3, [], [], 11, false)
/-- SinglesPastModel.dearest -/
def tM_325 : av_M := (⟨"SinglesPastModel", "dearest", "()I"⟩, prog_14_method_140_code, 3, (some .int), 1, [], [], 11, false)
/-- SinglesPastModel.crowd -/
def tM_326 : av_M := (⟨"SinglesPastModel", "crowd", "(I)I"⟩, prog_14_method_141_code, 4, (some .int), 2, [], [], 11, false)
/-- SinglesPastModel.asksFor -/
def tM_327 : av_M := (⟨"SinglesPastModel", "asksFor", "(I)I"⟩, prog_14_method_142_code, 2, (some .int), 1, [], [], 11, false)
/-- SinglesPastModel.asks -/
def tM_328 : av_M := (⟨"SinglesPastModel", "asks", "(IZ)I"⟩, prog_14_method_143_code, 9, (some .int), 3, [], [], 11, false)
/-- SinglesPastModel.pickedBy -/
def tM_329 : av_M := (⟨"SinglesPastModel", "pickedBy", "(II)I"⟩, prog_14_method_144_code, 5, (some .int), 2, [], [], 11, false)
/-- SinglesPastModel.pick -/
def tM_330 : av_M := (⟨"SinglesPastModel", "pick", "(IZ)I"⟩, prog_14_method_145_code, 5, (some .int), 3, [], [], 11, false)
/-- SinglesPastModel.firstOf -/
def tM_331 : av_M := (⟨"SinglesPastModel", "firstOf", "(I)I"⟩, prog_14_method_146_code, 1, (some .int), 1, [], [], 11, false)
/-- SinglesPastModel.canPair -/
def tM_332 : av_M := (⟨"SinglesPastModel", "canPair", "(II)Z"⟩, prog_14_method_147_code, 3, (some .boolean), 3, [], [], 11, false)
/-- SinglesPastModel.pairedBy -/
def tM_333 : av_M := (⟨"SinglesPastModel", "pairedBy", "(II)I"⟩, prog_14_method_148_code, 5, (some .int), 3, [], [], 11, false)
/-- SinglesPastModel.laysPairs -/
def tM_334 : av_M := (⟨"SinglesPastModel", "laysPairs", "()V"⟩, prog_14_method_149_code, 4, none, 1, [], [], 11, false)
/-- SinglesPastModel.pairs -/
def tM_335 : av_M := (⟨"SinglesPastModel", "pairs", "(I)I"⟩, prog_14_method_150_code, 7, (some .int), 2, [], [], 11, false)
/-- SinglesPastModel.goerHas -/
def tM_336 : av_M := (⟨"SinglesPastModel", "goerHas", "(III)I"⟩, prog_14_method_151_code, 4, (some .int), 4, [], [], 11, false)
/-- SinglesPastModel.clerkHas -/
def tM_337 : av_M := (⟨"SinglesPastModel", "clerkHas", "(II)I"⟩, prog_14_method_152_code, 2, (some .int), 2, [], [], 11, false)
/-- SinglesPastModel.rests -/
def tM_338 : av_M := (⟨"SinglesPastModel", "rests", "(I)I"⟩, prog_14_method_153_code, 5, (some .int), 2, [], [], 11, false)
/-- SinglesPastModel.odds -/
def tM_339 : av_M := (⟨"SinglesPastModel", "odds", "(II)I"⟩, prog_14_method_154_code, 7, (some .int), 3, [], [], 11, false)
/-- SinglesPastModel.brave -/
def tM_340 : av_M := (⟨"SinglesPastModel", "brave", "()I"⟩, prog_14_method_155_code, 3, (some .int), 1, [], [], 11, false)
/-- SinglesPastModel.gone -/
def tM_341 : av_M := (⟨"SinglesPastModel", "gone", "()I"⟩, prog_14_method_156_code, 1, (some .int), 1, [], [], 11, false)
/-- SinglesPastModel.unborn -/
def tM_342 : av_M := (⟨"SinglesPastModel", "unborn", "()I"⟩, prog_14_method_157_code, 1, (some .int), 1, [], [], 11, false)
/-- SinglesPastModel.twins -/
def tM_343 : av_M := (⟨"SinglesPastModel", "twins", "()I"⟩, prog_14_method_158_code, 4, (some .int), 1, [], [], 11, false)
/-- SinglesPastModel.worth -/
def tM_344 : av_M := (⟨"SinglesPastModel", "worth", "()I"⟩, prog_14_method_159_code, 1, (some .int), 1, [], [], 11, false)
/-- SinglesPastModel.empty -/
def tM_345 : av_M := (⟨"SinglesPastModel", "empty", "()I"⟩, prog_14_method_160_code, 3, (some .int), 1, [], [], 11, false)
/-- SinglesPastModel.never -/
def tM_346 : av_M := (⟨"SinglesPastModel", "never", "()I"⟩, prog_14_method_161_code, 1, (some .int), 1, [], [], 11, false)
/-- SinglesPastModel.noAhead -/
def tM_347 : av_M := (⟨"SinglesPastModel", "noAhead", "(I)Z"⟩, prog_14_method_162_code, 1, (some .boolean), 1, [], [], 11, false)
/-- SinglesPastModel.ahead -/
def tM_348 : av_M := (⟨"SinglesPastModel", "ahead", "(II)I"⟩, prog_14_method_163_code, 4, (some .int), 3, [], [], 11, false)
/-- SinglesPastModel.trial -/
def tM_349 : av_M := (⟨"SinglesPastModel", "trial", "(IZ)I"⟩, prog_14_method_164_code, 4, (some .int), 3, [], [], 11, false)
/-- SinglesPastModel.span -/
def tM_350 : av_M := (⟨"SinglesPastModel", "span", "(IZ)I"⟩, prog_14_method_165_code, 6, (some .int), 3, [], [], 11, false)
/-- SinglesPastModel.ofLog -/
def tM_351 : av_M := (⟨"SinglesPastModel", "ofLog", "(II)I"⟩, prog_14_method_166_code, 3, (some .int), 3, [], [], 11, false)
/-- SinglesPastModel.led -/
def tM_352 : av_M := (⟨"SinglesPastModel", "led", "(IZ)I"⟩, prog_14_method_167_code, 6, (some .int), 3, [], [], 11, false)
/-- SinglesPastModel.log -/
def tM_353 : av_M := (⟨"SinglesPastModel", "log", "(II)I"⟩, prog_14_method_168_code, 3, (some .int), 3, [], [], 11, false)
/-- SinglesPastModel.seed -/
def tM_354 : av_M := (⟨"SinglesPastModel", "seed", "(I)I"⟩, prog_14_method_169_code, 3, (some .int), 2, [], [], 11, false)
/-- SinglesPastModel.count -/
def tM_355 : av_M := (⟨"SinglesPastModel", "count", "(I)I"⟩, prog_14_method_170_code, 4, (some .int), 2, [], [], 11, false)
/-- java/lang/Integer.numberOfTrailingZeros -/
def tM_356 : av_M := (⟨"java/lang/Integer", "numberOfTrailingZeros", "(I)I"⟩, prog_23_method_48_code, 2, (some .int), 1, [], [], 99, false)
/-- java/lang/Integer.bitCount -/
def tM_357 : av_M := (⟨"java/lang/Integer", "bitCount", "(I)I"⟩, prog_23_method_49_code, 1, (some .int), 1, [], [], 99, false)
/-- java/lang/Math.max -/
def tM_358 : av_M := (⟨"java/lang/Math", "max", "(II)I"⟩, prog_24_method_65_code, 2, (some .int), 2, [], [], 99, false)
/-- java/lang/Math.min -/
def tM_359 : av_M := (⟨"java/lang/Math", "min", "(II)I"⟩, prog_24_method_69_code, 2, (some .int), 2, [], [], 99, false)
/-- java/util/Arrays.fill -/
def tM_360 : av_M := (⟨"java/util/Arrays", "fill", "([II)V"⟩, prog_34_method_103_code, 4, none, 2, [], [], 99, false)
/-- java/util/Arrays.copyOf -/
def tM_361 : av_M := (⟨"java/util/Arrays", "copyOf", "([II)[I"⟩, prog_34_method_123_code, 3, (some (.array .int)), 2, [], [], 99, false)
/-- SinglesPastLaw.station -/
def tM_362 : av_M := (⟨"SinglesPastLaw", "station", "(LSinglesPast;[J)I"⟩, method_3_code, 3, (some .int), 2, [(0, 8, 11, 13), (0, 8, 14, 15)], ["java/lang/IllegalArgumentException", "java/lang/UnsupportedOperationException"], 99, false)
/-- SinglesPastLaw.law -/
def tM_363 : av_M := (⟨"SinglesPastLaw", "law", "(LSinglesPast;[J)I"⟩, method_4_code, 3, (some .int), 2, [(0, 8, 11, 13)], ["java/lang/IllegalArgumentException"], 99, false)
/-- SinglesPastLaw.thing -/
def tM_364 : av_M := (⟨"SinglesPastLaw", "thing", "(LSinglesPast;II[J)I"⟩, method_5_code, 5, (some .int), 4, [(0, 10, 13, 24), (0, 10, 17, 26)], ["java/lang/IndexOutOfBoundsException", "java/util/NoSuchElementException"], 99, false)
/-- SinglesPastLaw.goer -/
def tM_365 : av_M := (⟨"SinglesPastLaw", "goer", "(LSinglesPast;II[J)I"⟩, method_6_code, 5, (some .int), 4, [(0, 10, 13, 24), (0, 10, 17, 26)], ["java/lang/IndexOutOfBoundsException", "java/util/NoSuchElementException"], 99, false)
/-- SinglesPastLaw.train -/
def tM_366 : av_M := (⟨"SinglesPastLaw", "train", "(LSinglesPast;II[J)I"⟩, method_7_code, 5, (some .int), 4, [(0, 10, 13, 24), (0, 10, 17, 26)], ["java/lang/IndexOutOfBoundsException", "java/util/NoSuchElementException"], 99, false)
/-- SinglesPastLaw.cost -/
def tM_367 : av_M := (⟨"SinglesPastLaw", "cost", "(LSinglesPast;II[J)I"⟩, method_8_code, 5, (some .int), 4, [(0, 10, 13, 24)], ["java/lang/IndexOutOfBoundsException"], 99, false)
/-- SinglesPastLaw.fear -/
def tM_368 : av_M := (⟨"SinglesPastLaw", "fear", "(LSinglesPast;II[J)I"⟩, method_9_code, 5, (some .int), 4, [(0, 10, 13, 24)], ["java/lang/IndexOutOfBoundsException"], 99, false)
/-- SinglesPastLaw.may -/
def tM_369 : av_M := (⟨"SinglesPastLaw", "may", "(LSinglesPast;II[J)I"⟩, method_10_code, 5, (some .int), 4, [(0, 17, 20, 24)], ["java/lang/IndexOutOfBoundsException"], 99, false)
/-- SinglesPastLaw.days -/
def tM_370 : av_M := (⟨"SinglesPastLaw", "days", "(LSinglesPast;I[J)I"⟩, method_11_code, 4, (some .int), 3, [(0, 9, 12, 13)], ["java/lang/IllegalArgumentException"], 99, false)
/-- SinglesPastLaw.sell -/
def tM_371 : av_M := (⟨"SinglesPastLaw", "sell", "(LSinglesPast;II[J)I"⟩, method_12_code, 5, (some .int), 4, [(0, 10, 13, 24), (0, 10, 17, 51)], ["java/lang/IndexOutOfBoundsException", "java/lang/IllegalStateException"], 99, false)
/-- SinglesPastLaw.pay -/
def tM_372 : av_M := (⟨"SinglesPastLaw", "pay", "(LSinglesPast;II[J)I"⟩, method_13_code, 5, (some .int), 4, [(0, 10, 13, 24), (0, 10, 17, 13)], ["java/lang/IndexOutOfBoundsException", "java/lang/IllegalArgumentException"], 99, false)
/-- SinglesPastLaw.nerve -/
def tM_373 : av_M := (⟨"SinglesPastLaw", "nerve", "(LSinglesPast;II[J)I"⟩, method_14_code, 5, (some .int), 4, [(0, 10, 13, 24), (0, 10, 17, 13)], ["java/lang/IndexOutOfBoundsException", "java/lang/IllegalArgumentException"], 99, false)
/-- SinglesPastLaw.wish -/
def tM_374 : av_M := (⟨"SinglesPastLaw", "wish", "(LSinglesPast;II[J)I"⟩, method_15_code, 5, (some .int), 4, [(0, 10, 13, 24), (0, 10, 17, 51)], ["java/lang/IndexOutOfBoundsException", "java/lang/IllegalStateException"], 99, false)
/-- SinglesPastLaw.deed -/
def tM_375 : av_M := (⟨"SinglesPastLaw", "deed", "(LSinglesPast;IIZ[J)I"⟩, method_16_code, 6, (some .int), 5, [(0, 12, 15, 24), (0, 12, 19, 51)], ["java/lang/IndexOutOfBoundsException", "java/lang/IllegalStateException"], 99, false)
/-- SinglesPastLaw.quarrel -/
def tM_376 : av_M := (⟨"SinglesPastLaw", "quarrel", "(LSinglesPast;IIZ[J)I"⟩, method_17_code, 6, (some .int), 5, [(0, 19, 22, 24), (0, 19, 26, 13)], ["java/lang/IndexOutOfBoundsException", "java/lang/IllegalArgumentException"], 99, false)
/-- SinglesPastLaw.stops -/
def tM_377 : av_M := (⟨"SinglesPastLaw", "stops", "(LSinglesPast;II[J)I"⟩, method_18_code, 5, (some .int), 4, [(0, 10, 13, 24), (0, 10, 17, 13)], ["java/lang/IndexOutOfBoundsException", "java/lang/IllegalArgumentException"], 99, false)
/-- SinglesPastLaw.recall -/
def tM_378 : av_M := (⟨"SinglesPastLaw", "recall", "(LSinglesPast;I[J)I"⟩, method_19_code, 4, (some .int), 3, [(0, 9, 12, 24), (0, 9, 15, 51)], ["java/lang/IndexOutOfBoundsException", "java/lang/IllegalStateException"], 99, false)
/-- SinglesPastLaw.otherwise -/
def tM_379 : av_M := (⟨"SinglesPastLaw", "otherwise", "(LSinglesPast;I[J)I"⟩, method_20_code, 4, (some .int), 3, [(0, 9, 12, 24)], ["java/lang/IndexOutOfBoundsException"], 99, false)
/-- SinglesPastLaw.send -/
def tM_380 : av_M := (⟨"SinglesPastLaw", "send", "(LSinglesPast;[J)I"⟩, method_21_code, 3, (some .int), 2, [(0, 8, 11, 13)], ["java/lang/IllegalArgumentException"], 99, false)
/-- SinglesPastLaw.who -/
def tM_381 : av_M := (⟨"SinglesPastLaw", "who", "(LSinglesPast;Z[J)I"⟩, method_22_code, 4, (some .int), 3, [(0, 9, 12, 13)], ["java/lang/IllegalArgumentException"], 99, false)
/-- SinglesPastLaw.look -/
def tM_382 : av_M := (⟨"SinglesPastLaw", "look", "(LSinglesPast;[J)I"⟩, method_23_code, 3, (some .int), 2, [(0, 8, 11, 13)], ["java/lang/IllegalArgumentException"], 99, false)
/-- SinglesPastLaw.hangs -/
def tM_383 : av_M := (⟨"SinglesPastLaw", "hangs", "(LSinglesPast;I[J)I"⟩, method_24_code, 4, (some .int), 3, [(0, 9, 12, 24)], ["java/lang/IndexOutOfBoundsException"], 99, false)
/-- SinglesPastLaw.kills -/
def tM_384 : av_M := (⟨"SinglesPastLaw", "kills", "(LSinglesPast;II[J)I"⟩, method_25_code, 5, (some .int), 4, [(0, 17, 20, 24), (0, 17, 24, 13)], ["java/lang/IndexOutOfBoundsException", "java/lang/IllegalArgumentException"], 99, false)
/-- SinglesPastLaw.colours -/
def tM_385 : av_M := (⟨"SinglesPastLaw", "colours", "(LSinglesPast;I[J)I"⟩, method_26_code, 4, (some .int), 3, [(0, 9, 12, 24)], ["java/lang/IndexOutOfBoundsException"], 99, false)
/-- SinglesPastLaw.price -/
def tM_386 : av_M := (⟨"SinglesPastLaw", "price", "(LSinglesPast;IZ[J)I"⟩, method_27_code, 5, (some .int), 4, [(0, 10, 13, 24)], ["java/lang/IndexOutOfBoundsException"], 99, false)
/-- SinglesPastLaw.crowd -/
def tM_387 : av_M := (⟨"SinglesPastLaw", "crowd", "(LSinglesPast;I[J)I"⟩, method_28_code, 4, (some .int), 3, [(0, 9, 12, 24)], ["java/lang/IndexOutOfBoundsException"], 99, false)
/-- SinglesPastLaw.pick -/
def tM_388 : av_M := (⟨"SinglesPastLaw", "pick", "(LSinglesPast;IZ[J)I"⟩, method_29_code, 5, (some .int), 4, [(0, 10, 13, 13)], ["java/lang/IllegalArgumentException"], 99, false)
/-- SinglesPastLaw.pairs -/
def tM_389 : av_M := (⟨"SinglesPastLaw", "pairs", "(LSinglesPast;I[J)I"⟩, method_30_code, 4, (some .int), 3, [(0, 9, 12, 24)], ["java/lang/IndexOutOfBoundsException"], 99, false)
/-- SinglesPastLaw.rests -/
def tM_390 : av_M := (⟨"SinglesPastLaw", "rests", "(LSinglesPast;I[J)I"⟩, method_31_code, 4, (some .int), 3, [(0, 9, 12, 24)], ["java/lang/IndexOutOfBoundsException"], 99, false)
/-- SinglesPastLaw.odds -/
def tM_391 : av_M := (⟨"SinglesPastLaw", "odds", "(LSinglesPast;II[J)I"⟩, method_32_code, 5, (some .int), 4, [(0, 10, 13, 24), (0, 10, 17, 13)], ["java/lang/IndexOutOfBoundsException", "java/lang/IllegalArgumentException"], 99, false)
/-- SinglesPastLaw.ahead -/
def tM_392 : av_M := (⟨"SinglesPastLaw", "ahead", "(LSinglesPast;II[J)I"⟩, method_33_code, 5, (some .int), 4, [(0, 10, 13, 24), (0, 10, 17, 13)], ["java/lang/IndexOutOfBoundsException", "java/lang/IllegalArgumentException"], 99, false)
/-- SinglesPastLaw.trial -/
def tM_393 : av_M := (⟨"SinglesPastLaw", "trial", "(LSinglesPast;IZ[J)I"⟩, method_34_code, 5, (some .int), 4, [(0, 10, 13, 13)], ["java/lang/IllegalArgumentException"], 99, false)
/-- SinglesPastLaw.span -/
def tM_394 : av_M := (⟨"SinglesPastLaw", "span", "(LSinglesPast;IZ[J)I"⟩, method_35_code, 5, (some .int), 4, [(0, 10, 13, 13)], ["java/lang/IllegalArgumentException"], 99, false)
/-- SinglesPastLaw.led -/
def tM_395 : av_M := (⟨"SinglesPastLaw", "led", "(LSinglesPast;IZ[J)I"⟩, method_36_code, 5, (some .int), 4, [(0, 10, 13, 24)], ["java/lang/IndexOutOfBoundsException"], 99, false)
/-- SinglesPastLaw.log -/
def tM_396 : av_M := (⟨"SinglesPastLaw", "log", "(LSinglesPast;II[J)I"⟩, method_37_code, 5, (some .int), 4, [(0, 10, 13, 26)], ["java/util/NoSuchElementException"], 99, false)
/-- SinglesPastLaw.law -/
def tM_397 : av_M := (⟨"SinglesPastLaw", "law", "([I)Z"⟩, code, 7, (some .boolean), 1, [], [], 99, false)
def tMe : List av_M := [tM_0, tM_1, tM_2, tM_3, tM_4, tM_5, tM_6, tM_7, tM_8, tM_9, tM_10, tM_11, tM_12, tM_13, tM_14, tM_15, tM_16, tM_17, tM_18, tM_19, tM_20, tM_21, tM_22, tM_23, tM_24, tM_25, tM_26, tM_27, tM_28, tM_29, tM_30, tM_31, tM_32, tM_33, tM_34, tM_35, tM_36, tM_37, tM_38, tM_39, tM_40, tM_41, tM_42, tM_43, tM_44, tM_45, tM_46, tM_47, tM_48, tM_49, tM_50, tM_51, tM_52, tM_53, tM_54, tM_55, tM_56, tM_57, tM_58, tM_59, tM_60, tM_61, tM_62, tM_63, tM_64, tM_65, tM_66, tM_67, tM_68, tM_69, tM_70, tM_71, tM_72, tM_73, tM_74, tM_75, tM_76, tM_77, tM_78, tM_79, tM_80, tM_81, tM_82, tM_83, tM_84, tM_85, tM_86, tM_87, tM_88, tM_89, tM_90, tM_91, tM_92, tM_93, tM_94, tM_95, tM_96, tM_97, tM_98, tM_99, tM_100, tM_101, tM_102, tM_103, tM_104, tM_105, tM_106, tM_107, tM_108, tM_109, tM_110, tM_111, tM_112, tM_113, tM_114, tM_115, tM_116, tM_117, tM_118, tM_119, tM_120, tM_121, tM_122, tM_123, tM_124, tM_125, tM_126, tM_127, tM_128, tM_129, tM_130, tM_131, tM_132, tM_133, tM_134, tM_135, tM_136, tM_137, tM_138, tM_139, tM_140, tM_141, tM_142, tM_143, tM_144, tM_145, tM_146, tM_147, tM_148, tM_149, tM_150, tM_151, tM_152, tM_153, tM_154, tM_155, tM_156, tM_157, tM_158, tM_159, tM_160, tM_161, tM_162, tM_163, tM_164, tM_165, tM_166, tM_167, tM_168, tM_169, tM_170, tM_171, tM_172, tM_173, tM_174, tM_175, tM_176, tM_177, tM_178, tM_179, tM_180, tM_181, tM_182, tM_183, tM_184, tM_185, tM_186, tM_187, tM_188, tM_189, tM_190, tM_191, tM_192, tM_193, tM_194, tM_195, tM_196, tM_197, tM_198, tM_199, tM_200, tM_201, tM_202, tM_203, tM_204, tM_205, tM_206, tM_207, tM_208, tM_209, tM_210, tM_211, tM_212, tM_213, tM_214, tM_215, tM_216, tM_217, tM_218, tM_219, tM_220, tM_221, tM_222, tM_223, tM_224, tM_225, tM_226, tM_227, tM_228, tM_229, tM_230, tM_231, tM_232, tM_233, tM_234, tM_235, tM_236, tM_237, tM_238, tM_239, tM_240, tM_241, tM_242, tM_243, tM_244, tM_245, tM_246, tM_247, tM_248, tM_249, tM_250, tM_251, tM_252, tM_253, tM_254, tM_255, tM_256, tM_257, tM_258, tM_259, tM_260, tM_261, tM_262, tM_263, tM_264, tM_265, tM_266, tM_267, tM_268, tM_269, tM_270, tM_271, tM_272, tM_273, tM_274, tM_275, tM_276, tM_277, tM_278, tM_279, tM_280, tM_281, tM_282, tM_283, tM_284, tM_285, tM_286, tM_287, tM_288, tM_289, tM_290, tM_291, tM_292, tM_293, tM_294, tM_295, tM_296, tM_297, tM_298, tM_299, tM_300, tM_301, tM_302, tM_303, tM_304, tM_305, tM_306, tM_307, tM_308, tM_309, tM_310, tM_311, tM_312, tM_313, tM_314, tM_315, tM_316, tM_317, tM_318, tM_319, tM_320, tM_321, tM_322, tM_323, tM_324, tM_325, tM_326, tM_327, tM_328, tM_329, tM_330, tM_331, tM_332, tM_333, tM_334, tM_335, tM_336, tM_337, tM_338, tM_339, tM_340, tM_341, tM_342, tM_343, tM_344, tM_345, tM_346, tM_347, tM_348, tM_349, tM_350, tM_351, tM_352, tM_353, tM_354, tM_355, tM_356, tM_357, tM_358, tM_359, tM_360, tM_361, tM_362, tM_363, tM_364, tM_365, tM_366, tM_367, tM_368, tM_369, tM_370, tM_371, tM_372, tM_373, tM_374, tM_375, tM_376, tM_377, tM_378, tM_379, tM_380, tM_381, tM_382, tM_383, tM_384, tM_385, tM_386, tM_387, tM_388, tM_389, tM_390, tM_391, tM_392, tM_393, tM_394, tM_395, tM_396, tM_397]
def tMo : List Nat := [0, 0, 0, 0, 1, 1, 1, 1, 1, 1, 1, 1, 2, 2, 2, 2, 2, 2, 3, 3, 3, 3, 4, 4, 4, 5, 5, 5, 5, 5, 6, 6, 6, 6, 6, 6, 6, 6, 6, 6, 6, 6, 6, 6, 6, 6, 6, 6, 6, 6, 6, 6, 6, 7, 7, 7, 7, 7, 7, 7, 7, 7, 7, 8, 8, 8, 8, 8, 8, 8, 8, 8, 8, 8, 8, 9, 9, 9, 9, 9, 9, 9, 9, 10, 10, 10, 10, 10, 10, 10, 10, 10, 10, 10, 11, 11, 11, 11, 11, 11, 11, 11, 11, 11, 11, 11, 11, 11, 11, 11, 11, 11, 11, 11, 11, 11, 11, 11, 11, 11, 11, 11, 11, 11, 11, 11, 11, 11, 11, 11, 11, 11, 11, 11, 11, 11, 11, 11, 11, 11, 11, 11, 11, 11, 11, 11, 11, 11, 11, 11, 11, 11, 11, 11, 11, 11, 11, 11, 11, 11, 11, 11, 11, 11, 11, 11, 11, 11, 11, 11, 11, 11, 11, 11, 11, 11, 11, 11, 11, 11, 11, 11, 11, 11, 11, 11, 12, 12, 12, 12, 12, 12, 12, 12, 12, 12, 12, 12, 12, 12, 12, 12, 12, 12, 12, 12, 12, 12, 12, 12, 12, 12, 12, 12, 12, 12, 12, 12, 12, 12, 12, 12, 12, 12, 12, 12, 12, 12, 12, 12, 12, 12, 12, 12, 12, 12, 12, 12, 12, 12, 12, 12, 12, 12, 12, 12, 12, 12, 12, 12, 12, 12, 12, 12, 12, 12, 12, 12, 12, 12, 12, 12, 12, 12, 12, 12, 12, 12, 12, 12, 12, 12, 12, 12, 12, 12, 12, 12, 12, 12, 12, 12, 12, 12, 12, 12, 12, 12, 12, 12, 12, 12, 12, 12, 12, 12, 12, 12, 12, 12, 12, 12, 12, 12, 12, 12, 12, 12, 12, 12, 12, 12, 12, 12, 12, 12, 12, 12, 12, 12, 12, 12, 12, 12, 12, 12, 12, 12, 12, 12, 12, 12, 12, 12, 12, 12, 12, 12, 12, 12, 12, 12, 12, 12, 12, 12, 12, 12, 12, 12, 12, 12, 12, 12, 12, 12, 13, 13, 14, 14, 15, 15, 16, 16, 16, 16, 16, 16, 16, 16, 16, 16, 16, 16, 16, 16, 16, 16, 16, 16, 16, 16, 16, 16, 16, 16, 16, 16, 16, 16, 16, 16, 16, 16, 16, 16, 16, 16]
def tMk : List Nat := [2, 1, 1, 1, 2, 1, 1, 1, 1, 1, 1, 1, 2, 1, 1, 1, 1, 1, 2, 1, 1, 1, 2, 1, 1, 2, 1, 1, 1, 1, 2, 1, 1, 1, 1, 1, 1, 1, 1, 1, 1, 1, 1, 1, 1, 1, 1, 1, 1, 1, 1, 1, 1, 0, 0, 0, 0, 0, 0, 0, 0, 0, 0, 2, 1, 1, 1, 1, 1, 1, 1, 1, 1, 1, 1, 2, 1, 1, 1, 1, 1, 1, 1, 2, 1, 1, 1, 1, 1, 1, 1, 1, 1, 1, 2, 1, 1, 1, 1, 1, 1, 1, 1, 1, 1, 1, 1, 1, 1, 1, 1, 1, 1, 1, 1, 1, 1, 1, 1, 1, 1, 1, 1, 1, 1, 1, 1, 1, 1, 1, 1, 0, 1, 1, 1, 1, 1, 1, 1, 1, 1, 1, 1, 1, 1, 1, 1, 1, 1, 1, 1, 1, 1, 0, 0, 1, 0, 1, 1, 0, 0, 1, 1, 1, 1, 1, 1, 1, 1, 1, 1, 1, 1, 1, 1, 1, 1, 1, 1, 0, 1, 1, 1, 1, 1, 0, 1, 1, 0, 0, 2, 1, 1, 1, 1, 1, 1, 1, 1, 1, 0, 1, 0, 1, 0, 1, 1, 1, 1, 1, 1, 1, 1, 0, 1, 1, 1, 1, 1, 1, 1, 1, 1, 1, 1, 1, 1, 1, 1, 1, 1, 1, 1, 1, 1, 1, 1, 1, 1, 1, 1, 1, 1, 1, 1, 1, 1, 1, 1, 1, 1, 1, 1, 1, 1, 1, 1, 1, 1, 1, 1, 1, 1, 1, 1, 1, 1, 1, 1, 1, 1, 1, 1, 1, 1, 1, 1, 1, 1, 1, 1, 1, 1, 1, 1, 1, 1, 1, 1, 1, 1, 1, 1, 1, 1, 1, 1, 1, 1, 1, 1, 1, 1, 1, 1, 1, 1, 1, 1, 1, 1, 1, 1, 1, 1, 1, 1, 1, 1, 1, 1, 1, 1, 1, 1, 1, 1, 0, 1, 0, 1, 0, 1, 1, 1, 1, 1, 0, 1, 1, 1, 1, 1, 1, 1, 1, 1, 0, 1, 1, 1, 1, 1, 1, 1, 1, 0, 0, 0, 0, 0, 0, 0, 0, 0, 0, 0, 0, 0, 0, 0, 0, 0, 0, 0, 0, 0, 0, 0, 0, 0, 0, 0, 0, 0, 0, 0, 0, 0, 0, 0, 0, 0, 0, 0, 0, 0, 3]
end
section
/-- SinglesPast$Law.<init>(I[I[I[I[I)V -/
def tO_0 : List (Nat × av_O) := [(0, .aload 0, 1, 0), (1, .monitorenter, 3, 3), (4, .aload 0, 1, 0), (5, .sipush 10, 2, 0), (7, .newarray .int, 2, 0), (9, .putfield 5, 3, 11), (12, .aload 0, 1, 0), (13, .sipush 32, 2, 0), (15, .newarray .int, 2, 0), (17, .putfield 6, 3, 15), (20, .aload 0, 1, 0), (21, .iload 1, 1, 0), (22, .putfield 0, 3, 18), (25, .aload 0, 1, 0), (26, .aload 2, 1, 0), (27, .putfield 1, 3, 22), (30, .aload 0, 1, 0), (31, .aload 3, 1, 0), (32, .putfield 2, 3, 25), (35, .aload 0, 1, 0), (36, .aload 4, 2, 0), (38, .putfield 3, 3, 28), (41, .aload 0, 1, 0), (42, .aload 5, 2, 0), (44, .putfield 4, 3, 31), (47, .return_, 1, 0)]
/-- SinglesPast$Law.lookAt(LSinglesPast$State;II)V -/
def tO_1 : List (Nat × av_O) := [(0, .aload 1, 1, 0), (1, .iload 3, 1, 0), (2, .invokevirtual 39, 3, 34), (5, .invokestatic 357, 3, 40), (8, .istore 4, 2, 0), (10, .aload 0, 1, 0), (11, .getfield 5, 3, 11), (14, .sipush 0, 1, 0), (15, .iload 2, 1, 0), (16, .iastore, 1, 0), (17, .aload 0, 1, 0), (18, .getfield 5, 3, 11), (21, .sipush 1, 1, 0), (22, .aload 1, 1, 0), (23, .getfield 386, 3, 45), (26, .iload 2, 1, 0), (27, .iaload, 1, 0), (28, .iastore, 1, 0), (29, .aload 0, 1, 0), (30, .getfield 5, 3, 11), (33, .sipush 2, 1, 0), (34, .aload 1, 1, 0), (35, .getfield 390, 3, 48), (38, .iload 2, 1, 0), (39, .iaload, 1, 0), (40, .iastore, 1, 0), (41, .aload 0, 1, 0), (42, .getfield 5, 3, 11), (45, .sipush 3, 1, 0), (46, .aload 1, 1, 0), (47, .getfield 391, 3, 51), (50, .iload 2, 1, 0), (51, .iaload, 1, 0), (52, .iastore, 1, 0), (53, .aload 0, 1, 0), (54, .getfield 5, 3, 11), (57, .sipush 4, 1, 0), (58, .iload 3, 1, 0), (59, .iastore, 1, 0), (60, .aload 0, 1, 0), (61, .getfield 5, 3, 11), (64, .sipush 5, 1, 0), (65, .iload 4, 2, 0), (67, .iastore, 1, 0), (68, .aload 0, 1, 0), (69, .getfield 5, 3, 11), (72, .sipush 6, 2, 0), (74, .aload 1, 1, 0), (75, .getfield 399, 3, 54), (78, .sipush 100, 2, 0), (80, .irem, 1, 0), (81, .iastore, 1, 0), (82, .aload 0, 1, 0), (83, .getfield 5, 3, 11), (86, .sipush 7, 2, 0), (88, .aload 1, 1, 0), (89, .getfield 389, 3, 57), (92, .iload 2, 1, 0), (93, .iaload, 1, 0), (94, .sipush (-1), 1, 0), (95, .if_icmp .eq 102, 3, 0), (98, .sipush 1, 1, 0), (99, .goto 103, 3, 0), (102, .sipush 0, 1, 0), (103, .iastore, 1, 0), (104, .aload 0, 1, 0), (105, .getfield 5, 3, 11), (108, .sipush 8, 2, 0), (110, .aload 1, 1, 0), (111, .getfield 387, 3, 60), (114, .iload 2, 1, 0), (115, .iaload, 1, 0), (116, .sipush (-1), 1, 0), (117, .if_icmp .eq 124, 3, 0), (120, .sipush 1, 1, 0), (121, .goto 125, 3, 0), (124, .sipush 0, 1, 0), (125, .iastore, 1, 0), (126, .aload 0, 1, 0), (127, .getfield 5, 3, 11), (130, .sipush 9, 2, 0), (132, .iload 4, 2, 0), (134, .aload 1, 1, 0), (135, .getfield 396, 3, 63), (138, .iload 3, 1, 0), (139, .iaload, 1, 0), (140, .if_icmp .lt 147, 3, 0), (143, .sipush 1, 1, 0), (144, .goto 148, 3, 0), (147, .sipush 0, 1, 0), (148, .iastore, 1, 0), (149, .return_, 1, 0)]
/-- SinglesPast$Law.sumOf(I)I -/
def tO_2 : List (Nat × av_O) := [(0, .sipush 0, 1, 0), (1, .istore 2, 1, 0), (2, .sipush 0, 1, 0), (3, .istore 3, 1, 0), (4, .sipush 0, 1, 0), (5, .istore 4, 2, 0), (7, .iload 4, 2, 0), (9, .aload 0, 1, 0), (10, .getfield 0, 3, 18), (13, .if_icmp .ge 66, 3, 0), (16, .aload 0, 1, 0), (17, .getfield 1, 3, 22), (20, .iload 4, 2, 0), (22, .iaload, 1, 0), (23, .iload 1, 1, 0), (24, .if_icmp .ne 52, 3, 0), (27, .aload 0, 1, 0), (28, .iload 3, 1, 0), (29, .aload 0, 1, 0), (30, .getfield 3, 3, 28), (33, .iload 4, 2, 0), (35, .iaload, 1, 0), (36, .invokevirtual 3, 3, 66), (39, .ifCond .eq 52, 3, 0), (42, .iload 2, 1, 0), (43, .aload 0, 1, 0), (44, .getfield 2, 3, 25), (47, .iload 4, 2, 0), (49, .iaload, 1, 0), (50, .iadd, 1, 0), (51, .istore 2, 1, 0), (52, .aload 0, 1, 0), (53, .getfield 3, 3, 28), (56, .iload 4, 2, 0), (58, .iaload, 1, 0), (59, .istore 3, 1, 0), (60, .iinc 4 1, 3, 0), (63, .goto 7, 3, 0), (66, .iload 2, 1, 0), (67, .ireturn, 1, 0)]
/-- SinglesPast$Law.holds(II)Z -/
def tO_3 : List (Nat × av_O) := [(0, .sipush (-1), 1, 0), (1, .istore 3, 1, 0), (2, .iload 1, 1, 0), (3, .istore 4, 2, 0), (5, .iload 4, 2, 0), (7, .iload 2, 1, 0), (8, .if_icmp .ge 247, 3, 0), (11, .aload 0, 1, 0), (12, .getfield 4, 3, 31), (15, .iload 4, 2, 0), (17, .iaload, 1, 0), (18, .istore 5, 2, 0), (20, .iload 5, 2, 0), (22, .sipush 1010, 3, 0), (25, .if_icmp .ge 72, 3, 0), (28, .iload 3, 1, 0), (29, .sipush 1, 1, 0), (30, .iadd, 1, 0), (31, .sipush 32, 2, 0), (33, .if_icmp .ge 241, 3, 0), (36, .iinc 3 1, 3, 0), (39, .aload 0, 1, 0), (40, .getfield 6, 3, 15), (43, .iload 3, 1, 0), (44, .iload 5, 2, 0), (46, .sipush 1000, 3, 0), (49, .if_icmp .ge 57, 3, 0), (52, .iload 5, 2, 0), (54, .goto 68, 3, 0), (57, .aload 0, 1, 0), (58, .getfield 5, 3, 11), (61, .iload 5, 2, 0), (63, .sipush 1000, 3, 0), (66, .isub, 1, 0), (67, .iaload, 1, 0), (68, .iastore, 1, 0), (69, .goto 241, 3, 0), (72, .iload 5, 2, 0), (74, .sipush 1013, 3, 0), (77, .if_icmp .ne 101, 3, 0), (80, .iload 3, 1, 0), (81, .ifCond .lt 241, 3, 0), (84, .aload 0, 1, 0), (85, .getfield 6, 3, 15), (88, .iload 3, 1, 0), (89, .sipush 1, 1, 0), (90, .aload 0, 1, 0), (91, .getfield 6, 3, 15), (94, .iload 3, 1, 0), (95, .iaload, 1, 0), (96, .isub, 1, 0), (97, .iastore, 1, 0), (98, .goto 241, 3, 0), (101, .iload 3, 1, 0), (102, .sipush 1, 1, 0), (103, .if_icmp .lt 241, 3, 0), (106, .aload 0, 1, 0), (107, .getfield 6, 3, 15), (110, .iload 3, 1, 0), (111, .iaload, 1, 0), (112, .istore 6, 2, 0), (114, .iinc 3 (-1), 3, 0), (117, .aload 0, 1, 0), (118, .getfield 6, 3, 15), (121, .iload 3, 1, 0), (122, .iaload, 1, 0), (123, .istore 7, 2, 0), (125, .iload 5, 2, 0), (127, .tableswitch 230 1010 1014 #[160, 174, 195, 230, 216], 33, 0), (160, .aload 0, 1, 0), (161, .getfield 6, 3, 15), (164, .iload 3, 1, 0), (165, .iload 7, 2, 0), (167, .iload 6, 2, 0), (169, .iadd, 1, 0), (170, .iastore, 1, 0), (171, .goto 241, 3, 0), (174, .aload 0, 1, 0), (175, .getfield 6, 3, 15), (178, .iload 3, 1, 0), (179, .iload 7, 2, 0), (181, .iload 6, 2, 0), (183, .if_icmp .ge 190, 3, 0), (186, .sipush 1, 1, 0), (187, .goto 191, 3, 0), (190, .sipush 0, 1, 0), (191, .iastore, 1, 0), (192, .goto 241, 3, 0), (195, .aload 0, 1, 0), (196, .getfield 6, 3, 15), (199, .iload 3, 1, 0), (200, .iload 7, 2, 0), (202, .iload 6, 2, 0), (204, .if_icmp .le 211, 3, 0), (207, .sipush 1, 1, 0), (208, .goto 212, 3, 0), (211, .sipush 0, 1, 0), (212, .iastore, 1, 0), (213, .goto 241, 3, 0), (216, .aload 0, 1, 0), (217, .getfield 6, 3, 15), (220, .iload 3, 1, 0), (221, .iload 7, 2, 0), (223, .iload 6, 2, 0), (225, .iand, 1, 0), (226, .iastore, 1, 0), (227, .goto 241, 3, 0), (230, .aload 0, 1, 0), (231, .getfield 6, 3, 15), (234, .iload 3, 1, 0), (235, .iload 7, 2, 0), (237, .iload 6, 2, 0), (239, .ior, 1, 0), (240, .iastore, 1, 0), (241, .iinc 4 1, 3, 0), (244, .goto 5, 3, 0), (247, .iload 3, 1, 0), (248, .ifCond .lt 260, 3, 0), (251, .aload 0, 1, 0), (252, .getfield 6, 3, 15), (255, .iload 3, 1, 0), (256, .iaload, 1, 0), (257, .ifCond .eq 264, 3, 0), (260, .sipush 1, 1, 0), (261, .goto 265, 3, 0), (264, .sipush 0, 1, 0), (265, .ireturn, 1, 0)]
/-- SinglesPast$LawText.<init>()V -/
def tO_4 : List (Nat × av_O) := [(0, .aload 0, 1, 0), (1, .monitorenter, 3, 3), (4, .aload 0, 1, 0), (5, .sipush 12, 2, 0), (7, .newarray .int, 2, 0), (9, .putfield 66, 3, 11), (12, .aload 0, 1, 0), (13, .sipush 12, 2, 0), (15, .newarray .int, 2, 0), (17, .putfield 67, 3, 15), (20, .aload 0, 1, 0), (21, .sipush 12, 2, 0), (23, .newarray .int, 2, 0), (25, .putfield 68, 3, 18), (28, .aload 0, 1, 0), (29, .sipush 400, 3, 0), (32, .newarray .int, 2, 0), (34, .putfield 69, 3, 21), (37, .return_, 1, 0)]
/-- SinglesPast$LawText.toLaw()LSinglesPast$Law; -/
def tO_5 : List (Nat × av_O) := [(0, .new 0, 3, 24), (3, .dup, 1, 0), (4, .aload 0, 1, 0), (5, .getfield 64, 3, 26), (8, .aload 0, 1, 0), (9, .getfield 66, 3, 11), (12, .aload 0, 1, 0), (13, .getfield 64, 3, 26), (16, .invokestatic 361, 3, 30), (19, .aload 0, 1, 0), (20, .getfield 67, 3, 15), (23, .aload 0, 1, 0), (24, .getfield 64, 3, 26), (27, .invokestatic 361, 3, 30), (30, .aload 0, 1, 0), (31, .getfield 68, 3, 18), (34, .aload 0, 1, 0), (35, .getfield 64, 3, 26), (38, .invokestatic 361, 3, 30), (41, .aload 0, 1, 0), (42, .getfield 69, 3, 21), (45, .aload 0, 1, 0), (46, .getfield 65, 3, 36), (49, .invokestatic 361, 3, 30), (52, .invokespecial 0, 3, 39), (55, .areturn, 1, 0)]
/-- SinglesPast$LawText.read(LSinglesPast$Tape;)Z -/
def tO_6 : List (Nat × av_O) := [(0, .aload 0, 1, 0), (1, .sipush 0, 1, 0), (2, .putfield 64, 3, 26), (5, .aload 0, 1, 0), (6, .sipush 0, 1, 0), (7, .putfield 65, 3, 36), (10, .aload 1, 1, 0), (11, .invokevirtual 66, 3, 42), (14, .ifCond .eq 19, 3, 0), (17, .sipush 1, 1, 0), (18, .ireturn, 1, 0), (19, .sipush 0, 1, 0), (20, .istore 2, 1, 0), (21, .iload 2, 1, 0), (22, .sipush 12, 2, 0), (24, .if_icmp .ge 65, 3, 0), (27, .aload 0, 1, 0), (28, .aload 1, 1, 0), (29, .iload 2, 1, 0), (30, .invokevirtual 7, 3, 48), (33, .ifCond .ne 38, 3, 0), (36, .sipush 0, 1, 0), (37, .ireturn, 1, 0), (38, .aload 0, 1, 0), (39, .iload 2, 1, 0), (40, .sipush 1, 1, 0), (41, .iadd, 1, 0), (42, .putfield 64, 3, 26), (45, .aload 1, 1, 0), (46, .sipush 59, 2, 0), (48, .invokevirtual 69, 3, 52), (51, .ifCond .ne 59, 3, 0), (54, .aload 1, 1, 0), (55, .invokevirtual 66, 3, 42), (58, .ireturn, 1, 0), (59, .iinc 2 1, 3, 0), (62, .goto 21, 3, 0), (65, .sipush 0, 1, 0), (66, .ireturn, 1, 0)]
/-- SinglesPast$LawText.readLine(LSinglesPast$Tape;I)Z -/
def tO_7 : List (Nat × av_O) := [(0, .aload 1, 1, 0), (1, .ldc 14, 2, 56), (3, .invokevirtual 71, 3, 58), (6, .istore 3, 1, 0), (7, .iload 3, 1, 0), (8, .sipush (-1), 1, 0), (9, .if_icmp .ne 14, 3, 0), (12, .sipush 0, 1, 0), (13, .ireturn, 1, 0), (14, .aload 0, 1, 0), (15, .getfield 66, 3, 11), (18, .iload 2, 1, 0), (19, .iload 3, 1, 0), (20, .iastore, 1, 0), (21, .aload 0, 1, 0), (22, .getfield 67, 3, 15), (25, .iload 2, 1, 0), (26, .sipush 1, 1, 0), (27, .iastore, 1, 0), (28, .iload 3, 1, 0), (29, .sipush 2, 1, 0), (30, .if_icmp .eq 56, 3, 0), (33, .aload 1, 1, 0), (34, .sipush 0, 1, 0), (35, .sipush 200, 3, 0), (38, .invokevirtual 73, 3, 62), (41, .ifCond .ne 46, 3, 0), (44, .sipush 0, 1, 0), (45, .ireturn, 1, 0), (46, .aload 0, 1, 0), (47, .getfield 67, 3, 15), (50, .iload 2, 1, 0), (51, .aload 1, 1, 0), (52, .getfield 451, 3, 66), (55, .iastore, 1, 0), (56, .aload 1, 1, 0), (57, .ldc 15, 2, 69), (59, .invokevirtual 70, 3, 71), (62, .ifCond .eq 76, 3, 0), (65, .aload 0, 1, 0), (66, .aload 1, 1, 0), (67, .sipush 0, 1, 0), (68, .invokevirtual 9, 3, 75), (71, .ifCond .ne 76, 3, 0), (74, .sipush 0, 1, 0), (75, .ireturn, 1, 0), (76, .aload 0, 1, 0), (77, .getfield 68, 3, 18), (80, .iload 2, 1, 0), (81, .aload 0, 1, 0), (82, .getfield 65, 3, 36), (85, .iastore, 1, 0), (86, .sipush 1, 1, 0), (87, .ireturn, 1, 0)]
/-- SinglesPast$LawText.put(I)V -/
def tO_8 : List (Nat × av_O) := [(0, .aload 0, 1, 0), (1, .getfield 65, 3, 36), (4, .aload 0, 1, 0), (5, .getfield 69, 3, 21), (8, .arraylength, 1, 0), (9, .if_icmp .ge 32, 3, 0), (12, .aload 0, 1, 0), (13, .getfield 69, 3, 21), (16, .aload 0, 1, 0), (17, .getfield 65, 3, 36), (20, .iload 1, 1, 0), (21, .iastore, 1, 0), (22, .aload 0, 1, 0), (23, .dup, 1, 0), (24, .getfield 65, 3, 36), (27, .sipush 1, 1, 0), (28, .iadd, 1, 0), (29, .putfield 65, 3, 36), (32, .return_, 1, 0)]
/-- SinglesPast$LawText.readCondition(LSinglesPast$Tape;I)Z -/
def tO_9 : List (Nat × av_O) := [(0, .sipush 0, 1, 0), (1, .istore 3, 1, 0), (2, .sipush 0, 1, 0), (3, .istore 4, 2, 0), (5, .sipush 0, 1, 0), (6, .istore 5, 2, 0), (8, .iload 5, 2, 0), (10, .sipush 400, 3, 0), (13, .if_icmp .ge 82, 3, 0), (16, .aload 0, 1, 0), (17, .aload 1, 1, 0), (18, .iload 2, 1, 0), (19, .invokevirtual 10, 3, 78), (22, .ifCond .ne 27, 3, 0), (25, .sipush 0, 1, 0), (26, .ireturn, 1, 0), (27, .iload 3, 1, 0), (28, .ifCond .eq 38, 3, 0), (31, .aload 0, 1, 0), (32, .sipush 1014, 3, 0), (35, .invokevirtual 8, 3, 81), (38, .aload 1, 1, 0), (39, .ldc 19, 2, 85), (41, .invokevirtual 70, 3, 71), (44, .istore 3, 1, 0), (45, .iload 3, 1, 0), (46, .ifCond .ne 76, 3, 0), (49, .iload 4, 2, 0), (51, .ifCond .eq 61, 3, 0), (54, .aload 0, 1, 0), (55, .sipush 1015, 3, 0), (58, .invokevirtual 8, 3, 81), (61, .aload 1, 1, 0), (62, .ldc 20, 2, 87), (64, .invokevirtual 70, 3, 71), (67, .istore 4, 2, 0), (69, .iload 4, 2, 0), (71, .ifCond .ne 76, 3, 0), (74, .sipush 1, 1, 0), (75, .ireturn, 1, 0), (76, .iinc 5 1, 3, 0), (79, .goto 8, 3, 0), (82, .sipush 0, 1, 0), (83, .ireturn, 1, 0)]
/-- SinglesPast$LawText.readAtom(LSinglesPast$Tape;I)Z -/
def tO_10 : List (Nat × av_O) := [(0, .aload 1, 1, 0), (1, .ldc 16, 2, 89), (3, .invokevirtual 70, 3, 71), (6, .ifCond .eq 42, 3, 0), (9, .iload 2, 1, 0), (10, .sipush 6, 2, 0), (12, .if_icmp .lt 20, 3, 0), (15, .aload 1, 1, 0), (16, .invokevirtual 68, 3, 91), (19, .ireturn, 1, 0), (20, .aload 0, 1, 0), (21, .aload 1, 1, 0), (22, .iload 2, 1, 0), (23, .sipush 1, 1, 0), (24, .iadd, 1, 0), (25, .invokevirtual 10, 3, 78), (28, .ifCond .ne 33, 3, 0), (31, .sipush 0, 1, 0), (32, .ireturn, 1, 0), (33, .aload 0, 1, 0), (34, .sipush 1013, 3, 0), (37, .invokevirtual 8, 3, 81), (40, .sipush 1, 1, 0), (41, .ireturn, 1, 0), (42, .aload 1, 1, 0), (43, .sipush 40, 2, 0), (45, .invokevirtual 69, 3, 52), (48, .ifCond .eq 88, 3, 0), (51, .iload 2, 1, 0), (52, .sipush 6, 2, 0), (54, .if_icmp .lt 62, 3, 0), (57, .aload 1, 1, 0), (58, .invokevirtual 68, 3, 91), (61, .ireturn, 1, 0), (62, .aload 0, 1, 0), (63, .aload 1, 1, 0), (64, .iload 2, 1, 0), (65, .sipush 1, 1, 0), (66, .iadd, 1, 0), (67, .invokevirtual 9, 3, 75), (70, .ifCond .eq 86, 3, 0), (73, .aload 1, 1, 0), (74, .sipush 41, 2, 0), (76, .invokevirtual 69, 3, 52), (79, .ifCond .eq 86, 3, 0), (82, .sipush 1, 1, 0), (83, .goto 87, 3, 0), (86, .sipush 0, 1, 0), (87, .ireturn, 1, 0), (88, .aload 1, 1, 0), (89, .ldc 17, 2, 94), (91, .invokevirtual 71, 3, 58), (94, .istore 3, 1, 0), (95, .iload 3, 1, 0), (96, .sipush (-1), 1, 0), (97, .if_icmp .eq 111, 3, 0), (100, .aload 0, 1, 0), (101, .sipush 1007, 3, 0), (104, .iload 3, 1, 0), (105, .iadd, 1, 0), (106, .invokevirtual 8, 3, 81), (109, .sipush 1, 1, 0), (110, .ireturn, 1, 0), (111, .aload 0, 1, 0), (112, .aload 1, 1, 0), (113, .invokevirtual 11, 3, 96), (116, .ifCond .ne 121, 3, 0), (119, .sipush 0, 1, 0), (120, .ireturn, 1, 0), (121, .aload 1, 1, 0), (122, .sipush 60, 2, 0), (124, .invokevirtual 69, 3, 52), (127, .ifCond .eq 136, 3, 0), (130, .sipush 1011, 3, 0), (133, .goto 152, 3, 0), (136, .aload 1, 1, 0), (137, .sipush 62, 2, 0), (139, .invokevirtual 69, 3, 52), (142, .ifCond .eq 151, 3, 0), (145, .sipush 1012, 3, 0), (148, .goto 152, 3, 0), (151, .sipush (-1), 1, 0), (152, .istore 4, 2, 0), (154, .iload 4, 2, 0), (156, .sipush (-1), 1, 0), (157, .if_icmp .eq 168, 3, 0), (160, .aload 0, 1, 0), (161, .aload 1, 1, 0), (162, .invokevirtual 11, 3, 96), (165, .ifCond .ne 170, 3, 0), (168, .sipush 0, 1, 0), (169, .ireturn, 1, 0), (170, .aload 0, 1, 0), (171, .iload 4, 2, 0), (173, .invokevirtual 8, 3, 81), (176, .sipush 1, 1, 0), (177, .ireturn, 1, 0)]
/-- SinglesPast$LawText.readSum(LSinglesPast$Tape;)Z -/
def tO_11 : List (Nat × av_O) := [(0, .sipush 0, 1, 0), (1, .istore 2, 1, 0), (2, .iload 2, 1, 0), (3, .sipush 400, 3, 0), (6, .if_icmp .ge 82, 3, 0), (9, .aload 1, 1, 0), (10, .sipush 0, 1, 0), (11, .sipush 999, 3, 0), (14, .invokevirtual 73, 3, 62), (17, .ifCond .eq 31, 3, 0), (20, .aload 0, 1, 0), (21, .aload 1, 1, 0), (22, .getfield 451, 3, 66), (25, .invokevirtual 8, 3, 81), (28, .goto 54, 3, 0), (31, .aload 1, 1, 0), (32, .ldc 18, 2, 100), (34, .invokevirtual 71, 3, 58), (37, .istore 3, 1, 0), (38, .iload 3, 1, 0), (39, .sipush (-1), 1, 0), (40, .if_icmp .ne 45, 3, 0), (43, .sipush 0, 1, 0), (44, .ireturn, 1, 0), (45, .aload 0, 1, 0), (46, .sipush 1000, 3, 0), (49, .iload 3, 1, 0), (50, .iadd, 1, 0), (51, .invokevirtual 8, 3, 81), (54, .iload 2, 1, 0), (55, .ifCond .le 65, 3, 0), (58, .aload 0, 1, 0), (59, .sipush 1010, 3, 0), (62, .invokevirtual 8, 3, 81), (65, .aload 1, 1, 0), (66, .sipush 43, 2, 0), (68, .invokevirtual 69, 3, 52), (71, .ifCond .ne 76, 3, 0), (74, .sipush 1, 1, 0), (75, .ireturn, 1, 0), (76, .iinc 2 1, 3, 0), (79, .goto 2, 3, 0), (82, .sipush 0, 1, 0), (83, .ireturn, 1, 0)]
/-- SinglesPast$Log.<init>()V -/
def tO_12 : List (Nat × av_O) := [(0, .aload 0, 1, 0), (1, .monitorenter, 3, 3), (4, .aload 0, 1, 0), (5, .sipush 240, 3, 0), (8, .newarray .int, 2, 0), (10, .putfield 129, 3, 11), (13, .return_, 1, 0)]
/-- SinglesPast$Log.copyFrom(LSinglesPast$Log;)V -/
def tO_13 : List (Nat × av_O) := [(0, .aload 0, 1, 0), (1, .aload 1, 1, 0), (2, .getfield 128, 3, 15), (5, .putfield 128, 3, 15), (8, .aload 1, 1, 0), (9, .getfield 129, 3, 11), (12, .sipush 0, 1, 0), (13, .aload 0, 1, 0), (14, .getfield 129, 3, 11), (17, .sipush 0, 1, 0), (18, .aload 0, 1, 0), (19, .getfield 129, 3, 11), (22, .arraylength, 1, 0), (23, .invokedynamic 0, 3, 19), (26, .return_, 1, 0)]
/-- SinglesPast$Log.add(IIII)V -/
def tO_14 : List (Nat × av_O) := [(0, .aload 0, 1, 0), (1, .getfield 128, 3, 15), (4, .sipush 60, 2, 0), (6, .if_icmp .lt 35, 3, 0), (9, .aload 0, 1, 0), (10, .getfield 129, 3, 11), (13, .sipush 4, 1, 0), (14, .aload 0, 1, 0), (15, .getfield 129, 3, 11), (18, .sipush 0, 1, 0), (19, .aload 0, 1, 0), (20, .getfield 129, 3, 11), (23, .arraylength, 1, 0), (24, .sipush 4, 1, 0), (25, .isub, 1, 0), (26, .invokedynamic 0, 3, 19), (29, .aload 0, 1, 0), (30, .sipush 59, 2, 0), (32, .putfield 128, 3, 15), (35, .aload 0, 1, 0), (36, .getfield 128, 3, 15), (39, .sipush 4, 1, 0), (40, .imul, 1, 0), (41, .istore 5, 2, 0), (43, .aload 0, 1, 0), (44, .getfield 129, 3, 11), (47, .iload 5, 2, 0), (49, .iload 1, 1, 0), (50, .iastore, 1, 0), (51, .aload 0, 1, 0), (52, .getfield 129, 3, 11), (55, .iload 5, 2, 0), (57, .sipush 1, 1, 0), (58, .iadd, 1, 0), (59, .iload 2, 1, 0), (60, .iastore, 1, 0), (61, .aload 0, 1, 0), (62, .getfield 129, 3, 11), (65, .iload 5, 2, 0), (67, .sipush 2, 1, 0), (68, .iadd, 1, 0), (69, .iload 3, 1, 0), (70, .iastore, 1, 0), (71, .aload 0, 1, 0), (72, .getfield 129, 3, 11), (75, .iload 5, 2, 0), (77, .sipush 3, 1, 0), (78, .iadd, 1, 0), (79, .iload 4, 2, 0), (81, .iastore, 1, 0), (82, .aload 0, 1, 0), (83, .dup, 1, 0), (84, .getfield 128, 3, 15), (87, .sipush 1, 1, 0), (88, .iadd, 1, 0), (89, .putfield 128, 3, 15), (92, .return_, 1, 0)]
/-- SinglesPast$Log.entryOf(II)I -/
def tO_15 : List (Nat × av_O) := [(0, .iload 1, 1, 0), (1, .ifCond .lt 12, 3, 0), (4, .iload 1, 1, 0), (5, .aload 0, 1, 0), (6, .getfield 128, 3, 15), (9, .if_icmp .lt 15, 3, 0), (12, .sipush (-2), 2, 0), (14, .ireturn, 1, 0), (15, .aload 0, 1, 0), (16, .getfield 129, 3, 11), (19, .aload 0, 1, 0), (20, .getfield 128, 3, 15), (23, .sipush 1, 1, 0), (24, .isub, 1, 0), (25, .iload 1, 1, 0), (26, .isub, 1, 0), (27, .sipush 4, 1, 0), (28, .imul, 1, 0), (29, .iload 2, 1, 0), (30, .iadd, 1, 0), (31, .iaload, 1, 0), (32, .ireturn, 1, 0)]
/-- SinglesPast$Log.countOf(I)I -/
def tO_16 : List (Nat × av_O) := [(0, .sipush 0, 1, 0), (1, .istore 2, 1, 0), (2, .sipush 0, 1, 0), (3, .istore 3, 1, 0), (4, .iload 3, 1, 0), (5, .aload 0, 1, 0), (6, .getfield 128, 3, 15), (9, .if_icmp .ge 35, 3, 0), (12, .aload 0, 1, 0), (13, .getfield 129, 3, 11), (16, .iload 3, 1, 0), (17, .sipush 4, 1, 0), (18, .imul, 1, 0), (19, .sipush 1, 1, 0), (20, .iadd, 1, 0), (21, .iaload, 1, 0), (22, .iload 1, 1, 0), (23, .if_icmp .ne 29, 3, 0), (26, .iinc 2 1, 3, 0), (29, .iinc 3 1, 3, 0), (32, .goto 4, 3, 0), (35, .iload 2, 1, 0), (36, .ireturn, 1, 0)]
/-- SinglesPast$Log.latestDayOf(I)I -/
def tO_17 : List (Nat × av_O) := [(0, .aload 0, 1, 0), (1, .getfield 128, 3, 15), (4, .sipush 1, 1, 0), (5, .isub, 1, 0), (6, .istore 2, 1, 0), (7, .iload 2, 1, 0), (8, .ifCond .lt 40, 3, 0), (11, .aload 0, 1, 0), (12, .getfield 129, 3, 11), (15, .iload 2, 1, 0), (16, .sipush 4, 1, 0), (17, .imul, 1, 0), (18, .sipush 1, 1, 0), (19, .iadd, 1, 0), (20, .iaload, 1, 0), (21, .iload 1, 1, 0), (22, .if_icmp .ne 34, 3, 0), (25, .aload 0, 1, 0), (26, .getfield 129, 3, 11), (29, .iload 2, 1, 0), (30, .sipush 4, 1, 0), (31, .imul, 1, 0), (32, .iaload, 1, 0), (33, .ireturn, 1, 0), (34, .iinc 2 (-1), 3, 0), (37, .goto 7, 3, 0), (40, .sipush (-1), 1, 0), (41, .ireturn, 1, 0)]
/-- SinglesPast$Memory.<init>()V -/
def tO_18 : List (Nat × av_O) := [(0, .aload 0, 1, 0), (1, .monitorenter, 3, 1), (4, .aload 0, 1, 0), (5, .sipush 12, 2, 0), (7, .anewarray 0, 3, 9), (10, .putfield 194, 3, 11), (13, .sipush 0, 1, 0), (14, .istore 1, 1, 0), (15, .iload 1, 1, 0), (16, .sipush 12, 2, 0), (18, .if_icmp .ge 40, 3, 0), (21, .aload 0, 1, 0), (22, .getfield 194, 3, 11), (25, .iload 1, 1, 0), (26, .new 6, 3, 9), (29, .dup, 1, 0), (30, .invokespecial 30, 3, 15), (33, .aastore, 1, 0), (34, .iinc 1 1, 3, 0), (37, .goto 15, 3, 0), (40, .return_, 1, 0)]
/-- SinglesPast$Memory.keep(LSinglesPast$State;)V -/
def tO_19 : List (Nat × av_O) := [(0, .aload 0, 1, 0), (1, .getfield 194, 3, 11), (4, .aload 0, 1, 0), (5, .getfield 193, 3, 16), (8, .aaload, 1, 0), (9, .aload 1, 1, 0), (10, .invokevirtual 31, 3, 20), (13, .aload 0, 1, 0), (14, .aload 0, 1, 0), (15, .getfield 193, 3, 16), (18, .sipush 1, 1, 0), (19, .iadd, 1, 0), (20, .sipush 12, 2, 0), (22, .irem, 1, 0), (23, .putfield 193, 3, 16), (26, .aload 0, 1, 0), (27, .sipush 12, 2, 0), (29, .aload 0, 1, 0), (30, .getfield 192, 3, 24), (33, .sipush 1, 1, 0), (34, .iadd, 1, 0), (35, .invokestatic 359, 3, 27), (38, .putfield 192, 3, 24), (41, .return_, 1, 0)]
/-- SinglesPast$Memory.bringBack(LSinglesPast$State;)Z -/
def tO_20 : List (Nat × av_O) := [(0, .aload 0, 1, 0), (1, .getfield 192, 3, 24), (4, .ifCond .ne 9, 3, 0), (7, .sipush 0, 1, 0), (8, .ireturn, 1, 0), (9, .aload 0, 1, 0), (10, .dup, 1, 0), (11, .getfield 192, 3, 24), (14, .sipush 1, 1, 0), (15, .isub, 1, 0), (16, .putfield 192, 3, 24), (19, .aload 0, 1, 0), (20, .aload 0, 1, 0), (21, .getfield 193, 3, 16), (24, .sipush 12, 2, 0), (26, .iadd, 1, 0), (27, .sipush 1, 1, 0), (28, .isub, 1, 0), (29, .sipush 12, 2, 0), (31, .irem, 1, 0), (32, .putfield 193, 3, 16), (35, .aload 1, 1, 0), (36, .aload 0, 1, 0), (37, .getfield 194, 3, 11), (40, .aload 0, 1, 0), (41, .getfield 193, 3, 16), (44, .aaload, 1, 0), (45, .invokevirtual 31, 3, 20), (48, .sipush 1, 1, 0), (49, .ireturn, 1, 0)]
/-- SinglesPast$Memory.forget()V -/
def tO_21 : List (Nat × av_O) := [(0, .aload 0, 1, 0), (1, .sipush 0, 1, 0), (2, .putfield 192, 3, 24), (5, .return_, 1, 0)]
/-- SinglesPast$Pairing.<init>()V -/
def tO_22 : List (Nat × av_O) := [(0, .aload 0, 1, 0), (1, .monitorenter, 3, 3), (4, .aload 0, 1, 0), (5, .sipush 6, 2, 0), (7, .newarray .int, 2, 0), (9, .putfield 256, 3, 9), (12, .aload 0, 1, 0), (13, .sipush 6, 2, 0), (15, .newarray .int, 2, 0), (17, .putfield 258, 3, 15), (20, .return_, 1, 0)]
/-- SinglesPast$Pairing.pairMost(LSinglesPast$State;I)I -/
def tO_23 : List (Nat × av_O) := [(0, .aload 0, 1, 0), (1, .sipush (-1), 1, 0), (2, .putfield 257, 3, 18), (5, .aload 0, 1, 0), (6, .getfield 258, 3, 15), (9, .sipush (-1), 1, 0), (10, .invokestatic 360, 3, 22), (13, .aload 0, 1, 0), (14, .aload 1, 1, 0), (15, .sipush 0, 1, 0), (16, .iload 2, 1, 0), (17, .sipush 0, 1, 0), (18, .invokevirtual 24, 3, 28), (21, .aload 0, 1, 0), (22, .getfield 257, 3, 18), (25, .ireturn, 1, 0)]
/-- SinglesPast$Pairing.pairFrom(LSinglesPast$State;III)V -/
def tO_24 : List (Nat × av_O) := [(0, .iload 4, 2, 0), (2, .iload 3, 1, 0), (3, .iload 2, 1, 0), (4, .ishr, 1, 0), (5, .invokestatic 357, 3, 32), (8, .sipush 2, 1, 0), (9, .idiv, 1, 0), (10, .iadd, 1, 0), (11, .aload 0, 1, 0), (12, .getfield 257, 3, 18), (15, .if_icmp .gt 19, 3, 0), (18, .return_, 1, 0), (19, .iload 2, 1, 0), (20, .aload 1, 1, 0), (21, .getfield 385, 3, 38), (24, .if_icmp .ge 33, 3, 0), (27, .iload 2, 1, 0), (28, .sipush 6, 2, 0), (30, .if_icmp .lt 55, 3, 0), (33, .aload 0, 1, 0), (34, .iload 4, 2, 0), (36, .putfield 257, 3, 18), (39, .aload 0, 1, 0), (40, .getfield 258, 3, 15), (43, .sipush 0, 1, 0), (44, .aload 0, 1, 0), (45, .getfield 256, 3, 9), (48, .sipush 0, 1, 0), (49, .sipush 6, 2, 0), (51, .invokedynamic 0, 3, 43), (54, .return_, 1, 0), (55, .aload 0, 1, 0), (56, .aload 1, 1, 0), (57, .iload 2, 1, 0), (58, .sipush 1, 1, 0), (59, .iadd, 1, 0), (60, .iload 3, 1, 0), (61, .iload 4, 2, 0), (63, .invokevirtual 24, 3, 28), (66, .iload 3, 1, 0), (67, .iload 2, 1, 0), (68, .ishr, 1, 0), (69, .sipush 1, 1, 0), (70, .iand, 1, 0), (71, .ifCond .ne 75, 3, 0), (74, .return_, 1, 0), (75, .iload 2, 1, 0), (76, .sipush 1, 1, 0), (77, .iadd, 1, 0), (78, .istore 5, 2, 0), (80, .iload 5, 2, 0), (82, .aload 1, 1, 0), (83, .getfield 385, 3, 38), (86, .if_icmp .ge 209, 3, 0), (89, .iload 3, 1, 0), (90, .iload 5, 2, 0), (92, .ishr, 1, 0), (93, .sipush 1, 1, 0), (94, .iand, 1, 0), (95, .ifCond .eq 102, 3, 0), (98, .sipush 1, 1, 0), (99, .goto 103, 3, 0), (102, .sipush 0, 1, 0), (103, .istore 6, 2, 0), (105, .aload 1, 1, 0), (106, .getfield 392, 3, 49), (109, .iload 2, 1, 0), (110, .iaload, 1, 0), (111, .iload 5, 2, 0), (113, .ishr, 1, 0), (114, .sipush 1, 1, 0), (115, .iand, 1, 0), (116, .ifCond .eq 123, 3, 0), (119, .sipush 1, 1, 0), (120, .goto 124, 3, 0), (123, .sipush 0, 1, 0), (124, .istore 7, 2, 0), (126, .iload 6, 2, 0), (128, .ifCond .eq 203, 3, 0), (131, .iload 7, 2, 0), (133, .ifCond .ne 203, 3, 0), (136, .aload 1, 1, 0), (137, .getfield 386, 3, 52), (140, .iload 2, 1, 0), (141, .iaload, 1, 0), (142, .aload 1, 1, 0), (143, .getfield 386, 3, 52), (146, .iload 5, 2, 0), (148, .iaload, 1, 0), (149, .if_icmp .ne 203, 3, 0), (152, .aload 0, 1, 0), (153, .getfield 258, 3, 15), (156, .iload 2, 1, 0), (157, .iload 5, 2, 0), (159, .iastore, 1, 0), (160, .aload 0, 1, 0), (161, .getfield 258, 3, 15), (164, .iload 5, 2, 0), (166, .iload 2, 1, 0), (167, .iastore, 1, 0), (168, .aload 0, 1, 0), (169, .aload 1, 1, 0), (170, .iload 2, 1, 0), (171, .sipush 1, 1, 0), (172, .iadd, 1, 0), (173, .iload 3, 1, 0), (174, .sipush 1, 1, 0), (175, .iload 5, 2, 0), (177, .ishl, 1, 0), (178, .sipush (-1), 1, 0), (179, .ixor, 1, 0), (180, .iand, 1, 0), (181, .iload 4, 2, 0), (183, .sipush 1, 1, 0), (184, .iadd, 1, 0), (185, .invokevirtual 24, 3, 28), (188, .aload 0, 1, 0), (189, .getfield 258, 3, 15), (192, .iload 2, 1, 0), (193, .sipush (-1), 1, 0), (194, .iastore, 1, 0), (195, .aload 0, 1, 0), (196, .getfield 258, 3, 15), (199, .iload 5, 2, 0), (201, .sipush (-1), 1, 0), (202, .iastore, 1, 0), (203, .iinc 5 1, 3, 0), (206, .goto 80, 3, 0), (209, .return_, 1, 0)]
/-- SinglesPast$Seating.<init>()V -/
def tO_25 : List (Nat × av_O) := [(0, .aload 0, 1, 0), (1, .monitorenter, 3, 3), (4, .aload 0, 1, 0), (5, .sipush 6, 2, 0), (7, .newarray .int, 2, 0), (9, .putfield 320, 3, 9), (12, .aload 0, 1, 0), (13, .sipush 6, 2, 0), (15, .newarray .int, 2, 0), (17, .putfield 322, 3, 15), (20, .aload 0, 1, 0), (21, .sipush 5, 1, 0), (22, .newarray .int, 2, 0), (24, .putfield 323, 3, 18), (27, .return_, 1, 0)]
/-- SinglesPast$Seating.seatMost(LSinglesPast$State;I)I -/
def tO_26 : List (Nat × av_O) := [(0, .aload 0, 1, 0), (1, .sipush (-1), 1, 0), (2, .putfield 321, 3, 21), (5, .aload 0, 1, 0), (6, .aload 1, 1, 0), (7, .sipush 0, 1, 0), (8, .iload 2, 1, 0), (9, .sipush 0, 1, 0), (10, .invokevirtual 28, 3, 25), (13, .aload 0, 1, 0), (14, .getfield 321, 3, 21), (17, .ireturn, 1, 0)]
/-- SinglesPast$Seating.canSeatAll(LSinglesPast$State;I)Z -/
def tO_27 : List (Nat × av_O) := [(0, .iload 2, 1, 0), (1, .invokestatic 357, 3, 29), (4, .istore 3, 1, 0), (5, .aload 0, 1, 0), (6, .iload 3, 1, 0), (7, .sipush 1, 1, 0), (8, .isub, 1, 0), (9, .putfield 321, 3, 21), (12, .aload 0, 1, 0), (13, .aload 1, 1, 0), (14, .sipush 0, 1, 0), (15, .iload 2, 1, 0), (16, .sipush 0, 1, 0), (17, .invokevirtual 28, 3, 25), (20, .aload 0, 1, 0), (21, .getfield 321, 3, 21), (24, .iload 3, 1, 0), (25, .if_icmp .ne 32, 3, 0), (28, .sipush 1, 1, 0), (29, .goto 33, 3, 0), (32, .sipush 0, 1, 0), (33, .ireturn, 1, 0)]
/-- SinglesPast$Seating.seatFrom(LSinglesPast$State;III)V -/
def tO_28 : List (Nat × av_O) := [(0, .iload 4, 2, 0), (2, .iload 3, 1, 0), (3, .iload 2, 1, 0), (4, .ishr, 1, 0), (5, .invokestatic 357, 3, 29), (8, .iadd, 1, 0), (9, .aload 0, 1, 0), (10, .getfield 321, 3, 21), (13, .if_icmp .gt 17, 3, 0), (16, .return_, 1, 0), (17, .iload 2, 1, 0), (18, .aload 1, 1, 0), (19, .getfield 385, 3, 35), (22, .if_icmp .ge 31, 3, 0), (25, .iload 2, 1, 0), (26, .sipush 6, 2, 0), (28, .if_icmp .lt 53, 3, 0), (31, .aload 0, 1, 0), (32, .iload 4, 2, 0), (34, .putfield 321, 3, 21), (37, .aload 0, 1, 0), (38, .getfield 322, 3, 15), (41, .sipush 0, 1, 0), (42, .aload 0, 1, 0), (43, .getfield 320, 3, 9), (46, .sipush 0, 1, 0), (47, .sipush 6, 2, 0), (49, .invokedynamic 0, 3, 40), (52, .return_, 1, 0), (53, .iload 3, 1, 0), (54, .iload 2, 1, 0), (55, .ishr, 1, 0), (56, .sipush 1, 1, 0), (57, .iand, 1, 0), (58, .ifCond .eq 139, 3, 0), (61, .sipush 0, 1, 0), (62, .istore 5, 2, 0), (64, .iload 5, 2, 0), (66, .aload 1, 1, 0), (67, .getfield 394, 3, 46), (70, .if_icmp .ge 139, 3, 0), (73, .aload 0, 1, 0), (74, .aload 1, 1, 0), (75, .iload 2, 1, 0), (76, .iload 5, 2, 0), (78, .invokevirtual 29, 3, 49), (81, .ifCond .eq 133, 3, 0), (84, .aload 0, 1, 0), (85, .getfield 322, 3, 15), (88, .iload 2, 1, 0), (89, .iload 5, 2, 0), (91, .iastore, 1, 0), (92, .aload 0, 1, 0), (93, .getfield 323, 3, 18), (96, .iload 5, 2, 0), (98, .dup2, 1, 0), (99, .iaload, 1, 0), (100, .sipush 1, 1, 0), (101, .iload 2, 1, 0), (102, .ishl, 1, 0), (103, .ior, 1, 0), (104, .iastore, 1, 0), (105, .aload 0, 1, 0), (106, .aload 1, 1, 0), (107, .iload 2, 1, 0), (108, .sipush 1, 1, 0), (109, .iadd, 1, 0), (110, .iload 3, 1, 0), (111, .iload 4, 2, 0), (113, .sipush 1, 1, 0), (114, .iadd, 1, 0), (115, .invokevirtual 28, 3, 25), (118, .aload 0, 1, 0), (119, .getfield 323, 3, 18), (122, .iload 5, 2, 0), (124, .dup2, 1, 0), (125, .iaload, 1, 0), (126, .sipush 1, 1, 0), (127, .iload 2, 1, 0), (128, .ishl, 1, 0), (129, .sipush (-1), 1, 0), (130, .ixor, 1, 0), (131, .iand, 1, 0), (132, .iastore, 1, 0), (133, .iinc 5 1, 3, 0), (136, .goto 64, 3, 0), (139, .aload 0, 1, 0), (140, .getfield 322, 3, 15), (143, .iload 2, 1, 0), (144, .sipush (-1), 1, 0), (145, .iastore, 1, 0), (146, .aload 0, 1, 0), (147, .aload 1, 1, 0), (148, .iload 2, 1, 0), (149, .sipush 1, 1, 0), (150, .iadd, 1, 0), (151, .iload 3, 1, 0), (152, .iload 4, 2, 0), (154, .invokevirtual 28, 3, 25), (157, .return_, 1, 0)]
/-- SinglesPast$Seating.hasRoom(LSinglesPast$State;II)Z -/
def tO_29 : List (Nat × av_O) := [(0, .aload 0, 1, 0), (1, .getfield 323, 3, 18), (4, .iload 3, 1, 0), (5, .iaload, 1, 0), (6, .istore 4, 2, 0), (8, .aload 1, 1, 0), (9, .iload 2, 1, 0), (10, .iload 3, 1, 0), (11, .invokevirtual 42, 3, 53), (14, .ifCond .eq 47, 3, 0), (17, .iload 4, 2, 0), (19, .aload 1, 1, 0), (20, .getfield 392, 3, 57), (23, .iload 2, 1, 0), (24, .iaload, 1, 0), (25, .iand, 1, 0), (26, .ifCond .ne 47, 3, 0), (29, .iload 4, 2, 0), (31, .invokestatic 357, 3, 29), (34, .aload 1, 1, 0), (35, .getfield 396, 3, 60), (38, .iload 3, 1, 0), (39, .iaload, 1, 0), (40, .if_icmp .ge 47, 3, 0), (43, .sipush 1, 1, 0), (44, .goto 48, 3, 0), (47, .sipush 0, 1, 0), (48, .ireturn, 1, 0)]
/-- SinglesPast$State.<init>()V -/
def tO_30 : List (Nat × av_O) := [(0, .aload 0, 1, 0), (1, .monitorenter, 3, 3), (4, .aload 0, 1, 0), (5, .new 8, 3, 9), (8, .dup, 1, 0), (9, .invokespecial 75, 3, 11), (12, .putfield 384, 3, 12), (15, .aload 0, 1, 0), (16, .sipush 6, 2, 0), (18, .newarray .int, 2, 0), (20, .putfield 386, 3, 18), (23, .aload 0, 1, 0), (24, .sipush 6, 2, 0), (26, .newarray .int, 2, 0), (28, .putfield 387, 3, 22), (31, .aload 0, 1, 0), (32, .sipush 6, 2, 0), (34, .newarray .int, 2, 0), (36, .putfield 389, 3, 25), (39, .aload 0, 1, 0), (40, .sipush 6, 2, 0), (42, .newarray .int, 2, 0), (44, .putfield 390, 3, 28), (47, .aload 0, 1, 0), (48, .sipush 6, 2, 0), (50, .newarray .int, 2, 0), (52, .putfield 391, 3, 31), (55, .aload 0, 1, 0), (56, .sipush 6, 2, 0), (58, .newarray .int, 2, 0), (60, .putfield 392, 3, 34), (63, .aload 0, 1, 0), (64, .sipush 6, 2, 0), (66, .newarray .int, 2, 0), (68, .putfield 393, 3, 37), (71, .aload 0, 1, 0), (72, .sipush 5, 1, 0), (73, .newarray .int, 2, 0), (75, .putfield 395, 3, 40), (78, .aload 0, 1, 0), (79, .sipush 5, 1, 0), (80, .newarray .int, 2, 0), (82, .putfield 396, 3, 43), (85, .aload 0, 1, 0), (86, .sipush 1, 1, 0), (87, .putfield 400, 3, 46), (90, .aload 0, 1, 0), (91, .new 2, 3, 50), (94, .dup, 1, 0), (95, .invokespecial 12, 3, 52), (98, .putfield 401, 3, 53), (101, .return_, 1, 0)]
/-- SinglesPast$State.copyFrom(LSinglesPast$State;)V -/
def tO_31 : List (Nat × av_O) := [(0, .aload 0, 1, 0), (1, .getfield 384, 3, 12), (4, .aload 1, 1, 0), (5, .getfield 384, 3, 12), (8, .invokevirtual 76, 3, 57), (11, .aload 0, 1, 0), (12, .aload 1, 1, 0), (13, .getfield 385, 3, 61), (16, .putfield 385, 3, 61), (19, .aload 1, 1, 0), (20, .getfield 386, 3, 18), (23, .sipush 0, 1, 0), (24, .aload 0, 1, 0), (25, .getfield 386, 3, 18), (28, .sipush 0, 1, 0), (29, .sipush 6, 2, 0), (31, .invokedynamic 0, 3, 64), (34, .aload 1, 1, 0), (35, .getfield 387, 3, 22), (38, .sipush 0, 1, 0), (39, .aload 0, 1, 0), (40, .getfield 387, 3, 22), (43, .sipush 0, 1, 0), (44, .sipush 6, 2, 0), (46, .invokedynamic 0, 3, 64), (49, .aload 0, 1, 0), (50, .aload 1, 1, 0), (51, .getfield 388, 3, 70), (54, .putfield 388, 3, 70), (57, .aload 1, 1, 0), (58, .getfield 389, 3, 25), (61, .sipush 0, 1, 0), (62, .aload 0, 1, 0), (63, .getfield 389, 3, 25), (66, .sipush 0, 1, 0), (67, .sipush 6, 2, 0), (69, .invokedynamic 0, 3, 64), (72, .aload 1, 1, 0), (73, .getfield 390, 3, 28), (76, .sipush 0, 1, 0), (77, .aload 0, 1, 0), (78, .getfield 390, 3, 28), (81, .sipush 0, 1, 0), (82, .sipush 6, 2, 0), (84, .invokedynamic 0, 3, 64), (87, .aload 1, 1, 0), (88, .getfield 391, 3, 31), (91, .sipush 0, 1, 0), (92, .aload 0, 1, 0), (93, .getfield 391, 3, 31), (96, .sipush 0, 1, 0), (97, .sipush 6, 2, 0), (99, .invokedynamic 0, 3, 64), (102, .aload 1, 1, 0), (103, .getfield 392, 3, 34), (106, .sipush 0, 1, 0), (107, .aload 0, 1, 0), (108, .getfield 392, 3, 34), (111, .sipush 0, 1, 0), (112, .sipush 6, 2, 0), (114, .invokedynamic 0, 3, 64), (117, .aload 1, 1, 0), (118, .getfield 393, 3, 37), (121, .sipush 0, 1, 0), (122, .aload 0, 1, 0), (123, .getfield 393, 3, 37), (126, .sipush 0, 1, 0), (127, .sipush 6, 2, 0), (129, .invokedynamic 0, 3, 64), (132, .aload 0, 1, 0), (133, .aload 1, 1, 0), (134, .getfield 394, 3, 73), (137, .putfield 394, 3, 73), (140, .aload 1, 1, 0), (141, .getfield 395, 3, 40), (144, .sipush 0, 1, 0), (145, .aload 0, 1, 0), (146, .getfield 395, 3, 40), (149, .sipush 0, 1, 0), (150, .sipush 5, 1, 0), (151, .invokedynamic 0, 3, 64), (154, .aload 1, 1, 0), (155, .getfield 396, 3, 43), (158, .sipush 0, 1, 0), (159, .aload 0, 1, 0), (160, .getfield 396, 3, 43), (163, .sipush 0, 1, 0), (164, .sipush 5, 1, 0), (165, .invokedynamic 0, 3, 64), (168, .aload 0, 1, 0), (169, .aload 1, 1, 0), (170, .getfield 397, 3, 76), (173, .putfield 397, 3, 76), (176, .aload 0, 1, 0), (177, .aload 1, 1, 0), (178, .getfield 398, 3, 79), (181, .putfield 398, 3, 79), (184, .aload 0, 1, 0), (185, .aload 1, 1, 0), (186, .getfield 399, 3, 83), (189, .putfield 399, 3, 83), (192, .aload 0, 1, 0), (193, .aload 1, 1, 0), (194, .getfield 400, 3, 46), (197, .putfield 400, 3, 46), (200, .aload 0, 1, 0), (201, .getfield 401, 3, 53), (204, .aload 1, 1, 0), (205, .getfield 401, 3, 53), (208, .invokevirtual 13, 3, 86), (211, .return_, 1, 0)]
/-- SinglesPast$State.addGoer(II)I -/
def tO_32 : List (Nat × av_O) := [(0, .aload 0, 1, 0), (1, .getfield 385, 3, 61), (4, .sipush 6, 2, 0), (6, .if_icmp .lt 11, 3, 0), (9, .sipush 5, 1, 0), (10, .ireturn, 1, 0), (11, .aload 0, 1, 0), (12, .getfield 385, 3, 61), (15, .istore 3, 1, 0), (16, .aload 0, 1, 0), (17, .dup, 1, 0), (18, .getfield 385, 3, 61), (21, .sipush 1, 1, 0), (22, .iadd, 1, 0), (23, .putfield 385, 3, 61), (26, .aload 0, 1, 0), (27, .getfield 386, 3, 18), (30, .iload 3, 1, 0), (31, .iload 1, 1, 0), (32, .iastore, 1, 0), (33, .aload 0, 1, 0), (34, .getfield 390, 3, 28), (37, .iload 3, 1, 0), (38, .iload 2, 1, 0), (39, .iastore, 1, 0), (40, .aload 0, 1, 0), (41, .getfield 391, 3, 31), (44, .iload 3, 1, 0), (45, .sipush 50, 2, 0), (47, .iastore, 1, 0), (48, .aload 0, 1, 0), (49, .getfield 389, 3, 25), (52, .iload 3, 1, 0), (53, .sipush (-1), 1, 0), (54, .iastore, 1, 0), (55, .aload 0, 1, 0), (56, .getfield 392, 3, 34), (59, .iload 3, 1, 0), (60, .sipush 0, 1, 0), (61, .iastore, 1, 0), (62, .aload 0, 1, 0), (63, .getfield 393, 3, 37), (66, .iload 3, 1, 0), (67, .sipush (-1), 1, 0), (68, .iastore, 1, 0), (69, .aload 0, 1, 0), (70, .iload 3, 1, 0), (71, .sipush (-1), 1, 0), (72, .sipush 0, 1, 0), (73, .invokevirtual 34, 3, 89), (76, .iload 3, 1, 0), (77, .ireturn, 1, 0)]
/-- SinglesPast$State.addTrain(II)V -/
def tO_33 : List (Nat × av_O) := [(0, .aload 0, 1, 0), (1, .getfield 394, 3, 73), (4, .sipush 5, 1, 0), (5, .if_icmp .ge 38, 3, 0), (8, .aload 0, 1, 0), (9, .getfield 396, 3, 43), (12, .aload 0, 1, 0), (13, .getfield 394, 3, 73), (16, .iload 1, 1, 0), (17, .iastore, 1, 0), (18, .aload 0, 1, 0), (19, .getfield 395, 3, 40), (22, .aload 0, 1, 0), (23, .getfield 394, 3, 73), (26, .iload 2, 1, 0), (27, .iastore, 1, 0), (28, .aload 0, 1, 0), (29, .dup, 1, 0), (30, .getfield 394, 3, 73), (33, .sipush 1, 1, 0), (34, .iadd, 1, 0), (35, .putfield 394, 3, 73), (38, .return_, 1, 0)]
/-- SinglesPast$State.tellDeed(IIZ)V -/
def tO_34 : List (Nat × av_O) := [(0, .sipush 1, 1, 0), (1, .iload 1, 1, 0), (2, .ishl, 1, 0), (3, .istore 4, 2, 0), (5, .aload 0, 1, 0), (6, .getfield 387, 3, 22), (9, .iload 1, 1, 0), (10, .iload 2, 1, 0), (11, .iastore, 1, 0), (12, .aload 0, 1, 0), (13, .iload 2, 1, 0), (14, .sipush (-1), 1, 0), (15, .if_icmp .eq 32, 3, 0), (18, .iload 3, 1, 0), (19, .ifCond .eq 32, 3, 0), (22, .aload 0, 1, 0), (23, .getfield 388, 3, 70), (26, .iload 4, 2, 0), (28, .ior, 1, 0), (29, .goto 41, 3, 0), (32, .aload 0, 1, 0), (33, .getfield 388, 3, 70), (36, .iload 4, 2, 0), (38, .sipush (-1), 1, 0), (39, .ixor, 1, 0), (40, .iand, 1, 0), (41, .putfield 388, 3, 70), (44, .return_, 1, 0)]
/-- SinglesPast$State.tellShunning(IIZ)V -/
def tO_35 : List (Nat × av_O) := [(0, .aload 0, 1, 0), (1, .getfield 392, 3, 34), (4, .iload 1, 1, 0), (5, .iload 3, 1, 0), (6, .ifCond .eq 22, 3, 0), (9, .aload 0, 1, 0), (10, .getfield 392, 3, 34), (13, .iload 1, 1, 0), (14, .iaload, 1, 0), (15, .sipush 1, 1, 0), (16, .iload 2, 1, 0), (17, .ishl, 1, 0), (18, .ior, 1, 0), (19, .goto 34, 3, 0), (22, .aload 0, 1, 0), (23, .getfield 392, 3, 34), (26, .iload 1, 1, 0), (27, .iaload, 1, 0), (28, .sipush 1, 1, 0), (29, .iload 2, 1, 0), (30, .ishl, 1, 0), (31, .sipush (-1), 1, 0), (32, .ixor, 1, 0), (33, .iand, 1, 0), (34, .iastore, 1, 0), (35, .aload 0, 1, 0), (36, .getfield 392, 3, 34), (39, .iload 2, 1, 0), (40, .iload 3, 1, 0), (41, .ifCond .eq 57, 3, 0), (44, .aload 0, 1, 0), (45, .getfield 392, 3, 34), (48, .iload 2, 1, 0), (49, .iaload, 1, 0), (50, .sipush 1, 1, 0), (51, .iload 1, 1, 0), (52, .ishl, 1, 0), (53, .ior, 1, 0), (54, .goto 69, 3, 0), (57, .aload 0, 1, 0), (58, .getfield 392, 3, 34), (61, .iload 2, 1, 0), (62, .iaload, 1, 0), (63, .sipush 1, 1, 0), (64, .iload 1, 1, 0), (65, .ishl, 1, 0), (66, .sipush (-1), 1, 0), (67, .ixor, 1, 0), (68, .iand, 1, 0), (69, .iastore, 1, 0), (70, .return_, 1, 0)]
/-- SinglesPast$State.everyone()I -/
def tO_36 : List (Nat × av_O) := [(0, .sipush 1, 1, 0), (1, .aload 0, 1, 0), (2, .getfield 385, 3, 61), (5, .ishl, 1, 0), (6, .sipush 1, 1, 0), (7, .isub, 1, 0), (8, .ireturn, 1, 0)]
/-- SinglesPast$State.goneSet()I -/
def tO_37 : List (Nat × av_O) := [(0, .sipush 0, 1, 0), (1, .istore 1, 1, 0), (2, .sipush 0, 1, 0), (3, .istore 2, 1, 0), (4, .iload 2, 1, 0), (5, .aload 0, 1, 0), (6, .getfield 385, 3, 61), (9, .if_icmp .ge 34, 3, 0), (12, .aload 0, 1, 0), (13, .getfield 393, 3, 37), (16, .iload 2, 1, 0), (17, .iaload, 1, 0), (18, .sipush (-1), 1, 0), (19, .if_icmp .eq 28, 3, 0), (22, .iload 1, 1, 0), (23, .sipush 1, 1, 0), (24, .iload 2, 1, 0), (25, .ishl, 1, 0), (26, .ior, 1, 0), (27, .istore 1, 1, 0), (28, .iinc 2 1, 3, 0), (31, .goto 4, 3, 0), (34, .iload 1, 1, 0), (35, .ireturn, 1, 0)]
/-- SinglesPast$State.stayingSet()I -/
def tO_38 : List (Nat × av_O) := [(0, .aload 0, 1, 0), (1, .invokevirtual 36, 3, 93), (4, .aload 0, 1, 0), (5, .invokevirtual 37, 3, 97), (8, .sipush (-1), 1, 0), (9, .ixor, 1, 0), (10, .iand, 1, 0), (11, .ireturn, 1, 0)]
/-- SinglesPast$State.ridersOf(I)I -/
def tO_39 : List (Nat × av_O) := [(0, .sipush 0, 1, 0), (1, .istore 2, 1, 0), (2, .sipush 0, 1, 0), (3, .istore 3, 1, 0), (4, .iload 3, 1, 0), (5, .aload 0, 1, 0), (6, .getfield 385, 3, 61), (9, .if_icmp .ge 34, 3, 0), (12, .aload 0, 1, 0), (13, .getfield 393, 3, 37), (16, .iload 3, 1, 0), (17, .iaload, 1, 0), (18, .iload 1, 1, 0), (19, .if_icmp .ne 28, 3, 0), (22, .iload 2, 1, 0), (23, .sipush 1, 1, 0), (24, .iload 3, 1, 0), (25, .ishl, 1, 0), (26, .ior, 1, 0), (27, .istore 2, 1, 0), (28, .iinc 3 1, 3, 0), (31, .goto 4, 3, 0), (34, .iload 2, 1, 0), (35, .ireturn, 1, 0)]
/-- SinglesPast$State.everyHalt()I -/
def tO_40 : List (Nat × av_O) := [(0, .sipush 0, 1, 0), (1, .istore 1, 1, 0), (2, .sipush 0, 1, 0), (3, .istore 2, 1, 0), (4, .iload 2, 1, 0), (5, .aload 0, 1, 0), (6, .getfield 394, 3, 73), (9, .if_icmp .ge 27, 3, 0), (12, .iload 1, 1, 0), (13, .aload 0, 1, 0), (14, .getfield 395, 3, 40), (17, .iload 2, 1, 0), (18, .iaload, 1, 0), (19, .ior, 1, 0), (20, .istore 1, 1, 0), (21, .iinc 2 1, 3, 0), (24, .goto 4, 3, 0), (27, .iload 1, 1, 0), (28, .ireturn, 1, 0)]
/-- SinglesPast$State.allMoney()I -/
def tO_41 : List (Nat × av_O) := [(0, .sipush 0, 1, 0), (1, .istore 1, 1, 0), (2, .sipush 0, 1, 0), (3, .istore 2, 1, 0), (4, .iload 2, 1, 0), (5, .aload 0, 1, 0), (6, .getfield 385, 3, 61), (9, .if_icmp .ge 27, 3, 0), (12, .iload 1, 1, 0), (13, .aload 0, 1, 0), (14, .getfield 390, 3, 28), (17, .iload 2, 1, 0), (18, .iaload, 1, 0), (19, .iadd, 1, 0), (20, .istore 1, 1, 0), (21, .iinc 2 1, 3, 0), (24, .goto 4, 3, 0), (27, .iload 1, 1, 0), (28, .ireturn, 1, 0)]
/-- SinglesPast$State.stopsForHim(II)Z -/
def tO_42 : List (Nat × av_O) := [(0, .aload 0, 1, 0), (1, .getfield 395, 3, 40), (4, .iload 2, 1, 0), (5, .iaload, 1, 0), (6, .aload 0, 1, 0), (7, .getfield 386, 3, 18), (10, .iload 1, 1, 0), (11, .iaload, 1, 0), (12, .ishr, 1, 0), (13, .sipush 1, 1, 0), (14, .iand, 1, 0), (15, .ifCond .eq 22, 3, 0), (18, .sipush 1, 1, 0), (19, .goto 23, 3, 0), (22, .sipush 0, 1, 0), (23, .ireturn, 1, 0)]
/-- SinglesPast$State.aliveIn(I)I -/
def tO_43 : List (Nat × av_O) := [(0, .sipush 0, 1, 0), (1, .istore 2, 1, 0), (2, .sipush 0, 1, 0), (3, .istore 3, 1, 0), (4, .iload 3, 1, 0), (5, .aload 0, 1, 0), (6, .getfield 385, 3, 61), (9, .if_icmp .ge 47, 3, 0), (12, .aload 0, 1, 0), (13, .getfield 389, 3, 25), (16, .iload 3, 1, 0), (17, .iaload, 1, 0), (18, .sipush (-1), 1, 0), (19, .if_icmp .eq 35, 3, 0), (22, .iload 1, 1, 0), (23, .aload 0, 1, 0), (24, .getfield 389, 3, 25), (27, .iload 3, 1, 0), (28, .iaload, 1, 0), (29, .ishr, 1, 0), (30, .sipush 1, 1, 0), (31, .iand, 1, 0), (32, .ifCond .eq 41, 3, 0), (35, .iload 2, 1, 0), (36, .sipush 1, 1, 0), (37, .iload 3, 1, 0), (38, .ishl, 1, 0), (39, .ior, 1, 0), (40, .istore 2, 1, 0), (41, .iinc 3 1, 3, 0), (44, .goto 4, 3, 0), (47, .iload 2, 1, 0), (48, .ireturn, 1, 0)]
/-- SinglesPast$State.costOf(II)I -/
def tO_44 : List (Nat × av_O) := [(0, .aload 0, 1, 0), (1, .getfield 398, 3, 79), (4, .ifnonnull 10, 3, 0), (7, .sipush 10, 2, 0), (9, .ireturn, 1, 0), (10, .aload 0, 1, 0), (11, .getfield 398, 3, 79), (14, .aload 0, 1, 0), (15, .iload 1, 1, 0), (16, .iload 2, 1, 0), (17, .invokevirtual 1, 3, 100), (20, .sipush 10, 2, 0), (22, .aload 0, 1, 0), (23, .getfield 398, 3, 79), (26, .sipush 0, 1, 0), (27, .invokevirtual 2, 3, 106), (30, .iadd, 1, 0), (31, .ireturn, 1, 0)]
/-- SinglesPast$State.fearOf(II)I -/
def tO_45 : List (Nat × av_O) := [(0, .aload 0, 1, 0), (1, .getfield 398, 3, 79), (4, .ifnonnull 9, 3, 0), (7, .sipush 0, 1, 0), (8, .ireturn, 1, 0), (9, .aload 0, 1, 0), (10, .getfield 398, 3, 79), (13, .aload 0, 1, 0), (14, .iload 1, 1, 0), (15, .iload 2, 1, 0), (16, .invokevirtual 1, 3, 100), (19, .aload 0, 1, 0), (20, .getfield 398, 3, 79), (23, .sipush 1, 1, 0), (24, .invokevirtual 2, 3, 106), (27, .ireturn, 1, 0)]
/-- SinglesPast$State.canGo(II)Z -/
def tO_46 : List (Nat × av_O) := [(0, .aload 0, 1, 0), (1, .getfield 393, 3, 37), (4, .iload 1, 1, 0), (5, .iaload, 1, 0), (6, .sipush (-1), 1, 0), (7, .if_icmp .ne 19, 3, 0), (10, .aload 0, 1, 0), (11, .iload 1, 1, 0), (12, .iload 2, 1, 0), (13, .invokevirtual 42, 3, 110), (16, .ifCond .ne 21, 3, 0), (19, .sipush 0, 1, 0), (20, .ireturn, 1, 0), (21, .aload 0, 1, 0), (22, .iload 2, 1, 0), (23, .invokevirtual 39, 3, 114), (26, .istore 3, 1, 0), (27, .iload 3, 1, 0), (28, .invokestatic 357, 3, 117), (31, .aload 0, 1, 0), (32, .getfield 396, 3, 43), (35, .iload 2, 1, 0), (36, .iaload, 1, 0), (37, .if_icmp .ge 51, 3, 0), (40, .iload 3, 1, 0), (41, .aload 0, 1, 0), (42, .getfield 392, 3, 34), (45, .iload 1, 1, 0), (46, .iaload, 1, 0), (47, .iand, 1, 0), (48, .ifCond .eq 53, 3, 0), (51, .sipush 0, 1, 0), (52, .ireturn, 1, 0), (53, .aload 0, 1, 0), (54, .getfield 398, 3, 79), (57, .ifnonnull 77, 3, 0), (60, .sipush 10, 2, 0), (62, .aload 0, 1, 0), (63, .getfield 390, 3, 28), (66, .iload 1, 1, 0), (67, .iaload, 1, 0), (68, .if_icmp .gt 75, 3, 0), (71, .sipush 1, 1, 0), (72, .goto 76, 3, 0), (75, .sipush 0, 1, 0), (76, .ireturn, 1, 0), (77, .aload 0, 1, 0), (78, .getfield 398, 3, 79), (81, .aload 0, 1, 0), (82, .iload 1, 1, 0), (83, .iload 2, 1, 0), (84, .invokevirtual 1, 3, 100), (87, .aload 0, 1, 0), (88, .getfield 398, 3, 79), (91, .sipush 2, 1, 0), (92, .invokevirtual 2, 3, 106), (95, .ifCond .ne 122, 3, 0), (98, .sipush 10, 2, 0), (100, .aload 0, 1, 0), (101, .getfield 398, 3, 79), (104, .sipush 0, 1, 0), (105, .invokevirtual 2, 3, 106), (108, .iadd, 1, 0), (109, .aload 0, 1, 0), (110, .getfield 390, 3, 28), (113, .iload 1, 1, 0), (114, .iaload, 1, 0), (115, .if_icmp .gt 122, 3, 0), (118, .sipush 1, 1, 0), (119, .goto 123, 3, 0), (122, .sipush 0, 1, 0), (123, .ireturn, 1, 0)]
/-- SinglesPast$State.trainOf(I)I -/
def tO_47 : List (Nat × av_O) := [(0, .sipush 0, 1, 0), (1, .istore 2, 1, 0), (2, .iload 2, 1, 0), (3, .aload 0, 1, 0), (4, .getfield 394, 3, 73), (7, .if_icmp .ge 27, 3, 0), (10, .aload 0, 1, 0), (11, .iload 1, 1, 0), (12, .iload 2, 1, 0), (13, .invokevirtual 46, 3, 122), (16, .ifCond .eq 21, 3, 0), (19, .iload 2, 1, 0), (20, .ireturn, 1, 0), (21, .iinc 2 1, 3, 0), (24, .goto 2, 3, 0), (27, .sipush (-1), 1, 0), (28, .ireturn, 1, 0)]
/-- SinglesPast$State.board(II)I -/
def tO_48 : List (Nat × av_O) := [(0, .aload 0, 1, 0), (1, .iload 1, 1, 0), (2, .iload 2, 1, 0), (3, .invokevirtual 44, 3, 125), (6, .istore 3, 1, 0), (7, .aload 0, 1, 0), (8, .getfield 393, 3, 37), (11, .iload 1, 1, 0), (12, .iload 2, 1, 0), (13, .iastore, 1, 0), (14, .aload 0, 1, 0), (15, .getfield 390, 3, 28), (18, .iload 1, 1, 0), (19, .dup2, 1, 0), (20, .iaload, 1, 0), (21, .iload 3, 1, 0), (22, .isub, 1, 0), (23, .iastore, 1, 0), (24, .aload 0, 1, 0), (25, .getfield 401, 3, 53), (28, .aload 0, 1, 0), (29, .getfield 399, 3, 83), (32, .iload 1, 1, 0), (33, .iload 2, 1, 0), (34, .iload 3, 1, 0), (35, .invokevirtual 14, 3, 129), (38, .iload 3, 1, 0), (39, .ireturn, 1, 0)]
/-- SinglesPast$State.callBack(I)I -/
def tO_49 : List (Nat × av_O) := [(0, .aload 0, 1, 0), (1, .getfield 393, 3, 37), (4, .iload 1, 1, 0), (5, .iaload, 1, 0), (6, .istore 2, 1, 0), (7, .aload 0, 1, 0), (8, .getfield 393, 3, 37), (11, .iload 1, 1, 0), (12, .sipush (-1), 1, 0), (13, .iastore, 1, 0), (14, .aload 0, 1, 0), (15, .getfield 401, 3, 53), (18, .aload 0, 1, 0), (19, .getfield 399, 3, 83), (22, .iload 1, 1, 0), (23, .iload 2, 1, 0), (24, .sipush (-1), 1, 0), (25, .invokevirtual 14, 3, 129), (28, .iload 2, 1, 0), (29, .ireturn, 1, 0)]
/-- SinglesPast$State.passDays(IZ)I -/
def tO_50 : List (Nat × av_O) := [(0, .sipush 0, 1, 0), (1, .istore 3, 1, 0), (2, .sipush 0, 1, 0), (3, .istore 4, 2, 0), (5, .iload 4, 2, 0), (7, .iload 1, 1, 0), (8, .if_icmp .ge 101, 3, 0), (11, .sipush 0, 1, 0), (12, .istore 5, 2, 0), (14, .iload 5, 2, 0), (16, .aload 0, 1, 0), (17, .getfield 385, 3, 61), (20, .if_icmp .ge 79, 3, 0), (23, .aload 0, 1, 0), (24, .getfield 393, 3, 37), (27, .iload 5, 2, 0), (29, .iaload, 1, 0), (30, .sipush (-1), 1, 0), (31, .if_icmp .ne 73, 3, 0), (34, .iload 2, 1, 0), (35, .ifCond .eq 47, 3, 0), (38, .aload 0, 1, 0), (39, .iload 5, 2, 0), (41, .invokevirtual 51, 3, 133), (44, .goto 53, 3, 0), (47, .aload 0, 1, 0), (48, .iload 5, 2, 0), (50, .invokevirtual 47, 3, 136), (53, .istore 6, 2, 0), (55, .iload 6, 2, 0), (57, .sipush (-1), 1, 0), (58, .if_icmp .eq 73, 3, 0), (61, .aload 0, 1, 0), (62, .iload 5, 2, 0), (64, .iload 6, 2, 0), (66, .invokevirtual 48, 3, 139), (69, .pop, 1, 0), (70, .iinc 3 1, 3, 0), (73, .iinc 5 1, 3, 0), (76, .goto 14, 3, 0), (79, .aload 0, 1, 0), (80, .sipush 9999, 3, 0), (83, .aload 0, 1, 0), (84, .getfield 399, 3, 83), (87, .sipush 1, 1, 0), (88, .iadd, 1, 0), (89, .invokestatic 359, 3, 142), (92, .putfield 399, 3, 83), (95, .iinc 4 1, 3, 0), (98, .goto 5, 3, 0), (101, .iload 3, 1, 0), (102, .ireturn, 1, 0)]
/-- SinglesPast$State.drawnTrainOf(I)I -/
def tO_51 : List (Nat × av_O) := [(0, .aload 0, 1, 0), (1, .invokevirtual 52, 3, 147), (4, .sipush 100, 2, 0), (6, .irem, 1, 0), (7, .istore 2, 1, 0), (8, .iload 2, 1, 0), (9, .aload 0, 1, 0), (10, .getfield 391, 3, 31), (13, .iload 1, 1, 0), (14, .iaload, 1, 0), (15, .if_icmp .lt 20, 3, 0), (18, .sipush (-1), 1, 0), (19, .ireturn, 1, 0), (20, .aload 0, 1, 0), (21, .iload 1, 1, 0), (22, .invokevirtual 47, 3, 136), (25, .istore 3, 1, 0), (26, .iload 3, 1, 0), (27, .sipush (-1), 1, 0), (28, .if_icmp .eq 52, 3, 0), (31, .iload 2, 1, 0), (32, .aload 0, 1, 0), (33, .getfield 391, 3, 31), (36, .iload 1, 1, 0), (37, .iaload, 1, 0), (38, .aload 0, 1, 0), (39, .iload 1, 1, 0), (40, .iload 3, 1, 0), (41, .invokevirtual 45, 3, 150), (44, .isub, 1, 0), (45, .if_icmp .ge 52, 3, 0), (48, .iload 3, 1, 0), (49, .goto 53, 3, 0), (52, .sipush (-1), 1, 0), (53, .ireturn, 1, 0)]
/-- SinglesPast$State.draw()I -/
def tO_52 : List (Nat × av_O) := [(0, .aload 0, 1, 0), (1, .sipush 1103515245, 2, 153), (3, .aload 0, 1, 0), (4, .getfield 400, 3, 46), (7, .imul, 1, 0), (8, .sipush 12345, 3, 0), (11, .iadd, 1, 0), (12, .putfield 400, 3, 46), (15, .aload 0, 1, 0), (16, .getfield 400, 3, 46), (19, .sipush 16, 2, 0), (21, .iushr, 1, 0), (22, .sipush 32767, 3, 0), (25, .iand, 1, 0), (26, .ireturn, 1, 0)]
/-- SinglesPast$StationText.read(LSinglesPast$Tape;LSinglesPast$State;)Z -/
def tO_53 : List (Nat × av_O) := [(0, .aload 0, 1, 0), (1, .invokevirtual 66, 3, 9), (4, .ifCond .eq 9, 3, 0), (7, .sipush 1, 1, 0), (8, .ireturn, 1, 0), (9, .sipush 0, 1, 0), (10, .istore 2, 1, 0), (11, .iload 2, 1, 0), (12, .sipush 14, 2, 0), (14, .if_icmp .ge 47, 3, 0), (17, .aload 0, 1, 0), (18, .aload 1, 1, 0), (19, .invokestatic 54, 3, 17), (22, .ifCond .ne 27, 3, 0), (25, .sipush 0, 1, 0), (26, .ireturn, 1, 0), (27, .aload 0, 1, 0), (28, .sipush 59, 2, 0), (30, .invokevirtual 69, 3, 21), (33, .ifCond .ne 41, 3, 0), (36, .aload 0, 1, 0), (37, .invokevirtual 66, 3, 9), (40, .ireturn, 1, 0), (41, .iinc 2 1, 3, 0), (44, .goto 11, 3, 0), (47, .sipush 0, 1, 0), (48, .ireturn, 1, 0)]
/-- SinglesPast$StationText.readLine(LSinglesPast$Tape;LSinglesPast$State;)Z -/
def tO_54 : List (Nat × av_O) := [(0, .aload 0, 1, 0), (1, .ldc 0, 2, 25), (3, .invokevirtual 71, 3, 27), (6, .tableswitch 151 0 6 #[48, 76, 86, 96, 118, 124, 145], 42, 0), (48, .aload 1, 1, 0), (49, .getfield 384, 3, 31), (52, .getfield 512, 3, 37), (55, .sipush 8, 2, 0), (57, .if_icmp .ge 71, 3, 0), (60, .aload 0, 1, 0), (61, .aload 1, 1, 0), (62, .getfield 384, 3, 31), (65, .invokestatic 55, 3, 43), (68, .goto 75, 3, 0), (71, .aload 0, 1, 0), (72, .invokevirtual 68, 3, 47), (75, .ireturn, 1, 0), (76, .aload 0, 1, 0), (77, .aload 1, 1, 0), (78, .getfield 384, 3, 31), (81, .sipush 1, 1, 0), (82, .invokestatic 56, 3, 50), (85, .ireturn, 1, 0), (86, .aload 0, 1, 0), (87, .aload 1, 1, 0), (88, .getfield 384, 3, 31), (91, .sipush 0, 1, 0), (92, .invokestatic 56, 3, 50), (95, .ireturn, 1, 0), (96, .aload 1, 1, 0), (97, .getfield 385, 3, 54), (100, .sipush 6, 2, 0), (102, .if_icmp .ge 113, 3, 0), (105, .aload 0, 1, 0), (106, .aload 1, 1, 0), (107, .invokestatic 57, 3, 57), (110, .goto 117, 3, 0), (113, .aload 0, 1, 0), (114, .invokevirtual 68, 3, 47), (117, .ireturn, 1, 0), (118, .aload 0, 1, 0), (119, .aload 1, 1, 0), (120, .invokestatic 60, 3, 60), (123, .ireturn, 1, 0), (124, .aload 1, 1, 0), (125, .getfield 394, 3, 63), (128, .sipush 5, 1, 0), (129, .if_icmp .ge 140, 3, 0), (132, .aload 0, 1, 0), (133, .aload 1, 1, 0), (134, .invokestatic 61, 3, 66), (137, .goto 144, 3, 0), (140, .aload 0, 1, 0), (141, .invokevirtual 68, 3, 47), (144, .ireturn, 1, 0), (145, .aload 0, 1, 0), (146, .aload 1, 1, 0), (147, .invokestatic 62, 3, 69), (150, .ireturn, 1, 0), (151, .sipush 0, 1, 0), (152, .ireturn, 1, 0)]
/-- SinglesPast$StationText.readThing(LSinglesPast$Tape;LSinglesPast$Things;)Z -/
def tO_55 : List (Nat × av_O) := [(0, .aload 0, 1, 0), (1, .ldc 1, 2, 72), (3, .invokevirtual 70, 3, 74), (6, .ifCond .eq 19, 3, 0), (9, .aload 0, 1, 0), (10, .sipush 0, 1, 0), (11, .sipush 15, 2, 0), (13, .invokevirtual 73, 3, 78), (16, .ifCond .ne 21, 3, 0), (19, .sipush 0, 1, 0), (20, .ireturn, 1, 0), (21, .aload 0, 1, 0), (22, .getfield 451, 3, 82), (25, .istore 2, 1, 0), (26, .aload 0, 1, 0), (27, .ldc 2, 2, 85), (29, .invokevirtual 70, 3, 74), (32, .istore 3, 1, 0), (33, .sipush 1, 1, 0), (34, .istore 4, 2, 0), (36, .aload 0, 1, 0), (37, .ldc 3, 2, 87), (39, .invokevirtual 70, 3, 74), (42, .ifCond .eq 63, 3, 0), (45, .aload 0, 1, 0), (46, .sipush 0, 1, 0), (47, .sipush 99, 2, 0), (49, .invokevirtual 73, 3, 78), (52, .ifCond .ne 57, 3, 0), (55, .sipush 0, 1, 0), (56, .ireturn, 1, 0), (57, .aload 0, 1, 0), (58, .getfield 451, 3, 82), (61, .istore 4, 2, 0), (63, .aload 1, 1, 0), (64, .iload 2, 1, 0), (65, .iload 3, 1, 0), (66, .iload 4, 2, 0), (68, .invokevirtual 77, 3, 89), (71, .sipush 1, 1, 0), (72, .ireturn, 1, 0)]
/-- SinglesPast$StationText.readTie(LSinglesPast$Tape;LSinglesPast$Things;Z)Z -/
def tO_56 : List (Nat × av_O) := [(0, .aload 0, 1, 0), (1, .sipush 0, 1, 0), (2, .aload 1, 1, 0), (3, .getfield 512, 3, 37), (6, .sipush 1, 1, 0), (7, .isub, 1, 0), (8, .invokevirtual 73, 3, 78), (11, .ifCond .ne 16, 3, 0), (14, .sipush 0, 1, 0), (15, .ireturn, 1, 0), (16, .aload 0, 1, 0), (17, .getfield 451, 3, 82), (20, .istore 3, 1, 0), (21, .aload 0, 1, 0), (22, .sipush 0, 1, 0), (23, .aload 1, 1, 0), (24, .getfield 512, 3, 37), (27, .sipush 1, 1, 0), (28, .isub, 1, 0), (29, .invokevirtual 73, 3, 78), (32, .ifCond .ne 37, 3, 0), (35, .sipush 0, 1, 0), (36, .ireturn, 1, 0), (37, .aload 0, 1, 0), (38, .getfield 451, 3, 82), (41, .istore 4, 2, 0), (43, .aload 1, 1, 0), (44, .getfield 514, 3, 93), (47, .iload 4, 2, 0), (49, .iaload, 1, 0), (50, .aload 1, 1, 0), (51, .getfield 514, 3, 93), (54, .iload 3, 1, 0), (55, .iaload, 1, 0), (56, .if_icmp .gt 64, 3, 0), (59, .aload 0, 1, 0), (60, .invokevirtual 68, 3, 47), (63, .ireturn, 1, 0), (64, .aload 1, 1, 0), (65, .iload 3, 1, 0), (66, .iload 4, 2, 0), (68, .iload 2, 1, 0), (69, .invokevirtual 78, 3, 96), (72, .sipush 1, 1, 0), (73, .ireturn, 1, 0)]
/-- SinglesPast$StationText.readGoer(LSinglesPast$Tape;LSinglesPast$State;)Z -/
def tO_57 : List (Nat × av_O) := [(0, .aload 0, 1, 0), (1, .ldc 4, 2, 100), (3, .invokevirtual 70, 3, 74), (6, .ifCond .eq 19, 3, 0), (9, .aload 0, 1, 0), (10, .sipush 0, 1, 0), (11, .sipush 15, 2, 0), (13, .invokevirtual 73, 3, 78), (16, .ifCond .ne 21, 3, 0), (19, .sipush 0, 1, 0), (20, .ireturn, 1, 0), (21, .aload 0, 1, 0), (22, .getfield 451, 3, 82), (25, .istore 2, 1, 0), (26, .aload 0, 1, 0), (27, .ldc 5, 2, 102), (29, .invokevirtual 70, 3, 74), (32, .ifCond .eq 46, 3, 0), (35, .aload 0, 1, 0), (36, .sipush 0, 1, 0), (37, .sipush 999, 3, 0), (40, .invokevirtual 73, 3, 78), (43, .ifCond .ne 48, 3, 0), (46, .sipush 0, 1, 0), (47, .ireturn, 1, 0), (48, .aload 1, 1, 0), (49, .iload 2, 1, 0), (50, .aload 0, 1, 0), (51, .getfield 451, 3, 82), (54, .invokevirtual 32, 3, 104), (57, .istore 3, 1, 0), (58, .aload 0, 1, 0), (59, .ldc 6, 2, 108), (61, .invokevirtual 70, 3, 74), (64, .ifCond .eq 89, 3, 0), (67, .aload 0, 1, 0), (68, .sipush 0, 1, 0), (69, .sipush 100, 2, 0), (71, .invokevirtual 73, 3, 78), (74, .ifCond .ne 79, 3, 0), (77, .sipush 0, 1, 0), (78, .ireturn, 1, 0), (79, .aload 1, 1, 0), (80, .getfield 391, 3, 110), (83, .iload 3, 1, 0), (84, .aload 0, 1, 0), (85, .getfield 451, 3, 82), (88, .iastore, 1, 0), (89, .aload 0, 1, 0), (90, .aload 1, 1, 0), (91, .iload 3, 1, 0), (92, .invokestatic 58, 3, 112), (95, .ifCond .eq 111, 3, 0), (98, .aload 0, 1, 0), (99, .aload 1, 1, 0), (100, .iload 3, 1, 0), (101, .invokestatic 59, 3, 116), (104, .ifCond .eq 111, 3, 0), (107, .sipush 1, 1, 0), (108, .goto 112, 3, 0), (111, .sipush 0, 1, 0), (112, .ireturn, 1, 0)]
/-- SinglesPast$StationText.readDeed(LSinglesPast$Tape;LSinglesPast$State;I)Z -/
def tO_58 : List (Nat × av_O) := [(0, .aload 0, 1, 0), (1, .ldc 7, 2, 119), (3, .invokevirtual 70, 3, 74), (6, .istore 3, 1, 0), (7, .iload 3, 1, 0), (8, .ifCond .ne 22, 3, 0), (11, .aload 0, 1, 0), (12, .ldc 8, 2, 121), (14, .invokevirtual 70, 3, 74), (17, .ifCond .ne 22, 3, 0), (20, .sipush 1, 1, 0), (21, .ireturn, 1, 0), (22, .aload 0, 1, 0), (23, .sipush 0, 1, 0), (24, .aload 1, 1, 0), (25, .getfield 384, 3, 31), (28, .getfield 512, 3, 37), (31, .sipush 1, 1, 0), (32, .isub, 1, 0), (33, .invokevirtual 73, 3, 78), (36, .ifCond .ne 41, 3, 0), (39, .sipush 0, 1, 0), (40, .ireturn, 1, 0), (41, .aload 1, 1, 0), (42, .iload 2, 1, 0), (43, .aload 0, 1, 0), (44, .getfield 451, 3, 82), (47, .iload 3, 1, 0), (48, .invokevirtual 34, 3, 123), (51, .sipush 1, 1, 0), (52, .ireturn, 1, 0)]
/-- SinglesPast$StationText.readBirth(LSinglesPast$Tape;LSinglesPast$State;I)Z -/
def tO_59 : List (Nat × av_O) := [(0, .aload 0, 1, 0), (1, .ldc 9, 2, 126), (3, .invokevirtual 70, 3, 74), (6, .ifCond .ne 11, 3, 0), (9, .sipush 1, 1, 0), (10, .ireturn, 1, 0), (11, .aload 0, 1, 0), (12, .sipush 0, 1, 0), (13, .aload 1, 1, 0), (14, .getfield 384, 3, 31), (17, .getfield 512, 3, 37), (20, .sipush 1, 1, 0), (21, .isub, 1, 0), (22, .invokevirtual 73, 3, 78), (25, .ifCond .ne 30, 3, 0), (28, .sipush 0, 1, 0), (29, .ireturn, 1, 0), (30, .aload 1, 1, 0), (31, .getfield 389, 3, 128), (34, .iload 2, 1, 0), (35, .aload 0, 1, 0), (36, .getfield 451, 3, 82), (39, .iastore, 1, 0), (40, .sipush 1, 1, 0), (41, .ireturn, 1, 0)]
/-- SinglesPast$StationText.readShunning(LSinglesPast$Tape;LSinglesPast$State;)Z -/
def tO_60 : List (Nat × av_O) := [(0, .aload 0, 1, 0), (1, .sipush 0, 1, 0), (2, .aload 1, 1, 0), (3, .getfield 385, 3, 54), (6, .sipush 1, 1, 0), (7, .isub, 1, 0), (8, .invokevirtual 73, 3, 78), (11, .ifCond .ne 16, 3, 0), (14, .sipush 0, 1, 0), (15, .ireturn, 1, 0), (16, .aload 0, 1, 0), (17, .getfield 451, 3, 82), (20, .istore 2, 1, 0), (21, .aload 0, 1, 0), (22, .sipush 0, 1, 0), (23, .aload 1, 1, 0), (24, .getfield 385, 3, 54), (27, .sipush 1, 1, 0), (28, .isub, 1, 0), (29, .invokevirtual 73, 3, 78), (32, .ifCond .ne 37, 3, 0), (35, .sipush 0, 1, 0), (36, .ireturn, 1, 0), (37, .aload 0, 1, 0), (38, .getfield 451, 3, 82), (41, .iload 2, 1, 0), (42, .if_icmp .ne 50, 3, 0), (45, .aload 0, 1, 0), (46, .invokevirtual 68, 3, 47), (49, .ireturn, 1, 0), (50, .aload 1, 1, 0), (51, .iload 2, 1, 0), (52, .aload 0, 1, 0), (53, .getfield 451, 3, 82), (56, .sipush 1, 1, 0), (57, .invokevirtual 35, 3, 130), (60, .sipush 1, 1, 0), (61, .ireturn, 1, 0)]
/-- SinglesPast$StationText.readTrain(LSinglesPast$Tape;LSinglesPast$State;)Z -/
def tO_61 : List (Nat × av_O) := [(0, .aload 0, 1, 0), (1, .ldc 10, 2, 133), (3, .invokevirtual 70, 3, 74), (6, .ifCond .eq 28, 3, 0), (9, .aload 0, 1, 0), (10, .sipush 1, 1, 0), (11, .sipush 6, 2, 0), (13, .invokevirtual 73, 3, 78), (16, .ifCond .eq 28, 3, 0), (19, .aload 0, 1, 0), (20, .ldc 11, 2, 135), (22, .invokevirtual 70, 3, 74), (25, .ifCond .ne 30, 3, 0), (28, .sipush 0, 1, 0), (29, .ireturn, 1, 0), (30, .aload 0, 1, 0), (31, .getfield 451, 3, 82), (34, .istore 2, 1, 0), (35, .aload 0, 1, 0), (36, .invokevirtual 74, 3, 137), (39, .istore 3, 1, 0), (40, .iload 3, 1, 0), (41, .ifCond .ne 46, 3, 0), (44, .sipush 0, 1, 0), (45, .ireturn, 1, 0), (46, .aload 1, 1, 0), (47, .iload 2, 1, 0), (48, .iload 3, 1, 0), (49, .invokevirtual 33, 3, 141), (52, .sipush 1, 1, 0), (53, .ireturn, 1, 0)]
/-- SinglesPast$StationText.readDay(LSinglesPast$Tape;LSinglesPast$State;)Z -/
def tO_62 : List (Nat × av_O) := [(0, .aload 0, 1, 0), (1, .sipush 0, 1, 0), (2, .sipush 999, 3, 0), (5, .invokevirtual 73, 3, 78), (8, .ifCond .ne 13, 3, 0), (11, .sipush 0, 1, 0), (12, .ireturn, 1, 0), (13, .aload 1, 1, 0), (14, .aload 0, 1, 0), (15, .getfield 451, 3, 82), (18, .putfield 399, 3, 145), (21, .sipush 1, 1, 0), (22, .ireturn, 1, 0)]
/-- SinglesPast$Tape.<init>()V -/
def tO_63 : List (Nat × av_O) := [(0, .aload 0, 1, 0), (1, .monitorenter, 3, 3), (4, .aload 0, 1, 0), (5, .sipush 400, 3, 0), (8, .newarray .int, 2, 0), (10, .putfield 448, 3, 9), (13, .return_, 1, 0)]
/-- SinglesPast$Tape.append(I)V -/
def tO_64 : List (Nat × av_O) := [(0, .sipush 24, 2, 0), (2, .istore 2, 1, 0), (3, .iload 2, 1, 0), (4, .ifCond .lt 49, 3, 0), (7, .aload 0, 1, 0), (8, .getfield 449, 3, 15), (11, .sipush 400, 3, 0), (14, .if_icmp .ge 49, 3, 0), (17, .aload 0, 1, 0), (18, .getfield 448, 3, 9), (21, .aload 0, 1, 0), (22, .getfield 449, 3, 15), (25, .iload 1, 1, 0), (26, .iload 2, 1, 0), (27, .iushr, 1, 0), (28, .sipush 255, 3, 0), (31, .iand, 1, 0), (32, .iastore, 1, 0), (33, .aload 0, 1, 0), (34, .dup, 1, 0), (35, .getfield 449, 3, 15), (38, .sipush 1, 1, 0), (39, .iadd, 1, 0), (40, .putfield 449, 3, 15), (43, .iinc 2 (-8), 3, 0), (46, .goto 3, 3, 0), (49, .return_, 1, 0)]
/-- SinglesPast$Tape.open()V -/
def tO_65 : List (Nat × av_O) := [(0, .aload 0, 1, 0), (1, .aload 0, 1, 0), (2, .getfield 449, 3, 15), (5, .sipush 400, 3, 0), (8, .invokestatic 359, 3, 19), (11, .putfield 452, 3, 25), (14, .aload 0, 1, 0), (15, .sipush 0, 1, 0), (16, .putfield 449, 3, 15), (19, .aload 0, 1, 0), (20, .sipush 0, 1, 0), (21, .invokevirtual 67, 3, 28), (24, .return_, 1, 0)]
/-- SinglesPast$Tape.isOver()Z -/
def tO_66 : List (Nat × av_O) := [(0, .aload 0, 1, 0), (1, .getfield 450, 3, 32), (4, .aload 0, 1, 0), (5, .getfield 452, 3, 25), (8, .if_icmp .lt 15, 3, 0), (11, .sipush 1, 1, 0), (12, .goto 16, 3, 0), (15, .sipush 0, 1, 0), (16, .ireturn, 1, 0)]
/-- SinglesPast$Tape.moveTo(I)V -/
def tO_67 : List (Nat × av_O) := [(0, .aload 0, 1, 0), (1, .aload 0, 1, 0), (2, .getfield 450, 3, 32), (5, .putfield 453, 3, 35), (8, .aload 0, 1, 0), (9, .iload 1, 1, 0), (10, .putfield 450, 3, 32), (13, .aload 0, 1, 0), (14, .getfield 450, 3, 32), (17, .aload 0, 1, 0), (18, .getfield 452, 3, 25), (21, .if_icmp .ge 51, 3, 0), (24, .aload 0, 1, 0), (25, .getfield 448, 3, 9), (28, .aload 0, 1, 0), (29, .getfield 450, 3, 32), (32, .iaload, 1, 0), (33, .sipush 32, 2, 0), (35, .if_icmp .ne 51, 3, 0), (38, .aload 0, 1, 0), (39, .dup, 1, 0), (40, .getfield 450, 3, 32), (43, .sipush 1, 1, 0), (44, .iadd, 1, 0), (45, .putfield 450, 3, 32), (48, .goto 13, 3, 0), (51, .return_, 1, 0)]
/-- SinglesPast$Tape.refuse()Z -/
def tO_68 : List (Nat × av_O) := [(0, .aload 0, 1, 0), (1, .aload 0, 1, 0), (2, .getfield 453, 3, 35), (5, .putfield 450, 3, 32), (8, .sipush 0, 1, 0), (9, .ireturn, 1, 0)]
/-- SinglesPast$Tape.takeSign(C)Z -/
def tO_69 : List (Nat × av_O) := [(0, .aload 0, 1, 0), (1, .getfield 450, 3, 32), (4, .aload 0, 1, 0), (5, .getfield 452, 3, 25), (8, .if_icmp .ge 24, 3, 0), (11, .aload 0, 1, 0), (12, .getfield 448, 3, 9), (15, .aload 0, 1, 0), (16, .getfield 450, 3, 32), (19, .iaload, 1, 0), (20, .iload 1, 1, 0), (21, .if_icmp .eq 26, 3, 0), (24, .sipush 0, 1, 0), (25, .ireturn, 1, 0), (26, .aload 0, 1, 0), (27, .aload 0, 1, 0), (28, .getfield 450, 3, 32), (31, .sipush 1, 1, 0), (32, .iadd, 1, 0), (33, .invokevirtual 67, 3, 28), (36, .sipush 1, 1, 0), (37, .ireturn, 1, 0)]
/-- SinglesPast$Tape.takeWord(Ljava/lang/String;)Z -/
def tO_70 : List (Nat × av_O) := [(0, .aload 0, 1, 0), (1, .aload 1, 1, 0), (2, .sipush 0, 1, 0), (3, .aload 1, 1, 0), (4, .invokedynamic 1, 3, 38), (7, .invokevirtual 72, 3, 43), (10, .ifCond .ne 15, 3, 0), (13, .sipush 0, 1, 0), (14, .ireturn, 1, 0), (15, .aload 0, 1, 0), (16, .aload 0, 1, 0), (17, .getfield 450, 3, 32), (20, .aload 1, 1, 0), (21, .invokedynamic 1, 3, 38), (24, .iadd, 1, 0), (25, .invokevirtual 67, 3, 28), (28, .sipush 1, 1, 0), (29, .ireturn, 1, 0)]
/-- SinglesPast$Tape.takeOneOf(Ljava/lang/String;)I -/
def tO_71 : List (Nat × av_O) := [(0, .sipush 0, 1, 0), (1, .istore 2, 1, 0), (2, .sipush 0, 1, 0), (3, .istore 3, 1, 0), (4, .sipush 0, 1, 0), (5, .istore 4, 2, 0), (7, .iload 4, 2, 0), (9, .aload 1, 1, 0), (10, .invokedynamic 1, 3, 38), (13, .if_icmp .gt 76, 3, 0), (16, .iload 4, 2, 0), (18, .aload 1, 1, 0), (19, .invokedynamic 1, 3, 38), (22, .if_icmp .eq 36, 3, 0), (25, .aload 1, 1, 0), (26, .iload 4, 2, 0), (28, .invokedynamic 2, 3, 47), (31, .sipush 32, 2, 0), (33, .if_icmp .ne 70, 3, 0), (36, .aload 0, 1, 0), (37, .aload 1, 1, 0), (38, .iload 3, 1, 0), (39, .iload 4, 2, 0), (41, .invokevirtual 72, 3, 43), (44, .ifCond .eq 62, 3, 0), (47, .aload 0, 1, 0), (48, .aload 0, 1, 0), (49, .getfield 450, 3, 32), (52, .iload 4, 2, 0), (54, .iadd, 1, 0), (55, .iload 3, 1, 0), (56, .isub, 1, 0), (57, .invokevirtual 67, 3, 28), (60, .iload 2, 1, 0), (61, .ireturn, 1, 0), (62, .iinc 2 1, 3, 0), (65, .iload 4, 2, 0), (67, .sipush 1, 1, 0), (68, .iadd, 1, 0), (69, .istore 3, 1, 0), (70, .iinc 4 1, 3, 0), (73, .goto 7, 3, 0), (76, .sipush (-1), 1, 0), (77, .ireturn, 1, 0)]
/-- SinglesPast$Tape.isNext(Ljava/lang/String;II)Z -/
def tO_72 : List (Nat × av_O) := [(0, .aload 0, 1, 0), (1, .getfield 450, 3, 32), (4, .iload 3, 1, 0), (5, .iadd, 1, 0), (6, .iload 2, 1, 0), (7, .isub, 1, 0), (8, .istore 4, 2, 0), (10, .iload 4, 2, 0), (12, .aload 0, 1, 0), (13, .getfield 452, 3, 25), (16, .if_icmp .le 21, 3, 0), (19, .sipush 0, 1, 0), (20, .ireturn, 1, 0), (21, .iload 2, 1, 0), (22, .istore 5, 2, 0), (24, .iload 5, 2, 0), (26, .iload 3, 1, 0), (27, .if_icmp .ge 61, 3, 0), (30, .aload 0, 1, 0), (31, .getfield 448, 3, 9), (34, .aload 0, 1, 0), (35, .getfield 450, 3, 32), (38, .iload 5, 2, 0), (40, .iadd, 1, 0), (41, .iload 2, 1, 0), (42, .isub, 1, 0), (43, .iaload, 1, 0), (44, .aload 1, 1, 0), (45, .iload 5, 2, 0), (47, .invokedynamic 2, 3, 47), (50, .if_icmp .eq 55, 3, 0), (53, .sipush 0, 1, 0), (54, .ireturn, 1, 0), (55, .iinc 5 1, 3, 0), (58, .goto 24, 3, 0), (61, .iload 4, 2, 0), (63, .aload 0, 1, 0), (64, .getfield 452, 3, 25), (67, .if_icmp .ge 98, 3, 0), (70, .aload 0, 1, 0), (71, .getfield 448, 3, 9), (74, .iload 4, 2, 0), (76, .iaload, 1, 0), (77, .sipush 97, 2, 0), (79, .if_icmp .lt 98, 3, 0), (82, .aload 0, 1, 0), (83, .getfield 448, 3, 9), (86, .iload 4, 2, 0), (88, .iaload, 1, 0), (89, .sipush 122, 2, 0), (91, .if_icmp .gt 98, 3, 0), (94, .sipush 1, 1, 0), (95, .goto 99, 3, 0), (98, .sipush 0, 1, 0), (99, .istore 5, 2, 0), (101, .iload 5, 2, 0), (103, .ifCond .ne 110, 3, 0), (106, .sipush 1, 1, 0), (107, .goto 111, 3, 0), (110, .sipush 0, 1, 0), (111, .ireturn, 1, 0)]
/-- SinglesPast$Tape.takeNumber(II)Z -/
def tO_73 : List (Nat × av_O) := [(0, .aload 0, 1, 0), (1, .getfield 450, 3, 32), (4, .istore 3, 1, 0), (5, .sipush 0, 1, 0), (6, .istore 4, 2, 0), (8, .iload 3, 1, 0), (9, .aload 0, 1, 0), (10, .getfield 452, 3, 25), (13, .if_icmp .ge 71, 3, 0), (16, .iload 3, 1, 0), (17, .aload 0, 1, 0), (18, .getfield 450, 3, 32), (21, .isub, 1, 0), (22, .sipush 3, 1, 0), (23, .if_icmp .gt 71, 3, 0), (26, .aload 0, 1, 0), (27, .getfield 448, 3, 9), (30, .iload 3, 1, 0), (31, .iaload, 1, 0), (32, .sipush 48, 2, 0), (34, .if_icmp .lt 71, 3, 0), (37, .aload 0, 1, 0), (38, .getfield 448, 3, 9), (41, .iload 3, 1, 0), (42, .iaload, 1, 0), (43, .sipush 57, 2, 0), (45, .if_icmp .gt 71, 3, 0), (48, .sipush 10, 2, 0), (50, .iload 4, 2, 0), (52, .imul, 1, 0), (53, .aload 0, 1, 0), (54, .getfield 448, 3, 9), (57, .iload 3, 1, 0), (58, .iaload, 1, 0), (59, .iadd, 1, 0), (60, .sipush 48, 2, 0), (62, .isub, 1, 0), (63, .istore 4, 2, 0), (65, .iinc 3 1, 3, 0), (68, .goto 8, 3, 0), (71, .iload 3, 1, 0), (72, .aload 0, 1, 0), (73, .getfield 450, 3, 32), (76, .isub, 1, 0), (77, .istore 5, 2, 0), (79, .iload 5, 2, 0), (81, .ifCond .eq 102, 3, 0), (84, .iload 5, 2, 0), (86, .sipush 3, 1, 0), (87, .if_icmp .gt 102, 3, 0), (90, .iload 4, 2, 0), (92, .iload 1, 1, 0), (93, .if_icmp .lt 102, 3, 0), (96, .iload 4, 2, 0), (98, .iload 2, 1, 0), (99, .if_icmp .le 104, 3, 0), (102, .sipush 0, 1, 0), (103, .ireturn, 1, 0), (104, .aload 0, 1, 0), (105, .iload 4, 2, 0), (107, .putfield 451, 3, 51), (110, .aload 0, 1, 0), (111, .iload 3, 1, 0), (112, .invokevirtual 67, 3, 28), (115, .sipush 1, 1, 0), (116, .ireturn, 1, 0)]
/-- SinglesPast$Tape.takeStopLetters()I -/
def tO_74 : List (Nat × av_O) := [(0, .sipush 0, 1, 0), (1, .istore 1, 1, 0), (2, .aload 0, 1, 0), (3, .getfield 450, 3, 32), (6, .istore 2, 1, 0), (7, .iload 2, 1, 0), (8, .aload 0, 1, 0), (9, .getfield 452, 3, 25), (12, .if_icmp .ge 75, 3, 0), (15, .aload 0, 1, 0), (16, .getfield 448, 3, 9), (19, .iload 2, 1, 0), (20, .iaload, 1, 0), (21, .sipush 97, 2, 0), (23, .if_icmp .lt 75, 3, 0), (26, .aload 0, 1, 0), (27, .getfield 448, 3, 9), (30, .iload 2, 1, 0), (31, .iaload, 1, 0), (32, .sipush 122, 2, 0), (34, .if_icmp .gt 75, 3, 0), (37, .aload 0, 1, 0), (38, .getfield 448, 3, 9), (41, .iload 2, 1, 0), (42, .iaload, 1, 0), (43, .sipush 97, 2, 0), (45, .isub, 1, 0), (46, .istore 3, 1, 0), (47, .iload 3, 1, 0), (48, .sipush 16, 2, 0), (50, .if_icmp .ge 61, 3, 0), (53, .iload 1, 1, 0), (54, .iload 3, 1, 0), (55, .ishr, 1, 0), (56, .sipush 1, 1, 0), (57, .iand, 1, 0), (58, .ifCond .eq 63, 3, 0), (61, .sipush 0, 1, 0), (62, .ireturn, 1, 0), (63, .iload 1, 1, 0), (64, .sipush 1, 1, 0), (65, .iload 3, 1, 0), (66, .ishl, 1, 0), (67, .ior, 1, 0), (68, .istore 1, 1, 0), (69, .iinc 2 1, 3, 0), (72, .goto 7, 3, 0), (75, .aload 0, 1, 0), (76, .iload 2, 1, 0), (77, .invokevirtual 67, 3, 28), (80, .iload 1, 1, 0), (81, .ireturn, 1, 0)]
/-- SinglesPast$Things.<init>()V -/
def tO_75 : List (Nat × av_O) := [(0, .aload 0, 1, 0), (1, .monitorenter, 3, 3), (4, .aload 0, 1, 0), (5, .sipush 8, 2, 0), (7, .newarray .int, 2, 0), (9, .putfield 514, 3, 9), (12, .aload 0, 1, 0), (13, .sipush 8, 2, 0), (15, .newarray .int, 2, 0), (17, .putfield 515, 3, 15), (20, .aload 0, 1, 0), (21, .sipush 8, 2, 0), (23, .newarray .int, 2, 0), (25, .putfield 516, 3, 18), (28, .aload 0, 1, 0), (29, .sipush 8, 2, 0), (31, .newarray .int, 2, 0), (33, .putfield 517, 3, 21), (36, .return_, 1, 0)]
/-- SinglesPast$Things.copyFrom(LSinglesPast$Things;)V -/
def tO_76 : List (Nat × av_O) := [(0, .aload 0, 1, 0), (1, .aload 1, 1, 0), (2, .getfield 512, 3, 24), (5, .putfield 512, 3, 24), (8, .aload 0, 1, 0), (9, .aload 1, 1, 0), (10, .getfield 513, 3, 28), (13, .putfield 513, 3, 28), (16, .aload 1, 1, 0), (17, .getfield 514, 3, 9), (20, .sipush 0, 1, 0), (21, .aload 0, 1, 0), (22, .getfield 514, 3, 9), (25, .sipush 0, 1, 0), (26, .sipush 8, 2, 0), (28, .invokedynamic 0, 3, 31), (31, .aload 1, 1, 0), (32, .getfield 515, 3, 15), (35, .sipush 0, 1, 0), (36, .aload 0, 1, 0), (37, .getfield 515, 3, 15), (40, .sipush 0, 1, 0), (41, .sipush 8, 2, 0), (43, .invokedynamic 0, 3, 31), (46, .aload 1, 1, 0), (47, .getfield 516, 3, 18), (50, .sipush 0, 1, 0), (51, .aload 0, 1, 0), (52, .getfield 516, 3, 18), (55, .sipush 0, 1, 0), (56, .sipush 8, 2, 0), (58, .invokedynamic 0, 3, 31), (61, .aload 1, 1, 0), (62, .getfield 517, 3, 21), (65, .sipush 0, 1, 0), (66, .aload 0, 1, 0), (67, .getfield 517, 3, 21), (70, .sipush 0, 1, 0), (71, .sipush 8, 2, 0), (73, .invokedynamic 0, 3, 31), (76, .return_, 1, 0)]
/-- SinglesPast$Things.add(IZI)V -/
def tO_77 : List (Nat × av_O) := [(0, .aload 0, 1, 0), (1, .getfield 512, 3, 24), (4, .sipush 8, 2, 0), (6, .if_icmp .lt 10, 3, 0), (9, .return_, 1, 0), (10, .aload 0, 1, 0), (11, .getfield 514, 3, 9), (14, .aload 0, 1, 0), (15, .getfield 512, 3, 24), (18, .iload 1, 1, 0), (19, .iastore, 1, 0), (20, .aload 0, 1, 0), (21, .getfield 515, 3, 15), (24, .aload 0, 1, 0), (25, .getfield 512, 3, 24), (28, .iload 3, 1, 0), (29, .iastore, 1, 0), (30, .aload 0, 1, 0), (31, .getfield 516, 3, 18), (34, .aload 0, 1, 0), (35, .getfield 512, 3, 24), (38, .sipush 0, 1, 0), (39, .iastore, 1, 0), (40, .aload 0, 1, 0), (41, .getfield 517, 3, 21), (44, .aload 0, 1, 0), (45, .getfield 512, 3, 24), (48, .sipush 0, 1, 0), (49, .iastore, 1, 0), (50, .sipush 1, 1, 0), (51, .aload 0, 1, 0), (52, .getfield 512, 3, 24), (55, .ishl, 1, 0), (56, .istore 4, 2, 0), (58, .aload 0, 1, 0), (59, .iload 2, 1, 0), (60, .ifCond .eq 73, 3, 0), (63, .aload 0, 1, 0), (64, .getfield 513, 3, 28), (67, .iload 4, 2, 0), (69, .ior, 1, 0), (70, .goto 82, 3, 0), (73, .aload 0, 1, 0), (74, .getfield 513, 3, 28), (77, .iload 4, 2, 0), (79, .sipush (-1), 1, 0), (80, .ixor, 1, 0), (81, .iand, 1, 0), (82, .putfield 513, 3, 28), (85, .aload 0, 1, 0), (86, .dup, 1, 0), (87, .getfield 512, 3, 24), (90, .sipush 1, 1, 0), (91, .iadd, 1, 0), (92, .putfield 512, 3, 24), (95, .return_, 1, 0)]
/-- SinglesPast$Things.tie(IIZ)V -/
def tO_78 : List (Nat × av_O) := [(0, .sipush 1, 1, 0), (1, .iload 2, 1, 0), (2, .ishl, 1, 0), (3, .istore 4, 2, 0), (5, .aload 0, 1, 0), (6, .getfield 516, 3, 18), (9, .iload 1, 1, 0), (10, .iload 3, 1, 0), (11, .ifCond .eq 26, 3, 0), (14, .aload 0, 1, 0), (15, .getfield 516, 3, 18), (18, .iload 1, 1, 0), (19, .iaload, 1, 0), (20, .iload 4, 2, 0), (22, .ior, 1, 0), (23, .goto 37, 3, 0), (26, .aload 0, 1, 0), (27, .getfield 516, 3, 18), (30, .iload 1, 1, 0), (31, .iaload, 1, 0), (32, .iload 4, 2, 0), (34, .sipush (-1), 1, 0), (35, .ixor, 1, 0), (36, .iand, 1, 0), (37, .iastore, 1, 0), (38, .aload 0, 1, 0), (39, .getfield 517, 3, 21), (42, .iload 1, 1, 0), (43, .iload 3, 1, 0), (44, .ifCond .eq 61, 3, 0), (47, .aload 0, 1, 0), (48, .getfield 517, 3, 21), (51, .iload 1, 1, 0), (52, .iaload, 1, 0), (53, .iload 4, 2, 0), (55, .sipush (-1), 1, 0), (56, .ixor, 1, 0), (57, .iand, 1, 0), (58, .goto 70, 3, 0), (61, .aload 0, 1, 0), (62, .getfield 517, 3, 21), (65, .iload 1, 1, 0), (66, .iaload, 1, 0), (67, .iload 4, 2, 0), (69, .ior, 1, 0), (70, .iastore, 1, 0), (71, .return_, 1, 0)]
/-- SinglesPast$Things.worthOf(I)I -/
def tO_79 : List (Nat × av_O) := [(0, .sipush 0, 1, 0), (1, .istore 2, 1, 0), (2, .sipush 0, 1, 0), (3, .istore 3, 1, 0), (4, .iload 3, 1, 0), (5, .aload 0, 1, 0), (6, .getfield 512, 3, 24), (9, .if_icmp .ge 35, 3, 0), (12, .iload 1, 1, 0), (13, .iload 3, 1, 0), (14, .ishr, 1, 0), (15, .sipush 1, 1, 0), (16, .iand, 1, 0), (17, .ifCond .eq 29, 3, 0), (20, .iload 2, 1, 0), (21, .aload 0, 1, 0), (22, .getfield 515, 3, 15), (25, .iload 3, 1, 0), (26, .iaload, 1, 0), (27, .iadd, 1, 0), (28, .istore 2, 1, 0), (29, .iinc 3 1, 3, 0), (32, .goto 4, 3, 0), (35, .iload 2, 1, 0), (36, .ireturn, 1, 0)]
/-- SinglesPast$Things.looseSet()I -/
def tO_80 : List (Nat × av_O) := [(0, .sipush 0, 1, 0), (1, .istore 1, 1, 0), (2, .sipush 0, 1, 0), (3, .istore 2, 1, 0), (4, .iload 2, 1, 0), (5, .aload 0, 1, 0), (6, .getfield 512, 3, 24), (9, .if_icmp .ge 44, 3, 0), (12, .aload 0, 1, 0), (13, .getfield 516, 3, 18), (16, .iload 2, 1, 0), (17, .iaload, 1, 0), (18, .aload 0, 1, 0), (19, .getfield 517, 3, 21), (22, .iload 2, 1, 0), (23, .iaload, 1, 0), (24, .ior, 1, 0), (25, .istore 3, 1, 0), (26, .iload 3, 1, 0), (27, .ifCond .eq 38, 3, 0), (30, .iload 1, 1, 0), (31, .iload 3, 1, 0), (32, .sipush 1, 1, 0), (33, .iload 2, 1, 0), (34, .ishl, 1, 0), (35, .ior, 1, 0), (36, .ior, 1, 0), (37, .istore 1, 1, 0), (38, .iinc 2 1, 3, 0), (41, .goto 4, 3, 0), (44, .sipush 1, 1, 0), (45, .aload 0, 1, 0), (46, .getfield 512, 3, 24), (49, .ishl, 1, 0), (50, .sipush 1, 1, 0), (51, .isub, 1, 0), (52, .iload 1, 1, 0), (53, .sipush (-1), 1, 0), (54, .ixor, 1, 0), (55, .iand, 1, 0), (56, .ireturn, 1, 0)]
/-- SinglesPast$Things.lineOf(I)I -/
def tO_81 : List (Nat × av_O) := [(0, .sipush 8, 2, 0), (2, .newarray .int, 2, 0), (4, .astore 2, 1, 0), (5, .sipush 0, 1, 0), (6, .istore 3, 1, 0), (7, .iload 3, 1, 0), (8, .aload 0, 1, 0), (9, .getfield 514, 3, 9), (12, .iload 1, 1, 0), (13, .iaload, 1, 0), (14, .if_icmp .gt 65, 3, 0), (17, .sipush 0, 1, 0), (18, .istore 4, 2, 0), (20, .iload 4, 2, 0), (22, .aload 0, 1, 0), (23, .getfield 512, 3, 24), (26, .if_icmp .ge 59, 3, 0), (29, .aload 0, 1, 0), (30, .getfield 514, 3, 9), (33, .iload 4, 2, 0), (35, .iaload, 1, 0), (36, .iload 3, 1, 0), (37, .if_icmp .ne 53, 3, 0), (40, .aload 2, 1, 0), (41, .iload 4, 2, 0), (43, .sipush 1, 1, 0), (44, .aload 0, 1, 0), (45, .iload 4, 2, 0), (47, .aload 2, 1, 0), (48, .invokevirtual 82, 3, 37), (51, .iadd, 1, 0), (52, .iastore, 1, 0), (53, .iinc 4 1, 3, 0), (56, .goto 20, 3, 0), (59, .iinc 3 1, 3, 0), (62, .goto 7, 3, 0), (65, .aload 2, 1, 0), (66, .iload 1, 1, 0), (67, .iaload, 1, 0), (68, .ireturn, 1, 0)]
/-- SinglesPast$Things.longestAhead(I[I)I -/
def tO_82 : List (Nat × av_O) := [(0, .sipush 0, 1, 0), (1, .istore 3, 1, 0), (2, .sipush 0, 1, 0), (3, .istore 4, 2, 0), (5, .iload 4, 2, 0), (7, .aload 0, 1, 0), (8, .getfield 512, 3, 24), (11, .if_icmp .ge 51, 3, 0), (14, .aload 0, 1, 0), (15, .getfield 516, 3, 18), (18, .iload 4, 2, 0), (20, .iaload, 1, 0), (21, .aload 0, 1, 0), (22, .getfield 517, 3, 21), (25, .iload 4, 2, 0), (27, .iaload, 1, 0), (28, .ior, 1, 0), (29, .iload 1, 1, 0), (30, .ishr, 1, 0), (31, .sipush 1, 1, 0), (32, .iand, 1, 0), (33, .ifCond .eq 45, 3, 0), (36, .iload 3, 1, 0), (37, .aload 2, 1, 0), (38, .iload 4, 2, 0), (40, .iaload, 1, 0), (41, .invokestatic 358, 3, 41), (44, .istore 3, 1, 0), (45, .iinc 4 1, 3, 0), (48, .goto 5, 3, 0), (51, .iload 3, 1, 0), (52, .ireturn, 1, 0)]
/-- SinglesPast$Worlds.<init>()V -/
def tO_83 : List (Nat × av_O) := [(0, .aload 0, 1, 0), (1, .monitorenter, 3, 3), (4, .aload 0, 1, 0), (5, .sipush 64, 2, 0), (7, .newarray .int, 2, 0), (9, .putfield 576, 3, 9), (12, .aload 0, 1, 0), (13, .sipush 64, 2, 0), (15, .newarray .int, 2, 0), (17, .putfield 577, 3, 15), (20, .aload 0, 1, 0), (21, .sipush 8, 2, 0), (23, .newarray .int, 2, 0), (25, .putfield 580, 3, 18), (28, .aload 0, 1, 0), (29, .sipush 8, 2, 0), (31, .newarray .int, 2, 0), (33, .putfield 581, 3, 21), (36, .aload 0, 1, 0), (37, .sipush 8, 2, 0), (39, .newarray .int, 2, 0), (41, .putfield 582, 3, 24), (44, .aload 0, 1, 0), (45, .sipush 8, 2, 0), (47, .newarray .int, 2, 0), (49, .putfield 583, 3, 27), (52, .return_, 1, 0)]
/-- SinglesPast$Worlds.fill(LSinglesPast$State;II)V -/
def tO_84 : List (Nat × av_O) := [(0, .aload 0, 1, 0), (1, .aload 1, 1, 0), (2, .getfield 384, 3, 30), (5, .getfield 512, 3, 36), (8, .putfield 578, 3, 42), (11, .aload 0, 1, 0), (12, .aload 1, 1, 0), (13, .getfield 388, 3, 43), (16, .putfield 579, 3, 46), (19, .aload 0, 1, 0), (20, .aload 1, 1, 0), (21, .getfield 384, 3, 30), (24, .invokevirtual 85, 3, 47), (27, .aload 0, 1, 0), (28, .aload 1, 1, 0), (29, .getfield 384, 3, 30), (32, .invokevirtual 86, 3, 51), (35, .aload 0, 1, 0), (36, .aload 1, 1, 0), (37, .invokevirtual 87, 3, 54), (40, .sipush 0, 1, 0), (41, .istore 4, 2, 0), (43, .iload 4, 2, 0), (45, .sipush 64, 2, 0), (47, .if_icmp .ge 97, 3, 0), (50, .iload 4, 2, 0), (52, .iload 3, 1, 0), (53, .sipush (-1), 1, 0), (54, .ixor, 1, 0), (55, .iand, 1, 0), (56, .ifCond .ne 91, 3, 0), (59, .aload 0, 1, 0), (60, .getfield 576, 3, 9), (63, .iload 4, 2, 0), (65, .aload 0, 1, 0), (66, .iload 4, 2, 0), (68, .iload 2, 1, 0), (69, .invokevirtual 88, 3, 58), (72, .iastore, 1, 0), (73, .aload 0, 1, 0), (74, .getfield 577, 3, 15), (77, .iload 4, 2, 0), (79, .aload 1, 1, 0), (80, .aload 0, 1, 0), (81, .getfield 576, 3, 9), (84, .iload 4, 2, 0), (86, .iaload, 1, 0), (87, .invokevirtual 43, 3, 62), (90, .iastore, 1, 0), (91, .iinc 4 1, 3, 0), (94, .goto 43, 3, 0), (97, .return_, 1, 0)]
/-- SinglesPast$Worlds.orderByStops(LSinglesPast$Things;)V -/
def tO_85 : List (Nat × av_O) := [(0, .sipush 0, 1, 0), (1, .istore 2, 1, 0), (2, .sipush 0, 1, 0), (3, .istore 3, 1, 0), (4, .iload 3, 1, 0), (5, .sipush 16, 2, 0), (7, .if_icmp .ge 62, 3, 0), (10, .sipush 0, 1, 0), (11, .istore 4, 2, 0), (13, .iload 4, 2, 0), (15, .aload 0, 1, 0), (16, .getfield 578, 3, 42), (19, .if_icmp .ge 56, 3, 0), (22, .aload 1, 1, 0), (23, .getfield 514, 3, 66), (26, .iload 4, 2, 0), (28, .iaload, 1, 0), (29, .iload 3, 1, 0), (30, .if_icmp .ne 50, 3, 0), (33, .iload 2, 1, 0), (34, .sipush 8, 2, 0), (36, .if_icmp .ge 50, 3, 0), (39, .aload 0, 1, 0), (40, .getfield 580, 3, 18), (43, .iload 2, 1, 0), (44, .iload 4, 2, 0), (46, .iastore, 1, 0), (47, .iinc 2 1, 3, 0), (50, .iinc 4 1, 3, 0), (53, .goto 13, 3, 0), (56, .iinc 3 1, 3, 0), (59, .goto 4, 3, 0), (62, .return_, 1, 0)]
/-- SinglesPast$Worlds.turnTies(LSinglesPast$Things;)V -/
def tO_86 : List (Nat × av_O) := [(0, .sipush 0, 1, 0), (1, .istore 2, 1, 0), (2, .iload 2, 1, 0), (3, .aload 0, 1, 0), (4, .getfield 578, 3, 42), (7, .if_icmp .ge 88, 3, 0), (10, .aload 0, 1, 0), (11, .getfield 581, 3, 21), (14, .iload 2, 1, 0), (15, .sipush 0, 1, 0), (16, .iastore, 1, 0), (17, .aload 0, 1, 0), (18, .getfield 582, 3, 24), (21, .iload 2, 1, 0), (22, .sipush 0, 1, 0), (23, .iastore, 1, 0), (24, .sipush 0, 1, 0), (25, .istore 3, 1, 0), (26, .iload 3, 1, 0), (27, .aload 0, 1, 0), (28, .getfield 578, 3, 42), (31, .if_icmp .ge 82, 3, 0), (34, .aload 0, 1, 0), (35, .getfield 581, 3, 21), (38, .iload 2, 1, 0), (39, .dup2, 1, 0), (40, .iaload, 1, 0), (41, .aload 1, 1, 0), (42, .getfield 516, 3, 69), (45, .iload 3, 1, 0), (46, .iaload, 1, 0), (47, .iload 2, 1, 0), (48, .ishr, 1, 0), (49, .sipush 1, 1, 0), (50, .iand, 1, 0), (51, .iload 3, 1, 0), (52, .ishl, 1, 0), (53, .ior, 1, 0), (54, .iastore, 1, 0), (55, .aload 0, 1, 0), (56, .getfield 582, 3, 24), (59, .iload 2, 1, 0), (60, .dup2, 1, 0), (61, .iaload, 1, 0), (62, .aload 1, 1, 0), (63, .getfield 517, 3, 72), (66, .iload 3, 1, 0), (67, .iaload, 1, 0), (68, .iload 2, 1, 0), (69, .ishr, 1, 0), (70, .sipush 1, 1, 0), (71, .iand, 1, 0), (72, .iload 3, 1, 0), (73, .ishl, 1, 0), (74, .ior, 1, 0), (75, .iastore, 1, 0), (76, .iinc 3 1, 3, 0), (79, .goto 26, 3, 0), (82, .iinc 2 1, 3, 0), (85, .goto 2, 3, 0), (88, .return_, 1, 0)]
/-- SinglesPast$Worlds.findDoers(LSinglesPast$State;)V -/
def tO_87 : List (Nat × av_O) := [(0, .aload 0, 1, 0), (1, .getfield 583, 3, 27), (4, .sipush 0, 1, 0), (5, .invokestatic 360, 3, 75), (8, .sipush 0, 1, 0), (9, .istore 2, 1, 0), (10, .iload 2, 1, 0), (11, .aload 1, 1, 0), (12, .getfield 385, 3, 81), (15, .if_icmp .ge 66, 3, 0), (18, .aload 1, 1, 0), (19, .getfield 387, 3, 84), (22, .iload 2, 1, 0), (23, .iaload, 1, 0), (24, .istore 3, 1, 0), (25, .iload 3, 1, 0), (26, .sipush (-1), 1, 0), (27, .if_icmp .eq 60, 3, 0), (30, .aload 1, 1, 0), (31, .getfield 386, 3, 87), (34, .iload 2, 1, 0), (35, .iaload, 1, 0), (36, .aload 1, 1, 0), (37, .getfield 384, 3, 30), (40, .getfield 514, 3, 66), (43, .iload 3, 1, 0), (44, .iaload, 1, 0), (45, .if_icmp .gt 60, 3, 0), (48, .aload 0, 1, 0), (49, .getfield 583, 3, 27), (52, .iload 3, 1, 0), (53, .dup2, 1, 0), (54, .iaload, 1, 0), (55, .sipush 1, 1, 0), (56, .iload 2, 1, 0), (57, .ishl, 1, 0), (58, .ior, 1, 0), (59, .iastore, 1, 0), (60, .iinc 2 1, 3, 0), (63, .goto 10, 3, 0), (66, .return_, 1, 0)]
/-- SinglesPast$Worlds.build(II)I -/
def tO_88 : List (Nat × av_O) := [(0, .sipush 0, 1, 0), (1, .istore 3, 1, 0), (2, .sipush 0, 1, 0), (3, .istore 4, 2, 0), (5, .iload 4, 2, 0), (7, .aload 0, 1, 0), (8, .getfield 578, 3, 42), (11, .if_icmp .ge 120, 3, 0), (14, .aload 0, 1, 0), (15, .getfield 580, 3, 18), (18, .iload 4, 2, 0), (20, .iaload, 1, 0), (21, .istore 5, 2, 0), (23, .iload 1, 1, 0), (24, .aload 0, 1, 0), (25, .getfield 583, 3, 27), (28, .iload 5, 2, 0), (30, .iaload, 1, 0), (31, .iand, 1, 0), (32, .istore 6, 2, 0), (34, .iload 6, 2, 0), (36, .ifCond .eq 50, 3, 0), (39, .aload 0, 1, 0), (40, .iload 6, 2, 0), (42, .invokevirtual 89, 3, 90), (45, .istore 7, 2, 0), (47, .goto 102, 3, 0), (50, .iload 2, 1, 0), (51, .iload 5, 2, 0), (53, .ishr, 1, 0), (54, .sipush 1, 1, 0), (55, .iand, 1, 0), (56, .ifCond .ne 71, 3, 0), (59, .iload 3, 1, 0), (60, .aload 0, 1, 0), (61, .getfield 581, 3, 21), (64, .iload 5, 2, 0), (66, .iaload, 1, 0), (67, .iand, 1, 0), (68, .ifCond .eq 75, 3, 0), (71, .sipush 1, 1, 0), (72, .goto 76, 3, 0), (75, .sipush 0, 1, 0), (76, .istore 8, 2, 0), (78, .iload 8, 2, 0), (80, .ifCond .eq 99, 3, 0), (83, .iload 3, 1, 0), (84, .aload 0, 1, 0), (85, .getfield 582, 3, 24), (88, .iload 5, 2, 0), (90, .iaload, 1, 0), (91, .iand, 1, 0), (92, .ifCond .ne 99, 3, 0), (95, .sipush 1, 1, 0), (96, .goto 100, 3, 0), (99, .sipush 0, 1, 0), (100, .istore 7, 2, 0), (102, .iload 7, 2, 0), (104, .ifCond .eq 114, 3, 0), (107, .iload 3, 1, 0), (108, .sipush 1, 1, 0), (109, .iload 5, 2, 0), (111, .ishl, 1, 0), (112, .ior, 1, 0), (113, .istore 3, 1, 0), (114, .iinc 4 1, 3, 0), (117, .goto 5, 3, 0), (120, .iload 3, 1, 0), (121, .ireturn, 1, 0)]
/-- SinglesPast$Worlds.lastMakes(I)Z -/
def tO_89 : List (Nat × av_O) := [(0, .sipush 5, 1, 0), (1, .istore 2, 1, 0), (2, .iload 2, 1, 0), (3, .ifCond .lt 37, 3, 0), (6, .iload 1, 1, 0), (7, .iload 2, 1, 0), (8, .ishr, 1, 0), (9, .sipush 1, 1, 0), (10, .iand, 1, 0), (11, .ifCond .eq 31, 3, 0), (14, .aload 0, 1, 0), (15, .getfield 579, 3, 46), (18, .iload 2, 1, 0), (19, .ishr, 1, 0), (20, .sipush 1, 1, 0), (21, .iand, 1, 0), (22, .ifCond .eq 29, 3, 0), (25, .sipush 1, 1, 0), (26, .goto 30, 3, 0), (29, .sipush 0, 1, 0), (30, .ireturn, 1, 0), (31, .iinc 2 (-1), 3, 0), (34, .goto 2, 3, 0), (37, .sipush 0, 1, 0), (38, .ireturn, 1, 0)]
/-- SinglesPast$Worlds.isAgreeing(II)Z -/
def tO_90 : List (Nat × av_O) := [(0, .iload 2, 1, 0), (1, .aload 0, 1, 0), (2, .getfield 577, 3, 15), (5, .iload 1, 1, 0), (6, .iaload, 1, 0), (7, .iand, 1, 0), (8, .iload 1, 1, 0), (9, .if_icmp .ne 16, 3, 0), (12, .sipush 1, 1, 0), (13, .goto 17, 3, 0), (16, .sipush 0, 1, 0), (17, .ireturn, 1, 0)]
/-- SinglesPast$Worlds.countAgreeing(I)I -/
def tO_91 : List (Nat × av_O) := [(0, .sipush 0, 1, 0), (1, .istore 2, 1, 0), (2, .sipush 0, 1, 0), (3, .istore 3, 1, 0), (4, .iload 3, 1, 0), (5, .iload 1, 1, 0), (6, .if_icmp .gt 35, 3, 0), (9, .iload 3, 1, 0), (10, .iload 1, 1, 0), (11, .sipush (-1), 1, 0), (12, .ixor, 1, 0), (13, .iand, 1, 0), (14, .ifCond .ne 29, 3, 0), (17, .aload 0, 1, 0), (18, .iload 3, 1, 0), (19, .iload 1, 1, 0), (20, .invokevirtual 90, 3, 94), (23, .ifCond .eq 29, 3, 0), (26, .iinc 2 1, 3, 0), (29, .iinc 3 1, 3, 0), (32, .goto 4, 3, 0), (35, .iload 2, 1, 0), (36, .ireturn, 1, 0)]
/-- SinglesPast$Worlds.pastOf(I)I -/
def tO_92 : List (Nat × av_O) := [(0, .sipush (-1), 1, 0), (1, .istore 2, 1, 0), (2, .sipush 0, 1, 0), (3, .istore 3, 1, 0), (4, .iload 3, 1, 0), (5, .iload 1, 1, 0), (6, .if_icmp .gt 42, 3, 0), (9, .iload 3, 1, 0), (10, .iload 1, 1, 0), (11, .sipush (-1), 1, 0), (12, .ixor, 1, 0), (13, .iand, 1, 0), (14, .ifCond .ne 36, 3, 0), (17, .iload 3, 1, 0), (18, .iload 2, 1, 0), (19, .invokestatic 131, 3, 98), (22, .ifCond .eq 36, 3, 0), (25, .aload 0, 1, 0), (26, .iload 3, 1, 0), (27, .iload 1, 1, 0), (28, .invokevirtual 90, 3, 94), (31, .ifCond .eq 36, 3, 0), (34, .iload 3, 1, 0), (35, .istore 2, 1, 0), (36, .iinc 3 1, 3, 0), (39, .goto 4, 3, 0), (42, .iload 2, 1, 0), (43, .ireturn, 1, 0)]
/-- SinglesPast$Worlds.nowOf(I)I -/
def tO_93 : List (Nat × av_O) := [(0, .aload 0, 1, 0), (1, .iload 1, 1, 0), (2, .invokevirtual 92, 3, 101), (5, .istore 2, 1, 0), (6, .aload 0, 1, 0), (7, .getfield 576, 3, 9), (10, .iload 2, 1, 0), (11, .sipush (-1), 1, 0), (12, .if_icmp .ne 19, 3, 0), (15, .sipush 0, 1, 0), (16, .goto 20, 3, 0), (19, .iload 2, 1, 0), (20, .iaload, 1, 0), (21, .ireturn, 1, 0)]
/-- SinglesPast.<init>()V -/
def tO_94 : List (Nat × av_O) := [(0, .aload 0, 1, 0), (1, .monitorenter, 3, 1), (4, .aload 0, 1, 0), (5, .new 7, 3, 7), (8, .dup, 1, 0), (9, .invokespecial 63, 3, 9), (12, .putfield 640, 3, 10), (15, .aload 0, 1, 0), (16, .sipush (-1), 1, 0), (17, .putfield 641, 3, 16), (20, .aload 0, 1, 0), (21, .new 6, 3, 20), (24, .dup, 1, 0), (25, .invokespecial 30, 3, 22), (28, .putfield 642, 3, 23), (31, .aload 0, 1, 0), (32, .new 6, 3, 20), (35, .dup, 1, 0), (36, .invokespecial 30, 3, 22), (39, .putfield 643, 3, 27), (42, .aload 0, 1, 0), (43, .new 6, 3, 20), (46, .dup, 1, 0), (47, .invokespecial 30, 3, 22), (50, .putfield 645, 3, 30), (53, .aload 0, 1, 0), (54, .new 3, 3, 33), (57, .dup, 1, 0), (58, .invokespecial 18, 3, 35), (61, .putfield 646, 3, 36), (64, .aload 0, 1, 0), (65, .new 1, 3, 40), (68, .dup, 1, 0), (69, .invokespecial 4, 3, 42), (72, .putfield 647, 3, 43), (75, .aload 0, 1, 0), (76, .new 9, 3, 47), (79, .dup, 1, 0), (80, .invokespecial 83, 3, 49), (83, .putfield 648, 3, 50), (86, .aload 0, 1, 0), (87, .new 9, 3, 47), (90, .dup, 1, 0), (91, .invokespecial 83, 3, 49), (94, .putfield 650, 3, 54), (97, .aload 0, 1, 0), (98, .new 5, 3, 57), (101, .dup, 1, 0), (102, .invokespecial 25, 3, 59), (105, .putfield 651, 3, 60), (108, .aload 0, 1, 0), (109, .new 4, 3, 64), (112, .dup, 1, 0), (113, .invokespecial 22, 3, 66), (116, .putfield 652, 3, 67), (119, .return_, 1, 0)]
/-- SinglesPast.feed(IIIII)I -/
def tO_95 : List (Nat × av_O) := [(0, .aload 0, 1, 0), (1, .getfield 640, 3, 10), (4, .getfield 449, 3, 71), (7, .sipush 20, 2, 0), (9, .iadd, 1, 0), (10, .sipush 400, 3, 0), (13, .if_icmp .le 18, 3, 0), (16, .sipush (-1), 1, 0), (17, .ireturn, 1, 0), (18, .aload 0, 1, 0), (19, .getfield 640, 3, 10), (22, .iload 1, 1, 0), (23, .invokevirtual 64, 3, 74), (26, .aload 0, 1, 0), (27, .getfield 640, 3, 10), (30, .iload 2, 1, 0), (31, .invokevirtual 64, 3, 74), (34, .aload 0, 1, 0), (35, .getfield 640, 3, 10), (38, .iload 3, 1, 0), (39, .invokevirtual 64, 3, 74), (42, .aload 0, 1, 0), (43, .getfield 640, 3, 10), (46, .iload 4, 2, 0), (48, .invokevirtual 64, 3, 74), (51, .aload 0, 1, 0), (52, .getfield 640, 3, 10), (55, .iload 5, 2, 0), (57, .invokevirtual 64, 3, 74), (60, .aload 0, 1, 0), (61, .getfield 640, 3, 10), (64, .getfield 449, 3, 71), (67, .ireturn, 1, 0)]
/-- SinglesPast.end(I)Z -/
def tO_96 : List (Nat × av_O) := [(0, .iload 1, 1, 0), (1, .ifCond .lt 15, 3, 0), (4, .iload 1, 1, 0), (5, .aload 0, 1, 0), (6, .getfield 640, 3, 10), (9, .getfield 449, 3, 71), (12, .if_icmp .le 17, 3, 0), (15, .sipush 0, 1, 0), (16, .ireturn, 1, 0), (17, .aload 0, 1, 0), (18, .getfield 640, 3, 10), (21, .iload 1, 1, 0), (22, .putfield 449, 3, 71), (25, .sipush 1, 1, 0), (26, .ireturn, 1, 0)]
/-- SinglesPast.station()I -/
def tO_97 : List (Nat × av_O) := [(0, .aload 0, 1, 0), (1, .getfield 645, 3, 30), (4, .aload 0, 1, 0), (5, .getfield 642, 3, 23), (8, .invokevirtual 31, 3, 78), (11, .aload 0, 1, 0), (12, .getfield 640, 3, 10), (15, .invokevirtual 65, 3, 82), (18, .aload 0, 1, 0), (19, .aload 0, 1, 0), (20, .getfield 640, 3, 10), (23, .aload 0, 1, 0), (24, .getfield 645, 3, 30), (27, .invokestatic 53, 3, 85), (30, .invokevirtual 99, 3, 91), (33, .aload 0, 1, 0), (34, .getfield 642, 3, 23), (37, .getfield 397, 3, 95), (40, .sipush 12, 2, 0), (42, .if_icmp .lt 55, 3, 0), (45, .instanceof 0, 3, 98), (55, .aload 0, 1, 0), (56, .getfield 645, 3, 30), (59, .dup, 1, 0), (60, .getfield 397, 3, 95), (63, .sipush 1, 1, 0), (64, .iadd, 1, 0), (65, .putfield 397, 3, 95), (68, .aload 0, 1, 0), (69, .getfield 642, 3, 23), (72, .aload 0, 1, 0), (73, .getfield 645, 3, 30), (76, .invokevirtual 31, 3, 78), (79, .aload 0, 1, 0), (80, .invokevirtual 100, 3, 105), (83, .aload 0, 1, 0), (84, .getfield 642, 3, 23), (87, .getfield 397, 3, 95), (90, .ireturn, 1, 0)]
/-- SinglesPast.law()I -/
def tO_98 : List (Nat × av_O) := [(0, .aload 0, 1, 0), (1, .getfield 640, 3, 10), (4, .invokevirtual 65, 3, 82), (7, .aload 0, 1, 0), (8, .aload 0, 1, 0), (9, .getfield 647, 3, 43), (12, .aload 0, 1, 0), (13, .getfield 640, 3, 10), (16, .invokevirtual 6, 3, 108), (19, .invokevirtual 99, 3, 91), (22, .aload 0, 1, 0), (23, .getfield 642, 3, 23), (26, .aload 0, 1, 0), (27, .getfield 647, 3, 43), (30, .invokevirtual 5, 3, 111), (33, .putfield 398, 3, 115), (36, .aload 0, 1, 0), (37, .invokevirtual 100, 3, 105), (40, .aload 0, 1, 0), (41, .getfield 642, 3, 23), (44, .getfield 398, 3, 115), (47, .getfield 0, 3, 119), (50, .ireturn, 1, 0)]
/-- SinglesPast.closeText(Z)V -/
def tO_99 : List (Nat × av_O) := [(0, .aload 0, 1, 0), (1, .iload 1, 1, 0), (2, .ifCond .eq 9, 3, 0), (5, .sipush (-1), 1, 0), (6, .goto 16, 3, 0), (9, .aload 0, 1, 0), (10, .getfield 640, 3, 10), (13, .getfield 450, 3, 124), (16, .putfield 641, 3, 16), (19, .iload 1, 1, 0), (20, .ifCond .ne 33, 3, 0), (23, .instanceof 1, 3, 127), (33, .return_, 1, 0)]
/-- SinglesPast.forgetActs()V -/
def tO_100 : List (Nat × av_O) := [(0, .aload 0, 1, 0), (1, .getfield 646, 3, 36), (4, .invokevirtual 21, 3, 132), (7, .aload 0, 1, 0), (8, .sipush 0, 1, 0), (9, .putfield 649, 3, 135), (12, .return_, 1, 0)]
/-- SinglesPast.fault()I -/
def tO_101 : List (Nat × av_O) := [(0, .aload 0, 1, 0), (1, .getfield 641, 3, 16), (4, .ireturn, 1, 0)]
/-- SinglesPast.thing(II)I -/
def tO_102 : List (Nat × av_O) := [(0, .aload 0, 1, 0), (1, .iload 1, 1, 0), (2, .invokevirtual 180, 3, 139), (5, .iload 2, 1, 0), (6, .tableswitch 146 0 7 #[52, 65, 80, 93, 106, 119, 128, 140], 46, 0), (52, .aload 0, 1, 0), (53, .getfield 642, 3, 23), (56, .getfield 384, 3, 142), (59, .getfield 514, 3, 146), (62, .iload 1, 1, 0), (63, .iaload, 1, 0), (64, .ireturn, 1, 0), (65, .aload 0, 1, 0), (66, .getfield 642, 3, 23), (69, .getfield 384, 3, 142), (72, .getfield 513, 3, 152), (75, .iload 1, 1, 0), (76, .ishr, 1, 0), (77, .sipush 1, 1, 0), (78, .iand, 1, 0), (79, .ireturn, 1, 0), (80, .aload 0, 1, 0), (81, .getfield 642, 3, 23), (84, .getfield 384, 3, 142), (87, .getfield 515, 3, 155), (90, .iload 1, 1, 0), (91, .iaload, 1, 0), (92, .ireturn, 1, 0), (93, .aload 0, 1, 0), (94, .getfield 642, 3, 23), (97, .getfield 384, 3, 142), (100, .getfield 516, 3, 158), (103, .iload 1, 1, 0), (104, .iaload, 1, 0), (105, .ireturn, 1, 0), (106, .aload 0, 1, 0), (107, .getfield 642, 3, 23), (110, .getfield 384, 3, 142), (113, .getfield 517, 3, 161), (116, .iload 1, 1, 0), (117, .iaload, 1, 0), (118, .ireturn, 1, 0), (119, .aload 0, 1, 0), (120, .invokevirtual 129, 3, 164), (123, .iload 1, 1, 0), (124, .ishr, 1, 0), (125, .sipush 1, 1, 0), (126, .iand, 1, 0), (127, .ireturn, 1, 0), (128, .aload 0, 1, 0), (129, .getfield 642, 3, 23), (132, .getfield 384, 3, 142), (135, .iload 1, 1, 0), (136, .invokevirtual 81, 3, 168), (139, .ireturn, 1, 0), (140, .aload 0, 1, 0), (141, .iload 1, 1, 0), (142, .invokevirtual 105, 3, 172), (145, .ireturn, 1, 0), (146, .instanceof 2, 3, 175)]
/-- SinglesPast.goer(II)I -/
def tO_103 : List (Nat × av_O) := [(0, .aload 0, 1, 0), (1, .iload 1, 1, 0), (2, .invokevirtual 181, 3, 180), (5, .iload 2, 1, 0), (6, .tableswitch 180 0 10 #[64, 74, 84, 96, 106, 116, 126, 136, 155, 165, 174], 58, 0), (64, .aload 0, 1, 0), (65, .getfield 642, 3, 23), (68, .getfield 386, 3, 183), (71, .iload 1, 1, 0), (72, .iaload, 1, 0), (73, .ireturn, 1, 0), (74, .aload 0, 1, 0), (75, .getfield 642, 3, 23), (78, .getfield 387, 3, 186), (81, .iload 1, 1, 0), (82, .iaload, 1, 0), (83, .ireturn, 1, 0), (84, .aload 0, 1, 0), (85, .getfield 642, 3, 23), (88, .getfield 388, 3, 189), (91, .iload 1, 1, 0), (92, .ishr, 1, 0), (93, .sipush 1, 1, 0), (94, .iand, 1, 0), (95, .ireturn, 1, 0), (96, .aload 0, 1, 0), (97, .getfield 642, 3, 23), (100, .getfield 389, 3, 192), (103, .iload 1, 1, 0), (104, .iaload, 1, 0), (105, .ireturn, 1, 0), (106, .aload 0, 1, 0), (107, .getfield 642, 3, 23), (110, .getfield 390, 3, 195), (113, .iload 1, 1, 0), (114, .iaload, 1, 0), (115, .ireturn, 1, 0), (116, .aload 0, 1, 0), (117, .getfield 642, 3, 23), (120, .getfield 391, 3, 198), (123, .iload 1, 1, 0), (124, .iaload, 1, 0), (125, .ireturn, 1, 0), (126, .aload 0, 1, 0), (127, .getfield 642, 3, 23), (130, .getfield 392, 3, 201), (133, .iload 1, 1, 0), (134, .iaload, 1, 0), (135, .ireturn, 1, 0), (136, .aload 0, 1, 0), (137, .getfield 642, 3, 23), (140, .getfield 393, 3, 204), (143, .iload 1, 1, 0), (144, .iaload, 1, 0), (145, .sipush (-1), 1, 0), (146, .if_icmp .eq 153, 3, 0), (149, .sipush 1, 1, 0), (150, .goto 154, 3, 0), (153, .sipush 0, 1, 0), (154, .ireturn, 1, 0), (155, .aload 0, 1, 0), (156, .getfield 642, 3, 23), (159, .getfield 393, 3, 204), (162, .iload 1, 1, 0), (163, .iaload, 1, 0), (164, .ireturn, 1, 0), (165, .aload 0, 1, 0), (166, .getfield 642, 3, 23), (169, .iload 1, 1, 0), (170, .invokevirtual 47, 3, 207), (173, .ireturn, 1, 0), (174, .aload 0, 1, 0), (175, .iload 1, 1, 0), (176, .invokevirtual 130, 3, 210), (179, .ireturn, 1, 0), (180, .instanceof 3, 3, 175)]
/-- SinglesPast.train(II)I -/
def tO_104 : List (Nat × av_O) := [(0, .aload 0, 1, 0), (1, .iload 1, 1, 0), (2, .invokevirtual 183, 3, 215), (5, .iload 2, 1, 0), (6, .tableswitch 74 0 3 #[36, 46, 56, 68], 30, 0), (36, .aload 0, 1, 0), (37, .getfield 642, 3, 23), (40, .getfield 395, 3, 218), (43, .iload 1, 1, 0), (44, .iaload, 1, 0), (45, .ireturn, 1, 0), (46, .aload 0, 1, 0), (47, .getfield 642, 3, 23), (50, .getfield 396, 3, 221), (53, .iload 1, 1, 0), (54, .iaload, 1, 0), (55, .ireturn, 1, 0), (56, .aload 0, 1, 0), (57, .getfield 642, 3, 23), (60, .iload 1, 1, 0), (61, .invokevirtual 39, 3, 224), (64, .invokestatic 357, 3, 227), (67, .ireturn, 1, 0), (68, .aload 0, 1, 0), (69, .iload 1, 1, 0), (70, .invokevirtual 106, 3, 232), (73, .ireturn, 1, 0), (74, .instanceof 4, 3, 175)]
/-- SinglesPast.latestStop(I)I -/
def tO_105 : List (Nat × av_O) := [(0, .aload 0, 1, 0), (1, .getfield 642, 3, 23), (4, .invokevirtual 40, 3, 237), (7, .istore 2, 1, 0), (8, .aload 0, 1, 0), (9, .getfield 642, 3, 23), (12, .getfield 384, 3, 142), (15, .getfield 514, 3, 146), (18, .iload 1, 1, 0), (19, .iaload, 1, 0), (20, .istore 3, 1, 0), (21, .iload 3, 1, 0), (22, .ifCond .lt 41, 3, 0), (25, .iload 2, 1, 0), (26, .iload 3, 1, 0), (27, .ishr, 1, 0), (28, .sipush 1, 1, 0), (29, .iand, 1, 0), (30, .ifCond .eq 35, 3, 0), (33, .iload 3, 1, 0), (34, .ireturn, 1, 0), (35, .iinc 3 (-1), 3, 0), (38, .goto 21, 3, 0), (41, .sipush (-1), 1, 0), (42, .ireturn, 1, 0)]
/-- SinglesPast.shareOf(I)I -/
def tO_106 : List (Nat × av_O) := [(0, .aload 0, 1, 0), (1, .getfield 642, 3, 23), (4, .invokevirtual 37, 3, 240), (7, .invokestatic 357, 3, 227), (10, .istore 2, 1, 0), (11, .iload 2, 1, 0), (12, .ifCond .le 34, 3, 0), (15, .sipush 100, 2, 0), (17, .aload 0, 1, 0), (18, .getfield 642, 3, 23), (21, .iload 1, 1, 0), (22, .invokevirtual 39, 3, 224), (25, .invokestatic 357, 3, 227), (28, .imul, 1, 0), (29, .iload 2, 1, 0), (30, .idiv, 1, 0), (31, .goto 35, 3, 0), (34, .sipush 0, 1, 0), (35, .ireturn, 1, 0)]
/-- SinglesPast.cost(II)I -/
def tO_107 : List (Nat × av_O) := [(0, .aload 0, 1, 0), (1, .iload 1, 1, 0), (2, .invokevirtual 181, 3, 180), (5, .aload 0, 1, 0), (6, .iload 2, 1, 0), (7, .invokevirtual 183, 3, 215), (10, .aload 0, 1, 0), (11, .getfield 642, 3, 23), (14, .iload 1, 1, 0), (15, .iload 2, 1, 0), (16, .invokevirtual 44, 3, 243), (19, .ireturn, 1, 0)]
/-- SinglesPast.fear(II)I -/
def tO_108 : List (Nat × av_O) := [(0, .aload 0, 1, 0), (1, .iload 1, 1, 0), (2, .invokevirtual 181, 3, 180), (5, .aload 0, 1, 0), (6, .iload 2, 1, 0), (7, .invokevirtual 183, 3, 215), (10, .aload 0, 1, 0), (11, .getfield 642, 3, 23), (14, .iload 1, 1, 0), (15, .iload 2, 1, 0), (16, .invokevirtual 45, 3, 247), (19, .ireturn, 1, 0)]
/-- SinglesPast.may(II)Z -/
def tO_109 : List (Nat × av_O) := [(0, .aload 0, 1, 0), (1, .iload 1, 1, 0), (2, .invokevirtual 181, 3, 180), (5, .aload 0, 1, 0), (6, .iload 2, 1, 0), (7, .invokevirtual 183, 3, 215), (10, .aload 0, 1, 0), (11, .getfield 642, 3, 23), (14, .iload 1, 1, 0), (15, .iload 2, 1, 0), (16, .invokevirtual 46, 3, 250), (19, .ireturn, 1, 0)]
/-- SinglesPast.days(I)I -/
def tO_110 : List (Nat × av_O) := [(0, .iload 1, 1, 0), (1, .sipush 1, 1, 0), (2, .if_icmp .lt 11, 3, 0), (5, .iload 1, 1, 0), (6, .sipush 60, 2, 0), (8, .if_icmp .le 21, 3, 0), (11, .instanceof 5, 3, 127), (21, .aload 0, 1, 0), (22, .invokevirtual 119, 3, 256), (25, .aload 0, 1, 0), (26, .getfield 642, 3, 23), (29, .iload 1, 1, 0), (30, .sipush 1, 1, 0), (31, .invokevirtual 50, 3, 259), (34, .ireturn, 1, 0)]
/-- SinglesPast.sell(II)I -/
def tO_111 : List (Nat × av_O) := [(0, .aload 0, 1, 0), (1, .iload 1, 1, 0), (2, .invokevirtual 181, 3, 180), (5, .aload 0, 1, 0), (6, .iload 2, 1, 0), (7, .invokevirtual 183, 3, 215), (10, .aload 0, 1, 0), (11, .getfield 642, 3, 23), (14, .iload 1, 1, 0), (15, .iload 2, 1, 0), (16, .invokevirtual 46, 3, 250), (19, .ifCond .ne 33, 3, 0), (22, .instanceof 6, 3, 263), (33, .aload 0, 1, 0), (34, .invokevirtual 119, 3, 256), (37, .aload 0, 1, 0), (38, .getfield 642, 3, 23), (41, .iload 1, 1, 0), (42, .iload 2, 1, 0), (43, .invokevirtual 48, 3, 268), (46, .ireturn, 1, 0)]
/-- SinglesPast.pay(II)I -/
def tO_112 : List (Nat × av_O) := [(0, .aload 0, 1, 0), (1, .iload 1, 1, 0), (2, .invokevirtual 181, 3, 180), (5, .iload 2, 1, 0), (6, .sipush 1, 1, 0), (7, .if_icmp .lt 17, 3, 0), (10, .iload 2, 1, 0), (11, .sipush 999, 3, 0), (14, .if_icmp .le 28, 3, 0), (17, .instanceof 7, 3, 127), (28, .aload 0, 1, 0), (29, .invokevirtual 119, 3, 256), (32, .aload 0, 1, 0), (33, .getfield 642, 3, 23), (36, .getfield 390, 3, 195), (39, .iload 1, 1, 0), (40, .sipush 999, 3, 0), (43, .aload 0, 1, 0), (44, .getfield 642, 3, 23), (47, .getfield 390, 3, 195), (50, .iload 1, 1, 0), (51, .iaload, 1, 0), (52, .iload 2, 1, 0), (53, .iadd, 1, 0), (54, .invokestatic 359, 3, 273), (57, .iastore, 1, 0), (58, .aload 0, 1, 0), (59, .getfield 642, 3, 23), (62, .getfield 390, 3, 195), (65, .iload 1, 1, 0), (66, .iaload, 1, 0), (67, .ireturn, 1, 0)]
/-- SinglesPast.nerve(II)I -/
def tO_113 : List (Nat × av_O) := [(0, .aload 0, 1, 0), (1, .iload 1, 1, 0), (2, .invokevirtual 181, 3, 180), (5, .iload 2, 1, 0), (6, .ifCond .lt 15, 3, 0), (9, .iload 2, 1, 0), (10, .sipush 100, 2, 0), (12, .if_icmp .le 26, 3, 0), (15, .instanceof 8, 3, 127), (26, .aload 0, 1, 0), (27, .invokevirtual 119, 3, 256), (30, .aload 0, 1, 0), (31, .getfield 642, 3, 23), (34, .getfield 391, 3, 198), (37, .iload 1, 1, 0), (38, .iaload, 1, 0), (39, .istore 3, 1, 0), (40, .aload 0, 1, 0), (41, .getfield 642, 3, 23), (44, .getfield 391, 3, 198), (47, .iload 1, 1, 0), (48, .iload 2, 1, 0), (49, .iastore, 1, 0), (50, .iload 3, 1, 0), (51, .ireturn, 1, 0)]
/-- SinglesPast.wish(II)I -/
def tO_114 : List (Nat × av_O) := [(0, .aload 0, 1, 0), (1, .iload 1, 1, 0), (2, .invokevirtual 181, 3, 180), (5, .iload 2, 1, 0), (6, .invokestatic 179, 3, 280), (9, .aload 0, 1, 0), (10, .iload 1, 1, 0), (11, .invokevirtual 184, 3, 283), (14, .aload 0, 1, 0), (15, .invokevirtual 119, 3, 256), (18, .aload 0, 1, 0), (19, .getfield 642, 3, 23), (22, .getfield 386, 3, 183), (25, .iload 1, 1, 0), (26, .iaload, 1, 0), (27, .istore 3, 1, 0), (28, .aload 0, 1, 0), (29, .getfield 642, 3, 23), (32, .getfield 386, 3, 183), (35, .iload 1, 1, 0), (36, .iload 2, 1, 0), (37, .iastore, 1, 0), (38, .iload 3, 1, 0), (39, .ireturn, 1, 0)]
/-- SinglesPast.deed(IIZ)I -/
def tO_115 : List (Nat × av_O) := [(0, .aload 0, 1, 0), (1, .iload 1, 1, 0), (2, .invokevirtual 181, 3, 180), (5, .iload 2, 1, 0), (6, .sipush (-1), 1, 0), (7, .if_icmp .eq 15, 3, 0), (10, .aload 0, 1, 0), (11, .iload 2, 1, 0), (12, .invokevirtual 180, 3, 139), (15, .aload 0, 1, 0), (16, .iload 1, 1, 0), (17, .invokevirtual 184, 3, 283), (20, .aload 0, 1, 0), (21, .invokevirtual 119, 3, 256), (24, .aload 0, 1, 0), (25, .getfield 642, 3, 23), (28, .getfield 387, 3, 186), (31, .iload 1, 1, 0), (32, .iaload, 1, 0), (33, .istore 4, 2, 0), (35, .aload 0, 1, 0), (36, .getfield 642, 3, 23), (39, .iload 1, 1, 0), (40, .iload 2, 1, 0), (41, .iload 3, 1, 0), (42, .invokevirtual 34, 3, 286), (45, .iload 4, 2, 0), (47, .ireturn, 1, 0)]
/-- SinglesPast.quarrel(IIZ)Z -/
def tO_116 : List (Nat × av_O) := [(0, .aload 0, 1, 0), (1, .iload 1, 1, 0), (2, .iload 2, 1, 0), (3, .invokevirtual 182, 3, 290), (6, .aload 0, 1, 0), (7, .invokevirtual 119, 3, 256), (10, .aload 0, 1, 0), (11, .getfield 642, 3, 23), (14, .getfield 392, 3, 201), (17, .iload 1, 1, 0), (18, .iaload, 1, 0), (19, .iload 2, 1, 0), (20, .ishr, 1, 0), (21, .sipush 1, 1, 0), (22, .iand, 1, 0), (23, .ifCond .eq 30, 3, 0), (26, .sipush 1, 1, 0), (27, .goto 31, 3, 0), (30, .sipush 0, 1, 0), (31, .istore 4, 2, 0), (33, .aload 0, 1, 0), (34, .getfield 642, 3, 23), (37, .iload 1, 1, 0), (38, .iload 2, 1, 0), (39, .iload 3, 1, 0), (40, .invokevirtual 35, 3, 294), (43, .iload 4, 2, 0), (45, .iload 3, 1, 0), (46, .if_icmp .eq 53, 3, 0), (49, .sipush 1, 1, 0), (50, .goto 54, 3, 0), (53, .sipush 0, 1, 0), (54, .ireturn, 1, 0)]
/-- SinglesPast.stops(II)I -/
def tO_117 : List (Nat × av_O) := [(0, .aload 0, 1, 0), (1, .iload 1, 1, 0), (2, .invokevirtual 183, 3, 215), (5, .iload 2, 1, 0), (6, .sipush 65535, 3, 297), (9, .iand, 1, 0), (10, .ifCond .ne 24, 3, 0), (13, .instanceof 9, 3, 127), (24, .aload 0, 1, 0), (25, .invokevirtual 119, 3, 256), (28, .aload 0, 1, 0), (29, .getfield 642, 3, 23), (32, .getfield 395, 3, 218), (35, .iload 1, 1, 0), (36, .iaload, 1, 0), (37, .istore 3, 1, 0), (38, .aload 0, 1, 0), (39, .getfield 642, 3, 23), (42, .getfield 395, 3, 218), (45, .iload 1, 1, 0), (46, .iload 2, 1, 0), (47, .sipush 65535, 3, 297), (50, .iand, 1, 0), (51, .iastore, 1, 0), (52, .iload 3, 1, 0), (53, .ireturn, 1, 0)]
/-- SinglesPast.recall(I)I -/
def tO_118 : List (Nat × av_O) := [(0, .aload 0, 1, 0), (1, .iload 1, 1, 0), (2, .invokevirtual 181, 3, 180), (5, .aload 0, 1, 0), (6, .getfield 642, 3, 23), (9, .getfield 393, 3, 204), (12, .iload 1, 1, 0), (13, .iaload, 1, 0), (14, .sipush (-1), 1, 0), (15, .if_icmp .ne 29, 3, 0), (18, .instanceof 10, 3, 263), (29, .aload 0, 1, 0), (30, .invokevirtual 119, 3, 256), (33, .aload 0, 1, 0), (34, .getfield 642, 3, 23), (37, .iload 1, 1, 0), (38, .invokevirtual 49, 3, 302), (41, .ireturn, 1, 0)]
/-- SinglesPast.beginAct()V -/
def tO_119 : List (Nat × av_O) := [(0, .aload 0, 1, 0), (1, .getfield 646, 3, 36), (4, .aload 0, 1, 0), (5, .getfield 642, 3, 23), (8, .invokevirtual 19, 3, 305), (11, .aload 0, 1, 0), (12, .sipush 0, 1, 0), (13, .putfield 649, 3, 135), (16, .return_, 1, 0)]
/-- SinglesPast.world(I)I -/
def tO_120 : List (Nat × av_O) := [(0, .aload 0, 1, 0), (1, .invokevirtual 128, 3, 308), (4, .getfield 576, 3, 312), (7, .iload 1, 1, 0), (8, .aload 0, 1, 0), (9, .getfield 642, 3, 23), (12, .invokevirtual 36, 3, 315), (15, .iand, 1, 0), (16, .iaload, 1, 0), (17, .ireturn, 1, 0)]
/-- SinglesPast.agrees(I)Z -/
def tO_121 : List (Nat × av_O) := [(0, .aload 0, 1, 0), (1, .invokevirtual 128, 3, 308), (4, .iload 1, 1, 0), (5, .aload 0, 1, 0), (6, .getfield 642, 3, 23), (9, .invokevirtual 36, 3, 315), (12, .iand, 1, 0), (13, .aload 0, 1, 0), (14, .getfield 642, 3, 23), (17, .invokevirtual 37, 3, 240), (20, .invokevirtual 90, 3, 318), (23, .ireturn, 1, 0)]
/-- SinglesPast.agree()I -/
def tO_122 : List (Nat × av_O) := [(0, .aload 0, 1, 0), (1, .invokevirtual 128, 3, 308), (4, .aload 0, 1, 0), (5, .getfield 642, 3, 23), (8, .invokevirtual 37, 3, 240), (11, .invokevirtual 91, 3, 321), (14, .ireturn, 1, 0)]
/-- SinglesPast.past()I -/
def tO_123 : List (Nat × av_O) := [(0, .aload 0, 1, 0), (1, .invokevirtual 128, 3, 308), (4, .aload 0, 1, 0), (5, .getfield 642, 3, 23), (8, .invokevirtual 37, 3, 240), (11, .invokevirtual 92, 3, 324), (14, .ireturn, 1, 0)]
/-- SinglesPast.now()I -/
def tO_124 : List (Nat × av_O) := [(0, .aload 0, 1, 0), (1, .invokevirtual 129, 3, 164), (4, .ireturn, 1, 0)]
/-- SinglesPast.ring()I -/
def tO_125 : List (Nat × av_O) := [(0, .aload 0, 1, 0), (1, .invokevirtual 128, 3, 308), (4, .astore 1, 1, 0), (5, .aload 0, 1, 0), (6, .getfield 642, 3, 23), (9, .invokevirtual 37, 3, 240), (12, .istore 2, 1, 0), (13, .sipush (-1), 1, 0), (14, .istore 3, 1, 0), (15, .sipush 1, 1, 0), (16, .istore 4, 2, 0), (18, .iload 4, 2, 0), (20, .sipush 64, 2, 0), (22, .if_icmp .ge 73, 3, 0), (25, .iload 4, 2, 0), (27, .iload 2, 1, 0), (28, .sipush (-1), 1, 0), (29, .ixor, 1, 0), (30, .iand, 1, 0), (31, .ifCond .ne 38, 3, 0), (34, .sipush 1, 1, 0), (35, .goto 39, 3, 0), (38, .sipush 0, 1, 0), (39, .istore 5, 2, 0), (41, .iload 5, 2, 0), (43, .ifCond .eq 67, 3, 0), (46, .iload 4, 2, 0), (48, .iload 3, 1, 0), (49, .invokestatic 131, 3, 327), (52, .ifCond .eq 67, 3, 0), (55, .aload 1, 1, 0), (56, .iload 4, 2, 0), (58, .invokevirtual 91, 3, 321), (61, .ifCond .ne 67, 3, 0), (64, .iload 4, 2, 0), (66, .istore 3, 1, 0), (67, .iinc 4 1, 3, 0), (70, .goto 18, 3, 0), (73, .iload 3, 1, 0), (74, .ireturn, 1, 0)]
/-- SinglesPast.otherwise(I)I -/
def tO_126 : List (Nat × av_O) := [(0, .aload 0, 1, 0), (1, .iload 1, 1, 0), (2, .invokevirtual 181, 3, 180), (5, .aload 0, 1, 0), (6, .invokevirtual 128, 3, 308), (9, .aload 0, 1, 0), (10, .getfield 642, 3, 23), (13, .invokevirtual 37, 3, 240), (16, .sipush 1, 1, 0), (17, .iload 1, 1, 0), (18, .ishl, 1, 0), (19, .ixor, 1, 0), (20, .invokevirtual 93, 3, 330), (23, .ireturn, 1, 0)]
/-- SinglesPast.heavy()I -/
def tO_127 : List (Nat × av_O) := [(0, .sipush (-1), 1, 0), (1, .istore 1, 1, 0), (2, .sipush (-1), 1, 0), (3, .istore 2, 1, 0), (4, .sipush 0, 1, 0), (5, .istore 3, 1, 0), (6, .iload 3, 1, 0), (7, .aload 0, 1, 0), (8, .getfield 642, 3, 23), (11, .getfield 385, 3, 333), (14, .if_icmp .ge 51, 3, 0), (17, .aload 0, 1, 0), (18, .getfield 642, 3, 23), (21, .getfield 384, 3, 142), (24, .aload 0, 1, 0), (25, .iload 3, 1, 0), (26, .invokevirtual 130, 3, 210), (29, .invokevirtual 79, 3, 336), (32, .istore 4, 2, 0), (34, .iload 4, 2, 0), (36, .iload 2, 1, 0), (37, .if_icmp .le 45, 3, 0), (40, .iload 4, 2, 0), (42, .istore 2, 1, 0), (43, .iload 3, 1, 0), (44, .istore 1, 1, 0), (45, .iinc 3 1, 3, 0), (48, .goto 6, 3, 0), (51, .iload 1, 1, 0), (52, .ireturn, 1, 0)]
/-- SinglesPast.freshWorlds()LSinglesPast$Worlds; -/
def tO_128 : List (Nat × av_O) := [(0, .aload 0, 1, 0), (1, .getfield 649, 3, 135), (4, .ifCond .ne 40, 3, 0), (7, .aload 0, 1, 0), (8, .getfield 648, 3, 50), (11, .aload 0, 1, 0), (12, .getfield 642, 3, 23), (15, .aload 0, 1, 0), (16, .getfield 642, 3, 23), (19, .getfield 384, 3, 142), (22, .getfield 513, 3, 152), (25, .aload 0, 1, 0), (26, .getfield 642, 3, 23), (29, .invokevirtual 36, 3, 315), (32, .invokevirtual 84, 3, 339), (35, .aload 0, 1, 0), (36, .sipush 1, 1, 0), (37, .putfield 649, 3, 135), (40, .aload 0, 1, 0), (41, .getfield 648, 3, 50), (44, .areturn, 1, 0)]
/-- SinglesPast.soNow()I -/
def tO_129 : List (Nat × av_O) := [(0, .aload 0, 1, 0), (1, .invokevirtual 128, 3, 308), (4, .aload 0, 1, 0), (5, .getfield 642, 3, 23), (8, .invokevirtual 37, 3, 240), (11, .invokevirtual 93, 3, 330), (14, .ireturn, 1, 0)]
/-- SinglesPast.changesBy(I)I -/
def tO_130 : List (Nat × av_O) := [(0, .aload 0, 1, 0), (1, .invokevirtual 128, 3, 308), (4, .aload 0, 1, 0), (5, .getfield 642, 3, 23), (8, .invokevirtual 37, 3, 240), (11, .sipush 1, 1, 0), (12, .iload 1, 1, 0), (13, .ishl, 1, 0), (14, .ixor, 1, 0), (15, .invokevirtual 93, 3, 330), (18, .aload 0, 1, 0), (19, .invokevirtual 129, 3, 164), (22, .ixor, 1, 0), (23, .ireturn, 1, 0)]
/-- SinglesPast.isFewer(II)Z -/
def tO_131 : List (Nat × av_O) := [(0, .iload 1, 1, 0), (1, .sipush (-1), 1, 0), (2, .if_icmp .eq 16, 3, 0), (5, .iload 0, 1, 0), (6, .invokestatic 357, 3, 227), (9, .iload 1, 1, 0), (10, .invokestatic 357, 3, 227), (13, .if_icmp .ge 20, 3, 0), (16, .sipush 1, 1, 0), (17, .goto 21, 3, 0), (20, .sipush 0, 1, 0), (21, .ireturn, 1, 0)]
/-- SinglesPast.send()I -/
def tO_132 : List (Nat × av_O) := [(0, .aload 0, 1, 0), (1, .invokevirtual 135, 3, 343), (4, .aload 0, 1, 0), (5, .invokevirtual 128, 3, 308), (8, .astore 1, 1, 0), (9, .aload 0, 1, 0), (10, .getfield 642, 3, 23), (13, .invokevirtual 37, 3, 240), (16, .istore 2, 1, 0), (17, .sipush (-1), 1, 0), (18, .istore 3, 1, 0), (19, .sipush 0, 1, 0), (20, .istore 4, 2, 0), (22, .iload 4, 2, 0), (24, .sipush 64, 2, 0), (26, .if_icmp .ge 90, 3, 0), (29, .iload 4, 2, 0), (31, .aload 0, 1, 0), (32, .getfield 642, 3, 23), (35, .invokevirtual 36, 3, 315), (38, .iload 2, 1, 0), (39, .sipush (-1), 1, 0), (40, .ixor, 1, 0), (41, .iand, 1, 0), (42, .sipush (-1), 1, 0), (43, .ixor, 1, 0), (44, .iand, 1, 0), (45, .ifCond .ne 52, 3, 0), (48, .sipush 1, 1, 0), (49, .goto 53, 3, 0), (52, .sipush 0, 1, 0), (53, .istore 5, 2, 0), (55, .iload 5, 2, 0), (57, .ifCond .eq 84, 3, 0), (60, .iload 4, 2, 0), (62, .iload 3, 1, 0), (63, .invokestatic 131, 3, 327), (66, .ifCond .eq 84, 3, 0), (69, .aload 0, 1, 0), (70, .aload 1, 1, 0), (71, .iload 2, 1, 0), (72, .iload 4, 2, 0), (74, .ior, 1, 0), (75, .invokevirtual 137, 3, 346), (78, .ifCond .eq 84, 3, 0), (81, .iload 4, 2, 0), (83, .istore 3, 1, 0), (84, .iinc 4 1, 3, 0), (87, .goto 22, 3, 0), (90, .iload 3, 1, 0), (91, .ireturn, 1, 0)]
/-- SinglesPast.who(Z)I -/
def tO_133 : List (Nat × av_O) := [(0, .aload 0, 1, 0), (1, .invokevirtual 135, 3, 343), (4, .aload 0, 1, 0), (5, .invokevirtual 128, 3, 308), (8, .astore 2, 1, 0), (9, .sipush 0, 1, 0), (10, .istore 3, 1, 0), (11, .sipush 0, 1, 0), (12, .istore 4, 2, 0), (14, .iload 4, 2, 0), (16, .aload 0, 1, 0), (17, .getfield 642, 3, 23), (20, .invokevirtual 36, 3, 315), (23, .if_icmp .gt 52, 3, 0), (26, .aload 0, 1, 0), (27, .aload 2, 1, 0), (28, .iload 4, 2, 0), (30, .invokevirtual 138, 3, 350), (33, .ifCond .eq 46, 3, 0), (36, .iload 1, 1, 0), (37, .ifCond .eq 43, 3, 0), (40, .iload 4, 2, 0), (42, .ireturn, 1, 0), (43, .iinc 3 1, 3, 0), (46, .iinc 4 1, 3, 0), (49, .goto 14, 3, 0), (52, .iload 1, 1, 0), (53, .ifCond .eq 60, 3, 0), (56, .sipush (-1), 1, 0), (57, .goto 61, 3, 0), (60, .iload 3, 1, 0), (61, .ireturn, 1, 0)]
/-- SinglesPast.look()I -/
def tO_134 : List (Nat × av_O) := [(0, .aload 0, 1, 0), (1, .invokevirtual 135, 3, 343), (4, .aload 0, 1, 0), (5, .invokevirtual 128, 3, 308), (8, .astore 1, 1, 0), (9, .aload 0, 1, 0), (10, .aload 1, 1, 0), (11, .sipush (-1), 1, 0), (12, .invokevirtual 139, 3, 353), (15, .istore 2, 1, 0), (16, .iload 2, 1, 0), (17, .sipush 2, 1, 0), (18, .if_icmp .ge 23, 3, 0), (21, .sipush (-1), 1, 0), (22, .ireturn, 1, 0), (23, .sipush (-1), 1, 0), (24, .istore 3, 1, 0), (25, .sipush 65, 2, 0), (27, .istore 4, 2, 0), (29, .sipush 0, 1, 0), (30, .istore 5, 2, 0), (32, .iload 5, 2, 0), (34, .aload 0, 1, 0), (35, .getfield 642, 3, 23), (38, .getfield 384, 3, 142), (41, .getfield 512, 3, 357), (44, .if_icmp .ge 87, 3, 0), (47, .aload 0, 1, 0), (48, .aload 1, 1, 0), (49, .iload 5, 2, 0), (51, .invokevirtual 139, 3, 353), (54, .istore 6, 2, 0), (56, .iload 6, 2, 0), (58, .iload 2, 1, 0), (59, .iload 6, 2, 0), (61, .isub, 1, 0), (62, .invokestatic 358, 3, 360), (65, .istore 7, 2, 0), (67, .iload 7, 2, 0), (69, .iload 4, 2, 0), (71, .if_icmp .ge 81, 3, 0), (74, .iload 7, 2, 0), (76, .istore 4, 2, 0), (78, .iload 5, 2, 0), (80, .istore 3, 1, 0), (81, .iinc 5 1, 3, 0), (84, .goto 32, 3, 0), (87, .iload 3, 1, 0), (88, .ireturn, 1, 0)]
/-- SinglesPast.readTold()V -/
def tO_135 : List (Nat × av_O) := [(0, .aload 0, 1, 0), (1, .getfield 640, 3, 10), (4, .getfield 449, 3, 71), (7, .istore 1, 1, 0), (8, .aload 0, 1, 0), (9, .getfield 640, 3, 10), (12, .sipush 0, 1, 0), (13, .putfield 449, 3, 71), (16, .aload 0, 1, 0), (17, .sipush 0, 1, 0), (18, .putfield 653, 3, 363), (21, .aload 0, 1, 0), (22, .sipush 0, 1, 0), (23, .putfield 654, 3, 366), (26, .iload 1, 1, 0), (27, .sipush 40, 2, 0), (29, .if_icmp .gt 42, 3, 0), (32, .iload 1, 1, 0), (33, .sipush 2, 1, 0), (34, .irem, 1, 0), (35, .ifCond .ne 42, 3, 0), (38, .sipush 1, 1, 0), (39, .goto 43, 3, 0), (42, .sipush 0, 1, 0), (43, .istore 2, 1, 0), (44, .sipush 0, 1, 0), (45, .istore 3, 1, 0), (46, .iload 2, 1, 0), (47, .ifCond .eq 149, 3, 0), (50, .iload 3, 1, 0), (51, .sipush 1, 1, 0), (52, .iadd, 1, 0), (53, .iload 1, 1, 0), (54, .if_icmp .ge 149, 3, 0), (57, .aload 0, 1, 0), (58, .getfield 640, 3, 10), (61, .getfield 448, 3, 369), (64, .iload 3, 1, 0), (65, .iaload, 1, 0), (66, .istore 4, 2, 0), (68, .aload 0, 1, 0), (69, .getfield 640, 3, 10), (72, .getfield 448, 3, 369), (75, .iload 3, 1, 0), (76, .sipush 1, 1, 0), (77, .iadd, 1, 0), (78, .iaload, 1, 0), (79, .istore 5, 2, 0), (81, .iload 4, 2, 0), (83, .aload 0, 1, 0), (84, .getfield 642, 3, 23), (87, .getfield 384, 3, 142), (90, .getfield 512, 3, 357), (93, .if_icmp .ge 106, 3, 0), (96, .iload 5, 2, 0), (98, .sipush 1, 1, 0), (99, .if_icmp .gt 106, 3, 0), (102, .sipush 1, 1, 0), (103, .goto 107, 3, 0), (106, .sipush 0, 1, 0), (107, .istore 2, 1, 0), (108, .iload 5, 2, 0), (110, .sipush 1, 1, 0), (111, .if_icmp .ne 130, 3, 0), (114, .aload 0, 1, 0), (115, .dup, 1, 0), (116, .getfield 653, 3, 363), (119, .sipush 1, 1, 0), (120, .iload 4, 2, 0), (122, .ishl, 1, 0), (123, .ior, 1, 0), (124, .putfield 653, 3, 363), (127, .goto 143, 3, 0), (130, .aload 0, 1, 0), (131, .dup, 1, 0), (132, .getfield 654, 3, 366), (135, .sipush 1, 1, 0), (136, .iload 4, 2, 0), (138, .ishl, 1, 0), (139, .ior, 1, 0), (140, .putfield 654, 3, 366), (143, .iinc 3 2, 3, 0), (146, .goto 46, 3, 0), (149, .iload 2, 1, 0), (150, .ifCond .ne 164, 3, 0), (153, .instanceof 11, 3, 127), (164, .return_, 1, 0)]
/-- SinglesPast.isTold(I)Z -/
def tO_136 : List (Nat × av_O) := [(0, .iload 1, 1, 0), (1, .aload 0, 1, 0), (2, .getfield 653, 3, 363), (5, .iand, 1, 0), (6, .aload 0, 1, 0), (7, .getfield 653, 3, 363), (10, .if_icmp .ne 26, 3, 0), (13, .iload 1, 1, 0), (14, .aload 0, 1, 0), (15, .getfield 654, 3, 366), (18, .iand, 1, 0), (19, .ifCond .ne 26, 3, 0), (22, .sipush 1, 1, 0), (23, .goto 27, 3, 0), (26, .sipush 0, 1, 0), (27, .ireturn, 1, 0)]
/-- SinglesPast.comesAbout(LSinglesPast$Worlds;I)Z -/
def tO_137 : List (Nat × av_O) := [(0, .aload 1, 1, 0), (1, .iload 2, 1, 0), (2, .invokevirtual 92, 3, 324), (5, .istore 3, 1, 0), (6, .iload 3, 1, 0), (7, .sipush (-1), 1, 0), (8, .if_icmp .eq 28, 3, 0), (11, .aload 0, 1, 0), (12, .aload 1, 1, 0), (13, .getfield 576, 3, 312), (16, .iload 3, 1, 0), (17, .iaload, 1, 0), (18, .invokevirtual 136, 3, 374), (21, .ifCond .eq 28, 3, 0), (24, .sipush 1, 1, 0), (25, .goto 29, 3, 0), (28, .sipush 0, 1, 0), (29, .ireturn, 1, 0)]
/-- SinglesPast.fits(LSinglesPast$Worlds;I)Z -/
def tO_138 : List (Nat × av_O) := [(0, .iload 2, 1, 0), (1, .aload 1, 1, 0), (2, .getfield 577, 3, 378), (5, .iload 2, 1, 0), (6, .iaload, 1, 0), (7, .sipush (-1), 1, 0), (8, .ixor, 1, 0), (9, .iand, 1, 0), (10, .ifCond .ne 30, 3, 0), (13, .aload 0, 1, 0), (14, .aload 1, 1, 0), (15, .getfield 576, 3, 312), (18, .iload 2, 1, 0), (19, .iaload, 1, 0), (20, .invokevirtual 136, 3, 374), (23, .ifCond .eq 30, 3, 0), (26, .sipush 1, 1, 0), (27, .goto 31, 3, 0), (30, .sipush 0, 1, 0), (31, .ireturn, 1, 0)]
/-- SinglesPast.countFitting(LSinglesPast$Worlds;I)I -/
def tO_139 : List (Nat × av_O) := [(0, .sipush 0, 1, 0), (1, .istore 3, 1, 0), (2, .sipush 0, 1, 0), (3, .istore 4, 2, 0), (5, .iload 4, 2, 0), (7, .aload 0, 1, 0), (8, .getfield 642, 3, 23), (11, .invokevirtual 36, 3, 315), (14, .if_icmp .gt 67, 3, 0), (17, .iload 2, 1, 0), (18, .sipush (-1), 1, 0), (19, .if_icmp .eq 36, 3, 0), (22, .aload 1, 1, 0), (23, .getfield 576, 3, 312), (26, .iload 4, 2, 0), (28, .iaload, 1, 0), (29, .iload 2, 1, 0), (30, .ishr, 1, 0), (31, .sipush 1, 1, 0), (32, .iand, 1, 0), (33, .ifCond .eq 40, 3, 0), (36, .sipush 1, 1, 0), (37, .goto 41, 3, 0), (40, .sipush 0, 1, 0), (41, .istore 5, 2, 0), (43, .iload 5, 2, 0), (45, .ifCond .eq 61, 3, 0), (48, .aload 0, 1, 0), (49, .aload 1, 1, 0), (50, .iload 4, 2, 0), (52, .invokevirtual 138, 3, 350), (55, .ifCond .eq 61, 3, 0), (58, .iinc 3 1, 3, 0), (61, .iinc 4 1, 3, 0), (64, .goto 5, 3, 0), (67, .iload 3, 1, 0), (68, .ireturn, 1, 0)]
/-- SinglesPast.hangs(I)I -/
def tO_140 : List (Nat × av_O) := [(0, .aload 0, 1, 0), (1, .iload 1, 1, 0), (2, .invokevirtual 180, 3, 139), (5, .aload 0, 1, 0), (6, .iload 1, 1, 0), (7, .invokevirtual 142, 3, 381), (10, .ireturn, 1, 0)]
/-- SinglesPast.key()I -/
def tO_141 : List (Nat × av_O) := [(0, .sipush (-1), 1, 0), (1, .istore 1, 1, 0), (2, .sipush (-1), 1, 0), (3, .istore 2, 1, 0), (4, .sipush 0, 1, 0), (5, .istore 3, 1, 0), (6, .iload 3, 1, 0), (7, .aload 0, 1, 0), (8, .getfield 642, 3, 23), (11, .getfield 384, 3, 142), (14, .getfield 512, 3, 357), (17, .if_icmp .ge 47, 3, 0), (20, .aload 0, 1, 0), (21, .iload 3, 1, 0), (22, .invokevirtual 142, 3, 381), (25, .invokestatic 357, 3, 227), (28, .istore 4, 2, 0), (30, .iload 4, 2, 0), (32, .iload 2, 1, 0), (33, .if_icmp .le 41, 3, 0), (36, .iload 4, 2, 0), (38, .istore 2, 1, 0), (39, .iload 3, 1, 0), (40, .istore 1, 1, 0), (41, .iinc 3 1, 3, 0), (44, .goto 6, 3, 0), (47, .iload 1, 1, 0), (48, .ireturn, 1, 0)]
/-- SinglesPast.hangingOn(I)I -/
def tO_142 : List (Nat × av_O) := [(0, .aload 0, 1, 0), (1, .getfield 642, 3, 23), (4, .invokevirtual 37, 3, 240), (7, .istore 2, 1, 0), (8, .aload 0, 1, 0), (9, .getfield 650, 3, 54), (12, .aload 0, 1, 0), (13, .getfield 642, 3, 23), (16, .aload 0, 1, 0), (17, .getfield 642, 3, 23), (20, .getfield 384, 3, 142), (23, .getfield 513, 3, 152), (26, .sipush 1, 1, 0), (27, .iload 1, 1, 0), (28, .ishl, 1, 0), (29, .ixor, 1, 0), (30, .iload 2, 1, 0), (31, .invokevirtual 84, 3, 339), (34, .aload 0, 1, 0), (35, .getfield 650, 3, 54), (38, .iload 2, 1, 0), (39, .invokevirtual 93, 3, 330), (42, .aload 0, 1, 0), (43, .invokevirtual 129, 3, 164), (46, .ixor, 1, 0), (47, .ireturn, 1, 0)]
/-- SinglesPast.loose()I -/
def tO_143 : List (Nat × av_O) := [(0, .aload 0, 1, 0), (1, .getfield 642, 3, 23), (4, .getfield 384, 3, 142), (7, .invokevirtual 80, 3, 384), (10, .ireturn, 1, 0)]
/-- SinglesPast.kills(II)Z -/
def tO_144 : List (Nat × av_O) := [(0, .aload 0, 1, 0), (1, .iload 1, 1, 0), (2, .iload 2, 1, 0), (3, .invokevirtual 182, 3, 290), (6, .aload 0, 1, 0), (7, .invokevirtual 128, 3, 308), (10, .getfield 577, 3, 378), (13, .sipush 1, 1, 0), (14, .iload 1, 1, 0), (15, .ishl, 1, 0), (16, .iaload, 1, 0), (17, .iload 2, 1, 0), (18, .ishr, 1, 0), (19, .sipush 1, 1, 0), (20, .iand, 1, 0), (21, .ifCond .ne 28, 3, 0), (24, .sipush 1, 1, 0), (25, .goto 29, 3, 0), (28, .sipush 0, 1, 0), (29, .ireturn, 1, 0)]
/-- SinglesPast.colours(I)I -/
def tO_145 : List (Nat × av_O) := [(0, .iload 1, 1, 0), (1, .sipush (-1), 1, 0), (2, .if_icmp .eq 10, 3, 0), (5, .aload 0, 1, 0), (6, .iload 1, 1, 0), (7, .invokevirtual 181, 3, 180), (10, .aload 0, 1, 0), (11, .getfield 651, 3, 60), (14, .aload 0, 1, 0), (15, .getfield 642, 3, 23), (18, .aload 0, 1, 0), (19, .getfield 642, 3, 23), (22, .invokevirtual 38, 3, 387), (25, .invokevirtual 26, 3, 390), (28, .istore 2, 1, 0), (29, .iload 1, 1, 0), (30, .sipush (-1), 1, 0), (31, .if_icmp .ne 38, 3, 0), (34, .iload 2, 1, 0), (35, .goto 47, 3, 0), (38, .aload 0, 1, 0), (39, .getfield 651, 3, 60), (42, .getfield 320, 3, 394), (45, .iload 1, 1, 0), (46, .iaload, 1, 0), (47, .ireturn, 1, 0)]
/-- SinglesPast.clash()I -/
def tO_146 : List (Nat × av_O) := [(0, .aload 0, 1, 0), (1, .getfield 642, 3, 23), (4, .invokevirtual 38, 3, 387), (7, .istore 1, 1, 0), (8, .sipush (-1), 1, 0), (9, .istore 2, 1, 0), (10, .sipush 1, 1, 0), (11, .istore 3, 1, 0), (12, .iload 3, 1, 0), (13, .sipush 64, 2, 0), (15, .if_icmp .ge 69, 3, 0), (18, .iload 3, 1, 0), (19, .iload 1, 1, 0), (20, .sipush (-1), 1, 0), (21, .ixor, 1, 0), (22, .iand, 1, 0), (23, .ifCond .ne 30, 3, 0), (26, .sipush 1, 1, 0), (27, .goto 31, 3, 0), (30, .sipush 0, 1, 0), (31, .istore 4, 2, 0), (33, .iload 4, 2, 0), (35, .ifCond .eq 63, 3, 0), (38, .iload 3, 1, 0), (39, .iload 2, 1, 0), (40, .invokestatic 131, 3, 327), (43, .ifCond .eq 63, 3, 0), (46, .aload 0, 1, 0), (47, .getfield 651, 3, 60), (50, .aload 0, 1, 0), (51, .getfield 642, 3, 23), (54, .iload 3, 1, 0), (55, .invokevirtual 27, 3, 397), (58, .ifCond .ne 63, 3, 0), (61, .iload 3, 1, 0), (62, .istore 2, 1, 0), (63, .iinc 3 1, 3, 0), (66, .goto 12, 3, 0), (69, .iload 2, 1, 0), (70, .ireturn, 1, 0)]
/-- SinglesPast.price(IZ)I -/
def tO_147 : List (Nat × av_O) := [(0, .iload 1, 1, 0), (1, .invokestatic 179, 3, 280), (4, .aload 0, 1, 0), (5, .iload 1, 1, 0), (6, .invokevirtual 149, 3, 401), (9, .istore 3, 1, 0), (10, .iload 2, 1, 0), (11, .ifCond .eq 23, 3, 0), (14, .aload 0, 1, 0), (15, .iload 1, 1, 0), (16, .iload 3, 1, 0), (17, .invokevirtual 150, 3, 404), (20, .goto 24, 3, 0), (23, .iload 3, 1, 0), (24, .ireturn, 1, 0)]
/-- SinglesPast.dearest()I -/
def tO_148 : List (Nat × av_O) := [(0, .sipush 0, 1, 0), (1, .istore 1, 1, 0), (2, .sipush (-1), 1, 0), (3, .istore 2, 1, 0), (4, .sipush 0, 1, 0), (5, .istore 3, 1, 0), (6, .iload 3, 1, 0), (7, .sipush 16, 2, 0), (9, .if_icmp .ge 41, 3, 0), (12, .aload 0, 1, 0), (13, .iload 3, 1, 0), (14, .aload 0, 1, 0), (15, .iload 3, 1, 0), (16, .invokevirtual 149, 3, 401), (19, .invokevirtual 150, 3, 404), (22, .istore 4, 2, 0), (24, .iload 4, 2, 0), (26, .iload 2, 1, 0), (27, .if_icmp .le 35, 3, 0), (30, .iload 4, 2, 0), (32, .istore 2, 1, 0), (33, .iload 3, 1, 0), (34, .istore 1, 1, 0), (35, .iinc 3 1, 3, 0), (38, .goto 6, 3, 0), (41, .iload 1, 1, 0), (42, .ireturn, 1, 0)]
/-- SinglesPast.bestPrice(I)I -/
def tO_149 : List (Nat × av_O) := [(0, .sipush 0, 1, 0), (1, .istore 2, 1, 0), (2, .sipush 0, 1, 0), (3, .istore 3, 1, 0), (4, .sipush 0, 1, 0), (5, .istore 4, 2, 0), (7, .iload 4, 2, 0), (9, .aload 0, 1, 0), (10, .getfield 642, 3, 23), (13, .getfield 385, 3, 333), (16, .if_icmp .ge 70, 3, 0), (19, .aload 0, 1, 0), (20, .getfield 642, 3, 23), (23, .getfield 390, 3, 195), (26, .iload 4, 2, 0), (28, .iaload, 1, 0), (29, .istore 5, 2, 0), (31, .aload 0, 1, 0), (32, .iload 1, 1, 0), (33, .iload 5, 2, 0), (35, .invokevirtual 150, 3, 404), (38, .istore 6, 2, 0), (40, .iload 6, 2, 0), (42, .iload 3, 1, 0), (43, .if_icmp .gt 58, 3, 0), (46, .iload 6, 2, 0), (48, .iload 3, 1, 0), (49, .if_icmp .ne 64, 3, 0), (52, .iload 5, 2, 0), (54, .iload 2, 1, 0), (55, .if_icmp .ge 64, 3, 0), (58, .iload 6, 2, 0), (60, .istore 3, 1, 0), (61, .iload 5, 2, 0), (63, .istore 2, 1, 0), (64, .iinc 4 1, 3, 0), (67, .goto 7, 3, 0), (70, .iload 2, 1, 0), (71, .ireturn, 1, 0)]
/-- SinglesPast.earningsAt(II)I -/
def tO_150 : List (Nat × av_O) := [(0, .sipush 0, 1, 0), (1, .istore 3, 1, 0), (2, .sipush 0, 1, 0), (3, .istore 4, 2, 0), (5, .iload 4, 2, 0), (7, .aload 0, 1, 0), (8, .getfield 642, 3, 23), (11, .getfield 385, 3, 333), (14, .if_icmp .ge 80, 3, 0), (17, .aload 0, 1, 0), (18, .getfield 642, 3, 23), (21, .getfield 393, 3, 204), (24, .iload 4, 2, 0), (26, .iaload, 1, 0), (27, .sipush (-1), 1, 0), (28, .if_icmp .ne 49, 3, 0), (31, .aload 0, 1, 0), (32, .getfield 642, 3, 23), (35, .getfield 386, 3, 183), (38, .iload 4, 2, 0), (40, .iaload, 1, 0), (41, .iload 1, 1, 0), (42, .if_icmp .ne 49, 3, 0), (45, .sipush 1, 1, 0), (46, .goto 50, 3, 0), (49, .sipush 0, 1, 0), (50, .istore 5, 2, 0), (52, .iload 5, 2, 0), (54, .ifCond .eq 74, 3, 0), (57, .aload 0, 1, 0), (58, .getfield 642, 3, 23), (61, .getfield 390, 3, 195), (64, .iload 4, 2, 0), (66, .iaload, 1, 0), (67, .iload 2, 1, 0), (68, .if_icmp .lt 74, 3, 0), (71, .iinc 3 1, 3, 0), (74, .iinc 4 1, 3, 0), (77, .goto 5, 3, 0), (80, .iload 2, 1, 0), (81, .iload 3, 1, 0), (82, .imul, 1, 0), (83, .ireturn, 1, 0)]
/-- SinglesPast.crowd(I)I -/
def tO_151 : List (Nat × av_O) := [(0, .iload 1, 1, 0), (1, .invokestatic 179, 3, 280), (4, .sipush 0, 1, 0), (5, .istore 2, 1, 0), (6, .sipush 0, 1, 0), (7, .istore 3, 1, 0), (8, .iload 3, 1, 0), (9, .aload 0, 1, 0), (10, .getfield 642, 3, 23), (13, .getfield 385, 3, 333), (16, .if_icmp .ge 44, 3, 0), (19, .aload 0, 1, 0), (20, .getfield 642, 3, 23), (23, .getfield 386, 3, 183), (26, .iload 3, 1, 0), (27, .iaload, 1, 0), (28, .iload 1, 1, 0), (29, .if_icmp .ne 38, 3, 0), (32, .iload 2, 1, 0), (33, .sipush 1, 1, 0), (34, .iload 3, 1, 0), (35, .ishl, 1, 0), (36, .ior, 1, 0), (37, .istore 2, 1, 0), (38, .iinc 3 1, 3, 0), (41, .goto 8, 3, 0), (44, .iload 2, 1, 0), (45, .ireturn, 1, 0)]
/-- SinglesPast.asks(IZ)I -/
def tO_152 : List (Nat × av_O) := [(0, .iload 1, 1, 0), (1, .sipush 65535, 3, 297), (4, .iand, 1, 0), (5, .istore 3, 1, 0), (6, .iload 3, 1, 0), (7, .invokestatic 357, 3, 227), (10, .invokestatic 153, 3, 407), (13, .istore 4, 2, 0), (15, .iload 2, 1, 0), (16, .ifCond .ne 22, 3, 0), (19, .iload 4, 2, 0), (21, .ireturn, 1, 0), (22, .iload 4, 2, 0), (24, .ifCond .ne 31, 3, 0), (27, .sipush (-1), 1, 0), (28, .goto 41, 3, 0), (31, .iload 3, 1, 0), (32, .sipush 1, 1, 0), (33, .iload 4, 2, 0), (35, .sipush 1, 1, 0), (36, .isub, 1, 0), (37, .ishl, 1, 0), (38, .invokestatic 154, 3, 410), (41, .ireturn, 1, 0)]
/-- SinglesPast.questionsFor(I)I -/
def tO_153 : List (Nat × av_O) := [(0, .sipush 0, 1, 0), (1, .istore 1, 1, 0), (2, .sipush 1, 1, 0), (3, .istore 2, 1, 0), (4, .iload 2, 1, 0), (5, .iload 0, 1, 0), (6, .if_icmp .ge 25, 3, 0), (9, .iload 2, 1, 0), (10, .sipush 16, 2, 0), (12, .if_icmp .ge 25, 3, 0), (15, .iinc 1 1, 3, 0), (18, .iload 2, 1, 0), (19, .sipush 2, 1, 0), (20, .imul, 1, 0), (21, .istore 2, 1, 0), (22, .goto 4, 3, 0), (25, .iload 1, 1, 0), (26, .ireturn, 1, 0)]
/-- SinglesPast.openingOf(II)I -/
def tO_154 : List (Nat × av_O) := [(0, .iload 0, 1, 0), (1, .invokestatic 357, 3, 227), (4, .istore 2, 1, 0), (5, .sipush 0, 1, 0), (6, .istore 3, 1, 0), (7, .iload 3, 1, 0), (8, .sipush 15, 2, 0), (10, .if_icmp .ge 47, 3, 0), (13, .iload 0, 1, 0), (14, .sipush 2, 1, 0), (15, .iload 3, 1, 0), (16, .ishl, 1, 0), (17, .sipush 1, 1, 0), (18, .isub, 1, 0), (19, .iand, 1, 0), (20, .invokestatic 357, 3, 227), (23, .istore 4, 2, 0), (25, .iload 4, 2, 0), (27, .iload 1, 1, 0), (28, .if_icmp .gt 41, 3, 0), (31, .iload 2, 1, 0), (32, .iload 4, 2, 0), (34, .isub, 1, 0), (35, .iload 1, 1, 0), (36, .if_icmp .gt 41, 3, 0), (39, .iload 3, 1, 0), (40, .ireturn, 1, 0), (41, .iinc 3 1, 3, 0), (44, .goto 7, 3, 0), (47, .sipush (-1), 1, 0), (48, .ireturn, 1, 0)]
/-- SinglesPast.pick(IZ)I -/
def tO_155 : List (Nat × av_O) := [(0, .iload 1, 1, 0), (1, .sipush 1, 1, 0), (2, .if_icmp .lt 11, 3, 0), (5, .iload 1, 1, 0), (6, .sipush 10, 2, 0), (8, .if_icmp .le 22, 3, 0), (11, .instanceof 12, 3, 127), (22, .sipush 0, 1, 0), (23, .istore 3, 1, 0), (24, .sipush (-1), 1, 0), (25, .istore 4, 2, 0), (27, .sipush 0, 1, 0), (28, .istore 5, 2, 0), (30, .iload 5, 2, 0), (32, .iload 1, 1, 0), (33, .if_icmp .ge 64, 3, 0), (36, .iload 1, 1, 0), (37, .iload 5, 2, 0), (39, .invokestatic 156, 3, 415), (42, .istore 6, 2, 0), (44, .iload 6, 2, 0), (46, .iload 4, 2, 0), (48, .if_icmp .le 58, 3, 0), (51, .iload 6, 2, 0), (53, .istore 4, 2, 0), (55, .iload 5, 2, 0), (57, .istore 3, 1, 0), (58, .iinc 5 1, 3, 0), (61, .goto 30, 3, 0), (64, .iload 2, 1, 0), (65, .ifCond .eq 73, 3, 0), (68, .iload 4, 2, 0), (70, .goto 74, 3, 0), (73, .iload 3, 1, 0), (74, .ireturn, 1, 0)]
/-- SinglesPast.ordersThatPickBest(II)I -/
def tO_156 : List (Nat × av_O) := [(0, .sipush 1, 1, 0), (1, .istore 2, 1, 0), (2, .sipush 2, 1, 0), (3, .istore 3, 1, 0), (4, .iload 3, 1, 0), (5, .iload 0, 1, 0), (6, .if_icmp .ge 19, 3, 0), (9, .iload 2, 1, 0), (10, .iload 3, 1, 0), (11, .imul, 1, 0), (12, .istore 2, 1, 0), (13, .iinc 3 1, 3, 0), (16, .goto 4, 3, 0), (19, .iload 1, 1, 0), (20, .ifCond .ne 25, 3, 0), (23, .iload 2, 1, 0), (24, .ireturn, 1, 0), (25, .sipush 0, 1, 0), (26, .istore 3, 1, 0), (27, .sipush 1, 1, 0), (28, .iload 1, 1, 0), (29, .invokestatic 358, 3, 360), (32, .istore 4, 2, 0), (34, .iload 4, 2, 0), (36, .iload 0, 1, 0), (37, .if_icmp .ge 55, 3, 0), (40, .iload 3, 1, 0), (41, .iload 2, 1, 0), (42, .iload 4, 2, 0), (44, .idiv, 1, 0), (45, .iload 1, 1, 0), (46, .imul, 1, 0), (47, .iadd, 1, 0), (48, .istore 3, 1, 0), (49, .iinc 4 1, 3, 0), (52, .goto 34, 3, 0), (55, .iload 3, 1, 0), (56, .ireturn, 1, 0)]
/-- SinglesPast.pairs(I)I -/
def tO_157 : List (Nat × av_O) := [(0, .iload 1, 1, 0), (1, .sipush (-1), 1, 0), (2, .if_icmp .eq 10, 3, 0), (5, .aload 0, 1, 0), (6, .iload 1, 1, 0), (7, .invokevirtual 181, 3, 180), (10, .aload 0, 1, 0), (11, .getfield 652, 3, 67), (14, .aload 0, 1, 0), (15, .getfield 642, 3, 23), (18, .aload 0, 1, 0), (19, .getfield 642, 3, 23), (22, .invokevirtual 38, 3, 387), (25, .invokevirtual 23, 3, 418), (28, .istore 2, 1, 0), (29, .iload 1, 1, 0), (30, .sipush (-1), 1, 0), (31, .if_icmp .ne 38, 3, 0), (34, .iload 2, 1, 0), (35, .goto 47, 3, 0), (38, .aload 0, 1, 0), (39, .getfield 652, 3, 67), (42, .getfield 256, 3, 421), (45, .iload 1, 1, 0), (46, .iaload, 1, 0), (47, .ireturn, 1, 0)]
/-- SinglesPast.rests(I)I -/
def tO_158 : List (Nat × av_O) := [(0, .aload 0, 1, 0), (1, .iload 1, 1, 0), (2, .invokevirtual 181, 3, 180), (5, .aload 0, 1, 0), (6, .getfield 642, 3, 23), (9, .getfield 391, 3, 198), (12, .iload 1, 1, 0), (13, .iaload, 1, 0), (14, .istore 2, 1, 0), (15, .sipush 0, 1, 0), (16, .istore 3, 1, 0), (17, .sipush 0, 1, 0), (18, .istore 4, 2, 0), (20, .iload 4, 2, 0), (22, .sipush 2, 1, 0), (23, .if_icmp .ge 123, 3, 0), (26, .sipush 0, 1, 0), (27, .istore 5, 2, 0), (29, .iload 5, 2, 0), (31, .sipush 2, 1, 0), (32, .if_icmp .ge 117, 3, 0), (35, .sipush 1, 1, 0), (36, .iload 4, 2, 0), (38, .isub, 1, 0), (39, .iload 5, 2, 0), (41, .iload 2, 1, 0), (42, .invokestatic 159, 3, 422), (45, .iload 4, 2, 0), (47, .iload 5, 2, 0), (49, .iload 2, 1, 0), (50, .invokestatic 159, 3, 422), (53, .if_icmp .gt 60, 3, 0), (56, .sipush 1, 1, 0), (57, .goto 61, 3, 0), (60, .sipush 0, 1, 0), (61, .istore 6, 2, 0), (63, .iload 4, 2, 0), (65, .sipush 1, 1, 0), (66, .iload 5, 2, 0), (68, .isub, 1, 0), (69, .invokestatic 160, 3, 426), (72, .iload 4, 2, 0), (74, .iload 5, 2, 0), (76, .invokestatic 160, 3, 426), (79, .if_icmp .gt 86, 3, 0), (82, .sipush 1, 1, 0), (83, .goto 87, 3, 0), (86, .sipush 0, 1, 0), (87, .istore 7, 2, 0), (89, .iload 6, 2, 0), (91, .ifCond .eq 111, 3, 0), (94, .iload 7, 2, 0), (96, .ifCond .eq 111, 3, 0), (99, .iload 3, 1, 0), (100, .sipush 1, 1, 0), (101, .sipush 2, 1, 0), (102, .iload 4, 2, 0), (104, .imul, 1, 0), (105, .iload 5, 2, 0), (107, .iadd, 1, 0), (108, .ishl, 1, 0), (109, .ior, 1, 0), (110, .istore 3, 1, 0), (111, .iinc 5 1, 3, 0), (114, .goto 29, 3, 0), (117, .iinc 4 1, 3, 0), (120, .goto 20, 3, 0), (123, .iload 3, 1, 0), (124, .ireturn, 1, 0)]
/-- SinglesPast.manHas(III)I -/
def tO_159 : List (Nat × av_O) := [(0, .iload 0, 1, 0), (1, .ifCond .ne 18, 3, 0), (4, .iload 1, 1, 0), (5, .ifCond .ne 15, 3, 0), (8, .iload 2, 1, 0), (9, .sipush 10, 2, 0), (11, .idiv, 1, 0), (12, .goto 17, 3, 0), (15, .sipush (-2), 2, 0), (17, .ireturn, 1, 0), (18, .iload 1, 1, 0), (19, .ifCond .ne 26, 3, 0), (22, .sipush 3, 1, 0), (23, .goto 27, 3, 0), (26, .sipush 0, 1, 0), (27, .ireturn, 1, 0)]
/-- SinglesPast.clerkHas(II)I -/
def tO_160 : List (Nat × av_O) := [(0, .iload 0, 1, 0), (1, .ifCond .ne 14, 3, 0), (4, .iload 1, 1, 0), (5, .ifCond .ne 12, 3, 0), (8, .sipush (-1), 1, 0), (9, .goto 13, 3, 0), (12, .sipush 1, 1, 0), (13, .ireturn, 1, 0), (14, .iload 1, 1, 0), (15, .ifCond .ne 23, 3, 0), (18, .sipush (-2), 2, 0), (20, .goto 24, 3, 0), (23, .sipush 0, 1, 0), (24, .ireturn, 1, 0)]
/-- SinglesPast.odds(II)I -/
def tO_161 : List (Nat × av_O) := [(0, .aload 0, 1, 0), (1, .iload 1, 1, 0), (2, .invokevirtual 181, 3, 180), (5, .iload 2, 1, 0), (6, .ifCond .lt 14, 3, 0), (9, .iload 2, 1, 0), (10, .sipush 4, 1, 0), (11, .if_icmp .le 25, 3, 0), (14, .instanceof 13, 3, 127), (25, .aload 0, 1, 0), (26, .getfield 642, 3, 23), (29, .iload 1, 1, 0), (30, .invokevirtual 47, 3, 207), (33, .istore 3, 1, 0), (34, .iload 3, 1, 0), (35, .sipush (-1), 1, 0), (36, .if_icmp .ne 43, 3, 0), (39, .sipush 0, 1, 0), (40, .goto 66, 3, 0), (43, .sipush 0, 1, 0), (44, .aload 0, 1, 0), (45, .getfield 642, 3, 23), (48, .getfield 391, 3, 198), (51, .iload 1, 1, 0), (52, .iaload, 1, 0), (53, .aload 0, 1, 0), (54, .getfield 642, 3, 23), (57, .iload 1, 1, 0), (58, .iload 3, 1, 0), (59, .invokevirtual 45, 3, 247), (62, .isub, 1, 0), (63, .invokestatic 358, 3, 360), (66, .istore 4, 2, 0), (68, .sipush 10000, 3, 0), (71, .istore 5, 2, 0), (73, .sipush 0, 1, 0), (74, .istore 6, 2, 0), (76, .iload 6, 2, 0), (78, .iload 2, 1, 0), (79, .if_icmp .ge 101, 3, 0), (82, .iload 5, 2, 0), (84, .sipush 100, 2, 0), (86, .iload 4, 2, 0), (88, .isub, 1, 0), (89, .imul, 1, 0), (90, .sipush 100, 2, 0), (92, .idiv, 1, 0), (93, .istore 5, 2, 0), (95, .iinc 6 1, 3, 0), (98, .goto 76, 3, 0), (101, .iload 5, 2, 0), (103, .ireturn, 1, 0)]
/-- SinglesPast.brave()I -/
def tO_162 : List (Nat × av_O) := [(0, .sipush (-1), 1, 0), (1, .istore 1, 1, 0), (2, .sipush (-1), 1, 0), (3, .istore 2, 1, 0), (4, .sipush 0, 1, 0), (5, .istore 3, 1, 0), (6, .iload 3, 1, 0), (7, .aload 0, 1, 0), (8, .getfield 642, 3, 23), (11, .getfield 385, 3, 333), (14, .if_icmp .ge 61, 3, 0), (17, .aload 0, 1, 0), (18, .getfield 642, 3, 23), (21, .getfield 393, 3, 204), (24, .iload 3, 1, 0), (25, .iaload, 1, 0), (26, .sipush (-1), 1, 0), (27, .if_icmp .ne 55, 3, 0), (30, .aload 0, 1, 0), (31, .getfield 642, 3, 23), (34, .getfield 391, 3, 198), (37, .iload 3, 1, 0), (38, .iaload, 1, 0), (39, .iload 2, 1, 0), (40, .if_icmp .le 55, 3, 0), (43, .aload 0, 1, 0), (44, .getfield 642, 3, 23), (47, .getfield 391, 3, 198), (50, .iload 3, 1, 0), (51, .iaload, 1, 0), (52, .istore 2, 1, 0), (53, .iload 3, 1, 0), (54, .istore 1, 1, 0), (55, .iinc 3 1, 3, 0), (58, .goto 6, 3, 0), (61, .iload 1, 1, 0), (62, .ireturn, 1, 0)]
/-- SinglesPast.gone()I -/
def tO_163 : List (Nat × av_O) := [(0, .aload 0, 1, 0), (1, .getfield 642, 3, 23), (4, .invokevirtual 37, 3, 240), (7, .ireturn, 1, 0)]
/-- SinglesPast.unborn()I -/
def tO_164 : List (Nat × av_O) := [(0, .aload 0, 1, 0), (1, .getfield 642, 3, 23), (4, .invokevirtual 36, 3, 315), (7, .aload 0, 1, 0), (8, .getfield 642, 3, 23), (11, .aload 0, 1, 0), (12, .invokevirtual 129, 3, 164), (15, .invokevirtual 43, 3, 431), (18, .sipush (-1), 1, 0), (19, .ixor, 1, 0), (20, .iand, 1, 0), (21, .ireturn, 1, 0)]
/-- SinglesPast.twins()I -/
def tO_165 : List (Nat × av_O) := [(0, .sipush 0, 1, 0), (1, .istore 1, 1, 0), (2, .sipush 0, 1, 0), (3, .istore 2, 1, 0), (4, .iload 2, 1, 0), (5, .aload 0, 1, 0), (6, .getfield 642, 3, 23), (9, .getfield 385, 3, 333), (12, .if_icmp .ge 87, 3, 0), (15, .iload 2, 1, 0), (16, .sipush 1, 1, 0), (17, .iadd, 1, 0), (18, .istore 3, 1, 0), (19, .iload 3, 1, 0), (20, .aload 0, 1, 0), (21, .getfield 642, 3, 23), (24, .getfield 385, 3, 333), (27, .if_icmp .ge 81, 3, 0), (30, .aload 0, 1, 0), (31, .getfield 642, 3, 23), (34, .getfield 386, 3, 183), (37, .iload 2, 1, 0), (38, .iaload, 1, 0), (39, .aload 0, 1, 0), (40, .getfield 642, 3, 23), (43, .getfield 386, 3, 183), (46, .iload 3, 1, 0), (47, .iaload, 1, 0), (48, .if_icmp .ne 75, 3, 0), (51, .aload 0, 1, 0), (52, .getfield 642, 3, 23), (55, .getfield 387, 3, 186), (58, .iload 2, 1, 0), (59, .iaload, 1, 0), (60, .aload 0, 1, 0), (61, .getfield 642, 3, 23), (64, .getfield 387, 3, 186), (67, .iload 3, 1, 0), (68, .iaload, 1, 0), (69, .if_icmp .ne 75, 3, 0), (72, .iinc 1 1, 3, 0), (75, .iinc 3 1, 3, 0), (78, .goto 19, 3, 0), (81, .iinc 2 1, 3, 0), (84, .goto 4, 3, 0), (87, .iload 1, 1, 0), (88, .ireturn, 1, 0)]
/-- SinglesPast.worth()I -/
def tO_166 : List (Nat × av_O) := [(0, .aload 0, 1, 0), (1, .getfield 642, 3, 23), (4, .getfield 384, 3, 142), (7, .aload 0, 1, 0), (8, .invokevirtual 129, 3, 164), (11, .invokevirtual 79, 3, 336), (14, .ireturn, 1, 0)]
/-- SinglesPast.empty()I -/
def tO_167 : List (Nat × av_O) := [(0, .sipush 0, 1, 0), (1, .istore 1, 1, 0), (2, .sipush 0, 1, 0), (3, .istore 2, 1, 0), (4, .iload 2, 1, 0), (5, .aload 0, 1, 0), (6, .getfield 642, 3, 23), (9, .getfield 394, 3, 434), (12, .if_icmp .ge 38, 3, 0), (15, .aload 0, 1, 0), (16, .getfield 642, 3, 23), (19, .iload 2, 1, 0), (20, .invokevirtual 39, 3, 224), (23, .ifCond .ne 32, 3, 0), (26, .iload 1, 1, 0), (27, .sipush 1, 1, 0), (28, .iload 2, 1, 0), (29, .ishl, 1, 0), (30, .ior, 1, 0), (31, .istore 1, 1, 0), (32, .iinc 2 1, 3, 0), (35, .goto 4, 3, 0), (38, .iload 1, 1, 0), (39, .ireturn, 1, 0)]
/-- SinglesPast.never()I -/
def tO_168 : List (Nat × av_O) := [(0, .sipush 65535, 3, 297), (3, .aload 0, 1, 0), (4, .getfield 642, 3, 23), (7, .invokevirtual 40, 3, 237), (10, .sipush (-1), 1, 0), (11, .ixor, 1, 0), (12, .iand, 1, 0), (13, .ireturn, 1, 0)]
/-- SinglesPast.ahead(II)I -/
def tO_169 : List (Nat × av_O) := [(0, .aload 0, 1, 0), (1, .iload 1, 1, 0), (2, .invokevirtual 181, 3, 180), (5, .iload 2, 1, 0), (6, .invokestatic 185, 3, 437), (9, .aload 0, 1, 0), (10, .getfield 645, 3, 30), (13, .aload 0, 1, 0), (14, .getfield 642, 3, 23), (17, .invokevirtual 31, 3, 78), (20, .aload 0, 1, 0), (21, .getfield 645, 3, 30), (24, .iload 2, 1, 0), (25, .sipush 0, 1, 0), (26, .invokevirtual 50, 3, 259), (29, .pop, 1, 0), (30, .aload 0, 1, 0), (31, .getfield 645, 3, 30), (34, .getfield 393, 3, 204), (37, .iload 1, 1, 0), (38, .iaload, 1, 0), (39, .ireturn, 1, 0)]
/-- SinglesPast.trial(IZ)I -/
def tO_170 : List (Nat × av_O) := [(0, .iload 1, 1, 0), (1, .invokestatic 185, 3, 437), (4, .aload 0, 1, 0), (5, .getfield 645, 3, 30), (8, .aload 0, 1, 0), (9, .getfield 642, 3, 23), (12, .invokevirtual 31, 3, 78), (15, .aload 0, 1, 0), (16, .getfield 645, 3, 30), (19, .iload 1, 1, 0), (20, .sipush 1, 1, 0), (21, .invokevirtual 50, 3, 259), (24, .pop, 1, 0), (25, .aload 0, 1, 0), (26, .getfield 645, 3, 30), (29, .invokevirtual 37, 3, 240), (32, .istore 3, 1, 0), (33, .iload 2, 1, 0), (34, .ifCond .eq 48, 3, 0), (37, .aload 0, 1, 0), (38, .invokevirtual 128, 3, 308), (41, .iload 3, 1, 0), (42, .invokevirtual 91, 3, 321), (45, .goto 49, 3, 0), (48, .iload 3, 1, 0), (49, .ireturn, 1, 0)]
/-- SinglesPast.span(IZ)I -/
def tO_171 : List (Nat × av_O) := [(0, .iload 1, 1, 0), (1, .invokestatic 185, 3, 437), (4, .sipush 6, 2, 0), (6, .istore 3, 1, 0), (7, .sipush 0, 1, 0), (8, .istore 4, 2, 0), (10, .sipush 1, 1, 0), (11, .istore 5, 2, 0), (13, .iload 5, 2, 0), (15, .sipush 6, 2, 0), (17, .if_icmp .gt 84, 3, 0), (20, .aload 0, 1, 0), (21, .getfield 645, 3, 30), (24, .aload 0, 1, 0), (25, .getfield 642, 3, 23), (28, .invokevirtual 31, 3, 78), (31, .aload 0, 1, 0), (32, .getfield 645, 3, 30), (35, .iload 5, 2, 0), (37, .putfield 400, 3, 440), (40, .aload 0, 1, 0), (41, .getfield 645, 3, 30), (44, .iload 1, 1, 0), (45, .sipush 1, 1, 0), (46, .invokevirtual 50, 3, 259), (49, .pop, 1, 0), (50, .aload 0, 1, 0), (51, .getfield 645, 3, 30), (54, .invokevirtual 37, 3, 240), (57, .invokestatic 357, 3, 227), (60, .istore 6, 2, 0), (62, .iload 3, 1, 0), (63, .iload 6, 2, 0), (65, .invokestatic 359, 3, 273), (68, .istore 3, 1, 0), (69, .iload 4, 2, 0), (71, .iload 6, 2, 0), (73, .invokestatic 358, 3, 360), (76, .istore 4, 2, 0), (78, .iinc 5 1, 3, 0), (81, .goto 13, 3, 0), (84, .iload 2, 1, 0), (85, .ifCond .eq 93, 3, 0), (88, .iload 4, 2, 0), (90, .goto 94, 3, 0), (93, .iload 3, 1, 0), (94, .ireturn, 1, 0)]
/-- SinglesPast.led(IZ)I -/
def tO_172 : List (Nat × av_O) := [(0, .aload 0, 1, 0), (1, .iload 1, 1, 0), (2, .invokevirtual 181, 3, 180), (5, .iload 2, 1, 0), (6, .ifCond .eq 23, 3, 0), (9, .aload 0, 1, 0), (10, .getfield 642, 3, 23), (13, .getfield 401, 3, 443), (16, .iload 1, 1, 0), (17, .invokevirtual 17, 3, 447), (20, .goto 34, 3, 0), (23, .aload 0, 1, 0), (24, .getfield 642, 3, 23), (27, .getfield 401, 3, 443), (30, .iload 1, 1, 0), (31, .invokevirtual 16, 3, 452), (34, .ireturn, 1, 0)]
/-- SinglesPast.log(II)I -/
def tO_173 : List (Nat × av_O) := [(0, .iload 2, 1, 0), (1, .ifCond .lt 9, 3, 0), (4, .iload 2, 1, 0), (5, .sipush 4, 1, 0), (6, .if_icmp .lt 20, 3, 0), (9, .instanceof 14, 3, 175), (20, .aload 0, 1, 0), (21, .getfield 642, 3, 23), (24, .getfield 401, 3, 443), (27, .iload 1, 1, 0), (28, .iload 2, 1, 0), (29, .invokevirtual 15, 3, 457), (32, .ireturn, 1, 0)]
/-- SinglesPast.seed(I)I -/
def tO_174 : List (Nat × av_O) := [(0, .aload 0, 1, 0), (1, .getfield 642, 3, 23), (4, .getfield 400, 3, 440), (7, .istore 2, 1, 0), (8, .aload 0, 1, 0), (9, .getfield 642, 3, 23), (12, .iload 1, 1, 0), (13, .putfield 400, 3, 440), (16, .iload 2, 1, 0), (17, .ireturn, 1, 0)]
/-- SinglesPast.undo()Z -/
def tO_175 : List (Nat × av_O) := [(0, .aload 0, 1, 0), (1, .getfield 646, 3, 36), (4, .aload 0, 1, 0), (5, .getfield 642, 3, 23), (8, .invokevirtual 20, 3, 460), (11, .istore 1, 1, 0), (12, .aload 0, 1, 0), (13, .aload 0, 1, 0), (14, .getfield 649, 3, 135), (17, .ifCond .eq 28, 3, 0), (20, .iload 1, 1, 0), (21, .ifCond .ne 28, 3, 0), (24, .sipush 1, 1, 0), (25, .goto 29, 3, 0), (28, .sipush 0, 1, 0), (29, .putfield 649, 3, 135), (32, .iload 1, 1, 0), (33, .ireturn, 1, 0)]
/-- SinglesPast.image()V -/
def tO_176 : List (Nat × av_O) := [(0, .aload 0, 1, 0), (1, .getfield 643, 3, 27), (4, .aload 0, 1, 0), (5, .getfield 642, 3, 23), (8, .invokevirtual 31, 3, 78), (11, .aload 0, 1, 0), (12, .sipush 1, 1, 0), (13, .putfield 644, 3, 464), (16, .return_, 1, 0)]
/-- SinglesPast.back()Z -/
def tO_177 : List (Nat × av_O) := [(0, .aload 0, 1, 0), (1, .getfield 644, 3, 464), (4, .ifCond .ne 9, 3, 0), (7, .sipush 0, 1, 0), (8, .ireturn, 1, 0), (9, .aload 0, 1, 0), (10, .getfield 642, 3, 23), (13, .aload 0, 1, 0), (14, .getfield 643, 3, 27), (17, .invokevirtual 31, 3, 78), (20, .aload 0, 1, 0), (21, .invokevirtual 100, 3, 105), (24, .sipush 1, 1, 0), (25, .ireturn, 1, 0)]
/-- SinglesPast.count(I)I -/
def tO_178 : List (Nat × av_O) := [(0, .iload 1, 1, 0), (1, .tableswitch 162 0 9 #[56, 67, 75, 83, 91, 116, 124, 135, 143, 154], 55, 0), (56, .aload 0, 1, 0), (57, .getfield 642, 3, 23), (60, .getfield 384, 3, 142), (63, .getfield 512, 3, 357), (66, .ireturn, 1, 0), (67, .aload 0, 1, 0), (68, .getfield 642, 3, 23), (71, .getfield 385, 3, 333), (74, .ireturn, 1, 0), (75, .aload 0, 1, 0), (76, .getfield 642, 3, 23), (79, .getfield 394, 3, 434), (82, .ireturn, 1, 0), (83, .aload 0, 1, 0), (84, .getfield 642, 3, 23), (87, .getfield 397, 3, 95), (90, .ireturn, 1, 0), (91, .aload 0, 1, 0), (92, .getfield 642, 3, 23), (95, .getfield 398, 3, 115), (98, .ifnonnull 105, 3, 0), (101, .sipush (-1), 1, 0), (102, .goto 115, 3, 0), (105, .aload 0, 1, 0), (106, .getfield 642, 3, 23), (109, .getfield 398, 3, 115), (112, .getfield 0, 3, 119), (115, .ireturn, 1, 0), (116, .aload 0, 1, 0), (117, .getfield 642, 3, 23), (120, .getfield 399, 3, 467), (123, .ireturn, 1, 0), (124, .aload 0, 1, 0), (125, .getfield 642, 3, 23), (128, .invokevirtual 37, 3, 240), (131, .invokestatic 357, 3, 227), (134, .ireturn, 1, 0), (135, .aload 0, 1, 0), (136, .getfield 642, 3, 23), (139, .invokevirtual 41, 3, 470), (142, .ireturn, 1, 0), (143, .aload 0, 1, 0), (144, .getfield 642, 3, 23), (147, .getfield 401, 3, 443), (150, .getfield 128, 3, 473), (153, .ireturn, 1, 0), (154, .aload 0, 1, 0), (155, .getfield 646, 3, 36), (158, .getfield 192, 3, 476), (161, .ireturn, 1, 0), (162, .sipush (-1), 1, 0), (163, .ireturn, 1, 0)]
/-- SinglesPast.needStop(I)V -/
def tO_179 : List (Nat × av_O) := [(0, .iload 0, 1, 0), (1, .ifCond .lt 10, 3, 0), (4, .iload 0, 1, 0), (5, .sipush 16, 2, 0), (7, .if_icmp .lt 21, 3, 0), (10, .instanceof 15, 3, 479), (21, .return_, 1, 0)]
/-- SinglesPast.needThing(I)V -/
def tO_180 : List (Nat × av_O) := [(0, .iload 1, 1, 0), (1, .ifCond .lt 18, 3, 0), (4, .iload 1, 1, 0), (5, .aload 0, 1, 0), (6, .getfield 642, 3, 23), (9, .getfield 384, 3, 142), (12, .getfield 512, 3, 357), (15, .if_icmp .lt 29, 3, 0), (18, .instanceof 16, 3, 479), (29, .return_, 1, 0)]
/-- SinglesPast.needGoer(I)V -/
def tO_181 : List (Nat × av_O) := [(0, .iload 1, 1, 0), (1, .ifCond .lt 15, 3, 0), (4, .iload 1, 1, 0), (5, .aload 0, 1, 0), (6, .getfield 642, 3, 23), (9, .getfield 385, 3, 333), (12, .if_icmp .lt 26, 3, 0), (15, .instanceof 17, 3, 479), (26, .return_, 1, 0)]
/-- SinglesPast.needTwoGoers(II)V -/
def tO_182 : List (Nat × av_O) := [(0, .aload 0, 1, 0), (1, .iload 1, 1, 0), (2, .invokevirtual 181, 3, 180), (5, .aload 0, 1, 0), (6, .iload 2, 1, 0), (7, .invokevirtual 181, 3, 180), (10, .iload 1, 1, 0), (11, .iload 2, 1, 0), (12, .if_icmp .ne 26, 3, 0), (15, .instanceof 18, 3, 127), (26, .return_, 1, 0)]
/-- SinglesPast.needTrain(I)V -/
def tO_183 : List (Nat × av_O) := [(0, .iload 1, 1, 0), (1, .ifCond .lt 15, 3, 0), (4, .iload 1, 1, 0), (5, .aload 0, 1, 0), (6, .getfield 642, 3, 23), (9, .getfield 394, 3, 434), (12, .if_icmp .lt 26, 3, 0), (15, .instanceof 19, 3, 479), (26, .return_, 1, 0)]
/-- SinglesPast.needNotGone(I)V -/
def tO_184 : List (Nat × av_O) := [(0, .aload 0, 1, 0), (1, .getfield 642, 3, 23), (4, .getfield 393, 3, 204), (7, .iload 1, 1, 0), (8, .iaload, 1, 0), (9, .sipush (-1), 1, 0), (10, .if_icmp .eq 24, 3, 0), (13, .instanceof 20, 3, 263), (24, .return_, 1, 0)]
/-- SinglesPast.needTrialDays(I)V -/
def tO_185 : List (Nat × av_O) := [(0, .iload 0, 1, 0), (1, .ifCond .lt 10, 3, 0), (4, .iload 0, 1, 0), (5, .sipush 60, 2, 0), (7, .if_icmp .le 21, 3, 0), (10, .instanceof 21, 3, 127), (21, .return_, 1, 0)]
/-- SinglesPastModel.thrown()I -/
def tO_186 : List (Nat × av_O) := [(0, .aload 0, 1, 0), (1, .getfield 704, 3, 3), (4, .ireturn, 1, 0)]
/-- SinglesPastModel.throwsIf(ZI)Z -/
def tO_187 : List (Nat × av_O) := [(0, .iload 1, 1, 0), (1, .ifCond .eq 9, 3, 0), (4, .aload 0, 1, 0), (5, .iload 2, 1, 0), (6, .putfield 704, 3, 3), (9, .iload 1, 1, 0), (10, .ireturn, 1, 0)]
/-- SinglesPastModel.in(III)Z -/
def tO_188 : List (Nat × av_O) := [(0, .iload 0, 1, 0), (1, .iload 1, 1, 0), (2, .if_icmp .lt 14, 3, 0), (5, .iload 0, 1, 0), (6, .iload 2, 1, 0), (7, .if_icmp .gt 14, 3, 0), (10, .sipush 1, 1, 0), (11, .goto 15, 3, 0), (14, .sipush 0, 1, 0), (15, .ireturn, 1, 0)]
/-- SinglesPastModel.has(II)Z -/
def tO_189 : List (Nat × av_O) := [(0, .iload 0, 1, 0), (1, .iload 1, 1, 0), (2, .ishr, 1, 0), (3, .sipush 1, 1, 0), (4, .iand, 1, 0), (5, .sipush 1, 1, 0), (6, .if_icmp .ne 13, 3, 0), (9, .sipush 1, 1, 0), (10, .goto 14, 3, 0), (13, .sipush 0, 1, 0), (14, .ireturn, 1, 0)]
/-- SinglesPastModel.<init>()V -/
def tO_190 : List (Nat × av_O) := [(0, .aload 0, 1, 0), (1, .monitorenter, 3, 7), (4, .aload 0, 1, 0), (5, .sipush 2050, 3, 0), (8, .newarray .int, 2, 0), (10, .putfield 705, 3, 13), (13, .aload 0, 1, 0), (14, .sipush 1201, 3, 0), (17, .newarray .int, 2, 0), (19, .putfield 706, 3, 17), (22, .aload 0, 1, 0), (23, .sipush 1201, 3, 0), (26, .newarray .int, 2, 0), (28, .putfield 707, 3, 20), (31, .aload 0, 1, 0), (32, .sipush 352, 3, 0), (35, .newarray .int, 2, 0), (37, .putfield 708, 3, 23), (40, .aload 0, 1, 0), (41, .sipush 4224, 3, 0), (44, .newarray .int, 2, 0), (46, .putfield 709, 3, 26), (49, .aload 0, 1, 0), (50, .sipush 400, 3, 0), (53, .newarray .byte, 2, 0), (55, .putfield 712, 3, 29), (58, .aload 0, 1, 0), (59, .sipush (-1), 1, 0), (60, .putfield 718, 3, 33), (63, .aload 0, 1, 0), (64, .sipush 5, 1, 0), (65, .newarray .int, 2, 0), (67, .putfield 719, 3, 36), (70, .aload 0, 1, 0), (71, .sipush 400, 3, 0), (74, .newarray .int, 2, 0), (76, .putfield 721, 3, 39), (79, .aload 0, 1, 0), (80, .sipush 8, 2, 0), (82, .newarray .int, 2, 0), (84, .putfield 723, 3, 42), (87, .aload 0, 1, 0), (88, .sipush 6, 2, 0), (90, .newarray .int, 2, 0), (92, .putfield 724, 3, 45), (95, .aload 0, 1, 0), (96, .sipush 6, 2, 0), (98, .newarray .int, 2, 0), (100, .putfield 725, 3, 48), (103, .aload 0, 1, 0), (104, .sipush 6, 2, 0), (106, .newarray .int, 2, 0), (108, .putfield 726, 3, 51), (111, .aload 0, 1, 0), (112, .sipush 64, 2, 0), (114, .newarray .int, 2, 0), (116, .putfield 727, 3, 54), (119, .aload 0, 1, 0), (120, .getfield 705, 3, 13), (123, .sipush 7, 2, 0), (125, .sipush 1, 1, 0), (126, .iastore, 1, 0), (127, .return_, 1, 0)]
/-- SinglesPastModel.image()V -/
def tO_191 : List (Nat × av_O) := [(0, .aload 0, 1, 0), (1, .sipush 0, 1, 0), (2, .putfield 704, 3, 3), (5, .sipush 0, 1, 0), (6, .istore 1, 1, 0), (7, .iload 1, 1, 0), (8, .sipush 1201, 3, 0), (11, .if_icmp .ge 32, 3, 0), (14, .aload 0, 1, 0), (15, .getfield 706, 3, 17), (18, .iload 1, 1, 0), (19, .aload 0, 1, 0), (20, .getfield 705, 3, 13), (23, .iload 1, 1, 0), (24, .iaload, 1, 0), (25, .iastore, 1, 0), (26, .iinc 1 1, 3, 0), (29, .goto 7, 3, 0), (32, .aload 0, 1, 0), (33, .sipush 1, 1, 0), (34, .putfield 710, 3, 57), (37, .return_, 1, 0)]
/-- SinglesPastModel.back()Z -/
def tO_192 : List (Nat × av_O) := [(0, .aload 0, 1, 0), (1, .sipush 0, 1, 0), (2, .putfield 704, 3, 3), (5, .aload 0, 1, 0), (6, .getfield 710, 3, 57), (9, .ifCond .ne 14, 3, 0), (12, .sipush 0, 1, 0), (13, .ireturn, 1, 0), (14, .sipush 0, 1, 0), (15, .istore 1, 1, 0), (16, .iload 1, 1, 0), (17, .sipush 1201, 3, 0), (20, .if_icmp .ge 41, 3, 0), (23, .aload 0, 1, 0), (24, .getfield 705, 3, 13), (27, .iload 1, 1, 0), (28, .aload 0, 1, 0), (29, .getfield 706, 3, 17), (32, .iload 1, 1, 0), (33, .iaload, 1, 0), (34, .iastore, 1, 0), (35, .iinc 1 1, 3, 0), (38, .goto 16, 3, 0), (41, .aload 0, 1, 0), (42, .sipush 0, 1, 0), (43, .putfield 711, 3, 61), (46, .sipush 1, 1, 0), (47, .ireturn, 1, 0)]
/-- SinglesPastModel.remembers()V -/
def tO_193 : List (Nat × av_O) := [(0, .aload 0, 1, 0), (1, .getfield 711, 3, 61), (4, .sipush 12, 2, 0), (6, .if_icmp .ne 43, 3, 0), (9, .sipush 0, 1, 0), (10, .istore 1, 1, 0), (11, .iload 1, 1, 0), (12, .sipush 3872, 3, 0), (15, .if_icmp .ge 40, 3, 0), (18, .aload 0, 1, 0), (19, .getfield 709, 3, 26), (22, .iload 1, 1, 0), (23, .aload 0, 1, 0), (24, .getfield 709, 3, 26), (27, .iload 1, 1, 0), (28, .sipush 352, 3, 0), (31, .iadd, 1, 0), (32, .iaload, 1, 0), (33, .iastore, 1, 0), (34, .iinc 1 1, 3, 0), (37, .goto 11, 3, 0), (40, .goto 53, 3, 0), (43, .aload 0, 1, 0), (44, .dup, 1, 0), (45, .getfield 711, 3, 61), (48, .sipush 1, 1, 0), (49, .iadd, 1, 0), (50, .putfield 711, 3, 61), (53, .sipush 0, 1, 0), (54, .istore 1, 1, 0), (55, .iload 1, 1, 0), (56, .sipush 352, 3, 0), (59, .if_icmp .ge 91, 3, 0), (62, .aload 0, 1, 0), (63, .getfield 709, 3, 26), (66, .sipush 352, 3, 0), (69, .aload 0, 1, 0), (70, .getfield 711, 3, 61), (73, .sipush 1, 1, 0), (74, .isub, 1, 0), (75, .imul, 1, 0), (76, .iload 1, 1, 0), (77, .iadd, 1, 0), (78, .aload 0, 1, 0), (79, .getfield 705, 3, 13), (82, .iload 1, 1, 0), (83, .iaload, 1, 0), (84, .iastore, 1, 0), (85, .iinc 1 1, 3, 0), (88, .goto 55, 3, 0), (91, .return_, 1, 0)]
/-- SinglesPastModel.undo()Z -/
def tO_194 : List (Nat × av_O) := [(0, .aload 0, 1, 0), (1, .sipush 0, 1, 0), (2, .putfield 704, 3, 3), (5, .aload 0, 1, 0), (6, .getfield 711, 3, 61), (9, .ifCond .ne 14, 3, 0), (12, .sipush 0, 1, 0), (13, .ireturn, 1, 0), (14, .aload 0, 1, 0), (15, .dup, 1, 0), (16, .getfield 711, 3, 61), (19, .sipush 1, 1, 0), (20, .isub, 1, 0), (21, .putfield 711, 3, 61), (24, .sipush 0, 1, 0), (25, .istore 1, 1, 0), (26, .iload 1, 1, 0), (27, .sipush 352, 3, 0), (30, .if_icmp .ge 60, 3, 0), (33, .aload 0, 1, 0), (34, .getfield 705, 3, 13), (37, .iload 1, 1, 0), (38, .aload 0, 1, 0), (39, .getfield 709, 3, 26), (42, .sipush 352, 3, 0), (45, .aload 0, 1, 0), (46, .getfield 711, 3, 61), (49, .imul, 1, 0), (50, .iload 1, 1, 0), (51, .iadd, 1, 0), (52, .iaload, 1, 0), (53, .iastore, 1, 0), (54, .iinc 1 1, 3, 0), (57, .goto 26, 3, 0), (60, .sipush 1, 1, 0), (61, .ireturn, 1, 0)]
/-- SinglesPastModel.keepsAll()V -/
def tO_195 : List (Nat × av_O) := [(0, .sipush 0, 1, 0), (1, .istore 1, 1, 0), (2, .iload 1, 1, 0), (3, .sipush 352, 3, 0), (6, .if_icmp .ge 27, 3, 0), (9, .aload 0, 1, 0), (10, .getfield 708, 3, 23), (13, .iload 1, 1, 0), (14, .aload 0, 1, 0), (15, .getfield 705, 3, 13), (18, .iload 1, 1, 0), (19, .iaload, 1, 0), (20, .iastore, 1, 0), (21, .iinc 1 1, 3, 0), (24, .goto 2, 3, 0), (27, .return_, 1, 0)]
/-- SinglesPastModel.bringsBack()V -/
def tO_196 : List (Nat × av_O) := [(0, .sipush 0, 1, 0), (1, .istore 1, 1, 0), (2, .iload 1, 1, 0), (3, .sipush 352, 3, 0), (6, .if_icmp .ge 27, 3, 0), (9, .aload 0, 1, 0), (10, .getfield 705, 3, 13), (13, .iload 1, 1, 0), (14, .aload 0, 1, 0), (15, .getfield 708, 3, 23), (18, .iload 1, 1, 0), (19, .iaload, 1, 0), (20, .iastore, 1, 0), (21, .iinc 1 1, 3, 0), (24, .goto 2, 3, 0), (27, .return_, 1, 0)]
/-- SinglesPastModel.things()I -/
def tO_197 : List (Nat × av_O) := [(0, .aload 0, 1, 0), (1, .getfield 705, 3, 13), (4, .sipush 0, 1, 0), (5, .iaload, 1, 0), (6, .ireturn, 1, 0)]
/-- SinglesPastModel.goers()I -/
def tO_198 : List (Nat × av_O) := [(0, .aload 0, 1, 0), (1, .getfield 705, 3, 13), (4, .sipush 1, 1, 0), (5, .iaload, 1, 0), (6, .ireturn, 1, 0)]
/-- SinglesPastModel.trains()I -/
def tO_199 : List (Nat × av_O) := [(0, .aload 0, 1, 0), (1, .getfield 705, 3, 13), (4, .sipush 2, 1, 0), (5, .iaload, 1, 0), (6, .ireturn, 1, 0)]
/-- SinglesPastModel.thingAt(II)I -/
def tO_200 : List (Nat × av_O) := [(0, .sipush 8, 2, 0), (2, .sipush 5, 1, 0), (3, .iload 0, 1, 0), (4, .imul, 1, 0), (5, .iadd, 1, 0), (6, .iload 1, 1, 0), (7, .iadd, 1, 0), (8, .ireturn, 1, 0)]
/-- SinglesPastModel.ofThing(II)I -/
def tO_201 : List (Nat × av_O) := [(0, .aload 0, 1, 0), (1, .getfield 705, 3, 13), (4, .iload 1, 1, 0), (5, .iload 2, 1, 0), (6, .invokestatic 200, 3, 64), (9, .iaload, 1, 0), (10, .ireturn, 1, 0)]
/-- SinglesPastModel.at(II)I -/
def tO_202 : List (Nat × av_O) := [(0, .sipush 48, 2, 0), (2, .sipush 9, 2, 0), (4, .iload 0, 1, 0), (5, .imul, 1, 0), (6, .iadd, 1, 0), (7, .iload 1, 1, 0), (8, .iadd, 1, 0), (9, .ireturn, 1, 0)]
/-- SinglesPastModel.of(II)I -/
def tO_203 : List (Nat × av_O) := [(0, .aload 0, 1, 0), (1, .getfield 705, 3, 13), (4, .iload 1, 1, 0), (5, .iload 2, 1, 0), (6, .invokestatic 202, 3, 68), (9, .iaload, 1, 0), (10, .ireturn, 1, 0)]
/-- SinglesPastModel.trainAt(II)I -/
def tO_204 : List (Nat × av_O) := [(0, .sipush 102, 2, 0), (2, .sipush 2, 1, 0), (3, .iload 0, 1, 0), (4, .imul, 1, 0), (5, .iadd, 1, 0), (6, .iload 1, 1, 0), (7, .iadd, 1, 0), (8, .ireturn, 1, 0)]
/-- SinglesPastModel.ofTrain(II)I -/
def tO_205 : List (Nat × av_O) := [(0, .aload 0, 1, 0), (1, .getfield 705, 3, 13), (4, .iload 1, 1, 0), (5, .iload 2, 1, 0), (6, .invokestatic 204, 3, 71), (9, .iaload, 1, 0), (10, .ireturn, 1, 0)]
/-- SinglesPastModel.everybody()I -/
def tO_206 : List (Nat × av_O) := [(0, .sipush 1, 1, 0), (1, .aload 0, 1, 0), (2, .invokevirtual 198, 3, 74), (5, .ishl, 1, 0), (6, .sipush 1, 1, 0), (7, .isub, 1, 0), (8, .ireturn, 1, 0)]
/-- SinglesPastModel.isGone(I)Z -/
def tO_207 : List (Nat × av_O) := [(0, .aload 0, 1, 0), (1, .iload 1, 1, 0), (2, .sipush 7, 2, 0), (4, .invokevirtual 203, 3, 78), (7, .sipush 1, 1, 0), (8, .if_icmp .ne 15, 3, 0), (11, .sipush 1, 1, 0), (12, .goto 16, 3, 0), (15, .sipush 0, 1, 0), (16, .ireturn, 1, 0)]
/-- SinglesPastModel.goneOnes()I -/
def tO_208 : List (Nat × av_O) := [(0, .sipush 0, 1, 0), (1, .istore 1, 1, 0), (2, .sipush 0, 1, 0), (3, .istore 2, 1, 0), (4, .iload 2, 1, 0), (5, .aload 0, 1, 0), (6, .invokevirtual 198, 3, 74), (9, .if_icmp .ge 30, 3, 0), (12, .iload 1, 1, 0), (13, .aload 0, 1, 0), (14, .iload 2, 1, 0), (15, .sipush 7, 2, 0), (17, .invokevirtual 203, 3, 78), (20, .iload 2, 1, 0), (21, .ishl, 1, 0), (22, .ior, 1, 0), (23, .istore 1, 1, 0), (24, .iinc 2 1, 3, 0), (27, .goto 4, 3, 0), (30, .iload 1, 1, 0), (31, .ireturn, 1, 0)]
/-- SinglesPastModel.goneBy(I)I -/
def tO_209 : List (Nat × av_O) := [(0, .sipush 0, 1, 0), (1, .istore 2, 1, 0), (2, .sipush 0, 1, 0), (3, .istore 3, 1, 0), (4, .iload 3, 1, 0), (5, .aload 0, 1, 0), (6, .invokevirtual 198, 3, 74), (9, .if_icmp .ge 45, 3, 0), (12, .iload 2, 1, 0), (13, .aload 0, 1, 0), (14, .iload 3, 1, 0), (15, .invokevirtual 207, 3, 81), (18, .ifCond .eq 36, 3, 0), (21, .aload 0, 1, 0), (22, .iload 3, 1, 0), (23, .sipush 8, 2, 0), (25, .invokevirtual 203, 3, 78), (28, .iload 1, 1, 0), (29, .if_icmp .ne 36, 3, 0), (32, .sipush 1, 1, 0), (33, .goto 37, 3, 0), (36, .sipush 0, 1, 0), (37, .iadd, 1, 0), (38, .istore 2, 1, 0), (39, .iinc 3 1, 3, 0), (42, .goto 4, 3, 0), (45, .iload 2, 1, 0), (46, .ireturn, 1, 0)]
/-- SinglesPastModel.noThing(I)Z -/
def tO_210 : List (Nat × av_O) := [(0, .iload 1, 1, 0), (1, .sipush 0, 1, 0), (2, .aload 0, 1, 0), (3, .invokevirtual 197, 3, 85), (6, .sipush 1, 1, 0), (7, .isub, 1, 0), (8, .invokestatic 188, 3, 88), (11, .ifCond .ne 18, 3, 0), (14, .sipush 1, 1, 0), (15, .goto 19, 3, 0), (18, .sipush 0, 1, 0), (19, .ireturn, 1, 0)]
/-- SinglesPastModel.noGoer(I)Z -/
def tO_211 : List (Nat × av_O) := [(0, .iload 1, 1, 0), (1, .sipush 0, 1, 0), (2, .aload 0, 1, 0), (3, .invokevirtual 198, 3, 74), (6, .sipush 1, 1, 0), (7, .isub, 1, 0), (8, .invokestatic 188, 3, 88), (11, .ifCond .ne 18, 3, 0), (14, .sipush 1, 1, 0), (15, .goto 19, 3, 0), (18, .sipush 0, 1, 0), (19, .ireturn, 1, 0)]
/-- SinglesPastModel.noTrain(I)Z -/
def tO_212 : List (Nat × av_O) := [(0, .iload 1, 1, 0), (1, .sipush 0, 1, 0), (2, .aload 0, 1, 0), (3, .invokevirtual 199, 3, 92), (6, .sipush 1, 1, 0), (7, .isub, 1, 0), (8, .invokestatic 188, 3, 88), (11, .ifCond .ne 18, 3, 0), (14, .sipush 1, 1, 0), (15, .goto 19, 3, 0), (18, .sipush 0, 1, 0), (19, .ireturn, 1, 0)]
/-- SinglesPastModel.noStop(I)Z -/
def tO_213 : List (Nat × av_O) := [(0, .iload 0, 1, 0), (1, .sipush 0, 1, 0), (2, .sipush 15, 2, 0), (4, .invokestatic 188, 3, 88), (7, .ifCond .ne 14, 3, 0), (10, .sipush 1, 1, 0), (11, .goto 15, 3, 0), (14, .sipush 0, 1, 0), (15, .ireturn, 1, 0)]
/-- SinglesPastModel.drawn(I)I -/
def tO_214 : List (Nat × av_O) := [(0, .aload 0, 1, 0), (1, .getfield 705, 3, 13), (4, .sipush 7, 2, 0), (6, .sipush 1103515245, 2, 95), (8, .aload 0, 1, 0), (9, .getfield 705, 3, 13), (12, .sipush 7, 2, 0), (14, .iaload, 1, 0), (15, .imul, 1, 0), (16, .sipush 12345, 3, 0), (19, .iadd, 1, 0), (20, .iastore, 1, 0), (21, .aload 0, 1, 0), (22, .getfield 705, 3, 13), (25, .sipush 7, 2, 0), (27, .iaload, 1, 0), (28, .sipush 16, 2, 0), (30, .ishr, 1, 0), (31, .sipush 32767, 3, 0), (34, .iand, 1, 0), (35, .iload 1, 1, 0), (36, .irem, 1, 0), (37, .ireturn, 1, 0)]
/-- SinglesPastModel.feed(IIIII)I -/
def tO_215 : List (Nat × av_O) := [(0, .aload 0, 1, 0), (1, .sipush 0, 1, 0), (2, .putfield 704, 3, 3), (5, .aload 0, 1, 0), (6, .getfield 713, 3, 96), (9, .sipush 20, 2, 0), (11, .iadd, 1, 0), (12, .sipush 400, 3, 0), (15, .if_icmp .le 20, 3, 0), (18, .sipush (-1), 1, 0), (19, .ireturn, 1, 0), (20, .aload 0, 1, 0), (21, .getfield 719, 3, 36), (24, .sipush 0, 1, 0), (25, .iload 1, 1, 0), (26, .iastore, 1, 0), (27, .aload 0, 1, 0), (28, .getfield 719, 3, 36), (31, .sipush 1, 1, 0), (32, .iload 2, 1, 0), (33, .iastore, 1, 0), (34, .aload 0, 1, 0), (35, .getfield 719, 3, 36), (38, .sipush 2, 1, 0), (39, .iload 3, 1, 0), (40, .iastore, 1, 0), (41, .aload 0, 1, 0), (42, .getfield 719, 3, 36), (45, .sipush 3, 1, 0), (46, .iload 4, 2, 0), (48, .iastore, 1, 0), (49, .aload 0, 1, 0), (50, .getfield 719, 3, 36), (53, .sipush 4, 1, 0), (54, .iload 5, 2, 0), (56, .iastore, 1, 0), (57, .sipush 0, 1, 0), (58, .istore 6, 2, 0), (60, .iload 6, 2, 0), (62, .sipush 20, 2, 0), (64, .if_icmp .ge 106, 3, 0), (67, .aload 0, 1, 0), (68, .getfield 712, 3, 29), (71, .aload 0, 1, 0), (72, .getfield 713, 3, 96), (75, .iload 6, 2, 0), (77, .iadd, 1, 0), (78, .aload 0, 1, 0), (79, .getfield 719, 3, 36), (82, .iload 6, 2, 0), (84, .sipush 4, 1, 0), (85, .idiv, 1, 0), (86, .iaload, 1, 0), (87, .sipush 24, 2, 0), (89, .sipush 8, 2, 0), (91, .iload 6, 2, 0), (93, .sipush 4, 1, 0), (94, .irem, 1, 0), (95, .imul, 1, 0), (96, .isub, 1, 0), (97, .ishr, 1, 0), (98, .i2b, 1, 0), (99, .bastore, 1, 0), (100, .iinc 6 1, 3, 0), (103, .goto 60, 3, 0), (106, .aload 0, 1, 0), (107, .dup, 1, 0), (108, .getfield 713, 3, 96), (111, .sipush 20, 2, 0), (113, .iadd, 1, 0), (114, .putfield 713, 3, 96), (117, .aload 0, 1, 0), (118, .getfield 713, 3, 96), (121, .ireturn, 1, 0)]
/-- SinglesPastModel.end(I)Z -/
def tO_216 : List (Nat × av_O) := [(0, .aload 0, 1, 0), (1, .sipush 0, 1, 0), (2, .putfield 704, 3, 3), (5, .iload 1, 1, 0), (6, .ifCond .lt 17, 3, 0), (9, .iload 1, 1, 0), (10, .aload 0, 1, 0), (11, .getfield 713, 3, 96), (14, .if_icmp .le 19, 3, 0), (17, .sipush 0, 1, 0), (18, .ireturn, 1, 0), (19, .aload 0, 1, 0), (20, .iload 1, 1, 0), (21, .putfield 713, 3, 96), (24, .sipush 1, 1, 0), (25, .ireturn, 1, 0)]
/-- SinglesPastModel.isAt(II)Z -/
def tO_217 : List (Nat × av_O) := [(0, .aload 0, 1, 0), (1, .getfield 714, 3, 99), (4, .aload 0, 1, 0), (5, .getfield 715, 3, 102), (8, .if_icmp .ge 41, 3, 0), (11, .aload 0, 1, 0), (12, .getfield 712, 3, 29), (15, .aload 0, 1, 0), (16, .getfield 714, 3, 99), (19, .baload, 1, 0), (20, .iload 1, 1, 0), (21, .if_icmp .lt 41, 3, 0), (24, .aload 0, 1, 0), (25, .getfield 712, 3, 29), (28, .aload 0, 1, 0), (29, .getfield 714, 3, 99), (32, .baload, 1, 0), (33, .iload 2, 1, 0), (34, .if_icmp .gt 41, 3, 0), (37, .sipush 1, 1, 0), (38, .goto 42, 3, 0), (41, .sipush 0, 1, 0), (42, .ireturn, 1, 0)]
/-- SinglesPastModel.blanks()V -/
def tO_218 : List (Nat × av_O) := [(0, .aload 0, 1, 0), (1, .sipush 32, 2, 0), (3, .sipush 32, 2, 0), (5, .invokevirtual 217, 3, 105), (8, .ifCond .eq 24, 3, 0), (11, .aload 0, 1, 0), (12, .dup, 1, 0), (13, .getfield 714, 3, 99), (16, .sipush 1, 1, 0), (17, .iadd, 1, 0), (18, .putfield 714, 3, 99), (21, .goto 0, 3, 0), (24, .aload 0, 1, 0), (25, .aload 0, 1, 0), (26, .getfield 714, 3, 99), (29, .putfield 716, 3, 109), (32, .return_, 1, 0)]
/-- SinglesPastModel.letters()V -/
def tO_219 : List (Nat × av_O) := [(0, .aload 0, 1, 0), (1, .invokevirtual 218, 3, 112), (4, .aload 0, 1, 0), (5, .sipush 97, 2, 0), (7, .sipush 122, 2, 0), (9, .invokevirtual 217, 3, 105), (12, .ifCond .eq 28, 3, 0), (15, .aload 0, 1, 0), (16, .dup, 1, 0), (17, .getfield 714, 3, 99), (20, .sipush 1, 1, 0), (21, .iadd, 1, 0), (22, .putfield 714, 3, 99), (25, .goto 4, 3, 0), (28, .return_, 1, 0)]
/-- SinglesPastModel.isWord(Ljava/lang/String;)Z -/
def tO_220 : List (Nat × av_O) := [(0, .aload 0, 1, 0), (1, .getfield 714, 3, 99), (4, .aload 0, 1, 0), (5, .getfield 716, 3, 109), (8, .isub, 1, 0), (9, .aload 1, 1, 0), (10, .invokedynamic 1, 3, 115), (13, .if_icmp .ne 20, 3, 0), (16, .sipush 1, 1, 0), (17, .goto 21, 3, 0), (20, .sipush 0, 1, 0), (21, .istore 2, 1, 0), (22, .sipush 0, 1, 0), (23, .istore 3, 1, 0), (24, .iload 2, 1, 0), (25, .ifCond .eq 67, 3, 0), (28, .iload 3, 1, 0), (29, .aload 1, 1, 0), (30, .invokedynamic 1, 3, 115), (33, .if_icmp .ge 67, 3, 0), (36, .aload 0, 1, 0), (37, .getfield 712, 3, 29), (40, .aload 0, 1, 0), (41, .getfield 716, 3, 109), (44, .iload 3, 1, 0), (45, .iadd, 1, 0), (46, .baload, 1, 0), (47, .aload 1, 1, 0), (48, .iload 3, 1, 0), (49, .invokedynamic 2, 3, 120), (52, .if_icmp .ne 59, 3, 0), (55, .sipush 1, 1, 0), (56, .goto 60, 3, 0), (59, .sipush 0, 1, 0), (60, .istore 2, 1, 0), (61, .iinc 3 1, 3, 0), (64, .goto 24, 3, 0), (67, .iload 2, 1, 0), (68, .ireturn, 1, 0)]
/-- SinglesPastModel.passes(Ljava/lang/String;)Z -/
def tO_221 : List (Nat × av_O) := [(0, .aload 0, 1, 0), (1, .invokevirtual 219, 3, 124), (4, .aload 0, 1, 0), (5, .aload 1, 1, 0), (6, .invokevirtual 220, 3, 127), (9, .ifCond .eq 14, 3, 0), (12, .sipush 1, 1, 0), (13, .ireturn, 1, 0), (14, .aload 0, 1, 0), (15, .aload 0, 1, 0), (16, .getfield 716, 3, 109), (19, .putfield 714, 3, 99), (22, .sipush 0, 1, 0), (23, .ireturn, 1, 0)]
/-- SinglesPastModel.sign(I)Z -/
def tO_222 : List (Nat × av_O) := [(0, .aload 0, 1, 0), (1, .invokevirtual 218, 3, 112), (4, .aload 0, 1, 0), (5, .iload 1, 1, 0), (6, .iload 1, 1, 0), (7, .invokevirtual 217, 3, 105), (10, .ifCond .ne 15, 3, 0), (13, .sipush 0, 1, 0), (14, .ireturn, 1, 0), (15, .aload 0, 1, 0), (16, .dup, 1, 0), (17, .getfield 714, 3, 99), (20, .sipush 1, 1, 0), (21, .iadd, 1, 0), (22, .putfield 714, 3, 99), (25, .sipush 1, 1, 0), (26, .ireturn, 1, 0)]
/-- SinglesPastModel.number(II)I -/
def tO_223 : List (Nat × av_O) := [(0, .aload 0, 1, 0), (1, .invokevirtual 218, 3, 112), (4, .sipush 0, 1, 0), (5, .istore 3, 1, 0), (6, .aload 0, 1, 0), (7, .sipush 48, 2, 0), (9, .sipush 57, 2, 0), (11, .invokevirtual 217, 3, 105), (14, .ifCond .eq 65, 3, 0), (17, .aload 0, 1, 0), (18, .getfield 714, 3, 99), (21, .aload 0, 1, 0), (22, .getfield 716, 3, 109), (25, .isub, 1, 0), (26, .sipush 3, 1, 0), (27, .if_icmp .ge 50, 3, 0), (30, .sipush 10, 2, 0), (32, .iload 3, 1, 0), (33, .imul, 1, 0), (34, .aload 0, 1, 0), (35, .getfield 712, 3, 29), (38, .aload 0, 1, 0), (39, .getfield 714, 3, 99), (42, .baload, 1, 0), (43, .iadd, 1, 0), (44, .sipush 48, 2, 0), (46, .isub, 1, 0), (47, .goto 51, 3, 0), (50, .iload 3, 1, 0), (51, .istore 3, 1, 0), (52, .aload 0, 1, 0), (53, .dup, 1, 0), (54, .getfield 714, 3, 99), (57, .sipush 1, 1, 0), (58, .iadd, 1, 0), (59, .putfield 714, 3, 99), (62, .goto 6, 3, 0), (65, .aload 0, 1, 0), (66, .getfield 714, 3, 99), (69, .aload 0, 1, 0), (70, .getfield 716, 3, 109), (73, .if_icmp .eq 99, 3, 0), (76, .aload 0, 1, 0), (77, .getfield 714, 3, 99), (80, .aload 0, 1, 0), (81, .getfield 716, 3, 109), (84, .isub, 1, 0), (85, .sipush 3, 1, 0), (86, .if_icmp .gt 99, 3, 0), (89, .iload 3, 1, 0), (90, .iload 1, 1, 0), (91, .if_icmp .lt 99, 3, 0), (94, .iload 3, 1, 0), (95, .iload 2, 1, 0), (96, .if_icmp .le 103, 3, 0), (99, .sipush (-1), 1, 0), (100, .goto 104, 3, 0), (103, .iload 3, 1, 0), (104, .ireturn, 1, 0)]
/-- SinglesPastModel.behind(Ljava/lang/String;II)I -/
def tO_224 : List (Nat × av_O) := [(0, .aload 0, 1, 0), (1, .invokevirtual 219, 3, 124), (4, .aload 0, 1, 0), (5, .aload 1, 1, 0), (6, .invokevirtual 220, 3, 127), (9, .ifCond .eq 21, 3, 0), (12, .aload 0, 1, 0), (13, .iload 2, 1, 0), (14, .iload 3, 1, 0), (15, .invokevirtual 223, 3, 131), (18, .goto 22, 3, 0), (21, .sipush (-1), 1, 0), (22, .ireturn, 1, 0)]
/-- SinglesPastModel.told(Ljava/lang/String;II)I -/
def tO_225 : List (Nat × av_O) := [(0, .aload 0, 1, 0), (1, .aload 1, 1, 0), (2, .invokevirtual 221, 3, 134), (5, .ifCond .ne 10, 3, 0), (8, .iload 3, 1, 0), (9, .ireturn, 1, 0), (10, .aload 0, 1, 0), (11, .sipush 0, 1, 0), (12, .iload 2, 1, 0), (13, .invokevirtual 223, 3, 131), (16, .istore 4, 2, 0), (18, .iload 4, 2, 0), (20, .ifCond .ge 28, 3, 0), (23, .sipush 1000000, 2, 137), (25, .goto 30, 3, 0), (28, .iload 4, 2, 0), (30, .ireturn, 1, 0)]
/-- SinglesPastModel.fault()I -/
def tO_226 : List (Nat × av_O) := [(0, .aload 0, 1, 0), (1, .sipush 0, 1, 0), (2, .putfield 704, 3, 3), (5, .aload 0, 1, 0), (6, .getfield 718, 3, 33), (9, .ireturn, 1, 0)]
/-- SinglesPastModel.uses()V -/
def tO_227 : List (Nat × av_O) := [(0, .aload 0, 1, 0), (1, .sipush 0, 1, 0), (2, .putfield 704, 3, 3), (5, .aload 0, 1, 0), (6, .aload 0, 1, 0), (7, .getfield 713, 3, 96), (10, .putfield 715, 3, 102), (13, .aload 0, 1, 0), (14, .sipush 0, 1, 0), (15, .putfield 713, 3, 96), (18, .aload 0, 1, 0), (19, .sipush 0, 1, 0), (20, .putfield 714, 3, 99), (23, .return_, 1, 0)]
/-- SinglesPastModel.readNumber(III)Z -/
def tO_228 : List (Nat × av_O) := [(0, .aload 0, 1, 0), (1, .iload 2, 1, 0), (2, .iload 3, 1, 0), (3, .invokevirtual 223, 3, 131), (6, .istore 4, 2, 0), (8, .aload 0, 1, 0), (9, .getfield 705, 3, 13), (12, .iload 1, 1, 0), (13, .iload 4, 2, 0), (15, .ifCond .ge 27, 3, 0), (18, .aload 0, 1, 0), (19, .getfield 705, 3, 13), (22, .iload 1, 1, 0), (23, .iaload, 1, 0), (24, .goto 29, 3, 0), (27, .iload 4, 2, 0), (29, .iastore, 1, 0), (30, .iload 4, 2, 0), (32, .ifCond .lt 39, 3, 0), (35, .sipush 1, 1, 0), (36, .goto 40, 3, 0), (39, .sipush 0, 1, 0), (40, .ireturn, 1, 0)]
/-- SinglesPastModel.readThing()Z -/
def tO_229 : List (Nat × av_O) := [(0, .aload 0, 1, 0), (1, .invokevirtual 197, 3, 85), (4, .istore 1, 1, 0), (5, .iload 1, 1, 0), (6, .sipush 8, 2, 0), (8, .if_icmp .ne 13, 3, 0), (11, .sipush 0, 1, 0), (12, .ireturn, 1, 0), (13, .aload 0, 1, 0), (14, .ldc 42, 2, 138), (16, .sipush 0, 1, 0), (17, .sipush 15, 2, 0), (19, .invokevirtual 224, 3, 139), (22, .istore 2, 1, 0), (23, .iload 2, 1, 0), (24, .ifCond .ge 29, 3, 0), (27, .sipush 0, 1, 0), (28, .ireturn, 1, 0), (29, .aload 0, 1, 0), (30, .ldc 43, 2, 143), (32, .invokevirtual 221, 3, 134), (35, .ifCond .eq 42, 3, 0), (38, .sipush 1, 1, 0), (39, .goto 43, 3, 0), (42, .sipush 0, 1, 0), (43, .istore 3, 1, 0), (44, .aload 0, 1, 0), (45, .ldc 44, 2, 145), (47, .sipush 99, 2, 0), (49, .sipush 1, 1, 0), (50, .invokevirtual 225, 3, 147), (53, .istore 4, 2, 0), (55, .iload 4, 2, 0), (57, .sipush 1000000, 2, 137), (59, .if_icmp .ne 64, 3, 0), (62, .sipush 0, 1, 0), (63, .ireturn, 1, 0), (64, .aload 0, 1, 0), (65, .getfield 705, 3, 13), (68, .iload 1, 1, 0), (69, .sipush 0, 1, 0), (70, .invokestatic 200, 3, 64), (73, .iload 2, 1, 0), (74, .iastore, 1, 0), (75, .aload 0, 1, 0), (76, .getfield 705, 3, 13), (79, .iload 1, 1, 0), (80, .sipush 1, 1, 0), (81, .invokestatic 200, 3, 64), (84, .iload 3, 1, 0), (85, .iastore, 1, 0), (86, .aload 0, 1, 0), (87, .getfield 705, 3, 13), (90, .iload 1, 1, 0), (91, .sipush 2, 1, 0), (92, .invokestatic 200, 3, 64), (95, .iload 4, 2, 0), (97, .iastore, 1, 0), (98, .aload 0, 1, 0), (99, .getfield 705, 3, 13), (102, .iload 1, 1, 0), (103, .sipush 3, 1, 0), (104, .invokestatic 200, 3, 64), (107, .sipush 0, 1, 0), (108, .iastore, 1, 0), (109, .aload 0, 1, 0), (110, .getfield 705, 3, 13), (113, .iload 1, 1, 0), (114, .sipush 4, 1, 0), (115, .invokestatic 200, 3, 64), (118, .sipush 0, 1, 0), (119, .iastore, 1, 0), (120, .aload 0, 1, 0), (121, .getfield 705, 3, 13), (124, .sipush 0, 1, 0), (125, .dup2, 1, 0), (126, .iaload, 1, 0), (127, .sipush 1, 1, 0), (128, .iadd, 1, 0), (129, .iastore, 1, 0), (130, .sipush 1, 1, 0), (131, .ireturn, 1, 0)]
/-- SinglesPastModel.readLink(II)Z -/
def tO_230 : List (Nat × av_O) := [(0, .aload 0, 1, 0), (1, .sipush 0, 1, 0), (2, .aload 0, 1, 0), (3, .invokevirtual 197, 3, 85), (6, .sipush 1, 1, 0), (7, .isub, 1, 0), (8, .invokevirtual 223, 3, 131), (11, .istore 3, 1, 0), (12, .iload 3, 1, 0), (13, .ifCond .ge 20, 3, 0), (16, .sipush (-1), 1, 0), (17, .goto 31, 3, 0), (20, .aload 0, 1, 0), (21, .sipush 0, 1, 0), (22, .aload 0, 1, 0), (23, .invokevirtual 197, 3, 85), (26, .sipush 1, 1, 0), (27, .isub, 1, 0), (28, .invokevirtual 223, 3, 131), (31, .istore 4, 2, 0), (33, .iload 4, 2, 0), (35, .ifCond .lt 54, 3, 0), (38, .aload 0, 1, 0), (39, .iload 4, 2, 0), (41, .sipush 0, 1, 0), (42, .invokevirtual 201, 3, 150), (45, .aload 0, 1, 0), (46, .iload 3, 1, 0), (47, .sipush 0, 1, 0), (48, .invokevirtual 201, 3, 150), (51, .if_icmp .gt 56, 3, 0), (54, .sipush 0, 1, 0), (55, .ireturn, 1, 0), (56, .aload 0, 1, 0), (57, .getfield 705, 3, 13), (60, .iload 3, 1, 0), (61, .iload 1, 1, 0), (62, .invokestatic 200, 3, 64), (65, .dup2, 1, 0), (66, .iaload, 1, 0), (67, .sipush 1, 1, 0), (68, .iload 4, 2, 0), (70, .ishl, 1, 0), (71, .ior, 1, 0), (72, .iastore, 1, 0), (73, .aload 0, 1, 0), (74, .getfield 705, 3, 13), (77, .iload 3, 1, 0), (78, .iload 2, 1, 0), (79, .invokestatic 200, 3, 64), (82, .dup2, 1, 0), (83, .iaload, 1, 0), (84, .sipush 1, 1, 0), (85, .iload 4, 2, 0), (87, .ishl, 1, 0), (88, .sipush (-1), 1, 0), (89, .ixor, 1, 0), (90, .iand, 1, 0), (91, .iastore, 1, 0), (92, .sipush 1, 1, 0), (93, .ireturn, 1, 0)]
/-- SinglesPastModel.readGoer()Z -/
def tO_231 : List (Nat × av_O) := [(0, .aload 0, 1, 0), (1, .invokevirtual 198, 3, 74), (4, .istore 1, 1, 0), (5, .iload 1, 1, 0), (6, .sipush 6, 2, 0), (8, .if_icmp .ne 13, 3, 0), (11, .sipush 0, 1, 0), (12, .ireturn, 1, 0), (13, .aload 0, 1, 0), (14, .ldc 48, 2, 153), (16, .sipush 0, 1, 0), (17, .sipush 15, 2, 0), (19, .invokevirtual 224, 3, 139), (22, .istore 2, 1, 0), (23, .iload 2, 1, 0), (24, .ifCond .ge 31, 3, 0), (27, .sipush (-1), 1, 0), (28, .goto 41, 3, 0), (31, .aload 0, 1, 0), (32, .ldc 49, 2, 155), (34, .sipush 0, 1, 0), (35, .sipush 999, 3, 0), (38, .invokevirtual 224, 3, 139), (41, .istore 3, 1, 0), (42, .iload 3, 1, 0), (43, .ifCond .ge 48, 3, 0), (46, .sipush 0, 1, 0), (47, .ireturn, 1, 0), (48, .aload 0, 1, 0), (49, .ldc 50, 2, 157), (51, .sipush 100, 2, 0), (53, .sipush 50, 2, 0), (55, .invokevirtual 225, 3, 147), (58, .istore 4, 2, 0), (60, .iload 4, 2, 0), (62, .sipush 1000000, 2, 137), (64, .if_icmp .ne 69, 3, 0), (67, .sipush 0, 1, 0), (68, .ireturn, 1, 0), (69, .aload 0, 1, 0), (70, .ldc 51, 2, 159), (72, .aload 0, 1, 0), (73, .invokevirtual 197, 3, 85), (76, .sipush 1, 1, 0), (77, .isub, 1, 0), (78, .sipush (-1), 1, 0), (79, .invokevirtual 225, 3, 147), (82, .istore 5, 2, 0), (84, .iload 5, 2, 0), (86, .sipush (-1), 1, 0), (87, .if_icmp .ne 106, 3, 0), (90, .aload 0, 1, 0), (91, .ldc 52, 2, 161), (93, .aload 0, 1, 0), (94, .invokevirtual 197, 3, 85), (97, .sipush 1, 1, 0), (98, .isub, 1, 0), (99, .sipush (-1), 1, 0), (100, .invokevirtual 225, 3, 147), (103, .goto 107, 3, 0), (106, .sipush (-1), 1, 0), (107, .istore 6, 2, 0), (109, .iload 5, 2, 0), (111, .sipush 1000000, 2, 137), (113, .if_icmp .eq 123, 3, 0), (116, .iload 6, 2, 0), (118, .sipush 1000000, 2, 137), (120, .if_icmp .ne 125, 3, 0), (123, .sipush 0, 1, 0), (124, .ireturn, 1, 0), (125, .aload 0, 1, 0), (126, .ldc 53, 2, 163), (128, .aload 0, 1, 0), (129, .invokevirtual 197, 3, 85), (132, .sipush 1, 1, 0), (133, .isub, 1, 0), (134, .sipush (-1), 1, 0), (135, .invokevirtual 225, 3, 147), (138, .istore 7, 2, 0), (140, .iload 7, 2, 0), (142, .sipush 1000000, 2, 137), (144, .if_icmp .ne 149, 3, 0), (147, .sipush 0, 1, 0), (148, .ireturn, 1, 0), (149, .aload 0, 1, 0), (150, .getfield 705, 3, 13), (153, .iload 1, 1, 0), (154, .sipush 0, 1, 0), (155, .invokestatic 202, 3, 68), (158, .iload 2, 1, 0), (159, .iastore, 1, 0), (160, .aload 0, 1, 0), (161, .getfield 705, 3, 13), (164, .iload 1, 1, 0), (165, .sipush 1, 1, 0), (166, .invokestatic 202, 3, 68), (169, .iload 5, 2, 0), (171, .iload 6, 2, 0), (173, .invokestatic 358, 3, 165), (176, .iastore, 1, 0), (177, .aload 0, 1, 0), (178, .getfield 705, 3, 13), (181, .iload 1, 1, 0), (182, .sipush 2, 1, 0), (183, .invokestatic 202, 3, 68), (186, .iload 5, 2, 0), (188, .sipush (-1), 1, 0), (189, .if_icmp .ne 196, 3, 0), (192, .sipush 0, 1, 0), (193, .goto 197, 3, 0), (196, .sipush 1, 1, 0), (197, .iastore, 1, 0), (198, .aload 0, 1, 0), (199, .getfield 705, 3, 13), (202, .iload 1, 1, 0), (203, .sipush 3, 1, 0), (204, .invokestatic 202, 3, 68), (207, .iload 7, 2, 0), (209, .iastore, 1, 0), (210, .aload 0, 1, 0), (211, .getfield 705, 3, 13), (214, .iload 1, 1, 0), (215, .sipush 4, 1, 0), (216, .invokestatic 202, 3, 68), (219, .iload 3, 1, 0), (220, .iastore, 1, 0), (221, .aload 0, 1, 0), (222, .getfield 705, 3, 13), (225, .iload 1, 1, 0), (226, .sipush 5, 1, 0), (227, .invokestatic 202, 3, 68), (230, .iload 4, 2, 0), (232, .iastore, 1, 0), (233, .aload 0, 1, 0), (234, .getfield 705, 3, 13), (237, .iload 1, 1, 0), (238, .sipush 6, 2, 0), (240, .invokestatic 202, 3, 68), (243, .sipush 0, 1, 0), (244, .iastore, 1, 0), (245, .aload 0, 1, 0), (246, .getfield 705, 3, 13), (249, .iload 1, 1, 0), (250, .sipush 7, 2, 0), (252, .invokestatic 202, 3, 68), (255, .sipush 0, 1, 0), (256, .iastore, 1, 0), (257, .aload 0, 1, 0), (258, .getfield 705, 3, 13), (261, .iload 1, 1, 0), (262, .sipush 8, 2, 0), (264, .invokestatic 202, 3, 68), (267, .sipush (-1), 1, 0), (268, .iastore, 1, 0), (269, .aload 0, 1, 0), (270, .getfield 705, 3, 13), (273, .sipush 1, 1, 0), (274, .dup2, 1, 0), (275, .iaload, 1, 0), (276, .sipush 1, 1, 0), (277, .iadd, 1, 0), (278, .iastore, 1, 0), (279, .sipush 1, 1, 0), (280, .ireturn, 1, 0)]
/-- SinglesPastModel.readShuns()Z -/
def tO_232 : List (Nat × av_O) := [(0, .aload 0, 1, 0), (1, .sipush 0, 1, 0), (2, .aload 0, 1, 0), (3, .invokevirtual 198, 3, 74), (6, .sipush 1, 1, 0), (7, .isub, 1, 0), (8, .invokevirtual 223, 3, 131), (11, .istore 1, 1, 0), (12, .iload 1, 1, 0), (13, .ifCond .ge 20, 3, 0), (16, .sipush (-1), 1, 0), (17, .goto 31, 3, 0), (20, .aload 0, 1, 0), (21, .sipush 0, 1, 0), (22, .aload 0, 1, 0), (23, .invokevirtual 198, 3, 74), (26, .sipush 1, 1, 0), (27, .isub, 1, 0), (28, .invokevirtual 223, 3, 131), (31, .istore 2, 1, 0), (32, .iload 2, 1, 0), (33, .ifCond .lt 41, 3, 0), (36, .iload 2, 1, 0), (37, .iload 1, 1, 0), (38, .if_icmp .ne 43, 3, 0), (41, .sipush 0, 1, 0), (42, .ireturn, 1, 0), (43, .aload 0, 1, 0), (44, .getfield 705, 3, 13), (47, .iload 1, 1, 0), (48, .sipush 6, 2, 0), (50, .invokestatic 202, 3, 68), (53, .dup2, 1, 0), (54, .iaload, 1, 0), (55, .sipush 1, 1, 0), (56, .iload 2, 1, 0), (57, .ishl, 1, 0), (58, .ior, 1, 0), (59, .iastore, 1, 0), (60, .aload 0, 1, 0), (61, .getfield 705, 3, 13), (64, .iload 2, 1, 0), (65, .sipush 6, 2, 0), (67, .invokestatic 202, 3, 68), (70, .dup2, 1, 0), (71, .iaload, 1, 0), (72, .sipush 1, 1, 0), (73, .iload 1, 1, 0), (74, .ishl, 1, 0), (75, .ior, 1, 0), (76, .iastore, 1, 0), (77, .sipush 1, 1, 0), (78, .ireturn, 1, 0)]
/-- SinglesPastModel.stopsTold()I -/
def tO_233 : List (Nat × av_O) := [(0, .aload 0, 1, 0), (1, .invokevirtual 219, 3, 124), (4, .sipush 0, 1, 0), (5, .istore 1, 1, 0), (6, .aload 0, 1, 0), (7, .getfield 714, 3, 99), (10, .aload 0, 1, 0), (11, .getfield 716, 3, 109), (14, .if_icmp .le 21, 3, 0), (17, .sipush 1, 1, 0), (18, .goto 22, 3, 0), (21, .sipush 0, 1, 0), (22, .istore 2, 1, 0), (23, .aload 0, 1, 0), (24, .getfield 716, 3, 109), (27, .istore 3, 1, 0), (28, .iload 3, 1, 0), (29, .aload 0, 1, 0), (30, .getfield 714, 3, 99), (33, .if_icmp .ge 94, 3, 0), (36, .iload 2, 1, 0), (37, .ifCond .eq 94, 3, 0), (40, .aload 0, 1, 0), (41, .getfield 712, 3, 29), (44, .iload 3, 1, 0), (45, .baload, 1, 0), (46, .sipush 97, 2, 0), (48, .isub, 1, 0), (49, .istore 4, 2, 0), (51, .iload 4, 2, 0), (53, .sipush 16, 2, 0), (55, .if_icmp .ge 71, 3, 0), (58, .iload 1, 1, 0), (59, .iload 4, 2, 0), (61, .invokestatic 189, 3, 170), (64, .ifCond .ne 71, 3, 0), (67, .sipush 1, 1, 0), (68, .goto 72, 3, 0), (71, .sipush 0, 1, 0), (72, .istore 2, 1, 0), (73, .iload 1, 1, 0), (74, .iload 2, 1, 0), (75, .ifCond .eq 85, 3, 0), (78, .sipush 1, 1, 0), (79, .iload 4, 2, 0), (81, .ishl, 1, 0), (82, .goto 86, 3, 0), (85, .sipush 0, 1, 0), (86, .ior, 1, 0), (87, .istore 1, 1, 0), (88, .iinc 3 1, 3, 0), (91, .goto 28, 3, 0), (94, .iload 2, 1, 0), (95, .ifCond .eq 102, 3, 0), (98, .iload 1, 1, 0), (99, .goto 103, 3, 0), (102, .sipush 0, 1, 0), (103, .ireturn, 1, 0)]
/-- SinglesPastModel.readTrain()Z -/
def tO_234 : List (Nat × av_O) := [(0, .aload 0, 1, 0), (1, .invokevirtual 199, 3, 92), (4, .istore 1, 1, 0), (5, .iload 1, 1, 0), (6, .sipush 5, 1, 0), (7, .if_icmp .ne 12, 3, 0), (10, .sipush 0, 1, 0), (11, .ireturn, 1, 0), (12, .aload 0, 1, 0), (13, .ldc 56, 2, 173), (15, .sipush 1, 1, 0), (16, .sipush 6, 2, 0), (18, .invokevirtual 224, 3, 139), (21, .istore 2, 1, 0), (22, .iload 2, 1, 0), (23, .ifCond .ge 28, 3, 0), (26, .sipush 0, 1, 0), (27, .ireturn, 1, 0), (28, .aload 0, 1, 0), (29, .invokevirtual 219, 3, 124), (32, .aload 0, 1, 0), (33, .ldc 57, 2, 175), (35, .invokevirtual 220, 3, 127), (38, .ifCond .eq 48, 3, 0), (41, .aload 0, 1, 0), (42, .invokevirtual 233, 3, 177), (45, .goto 49, 3, 0), (48, .sipush 0, 1, 0), (49, .istore 3, 1, 0), (50, .iload 3, 1, 0), (51, .ifCond .ne 56, 3, 0), (54, .sipush 0, 1, 0), (55, .ireturn, 1, 0), (56, .aload 0, 1, 0), (57, .getfield 705, 3, 13), (60, .iload 1, 1, 0), (61, .sipush 0, 1, 0), (62, .invokestatic 204, 3, 71), (65, .iload 3, 1, 0), (66, .iastore, 1, 0), (67, .aload 0, 1, 0), (68, .getfield 705, 3, 13), (71, .iload 1, 1, 0), (72, .sipush 1, 1, 0), (73, .invokestatic 204, 3, 71), (76, .iload 2, 1, 0), (77, .iastore, 1, 0), (78, .aload 0, 1, 0), (79, .getfield 705, 3, 13), (82, .sipush 2, 1, 0), (83, .dup2, 1, 0), (84, .iaload, 1, 0), (85, .sipush 1, 1, 0), (86, .iadd, 1, 0), (87, .iastore, 1, 0), (88, .sipush 1, 1, 0), (89, .ireturn, 1, 0)]
/-- SinglesPastModel.readStationLine()Z -/
def tO_235 : List (Nat × av_O) := [(0, .aload 0, 1, 0), (1, .ldc 41, 2, 180), (3, .invokevirtual 220, 3, 127), (6, .ifCond .eq 14, 3, 0), (9, .aload 0, 1, 0), (10, .invokevirtual 229, 3, 182), (13, .ireturn, 1, 0), (14, .aload 0, 1, 0), (15, .ldc 45, 2, 186), (17, .invokevirtual 220, 3, 127), (20, .ifCond .eq 30, 3, 0), (23, .aload 0, 1, 0), (24, .sipush 3, 1, 0), (25, .sipush 4, 1, 0), (26, .invokevirtual 230, 3, 188), (29, .ireturn, 1, 0), (30, .aload 0, 1, 0), (31, .ldc 46, 2, 191), (33, .invokevirtual 220, 3, 127), (36, .ifCond .eq 46, 3, 0), (39, .aload 0, 1, 0), (40, .sipush 4, 1, 0), (41, .sipush 3, 1, 0), (42, .invokevirtual 230, 3, 188), (45, .ireturn, 1, 0), (46, .aload 0, 1, 0), (47, .ldc 47, 2, 193), (49, .invokevirtual 220, 3, 127), (52, .ifCond .eq 60, 3, 0), (55, .aload 0, 1, 0), (56, .invokevirtual 231, 3, 195), (59, .ireturn, 1, 0), (60, .aload 0, 1, 0), (61, .ldc 54, 2, 198), (63, .invokevirtual 220, 3, 127), (66, .ifCond .eq 74, 3, 0), (69, .aload 0, 1, 0), (70, .invokevirtual 232, 3, 200), (73, .ireturn, 1, 0), (74, .aload 0, 1, 0), (75, .ldc 55, 2, 203), (77, .invokevirtual 220, 3, 127), (80, .ifCond .eq 88, 3, 0), (83, .aload 0, 1, 0), (84, .invokevirtual 234, 3, 205), (87, .ireturn, 1, 0), (88, .aload 0, 1, 0), (89, .ldc 58, 2, 208), (91, .invokevirtual 220, 3, 127), (94, .ifCond .eq 113, 3, 0), (97, .aload 0, 1, 0), (98, .sipush 5, 1, 0), (99, .sipush 0, 1, 0), (100, .sipush 999, 3, 0), (103, .invokevirtual 228, 3, 210), (106, .ifCond .eq 113, 3, 0), (109, .sipush 1, 1, 0), (110, .goto 114, 3, 0), (113, .sipush 0, 1, 0), (114, .ireturn, 1, 0)]
/-- SinglesPastModel.emits(II)V -/
def tO_236 : List (Nat × av_O) := [(0, .aload 0, 1, 0), (1, .getfield 705, 3, 13), (4, .sipush 1250, 3, 0), (7, .sipush 2, 1, 0), (8, .aload 0, 1, 0), (9, .getfield 720, 3, 213), (12, .imul, 1, 0), (13, .iadd, 1, 0), (14, .iload 1, 1, 0), (15, .iastore, 1, 0), (16, .aload 0, 1, 0), (17, .getfield 705, 3, 13), (20, .sipush 1250, 3, 0), (23, .sipush 2, 1, 0), (24, .aload 0, 1, 0), (25, .getfield 720, 3, 213), (28, .imul, 1, 0), (29, .iadd, 1, 0), (30, .sipush 1, 1, 0), (31, .iadd, 1, 0), (32, .iload 2, 1, 0), (33, .iastore, 1, 0), (34, .aload 0, 1, 0), (35, .dup, 1, 0), (36, .getfield 720, 3, 213), (39, .sipush 1, 1, 0), (40, .iadd, 1, 0), (41, .putfield 720, 3, 213), (44, .return_, 1, 0)]
/-- SinglesPastModel.wordOfPart()I -/
def tO_237 : List (Nat × av_O) := [(0, .aload 0, 1, 0), (1, .ldc 47, 2, 193), (3, .invokevirtual 220, 3, 127), (6, .ifCond .eq 11, 3, 0), (9, .sipush 0, 1, 0), (10, .ireturn, 1, 0), (11, .aload 0, 1, 0), (12, .ldc 65, 2, 216), (14, .invokevirtual 220, 3, 127), (17, .ifCond .eq 22, 3, 0), (20, .sipush 1, 1, 0), (21, .ireturn, 1, 0), (22, .aload 0, 1, 0), (23, .ldc 49, 2, 155), (25, .invokevirtual 220, 3, 127), (28, .ifCond .eq 33, 3, 0), (31, .sipush 2, 1, 0), (32, .ireturn, 1, 0), (33, .aload 0, 1, 0), (34, .ldc 50, 2, 157), (36, .invokevirtual 220, 3, 127), (39, .ifCond .eq 44, 3, 0), (42, .sipush 3, 1, 0), (43, .ireturn, 1, 0), (44, .aload 0, 1, 0), (45, .ldc 55, 2, 203), (47, .invokevirtual 220, 3, 127), (50, .ifCond .eq 55, 3, 0), (53, .sipush 4, 1, 0), (54, .ireturn, 1, 0), (55, .aload 0, 1, 0), (56, .ldc 66, 2, 218), (58, .invokevirtual 220, 3, 127), (61, .ifCond .eq 66, 3, 0), (64, .sipush 5, 1, 0), (65, .ireturn, 1, 0), (66, .aload 0, 1, 0), (67, .ldc 58, 2, 208), (69, .invokevirtual 220, 3, 127), (72, .ifCond .eq 80, 3, 0), (75, .sipush 6, 2, 0), (77, .goto 81, 3, 0), (80, .sipush (-1), 1, 0), (81, .ireturn, 1, 0)]
/-- SinglesPastModel.readPart()Z -/
def tO_238 : List (Nat × av_O) := [(0, .aload 0, 1, 0), (1, .invokevirtual 219, 3, 124), (4, .aload 0, 1, 0), (5, .getfield 714, 3, 99), (8, .aload 0, 1, 0), (9, .getfield 716, 3, 109), (12, .if_icmp .ne 19, 3, 0), (15, .sipush 1, 1, 0), (16, .goto 20, 3, 0), (19, .sipush 0, 1, 0), (20, .istore 1, 1, 0), (21, .iload 1, 1, 0), (22, .ifCond .eq 36, 3, 0), (25, .aload 0, 1, 0), (26, .sipush 0, 1, 0), (27, .sipush 999, 3, 0), (30, .invokevirtual 223, 3, 131), (33, .goto 40, 3, 0), (36, .aload 0, 1, 0), (37, .invokevirtual 237, 3, 220), (40, .istore 2, 1, 0), (41, .aload 0, 1, 0), (42, .iload 1, 1, 0), (43, .ifCond .eq 51, 3, 0), (46, .sipush 10, 2, 0), (48, .goto 52, 3, 0), (51, .iload 2, 1, 0), (52, .iload 1, 1, 0), (53, .ifCond .eq 60, 3, 0), (56, .iload 2, 1, 0), (57, .goto 61, 3, 0), (60, .sipush 0, 1, 0), (61, .invokevirtual 236, 3, 223), (64, .iload 2, 1, 0), (65, .ifCond .lt 72, 3, 0), (68, .sipush 1, 1, 0), (69, .goto 73, 3, 0), (72, .sipush 0, 1, 0), (73, .ireturn, 1, 0)]
/-- SinglesPastModel.readSum()Z -/
def tO_239 : List (Nat × av_O) := [(0, .aload 0, 1, 0), (1, .invokevirtual 238, 3, 227), (4, .ifCond .ne 9, 3, 0), (7, .sipush 0, 1, 0), (8, .ireturn, 1, 0), (9, .aload 0, 1, 0), (10, .sipush 43, 2, 0), (12, .invokevirtual 222, 3, 230), (15, .ifCond .eq 37, 3, 0), (18, .aload 0, 1, 0), (19, .invokevirtual 238, 3, 227), (22, .ifCond .ne 27, 3, 0), (25, .sipush 0, 1, 0), (26, .ireturn, 1, 0), (27, .aload 0, 1, 0), (28, .sipush 11, 2, 0), (30, .sipush 0, 1, 0), (31, .invokevirtual 236, 3, 223), (34, .goto 9, 3, 0), (37, .sipush 1, 1, 0), (38, .ireturn, 1, 0)]
/-- SinglesPastModel.readTag()Z -/
def tO_240 : List (Nat × av_O) := [(0, .aload 0, 1, 0), (1, .invokevirtual 219, 3, 124), (4, .aload 0, 1, 0), (5, .ldc 53, 2, 163), (7, .invokevirtual 220, 3, 127), (10, .ifCond .eq 18, 3, 0), (13, .sipush 7, 2, 0), (15, .goto 47, 3, 0), (18, .aload 0, 1, 0), (19, .ldc 51, 2, 159), (21, .invokevirtual 220, 3, 127), (24, .ifCond .eq 32, 3, 0), (27, .sipush 8, 2, 0), (29, .goto 47, 3, 0), (32, .aload 0, 1, 0), (33, .ldc 64, 2, 233), (35, .invokevirtual 220, 3, 127), (38, .ifCond .eq 46, 3, 0), (41, .sipush 9, 2, 0), (43, .goto 47, 3, 0), (46, .sipush (-1), 1, 0), (47, .istore 1, 1, 0), (48, .iload 1, 1, 0), (49, .ifCond .lt 61, 3, 0), (52, .aload 0, 1, 0), (53, .iload 1, 1, 0), (54, .sipush 0, 1, 0), (55, .invokevirtual 236, 3, 223), (58, .goto 69, 3, 0), (61, .aload 0, 1, 0), (62, .aload 0, 1, 0), (63, .getfield 716, 3, 109), (66, .putfield 714, 3, 99), (69, .iload 1, 1, 0), (70, .ifCond .lt 77, 3, 0), (73, .sipush 1, 1, 0), (74, .goto 78, 3, 0), (77, .sipush 0, 1, 0), (78, .ireturn, 1, 0)]
/-- SinglesPastModel.readAtom()Z -/
def tO_241 : List (Nat × av_O) := [(0, .aload 0, 1, 0), (1, .sipush 40, 2, 0), (3, .invokevirtual 222, 3, 230), (6, .ifCond .eq 56, 3, 0), (9, .aload 0, 1, 0), (10, .getfield 717, 3, 235), (13, .sipush 6, 2, 0), (15, .if_icmp .ne 20, 3, 0), (18, .sipush 0, 1, 0), (19, .ireturn, 1, 0), (20, .aload 0, 1, 0), (21, .dup, 1, 0), (22, .getfield 717, 3, 235), (25, .sipush 1, 1, 0), (26, .iadd, 1, 0), (27, .putfield 717, 3, 235), (30, .aload 0, 1, 0), (31, .invokevirtual 243, 3, 238), (34, .ifCond .ne 39, 3, 0), (37, .sipush 0, 1, 0), (38, .ireturn, 1, 0), (39, .aload 0, 1, 0), (40, .dup, 1, 0), (41, .getfield 717, 3, 235), (44, .sipush 1, 1, 0), (45, .isub, 1, 0), (46, .putfield 717, 3, 235), (49, .aload 0, 1, 0), (50, .sipush 41, 2, 0), (52, .invokevirtual 222, 3, 230), (55, .ireturn, 1, 0), (56, .aload 0, 1, 0), (57, .ldc 63, 2, 241), (59, .invokevirtual 221, 3, 134), (62, .ifCond .eq 114, 3, 0), (65, .aload 0, 1, 0), (66, .getfield 717, 3, 235), (69, .sipush 6, 2, 0), (71, .if_icmp .ne 76, 3, 0), (74, .sipush 0, 1, 0), (75, .ireturn, 1, 0), (76, .aload 0, 1, 0), (77, .dup, 1, 0), (78, .getfield 717, 3, 235), (81, .sipush 1, 1, 0), (82, .iadd, 1, 0), (83, .putfield 717, 3, 235), (86, .aload 0, 1, 0), (87, .invokevirtual 241, 3, 243), (90, .ifCond .ne 95, 3, 0), (93, .sipush 0, 1, 0), (94, .ireturn, 1, 0), (95, .aload 0, 1, 0), (96, .dup, 1, 0), (97, .getfield 717, 3, 235), (100, .sipush 1, 1, 0), (101, .isub, 1, 0), (102, .putfield 717, 3, 235), (105, .aload 0, 1, 0), (106, .sipush 14, 2, 0), (108, .sipush 0, 1, 0), (109, .invokevirtual 236, 3, 223), (112, .sipush 1, 1, 0), (113, .ireturn, 1, 0), (114, .aload 0, 1, 0), (115, .invokevirtual 240, 3, 246), (118, .ifCond .eq 123, 3, 0), (121, .sipush 1, 1, 0), (122, .ireturn, 1, 0), (123, .aload 0, 1, 0), (124, .invokevirtual 239, 3, 249), (127, .ifCond .ne 132, 3, 0), (130, .sipush 0, 1, 0), (131, .ireturn, 1, 0), (132, .aload 0, 1, 0), (133, .sipush 60, 2, 0), (135, .invokevirtual 222, 3, 230), (138, .istore 1, 1, 0), (139, .iload 1, 1, 0), (140, .ifCond .ne 152, 3, 0), (143, .aload 0, 1, 0), (144, .sipush 62, 2, 0), (146, .invokevirtual 222, 3, 230), (149, .ifCond .eq 159, 3, 0), (152, .aload 0, 1, 0), (153, .invokevirtual 239, 3, 249), (156, .ifCond .ne 161, 3, 0), (159, .sipush 0, 1, 0), (160, .ireturn, 1, 0), (161, .aload 0, 1, 0), (162, .iload 1, 1, 0), (163, .ifCond .eq 171, 3, 0), (166, .sipush 12, 2, 0), (168, .goto 173, 3, 0), (171, .sipush 13, 2, 0), (173, .sipush 0, 1, 0), (174, .invokevirtual 236, 3, 223), (177, .sipush 1, 1, 0), (178, .ireturn, 1, 0)]
/-- SinglesPastModel.readAllOf()Z -/
def tO_242 : List (Nat × av_O) := [(0, .aload 0, 1, 0), (1, .invokevirtual 241, 3, 243), (4, .ifCond .ne 9, 3, 0), (7, .sipush 0, 1, 0), (8, .ireturn, 1, 0), (9, .aload 0, 1, 0), (10, .ldc 67, 2, 252), (12, .invokevirtual 221, 3, 134), (15, .ifCond .eq 37, 3, 0), (18, .aload 0, 1, 0), (19, .invokevirtual 241, 3, 243), (22, .ifCond .ne 27, 3, 0), (25, .sipush 0, 1, 0), (26, .ireturn, 1, 0), (27, .aload 0, 1, 0), (28, .sipush 15, 2, 0), (30, .sipush 0, 1, 0), (31, .invokevirtual 236, 3, 223), (34, .goto 9, 3, 0), (37, .sipush 1, 1, 0), (38, .ireturn, 1, 0)]
/-- SinglesPastModel.readCond()Z -/
def tO_243 : List (Nat × av_O) := [(0, .aload 0, 1, 0), (1, .invokevirtual 242, 3, 254), (4, .ifCond .ne 9, 3, 0), (7, .sipush 0, 1, 0), (8, .ireturn, 1, 0), (9, .aload 0, 1, 0), (10, .ldc 68, 3, 257), (13, .invokevirtual 221, 3, 134), (16, .ifCond .eq 38, 3, 0), (19, .aload 0, 1, 0), (20, .invokevirtual 242, 3, 254), (23, .ifCond .ne 28, 3, 0), (26, .sipush 0, 1, 0), (27, .ireturn, 1, 0), (28, .aload 0, 1, 0), (29, .sipush 16, 2, 0), (31, .sipush 0, 1, 0), (32, .invokevirtual 236, 3, 223), (35, .goto 9, 3, 0), (38, .sipush 1, 1, 0), (39, .ireturn, 1, 0)]
/-- SinglesPastModel.readLawLine(I)Z -/
def tO_244 : List (Nat × av_O) := [(0, .sipush 1202, 3, 0), (3, .sipush 4, 1, 0), (4, .iload 1, 1, 0), (5, .imul, 1, 0), (6, .iadd, 1, 0), (7, .istore 2, 1, 0), (8, .aload 0, 1, 0), (9, .getfield 705, 3, 13), (12, .iload 2, 1, 0), (13, .aload 0, 1, 0), (14, .ldc 59, 3, 259), (17, .invokevirtual 220, 3, 127), (20, .ifCond .eq 27, 3, 0), (23, .sipush 0, 1, 0), (24, .goto 56, 3, 0), (27, .aload 0, 1, 0), (28, .ldc 60, 3, 261), (31, .invokevirtual 220, 3, 127), (34, .ifCond .eq 41, 3, 0), (37, .sipush 1, 1, 0), (38, .goto 56, 3, 0), (41, .aload 0, 1, 0), (42, .ldc 61, 3, 263), (45, .invokevirtual 220, 3, 127), (48, .ifCond .eq 55, 3, 0), (51, .sipush 2, 1, 0), (52, .goto 56, 3, 0), (55, .sipush (-1), 1, 0), (56, .iastore, 1, 0), (57, .aload 0, 1, 0), (58, .getfield 705, 3, 13), (61, .iload 2, 1, 0), (62, .iaload, 1, 0), (63, .ifCond .ge 68, 3, 0), (66, .sipush 0, 1, 0), (67, .ireturn, 1, 0), (68, .aload 0, 1, 0), (69, .getfield 705, 3, 13), (72, .iload 2, 1, 0), (73, .sipush 1, 1, 0), (74, .iadd, 1, 0), (75, .aload 0, 1, 0), (76, .getfield 705, 3, 13), (79, .iload 2, 1, 0), (80, .iaload, 1, 0), (81, .sipush 2, 1, 0), (82, .if_icmp .ne 89, 3, 0), (85, .sipush 0, 1, 0), (86, .goto 97, 3, 0), (89, .aload 0, 1, 0), (90, .sipush 0, 1, 0), (91, .sipush 200, 3, 0), (94, .invokevirtual 223, 3, 131), (97, .iastore, 1, 0), (98, .aload 0, 1, 0), (99, .getfield 705, 3, 13), (102, .iload 2, 1, 0), (103, .sipush 1, 1, 0), (104, .iadd, 1, 0), (105, .iaload, 1, 0), (106, .ifCond .ge 111, 3, 0), (109, .sipush 0, 1, 0), (110, .ireturn, 1, 0), (111, .aload 0, 1, 0), (112, .getfield 705, 3, 13), (115, .iload 2, 1, 0), (116, .sipush 2, 1, 0), (117, .iadd, 1, 0), (118, .aload 0, 1, 0), (119, .getfield 720, 3, 213), (122, .iastore, 1, 0), (123, .aload 0, 1, 0), (124, .sipush 0, 1, 0), (125, .putfield 717, 3, 235), (128, .aload 0, 1, 0), (129, .ldc 62, 3, 265), (132, .invokevirtual 221, 3, 134), (135, .ifCond .eq 147, 3, 0), (138, .aload 0, 1, 0), (139, .invokevirtual 243, 3, 238), (142, .ifCond .ne 147, 3, 0), (145, .sipush 0, 1, 0), (146, .ireturn, 1, 0), (147, .aload 0, 1, 0), (148, .getfield 705, 3, 13), (151, .iload 2, 1, 0), (152, .sipush 3, 1, 0), (153, .iadd, 1, 0), (154, .aload 0, 1, 0), (155, .getfield 720, 3, 213), (158, .iastore, 1, 0), (159, .sipush 1, 1, 0), (160, .ireturn, 1, 0)]
/-- SinglesPastModel.readLine(ZI)Z -/
def tO_245 : List (Nat × av_O) := [(0, .aload 0, 1, 0), (1, .invokevirtual 219, 3, 124), (4, .iload 2, 1, 0), (5, .iload 1, 1, 0), (6, .ifCond .eq 14, 3, 0), (9, .sipush 14, 2, 0), (11, .goto 16, 3, 0), (14, .sipush 12, 2, 0), (16, .if_icmp .ge 45, 3, 0), (19, .iload 1, 1, 0), (20, .ifCond .eq 33, 3, 0), (23, .aload 0, 1, 0), (24, .invokevirtual 235, 3, 267), (27, .ifCond .eq 45, 3, 0), (30, .goto 41, 3, 0), (33, .aload 0, 1, 0), (34, .iload 2, 1, 0), (35, .invokevirtual 244, 3, 270), (38, .ifCond .eq 45, 3, 0), (41, .sipush 1, 1, 0), (42, .goto 46, 3, 0), (45, .sipush 0, 1, 0), (46, .ireturn, 1, 0)]
/-- SinglesPastModel.readAll(Z)I -/
def tO_246 : List (Nat × av_O) := [(0, .aload 0, 1, 0), (1, .invokevirtual 227, 3, 273), (4, .aload 0, 1, 0), (5, .sipush 0, 1, 0), (6, .putfield 720, 3, 213), (9, .aload 0, 1, 0), (10, .invokevirtual 218, 3, 112), (13, .aload 0, 1, 0), (14, .getfield 714, 3, 99), (17, .aload 0, 1, 0), (18, .getfield 715, 3, 102), (21, .if_icmp .ne 26, 3, 0), (24, .sipush 0, 1, 0), (25, .ireturn, 1, 0), (26, .sipush 0, 1, 0), (27, .istore 2, 1, 0), (28, .aload 0, 1, 0), (29, .iload 1, 1, 0), (30, .iload 2, 1, 0), (31, .invokevirtual 245, 3, 276), (34, .ifCond .ne 39, 3, 0), (37, .sipush (-1), 1, 0), (38, .ireturn, 1, 0), (39, .aload 0, 1, 0), (40, .invokevirtual 218, 3, 112), (43, .aload 0, 1, 0), (44, .getfield 714, 3, 99), (47, .aload 0, 1, 0), (48, .getfield 715, 3, 102), (51, .if_icmp .ne 58, 3, 0), (54, .iload 2, 1, 0), (55, .sipush 1, 1, 0), (56, .iadd, 1, 0), (57, .ireturn, 1, 0), (58, .aload 0, 1, 0), (59, .sipush 59, 2, 0), (61, .sipush 59, 2, 0), (63, .invokevirtual 217, 3, 105), (66, .ifCond .ne 71, 3, 0), (69, .sipush (-1), 1, 0), (70, .ireturn, 1, 0), (71, .aload 0, 1, 0), (72, .dup, 1, 0), (73, .getfield 714, 3, 99), (76, .sipush 1, 1, 0), (77, .iadd, 1, 0), (78, .putfield 714, 3, 99), (81, .iinc 2 1, 3, 0), (84, .goto 28, 3, 0)]
/-- SinglesPastModel.station()I -/
def tO_247 : List (Nat × av_O) := [(0, .sipush 0, 1, 0), (1, .istore 1, 1, 0), (2, .iload 1, 1, 0), (3, .sipush 1201, 3, 0), (6, .if_icmp .ge 27, 3, 0), (9, .aload 0, 1, 0), (10, .getfield 707, 3, 20), (13, .iload 1, 1, 0), (14, .aload 0, 1, 0), (15, .getfield 705, 3, 13), (18, .iload 1, 1, 0), (19, .iaload, 1, 0), (20, .iastore, 1, 0), (21, .iinc 1 1, 3, 0), (24, .goto 2, 3, 0), (27, .aload 0, 1, 0), (28, .sipush 1, 1, 0), (29, .invokevirtual 246, 3, 280), (32, .istore 1, 1, 0), (33, .aload 0, 1, 0), (34, .iload 1, 1, 0), (35, .ifCond .ge 45, 3, 0), (38, .aload 0, 1, 0), (39, .getfield 716, 3, 109), (42, .goto 46, 3, 0), (45, .sipush (-1), 1, 0), (46, .putfield 718, 3, 33), (49, .aload 0, 1, 0), (50, .iload 1, 1, 0), (51, .ifCond .ge 58, 3, 0), (54, .sipush 1, 1, 0), (55, .goto 59, 3, 0), (58, .sipush 0, 1, 0), (59, .sipush 1, 1, 0), (60, .invokevirtual 187, 3, 284), (63, .ifCond .ne 90, 3, 0), (66, .aload 0, 1, 0), (67, .aload 0, 1, 0), (68, .getfield 705, 3, 13), (71, .sipush 3, 1, 0), (72, .iaload, 1, 0), (73, .sipush 12, 2, 0), (75, .if_icmp .ne 82, 3, 0), (78, .sipush 1, 1, 0), (79, .goto 83, 3, 0), (82, .sipush 0, 1, 0), (83, .sipush 2, 1, 0), (84, .invokevirtual 187, 3, 284), (87, .ifCond .eq 119, 3, 0), (90, .sipush 0, 1, 0), (91, .istore 2, 1, 0), (92, .iload 2, 1, 0), (93, .sipush 1201, 3, 0), (96, .if_icmp .ge 117, 3, 0), (99, .aload 0, 1, 0), (100, .getfield 705, 3, 13), (103, .iload 2, 1, 0), (104, .aload 0, 1, 0), (105, .getfield 707, 3, 20), (108, .iload 2, 1, 0), (109, .iaload, 1, 0), (110, .iastore, 1, 0), (111, .iinc 2 1, 3, 0), (114, .goto 92, 3, 0), (117, .sipush 0, 1, 0), (118, .ireturn, 1, 0), (119, .aload 0, 1, 0), (120, .getfield 705, 3, 13), (123, .sipush 3, 1, 0), (124, .dup2, 1, 0), (125, .iaload, 1, 0), (126, .sipush 1, 1, 0), (127, .iadd, 1, 0), (128, .iastore, 1, 0), (129, .aload 0, 1, 0), (130, .sipush 0, 1, 0), (131, .putfield 711, 3, 61), (134, .aload 0, 1, 0), (135, .getfield 705, 3, 13), (138, .sipush 3, 1, 0), (139, .iaload, 1, 0), (140, .ireturn, 1, 0)]
/-- SinglesPastModel.law()I -/
def tO_248 : List (Nat × av_O) := [(0, .aload 0, 1, 0), (1, .sipush 0, 1, 0), (2, .invokevirtual 246, 3, 280), (5, .istore 1, 1, 0), (6, .aload 0, 1, 0), (7, .iload 1, 1, 0), (8, .ifCond .ge 18, 3, 0), (11, .aload 0, 1, 0), (12, .getfield 716, 3, 109), (15, .goto 19, 3, 0), (18, .sipush (-1), 1, 0), (19, .putfield 718, 3, 33), (22, .aload 0, 1, 0), (23, .iload 1, 1, 0), (24, .ifCond .ge 31, 3, 0), (27, .sipush 1, 1, 0), (28, .goto 32, 3, 0), (31, .sipush 0, 1, 0), (32, .sipush 1, 1, 0), (33, .invokevirtual 187, 3, 284), (36, .ifCond .eq 41, 3, 0), (39, .sipush 0, 1, 0), (40, .ireturn, 1, 0), (41, .aload 0, 1, 0), (42, .getfield 705, 3, 13), (45, .sipush 1201, 3, 0), (48, .iload 1, 1, 0), (49, .iastore, 1, 0), (50, .sipush 0, 1, 0), (51, .istore 2, 1, 0), (52, .iload 2, 1, 0), (53, .sipush 849, 3, 0), (56, .if_icmp .ge 85, 3, 0), (59, .aload 0, 1, 0), (60, .getfield 705, 3, 13), (63, .sipush 352, 3, 0), (66, .iload 2, 1, 0), (67, .iadd, 1, 0), (68, .aload 0, 1, 0), (69, .getfield 705, 3, 13), (72, .sipush 1201, 3, 0), (75, .iload 2, 1, 0), (76, .iadd, 1, 0), (77, .iaload, 1, 0), (78, .iastore, 1, 0), (79, .iinc 2 1, 3, 0), (82, .goto 52, 3, 0), (85, .aload 0, 1, 0), (86, .getfield 705, 3, 13), (89, .sipush 4, 1, 0), (90, .sipush 1, 1, 0), (91, .iastore, 1, 0), (92, .aload 0, 1, 0), (93, .sipush 0, 1, 0), (94, .putfield 711, 3, 61), (97, .iload 1, 1, 0), (98, .ireturn, 1, 0)]
/-- SinglesPastModel.factOf(IIII)I -/
def tO_249 : List (Nat × av_O) := [(0, .iload 1, 1, 0), (1, .tableswitch 153 0 9 #[56, 58, 65, 72, 79, 82, 89, 99, 115, 131], 55, 0), (56, .iload 3, 1, 0), (57, .ireturn, 1, 0), (58, .aload 0, 1, 0), (59, .iload 3, 1, 0), (60, .sipush 0, 1, 0), (61, .invokevirtual 203, 3, 78), (64, .ireturn, 1, 0), (65, .aload 0, 1, 0), (66, .iload 3, 1, 0), (67, .sipush 4, 1, 0), (68, .invokevirtual 203, 3, 78), (71, .ireturn, 1, 0), (72, .aload 0, 1, 0), (73, .iload 3, 1, 0), (74, .sipush 5, 1, 0), (75, .invokevirtual 203, 3, 78), (78, .ireturn, 1, 0), (79, .iload 4, 2, 0), (81, .ireturn, 1, 0), (82, .aload 0, 1, 0), (83, .iload 4, 2, 0), (85, .invokevirtual 209, 3, 287), (88, .ireturn, 1, 0), (89, .aload 0, 1, 0), (90, .getfield 705, 3, 13), (93, .sipush 5, 1, 0), (94, .iaload, 1, 0), (95, .sipush 100, 2, 0), (97, .irem, 1, 0), (98, .ireturn, 1, 0), (99, .aload 0, 1, 0), (100, .iload 3, 1, 0), (101, .sipush 3, 1, 0), (102, .invokevirtual 203, 3, 78), (105, .sipush (-1), 1, 0), (106, .if_icmp .ne 113, 3, 0), (109, .sipush 0, 1, 0), (110, .goto 114, 3, 0), (113, .sipush 1, 1, 0), (114, .ireturn, 1, 0), (115, .aload 0, 1, 0), (116, .iload 3, 1, 0), (117, .sipush 1, 1, 0), (118, .invokevirtual 203, 3, 78), (121, .sipush (-1), 1, 0), (122, .if_icmp .ne 129, 3, 0), (125, .sipush 0, 1, 0), (126, .goto 130, 3, 0), (129, .sipush 1, 1, 0), (130, .ireturn, 1, 0), (131, .aload 0, 1, 0), (132, .iload 4, 2, 0), (134, .invokevirtual 209, 3, 287), (137, .aload 0, 1, 0), (138, .iload 4, 2, 0), (140, .sipush 1, 1, 0), (141, .invokevirtual 205, 3, 291), (144, .if_icmp .lt 151, 3, 0), (147, .sipush 1, 1, 0), (148, .goto 152, 3, 0), (151, .sipush 0, 1, 0), (152, .ireturn, 1, 0), (153, .iload 2, 1, 0), (154, .ireturn, 1, 0)]
/-- SinglesPastModel.holdsLine(III)Z -/
def tO_250 : List (Nat × av_O) := [(0, .sipush 0, 1, 0), (1, .istore 4, 2, 0), (3, .sipush 353, 3, 0), (6, .sipush 4, 1, 0), (7, .iload 1, 1, 0), (8, .imul, 1, 0), (9, .iadd, 1, 0), (10, .istore 5, 2, 0), (12, .aload 0, 1, 0), (13, .getfield 705, 3, 13), (16, .iload 5, 2, 0), (18, .sipush 2, 1, 0), (19, .iadd, 1, 0), (20, .iaload, 1, 0), (21, .istore 6, 2, 0), (23, .iload 6, 2, 0), (25, .aload 0, 1, 0), (26, .getfield 705, 3, 13), (29, .iload 5, 2, 0), (31, .sipush 3, 1, 0), (32, .iadd, 1, 0), (33, .iaload, 1, 0), (34, .if_icmp .ge 271, 3, 0), (37, .aload 0, 1, 0), (38, .getfield 705, 3, 13), (41, .sipush 401, 3, 0), (44, .sipush 2, 1, 0), (45, .iload 6, 2, 0), (47, .imul, 1, 0), (48, .iadd, 1, 0), (49, .iaload, 1, 0), (50, .istore 7, 2, 0), (52, .iload 7, 2, 0), (54, .sipush 10, 2, 0), (56, .if_icmp .gt 95, 3, 0), (59, .aload 0, 1, 0), (60, .getfield 721, 3, 39), (63, .iload 4, 2, 0), (65, .aload 0, 1, 0), (66, .iload 7, 2, 0), (68, .aload 0, 1, 0), (69, .getfield 705, 3, 13), (72, .sipush 401, 3, 0), (75, .sipush 2, 1, 0), (76, .iload 6, 2, 0), (78, .imul, 1, 0), (79, .iadd, 1, 0), (80, .sipush 1, 1, 0), (81, .iadd, 1, 0), (82, .iaload, 1, 0), (83, .iload 2, 1, 0), (84, .iload 3, 1, 0), (85, .invokevirtual 249, 3, 294), (88, .iastore, 1, 0), (89, .iinc 4 1, 3, 0), (92, .goto 265, 3, 0), (95, .iload 7, 2, 0), (97, .sipush 14, 2, 0), (99, .if_icmp .ne 125, 3, 0), (102, .aload 0, 1, 0), (103, .getfield 721, 3, 39), (106, .iload 4, 2, 0), (108, .sipush 1, 1, 0), (109, .isub, 1, 0), (110, .sipush 1, 1, 0), (111, .aload 0, 1, 0), (112, .getfield 721, 3, 39), (115, .iload 4, 2, 0), (117, .sipush 1, 1, 0), (118, .isub, 1, 0), (119, .iaload, 1, 0), (120, .isub, 1, 0), (121, .iastore, 1, 0), (122, .goto 265, 3, 0), (125, .iinc 4 (-1), 3, 0), (128, .aload 0, 1, 0), (129, .getfield 721, 3, 39), (132, .iload 4, 2, 0), (134, .sipush 1, 1, 0), (135, .isub, 1, 0), (136, .iaload, 1, 0), (137, .istore 8, 2, 0), (139, .aload 0, 1, 0), (140, .getfield 721, 3, 39), (143, .iload 4, 2, 0), (145, .iaload, 1, 0), (146, .istore 9, 2, 0), (148, .iload 7, 2, 0), (150, .sipush 12, 2, 0), (152, .if_icmp .ne 170, 3, 0), (155, .iload 8, 2, 0), (157, .iload 9, 2, 0), (159, .if_icmp .ge 166, 3, 0), (162, .sipush 1, 1, 0), (163, .goto 229, 3, 0), (166, .sipush 0, 1, 0), (167, .goto 229, 3, 0), (170, .iload 7, 2, 0), (172, .sipush 13, 2, 0), (174, .if_icmp .ne 192, 3, 0), (177, .iload 8, 2, 0), (179, .iload 9, 2, 0), (181, .if_icmp .le 188, 3, 0), (184, .sipush 1, 1, 0), (185, .goto 229, 3, 0), (188, .sipush 0, 1, 0), (189, .goto 229, 3, 0), (192, .iload 7, 2, 0), (194, .sipush 15, 2, 0), (196, .if_icmp .ne 216, 3, 0), (199, .iload 8, 2, 0), (201, .iload 9, 2, 0), (203, .iadd, 1, 0), (204, .sipush 2, 1, 0), (205, .if_icmp .ne 212, 3, 0), (208, .sipush 1, 1, 0), (209, .goto 229, 3, 0), (212, .sipush 0, 1, 0), (213, .goto 229, 3, 0), (216, .iload 8, 2, 0), (218, .iload 9, 2, 0), (220, .iadd, 1, 0), (221, .ifCond .le 228, 3, 0), (224, .sipush 1, 1, 0), (225, .goto 229, 3, 0), (228, .sipush 0, 1, 0), (229, .istore 10, 2, 0), (231, .aload 0, 1, 0), (232, .getfield 721, 3, 39), (235, .iload 4, 2, 0), (237, .sipush 1, 1, 0), (238, .isub, 1, 0), (239, .iload 7, 2, 0), (241, .sipush 11, 2, 0), (243, .if_icmp .ne 254, 3, 0), (246, .iload 8, 2, 0), (248, .iload 9, 2, 0), (250, .iadd, 1, 0), (251, .goto 264, 3, 0), (254, .iload 10, 2, 0), (256, .ifCond .eq 263, 3, 0), (259, .sipush 1, 1, 0), (260, .goto 264, 3, 0), (263, .sipush 0, 1, 0), (264, .iastore, 1, 0), (265, .iinc 6 1, 3, 0), (268, .goto 23, 3, 0), (271, .iload 4, 2, 0), (273, .ifCond .eq 286, 3, 0), (276, .aload 0, 1, 0), (277, .getfield 721, 3, 39), (280, .sipush 0, 1, 0), (281, .iaload, 1, 0), (282, .sipush 1, 1, 0), (283, .if_icmp .ne 290, 3, 0), (286, .sipush 1, 1, 0), (287, .goto 291, 3, 0), (290, .sipush 0, 1, 0), (291, .ireturn, 1, 0)]
/-- SinglesPastModel.sumOf(III)I -/
def tO_251 : List (Nat × av_O) := [(0, .sipush 0, 1, 0), (1, .istore 4, 2, 0), (3, .sipush 0, 1, 0), (4, .istore 5, 2, 0), (6, .aload 0, 1, 0), (7, .getfield 705, 3, 13), (10, .sipush 4, 1, 0), (11, .iaload, 1, 0), (12, .sipush 1, 1, 0), (13, .if_icmp .ne 83, 3, 0), (16, .iload 5, 2, 0), (18, .aload 0, 1, 0), (19, .getfield 705, 3, 13), (22, .sipush 352, 3, 0), (25, .iaload, 1, 0), (26, .if_icmp .ge 83, 3, 0), (29, .aload 0, 1, 0), (30, .getfield 705, 3, 13), (33, .sipush 353, 3, 0), (36, .sipush 4, 1, 0), (37, .iload 5, 2, 0), (39, .imul, 1, 0), (40, .iadd, 1, 0), (41, .iaload, 1, 0), (42, .iload 1, 1, 0), (43, .if_icmp .ne 77, 3, 0), (46, .aload 0, 1, 0), (47, .iload 5, 2, 0), (49, .iload 2, 1, 0), (50, .iload 3, 1, 0), (51, .invokevirtual 250, 3, 298), (54, .ifCond .eq 77, 3, 0), (57, .iload 4, 2, 0), (59, .aload 0, 1, 0), (60, .getfield 705, 3, 13), (63, .sipush 353, 3, 0), (66, .sipush 4, 1, 0), (67, .iload 5, 2, 0), (69, .imul, 1, 0), (70, .iadd, 1, 0), (71, .sipush 1, 1, 0), (72, .iadd, 1, 0), (73, .iaload, 1, 0), (74, .iadd, 1, 0), (75, .istore 4, 2, 0), (77, .iinc 5 1, 3, 0), (80, .goto 6, 3, 0), (83, .iload 4, 2, 0), (85, .ireturn, 1, 0)]
/-- SinglesPastModel.isBarred(II)Z -/
def tO_252 : List (Nat × av_O) := [(0, .sipush 0, 1, 0), (1, .istore 3, 1, 0), (2, .sipush 0, 1, 0), (3, .istore 4, 2, 0), (5, .aload 0, 1, 0), (6, .getfield 705, 3, 13), (9, .sipush 4, 1, 0), (10, .iaload, 1, 0), (11, .sipush 1, 1, 0), (12, .if_icmp .ne 72, 3, 0), (15, .iload 4, 2, 0), (17, .aload 0, 1, 0), (18, .getfield 705, 3, 13), (21, .sipush 352, 3, 0), (24, .iaload, 1, 0), (25, .if_icmp .ge 72, 3, 0), (28, .iload 3, 1, 0), (29, .ifCond .ne 60, 3, 0), (32, .aload 0, 1, 0), (33, .getfield 705, 3, 13), (36, .sipush 353, 3, 0), (39, .sipush 4, 1, 0), (40, .iload 4, 2, 0), (42, .imul, 1, 0), (43, .iadd, 1, 0), (44, .iaload, 1, 0), (45, .sipush 2, 1, 0), (46, .if_icmp .ne 64, 3, 0), (49, .aload 0, 1, 0), (50, .iload 4, 2, 0), (52, .iload 1, 1, 0), (53, .iload 2, 1, 0), (54, .invokevirtual 250, 3, 298), (57, .ifCond .eq 64, 3, 0), (60, .sipush 1, 1, 0), (61, .goto 65, 3, 0), (64, .sipush 0, 1, 0), (65, .istore 3, 1, 0), (66, .iinc 4 1, 3, 0), (69, .goto 5, 3, 0), (72, .iload 3, 1, 0), (73, .ireturn, 1, 0)]
/-- SinglesPastModel.costOf(II)I -/
def tO_253 : List (Nat × av_O) := [(0, .sipush 10, 2, 0), (2, .aload 0, 1, 0), (3, .sipush 0, 1, 0), (4, .iload 1, 1, 0), (5, .iload 2, 1, 0), (6, .invokevirtual 251, 3, 301), (9, .iadd, 1, 0), (10, .ireturn, 1, 0)]
/-- SinglesPastModel.fearOf(II)I -/
def tO_254 : List (Nat × av_O) := [(0, .aload 0, 1, 0), (1, .sipush 1, 1, 0), (2, .iload 1, 1, 0), (3, .iload 2, 1, 0), (4, .invokevirtual 251, 3, 301), (7, .ireturn, 1, 0)]
/-- SinglesPastModel.stopsFor(II)Z -/
def tO_255 : List (Nat × av_O) := [(0, .aload 0, 1, 0), (1, .iload 2, 1, 0), (2, .sipush 0, 1, 0), (3, .invokevirtual 205, 3, 291), (6, .aload 0, 1, 0), (7, .iload 1, 1, 0), (8, .sipush 0, 1, 0), (9, .invokevirtual 203, 3, 78), (12, .invokestatic 189, 3, 170), (15, .ireturn, 1, 0)]
/-- SinglesPastModel.meetsNone(II)Z -/
def tO_256 : List (Nat × av_O) := [(0, .sipush 1, 1, 0), (1, .istore 3, 1, 0), (2, .sipush 0, 1, 0), (3, .istore 4, 2, 0), (5, .iload 4, 2, 0), (7, .aload 0, 1, 0), (8, .invokevirtual 198, 3, 74), (11, .if_icmp .ge 66, 3, 0), (14, .iload 3, 1, 0), (15, .ifCond .eq 58, 3, 0), (18, .aload 0, 1, 0), (19, .iload 1, 1, 0), (20, .sipush 6, 2, 0), (22, .invokevirtual 203, 3, 78), (25, .iload 4, 2, 0), (27, .invokestatic 189, 3, 170), (30, .ifCond .eq 54, 3, 0), (33, .aload 0, 1, 0), (34, .iload 4, 2, 0), (36, .invokevirtual 207, 3, 81), (39, .ifCond .eq 54, 3, 0), (42, .aload 0, 1, 0), (43, .iload 4, 2, 0), (45, .sipush 8, 2, 0), (47, .invokevirtual 203, 3, 78), (50, .iload 2, 1, 0), (51, .if_icmp .eq 58, 3, 0), (54, .sipush 1, 1, 0), (55, .goto 59, 3, 0), (58, .sipush 0, 1, 0), (59, .istore 3, 1, 0), (60, .iinc 4 1, 3, 0), (63, .goto 5, 3, 0), (66, .iload 3, 1, 0), (67, .ireturn, 1, 0)]
/-- SinglesPastModel.canGo(II)Z -/
def tO_257 : List (Nat × av_O) := [(0, .aload 0, 1, 0), (1, .iload 1, 1, 0), (2, .invokevirtual 207, 3, 81), (5, .ifCond .ne 68, 3, 0), (8, .aload 0, 1, 0), (9, .iload 1, 1, 0), (10, .iload 2, 1, 0), (11, .invokevirtual 255, 3, 305), (14, .ifCond .eq 68, 3, 0), (17, .aload 0, 1, 0), (18, .iload 2, 1, 0), (19, .invokevirtual 209, 3, 287), (22, .aload 0, 1, 0), (23, .iload 2, 1, 0), (24, .sipush 1, 1, 0), (25, .invokevirtual 205, 3, 291), (28, .if_icmp .ge 68, 3, 0), (31, .aload 0, 1, 0), (32, .iload 1, 1, 0), (33, .iload 2, 1, 0), (34, .invokevirtual 253, 3, 308), (37, .aload 0, 1, 0), (38, .iload 1, 1, 0), (39, .sipush 4, 1, 0), (40, .invokevirtual 203, 3, 78), (43, .if_icmp .gt 68, 3, 0), (46, .aload 0, 1, 0), (47, .iload 1, 1, 0), (48, .iload 2, 1, 0), (49, .invokevirtual 252, 3, 311), (52, .ifCond .ne 68, 3, 0), (55, .aload 0, 1, 0), (56, .iload 1, 1, 0), (57, .iload 2, 1, 0), (58, .invokevirtual 256, 3, 314), (61, .ifCond .eq 68, 3, 0), (64, .sipush 1, 1, 0), (65, .goto 69, 3, 0), (68, .sipush 0, 1, 0), (69, .ireturn, 1, 0)]
/-- SinglesPastModel.trainOf(I)I -/
def tO_258 : List (Nat × av_O) := [(0, .sipush (-1), 1, 0), (1, .istore 2, 1, 0), (2, .aload 0, 1, 0), (3, .invokevirtual 199, 3, 92), (6, .sipush 1, 1, 0), (7, .isub, 1, 0), (8, .istore 3, 1, 0), (9, .iload 3, 1, 0), (10, .ifCond .lt 34, 3, 0), (13, .aload 0, 1, 0), (14, .iload 1, 1, 0), (15, .iload 3, 1, 0), (16, .invokevirtual 257, 3, 317), (19, .ifCond .eq 26, 3, 0), (22, .iload 3, 1, 0), (23, .goto 27, 3, 0), (26, .iload 2, 1, 0), (27, .istore 2, 1, 0), (28, .iinc 3 (-1), 3, 0), (31, .goto 9, 3, 0), (34, .iload 2, 1, 0), (35, .ireturn, 1, 0)]
/-- SinglesPastModel.isTold(III)V -/
def tO_259 : List (Nat × av_O) := [(0, .sipush 239, 3, 0), (3, .istore 4, 2, 0), (5, .iload 4, 2, 0), (7, .sipush 4, 1, 0), (8, .if_icmp .lt 39, 3, 0), (11, .aload 0, 1, 0), (12, .getfield 705, 3, 13), (15, .sipush 112, 2, 0), (17, .iload 4, 2, 0), (19, .iadd, 1, 0), (20, .aload 0, 1, 0), (21, .getfield 705, 3, 13), (24, .sipush 112, 2, 0), (26, .iload 4, 2, 0), (28, .iadd, 1, 0), (29, .sipush 4, 1, 0), (30, .isub, 1, 0), (31, .iaload, 1, 0), (32, .iastore, 1, 0), (33, .iinc 4 (-1), 3, 0), (36, .goto 5, 3, 0), (39, .aload 0, 1, 0), (40, .getfield 705, 3, 13), (43, .sipush 112, 2, 0), (45, .aload 0, 1, 0), (46, .getfield 705, 3, 13), (49, .sipush 5, 1, 0), (50, .iaload, 1, 0), (51, .iastore, 1, 0), (52, .aload 0, 1, 0), (53, .getfield 705, 3, 13), (56, .sipush 113, 2, 0), (58, .iload 1, 1, 0), (59, .iastore, 1, 0), (60, .aload 0, 1, 0), (61, .getfield 705, 3, 13), (64, .sipush 114, 2, 0), (66, .iload 2, 1, 0), (67, .iastore, 1, 0), (68, .aload 0, 1, 0), (69, .getfield 705, 3, 13), (72, .sipush 115, 2, 0), (74, .iload 3, 1, 0), (75, .iastore, 1, 0), (76, .aload 0, 1, 0), (77, .getfield 705, 3, 13), (80, .sipush 6, 2, 0), (82, .sipush 60, 2, 0), (84, .aload 0, 1, 0), (85, .getfield 705, 3, 13), (88, .sipush 6, 2, 0), (90, .iaload, 1, 0), (91, .sipush 1, 1, 0), (92, .iadd, 1, 0), (93, .invokestatic 359, 3, 320), (96, .iastore, 1, 0), (97, .return_, 1, 0)]
/-- SinglesPastModel.isSold(II)I -/
def tO_260 : List (Nat × av_O) := [(0, .aload 0, 1, 0), (1, .iload 1, 1, 0), (2, .iload 2, 1, 0), (3, .invokevirtual 253, 3, 308), (6, .istore 3, 1, 0), (7, .aload 0, 1, 0), (8, .getfield 705, 3, 13), (11, .iload 1, 1, 0), (12, .sipush 4, 1, 0), (13, .invokestatic 202, 3, 68), (16, .dup2, 1, 0), (17, .iaload, 1, 0), (18, .iload 3, 1, 0), (19, .isub, 1, 0), (20, .iastore, 1, 0), (21, .aload 0, 1, 0), (22, .getfield 705, 3, 13), (25, .iload 1, 1, 0), (26, .sipush 7, 2, 0), (28, .invokestatic 202, 3, 68), (31, .sipush 1, 1, 0), (32, .iastore, 1, 0), (33, .aload 0, 1, 0), (34, .getfield 705, 3, 13), (37, .iload 1, 1, 0), (38, .sipush 8, 2, 0), (40, .invokestatic 202, 3, 68), (43, .iload 2, 1, 0), (44, .iastore, 1, 0), (45, .aload 0, 1, 0), (46, .iload 1, 1, 0), (47, .iload 2, 1, 0), (48, .iload 3, 1, 0), (49, .invokevirtual 259, 3, 323), (52, .iload 3, 1, 0), (53, .ireturn, 1, 0)]
/-- SinglesPastModel.decides(IZ)Z -/
def tO_261 : List (Nat × av_O) := [(0, .aload 0, 1, 0), (1, .iload 1, 1, 0), (2, .invokevirtual 258, 3, 327), (5, .istore 3, 1, 0), (6, .iload 2, 1, 0), (7, .ifCond .ne 41, 3, 0), (10, .aload 0, 1, 0), (11, .sipush 100, 2, 0), (13, .invokevirtual 214, 3, 330), (16, .iload 3, 1, 0), (17, .sipush (-1), 1, 0), (18, .if_icmp .ne 25, 3, 0), (21, .sipush 0, 1, 0), (22, .goto 38, 3, 0), (25, .aload 0, 1, 0), (26, .iload 1, 1, 0), (27, .sipush 5, 1, 0), (28, .invokevirtual 203, 3, 78), (31, .aload 0, 1, 0), (32, .iload 1, 1, 0), (33, .iload 3, 1, 0), (34, .invokevirtual 254, 3, 333), (37, .isub, 1, 0), (38, .if_icmp .ge 45, 3, 0), (41, .sipush 1, 1, 0), (42, .goto 46, 3, 0), (45, .sipush 0, 1, 0), (46, .istore 4, 2, 0), (48, .iload 3, 1, 0), (49, .sipush (-1), 1, 0), (50, .if_icmp .eq 58, 3, 0), (53, .iload 4, 2, 0), (55, .ifCond .ne 60, 3, 0), (58, .sipush 0, 1, 0), (59, .ireturn, 1, 0), (60, .aload 0, 1, 0), (61, .iload 1, 1, 0), (62, .iload 3, 1, 0), (63, .invokevirtual 260, 3, 336), (66, .pop, 1, 0), (67, .sipush 1, 1, 0), (68, .ireturn, 1, 0)]
/-- SinglesPastModel.oneDay(Z)I -/
def tO_262 : List (Nat × av_O) := [(0, .sipush 0, 1, 0), (1, .istore 2, 1, 0), (2, .sipush 0, 1, 0), (3, .istore 3, 1, 0), (4, .iload 3, 1, 0), (5, .aload 0, 1, 0), (6, .invokevirtual 198, 3, 74), (9, .if_icmp .ge 43, 3, 0), (12, .iload 2, 1, 0), (13, .aload 0, 1, 0), (14, .iload 3, 1, 0), (15, .invokevirtual 207, 3, 81), (18, .ifCond .ne 34, 3, 0), (21, .aload 0, 1, 0), (22, .iload 3, 1, 0), (23, .iload 1, 1, 0), (24, .invokevirtual 261, 3, 339), (27, .ifCond .eq 34, 3, 0), (30, .sipush 1, 1, 0), (31, .goto 35, 3, 0), (34, .sipush 0, 1, 0), (35, .iadd, 1, 0), (36, .istore 2, 1, 0), (37, .iinc 3 1, 3, 0), (40, .goto 4, 3, 0), (43, .aload 0, 1, 0), (44, .getfield 705, 3, 13), (47, .sipush 5, 1, 0), (48, .sipush 9999, 3, 0), (51, .aload 0, 1, 0), (52, .getfield 705, 3, 13), (55, .sipush 5, 1, 0), (56, .iaload, 1, 0), (57, .sipush 1, 1, 0), (58, .iadd, 1, 0), (59, .invokestatic 359, 3, 320), (62, .iastore, 1, 0), (63, .iload 2, 1, 0), (64, .ireturn, 1, 0)]
/-- SinglesPastModel.goesOn(IZ)I -/
def tO_263 : List (Nat × av_O) := [(0, .sipush 0, 1, 0), (1, .istore 3, 1, 0), (2, .sipush 0, 1, 0), (3, .istore 4, 2, 0), (5, .iload 4, 2, 0), (7, .iload 1, 1, 0), (8, .if_icmp .ge 25, 3, 0), (11, .iload 3, 1, 0), (12, .aload 0, 1, 0), (13, .iload 2, 1, 0), (14, .invokevirtual 262, 3, 343), (17, .iadd, 1, 0), (18, .istore 3, 1, 0), (19, .iinc 4 1, 3, 0), (22, .goto 5, 3, 0), (25, .iload 3, 1, 0), (26, .ireturn, 1, 0)]
/-- SinglesPastModel.isSo(II)Z -/
def tO_264 : List (Nat × av_O) := [(0, .aload 0, 1, 0), (1, .iload 1, 1, 0), (2, .sipush 1, 1, 0), (3, .invokevirtual 201, 3, 150), (6, .sipush 1, 1, 0), (7, .if_icmp .ne 14, 3, 0), (10, .sipush 1, 1, 0), (11, .goto 15, 3, 0), (14, .sipush 0, 1, 0), (15, .istore 3, 1, 0), (16, .sipush 0, 1, 0), (17, .istore 4, 2, 0), (19, .sipush 0, 1, 0), (20, .istore 5, 2, 0), (22, .iload 5, 2, 0), (24, .aload 0, 1, 0), (25, .invokevirtual 197, 3, 85), (28, .if_icmp .ge 111, 3, 0), (31, .iload 3, 1, 0), (32, .ifCond .ne 61, 3, 0), (35, .aload 0, 1, 0), (36, .getfield 722, 3, 346), (39, .iload 5, 2, 0), (41, .invokestatic 189, 3, 170), (44, .ifCond .eq 65, 3, 0), (47, .aload 0, 1, 0), (48, .iload 5, 2, 0), (50, .sipush 3, 1, 0), (51, .invokevirtual 201, 3, 150), (54, .iload 1, 1, 0), (55, .invokestatic 189, 3, 170), (58, .ifCond .eq 65, 3, 0), (61, .sipush 1, 1, 0), (62, .goto 66, 3, 0), (65, .sipush 0, 1, 0), (66, .istore 3, 1, 0), (67, .iload 4, 2, 0), (69, .ifCond .ne 98, 3, 0), (72, .aload 0, 1, 0), (73, .getfield 722, 3, 346), (76, .iload 5, 2, 0), (78, .invokestatic 189, 3, 170), (81, .ifCond .eq 102, 3, 0), (84, .aload 0, 1, 0), (85, .iload 5, 2, 0), (87, .sipush 4, 1, 0), (88, .invokevirtual 201, 3, 150), (91, .iload 1, 1, 0), (92, .invokestatic 189, 3, 170), (95, .ifCond .eq 102, 3, 0), (98, .sipush 1, 1, 0), (99, .goto 103, 3, 0), (102, .sipush 0, 1, 0), (103, .istore 4, 2, 0), (105, .iinc 5 1, 3, 0), (108, .goto 22, 3, 0), (111, .iload 3, 1, 0), (112, .ifCond .eq 124, 3, 0), (115, .iload 4, 2, 0), (117, .ifCond .ne 124, 3, 0), (120, .sipush 1, 1, 0), (121, .goto 125, 3, 0), (124, .sipush 0, 1, 0), (125, .istore 3, 1, 0), (126, .sipush 0, 1, 0), (127, .istore 5, 2, 0), (129, .iload 5, 2, 0), (131, .aload 0, 1, 0), (132, .invokevirtual 198, 3, 74), (135, .if_icmp .ge 197, 3, 0), (138, .iload 2, 1, 0), (139, .iload 5, 2, 0), (141, .invokestatic 189, 3, 170), (144, .ifCond .eq 191, 3, 0), (147, .aload 0, 1, 0), (148, .iload 5, 2, 0), (150, .sipush 1, 1, 0), (151, .invokevirtual 203, 3, 78), (154, .iload 1, 1, 0), (155, .if_icmp .ne 191, 3, 0), (158, .aload 0, 1, 0), (159, .iload 5, 2, 0), (161, .sipush 0, 1, 0), (162, .invokevirtual 203, 3, 78), (165, .aload 0, 1, 0), (166, .iload 1, 1, 0), (167, .sipush 0, 1, 0), (168, .invokevirtual 201, 3, 150), (171, .if_icmp .gt 191, 3, 0), (174, .aload 0, 1, 0), (175, .iload 5, 2, 0), (177, .sipush 2, 1, 0), (178, .invokevirtual 203, 3, 78), (181, .sipush 1, 1, 0), (182, .if_icmp .ne 189, 3, 0), (185, .sipush 1, 1, 0), (186, .goto 190, 3, 0), (189, .sipush 0, 1, 0), (190, .istore 3, 1, 0), (191, .iinc 5 1, 3, 0), (194, .goto 129, 3, 0), (197, .iload 3, 1, 0), (198, .ireturn, 1, 0)]
/-- SinglesPastModel.worldOf(I)I -/
def tO_265 : List (Nat × av_O) := [(0, .aload 0, 1, 0), (1, .sipush 0, 1, 0), (2, .putfield 722, 3, 346), (5, .sipush 0, 1, 0), (6, .istore 2, 1, 0), (7, .iload 2, 1, 0), (8, .sipush 16, 2, 0), (10, .if_icmp .ge 66, 3, 0), (13, .sipush 0, 1, 0), (14, .istore 3, 1, 0), (15, .iload 3, 1, 0), (16, .aload 0, 1, 0), (17, .invokevirtual 197, 3, 85), (20, .if_icmp .ge 60, 3, 0), (23, .aload 0, 1, 0), (24, .iload 3, 1, 0), (25, .sipush 0, 1, 0), (26, .invokevirtual 201, 3, 150), (29, .iload 2, 1, 0), (30, .if_icmp .ne 54, 3, 0), (33, .aload 0, 1, 0), (34, .iload 3, 1, 0), (35, .iload 1, 1, 0), (36, .invokevirtual 264, 3, 348), (39, .ifCond .eq 54, 3, 0), (42, .aload 0, 1, 0), (43, .dup, 1, 0), (44, .getfield 722, 3, 346), (47, .sipush 1, 1, 0), (48, .iload 3, 1, 0), (49, .ishl, 1, 0), (50, .ior, 1, 0), (51, .putfield 722, 3, 346), (54, .iinc 3 1, 3, 0), (57, .goto 15, 3, 0), (60, .iinc 2 1, 3, 0), (63, .goto 7, 3, 0), (66, .aload 0, 1, 0), (67, .getfield 722, 3, 346), (70, .ireturn, 1, 0)]
/-- SinglesPastModel.bornIn(II)I -/
def tO_266 : List (Nat × av_O) := [(0, .sipush 0, 1, 0), (1, .istore 3, 1, 0), (2, .sipush 0, 1, 0), (3, .istore 4, 2, 0), (5, .iload 4, 2, 0), (7, .aload 0, 1, 0), (8, .invokevirtual 198, 3, 74), (11, .if_icmp .ge 65, 3, 0), (14, .iload 3, 1, 0), (15, .iload 1, 1, 0), (16, .iload 4, 2, 0), (18, .invokestatic 189, 3, 170), (21, .ifCond .eq 56, 3, 0), (24, .aload 0, 1, 0), (25, .iload 4, 2, 0), (27, .sipush 3, 1, 0), (28, .invokevirtual 203, 3, 78), (31, .sipush (-1), 1, 0), (32, .if_icmp .eq 49, 3, 0), (35, .iload 2, 1, 0), (36, .aload 0, 1, 0), (37, .iload 4, 2, 0), (39, .sipush 3, 1, 0), (40, .invokevirtual 203, 3, 78), (43, .invokestatic 189, 3, 170), (46, .ifCond .eq 56, 3, 0), (49, .sipush 1, 1, 0), (50, .iload 4, 2, 0), (52, .ishl, 1, 0), (53, .goto 57, 3, 0), (56, .sipush 0, 1, 0), (57, .ior, 1, 0), (58, .istore 3, 1, 0), (59, .iinc 4 1, 3, 0), (62, .goto 5, 3, 0), (65, .iload 3, 1, 0), (66, .ireturn, 1, 0)]
/-- SinglesPastModel.agreesBy(II)Z -/
def tO_267 : List (Nat × av_O) := [(0, .iload 1, 1, 0), (1, .iload 2, 1, 0), (2, .sipush (-1), 1, 0), (3, .ixor, 1, 0), (4, .iand, 1, 0), (5, .ifCond .ne 26, 3, 0), (8, .aload 0, 1, 0), (9, .iload 2, 1, 0), (10, .aload 0, 1, 0), (11, .iload 1, 1, 0), (12, .invokevirtual 265, 3, 351), (15, .invokevirtual 266, 3, 354), (18, .iload 1, 1, 0), (19, .if_icmp .ne 26, 3, 0), (22, .sipush 1, 1, 0), (23, .goto 27, 3, 0), (26, .sipush 0, 1, 0), (27, .ireturn, 1, 0)]
/-- SinglesPastModel.pastBy(I)I -/
def tO_268 : List (Nat × av_O) := [(0, .sipush (-1), 1, 0), (1, .istore 2, 1, 0), (2, .sipush 0, 1, 0), (3, .istore 3, 1, 0), (4, .iload 3, 1, 0), (5, .iload 1, 1, 0), (6, .if_icmp .gt 42, 3, 0), (9, .aload 0, 1, 0), (10, .iload 3, 1, 0), (11, .iload 1, 1, 0), (12, .invokevirtual 267, 3, 357), (15, .ifCond .eq 36, 3, 0), (18, .iload 2, 1, 0), (19, .sipush (-1), 1, 0), (20, .if_icmp .eq 34, 3, 0), (23, .iload 3, 1, 0), (24, .invokestatic 357, 3, 360), (27, .iload 2, 1, 0), (28, .invokestatic 357, 3, 360), (31, .if_icmp .ge 36, 3, 0), (34, .iload 3, 1, 0), (35, .istore 2, 1, 0), (36, .iinc 3 1, 3, 0), (39, .goto 4, 3, 0), (42, .iload 2, 1, 0), (43, .ireturn, 1, 0)]
/-- SinglesPastModel.nowBy(I)I -/
def tO_269 : List (Nat × av_O) := [(0, .aload 0, 1, 0), (1, .iload 1, 1, 0), (2, .invokevirtual 268, 3, 365), (5, .istore 2, 1, 0), (6, .aload 0, 1, 0), (7, .iload 2, 1, 0), (8, .sipush (-1), 1, 0), (9, .if_icmp .ne 16, 3, 0), (12, .sipush 0, 1, 0), (13, .goto 17, 3, 0), (16, .iload 2, 1, 0), (17, .invokevirtual 265, 3, 351), (20, .ireturn, 1, 0)]
/-- SinglesPastModel.manyAgree()I -/
def tO_270 : List (Nat × av_O) := [(0, .sipush 0, 1, 0), (1, .istore 1, 1, 0), (2, .sipush 0, 1, 0), (3, .istore 2, 1, 0), (4, .iload 2, 1, 0), (5, .aload 0, 1, 0), (6, .invokevirtual 206, 3, 368), (9, .if_icmp .gt 38, 3, 0), (12, .iload 1, 1, 0), (13, .aload 0, 1, 0), (14, .iload 2, 1, 0), (15, .aload 0, 1, 0), (16, .invokevirtual 208, 3, 371), (19, .invokevirtual 267, 3, 357), (22, .ifCond .eq 29, 3, 0), (25, .sipush 1, 1, 0), (26, .goto 30, 3, 0), (29, .sipush 0, 1, 0), (30, .iadd, 1, 0), (31, .istore 1, 1, 0), (32, .iinc 2 1, 3, 0), (35, .goto 4, 3, 0), (38, .iload 1, 1, 0), (39, .ireturn, 1, 0)]
/-- SinglesPastModel.world(I)I -/
def tO_271 : List (Nat × av_O) := [(0, .aload 0, 1, 0), (1, .sipush 0, 1, 0), (2, .putfield 704, 3, 3), (5, .aload 0, 1, 0), (6, .iload 1, 1, 0), (7, .aload 0, 1, 0), (8, .invokevirtual 206, 3, 368), (11, .iand, 1, 0), (12, .invokevirtual 265, 3, 351), (15, .ireturn, 1, 0)]
/-- SinglesPastModel.agrees(I)Z -/
def tO_272 : List (Nat × av_O) := [(0, .aload 0, 1, 0), (1, .sipush 0, 1, 0), (2, .putfield 704, 3, 3), (5, .aload 0, 1, 0), (6, .iload 1, 1, 0), (7, .aload 0, 1, 0), (8, .invokevirtual 206, 3, 368), (11, .iand, 1, 0), (12, .aload 0, 1, 0), (13, .invokevirtual 208, 3, 371), (16, .invokevirtual 267, 3, 357), (19, .ireturn, 1, 0)]
/-- SinglesPastModel.agree()I -/
def tO_273 : List (Nat × av_O) := [(0, .aload 0, 1, 0), (1, .sipush 0, 1, 0), (2, .putfield 704, 3, 3), (5, .aload 0, 1, 0), (6, .invokevirtual 270, 3, 374), (9, .ireturn, 1, 0)]
/-- SinglesPastModel.past()I -/
def tO_274 : List (Nat × av_O) := [(0, .aload 0, 1, 0), (1, .sipush 0, 1, 0), (2, .putfield 704, 3, 3), (5, .aload 0, 1, 0), (6, .aload 0, 1, 0), (7, .invokevirtual 208, 3, 371), (10, .invokevirtual 268, 3, 365), (13, .ireturn, 1, 0)]
/-- SinglesPastModel.now()I -/
def tO_275 : List (Nat × av_O) := [(0, .aload 0, 1, 0), (1, .sipush 0, 1, 0), (2, .putfield 704, 3, 3), (5, .aload 0, 1, 0), (6, .aload 0, 1, 0), (7, .invokevirtual 208, 3, 371), (10, .invokevirtual 269, 3, 377), (13, .ireturn, 1, 0)]
/-- SinglesPastModel.ring()I -/
def tO_276 : List (Nat × av_O) := [(0, .aload 0, 1, 0), (1, .sipush 0, 1, 0), (2, .putfield 704, 3, 3), (5, .aload 0, 1, 0), (6, .invokevirtual 208, 3, 371), (9, .istore 1, 1, 0), (10, .sipush (-1), 1, 0), (11, .istore 2, 1, 0), (12, .sipush 0, 1, 0), (13, .istore 3, 1, 0), (14, .iload 3, 1, 0), (15, .iload 1, 1, 0), (16, .if_icmp .gt 60, 3, 0), (19, .iload 3, 1, 0), (20, .iload 1, 1, 0), (21, .sipush (-1), 1, 0), (22, .ixor, 1, 0), (23, .iand, 1, 0), (24, .ifCond .ne 54, 3, 0), (27, .iload 2, 1, 0), (28, .sipush (-1), 1, 0), (29, .if_icmp .eq 43, 3, 0), (32, .iload 3, 1, 0), (33, .invokestatic 357, 3, 360), (36, .iload 2, 1, 0), (37, .invokestatic 357, 3, 360), (40, .if_icmp .ge 54, 3, 0), (43, .aload 0, 1, 0), (44, .iload 3, 1, 0), (45, .invokevirtual 268, 3, 365), (48, .sipush (-1), 1, 0), (49, .if_icmp .ne 54, 3, 0), (52, .iload 3, 1, 0), (53, .istore 2, 1, 0), (54, .iinc 3 1, 3, 0), (57, .goto 14, 3, 0), (60, .iload 2, 1, 0), (61, .ireturn, 1, 0)]
/-- SinglesPastModel.ifOtherwise(I)I -/
def tO_277 : List (Nat × av_O) := [(0, .aload 0, 1, 0), (1, .aload 0, 1, 0), (2, .invokevirtual 208, 3, 371), (5, .sipush 1, 1, 0), (6, .iload 1, 1, 0), (7, .ishl, 1, 0), (8, .ixor, 1, 0), (9, .invokevirtual 269, 3, 377), (12, .ireturn, 1, 0)]
/-- SinglesPastModel.otherwise(I)I -/
def tO_278 : List (Nat × av_O) := [(0, .aload 0, 1, 0), (1, .sipush 0, 1, 0), (2, .putfield 704, 3, 3), (5, .aload 0, 1, 0), (6, .aload 0, 1, 0), (7, .iload 1, 1, 0), (8, .invokevirtual 211, 3, 380), (11, .sipush 1, 1, 0), (12, .invokevirtual 187, 3, 284), (15, .ifCond .eq 22, 3, 0), (18, .sipush 0, 1, 0), (19, .goto 27, 3, 0), (22, .aload 0, 1, 0), (23, .iload 1, 1, 0), (24, .invokevirtual 277, 3, 383), (27, .ireturn, 1, 0)]
/-- SinglesPastModel.worthOf(I)I -/
def tO_279 : List (Nat × av_O) := [(0, .sipush 0, 1, 0), (1, .istore 2, 1, 0), (2, .sipush 0, 1, 0), (3, .istore 3, 1, 0), (4, .iload 3, 1, 0), (5, .aload 0, 1, 0), (6, .invokevirtual 197, 3, 85), (9, .if_icmp .ge 39, 3, 0), (12, .iload 2, 1, 0), (13, .iload 1, 1, 0), (14, .iload 3, 1, 0), (15, .invokestatic 189, 3, 170), (18, .ifCond .eq 30, 3, 0), (21, .aload 0, 1, 0), (22, .iload 3, 1, 0), (23, .sipush 2, 1, 0), (24, .invokevirtual 201, 3, 150), (27, .goto 31, 3, 0), (30, .sipush 0, 1, 0), (31, .iadd, 1, 0), (32, .istore 2, 1, 0), (33, .iinc 3 1, 3, 0), (36, .goto 4, 3, 0), (39, .iload 2, 1, 0), (40, .ireturn, 1, 0)]
/-- SinglesPastModel.changesOf(I)I -/
def tO_280 : List (Nat × av_O) := [(0, .aload 0, 1, 0), (1, .iload 1, 1, 0), (2, .invokevirtual 277, 3, 383), (5, .aload 0, 1, 0), (6, .aload 0, 1, 0), (7, .invokevirtual 208, 3, 371), (10, .invokevirtual 269, 3, 377), (13, .ixor, 1, 0), (14, .ireturn, 1, 0)]
/-- SinglesPastModel.heavy()I -/
def tO_281 : List (Nat × av_O) := [(0, .aload 0, 1, 0), (1, .sipush 0, 1, 0), (2, .putfield 704, 3, 3), (5, .sipush (-1), 1, 0), (6, .istore 1, 1, 0), (7, .sipush (-1), 1, 0), (8, .istore 2, 1, 0), (9, .sipush 0, 1, 0), (10, .istore 3, 1, 0), (11, .iload 3, 1, 0), (12, .aload 0, 1, 0), (13, .invokevirtual 198, 3, 74), (16, .if_icmp .ge 55, 3, 0), (19, .aload 0, 1, 0), (20, .aload 0, 1, 0), (21, .iload 3, 1, 0), (22, .invokevirtual 280, 3, 386), (25, .invokevirtual 279, 3, 389), (28, .istore 4, 2, 0), (30, .iload 4, 2, 0), (32, .iload 2, 1, 0), (33, .if_icmp .le 40, 3, 0), (36, .iload 3, 1, 0), (37, .goto 41, 3, 0), (40, .iload 1, 1, 0), (41, .istore 1, 1, 0), (42, .iload 2, 1, 0), (43, .iload 4, 2, 0), (45, .invokestatic 358, 3, 165), (48, .istore 2, 1, 0), (49, .iinc 3 1, 3, 0), (52, .goto 11, 3, 0), (55, .iload 1, 1, 0), (56, .ireturn, 1, 0)]
/-- SinglesPastModel.lineOf(I)I -/
def tO_282 : List (Nat × av_O) := [(0, .sipush 0, 1, 0), (1, .istore 2, 1, 0), (2, .iload 2, 1, 0), (3, .sipush 8, 2, 0), (5, .if_icmp .ge 21, 3, 0), (8, .aload 0, 1, 0), (9, .getfield 723, 3, 42), (12, .iload 2, 1, 0), (13, .sipush 1, 1, 0), (14, .iastore, 1, 0), (15, .iinc 2 1, 3, 0), (18, .goto 2, 3, 0), (21, .sipush 0, 1, 0), (22, .istore 2, 1, 0), (23, .iload 2, 1, 0), (24, .sipush 16, 2, 0), (26, .if_icmp .ge 125, 3, 0), (29, .sipush 0, 1, 0), (30, .istore 3, 1, 0), (31, .iload 3, 1, 0), (32, .aload 0, 1, 0), (33, .invokevirtual 197, 3, 85), (36, .if_icmp .ge 119, 3, 0), (39, .sipush 0, 1, 0), (40, .istore 4, 2, 0), (42, .iload 4, 2, 0), (44, .aload 0, 1, 0), (45, .invokevirtual 197, 3, 85), (48, .if_icmp .ge 113, 3, 0), (51, .aload 0, 1, 0), (52, .iload 3, 1, 0), (53, .sipush 0, 1, 0), (54, .invokevirtual 201, 3, 150), (57, .iload 2, 1, 0), (58, .if_icmp .ne 113, 3, 0), (61, .aload 0, 1, 0), (62, .iload 4, 2, 0), (64, .sipush 3, 1, 0), (65, .invokevirtual 201, 3, 150), (68, .aload 0, 1, 0), (69, .iload 4, 2, 0), (71, .sipush 4, 1, 0), (72, .invokevirtual 201, 3, 150), (75, .ior, 1, 0), (76, .iload 3, 1, 0), (77, .invokestatic 189, 3, 170), (80, .ifCond .eq 107, 3, 0), (83, .aload 0, 1, 0), (84, .getfield 723, 3, 42), (87, .iload 3, 1, 0), (88, .aload 0, 1, 0), (89, .getfield 723, 3, 42), (92, .iload 3, 1, 0), (93, .iaload, 1, 0), (94, .aload 0, 1, 0), (95, .getfield 723, 3, 42), (98, .iload 4, 2, 0), (100, .iaload, 1, 0), (101, .sipush 1, 1, 0), (102, .iadd, 1, 0), (103, .invokestatic 358, 3, 165), (106, .iastore, 1, 0), (107, .iinc 4 1, 3, 0), (110, .goto 42, 3, 0), (113, .iinc 3 1, 3, 0), (116, .goto 31, 3, 0), (119, .iinc 2 1, 3, 0), (122, .goto 23, 3, 0), (125, .aload 0, 1, 0), (126, .getfield 723, 3, 42), (129, .iload 1, 1, 0), (130, .iaload, 1, 0), (131, .ireturn, 1, 0)]
/-- SinglesPastModel.allStops()I -/
def tO_283 : List (Nat × av_O) := [(0, .sipush 0, 1, 0), (1, .istore 1, 1, 0), (2, .sipush 0, 1, 0), (3, .istore 2, 1, 0), (4, .iload 2, 1, 0), (5, .aload 0, 1, 0), (6, .invokevirtual 199, 3, 92), (9, .if_icmp .ge 27, 3, 0), (12, .iload 1, 1, 0), (13, .aload 0, 1, 0), (14, .iload 2, 1, 0), (15, .sipush 0, 1, 0), (16, .invokevirtual 205, 3, 291), (19, .ior, 1, 0), (20, .istore 1, 1, 0), (21, .iinc 2 1, 3, 0), (24, .goto 4, 3, 0), (27, .iload 1, 1, 0), (28, .ireturn, 1, 0)]
/-- SinglesPastModel.latestOf(I)I -/
def tO_284 : List (Nat × av_O) := [(0, .sipush (-1), 1, 0), (1, .istore 2, 1, 0), (2, .sipush 0, 1, 0), (3, .istore 3, 1, 0), (4, .iload 3, 1, 0), (5, .aload 0, 1, 0), (6, .iload 1, 1, 0), (7, .sipush 0, 1, 0), (8, .invokevirtual 201, 3, 150), (11, .if_icmp .gt 37, 3, 0), (14, .aload 0, 1, 0), (15, .invokevirtual 283, 3, 392), (18, .iload 3, 1, 0), (19, .invokestatic 189, 3, 170), (22, .ifCond .eq 29, 3, 0), (25, .iload 3, 1, 0), (26, .goto 30, 3, 0), (29, .iload 2, 1, 0), (30, .istore 2, 1, 0), (31, .iinc 3 1, 3, 0), (34, .goto 4, 3, 0), (37, .iload 2, 1, 0), (38, .ireturn, 1, 0)]
/-- SinglesPastModel.thing(II)I -/
def tO_285 : List (Nat × av_O) := [(0, .aload 0, 1, 0), (1, .sipush 0, 1, 0), (2, .putfield 704, 3, 3), (5, .aload 0, 1, 0), (6, .aload 0, 1, 0), (7, .iload 1, 1, 0), (8, .invokevirtual 210, 3, 395), (11, .sipush 1, 1, 0), (12, .invokevirtual 187, 3, 284), (15, .ifCond .ne 41, 3, 0), (18, .aload 0, 1, 0), (19, .iload 2, 1, 0), (20, .sipush 0, 1, 0), (21, .sipush 7, 2, 0), (23, .invokestatic 188, 3, 88), (26, .ifCond .ne 33, 3, 0), (29, .sipush 1, 1, 0), (30, .goto 34, 3, 0), (33, .sipush 0, 1, 0), (34, .sipush 2, 1, 0), (35, .invokevirtual 187, 3, 284), (38, .ifCond .eq 43, 3, 0), (41, .sipush 0, 1, 0), (42, .ireturn, 1, 0), (43, .iload 2, 1, 0), (44, .tableswitch 97 5 7 #[72, 85, 91], 28, 0), (72, .aload 0, 1, 0), (73, .aload 0, 1, 0), (74, .invokevirtual 208, 3, 371), (77, .invokevirtual 269, 3, 377), (80, .iload 1, 1, 0), (81, .ishr, 1, 0), (82, .sipush 1, 1, 0), (83, .iand, 1, 0), (84, .ireturn, 1, 0), (85, .aload 0, 1, 0), (86, .iload 1, 1, 0), (87, .invokevirtual 282, 3, 398), (90, .ireturn, 1, 0), (91, .aload 0, 1, 0), (92, .iload 1, 1, 0), (93, .invokevirtual 284, 3, 401), (96, .ireturn, 1, 0), (97, .aload 0, 1, 0), (98, .iload 1, 1, 0), (99, .iload 2, 1, 0), (100, .invokevirtual 201, 3, 150), (103, .ireturn, 1, 0)]
/-- SinglesPastModel.goer(II)I -/
def tO_286 : List (Nat × av_O) := [(0, .aload 0, 1, 0), (1, .sipush 0, 1, 0), (2, .putfield 704, 3, 3), (5, .aload 0, 1, 0), (6, .aload 0, 1, 0), (7, .iload 1, 1, 0), (8, .invokevirtual 211, 3, 380), (11, .sipush 1, 1, 0), (12, .invokevirtual 187, 3, 284), (15, .ifCond .ne 41, 3, 0), (18, .aload 0, 1, 0), (19, .iload 2, 1, 0), (20, .sipush 0, 1, 0), (21, .sipush 10, 2, 0), (23, .invokestatic 188, 3, 88), (26, .ifCond .ne 33, 3, 0), (29, .sipush 1, 1, 0), (30, .goto 34, 3, 0), (33, .sipush 0, 1, 0), (34, .sipush 2, 1, 0), (35, .invokevirtual 187, 3, 284), (38, .ifCond .eq 43, 3, 0), (41, .sipush 0, 1, 0), (42, .ireturn, 1, 0), (43, .iload 2, 1, 0), (44, .sipush 9, 2, 0), (46, .if_icmp .ne 57, 3, 0), (49, .aload 0, 1, 0), (50, .iload 1, 1, 0), (51, .invokevirtual 258, 3, 327), (54, .goto 77, 3, 0), (57, .iload 2, 1, 0), (58, .sipush 10, 2, 0), (60, .if_icmp .ne 71, 3, 0), (63, .aload 0, 1, 0), (64, .iload 1, 1, 0), (65, .invokevirtual 280, 3, 386), (68, .goto 77, 3, 0), (71, .aload 0, 1, 0), (72, .iload 1, 1, 0), (73, .iload 2, 1, 0), (74, .invokevirtual 203, 3, 78), (77, .ireturn, 1, 0)]
/-- SinglesPastModel.train(II)I -/
def tO_287 : List (Nat × av_O) := [(0, .aload 0, 1, 0), (1, .sipush 0, 1, 0), (2, .putfield 704, 3, 3), (5, .aload 0, 1, 0), (6, .aload 0, 1, 0), (7, .iload 1, 1, 0), (8, .invokevirtual 212, 3, 404), (11, .sipush 1, 1, 0), (12, .invokevirtual 187, 3, 284), (15, .ifCond .ne 40, 3, 0), (18, .aload 0, 1, 0), (19, .iload 2, 1, 0), (20, .sipush 0, 1, 0), (21, .sipush 3, 1, 0), (22, .invokestatic 188, 3, 88), (25, .ifCond .ne 32, 3, 0), (28, .sipush 1, 1, 0), (29, .goto 33, 3, 0), (32, .sipush 0, 1, 0), (33, .sipush 2, 1, 0), (34, .invokevirtual 187, 3, 284), (37, .ifCond .eq 42, 3, 0), (40, .sipush 0, 1, 0), (41, .ireturn, 1, 0), (42, .iload 2, 1, 0), (43, .sipush 2, 1, 0), (44, .if_icmp .ge 54, 3, 0), (47, .aload 0, 1, 0), (48, .iload 1, 1, 0), (49, .iload 2, 1, 0), (50, .invokevirtual 205, 3, 291), (53, .ireturn, 1, 0), (54, .aload 0, 1, 0), (55, .invokevirtual 208, 3, 371), (58, .invokestatic 357, 3, 360), (61, .istore 3, 1, 0), (62, .iload 2, 1, 0), (63, .sipush 2, 1, 0), (64, .if_icmp .ne 75, 3, 0), (67, .aload 0, 1, 0), (68, .iload 1, 1, 0), (69, .invokevirtual 209, 3, 287), (72, .goto 93, 3, 0), (75, .iload 3, 1, 0), (76, .ifCond .ne 83, 3, 0), (79, .sipush 0, 1, 0), (80, .goto 93, 3, 0), (83, .sipush 100, 2, 0), (85, .aload 0, 1, 0), (86, .iload 1, 1, 0), (87, .invokevirtual 209, 3, 287), (90, .imul, 1, 0), (91, .iload 3, 1, 0), (92, .idiv, 1, 0), (93, .ireturn, 1, 0)]
/-- SinglesPastModel.noSuch(II)Z -/
def tO_288 : List (Nat × av_O) := [(0, .aload 0, 1, 0), (1, .sipush 0, 1, 0), (2, .putfield 704, 3, 3), (5, .aload 0, 1, 0), (6, .aload 0, 1, 0), (7, .iload 1, 1, 0), (8, .invokevirtual 211, 3, 380), (11, .ifCond .ne 22, 3, 0), (14, .aload 0, 1, 0), (15, .iload 2, 1, 0), (16, .invokevirtual 212, 3, 404), (19, .ifCond .eq 26, 3, 0), (22, .sipush 1, 1, 0), (23, .goto 27, 3, 0), (26, .sipush 0, 1, 0), (27, .sipush 1, 1, 0), (28, .invokevirtual 187, 3, 284), (31, .ireturn, 1, 0)]
/-- SinglesPastModel.cost(II)I -/
def tO_289 : List (Nat × av_O) := [(0, .aload 0, 1, 0), (1, .iload 1, 1, 0), (2, .iload 2, 1, 0), (3, .invokevirtual 288, 3, 407), (6, .ifCond .eq 13, 3, 0), (9, .sipush 0, 1, 0), (10, .goto 19, 3, 0), (13, .aload 0, 1, 0), (14, .iload 1, 1, 0), (15, .iload 2, 1, 0), (16, .invokevirtual 253, 3, 308), (19, .ireturn, 1, 0)]
/-- SinglesPastModel.fear(II)I -/
def tO_290 : List (Nat × av_O) := [(0, .aload 0, 1, 0), (1, .iload 1, 1, 0), (2, .iload 2, 1, 0), (3, .invokevirtual 288, 3, 407), (6, .ifCond .eq 13, 3, 0), (9, .sipush 0, 1, 0), (10, .goto 19, 3, 0), (13, .aload 0, 1, 0), (14, .iload 1, 1, 0), (15, .iload 2, 1, 0), (16, .invokevirtual 254, 3, 333), (19, .ireturn, 1, 0)]
/-- SinglesPastModel.may(II)Z -/
def tO_291 : List (Nat × av_O) := [(0, .aload 0, 1, 0), (1, .iload 1, 1, 0), (2, .iload 2, 1, 0), (3, .invokevirtual 288, 3, 407), (6, .ifCond .ne 22, 3, 0), (9, .aload 0, 1, 0), (10, .iload 1, 1, 0), (11, .iload 2, 1, 0), (12, .invokevirtual 257, 3, 317), (15, .ifCond .eq 22, 3, 0), (18, .sipush 1, 1, 0), (19, .goto 23, 3, 0), (22, .sipush 0, 1, 0), (23, .ireturn, 1, 0)]
/-- SinglesPastModel.days(I)I -/
def tO_292 : List (Nat × av_O) := [(0, .aload 0, 1, 0), (1, .sipush 0, 1, 0), (2, .putfield 704, 3, 3), (5, .aload 0, 1, 0), (6, .iload 1, 1, 0), (7, .sipush 1, 1, 0), (8, .sipush 60, 2, 0), (10, .invokestatic 188, 3, 88), (13, .ifCond .ne 20, 3, 0), (16, .sipush 1, 1, 0), (17, .goto 21, 3, 0), (20, .sipush 0, 1, 0), (21, .sipush 1, 1, 0), (22, .invokevirtual 187, 3, 284), (25, .ifCond .eq 30, 3, 0), (28, .sipush 0, 1, 0), (29, .ireturn, 1, 0), (30, .aload 0, 1, 0), (31, .invokevirtual 193, 3, 410), (34, .aload 0, 1, 0), (35, .iload 1, 1, 0), (36, .sipush 0, 1, 0), (37, .invokevirtual 263, 3, 413), (40, .ireturn, 1, 0)]
/-- SinglesPastModel.sell(II)I -/
def tO_293 : List (Nat × av_O) := [(0, .aload 0, 1, 0), (1, .iload 1, 1, 0), (2, .iload 2, 1, 0), (3, .invokevirtual 288, 3, 407), (6, .ifCond .ne 31, 3, 0), (9, .aload 0, 1, 0), (10, .aload 0, 1, 0), (11, .iload 1, 1, 0), (12, .iload 2, 1, 0), (13, .invokevirtual 257, 3, 317), (16, .ifCond .ne 23, 3, 0), (19, .sipush 1, 1, 0), (20, .goto 24, 3, 0), (23, .sipush 0, 1, 0), (24, .sipush 2, 1, 0), (25, .invokevirtual 187, 3, 284), (28, .ifCond .eq 33, 3, 0), (31, .sipush 0, 1, 0), (32, .ireturn, 1, 0), (33, .aload 0, 1, 0), (34, .invokevirtual 193, 3, 410), (37, .aload 0, 1, 0), (38, .iload 1, 1, 0), (39, .iload 2, 1, 0), (40, .invokevirtual 260, 3, 336), (43, .ireturn, 1, 0)]
/-- SinglesPastModel.isNow(II)I -/
def tO_294 : List (Nat × av_O) := [(0, .aload 0, 1, 0), (1, .invokevirtual 193, 3, 410), (4, .aload 0, 1, 0), (5, .getfield 705, 3, 13), (8, .iload 1, 1, 0), (9, .iaload, 1, 0), (10, .istore 3, 1, 0), (11, .aload 0, 1, 0), (12, .getfield 705, 3, 13), (15, .iload 1, 1, 0), (16, .iload 2, 1, 0), (17, .iastore, 1, 0), (18, .iload 3, 1, 0), (19, .ireturn, 1, 0)]
/-- SinglesPastModel.pay(II)I -/
def tO_295 : List (Nat × av_O) := [(0, .aload 0, 1, 0), (1, .sipush 0, 1, 0), (2, .putfield 704, 3, 3), (5, .aload 0, 1, 0), (6, .aload 0, 1, 0), (7, .iload 1, 1, 0), (8, .invokevirtual 211, 3, 380), (11, .sipush 1, 1, 0), (12, .invokevirtual 187, 3, 284), (15, .ifCond .ne 42, 3, 0), (18, .aload 0, 1, 0), (19, .iload 2, 1, 0), (20, .sipush 1, 1, 0), (21, .sipush 999, 3, 0), (24, .invokestatic 188, 3, 88), (27, .ifCond .ne 34, 3, 0), (30, .sipush 1, 1, 0), (31, .goto 35, 3, 0), (34, .sipush 0, 1, 0), (35, .sipush 2, 1, 0), (36, .invokevirtual 187, 3, 284), (39, .ifCond .eq 44, 3, 0), (42, .sipush 0, 1, 0), (43, .ireturn, 1, 0), (44, .aload 0, 1, 0), (45, .iload 1, 1, 0), (46, .sipush 4, 1, 0), (47, .invokestatic 202, 3, 68), (50, .sipush 999, 3, 0), (53, .aload 0, 1, 0), (54, .iload 1, 1, 0), (55, .sipush 4, 1, 0), (56, .invokevirtual 203, 3, 78), (59, .iload 2, 1, 0), (60, .iadd, 1, 0), (61, .invokestatic 359, 3, 320), (64, .invokevirtual 294, 3, 417), (67, .pop, 1, 0), (68, .aload 0, 1, 0), (69, .iload 1, 1, 0), (70, .sipush 4, 1, 0), (71, .invokevirtual 203, 3, 78), (74, .ireturn, 1, 0)]
/-- SinglesPastModel.nerve(II)I -/
def tO_296 : List (Nat × av_O) := [(0, .aload 0, 1, 0), (1, .sipush 0, 1, 0), (2, .putfield 704, 3, 3), (5, .aload 0, 1, 0), (6, .aload 0, 1, 0), (7, .iload 1, 1, 0), (8, .invokevirtual 211, 3, 380), (11, .sipush 1, 1, 0), (12, .invokevirtual 187, 3, 284), (15, .ifCond .ne 41, 3, 0), (18, .aload 0, 1, 0), (19, .iload 2, 1, 0), (20, .sipush 0, 1, 0), (21, .sipush 100, 2, 0), (23, .invokestatic 188, 3, 88), (26, .ifCond .ne 33, 3, 0), (29, .sipush 1, 1, 0), (30, .goto 34, 3, 0), (33, .sipush 0, 1, 0), (34, .sipush 2, 1, 0), (35, .invokevirtual 187, 3, 284), (38, .ifCond .eq 45, 3, 0), (41, .sipush 0, 1, 0), (42, .goto 55, 3, 0), (45, .aload 0, 1, 0), (46, .iload 1, 1, 0), (47, .sipush 5, 1, 0), (48, .invokestatic 202, 3, 68), (51, .iload 2, 1, 0), (52, .invokevirtual 294, 3, 417), (55, .ireturn, 1, 0)]
/-- SinglesPastModel.wish(II)I -/
def tO_297 : List (Nat × av_O) := [(0, .aload 0, 1, 0), (1, .sipush 0, 1, 0), (2, .putfield 704, 3, 3), (5, .aload 0, 1, 0), (6, .aload 0, 1, 0), (7, .iload 1, 1, 0), (8, .invokevirtual 211, 3, 380), (11, .ifCond .ne 21, 3, 0), (14, .iload 2, 1, 0), (15, .invokestatic 213, 3, 420), (18, .ifCond .eq 25, 3, 0), (21, .sipush 1, 1, 0), (22, .goto 26, 3, 0), (25, .sipush 0, 1, 0), (26, .sipush 1, 1, 0), (27, .invokevirtual 187, 3, 284), (30, .ifCond .ne 46, 3, 0), (33, .aload 0, 1, 0), (34, .aload 0, 1, 0), (35, .iload 1, 1, 0), (36, .invokevirtual 207, 3, 81), (39, .sipush 2, 1, 0), (40, .invokevirtual 187, 3, 284), (43, .ifCond .eq 50, 3, 0), (46, .sipush 0, 1, 0), (47, .goto 60, 3, 0), (50, .aload 0, 1, 0), (51, .iload 1, 1, 0), (52, .sipush 0, 1, 0), (53, .invokestatic 202, 3, 68), (56, .iload 2, 1, 0), (57, .invokevirtual 294, 3, 417), (60, .ireturn, 1, 0)]
/-- SinglesPastModel.deed(IIZ)I -/
def tO_298 : List (Nat × av_O) := [(0, .aload 0, 1, 0), (1, .sipush 0, 1, 0), (2, .putfield 704, 3, 3), (5, .aload 0, 1, 0), (6, .aload 0, 1, 0), (7, .iload 1, 1, 0), (8, .invokevirtual 211, 3, 380), (11, .ifCond .ne 27, 3, 0), (14, .iload 2, 1, 0), (15, .sipush (-1), 1, 0), (16, .if_icmp .eq 31, 3, 0), (19, .aload 0, 1, 0), (20, .iload 2, 1, 0), (21, .invokevirtual 210, 3, 395), (24, .ifCond .eq 31, 3, 0), (27, .sipush 1, 1, 0), (28, .goto 32, 3, 0), (31, .sipush 0, 1, 0), (32, .sipush 1, 1, 0), (33, .invokevirtual 187, 3, 284), (36, .ifCond .ne 52, 3, 0), (39, .aload 0, 1, 0), (40, .aload 0, 1, 0), (41, .iload 1, 1, 0), (42, .invokevirtual 207, 3, 81), (45, .sipush 2, 1, 0), (46, .invokevirtual 187, 3, 284), (49, .ifCond .eq 54, 3, 0), (52, .sipush 0, 1, 0), (53, .ireturn, 1, 0), (54, .aload 0, 1, 0), (55, .iload 1, 1, 0), (56, .sipush 1, 1, 0), (57, .invokestatic 202, 3, 68), (60, .iload 2, 1, 0), (61, .invokevirtual 294, 3, 417), (64, .istore 4, 2, 0), (66, .aload 0, 1, 0), (67, .getfield 705, 3, 13), (70, .iload 1, 1, 0), (71, .sipush 2, 1, 0), (72, .invokestatic 202, 3, 68), (75, .iload 2, 1, 0), (76, .sipush (-1), 1, 0), (77, .if_icmp .eq 88, 3, 0), (80, .iload 3, 1, 0), (81, .ifCond .eq 88, 3, 0), (84, .sipush 1, 1, 0), (85, .goto 89, 3, 0), (88, .sipush 0, 1, 0), (89, .iastore, 1, 0), (90, .iload 4, 2, 0), (92, .ireturn, 1, 0)]
/-- SinglesPastModel.noTwo(II)Z -/
def tO_299 : List (Nat × av_O) := [(0, .aload 0, 1, 0), (1, .sipush 0, 1, 0), (2, .putfield 704, 3, 3), (5, .aload 0, 1, 0), (6, .aload 0, 1, 0), (7, .iload 1, 1, 0), (8, .invokevirtual 211, 3, 380), (11, .ifCond .ne 22, 3, 0), (14, .aload 0, 1, 0), (15, .iload 2, 1, 0), (16, .invokevirtual 211, 3, 380), (19, .ifCond .eq 26, 3, 0), (22, .sipush 1, 1, 0), (23, .goto 27, 3, 0), (26, .sipush 0, 1, 0), (27, .sipush 1, 1, 0), (28, .invokevirtual 187, 3, 284), (31, .ifCond .ne 52, 3, 0), (34, .aload 0, 1, 0), (35, .iload 1, 1, 0), (36, .iload 2, 1, 0), (37, .if_icmp .ne 44, 3, 0), (40, .sipush 1, 1, 0), (41, .goto 45, 3, 0), (44, .sipush 0, 1, 0), (45, .sipush 2, 1, 0), (46, .invokevirtual 187, 3, 284), (49, .ifCond .eq 56, 3, 0), (52, .sipush 1, 1, 0), (53, .goto 57, 3, 0), (56, .sipush 0, 1, 0), (57, .ireturn, 1, 0)]
/-- SinglesPastModel.quarrel(IIZ)Z -/
def tO_300 : List (Nat × av_O) := [(0, .aload 0, 1, 0), (1, .iload 1, 1, 0), (2, .iload 2, 1, 0), (3, .invokevirtual 299, 3, 423), (6, .ifCond .eq 11, 3, 0), (9, .sipush 0, 1, 0), (10, .ireturn, 1, 0), (11, .aload 0, 1, 0), (12, .iload 1, 1, 0), (13, .sipush 6, 2, 0), (15, .invokevirtual 203, 3, 78), (18, .sipush 1, 1, 0), (19, .iload 2, 1, 0), (20, .ishl, 1, 0), (21, .sipush (-1), 1, 0), (22, .ixor, 1, 0), (23, .iand, 1, 0), (24, .iload 3, 1, 0), (25, .ifCond .eq 34, 3, 0), (28, .sipush 1, 1, 0), (29, .iload 2, 1, 0), (30, .ishl, 1, 0), (31, .goto 35, 3, 0), (34, .sipush 0, 1, 0), (35, .ior, 1, 0), (36, .istore 4, 2, 0), (38, .aload 0, 1, 0), (39, .iload 1, 1, 0), (40, .sipush 6, 2, 0), (42, .invokestatic 202, 3, 68), (45, .iload 4, 2, 0), (47, .invokevirtual 294, 3, 417), (50, .iload 4, 2, 0), (52, .if_icmp .eq 59, 3, 0), (55, .sipush 1, 1, 0), (56, .goto 60, 3, 0), (59, .sipush 0, 1, 0), (60, .istore 5, 2, 0), (62, .aload 0, 1, 0), (63, .getfield 705, 3, 13), (66, .iload 2, 1, 0), (67, .sipush 6, 2, 0), (69, .invokestatic 202, 3, 68), (72, .aload 0, 1, 0), (73, .iload 2, 1, 0), (74, .sipush 6, 2, 0), (76, .invokevirtual 203, 3, 78), (79, .sipush 1, 1, 0), (80, .iload 1, 1, 0), (81, .ishl, 1, 0), (82, .sipush (-1), 1, 0), (83, .ixor, 1, 0), (84, .iand, 1, 0), (85, .iload 3, 1, 0), (86, .ifCond .eq 95, 3, 0), (89, .sipush 1, 1, 0), (90, .iload 1, 1, 0), (91, .ishl, 1, 0), (92, .goto 96, 3, 0), (95, .sipush 0, 1, 0), (96, .ior, 1, 0), (97, .iastore, 1, 0), (98, .iload 5, 2, 0), (100, .ireturn, 1, 0)]
/-- SinglesPastModel.stops(II)I -/
def tO_301 : List (Nat × av_O) := [(0, .aload 0, 1, 0), (1, .sipush 0, 1, 0), (2, .putfield 704, 3, 3), (5, .aload 0, 1, 0), (6, .aload 0, 1, 0), (7, .iload 1, 1, 0), (8, .invokevirtual 212, 3, 404), (11, .sipush 1, 1, 0), (12, .invokevirtual 187, 3, 284), (15, .ifCond .ne 39, 3, 0), (18, .aload 0, 1, 0), (19, .iload 2, 1, 0), (20, .sipush 65535, 3, 426), (23, .iand, 1, 0), (24, .ifCond .ne 31, 3, 0), (27, .sipush 1, 1, 0), (28, .goto 32, 3, 0), (31, .sipush 0, 1, 0), (32, .sipush 2, 1, 0), (33, .invokevirtual 187, 3, 284), (36, .ifCond .eq 43, 3, 0), (39, .sipush 0, 1, 0), (40, .goto 57, 3, 0), (43, .aload 0, 1, 0), (44, .iload 1, 1, 0), (45, .sipush 0, 1, 0), (46, .invokestatic 204, 3, 71), (49, .iload 2, 1, 0), (50, .sipush 65535, 3, 426), (53, .iand, 1, 0), (54, .invokevirtual 294, 3, 417), (57, .ireturn, 1, 0)]
/-- SinglesPastModel.recall(I)I -/
def tO_302 : List (Nat × av_O) := [(0, .aload 0, 1, 0), (1, .sipush 0, 1, 0), (2, .putfield 704, 3, 3), (5, .aload 0, 1, 0), (6, .aload 0, 1, 0), (7, .iload 1, 1, 0), (8, .invokevirtual 211, 3, 380), (11, .sipush 1, 1, 0), (12, .invokevirtual 187, 3, 284), (15, .ifCond .ne 39, 3, 0), (18, .aload 0, 1, 0), (19, .aload 0, 1, 0), (20, .iload 1, 1, 0), (21, .invokevirtual 207, 3, 81), (24, .ifCond .ne 31, 3, 0), (27, .sipush 1, 1, 0), (28, .goto 32, 3, 0), (31, .sipush 0, 1, 0), (32, .sipush 2, 1, 0), (33, .invokevirtual 187, 3, 284), (36, .ifCond .eq 41, 3, 0), (39, .sipush 0, 1, 0), (40, .ireturn, 1, 0), (41, .aload 0, 1, 0), (42, .iload 1, 1, 0), (43, .sipush 8, 2, 0), (45, .invokestatic 202, 3, 68), (48, .sipush (-1), 1, 0), (49, .invokevirtual 294, 3, 417), (52, .istore 2, 1, 0), (53, .aload 0, 1, 0), (54, .getfield 705, 3, 13), (57, .iload 1, 1, 0), (58, .sipush 7, 2, 0), (60, .invokestatic 202, 3, 68), (63, .sipush 0, 1, 0), (64, .iastore, 1, 0), (65, .aload 0, 1, 0), (66, .iload 1, 1, 0), (67, .iload 2, 1, 0), (68, .sipush (-1), 1, 0), (69, .invokevirtual 259, 3, 323), (72, .iload 2, 1, 0), (73, .ireturn, 1, 0)]
/-- SinglesPastModel.isRows()Z -/
def tO_303 : List (Nat × av_O) := [(0, .aload 0, 1, 0), (1, .getfield 715, 3, 102), (4, .sipush 2, 1, 0), (5, .irem, 1, 0), (6, .ifCond .ne 22, 3, 0), (9, .aload 0, 1, 0), (10, .getfield 715, 3, 102), (13, .sipush 40, 2, 0), (15, .if_icmp .gt 22, 3, 0), (18, .sipush 1, 1, 0), (19, .goto 23, 3, 0), (22, .sipush 0, 1, 0), (23, .istore 1, 1, 0), (24, .sipush 0, 1, 0), (25, .istore 2, 1, 0), (26, .iload 2, 1, 0), (27, .aload 0, 1, 0), (28, .getfield 715, 3, 102), (31, .if_icmp .ge 79, 3, 0), (34, .iload 1, 1, 0), (35, .ifCond .eq 79, 3, 0), (38, .aload 0, 1, 0), (39, .aload 0, 1, 0), (40, .getfield 712, 3, 29), (43, .iload 2, 1, 0), (44, .baload, 1, 0), (45, .invokevirtual 210, 3, 395), (48, .ifCond .ne 71, 3, 0), (51, .aload 0, 1, 0), (52, .getfield 712, 3, 29), (55, .iload 2, 1, 0), (56, .sipush 1, 1, 0), (57, .iadd, 1, 0), (58, .baload, 1, 0), (59, .sipush 0, 1, 0), (60, .sipush 1, 1, 0), (61, .invokestatic 188, 3, 88), (64, .ifCond .eq 71, 3, 0), (67, .sipush 1, 1, 0), (68, .goto 72, 3, 0), (71, .sipush 0, 1, 0), (72, .istore 1, 1, 0), (73, .iinc 2 2, 3, 0), (76, .goto 26, 3, 0), (79, .iload 1, 1, 0), (80, .ireturn, 1, 0)]
/-- SinglesPastModel.areSo(I)Z -/
def tO_304 : List (Nat × av_O) := [(0, .sipush 1, 1, 0), (1, .istore 2, 1, 0), (2, .sipush 0, 1, 0), (3, .istore 3, 1, 0), (4, .iload 3, 1, 0), (5, .aload 0, 1, 0), (6, .getfield 715, 3, 102), (9, .if_icmp .ge 49, 3, 0), (12, .iload 2, 1, 0), (13, .ifCond .eq 41, 3, 0), (16, .iload 1, 1, 0), (17, .aload 0, 1, 0), (18, .getfield 712, 3, 29), (21, .iload 3, 1, 0), (22, .baload, 1, 0), (23, .ishr, 1, 0), (24, .sipush 1, 1, 0), (25, .iand, 1, 0), (26, .aload 0, 1, 0), (27, .getfield 712, 3, 29), (30, .iload 3, 1, 0), (31, .sipush 1, 1, 0), (32, .iadd, 1, 0), (33, .baload, 1, 0), (34, .if_icmp .ne 41, 3, 0), (37, .sipush 1, 1, 0), (38, .goto 42, 3, 0), (41, .sipush 0, 1, 0), (42, .istore 2, 1, 0), (43, .iinc 3 2, 3, 0), (46, .goto 4, 3, 0), (49, .iload 2, 1, 0), (50, .ireturn, 1, 0)]
/-- SinglesPastModel.send()I -/
def tO_305 : List (Nat × av_O) := [(0, .aload 0, 1, 0), (1, .invokevirtual 227, 3, 273), (4, .aload 0, 1, 0), (5, .aload 0, 1, 0), (6, .invokevirtual 303, 3, 427), (9, .ifCond .ne 16, 3, 0), (12, .sipush 1, 1, 0), (13, .goto 17, 3, 0), (16, .sipush 0, 1, 0), (17, .sipush 1, 1, 0), (18, .invokevirtual 187, 3, 284), (21, .ifCond .eq 26, 3, 0), (24, .sipush 0, 1, 0), (25, .ireturn, 1, 0), (26, .aload 0, 1, 0), (27, .invokevirtual 208, 3, 371), (30, .istore 1, 1, 0), (31, .sipush (-1), 1, 0), (32, .istore 2, 1, 0), (33, .sipush 0, 1, 0), (34, .istore 3, 1, 0), (35, .iload 3, 1, 0), (36, .aload 0, 1, 0), (37, .invokevirtual 206, 3, 368), (40, .if_icmp .gt 105, 3, 0), (43, .iload 3, 1, 0), (44, .iload 1, 1, 0), (45, .iand, 1, 0), (46, .ifCond .ne 99, 3, 0), (49, .iload 2, 1, 0), (50, .sipush (-1), 1, 0), (51, .if_icmp .eq 68, 3, 0), (54, .iload 3, 1, 0), (55, .invokestatic 357, 3, 360), (58, .iload 2, 1, 0), (59, .invokestatic 357, 3, 360), (62, .if_icmp .lt 68, 3, 0), (65, .goto 99, 3, 0), (68, .aload 0, 1, 0), (69, .iload 1, 1, 0), (70, .iload 3, 1, 0), (71, .ior, 1, 0), (72, .invokevirtual 268, 3, 365), (75, .sipush (-1), 1, 0), (76, .if_icmp .eq 97, 3, 0), (79, .aload 0, 1, 0), (80, .aload 0, 1, 0), (81, .iload 1, 1, 0), (82, .iload 3, 1, 0), (83, .ior, 1, 0), (84, .invokevirtual 269, 3, 377), (87, .invokevirtual 304, 3, 430), (90, .ifCond .eq 97, 3, 0), (93, .iload 3, 1, 0), (94, .goto 98, 3, 0), (97, .iload 2, 1, 0), (98, .istore 2, 1, 0), (99, .iinc 3 1, 3, 0), (102, .goto 35, 3, 0), (105, .iload 2, 1, 0), (106, .ireturn, 1, 0)]
/-- SinglesPastModel.fitsWho(I)Z -/
def tO_306 : List (Nat × av_O) := [(0, .aload 0, 1, 0), (1, .iload 1, 1, 0), (2, .invokevirtual 265, 3, 351), (5, .istore 2, 1, 0), (6, .aload 0, 1, 0), (7, .iload 2, 1, 0), (8, .invokevirtual 304, 3, 430), (11, .ifCond .eq 28, 3, 0), (14, .aload 0, 1, 0), (15, .iload 1, 1, 0), (16, .iload 2, 1, 0), (17, .invokevirtual 266, 3, 354), (20, .iload 1, 1, 0), (21, .if_icmp .ne 28, 3, 0), (24, .sipush 1, 1, 0), (25, .goto 29, 3, 0), (28, .sipush 0, 1, 0), (29, .ireturn, 1, 0)]
/-- SinglesPastModel.who(Z)I -/
def tO_307 : List (Nat × av_O) := [(0, .aload 0, 1, 0), (1, .invokevirtual 227, 3, 273), (4, .aload 0, 1, 0), (5, .aload 0, 1, 0), (6, .invokevirtual 303, 3, 427), (9, .ifCond .ne 16, 3, 0), (12, .sipush 1, 1, 0), (13, .goto 17, 3, 0), (16, .sipush 0, 1, 0), (17, .sipush 1, 1, 0), (18, .invokevirtual 187, 3, 284), (21, .ifCond .eq 26, 3, 0), (24, .sipush 0, 1, 0), (25, .ireturn, 1, 0), (26, .sipush 0, 1, 0), (27, .istore 2, 1, 0), (28, .sipush (-1), 1, 0), (29, .istore 3, 1, 0), (30, .aload 0, 1, 0), (31, .invokevirtual 206, 3, 368), (34, .istore 4, 2, 0), (36, .iload 4, 2, 0), (38, .ifCond .lt 65, 3, 0), (41, .aload 0, 1, 0), (42, .iload 4, 2, 0), (44, .invokevirtual 306, 3, 433), (47, .ifCond .ne 53, 3, 0), (50, .goto 59, 3, 0), (53, .iinc 2 1, 3, 0), (56, .iload 4, 2, 0), (58, .istore 3, 1, 0), (59, .iinc 4 (-1), 3, 0), (62, .goto 36, 3, 0), (65, .iload 1, 1, 0), (66, .ifCond .eq 73, 3, 0), (69, .iload 3, 1, 0), (70, .goto 74, 3, 0), (73, .iload 2, 1, 0), (74, .ireturn, 1, 0)]
/-- SinglesPastModel.look()I -/
def tO_308 : List (Nat × av_O) := [(0, .aload 0, 1, 0), (1, .invokevirtual 227, 3, 273), (4, .aload 0, 1, 0), (5, .aload 0, 1, 0), (6, .invokevirtual 303, 3, 427), (9, .ifCond .ne 16, 3, 0), (12, .sipush 1, 1, 0), (13, .goto 17, 3, 0), (16, .sipush 0, 1, 0), (17, .sipush 1, 1, 0), (18, .invokevirtual 187, 3, 284), (21, .ifCond .eq 26, 3, 0), (24, .sipush 0, 1, 0), (25, .ireturn, 1, 0), (26, .sipush (-1), 1, 0), (27, .istore 1, 1, 0), (28, .sipush 1000000, 2, 137), (30, .istore 2, 1, 0), (31, .sipush 0, 1, 0), (32, .istore 3, 1, 0), (33, .iload 3, 1, 0), (34, .aload 0, 1, 0), (35, .invokevirtual 197, 3, 85), (38, .if_icmp .ge 177, 3, 0), (41, .sipush 0, 1, 0), (42, .istore 4, 2, 0), (44, .sipush 0, 1, 0), (45, .istore 5, 2, 0), (47, .sipush 0, 1, 0), (48, .istore 6, 2, 0), (50, .iload 6, 2, 0), (52, .aload 0, 1, 0), (53, .invokevirtual 206, 3, 368), (56, .if_icmp .gt 129, 3, 0), (59, .aload 0, 1, 0), (60, .iload 6, 2, 0), (62, .invokevirtual 306, 3, 433), (65, .istore 7, 2, 0), (67, .iload 4, 2, 0), (69, .iload 7, 2, 0), (71, .ifCond .eq 91, 3, 0), (74, .aload 0, 1, 0), (75, .iload 6, 2, 0), (77, .invokevirtual 265, 3, 351), (80, .iload 3, 1, 0), (81, .invokestatic 189, 3, 170), (84, .ifCond .eq 91, 3, 0), (87, .sipush 1, 1, 0), (88, .goto 92, 3, 0), (91, .sipush 0, 1, 0), (92, .iadd, 1, 0), (93, .istore 4, 2, 0), (95, .iload 5, 2, 0), (97, .iload 7, 2, 0), (99, .ifCond .eq 119, 3, 0), (102, .aload 0, 1, 0), (103, .iload 6, 2, 0), (105, .invokevirtual 265, 3, 351), (108, .iload 3, 1, 0), (109, .invokestatic 189, 3, 170), (112, .ifCond .ne 119, 3, 0), (115, .sipush 1, 1, 0), (116, .goto 120, 3, 0), (119, .sipush 0, 1, 0), (120, .iadd, 1, 0), (121, .istore 5, 2, 0), (123, .iinc 6 1, 3, 0), (126, .goto 50, 3, 0), (129, .iload 4, 2, 0), (131, .iload 5, 2, 0), (133, .iadd, 1, 0), (134, .sipush 2, 1, 0), (135, .if_icmp .ge 143, 3, 0), (138, .sipush 1000000, 2, 137), (140, .goto 150, 3, 0), (143, .iload 4, 2, 0), (145, .iload 5, 2, 0), (147, .invokestatic 358, 3, 165), (150, .istore 6, 2, 0), (152, .iload 6, 2, 0), (154, .iload 2, 1, 0), (155, .if_icmp .ge 162, 3, 0), (158, .iload 3, 1, 0), (159, .goto 163, 3, 0), (162, .iload 1, 1, 0), (163, .istore 1, 1, 0), (164, .iload 2, 1, 0), (165, .iload 6, 2, 0), (167, .invokestatic 359, 3, 320), (170, .istore 2, 1, 0), (171, .iinc 3 1, 3, 0), (174, .goto 33, 3, 0), (177, .iload 1, 1, 0), (178, .ireturn, 1, 0)]
/-- SinglesPastModel.hangsOn(I)I -/
def tO_309 : List (Nat × av_O) := [(0, .aload 0, 1, 0), (1, .aload 0, 1, 0), (2, .invokevirtual 208, 3, 371), (5, .invokevirtual 269, 3, 377), (8, .istore 2, 1, 0), (9, .aload 0, 1, 0), (10, .getfield 705, 3, 13), (13, .iload 1, 1, 0), (14, .sipush 1, 1, 0), (15, .invokestatic 200, 3, 64), (18, .dup2, 1, 0), (19, .iaload, 1, 0), (20, .sipush 1, 1, 0), (21, .ixor, 1, 0), (22, .iastore, 1, 0), (23, .aload 0, 1, 0), (24, .aload 0, 1, 0), (25, .invokevirtual 208, 3, 371), (28, .invokevirtual 269, 3, 377), (31, .istore 3, 1, 0), (32, .aload 0, 1, 0), (33, .getfield 705, 3, 13), (36, .iload 1, 1, 0), (37, .sipush 1, 1, 0), (38, .invokestatic 200, 3, 64), (41, .dup2, 1, 0), (42, .iaload, 1, 0), (43, .sipush 1, 1, 0), (44, .ixor, 1, 0), (45, .iastore, 1, 0), (46, .iload 2, 1, 0), (47, .iload 3, 1, 0), (48, .ixor, 1, 0), (49, .ireturn, 1, 0)]
/-- SinglesPastModel.hangs(I)I -/
def tO_310 : List (Nat × av_O) := [(0, .aload 0, 1, 0), (1, .sipush 0, 1, 0), (2, .putfield 704, 3, 3), (5, .aload 0, 1, 0), (6, .aload 0, 1, 0), (7, .iload 1, 1, 0), (8, .invokevirtual 210, 3, 395), (11, .sipush 1, 1, 0), (12, .invokevirtual 187, 3, 284), (15, .ifCond .eq 22, 3, 0), (18, .sipush 0, 1, 0), (19, .goto 27, 3, 0), (22, .aload 0, 1, 0), (23, .iload 1, 1, 0), (24, .invokevirtual 309, 3, 436), (27, .ireturn, 1, 0)]
/-- SinglesPastModel.key()I -/
def tO_311 : List (Nat × av_O) := [(0, .aload 0, 1, 0), (1, .sipush 0, 1, 0), (2, .putfield 704, 3, 3), (5, .sipush (-1), 1, 0), (6, .istore 1, 1, 0), (7, .sipush (-1), 1, 0), (8, .istore 2, 1, 0), (9, .sipush 0, 1, 0), (10, .istore 3, 1, 0), (11, .iload 3, 1, 0), (12, .aload 0, 1, 0), (13, .invokevirtual 197, 3, 85), (16, .if_icmp .ge 54, 3, 0), (19, .aload 0, 1, 0), (20, .iload 3, 1, 0), (21, .invokevirtual 309, 3, 436), (24, .invokestatic 357, 3, 360), (27, .istore 4, 2, 0), (29, .iload 4, 2, 0), (31, .iload 2, 1, 0), (32, .if_icmp .le 39, 3, 0), (35, .iload 3, 1, 0), (36, .goto 40, 3, 0), (39, .iload 1, 1, 0), (40, .istore 1, 1, 0), (41, .iload 2, 1, 0), (42, .iload 4, 2, 0), (44, .invokestatic 358, 3, 165), (47, .istore 2, 1, 0), (48, .iinc 3 1, 3, 0), (51, .goto 11, 3, 0), (54, .iload 1, 1, 0), (55, .ireturn, 1, 0)]
/-- SinglesPastModel.loose()I -/
def tO_312 : List (Nat × av_O) := [(0, .aload 0, 1, 0), (1, .sipush 0, 1, 0), (2, .putfield 704, 3, 3), (5, .sipush 1, 1, 0), (6, .aload 0, 1, 0), (7, .invokevirtual 197, 3, 85), (10, .ishl, 1, 0), (11, .sipush 1, 1, 0), (12, .isub, 1, 0), (13, .istore 1, 1, 0), (14, .sipush 0, 1, 0), (15, .istore 2, 1, 0), (16, .iload 2, 1, 0), (17, .aload 0, 1, 0), (18, .invokevirtual 197, 3, 85), (21, .if_icmp .ge 64, 3, 0), (24, .aload 0, 1, 0), (25, .iload 2, 1, 0), (26, .sipush 3, 1, 0), (27, .invokevirtual 201, 3, 150), (30, .aload 0, 1, 0), (31, .iload 2, 1, 0), (32, .sipush 4, 1, 0), (33, .invokevirtual 201, 3, 150), (36, .ior, 1, 0), (37, .istore 3, 1, 0), (38, .iload 1, 1, 0), (39, .iload 3, 1, 0), (40, .sipush (-1), 1, 0), (41, .ixor, 1, 0), (42, .iload 3, 1, 0), (43, .ifCond .ne 50, 3, 0), (46, .sipush 0, 1, 0), (47, .goto 53, 3, 0), (50, .sipush 1, 1, 0), (51, .iload 2, 1, 0), (52, .ishl, 1, 0), (53, .sipush (-1), 1, 0), (54, .ixor, 1, 0), (55, .iand, 1, 0), (56, .iand, 1, 0), (57, .istore 1, 1, 0), (58, .iinc 2 1, 3, 0), (61, .goto 16, 3, 0), (64, .iload 1, 1, 0), (65, .ireturn, 1, 0)]
/-- SinglesPastModel.kills(II)Z -/
def tO_313 : List (Nat × av_O) := [(0, .aload 0, 1, 0), (1, .iload 1, 1, 0), (2, .iload 2, 1, 0), (3, .invokevirtual 299, 3, 423), (6, .ifCond .ne 42, 3, 0), (9, .aload 0, 1, 0), (10, .iload 2, 1, 0), (11, .sipush 3, 1, 0), (12, .invokevirtual 203, 3, 78), (15, .sipush (-1), 1, 0), (16, .if_icmp .eq 42, 3, 0), (19, .aload 0, 1, 0), (20, .sipush 1, 1, 0), (21, .iload 1, 1, 0), (22, .ishl, 1, 0), (23, .invokevirtual 265, 3, 351), (26, .aload 0, 1, 0), (27, .iload 2, 1, 0), (28, .sipush 3, 1, 0), (29, .invokevirtual 203, 3, 78), (32, .invokestatic 189, 3, 170), (35, .ifCond .ne 42, 3, 0), (38, .sipush 1, 1, 0), (39, .goto 43, 3, 0), (42, .sipush 0, 1, 0), (43, .ireturn, 1, 0)]
/-- SinglesPastModel.mayGo(II)Z -/
def tO_314 : List (Nat × av_O) := [(0, .sipush 0, 1, 0), (1, .istore 3, 1, 0), (2, .sipush 0, 1, 0), (3, .istore 4, 2, 0), (5, .sipush 0, 1, 0), (6, .istore 5, 2, 0), (8, .iload 5, 2, 0), (10, .iload 1, 1, 0), (11, .if_icmp .ge 77, 3, 0), (14, .iload 3, 1, 0), (15, .aload 0, 1, 0), (16, .getfield 724, 3, 45), (19, .iload 5, 2, 0), (21, .iaload, 1, 0), (22, .iload 2, 1, 0), (23, .if_icmp .ne 30, 3, 0), (26, .sipush 1, 1, 0), (27, .goto 31, 3, 0), (30, .sipush 0, 1, 0), (31, .iadd, 1, 0), (32, .istore 3, 1, 0), (33, .iload 4, 2, 0), (35, .ifCond .ne 64, 3, 0), (38, .aload 0, 1, 0), (39, .getfield 724, 3, 45), (42, .iload 5, 2, 0), (44, .iaload, 1, 0), (45, .iload 2, 1, 0), (46, .if_icmp .ne 68, 3, 0), (49, .aload 0, 1, 0), (50, .iload 1, 1, 0), (51, .sipush 6, 2, 0), (53, .invokevirtual 203, 3, 78), (56, .iload 5, 2, 0), (58, .invokestatic 189, 3, 170), (61, .ifCond .eq 68, 3, 0), (64, .sipush 1, 1, 0), (65, .goto 69, 3, 0), (68, .sipush 0, 1, 0), (69, .istore 4, 2, 0), (71, .iinc 5 1, 3, 0), (74, .goto 8, 3, 0), (77, .aload 0, 1, 0), (78, .iload 1, 1, 0), (79, .iload 2, 1, 0), (80, .invokevirtual 255, 3, 305), (83, .ifCond .eq 105, 3, 0), (86, .iload 3, 1, 0), (87, .aload 0, 1, 0), (88, .iload 2, 1, 0), (89, .sipush 1, 1, 0), (90, .invokevirtual 205, 3, 291), (93, .if_icmp .ge 105, 3, 0), (96, .iload 4, 2, 0), (98, .ifCond .ne 105, 3, 0), (101, .sipush 1, 1, 0), (102, .goto 106, 3, 0), (105, .sipush 0, 1, 0), (106, .ireturn, 1, 0)]
/-- SinglesPastModel.laysWay(II)I -/
def tO_315 : List (Nat × av_O) := [(0, .iload 1, 1, 0), (1, .istore 3, 1, 0), (2, .aload 0, 1, 0), (3, .invokevirtual 198, 3, 74), (6, .sipush 1, 1, 0), (7, .isub, 1, 0), (8, .istore 4, 2, 0), (10, .iload 4, 2, 0), (12, .ifCond .lt 45, 3, 0), (15, .aload 0, 1, 0), (16, .getfield 724, 3, 45), (19, .iload 4, 2, 0), (21, .iload 3, 1, 0), (22, .aload 0, 1, 0), (23, .invokevirtual 199, 3, 92), (26, .sipush 1, 1, 0), (27, .iadd, 1, 0), (28, .irem, 1, 0), (29, .iastore, 1, 0), (30, .iload 3, 1, 0), (31, .aload 0, 1, 0), (32, .invokevirtual 199, 3, 92), (35, .sipush 1, 1, 0), (36, .iadd, 1, 0), (37, .idiv, 1, 0), (38, .istore 3, 1, 0), (39, .iinc 4 (-1), 3, 0), (42, .goto 10, 3, 0), (45, .sipush 0, 1, 0), (46, .istore 4, 2, 0), (48, .sipush 0, 1, 0), (49, .istore 5, 2, 0), (51, .iload 5, 2, 0), (53, .aload 0, 1, 0), (54, .invokevirtual 198, 3, 74), (57, .if_icmp .ge 132, 3, 0), (60, .iload 4, 2, 0), (62, .sipush (-1), 1, 0), (63, .if_icmp .eq 132, 3, 0), (66, .aload 0, 1, 0), (67, .getfield 724, 3, 45), (70, .iload 5, 2, 0), (72, .iaload, 1, 0), (73, .aload 0, 1, 0), (74, .invokevirtual 199, 3, 92), (77, .if_icmp .ne 91, 3, 0), (80, .aload 0, 1, 0), (81, .getfield 724, 3, 45), (84, .iload 5, 2, 0), (86, .sipush (-1), 1, 0), (87, .iastore, 1, 0), (88, .goto 126, 3, 0), (91, .iload 2, 1, 0), (92, .iload 5, 2, 0), (94, .invokestatic 189, 3, 170), (97, .ifCond .eq 123, 3, 0), (100, .aload 0, 1, 0), (101, .iload 5, 2, 0), (103, .aload 0, 1, 0), (104, .getfield 724, 3, 45), (107, .iload 5, 2, 0), (109, .iaload, 1, 0), (110, .invokevirtual 314, 3, 439), (113, .ifCond .eq 123, 3, 0), (116, .iload 4, 2, 0), (118, .sipush 1, 1, 0), (119, .iadd, 1, 0), (120, .goto 124, 3, 0), (123, .sipush (-1), 1, 0), (124, .istore 4, 2, 0), (126, .iinc 5 1, 3, 0), (129, .goto 51, 3, 0), (132, .iload 4, 2, 0), (134, .ireturn, 1, 0)]
/-- SinglesPastModel.mostOf(I)I -/
def tO_316 : List (Nat × av_O) := [(0, .sipush 1, 1, 0), (1, .istore 2, 1, 0), (2, .sipush 0, 1, 0), (3, .istore 3, 1, 0), (4, .iload 3, 1, 0), (5, .aload 0, 1, 0), (6, .invokevirtual 198, 3, 74), (9, .if_icmp .ge 27, 3, 0), (12, .iload 2, 1, 0), (13, .aload 0, 1, 0), (14, .invokevirtual 199, 3, 92), (17, .sipush 1, 1, 0), (18, .iadd, 1, 0), (19, .imul, 1, 0), (20, .istore 2, 1, 0), (21, .iinc 3 1, 3, 0), (24, .goto 4, 3, 0), (27, .sipush (-1), 1, 0), (28, .istore 3, 1, 0), (29, .sipush 0, 1, 0), (30, .istore 4, 2, 0), (32, .iload 4, 2, 0), (34, .iload 2, 1, 0), (35, .if_icmp .ge 97, 3, 0), (38, .aload 0, 1, 0), (39, .iload 4, 2, 0), (41, .iload 1, 1, 0), (42, .invokevirtual 315, 3, 442), (45, .istore 5, 2, 0), (47, .iload 5, 2, 0), (49, .iload 3, 1, 0), (50, .if_icmp .gt 56, 3, 0), (53, .goto 91, 3, 0), (56, .iload 5, 2, 0), (58, .istore 3, 1, 0), (59, .sipush 0, 1, 0), (60, .istore 6, 2, 0), (62, .iload 6, 2, 0), (64, .aload 0, 1, 0), (65, .invokevirtual 198, 3, 74), (68, .if_icmp .ge 91, 3, 0), (71, .aload 0, 1, 0), (72, .getfield 725, 3, 48), (75, .iload 6, 2, 0), (77, .aload 0, 1, 0), (78, .getfield 724, 3, 45), (81, .iload 6, 2, 0), (83, .iaload, 1, 0), (84, .iastore, 1, 0), (85, .iinc 6 1, 3, 0), (88, .goto 62, 3, 0), (91, .iinc 4 1, 3, 0), (94, .goto 32, 3, 0), (97, .iload 3, 1, 0), (98, .ireturn, 1, 0)]
/-- SinglesPastModel.colours(I)I -/
def tO_317 : List (Nat × av_O) := [(0, .aload 0, 1, 0), (1, .sipush 0, 1, 0), (2, .putfield 704, 3, 3), (5, .aload 0, 1, 0), (6, .iload 1, 1, 0), (7, .sipush (-1), 1, 0), (8, .if_icmp .eq 23, 3, 0), (11, .aload 0, 1, 0), (12, .iload 1, 1, 0), (13, .invokevirtual 211, 3, 380), (16, .ifCond .eq 23, 3, 0), (19, .sipush 1, 1, 0), (20, .goto 24, 3, 0), (23, .sipush 0, 1, 0), (24, .sipush 1, 1, 0), (25, .invokevirtual 187, 3, 284), (28, .ifCond .eq 33, 3, 0), (31, .sipush 0, 1, 0), (32, .ireturn, 1, 0), (33, .aload 0, 1, 0), (34, .aload 0, 1, 0), (35, .invokevirtual 206, 3, 368), (38, .aload 0, 1, 0), (39, .invokevirtual 208, 3, 371), (42, .sipush (-1), 1, 0), (43, .ixor, 1, 0), (44, .iand, 1, 0), (45, .invokevirtual 316, 3, 445), (48, .istore 2, 1, 0), (49, .iload 1, 1, 0), (50, .sipush (-1), 1, 0), (51, .if_icmp .ne 58, 3, 0), (54, .iload 2, 1, 0), (55, .goto 64, 3, 0), (58, .aload 0, 1, 0), (59, .getfield 725, 3, 48), (62, .iload 1, 1, 0), (63, .iaload, 1, 0), (64, .ireturn, 1, 0)]
/-- SinglesPastModel.laysMembers(I)I -/
def tO_318 : List (Nat × av_O) := [(0, .sipush 0, 1, 0), (1, .istore 2, 1, 0), (2, .sipush 0, 1, 0), (3, .istore 3, 1, 0), (4, .iload 3, 1, 0), (5, .aload 0, 1, 0), (6, .invokevirtual 198, 3, 74), (9, .if_icmp .ge 46, 3, 0), (12, .aload 0, 1, 0), (13, .getfield 724, 3, 45), (16, .iload 3, 1, 0), (17, .sipush (-1), 1, 0), (18, .iastore, 1, 0), (19, .iload 1, 1, 0), (20, .iload 3, 1, 0), (21, .invokestatic 189, 3, 170), (24, .ifCond .ne 30, 3, 0), (27, .goto 40, 3, 0), (30, .aload 0, 1, 0), (31, .getfield 726, 3, 51), (34, .iload 2, 1, 0), (35, .iload 3, 1, 0), (36, .iastore, 1, 0), (37, .iinc 2 1, 3, 0), (40, .iinc 3 1, 3, 0), (43, .goto 4, 3, 0), (46, .iload 2, 1, 0), (47, .ireturn, 1, 0)]
/-- SinglesPastModel.canAll(I)Z -/
def tO_319 : List (Nat × av_O) := [(0, .aload 0, 1, 0), (1, .iload 1, 1, 0), (2, .invokevirtual 318, 3, 448), (5, .istore 2, 1, 0), (6, .sipush 0, 1, 0), (7, .istore 3, 1, 0), (8, .iload 3, 1, 0), (9, .ifCond .lt 104, 3, 0), (12, .iload 3, 1, 0), (13, .iload 2, 1, 0), (14, .if_icmp .ge 104, 3, 0), (17, .aload 0, 1, 0), (18, .getfield 726, 3, 51), (21, .iload 3, 1, 0), (22, .iaload, 1, 0), (23, .istore 4, 2, 0), (25, .aload 0, 1, 0), (26, .getfield 724, 3, 45), (29, .iload 4, 2, 0), (31, .iaload, 1, 0), (32, .sipush 1, 1, 0), (33, .iadd, 1, 0), (34, .istore 5, 2, 0), (36, .iload 5, 2, 0), (38, .aload 0, 1, 0), (39, .invokevirtual 199, 3, 92), (42, .if_icmp .ge 62, 3, 0), (45, .aload 0, 1, 0), (46, .iload 4, 2, 0), (48, .iload 5, 2, 0), (50, .invokevirtual 314, 3, 439), (53, .ifCond .ne 62, 3, 0), (56, .iinc 5 1, 3, 0), (59, .goto 36, 3, 0), (62, .aload 0, 1, 0), (63, .getfield 724, 3, 45), (66, .iload 4, 2, 0), (68, .iload 5, 2, 0), (70, .aload 0, 1, 0), (71, .invokevirtual 199, 3, 92), (74, .if_icmp .ge 82, 3, 0), (77, .iload 5, 2, 0), (79, .goto 83, 3, 0), (82, .sipush (-1), 1, 0), (83, .iastore, 1, 0), (84, .iload 3, 1, 0), (85, .iload 5, 2, 0), (87, .aload 0, 1, 0), (88, .invokevirtual 199, 3, 92), (91, .if_icmp .ge 98, 3, 0), (94, .sipush 1, 1, 0), (95, .goto 99, 3, 0), (98, .sipush (-1), 1, 0), (99, .iadd, 1, 0), (100, .istore 3, 1, 0), (101, .goto 8, 3, 0), (104, .iload 3, 1, 0), (105, .iload 2, 1, 0), (106, .if_icmp .ne 113, 3, 0), (109, .sipush 1, 1, 0), (110, .goto 114, 3, 0), (113, .sipush 0, 1, 0), (114, .ireturn, 1, 0)]
/-- SinglesPastModel.clash()I -/
def tO_320 : List (Nat × av_O) := [(0, .aload 0, 1, 0), (1, .sipush 0, 1, 0), (2, .putfield 704, 3, 3), (5, .aload 0, 1, 0), (6, .invokevirtual 206, 3, 368), (9, .aload 0, 1, 0), (10, .invokevirtual 208, 3, 371), (13, .sipush (-1), 1, 0), (14, .ixor, 1, 0), (15, .iand, 1, 0), (16, .istore 1, 1, 0), (17, .sipush (-1), 1, 0), (18, .istore 2, 1, 0), (19, .sipush 0, 1, 0), (20, .istore 3, 1, 0), (21, .iload 3, 1, 0), (22, .iload 1, 1, 0), (23, .if_icmp .gt 66, 3, 0), (26, .iload 3, 1, 0), (27, .iload 1, 1, 0), (28, .sipush (-1), 1, 0), (29, .ixor, 1, 0), (30, .iand, 1, 0), (31, .ifCond .ne 60, 3, 0), (34, .iload 2, 1, 0), (35, .sipush (-1), 1, 0), (36, .if_icmp .eq 50, 3, 0), (39, .iload 3, 1, 0), (40, .invokestatic 357, 3, 360), (43, .iload 2, 1, 0), (44, .invokestatic 357, 3, 360), (47, .if_icmp .ge 60, 3, 0), (50, .aload 0, 1, 0), (51, .iload 3, 1, 0), (52, .invokevirtual 319, 3, 451), (55, .ifCond .ne 60, 3, 0), (58, .iload 3, 1, 0), (59, .istore 2, 1, 0), (60, .iinc 3 1, 3, 0), (63, .goto 21, 3, 0), (66, .iload 2, 1, 0), (67, .ireturn, 1, 0)]
/-- SinglesPastModel.payersOf(II)I -/
def tO_321 : List (Nat × av_O) := [(0, .sipush 0, 1, 0), (1, .istore 3, 1, 0), (2, .sipush 0, 1, 0), (3, .istore 4, 2, 0), (5, .iload 4, 2, 0), (7, .aload 0, 1, 0), (8, .invokevirtual 198, 3, 74), (11, .if_icmp .ge 59, 3, 0), (14, .iload 3, 1, 0), (15, .aload 0, 1, 0), (16, .iload 4, 2, 0), (18, .invokevirtual 207, 3, 81), (21, .ifCond .ne 50, 3, 0), (24, .aload 0, 1, 0), (25, .iload 4, 2, 0), (27, .sipush 0, 1, 0), (28, .invokevirtual 203, 3, 78), (31, .iload 1, 1, 0), (32, .if_icmp .ne 50, 3, 0), (35, .aload 0, 1, 0), (36, .iload 4, 2, 0), (38, .sipush 4, 1, 0), (39, .invokevirtual 203, 3, 78), (42, .iload 2, 1, 0), (43, .if_icmp .lt 50, 3, 0), (46, .sipush 1, 1, 0), (47, .goto 51, 3, 0), (50, .sipush 0, 1, 0), (51, .iadd, 1, 0), (52, .istore 3, 1, 0), (53, .iinc 4 1, 3, 0), (56, .goto 5, 3, 0), (59, .iload 3, 1, 0), (60, .ireturn, 1, 0)]
/-- SinglesPastModel.priceOf(I)I -/
def tO_322 : List (Nat × av_O) := [(0, .sipush 0, 1, 0), (1, .istore 2, 1, 0), (2, .sipush 1, 1, 0), (3, .istore 3, 1, 0), (4, .iload 3, 1, 0), (5, .sipush 999, 3, 0), (8, .if_icmp .gt 42, 3, 0), (11, .iload 3, 1, 0), (12, .aload 0, 1, 0), (13, .iload 1, 1, 0), (14, .iload 3, 1, 0), (15, .invokevirtual 321, 3, 454), (18, .imul, 1, 0), (19, .iload 2, 1, 0), (20, .aload 0, 1, 0), (21, .iload 1, 1, 0), (22, .iload 2, 1, 0), (23, .invokevirtual 321, 3, 454), (26, .imul, 1, 0), (27, .if_icmp .le 34, 3, 0), (30, .iload 3, 1, 0), (31, .goto 35, 3, 0), (34, .iload 2, 1, 0), (35, .istore 2, 1, 0), (36, .iinc 3 1, 3, 0), (39, .goto 4, 3, 0), (42, .iload 2, 1, 0), (43, .ireturn, 1, 0)]
/-- SinglesPastModel.earnsOf(I)I -/
def tO_323 : List (Nat × av_O) := [(0, .aload 0, 1, 0), (1, .iload 1, 1, 0), (2, .invokevirtual 322, 3, 457), (5, .istore 2, 1, 0), (6, .iload 2, 1, 0), (7, .aload 0, 1, 0), (8, .iload 1, 1, 0), (9, .iload 2, 1, 0), (10, .invokevirtual 321, 3, 454), (13, .imul, 1, 0), (14, .ireturn, 1, 0)]
/-- SinglesPastModel.price(IZ)I -/
def tO_324 : List (Nat × av_O) := [(0, .aload 0, 1, 0), (1, .sipush 0, 1, 0), (2, .putfield 704, 3, 3), (5, .aload 0, 1, 0), (6, .iload 1, 1, 0), (7, .invokestatic 213, 3, 420), (10, .sipush 1, 1, 0), (11, .invokevirtual 187, 3, 284), (14, .ifCond .eq 21, 3, 0), (17, .sipush 0, 1, 0), (18, .goto 38, 3, 0), (21, .iload 2, 1, 0), (22, .ifCond .eq 33, 3, 0), (25, .aload 0, 1, 0), (26, .iload 1, 1, 0), (27, .invokevirtual 323, 3, 460), (30, .goto 38, 3, 0), (33, .aload 0, 1, 0), (34, .iload 1, 1, 0), (35, .invokevirtual 322, 3, 457), (38, .ireturn, 1, 0)]
/-- SinglesPastModel.dearest()I -/
def tO_325 : List (Nat × av_O) := [(0, .aload 0, 1, 0), (1, .sipush 0, 1, 0), (2, .putfield 704, 3, 3), (5, .sipush 0, 1, 0), (6, .istore 1, 1, 0), (7, .sipush 1, 1, 0), (8, .istore 2, 1, 0), (9, .iload 2, 1, 0), (10, .sipush 16, 2, 0), (12, .if_icmp .ge 40, 3, 0), (15, .aload 0, 1, 0), (16, .iload 2, 1, 0), (17, .invokevirtual 323, 3, 460), (20, .aload 0, 1, 0), (21, .iload 1, 1, 0), (22, .invokevirtual 323, 3, 460), (25, .if_icmp .le 32, 3, 0), (28, .iload 2, 1, 0), (29, .goto 33, 3, 0), (32, .iload 1, 1, 0), (33, .istore 1, 1, 0), (34, .iinc 2 1, 3, 0), (37, .goto 9, 3, 0), (40, .iload 1, 1, 0), (41, .ireturn, 1, 0)]
/-- SinglesPastModel.crowd(I)I -/
def tO_326 : List (Nat × av_O) := [(0, .aload 0, 1, 0), (1, .sipush 0, 1, 0), (2, .putfield 704, 3, 3), (5, .aload 0, 1, 0), (6, .iload 1, 1, 0), (7, .invokestatic 213, 3, 420), (10, .sipush 1, 1, 0), (11, .invokevirtual 187, 3, 284), (14, .ifCond .eq 19, 3, 0), (17, .sipush 0, 1, 0), (18, .ireturn, 1, 0), (19, .sipush 0, 1, 0), (20, .istore 2, 1, 0), (21, .sipush 0, 1, 0), (22, .istore 3, 1, 0), (23, .iload 3, 1, 0), (24, .aload 0, 1, 0), (25, .invokevirtual 198, 3, 74), (28, .if_icmp .ge 57, 3, 0), (31, .iload 2, 1, 0), (32, .aload 0, 1, 0), (33, .iload 3, 1, 0), (34, .sipush 0, 1, 0), (35, .invokevirtual 203, 3, 78), (38, .iload 1, 1, 0), (39, .if_icmp .ne 48, 3, 0), (42, .sipush 1, 1, 0), (43, .iload 3, 1, 0), (44, .ishl, 1, 0), (45, .goto 49, 3, 0), (48, .sipush 0, 1, 0), (49, .ior, 1, 0), (50, .istore 2, 1, 0), (51, .iinc 3 1, 3, 0), (54, .goto 23, 3, 0), (57, .iload 2, 1, 0), (58, .ireturn, 1, 0)]
/-- SinglesPastModel.asksFor(I)I -/
def tO_327 : List (Nat × av_O) := [(0, .sipush 0, 1, 0), (1, .istore 1, 1, 0), (2, .sipush 1, 1, 0), (3, .iload 1, 1, 0), (4, .ishl, 1, 0), (5, .iload 0, 1, 0), (6, .if_icmp .ge 15, 3, 0), (9, .iinc 1 1, 3, 0), (12, .goto 2, 3, 0), (15, .iload 1, 1, 0), (16, .ireturn, 1, 0)]
/-- SinglesPastModel.asks(IZ)I -/
def tO_328 : List (Nat × av_O) := [(0, .aload 0, 1, 0), (1, .sipush 0, 1, 0), (2, .putfield 704, 3, 3), (5, .iload 1, 1, 0), (6, .sipush 65535, 3, 426), (9, .iand, 1, 0), (10, .istore 3, 1, 0), (11, .iload 3, 1, 0), (12, .invokestatic 357, 3, 360), (15, .invokestatic 327, 3, 463), (18, .istore 4, 2, 0), (20, .iload 2, 1, 0), (21, .ifCond .ne 27, 3, 0), (24, .iload 4, 2, 0), (26, .ireturn, 1, 0), (27, .sipush (-1), 1, 0), (28, .istore 5, 2, 0), (30, .sipush 14, 2, 0), (32, .istore 6, 2, 0), (34, .iload 6, 2, 0), (36, .ifCond .lt 99, 3, 0), (39, .iload 4, 2, 0), (41, .ifCond .le 99, 3, 0), (44, .iload 3, 1, 0), (45, .sipush 2, 1, 0), (46, .iload 6, 2, 0), (48, .ishl, 1, 0), (49, .sipush 1, 1, 0), (50, .isub, 1, 0), (51, .iand, 1, 0), (52, .invokestatic 357, 3, 360), (55, .istore 7, 2, 0), (57, .iload 3, 1, 0), (58, .invokestatic 357, 3, 360), (61, .iload 7, 2, 0), (63, .isub, 1, 0), (64, .istore 8, 2, 0), (66, .iload 7, 2, 0), (68, .invokestatic 327, 3, 463), (71, .iload 8, 2, 0), (73, .invokestatic 327, 3, 463), (76, .invokestatic 358, 3, 165), (79, .iload 4, 2, 0), (81, .if_icmp .ge 89, 3, 0), (84, .iload 6, 2, 0), (86, .goto 91, 3, 0), (89, .iload 5, 2, 0), (91, .istore 5, 2, 0), (93, .iinc 6 (-1), 3, 0), (96, .goto 34, 3, 0), (99, .iload 5, 2, 0), (101, .ireturn, 1, 0)]
/-- SinglesPastModel.pickedBy(II)I -/
def tO_329 : List (Nat × av_O) := [(0, .sipush 1, 1, 0), (1, .istore 2, 1, 0), (2, .sipush 2, 1, 0), (3, .istore 3, 1, 0), (4, .iload 3, 1, 0), (5, .iload 0, 1, 0), (6, .if_icmp .ge 19, 3, 0), (9, .iload 2, 1, 0), (10, .iload 3, 1, 0), (11, .imul, 1, 0), (12, .istore 2, 1, 0), (13, .iinc 3 1, 3, 0), (16, .goto 4, 3, 0), (19, .iload 1, 1, 0), (20, .ifCond .ne 27, 3, 0), (23, .iload 2, 1, 0), (24, .goto 28, 3, 0), (27, .sipush 0, 1, 0), (28, .istore 3, 1, 0), (29, .iload 1, 1, 0), (30, .sipush 1, 1, 0), (31, .iadd, 1, 0), (32, .istore 4, 2, 0), (34, .iload 4, 2, 0), (36, .iload 0, 1, 0), (37, .if_icmp .gt 61, 3, 0), (40, .iload 1, 1, 0), (41, .ifCond .le 61, 3, 0), (44, .iload 3, 1, 0), (45, .iload 2, 1, 0), (46, .iload 4, 2, 0), (48, .sipush 1, 1, 0), (49, .isub, 1, 0), (50, .idiv, 1, 0), (51, .iload 1, 1, 0), (52, .imul, 1, 0), (53, .iadd, 1, 0), (54, .istore 3, 1, 0), (55, .iinc 4 1, 3, 0), (58, .goto 34, 3, 0), (61, .iload 3, 1, 0), (62, .ireturn, 1, 0)]
/-- SinglesPastModel.pick(IZ)I -/
def tO_330 : List (Nat × av_O) := [(0, .aload 0, 1, 0), (1, .sipush 0, 1, 0), (2, .putfield 704, 3, 3), (5, .aload 0, 1, 0), (6, .iload 1, 1, 0), (7, .sipush 1, 1, 0), (8, .sipush 10, 2, 0), (10, .invokestatic 188, 3, 88), (13, .ifCond .ne 20, 3, 0), (16, .sipush 1, 1, 0), (17, .goto 21, 3, 0), (20, .sipush 0, 1, 0), (21, .sipush 1, 1, 0), (22, .invokevirtual 187, 3, 284), (25, .ifCond .eq 30, 3, 0), (28, .sipush 0, 1, 0), (29, .ireturn, 1, 0), (30, .sipush 0, 1, 0), (31, .istore 3, 1, 0), (32, .sipush 1, 1, 0), (33, .istore 4, 2, 0), (35, .iload 4, 2, 0), (37, .iload 1, 1, 0), (38, .if_icmp .ge 68, 3, 0), (41, .iload 1, 1, 0), (42, .iload 4, 2, 0), (44, .invokestatic 329, 3, 466), (47, .iload 1, 1, 0), (48, .iload 3, 1, 0), (49, .invokestatic 329, 3, 466), (52, .if_icmp .le 60, 3, 0), (55, .iload 4, 2, 0), (57, .goto 61, 3, 0), (60, .iload 3, 1, 0), (61, .istore 3, 1, 0), (62, .iinc 4 1, 3, 0), (65, .goto 35, 3, 0), (68, .iload 2, 1, 0), (69, .ifCond .eq 80, 3, 0), (72, .iload 1, 1, 0), (73, .iload 3, 1, 0), (74, .invokestatic 329, 3, 466), (77, .goto 81, 3, 0), (80, .iload 3, 1, 0), (81, .ireturn, 1, 0)]
/-- SinglesPastModel.firstOf(I)I -/
def tO_331 : List (Nat × av_O) := [(0, .iload 0, 1, 0), (1, .invokestatic 356, 3, 469), (4, .ireturn, 1, 0)]
/-- SinglesPastModel.canPair(II)Z -/
def tO_332 : List (Nat × av_O) := [(0, .aload 0, 1, 0), (1, .iload 1, 1, 0), (2, .invokevirtual 207, 3, 81), (5, .ifCond .ne 34, 3, 0), (8, .aload 0, 1, 0), (9, .iload 2, 1, 0), (10, .invokevirtual 207, 3, 81), (13, .ifCond .ne 34, 3, 0), (16, .aload 0, 1, 0), (17, .iload 1, 1, 0), (18, .sipush 6, 2, 0), (20, .invokevirtual 203, 3, 78), (23, .iload 2, 1, 0), (24, .invokestatic 189, 3, 170), (27, .ifCond .ne 34, 3, 0), (30, .sipush 1, 1, 0), (31, .goto 35, 3, 0), (34, .sipush 0, 1, 0), (35, .ireturn, 1, 0)]
/-- SinglesPastModel.pairedBy(II)I -/
def tO_333 : List (Nat × av_O) := [(0, .iload 1, 1, 0), (1, .invokestatic 331, 3, 472), (4, .istore 3, 1, 0), (5, .iload 1, 1, 0), (6, .sipush 1, 1, 0), (7, .iload 3, 1, 0), (8, .ishl, 1, 0), (9, .sipush (-1), 1, 0), (10, .ixor, 1, 0), (11, .iand, 1, 0), (12, .istore 4, 2, 0), (14, .iload 2, 1, 0), (15, .sipush (-1), 1, 0), (16, .if_icmp .ne 27, 3, 0), (19, .aload 0, 1, 0), (20, .getfield 727, 3, 54), (23, .iload 4, 2, 0), (25, .iaload, 1, 0), (26, .ireturn, 1, 0), (27, .iload 4, 2, 0), (29, .iload 2, 1, 0), (30, .invokestatic 189, 3, 170), (33, .ifCond .eq 82, 3, 0), (36, .aload 0, 1, 0), (37, .iload 3, 1, 0), (38, .iload 2, 1, 0), (39, .invokevirtual 332, 3, 475), (42, .ifCond .eq 82, 3, 0), (45, .aload 0, 1, 0), (46, .iload 3, 1, 0), (47, .sipush 0, 1, 0), (48, .invokevirtual 203, 3, 78), (51, .aload 0, 1, 0), (52, .iload 2, 1, 0), (53, .sipush 0, 1, 0), (54, .invokevirtual 203, 3, 78), (57, .if_icmp .ne 64, 3, 0), (60, .sipush 1, 1, 0), (61, .goto 65, 3, 0), (64, .sipush 0, 1, 0), (65, .aload 0, 1, 0), (66, .getfield 727, 3, 54), (69, .iload 4, 2, 0), (71, .sipush 1, 1, 0), (72, .iload 2, 1, 0), (73, .ishl, 1, 0), (74, .sipush (-1), 1, 0), (75, .ixor, 1, 0), (76, .iand, 1, 0), (77, .iaload, 1, 0), (78, .iadd, 1, 0), (79, .goto 83, 3, 0), (82, .sipush (-1), 1, 0), (83, .ireturn, 1, 0)]
/-- SinglesPastModel.laysPairs()V -/
def tO_334 : List (Nat × av_O) := [(0, .aload 0, 1, 0), (1, .getfield 727, 3, 54), (4, .sipush 0, 1, 0), (5, .sipush 0, 1, 0), (6, .iastore, 1, 0), (7, .sipush 1, 1, 0), (8, .istore 1, 1, 0), (9, .iload 1, 1, 0), (10, .aload 0, 1, 0), (11, .invokevirtual 206, 3, 368), (14, .if_icmp .gt 59, 3, 0), (17, .sipush 0, 1, 0), (18, .istore 2, 1, 0), (19, .sipush (-1), 1, 0), (20, .istore 3, 1, 0), (21, .iload 3, 1, 0), (22, .aload 0, 1, 0), (23, .invokevirtual 198, 3, 74), (26, .if_icmp .ge 46, 3, 0), (29, .iload 2, 1, 0), (30, .aload 0, 1, 0), (31, .iload 1, 1, 0), (32, .iload 3, 1, 0), (33, .invokevirtual 333, 3, 478), (36, .invokestatic 358, 3, 165), (39, .istore 2, 1, 0), (40, .iinc 3 1, 3, 0), (43, .goto 21, 3, 0), (46, .aload 0, 1, 0), (47, .getfield 727, 3, 54), (50, .iload 1, 1, 0), (51, .iload 2, 1, 0), (52, .iastore, 1, 0), (53, .iinc 1 1, 3, 0), (56, .goto 9, 3, 0), (59, .return_, 1, 0)]
/-- SinglesPastModel.pairs(I)I -/
def tO_335 : List (Nat × av_O) := [(0, .aload 0, 1, 0), (1, .sipush 0, 1, 0), (2, .putfield 704, 3, 3), (5, .aload 0, 1, 0), (6, .iload 1, 1, 0), (7, .sipush (-1), 1, 0), (8, .if_icmp .eq 23, 3, 0), (11, .aload 0, 1, 0), (12, .iload 1, 1, 0), (13, .invokevirtual 211, 3, 380), (16, .ifCond .eq 23, 3, 0), (19, .sipush 1, 1, 0), (20, .goto 24, 3, 0), (23, .sipush 0, 1, 0), (24, .sipush 1, 1, 0), (25, .invokevirtual 187, 3, 284), (28, .ifCond .eq 33, 3, 0), (31, .sipush 0, 1, 0), (32, .ireturn, 1, 0), (33, .aload 0, 1, 0), (34, .invokevirtual 334, 3, 481), (37, .aload 0, 1, 0), (38, .invokevirtual 206, 3, 368), (41, .istore 2, 1, 0), (42, .iload 1, 1, 0), (43, .sipush (-1), 1, 0), (44, .if_icmp .ne 54, 3, 0), (47, .aload 0, 1, 0), (48, .getfield 727, 3, 54), (51, .iload 2, 1, 0), (52, .iaload, 1, 0), (53, .ireturn, 1, 0), (54, .sipush (-1), 1, 0), (55, .istore 3, 1, 0), (56, .sipush 0, 1, 0), (57, .istore 4, 2, 0), (59, .iload 4, 2, 0), (61, .ifCond .ne 159, 3, 0), (64, .iload 2, 1, 0), (65, .invokestatic 331, 3, 472), (68, .istore 5, 2, 0), (70, .sipush (-1), 1, 0), (71, .istore 6, 2, 0), (73, .aload 0, 1, 0), (74, .iload 2, 1, 0), (75, .iload 6, 2, 0), (77, .invokevirtual 333, 3, 478), (80, .aload 0, 1, 0), (81, .getfield 727, 3, 54), (84, .iload 2, 1, 0), (85, .iaload, 1, 0), (86, .if_icmp .eq 95, 3, 0), (89, .iinc 6 1, 3, 0), (92, .goto 73, 3, 0), (95, .iload 5, 2, 0), (97, .iload 1, 1, 0), (98, .if_icmp .eq 107, 3, 0), (101, .iload 6, 2, 0), (103, .iload 1, 1, 0), (104, .if_icmp .ne 111, 3, 0), (107, .sipush 1, 1, 0), (108, .goto 112, 3, 0), (111, .sipush 0, 1, 0), (112, .istore 4, 2, 0), (114, .iload 5, 2, 0), (116, .iload 1, 1, 0), (117, .if_icmp .ne 125, 3, 0), (120, .iload 6, 2, 0), (122, .goto 127, 3, 0), (125, .iload 5, 2, 0), (127, .istore 3, 1, 0), (128, .iload 2, 1, 0), (129, .sipush 1, 1, 0), (130, .iload 5, 2, 0), (132, .ishl, 1, 0), (133, .sipush (-1), 1, 0), (134, .ixor, 1, 0), (135, .iand, 1, 0), (136, .istore 2, 1, 0), (137, .iload 6, 2, 0), (139, .sipush (-1), 1, 0), (140, .if_icmp .ne 147, 3, 0), (143, .iload 2, 1, 0), (144, .goto 155, 3, 0), (147, .iload 2, 1, 0), (148, .sipush 1, 1, 0), (149, .iload 6, 2, 0), (151, .ishl, 1, 0), (152, .sipush (-1), 1, 0), (153, .ixor, 1, 0), (154, .iand, 1, 0), (155, .istore 2, 1, 0), (156, .goto 59, 3, 0), (159, .iload 3, 1, 0), (160, .ireturn, 1, 0)]
/-- SinglesPastModel.goerHas(III)I -/
def tO_336 : List (Nat × av_O) := [(0, .iload 2, 1, 0), (1, .ifCond .ne 23, 3, 0), (4, .iload 3, 1, 0), (5, .ifCond .ne 20, 3, 0), (8, .aload 0, 1, 0), (9, .iload 1, 1, 0), (10, .sipush 5, 1, 0), (11, .invokevirtual 203, 3, 78), (14, .sipush 10, 2, 0), (16, .idiv, 1, 0), (17, .goto 22, 3, 0), (20, .sipush (-2), 2, 0), (22, .ireturn, 1, 0), (23, .iload 3, 1, 0), (24, .ifCond .ne 31, 3, 0), (27, .sipush 3, 1, 0), (28, .goto 32, 3, 0), (31, .sipush 0, 1, 0), (32, .ireturn, 1, 0)]
/-- SinglesPastModel.clerkHas(II)I -/
def tO_337 : List (Nat × av_O) := [(0, .iload 0, 1, 0), (1, .ifCond .ne 14, 3, 0), (4, .iload 1, 1, 0), (5, .ifCond .ne 12, 3, 0), (8, .sipush (-1), 1, 0), (9, .goto 13, 3, 0), (12, .sipush 1, 1, 0), (13, .ireturn, 1, 0), (14, .iload 1, 1, 0), (15, .ifCond .ne 23, 3, 0), (18, .sipush (-2), 2, 0), (20, .goto 24, 3, 0), (23, .sipush 0, 1, 0), (24, .ireturn, 1, 0)]
/-- SinglesPastModel.rests(I)I -/
def tO_338 : List (Nat × av_O) := [(0, .aload 0, 1, 0), (1, .sipush 0, 1, 0), (2, .putfield 704, 3, 3), (5, .aload 0, 1, 0), (6, .aload 0, 1, 0), (7, .iload 1, 1, 0), (8, .invokevirtual 211, 3, 380), (11, .sipush 1, 1, 0), (12, .invokevirtual 187, 3, 284), (15, .ifCond .eq 20, 3, 0), (18, .sipush 0, 1, 0), (19, .ireturn, 1, 0), (20, .sipush 0, 1, 0), (21, .istore 2, 1, 0), (22, .sipush 0, 1, 0), (23, .istore 3, 1, 0), (24, .iload 3, 1, 0), (25, .sipush 2, 1, 0), (26, .if_icmp .ge 103, 3, 0), (29, .sipush 0, 1, 0), (30, .istore 4, 2, 0), (32, .iload 4, 2, 0), (34, .sipush 2, 1, 0), (35, .if_icmp .ge 97, 3, 0), (38, .iload 2, 1, 0), (39, .aload 0, 1, 0), (40, .iload 1, 1, 0), (41, .iload 3, 1, 0), (42, .iload 4, 2, 0), (44, .invokevirtual 336, 3, 484), (47, .aload 0, 1, 0), (48, .iload 1, 1, 0), (49, .sipush 1, 1, 0), (50, .iload 3, 1, 0), (51, .isub, 1, 0), (52, .iload 4, 2, 0), (54, .invokevirtual 336, 3, 484), (57, .if_icmp .lt 88, 3, 0), (60, .iload 3, 1, 0), (61, .iload 4, 2, 0), (63, .invokestatic 337, 3, 487), (66, .iload 3, 1, 0), (67, .sipush 1, 1, 0), (68, .iload 4, 2, 0), (70, .isub, 1, 0), (71, .invokestatic 337, 3, 487), (74, .if_icmp .lt 88, 3, 0), (77, .sipush 1, 1, 0), (78, .sipush 2, 1, 0), (79, .iload 3, 1, 0), (80, .imul, 1, 0), (81, .iload 4, 2, 0), (83, .iadd, 1, 0), (84, .ishl, 1, 0), (85, .goto 89, 3, 0), (88, .sipush 0, 1, 0), (89, .ior, 1, 0), (90, .istore 2, 1, 0), (91, .iinc 4 1, 3, 0), (94, .goto 32, 3, 0), (97, .iinc 3 1, 3, 0), (100, .goto 24, 3, 0), (103, .iload 2, 1, 0), (104, .ireturn, 1, 0)]
/-- SinglesPastModel.odds(II)I -/
def tO_339 : List (Nat × av_O) := [(0, .aload 0, 1, 0), (1, .sipush 0, 1, 0), (2, .putfield 704, 3, 3), (5, .aload 0, 1, 0), (6, .aload 0, 1, 0), (7, .iload 1, 1, 0), (8, .invokevirtual 211, 3, 380), (11, .sipush 1, 1, 0), (12, .invokevirtual 187, 3, 284), (15, .ifCond .ne 40, 3, 0), (18, .aload 0, 1, 0), (19, .iload 2, 1, 0), (20, .sipush 0, 1, 0), (21, .sipush 4, 1, 0), (22, .invokestatic 188, 3, 88), (25, .ifCond .ne 32, 3, 0), (28, .sipush 1, 1, 0), (29, .goto 33, 3, 0), (32, .sipush 0, 1, 0), (33, .sipush 2, 1, 0), (34, .invokevirtual 187, 3, 284), (37, .ifCond .eq 42, 3, 0), (40, .sipush 0, 1, 0), (41, .ireturn, 1, 0), (42, .aload 0, 1, 0), (43, .iload 1, 1, 0), (44, .invokevirtual 258, 3, 327), (47, .istore 3, 1, 0), (48, .iload 3, 1, 0), (49, .sipush (-1), 1, 0), (50, .if_icmp .ne 57, 3, 0), (53, .sipush 0, 1, 0), (54, .goto 79, 3, 0), (57, .sipush 0, 1, 0), (58, .sipush 100, 2, 0), (60, .aload 0, 1, 0), (61, .iload 1, 1, 0), (62, .sipush 5, 1, 0), (63, .invokevirtual 203, 3, 78), (66, .aload 0, 1, 0), (67, .iload 1, 1, 0), (68, .iload 3, 1, 0), (69, .invokevirtual 254, 3, 333), (72, .isub, 1, 0), (73, .invokestatic 359, 3, 320), (76, .invokestatic 358, 3, 165), (79, .istore 4, 2, 0), (81, .sipush 10000, 3, 0), (84, .istore 5, 2, 0), (86, .sipush 0, 1, 0), (87, .istore 6, 2, 0), (89, .iload 6, 2, 0), (91, .iload 2, 1, 0), (92, .if_icmp .ge 114, 3, 0), (95, .iload 5, 2, 0), (97, .sipush 100, 2, 0), (99, .iload 4, 2, 0), (101, .isub, 1, 0), (102, .imul, 1, 0), (103, .sipush 100, 2, 0), (105, .idiv, 1, 0), (106, .istore 5, 2, 0), (108, .iinc 6 1, 3, 0), (111, .goto 89, 3, 0), (114, .iload 5, 2, 0), (116, .ireturn, 1, 0)]
/-- SinglesPastModel.brave()I -/
def tO_340 : List (Nat × av_O) := [(0, .aload 0, 1, 0), (1, .sipush 0, 1, 0), (2, .putfield 704, 3, 3), (5, .sipush (-1), 1, 0), (6, .istore 1, 1, 0), (7, .sipush 0, 1, 0), (8, .istore 2, 1, 0), (9, .iload 2, 1, 0), (10, .aload 0, 1, 0), (11, .invokevirtual 198, 3, 74), (14, .if_icmp .ge 53, 3, 0), (17, .aload 0, 1, 0), (18, .iload 2, 1, 0), (19, .invokevirtual 207, 3, 81), (22, .ifCond .ne 47, 3, 0), (25, .iload 1, 1, 0), (26, .sipush (-1), 1, 0), (27, .if_icmp .eq 45, 3, 0), (30, .aload 0, 1, 0), (31, .iload 2, 1, 0), (32, .sipush 5, 1, 0), (33, .invokevirtual 203, 3, 78), (36, .aload 0, 1, 0), (37, .iload 1, 1, 0), (38, .sipush 5, 1, 0), (39, .invokevirtual 203, 3, 78), (42, .if_icmp .le 47, 3, 0), (45, .iload 2, 1, 0), (46, .istore 1, 1, 0), (47, .iinc 2 1, 3, 0), (50, .goto 9, 3, 0), (53, .iload 1, 1, 0), (54, .ireturn, 1, 0)]
/-- SinglesPastModel.gone()I -/
def tO_341 : List (Nat × av_O) := [(0, .aload 0, 1, 0), (1, .sipush 0, 1, 0), (2, .putfield 704, 3, 3), (5, .aload 0, 1, 0), (6, .invokevirtual 208, 3, 371), (9, .ireturn, 1, 0)]
/-- SinglesPastModel.unborn()I -/
def tO_342 : List (Nat × av_O) := [(0, .aload 0, 1, 0), (1, .sipush 0, 1, 0), (2, .putfield 704, 3, 3), (5, .aload 0, 1, 0), (6, .invokevirtual 206, 3, 368), (9, .aload 0, 1, 0), (10, .aload 0, 1, 0), (11, .invokevirtual 206, 3, 368), (14, .aload 0, 1, 0), (15, .aload 0, 1, 0), (16, .invokevirtual 208, 3, 371), (19, .invokevirtual 269, 3, 377), (22, .invokevirtual 266, 3, 354), (25, .sipush (-1), 1, 0), (26, .ixor, 1, 0), (27, .iand, 1, 0), (28, .ireturn, 1, 0)]
/-- SinglesPastModel.twins()I -/
def tO_343 : List (Nat × av_O) := [(0, .aload 0, 1, 0), (1, .sipush 0, 1, 0), (2, .putfield 704, 3, 3), (5, .sipush 0, 1, 0), (6, .istore 1, 1, 0), (7, .sipush 0, 1, 0), (8, .istore 2, 1, 0), (9, .iload 2, 1, 0), (10, .aload 0, 1, 0), (11, .invokevirtual 198, 3, 74), (14, .if_icmp .ge 74, 3, 0), (17, .sipush 0, 1, 0), (18, .istore 3, 1, 0), (19, .iload 3, 1, 0), (20, .iload 2, 1, 0), (21, .if_icmp .ge 68, 3, 0), (24, .iload 1, 1, 0), (25, .aload 0, 1, 0), (26, .iload 2, 1, 0), (27, .sipush 0, 1, 0), (28, .invokevirtual 203, 3, 78), (31, .aload 0, 1, 0), (32, .iload 3, 1, 0), (33, .sipush 0, 1, 0), (34, .invokevirtual 203, 3, 78), (37, .if_icmp .ne 59, 3, 0), (40, .aload 0, 1, 0), (41, .iload 2, 1, 0), (42, .sipush 1, 1, 0), (43, .invokevirtual 203, 3, 78), (46, .aload 0, 1, 0), (47, .iload 3, 1, 0), (48, .sipush 1, 1, 0), (49, .invokevirtual 203, 3, 78), (52, .if_icmp .ne 59, 3, 0), (55, .sipush 1, 1, 0), (56, .goto 60, 3, 0), (59, .sipush 0, 1, 0), (60, .iadd, 1, 0), (61, .istore 1, 1, 0), (62, .iinc 3 1, 3, 0), (65, .goto 19, 3, 0), (68, .iinc 2 1, 3, 0), (71, .goto 9, 3, 0), (74, .iload 1, 1, 0), (75, .ireturn, 1, 0)]
/-- SinglesPastModel.worth()I -/
def tO_344 : List (Nat × av_O) := [(0, .aload 0, 1, 0), (1, .sipush 0, 1, 0), (2, .putfield 704, 3, 3), (5, .aload 0, 1, 0), (6, .aload 0, 1, 0), (7, .aload 0, 1, 0), (8, .invokevirtual 208, 3, 371), (11, .invokevirtual 269, 3, 377), (14, .invokevirtual 279, 3, 389), (17, .ireturn, 1, 0)]
/-- SinglesPastModel.empty()I -/
def tO_345 : List (Nat × av_O) := [(0, .aload 0, 1, 0), (1, .sipush 0, 1, 0), (2, .putfield 704, 3, 3), (5, .sipush 0, 1, 0), (6, .istore 1, 1, 0), (7, .sipush 0, 1, 0), (8, .istore 2, 1, 0), (9, .iload 2, 1, 0), (10, .aload 0, 1, 0), (11, .invokevirtual 199, 3, 92), (14, .if_icmp .ge 41, 3, 0), (17, .iload 1, 1, 0), (18, .aload 0, 1, 0), (19, .iload 2, 1, 0), (20, .invokevirtual 209, 3, 287), (23, .ifCond .ne 32, 3, 0), (26, .sipush 1, 1, 0), (27, .iload 2, 1, 0), (28, .ishl, 1, 0), (29, .goto 33, 3, 0), (32, .sipush 0, 1, 0), (33, .ior, 1, 0), (34, .istore 1, 1, 0), (35, .iinc 2 1, 3, 0), (38, .goto 9, 3, 0), (41, .iload 1, 1, 0), (42, .ireturn, 1, 0)]
/-- SinglesPastModel.never()I -/
def tO_346 : List (Nat × av_O) := [(0, .aload 0, 1, 0), (1, .sipush 0, 1, 0), (2, .putfield 704, 3, 3), (5, .sipush 65535, 3, 426), (8, .aload 0, 1, 0), (9, .invokevirtual 283, 3, 392), (12, .sipush (-1), 1, 0), (13, .ixor, 1, 0), (14, .iand, 1, 0), (15, .ireturn, 1, 0)]
/-- SinglesPastModel.noAhead(I)Z -/
def tO_347 : List (Nat × av_O) := [(0, .iload 0, 1, 0), (1, .sipush 0, 1, 0), (2, .sipush 60, 2, 0), (4, .invokestatic 188, 3, 88), (7, .ifCond .ne 14, 3, 0), (10, .sipush 1, 1, 0), (11, .goto 15, 3, 0), (14, .sipush 0, 1, 0), (15, .ireturn, 1, 0)]
/-- SinglesPastModel.ahead(II)I -/
def tO_348 : List (Nat × av_O) := [(0, .aload 0, 1, 0), (1, .sipush 0, 1, 0), (2, .putfield 704, 3, 3), (5, .aload 0, 1, 0), (6, .aload 0, 1, 0), (7, .iload 1, 1, 0), (8, .invokevirtual 211, 3, 380), (11, .sipush 1, 1, 0), (12, .invokevirtual 187, 3, 284), (15, .ifCond .ne 30, 3, 0), (18, .aload 0, 1, 0), (19, .iload 2, 1, 0), (20, .invokestatic 347, 3, 490), (23, .sipush 2, 1, 0), (24, .invokevirtual 187, 3, 284), (27, .ifCond .eq 32, 3, 0), (30, .sipush 0, 1, 0), (31, .ireturn, 1, 0), (32, .aload 0, 1, 0), (33, .invokevirtual 195, 3, 493), (36, .aload 0, 1, 0), (37, .iload 2, 1, 0), (38, .sipush 1, 1, 0), (39, .invokevirtual 263, 3, 413), (42, .pop, 1, 0), (43, .aload 0, 1, 0), (44, .iload 1, 1, 0), (45, .sipush 8, 2, 0), (47, .invokevirtual 203, 3, 78), (50, .istore 3, 1, 0), (51, .aload 0, 1, 0), (52, .invokevirtual 196, 3, 496), (55, .iload 3, 1, 0), (56, .ireturn, 1, 0)]
/-- SinglesPastModel.trial(IZ)I -/
def tO_349 : List (Nat × av_O) := [(0, .aload 0, 1, 0), (1, .sipush 0, 1, 0), (2, .putfield 704, 3, 3), (5, .aload 0, 1, 0), (6, .iload 1, 1, 0), (7, .invokestatic 347, 3, 490), (10, .sipush 1, 1, 0), (11, .invokevirtual 187, 3, 284), (14, .ifCond .eq 19, 3, 0), (17, .sipush 0, 1, 0), (18, .ireturn, 1, 0), (19, .aload 0, 1, 0), (20, .invokevirtual 195, 3, 493), (23, .aload 0, 1, 0), (24, .iload 1, 1, 0), (25, .sipush 0, 1, 0), (26, .invokevirtual 263, 3, 413), (29, .pop, 1, 0), (30, .iload 2, 1, 0), (31, .ifCond .eq 41, 3, 0), (34, .aload 0, 1, 0), (35, .invokevirtual 270, 3, 374), (38, .goto 45, 3, 0), (41, .aload 0, 1, 0), (42, .invokevirtual 208, 3, 371), (45, .istore 3, 1, 0), (46, .aload 0, 1, 0), (47, .invokevirtual 196, 3, 496), (50, .iload 3, 1, 0), (51, .ireturn, 1, 0)]
/-- SinglesPastModel.span(IZ)I -/
def tO_350 : List (Nat × av_O) := [(0, .aload 0, 1, 0), (1, .sipush 0, 1, 0), (2, .putfield 704, 3, 3), (5, .aload 0, 1, 0), (6, .iload 1, 1, 0), (7, .invokestatic 347, 3, 490), (10, .sipush 1, 1, 0), (11, .invokevirtual 187, 3, 284), (14, .ifCond .eq 19, 3, 0), (17, .sipush 0, 1, 0), (18, .ireturn, 1, 0), (19, .aload 0, 1, 0), (20, .invokevirtual 195, 3, 493), (23, .sipush (-1), 1, 0), (24, .istore 3, 1, 0), (25, .sipush 1, 1, 0), (26, .istore 4, 2, 0), (28, .iload 4, 2, 0), (30, .sipush 6, 2, 0), (32, .if_icmp .gt 99, 3, 0), (35, .aload 0, 1, 0), (36, .getfield 705, 3, 13), (39, .sipush 7, 2, 0), (41, .iload 4, 2, 0), (43, .iastore, 1, 0), (44, .aload 0, 1, 0), (45, .iload 1, 1, 0), (46, .sipush 0, 1, 0), (47, .invokevirtual 263, 3, 413), (50, .pop, 1, 0), (51, .aload 0, 1, 0), (52, .invokevirtual 208, 3, 371), (55, .invokestatic 357, 3, 360), (58, .istore 5, 2, 0), (60, .aload 0, 1, 0), (61, .invokevirtual 196, 3, 496), (64, .iload 3, 1, 0), (65, .ifCond .ge 73, 3, 0), (68, .iload 5, 2, 0), (70, .goto 92, 3, 0), (73, .iload 2, 1, 0), (74, .ifCond .eq 86, 3, 0), (77, .iload 3, 1, 0), (78, .iload 5, 2, 0), (80, .invokestatic 358, 3, 165), (83, .goto 92, 3, 0), (86, .iload 3, 1, 0), (87, .iload 5, 2, 0), (89, .invokestatic 359, 3, 320), (92, .istore 3, 1, 0), (93, .iinc 4 1, 3, 0), (96, .goto 28, 3, 0), (99, .iload 3, 1, 0), (100, .ireturn, 1, 0)]
/-- SinglesPastModel.ofLog(II)I -/
def tO_351 : List (Nat × av_O) := [(0, .aload 0, 1, 0), (1, .getfield 705, 3, 13), (4, .sipush 112, 2, 0), (6, .sipush 4, 1, 0), (7, .iload 1, 1, 0), (8, .imul, 1, 0), (9, .iadd, 1, 0), (10, .iload 2, 1, 0), (11, .iadd, 1, 0), (12, .iaload, 1, 0), (13, .ireturn, 1, 0)]
/-- SinglesPastModel.led(IZ)I -/
def tO_352 : List (Nat × av_O) := [(0, .aload 0, 1, 0), (1, .sipush 0, 1, 0), (2, .putfield 704, 3, 3), (5, .aload 0, 1, 0), (6, .aload 0, 1, 0), (7, .iload 1, 1, 0), (8, .invokevirtual 211, 3, 380), (11, .sipush 1, 1, 0), (12, .invokevirtual 187, 3, 284), (15, .ifCond .eq 20, 3, 0), (18, .sipush 0, 1, 0), (19, .ireturn, 1, 0), (20, .sipush 0, 1, 0), (21, .istore 3, 1, 0), (22, .sipush (-1), 1, 0), (23, .istore 4, 2, 0), (25, .aload 0, 1, 0), (26, .getfield 705, 3, 13), (29, .sipush 6, 2, 0), (31, .iaload, 1, 0), (32, .sipush 1, 1, 0), (33, .isub, 1, 0), (34, .istore 5, 2, 0), (36, .iload 5, 2, 0), (38, .ifCond .lt 73, 3, 0), (41, .aload 0, 1, 0), (42, .iload 5, 2, 0), (44, .sipush 1, 1, 0), (45, .invokevirtual 351, 3, 499), (48, .iload 1, 1, 0), (49, .if_icmp .eq 55, 3, 0), (52, .goto 67, 3, 0), (55, .iinc 3 1, 3, 0), (58, .aload 0, 1, 0), (59, .iload 5, 2, 0), (61, .sipush 0, 1, 0), (62, .invokevirtual 351, 3, 499), (65, .istore 4, 2, 0), (67, .iinc 5 (-1), 3, 0), (70, .goto 36, 3, 0), (73, .iload 2, 1, 0), (74, .ifCond .eq 82, 3, 0), (77, .iload 4, 2, 0), (79, .goto 83, 3, 0), (82, .iload 3, 1, 0), (83, .ireturn, 1, 0)]
/-- SinglesPastModel.log(II)I -/
def tO_353 : List (Nat × av_O) := [(0, .aload 0, 1, 0), (1, .sipush 0, 1, 0), (2, .putfield 704, 3, 3), (5, .aload 0, 1, 0), (6, .iload 2, 1, 0), (7, .sipush 0, 1, 0), (8, .sipush 3, 1, 0), (9, .invokestatic 188, 3, 88), (12, .ifCond .ne 19, 3, 0), (15, .sipush 1, 1, 0), (16, .goto 20, 3, 0), (19, .sipush 0, 1, 0), (20, .sipush 1, 1, 0), (21, .invokevirtual 187, 3, 284), (24, .ifCond .eq 29, 3, 0), (27, .sipush 0, 1, 0), (28, .ireturn, 1, 0), (29, .iload 1, 1, 0), (30, .sipush 0, 1, 0), (31, .aload 0, 1, 0), (32, .getfield 705, 3, 13), (35, .sipush 6, 2, 0), (37, .iaload, 1, 0), (38, .sipush 1, 1, 0), (39, .isub, 1, 0), (40, .invokestatic 188, 3, 88), (43, .ifCond .eq 55, 3, 0), (46, .aload 0, 1, 0), (47, .iload 1, 1, 0), (48, .iload 2, 1, 0), (49, .invokevirtual 351, 3, 499), (52, .goto 57, 3, 0), (55, .sipush (-2), 2, 0), (57, .ireturn, 1, 0)]
/-- SinglesPastModel.seed(I)I -/
def tO_354 : List (Nat × av_O) := [(0, .aload 0, 1, 0), (1, .sipush 0, 1, 0), (2, .putfield 704, 3, 3), (5, .aload 0, 1, 0), (6, .getfield 705, 3, 13), (9, .sipush 7, 2, 0), (11, .iaload, 1, 0), (12, .istore 2, 1, 0), (13, .aload 0, 1, 0), (14, .getfield 705, 3, 13), (17, .sipush 7, 2, 0), (19, .iload 1, 1, 0), (20, .iastore, 1, 0), (21, .iload 2, 1, 0), (22, .ireturn, 1, 0)]
/-- SinglesPastModel.count(I)I -/
def tO_355 : List (Nat × av_O) := [(0, .aload 0, 1, 0), (1, .sipush 0, 1, 0), (2, .putfield 704, 3, 3), (5, .sipush 0, 1, 0), (6, .istore 2, 1, 0), (7, .sipush 0, 1, 0), (8, .istore 3, 1, 0), (9, .iload 3, 1, 0), (10, .aload 0, 1, 0), (11, .invokevirtual 198, 3, 74), (14, .if_icmp .ge 32, 3, 0), (17, .iload 2, 1, 0), (18, .aload 0, 1, 0), (19, .iload 3, 1, 0), (20, .sipush 4, 1, 0), (21, .invokevirtual 203, 3, 78), (24, .iadd, 1, 0), (25, .istore 2, 1, 0), (26, .iinc 3 1, 3, 0), (29, .goto 9, 3, 0), (32, .iload 1, 1, 0), (33, .tableswitch 118 4 9 #[72, 118, 95, 103, 105, 113], 39, 0), (72, .aload 0, 1, 0), (73, .getfield 705, 3, 13), (76, .sipush 4, 1, 0), (77, .iaload, 1, 0), (78, .sipush 1, 1, 0), (79, .if_icmp .ne 93, 3, 0), (82, .aload 0, 1, 0), (83, .getfield 705, 3, 13), (86, .sipush 352, 3, 0), (89, .iaload, 1, 0), (90, .goto 94, 3, 0), (93, .sipush (-1), 1, 0), (94, .ireturn, 1, 0), (95, .aload 0, 1, 0), (96, .invokevirtual 208, 3, 371), (99, .invokestatic 357, 3, 360), (102, .ireturn, 1, 0), (103, .iload 2, 1, 0), (104, .ireturn, 1, 0), (105, .aload 0, 1, 0), (106, .getfield 705, 3, 13), (109, .sipush 6, 2, 0), (111, .iaload, 1, 0), (112, .ireturn, 1, 0), (113, .aload 0, 1, 0), (114, .getfield 711, 3, 61), (117, .ireturn, 1, 0), (118, .iload 1, 1, 0), (119, .sipush 0, 1, 0), (120, .sipush 5, 1, 0), (121, .invokestatic 188, 3, 88), (124, .ifCond .eq 136, 3, 0), (127, .aload 0, 1, 0), (128, .getfield 705, 3, 13), (131, .iload 1, 1, 0), (132, .iaload, 1, 0), (133, .goto 137, 3, 0), (136, .sipush (-1), 1, 0), (137, .ireturn, 1, 0)]
/-- java/lang/Integer.numberOfTrailingZeros(I)I -/
def tO_356 : List (Nat × av_O) := [(0, .iload 0, 1, 0), (1, .sipush (-1), 1, 0), (2, .ixor, 1, 0), (3, .iload 0, 1, 0), (4, .sipush 1, 1, 0), (5, .isub, 1, 0), (6, .iand, 1, 0), (7, .istore 0, 1, 0), (8, .iload 0, 1, 0), (9, .ifCond .gt 17, 3, 0), (12, .iload 0, 1, 0), (13, .sipush 32, 2, 0), (15, .iand, 1, 0), (16, .ireturn, 1, 0), (17, .sipush 1, 1, 0), (18, .istore 1, 1, 0), (19, .iload 0, 1, 0), (20, .sipush 65536, 3, 264), (23, .if_icmp .le 34, 3, 0), (26, .iinc 1 16, 3, 0), (29, .iload 0, 1, 0), (30, .sipush 16, 2, 0), (32, .iushr, 1, 0), (33, .istore 0, 1, 0), (34, .iload 0, 1, 0), (35, .sipush 256, 3, 0), (38, .if_icmp .le 49, 3, 0), (41, .iinc 1 8, 3, 0), (44, .iload 0, 1, 0), (45, .sipush 8, 2, 0), (47, .iushr, 1, 0), (48, .istore 0, 1, 0), (49, .iload 0, 1, 0), (50, .sipush 16, 2, 0), (52, .if_icmp .le 62, 3, 0), (55, .iinc 1 4, 3, 0), (58, .iload 0, 1, 0), (59, .sipush 4, 1, 0), (60, .iushr, 1, 0), (61, .istore 0, 1, 0), (62, .iload 0, 1, 0), (63, .sipush 4, 1, 0), (64, .if_icmp .le 74, 3, 0), (67, .iinc 1 2, 3, 0), (70, .iload 0, 1, 0), (71, .sipush 2, 1, 0), (72, .iushr, 1, 0), (73, .istore 0, 1, 0), (74, .iload 1, 1, 0), (75, .iload 0, 1, 0), (76, .sipush 1, 1, 0), (77, .iushr, 1, 0), (78, .iadd, 1, 0), (79, .ireturn, 1, 0)]
/-- java/lang/Integer.bitCount(I)I -/
def tO_357 : List (Nat × av_O) := [(0, .iload 0, 1, 0), (1, .iload 0, 1, 0), (2, .sipush 1, 1, 0), (3, .iushr, 1, 0), (4, .sipush 1431655765, 3, 265), (7, .iand, 1, 0), (8, .isub, 1, 0), (9, .istore 0, 1, 0), (10, .iload 0, 1, 0), (11, .sipush 858993459, 3, 266), (14, .iand, 1, 0), (15, .iload 0, 1, 0), (16, .sipush 2, 1, 0), (17, .iushr, 1, 0), (18, .sipush 858993459, 3, 266), (21, .iand, 1, 0), (22, .iadd, 1, 0), (23, .istore 0, 1, 0), (24, .iload 0, 1, 0), (25, .iload 0, 1, 0), (26, .sipush 4, 1, 0), (27, .iushr, 1, 0), (28, .iadd, 1, 0), (29, .sipush 252645135, 3, 267), (32, .iand, 1, 0), (33, .istore 0, 1, 0), (34, .iload 0, 1, 0), (35, .iload 0, 1, 0), (36, .sipush 8, 2, 0), (38, .iushr, 1, 0), (39, .iadd, 1, 0), (40, .istore 0, 1, 0), (41, .iload 0, 1, 0), (42, .iload 0, 1, 0), (43, .sipush 16, 2, 0), (45, .iushr, 1, 0), (46, .iadd, 1, 0), (47, .istore 0, 1, 0), (48, .iload 0, 1, 0), (49, .sipush 63, 2, 0), (51, .iand, 1, 0), (52, .ireturn, 1, 0)]
/-- java/lang/Math.max(II)I -/
def tO_358 : List (Nat × av_O) := [(0, .iload 0, 1, 0), (1, .iload 1, 1, 0), (2, .if_icmp .lt 9, 3, 0), (5, .iload 0, 1, 0), (6, .goto 10, 3, 0), (9, .iload 1, 1, 0), (10, .ireturn, 1, 0)]
/-- java/lang/Math.min(II)I -/
def tO_359 : List (Nat × av_O) := [(0, .iload 0, 1, 0), (1, .iload 1, 1, 0), (2, .if_icmp .gt 9, 3, 0), (5, .iload 0, 1, 0), (6, .goto 10, 3, 0), (9, .iload 1, 1, 0), (10, .ireturn, 1, 0)]
/-- java/util/Arrays.fill([II)V -/
def tO_360 : List (Nat × av_O) := [(0, .sipush 0, 1, 0), (1, .istore 2, 1, 0), (2, .aload 0, 1, 0), (3, .arraylength, 1, 0), (4, .istore 3, 1, 0), (5, .iload 2, 1, 0), (6, .iload 3, 1, 0), (7, .if_icmp .ge 20, 3, 0), (10, .aload 0, 1, 0), (11, .iload 2, 1, 0), (12, .iload 1, 1, 0), (13, .iastore, 1, 0), (14, .iinc 2 1, 3, 0), (17, .goto 5, 3, 0), (20, .return_, 1, 0)]
/-- java/util/Arrays.copyOf([II)[I -/
def tO_361 : List (Nat × av_O) := [(0, .iload 1, 1, 0), (1, .aload 0, 1, 0), (2, .arraylength, 1, 0), (3, .if_icmp .ne 14, 3, 0), (6, .aload 0, 1, 0), (7, .invokedynamic 3, 3, 316), (10, .checkcast 0, 3, 317), (13, .areturn, 1, 0), (14, .iload 1, 1, 0), (15, .newarray .int, 2, 0), (17, .astore 2, 1, 0), (18, .aload 0, 1, 0), (19, .sipush 0, 1, 0), (20, .aload 2, 1, 0), (21, .sipush 0, 1, 0), (22, .aload 0, 1, 0), (23, .arraylength, 1, 0), (24, .iload 1, 1, 0), (25, .invokestatic 359, 3, 304), (28, .invokedynamic 0, 3, 150), (31, .aload 2, 1, 0), (32, .areturn, 1, 0)]
/-- SinglesPastLaw.station(LSinglesPast;[J)I -/
def tO_362 : List (Nat × av_O) := [(0, .aload 1, 1, 0), (1, .sipush 0, 1, 0), (2, .aload 0, 1, 0), (3, .invokevirtual 97, 3, 7), (6, .i2l, 1, 0), (7, .lastore, 1, 0), (8, .goto 17, 3, 0), (11, .astore 2, 1, 0), (12, .sipush 1, 1, 0), (13, .ireturn, 1, 0), (14, .astore 2, 1, 0), (15, .sipush 2, 1, 0), (16, .ireturn, 1, 0), (17, .sipush 0, 1, 0), (18, .ireturn, 1, 0)]
/-- SinglesPastLaw.law(LSinglesPast;[J)I -/
def tO_363 : List (Nat × av_O) := [(0, .aload 1, 1, 0), (1, .sipush 0, 1, 0), (2, .aload 0, 1, 0), (3, .invokevirtual 98, 3, 17), (6, .i2l, 1, 0), (7, .lastore, 1, 0), (8, .goto 14, 3, 0), (11, .astore 2, 1, 0), (12, .sipush 1, 1, 0), (13, .ireturn, 1, 0), (14, .sipush 0, 1, 0), (15, .ireturn, 1, 0)]
/-- SinglesPastLaw.thing(LSinglesPast;II[J)I -/
def tO_364 : List (Nat × av_O) := [(0, .aload 3, 1, 0), (1, .sipush 0, 1, 0), (2, .aload 0, 1, 0), (3, .iload 1, 1, 0), (4, .iload 2, 1, 0), (5, .invokevirtual 102, 3, 20), (8, .i2l, 1, 0), (9, .lastore, 1, 0), (10, .goto 21, 3, 0), (13, .astore 4, 2, 0), (15, .sipush 1, 1, 0), (16, .ireturn, 1, 0), (17, .astore 4, 2, 0), (19, .sipush 2, 1, 0), (20, .ireturn, 1, 0), (21, .sipush 0, 1, 0), (22, .ireturn, 1, 0)]
/-- SinglesPastLaw.goer(LSinglesPast;II[J)I -/
def tO_365 : List (Nat × av_O) := [(0, .aload 3, 1, 0), (1, .sipush 0, 1, 0), (2, .aload 0, 1, 0), (3, .iload 1, 1, 0), (4, .iload 2, 1, 0), (5, .invokevirtual 103, 3, 28), (8, .i2l, 1, 0), (9, .lastore, 1, 0), (10, .goto 21, 3, 0), (13, .astore 4, 2, 0), (15, .sipush 1, 1, 0), (16, .ireturn, 1, 0), (17, .astore 4, 2, 0), (19, .sipush 2, 1, 0), (20, .ireturn, 1, 0), (21, .sipush 0, 1, 0), (22, .ireturn, 1, 0)]
/-- SinglesPastLaw.train(LSinglesPast;II[J)I -/
def tO_366 : List (Nat × av_O) := [(0, .aload 3, 1, 0), (1, .sipush 0, 1, 0), (2, .aload 0, 1, 0), (3, .iload 1, 1, 0), (4, .iload 2, 1, 0), (5, .invokevirtual 104, 3, 31), (8, .i2l, 1, 0), (9, .lastore, 1, 0), (10, .goto 21, 3, 0), (13, .astore 4, 2, 0), (15, .sipush 1, 1, 0), (16, .ireturn, 1, 0), (17, .astore 4, 2, 0), (19, .sipush 2, 1, 0), (20, .ireturn, 1, 0), (21, .sipush 0, 1, 0), (22, .ireturn, 1, 0)]
/-- SinglesPastLaw.cost(LSinglesPast;II[J)I -/
def tO_367 : List (Nat × av_O) := [(0, .aload 3, 1, 0), (1, .sipush 0, 1, 0), (2, .aload 0, 1, 0), (3, .iload 1, 1, 0), (4, .iload 2, 1, 0), (5, .invokevirtual 107, 3, 34), (8, .i2l, 1, 0), (9, .lastore, 1, 0), (10, .goto 17, 3, 0), (13, .astore 4, 2, 0), (15, .sipush 1, 1, 0), (16, .ireturn, 1, 0), (17, .sipush 0, 1, 0), (18, .ireturn, 1, 0)]
/-- SinglesPastLaw.fear(LSinglesPast;II[J)I -/
def tO_368 : List (Nat × av_O) := [(0, .aload 3, 1, 0), (1, .sipush 0, 1, 0), (2, .aload 0, 1, 0), (3, .iload 1, 1, 0), (4, .iload 2, 1, 0), (5, .invokevirtual 108, 3, 37), (8, .i2l, 1, 0), (9, .lastore, 1, 0), (10, .goto 17, 3, 0), (13, .astore 4, 2, 0), (15, .sipush 1, 1, 0), (16, .ireturn, 1, 0), (17, .sipush 0, 1, 0), (18, .ireturn, 1, 0)]
/-- SinglesPastLaw.may(LSinglesPast;II[J)I -/
def tO_369 : List (Nat × av_O) := [(0, .aload 3, 1, 0), (1, .sipush 0, 1, 0), (2, .aload 0, 1, 0), (3, .iload 1, 1, 0), (4, .iload 2, 1, 0), (5, .invokevirtual 109, 3, 40), (8, .ifCond .eq 15, 3, 0), (11, .lconst 1, 1, 0), (12, .goto 16, 3, 0), (15, .lconst 0, 1, 0), (16, .lastore, 1, 0), (17, .goto 24, 3, 0), (20, .astore 4, 2, 0), (22, .sipush 1, 1, 0), (23, .ireturn, 1, 0), (24, .sipush 0, 1, 0), (25, .ireturn, 1, 0)]
/-- SinglesPastLaw.days(LSinglesPast;I[J)I -/
def tO_370 : List (Nat × av_O) := [(0, .aload 2, 1, 0), (1, .sipush 0, 1, 0), (2, .aload 0, 1, 0), (3, .iload 1, 1, 0), (4, .invokevirtual 110, 3, 44), (7, .i2l, 1, 0), (8, .lastore, 1, 0), (9, .goto 15, 3, 0), (12, .astore 3, 1, 0), (13, .sipush 1, 1, 0), (14, .ireturn, 1, 0), (15, .sipush 0, 1, 0), (16, .ireturn, 1, 0)]
/-- SinglesPastLaw.sell(LSinglesPast;II[J)I -/
def tO_371 : List (Nat × av_O) := [(0, .aload 3, 1, 0), (1, .sipush 0, 1, 0), (2, .aload 0, 1, 0), (3, .iload 1, 1, 0), (4, .iload 2, 1, 0), (5, .invokevirtual 111, 3, 48), (8, .i2l, 1, 0), (9, .lastore, 1, 0), (10, .goto 21, 3, 0), (13, .astore 4, 2, 0), (15, .sipush 1, 1, 0), (16, .ireturn, 1, 0), (17, .astore 4, 2, 0), (19, .sipush 2, 1, 0), (20, .ireturn, 1, 0), (21, .sipush 0, 1, 0), (22, .ireturn, 1, 0)]
/-- SinglesPastLaw.pay(LSinglesPast;II[J)I -/
def tO_372 : List (Nat × av_O) := [(0, .aload 3, 1, 0), (1, .sipush 0, 1, 0), (2, .aload 0, 1, 0), (3, .iload 1, 1, 0), (4, .iload 2, 1, 0), (5, .invokevirtual 112, 3, 53), (8, .i2l, 1, 0), (9, .lastore, 1, 0), (10, .goto 21, 3, 0), (13, .astore 4, 2, 0), (15, .sipush 1, 1, 0), (16, .ireturn, 1, 0), (17, .astore 4, 2, 0), (19, .sipush 2, 1, 0), (20, .ireturn, 1, 0), (21, .sipush 0, 1, 0), (22, .ireturn, 1, 0)]
/-- SinglesPastLaw.nerve(LSinglesPast;II[J)I -/
def tO_373 : List (Nat × av_O) := [(0, .aload 3, 1, 0), (1, .sipush 0, 1, 0), (2, .aload 0, 1, 0), (3, .iload 1, 1, 0), (4, .iload 2, 1, 0), (5, .invokevirtual 113, 3, 56), (8, .i2l, 1, 0), (9, .lastore, 1, 0), (10, .goto 21, 3, 0), (13, .astore 4, 2, 0), (15, .sipush 1, 1, 0), (16, .ireturn, 1, 0), (17, .astore 4, 2, 0), (19, .sipush 2, 1, 0), (20, .ireturn, 1, 0), (21, .sipush 0, 1, 0), (22, .ireturn, 1, 0)]
/-- SinglesPastLaw.wish(LSinglesPast;II[J)I -/
def tO_374 : List (Nat × av_O) := [(0, .aload 3, 1, 0), (1, .sipush 0, 1, 0), (2, .aload 0, 1, 0), (3, .iload 1, 1, 0), (4, .iload 2, 1, 0), (5, .invokevirtual 114, 3, 59), (8, .i2l, 1, 0), (9, .lastore, 1, 0), (10, .goto 21, 3, 0), (13, .astore 4, 2, 0), (15, .sipush 1, 1, 0), (16, .ireturn, 1, 0), (17, .astore 4, 2, 0), (19, .sipush 2, 1, 0), (20, .ireturn, 1, 0), (21, .sipush 0, 1, 0), (22, .ireturn, 1, 0)]
/-- SinglesPastLaw.deed(LSinglesPast;IIZ[J)I -/
def tO_375 : List (Nat × av_O) := [(0, .aload 4, 2, 0), (2, .sipush 0, 1, 0), (3, .aload 0, 1, 0), (4, .iload 1, 1, 0), (5, .iload 2, 1, 0), (6, .iload 3, 1, 0), (7, .invokevirtual 115, 3, 62), (10, .i2l, 1, 0), (11, .lastore, 1, 0), (12, .goto 23, 3, 0), (15, .astore 5, 2, 0), (17, .sipush 1, 1, 0), (18, .ireturn, 1, 0), (19, .astore 5, 2, 0), (21, .sipush 2, 1, 0), (22, .ireturn, 1, 0), (23, .sipush 0, 1, 0), (24, .ireturn, 1, 0)]
/-- SinglesPastLaw.quarrel(LSinglesPast;IIZ[J)I -/
def tO_376 : List (Nat × av_O) := [(0, .aload 4, 2, 0), (2, .sipush 0, 1, 0), (3, .aload 0, 1, 0), (4, .iload 1, 1, 0), (5, .iload 2, 1, 0), (6, .iload 3, 1, 0), (7, .invokevirtual 116, 3, 66), (10, .ifCond .eq 17, 3, 0), (13, .lconst 1, 1, 0), (14, .goto 18, 3, 0), (17, .lconst 0, 1, 0), (18, .lastore, 1, 0), (19, .goto 30, 3, 0), (22, .astore 5, 2, 0), (24, .sipush 1, 1, 0), (25, .ireturn, 1, 0), (26, .astore 5, 2, 0), (28, .sipush 2, 1, 0), (29, .ireturn, 1, 0), (30, .sipush 0, 1, 0), (31, .ireturn, 1, 0)]
/-- SinglesPastLaw.stops(LSinglesPast;II[J)I -/
def tO_377 : List (Nat × av_O) := [(0, .aload 3, 1, 0), (1, .sipush 0, 1, 0), (2, .aload 0, 1, 0), (3, .iload 1, 1, 0), (4, .iload 2, 1, 0), (5, .invokevirtual 117, 3, 70), (8, .i2l, 1, 0), (9, .lastore, 1, 0), (10, .goto 21, 3, 0), (13, .astore 4, 2, 0), (15, .sipush 1, 1, 0), (16, .ireturn, 1, 0), (17, .astore 4, 2, 0), (19, .sipush 2, 1, 0), (20, .ireturn, 1, 0), (21, .sipush 0, 1, 0), (22, .ireturn, 1, 0)]
/-- SinglesPastLaw.recall(LSinglesPast;I[J)I -/
def tO_378 : List (Nat × av_O) := [(0, .aload 2, 1, 0), (1, .sipush 0, 1, 0), (2, .aload 0, 1, 0), (3, .iload 1, 1, 0), (4, .invokevirtual 118, 3, 73), (7, .i2l, 1, 0), (8, .lastore, 1, 0), (9, .goto 18, 3, 0), (12, .astore 3, 1, 0), (13, .sipush 1, 1, 0), (14, .ireturn, 1, 0), (15, .astore 3, 1, 0), (16, .sipush 2, 1, 0), (17, .ireturn, 1, 0), (18, .sipush 0, 1, 0), (19, .ireturn, 1, 0)]
/-- SinglesPastLaw.otherwise(LSinglesPast;I[J)I -/
def tO_379 : List (Nat × av_O) := [(0, .aload 2, 1, 0), (1, .sipush 0, 1, 0), (2, .aload 0, 1, 0), (3, .iload 1, 1, 0), (4, .invokevirtual 126, 3, 76), (7, .i2l, 1, 0), (8, .lastore, 1, 0), (9, .goto 15, 3, 0), (12, .astore 3, 1, 0), (13, .sipush 1, 1, 0), (14, .ireturn, 1, 0), (15, .sipush 0, 1, 0), (16, .ireturn, 1, 0)]
/-- SinglesPastLaw.send(LSinglesPast;[J)I -/
def tO_380 : List (Nat × av_O) := [(0, .aload 1, 1, 0), (1, .sipush 0, 1, 0), (2, .aload 0, 1, 0), (3, .invokevirtual 132, 3, 79), (6, .i2l, 1, 0), (7, .lastore, 1, 0), (8, .goto 14, 3, 0), (11, .astore 2, 1, 0), (12, .sipush 1, 1, 0), (13, .ireturn, 1, 0), (14, .sipush 0, 1, 0), (15, .ireturn, 1, 0)]
/-- SinglesPastLaw.who(LSinglesPast;Z[J)I -/
def tO_381 : List (Nat × av_O) := [(0, .aload 2, 1, 0), (1, .sipush 0, 1, 0), (2, .aload 0, 1, 0), (3, .iload 1, 1, 0), (4, .invokevirtual 133, 3, 82), (7, .i2l, 1, 0), (8, .lastore, 1, 0), (9, .goto 15, 3, 0), (12, .astore 3, 1, 0), (13, .sipush 1, 1, 0), (14, .ireturn, 1, 0), (15, .sipush 0, 1, 0), (16, .ireturn, 1, 0)]
/-- SinglesPastLaw.look(LSinglesPast;[J)I -/
def tO_382 : List (Nat × av_O) := [(0, .aload 1, 1, 0), (1, .sipush 0, 1, 0), (2, .aload 0, 1, 0), (3, .invokevirtual 134, 3, 86), (6, .i2l, 1, 0), (7, .lastore, 1, 0), (8, .goto 14, 3, 0), (11, .astore 2, 1, 0), (12, .sipush 1, 1, 0), (13, .ireturn, 1, 0), (14, .sipush 0, 1, 0), (15, .ireturn, 1, 0)]
/-- SinglesPastLaw.hangs(LSinglesPast;I[J)I -/
def tO_383 : List (Nat × av_O) := [(0, .aload 2, 1, 0), (1, .sipush 0, 1, 0), (2, .aload 0, 1, 0), (3, .iload 1, 1, 0), (4, .invokevirtual 140, 3, 89), (7, .i2l, 1, 0), (8, .lastore, 1, 0), (9, .goto 15, 3, 0), (12, .astore 3, 1, 0), (13, .sipush 1, 1, 0), (14, .ireturn, 1, 0), (15, .sipush 0, 1, 0), (16, .ireturn, 1, 0)]
/-- SinglesPastLaw.kills(LSinglesPast;II[J)I -/
def tO_384 : List (Nat × av_O) := [(0, .aload 3, 1, 0), (1, .sipush 0, 1, 0), (2, .aload 0, 1, 0), (3, .iload 1, 1, 0), (4, .iload 2, 1, 0), (5, .invokevirtual 144, 3, 92), (8, .ifCond .eq 15, 3, 0), (11, .lconst 1, 1, 0), (12, .goto 16, 3, 0), (15, .lconst 0, 1, 0), (16, .lastore, 1, 0), (17, .goto 28, 3, 0), (20, .astore 4, 2, 0), (22, .sipush 1, 1, 0), (23, .ireturn, 1, 0), (24, .astore 4, 2, 0), (26, .sipush 2, 1, 0), (27, .ireturn, 1, 0), (28, .sipush 0, 1, 0), (29, .ireturn, 1, 0)]
/-- SinglesPastLaw.colours(LSinglesPast;I[J)I -/
def tO_385 : List (Nat × av_O) := [(0, .aload 2, 1, 0), (1, .sipush 0, 1, 0), (2, .aload 0, 1, 0), (3, .iload 1, 1, 0), (4, .invokevirtual 145, 3, 95), (7, .i2l, 1, 0), (8, .lastore, 1, 0), (9, .goto 15, 3, 0), (12, .astore 3, 1, 0), (13, .sipush 1, 1, 0), (14, .ireturn, 1, 0), (15, .sipush 0, 1, 0), (16, .ireturn, 1, 0)]
/-- SinglesPastLaw.price(LSinglesPast;IZ[J)I -/
def tO_386 : List (Nat × av_O) := [(0, .aload 3, 1, 0), (1, .sipush 0, 1, 0), (2, .aload 0, 1, 0), (3, .iload 1, 1, 0), (4, .iload 2, 1, 0), (5, .invokevirtual 147, 3, 98), (8, .i2l, 1, 0), (9, .lastore, 1, 0), (10, .goto 17, 3, 0), (13, .astore 4, 2, 0), (15, .sipush 1, 1, 0), (16, .ireturn, 1, 0), (17, .sipush 0, 1, 0), (18, .ireturn, 1, 0)]
/-- SinglesPastLaw.crowd(LSinglesPast;I[J)I -/
def tO_387 : List (Nat × av_O) := [(0, .aload 2, 1, 0), (1, .sipush 0, 1, 0), (2, .aload 0, 1, 0), (3, .iload 1, 1, 0), (4, .invokevirtual 151, 3, 102), (7, .i2l, 1, 0), (8, .lastore, 1, 0), (9, .goto 15, 3, 0), (12, .astore 3, 1, 0), (13, .sipush 1, 1, 0), (14, .ireturn, 1, 0), (15, .sipush 0, 1, 0), (16, .ireturn, 1, 0)]
/-- SinglesPastLaw.pick(LSinglesPast;IZ[J)I -/
def tO_388 : List (Nat × av_O) := [(0, .aload 3, 1, 0), (1, .sipush 0, 1, 0), (2, .aload 0, 1, 0), (3, .iload 1, 1, 0), (4, .iload 2, 1, 0), (5, .invokevirtual 155, 3, 105), (8, .i2l, 1, 0), (9, .lastore, 1, 0), (10, .goto 17, 3, 0), (13, .astore 4, 2, 0), (15, .sipush 1, 1, 0), (16, .ireturn, 1, 0), (17, .sipush 0, 1, 0), (18, .ireturn, 1, 0)]
/-- SinglesPastLaw.pairs(LSinglesPast;I[J)I -/
def tO_389 : List (Nat × av_O) := [(0, .aload 2, 1, 0), (1, .sipush 0, 1, 0), (2, .aload 0, 1, 0), (3, .iload 1, 1, 0), (4, .invokevirtual 157, 3, 108), (7, .i2l, 1, 0), (8, .lastore, 1, 0), (9, .goto 15, 3, 0), (12, .astore 3, 1, 0), (13, .sipush 1, 1, 0), (14, .ireturn, 1, 0), (15, .sipush 0, 1, 0), (16, .ireturn, 1, 0)]
/-- SinglesPastLaw.rests(LSinglesPast;I[J)I -/
def tO_390 : List (Nat × av_O) := [(0, .aload 2, 1, 0), (1, .sipush 0, 1, 0), (2, .aload 0, 1, 0), (3, .iload 1, 1, 0), (4, .invokevirtual 158, 3, 111), (7, .i2l, 1, 0), (8, .lastore, 1, 0), (9, .goto 15, 3, 0), (12, .astore 3, 1, 0), (13, .sipush 1, 1, 0), (14, .ireturn, 1, 0), (15, .sipush 0, 1, 0), (16, .ireturn, 1, 0)]
/-- SinglesPastLaw.odds(LSinglesPast;II[J)I -/
def tO_391 : List (Nat × av_O) := [(0, .aload 3, 1, 0), (1, .sipush 0, 1, 0), (2, .aload 0, 1, 0), (3, .iload 1, 1, 0), (4, .iload 2, 1, 0), (5, .invokevirtual 161, 3, 114), (8, .i2l, 1, 0), (9, .lastore, 1, 0), (10, .goto 21, 3, 0), (13, .astore 4, 2, 0), (15, .sipush 1, 1, 0), (16, .ireturn, 1, 0), (17, .astore 4, 2, 0), (19, .sipush 2, 1, 0), (20, .ireturn, 1, 0), (21, .sipush 0, 1, 0), (22, .ireturn, 1, 0)]
/-- SinglesPastLaw.ahead(LSinglesPast;II[J)I -/
def tO_392 : List (Nat × av_O) := [(0, .aload 3, 1, 0), (1, .sipush 0, 1, 0), (2, .aload 0, 1, 0), (3, .iload 1, 1, 0), (4, .iload 2, 1, 0), (5, .invokevirtual 169, 3, 117), (8, .i2l, 1, 0), (9, .lastore, 1, 0), (10, .goto 21, 3, 0), (13, .astore 4, 2, 0), (15, .sipush 1, 1, 0), (16, .ireturn, 1, 0), (17, .astore 4, 2, 0), (19, .sipush 2, 1, 0), (20, .ireturn, 1, 0), (21, .sipush 0, 1, 0), (22, .ireturn, 1, 0)]
/-- SinglesPastLaw.trial(LSinglesPast;IZ[J)I -/
def tO_393 : List (Nat × av_O) := [(0, .aload 3, 1, 0), (1, .sipush 0, 1, 0), (2, .aload 0, 1, 0), (3, .iload 1, 1, 0), (4, .iload 2, 1, 0), (5, .invokevirtual 170, 3, 120), (8, .i2l, 1, 0), (9, .lastore, 1, 0), (10, .goto 17, 3, 0), (13, .astore 4, 2, 0), (15, .sipush 1, 1, 0), (16, .ireturn, 1, 0), (17, .sipush 0, 1, 0), (18, .ireturn, 1, 0)]
/-- SinglesPastLaw.span(LSinglesPast;IZ[J)I -/
def tO_394 : List (Nat × av_O) := [(0, .aload 3, 1, 0), (1, .sipush 0, 1, 0), (2, .aload 0, 1, 0), (3, .iload 1, 1, 0), (4, .iload 2, 1, 0), (5, .invokevirtual 171, 3, 123), (8, .i2l, 1, 0), (9, .lastore, 1, 0), (10, .goto 17, 3, 0), (13, .astore 4, 2, 0), (15, .sipush 1, 1, 0), (16, .ireturn, 1, 0), (17, .sipush 0, 1, 0), (18, .ireturn, 1, 0)]
/-- SinglesPastLaw.led(LSinglesPast;IZ[J)I -/
def tO_395 : List (Nat × av_O) := [(0, .aload 3, 1, 0), (1, .sipush 0, 1, 0), (2, .aload 0, 1, 0), (3, .iload 1, 1, 0), (4, .iload 2, 1, 0), (5, .invokevirtual 172, 3, 126), (8, .i2l, 1, 0), (9, .lastore, 1, 0), (10, .goto 17, 3, 0), (13, .astore 4, 2, 0), (15, .sipush 1, 1, 0), (16, .ireturn, 1, 0), (17, .sipush 0, 1, 0), (18, .ireturn, 1, 0)]
/-- SinglesPastLaw.log(LSinglesPast;II[J)I -/
def tO_396 : List (Nat × av_O) := [(0, .aload 3, 1, 0), (1, .sipush 0, 1, 0), (2, .aload 0, 1, 0), (3, .iload 1, 1, 0), (4, .iload 2, 1, 0), (5, .invokevirtual 173, 3, 129), (8, .i2l, 1, 0), (9, .lastore, 1, 0), (10, .goto 17, 3, 0), (13, .astore 4, 2, 0), (15, .sipush 1, 1, 0), (16, .ireturn, 1, 0), (17, .sipush 0, 1, 0), (18, .ireturn, 1, 0)]
/-- SinglesPastLaw.law([I)Z -/
def tO_397_0 : List (Nat × av_O) := [(0, .new 10, 3, 8), (3, .dup, 1, 0), (4, .invokespecial 94, 3, 132), (7, .astore 1, 1, 0), (8, .new 11, 3, 133), (11, .dup, 1, 0), (12, .invokespecial 190, 3, 135), (15, .astore 2, 1, 0), (16, .sipush 1, 1, 0), (17, .newarray .long, 2, 0), (19, .astore 3, 1, 0), (20, .sipush 0, 1, 0), (21, .istore 4, 2, 0), (23, .iload 4, 2, 0), (25, .aload 0, 1, 0), (26, .arraylength, 1, 0), (27, .sipush 6, 2, 0), (29, .isub, 1, 0), (30, .if_icmp .gt 3168, 3, 0), (33, .aload 0, 1, 0), (34, .iload 4, 2, 0), (36, .iaload, 1, 0), (37, .sipush 63, 2, 0), (39, .iand, 1, 0), (40, .tableswitch 3162 0 61 #[304, 377, 402, 446, 490, 503, 571, 639, 707, 775, 843, 918, 974, 1042, 1110, 1178, 1246, 1342, 1445, 1513, 1569, 1594, 1619, 1632, 1645, 1658, 1671, 1727, 1740, 1784, 1856, 1900, 1956, 1969, 1982, 2057, 2113, 2126, 2210, 2223, 2279, 2332, 2416, 2472, 2528, 2596, 2609, 2622, 2635, 2648, 2661, 2674, 2687, 2755, 2839, 2923, 3007, 3075, 3100, 3113, 3124, 3137], 264, 0), (304, .aload 1, 1, 0), (305, .aload 0, 1, 0), (306, .iload 4, 2, 0), (308, .sipush 1, 1, 0), (309, .iadd, 1, 0), (310, .iaload, 1, 0), (311, .aload 0, 1, 0), (312, .iload 4, 2, 0), (314, .sipush 2, 1, 0), (315, .iadd, 1, 0), (316, .iaload, 1, 0), (317, .aload 0, 1, 0), (318, .iload 4, 2, 0), (320, .sipush 3, 1, 0), (321, .iadd, 1, 0), (322, .iaload, 1, 0), (323, .aload 0, 1, 0), (324, .iload 4, 2, 0), (326, .sipush 4, 1, 0), (327, .iadd, 1, 0), (328, .iaload, 1, 0), (329, .aload 0, 1, 0), (330, .iload 4, 2, 0), (332, .sipush 5, 1, 0), (333, .iadd, 1, 0), (334, .iaload, 1, 0), (335, .invokevirtual 95, 3, 136), (338, .aload 2, 1, 0), (339, .aload 0, 1, 0), (340, .iload 4, 2, 0), (342, .sipush 1, 1, 0), (343, .iadd, 1, 0), (344, .iaload, 1, 0), (345, .aload 0, 1, 0), (346, .iload 4, 2, 0), (348, .sipush 2, 1, 0), (349, .iadd, 1, 0), (350, .iaload, 1, 0), (351, .aload 0, 1, 0), (352, .iload 4, 2, 0), (354, .sipush 3, 1, 0), (355, .iadd, 1, 0), (356, .iaload, 1, 0), (357, .aload 0, 1, 0), (358, .iload 4, 2, 0), (360, .sipush 4, 1, 0), (361, .iadd, 1, 0), (362, .iaload, 1, 0), (363, .aload 0, 1, 0), (364, .iload 4, 2, 0), (366, .sipush 5, 1, 0), (367, .iadd, 1, 0), (368, .iaload, 1, 0), (369, .invokevirtual 215, 3, 140), (372, .if_icmp .eq 3162, 3, 0), (375, .sipush 0, 1, 0), (376, .ireturn, 1, 0), (377, .aload 1, 1, 0), (378, .aload 0, 1, 0), (379, .iload 4, 2, 0), (381, .sipush 1, 1, 0), (382, .iadd, 1, 0), (383, .iaload, 1, 0), (384, .invokevirtual 96, 3, 141), (387, .aload 2, 1, 0), (388, .aload 0, 1, 0), (389, .iload 4, 2, 0), (391, .sipush 1, 1, 0), (392, .iadd, 1, 0), (393, .iaload, 1, 0), (394, .invokevirtual 216, 3, 145), (397, .if_icmp .eq 3162, 3, 0), (400, .sipush 0, 1, 0), (401, .ireturn, 1, 0), (402, .aload 1, 1, 0), (403, .aload 3, 1, 0), (404, .invokestatic 362, 3, 146), (407, .istore 5, 2, 0), (409, .aload 2, 1, 0), (410, .invokevirtual 247, 3, 151), (413, .istore 6, 2, 0), (415, .aload 2, 1, 0), (416, .invokevirtual 186, 3, 152), (419, .iload 5, 2, 0), (421, .if_icmp .eq 426, 3, 0), (424, .sipush 0, 1, 0), (425, .ireturn, 1, 0), (426, .iload 5, 2, 0), (428, .ifCond .ne 443, 3, 0), (431, .aload 3, 1, 0), (432, .sipush 0, 1, 0), (433, .laload, 1, 0), (434, .iload 6, 2, 0), (436, .i2l, 1, 0), (437, .lcmp, 1, 0)]
def tO_397_1 : List (Nat × av_O) := [(438, .ifCond .eq 443, 3, 0), (441, .sipush 0, 1, 0), (442, .ireturn, 1, 0), (443, .goto 3162, 3, 0), (446, .aload 1, 1, 0), (447, .aload 3, 1, 0), (448, .invokestatic 363, 3, 155), (451, .istore 5, 2, 0), (453, .aload 2, 1, 0), (454, .invokevirtual 248, 3, 157), (457, .istore 6, 2, 0), (459, .aload 2, 1, 0), (460, .invokevirtual 186, 3, 152), (463, .iload 5, 2, 0), (465, .if_icmp .eq 470, 3, 0), (468, .sipush 0, 1, 0), (469, .ireturn, 1, 0), (470, .iload 5, 2, 0), (472, .ifCond .ne 487, 3, 0), (475, .aload 3, 1, 0), (476, .sipush 0, 1, 0), (477, .laload, 1, 0), (478, .iload 6, 2, 0), (480, .i2l, 1, 0), (481, .lcmp, 1, 0), (482, .ifCond .eq 487, 3, 0), (485, .sipush 0, 1, 0), (486, .ireturn, 1, 0), (487, .goto 3162, 3, 0), (490, .aload 1, 1, 0), (491, .invokevirtual 101, 3, 158), (494, .aload 2, 1, 0), (495, .invokevirtual 226, 3, 161), (498, .if_icmp .eq 3162, 3, 0), (501, .sipush 0, 1, 0), (502, .ireturn, 1, 0), (503, .aload 1, 1, 0), (504, .aload 0, 1, 0), (505, .iload 4, 2, 0), (507, .sipush 1, 1, 0), (508, .iadd, 1, 0), (509, .iaload, 1, 0), (510, .aload 0, 1, 0), (511, .iload 4, 2, 0), (513, .sipush 2, 1, 0), (514, .iadd, 1, 0), (515, .iaload, 1, 0), (516, .aload 3, 1, 0), (517, .invokestatic 364, 3, 162), (520, .istore 5, 2, 0), (522, .aload 2, 1, 0), (523, .aload 0, 1, 0), (524, .iload 4, 2, 0), (526, .sipush 1, 1, 0), (527, .iadd, 1, 0), (528, .iaload, 1, 0), (529, .aload 0, 1, 0), (530, .iload 4, 2, 0), (532, .sipush 2, 1, 0), (533, .iadd, 1, 0), (534, .iaload, 1, 0), (535, .invokevirtual 285, 3, 165), (538, .istore 6, 2, 0), (540, .aload 2, 1, 0), (541, .invokevirtual 186, 3, 152), (544, .iload 5, 2, 0), (546, .if_icmp .eq 551, 3, 0), (549, .sipush 0, 1, 0), (550, .ireturn, 1, 0), (551, .iload 5, 2, 0), (553, .ifCond .ne 568, 3, 0), (556, .aload 3, 1, 0), (557, .sipush 0, 1, 0), (558, .laload, 1, 0), (559, .iload 6, 2, 0), (561, .i2l, 1, 0), (562, .lcmp, 1, 0), (563, .ifCond .eq 568, 3, 0), (566, .sipush 0, 1, 0), (567, .ireturn, 1, 0), (568, .goto 3162, 3, 0), (571, .aload 1, 1, 0), (572, .aload 0, 1, 0), (573, .iload 4, 2, 0), (575, .sipush 1, 1, 0), (576, .iadd, 1, 0), (577, .iaload, 1, 0), (578, .aload 0, 1, 0), (579, .iload 4, 2, 0), (581, .sipush 2, 1, 0), (582, .iadd, 1, 0), (583, .iaload, 1, 0), (584, .aload 3, 1, 0), (585, .invokestatic 365, 3, 166), (588, .istore 5, 2, 0), (590, .aload 2, 1, 0), (591, .aload 0, 1, 0), (592, .iload 4, 2, 0), (594, .sipush 1, 1, 0), (595, .iadd, 1, 0), (596, .iaload, 1, 0), (597, .aload 0, 1, 0), (598, .iload 4, 2, 0), (600, .sipush 2, 1, 0), (601, .iadd, 1, 0), (602, .iaload, 1, 0), (603, .invokevirtual 286, 3, 168), (606, .istore 6, 2, 0), (608, .aload 2, 1, 0), (609, .invokevirtual 186, 3, 152), (612, .iload 5, 2, 0), (614, .if_icmp .eq 619, 3, 0), (617, .sipush 0, 1, 0), (618, .ireturn, 1, 0), (619, .iload 5, 2, 0), (621, .ifCond .ne 636, 3, 0), (624, .aload 3, 1, 0), (625, .sipush 0, 1, 0), (626, .laload, 1, 0), (627, .iload 6, 2, 0)]
def tO_397_2 : List (Nat × av_O) := [(629, .i2l, 1, 0), (630, .lcmp, 1, 0), (631, .ifCond .eq 636, 3, 0), (634, .sipush 0, 1, 0), (635, .ireturn, 1, 0), (636, .goto 3162, 3, 0), (639, .aload 1, 1, 0), (640, .aload 0, 1, 0), (641, .iload 4, 2, 0), (643, .sipush 1, 1, 0), (644, .iadd, 1, 0), (645, .iaload, 1, 0), (646, .aload 0, 1, 0), (647, .iload 4, 2, 0), (649, .sipush 2, 1, 0), (650, .iadd, 1, 0), (651, .iaload, 1, 0), (652, .aload 3, 1, 0), (653, .invokestatic 366, 3, 169), (656, .istore 5, 2, 0), (658, .aload 2, 1, 0), (659, .aload 0, 1, 0), (660, .iload 4, 2, 0), (662, .sipush 1, 1, 0), (663, .iadd, 1, 0), (664, .iaload, 1, 0), (665, .aload 0, 1, 0), (666, .iload 4, 2, 0), (668, .sipush 2, 1, 0), (669, .iadd, 1, 0), (670, .iaload, 1, 0), (671, .invokevirtual 287, 3, 171), (674, .istore 6, 2, 0), (676, .aload 2, 1, 0), (677, .invokevirtual 186, 3, 152), (680, .iload 5, 2, 0), (682, .if_icmp .eq 687, 3, 0), (685, .sipush 0, 1, 0), (686, .ireturn, 1, 0), (687, .iload 5, 2, 0), (689, .ifCond .ne 704, 3, 0), (692, .aload 3, 1, 0), (693, .sipush 0, 1, 0), (694, .laload, 1, 0), (695, .iload 6, 2, 0), (697, .i2l, 1, 0), (698, .lcmp, 1, 0), (699, .ifCond .eq 704, 3, 0), (702, .sipush 0, 1, 0), (703, .ireturn, 1, 0), (704, .goto 3162, 3, 0), (707, .aload 1, 1, 0), (708, .aload 0, 1, 0), (709, .iload 4, 2, 0), (711, .sipush 1, 1, 0), (712, .iadd, 1, 0), (713, .iaload, 1, 0), (714, .aload 0, 1, 0), (715, .iload 4, 2, 0), (717, .sipush 2, 1, 0), (718, .iadd, 1, 0), (719, .iaload, 1, 0), (720, .aload 3, 1, 0), (721, .invokestatic 367, 3, 172), (724, .istore 5, 2, 0), (726, .aload 2, 1, 0), (727, .aload 0, 1, 0), (728, .iload 4, 2, 0), (730, .sipush 1, 1, 0), (731, .iadd, 1, 0), (732, .iaload, 1, 0), (733, .aload 0, 1, 0), (734, .iload 4, 2, 0), (736, .sipush 2, 1, 0), (737, .iadd, 1, 0), (738, .iaload, 1, 0), (739, .invokevirtual 289, 3, 174), (742, .istore 6, 2, 0), (744, .aload 2, 1, 0), (745, .invokevirtual 186, 3, 152), (748, .iload 5, 2, 0), (750, .if_icmp .eq 755, 3, 0), (753, .sipush 0, 1, 0), (754, .ireturn, 1, 0), (755, .iload 5, 2, 0), (757, .ifCond .ne 772, 3, 0), (760, .aload 3, 1, 0), (761, .sipush 0, 1, 0), (762, .laload, 1, 0), (763, .iload 6, 2, 0), (765, .i2l, 1, 0), (766, .lcmp, 1, 0), (767, .ifCond .eq 772, 3, 0), (770, .sipush 0, 1, 0), (771, .ireturn, 1, 0), (772, .goto 3162, 3, 0), (775, .aload 1, 1, 0), (776, .aload 0, 1, 0), (777, .iload 4, 2, 0), (779, .sipush 1, 1, 0), (780, .iadd, 1, 0), (781, .iaload, 1, 0), (782, .aload 0, 1, 0), (783, .iload 4, 2, 0), (785, .sipush 2, 1, 0), (786, .iadd, 1, 0), (787, .iaload, 1, 0), (788, .aload 3, 1, 0), (789, .invokestatic 368, 3, 175), (792, .istore 5, 2, 0), (794, .aload 2, 1, 0), (795, .aload 0, 1, 0), (796, .iload 4, 2, 0), (798, .sipush 1, 1, 0), (799, .iadd, 1, 0), (800, .iaload, 1, 0), (801, .aload 0, 1, 0), (802, .iload 4, 2, 0), (804, .sipush 2, 1, 0), (805, .iadd, 1, 0)]
def tO_397_3 : List (Nat × av_O) := [(806, .iaload, 1, 0), (807, .invokevirtual 290, 3, 177), (810, .istore 6, 2, 0), (812, .aload 2, 1, 0), (813, .invokevirtual 186, 3, 152), (816, .iload 5, 2, 0), (818, .if_icmp .eq 823, 3, 0), (821, .sipush 0, 1, 0), (822, .ireturn, 1, 0), (823, .iload 5, 2, 0), (825, .ifCond .ne 840, 3, 0), (828, .aload 3, 1, 0), (829, .sipush 0, 1, 0), (830, .laload, 1, 0), (831, .iload 6, 2, 0), (833, .i2l, 1, 0), (834, .lcmp, 1, 0), (835, .ifCond .eq 840, 3, 0), (838, .sipush 0, 1, 0), (839, .ireturn, 1, 0), (840, .goto 3162, 3, 0), (843, .aload 1, 1, 0), (844, .aload 0, 1, 0), (845, .iload 4, 2, 0), (847, .sipush 1, 1, 0), (848, .iadd, 1, 0), (849, .iaload, 1, 0), (850, .aload 0, 1, 0), (851, .iload 4, 2, 0), (853, .sipush 2, 1, 0), (854, .iadd, 1, 0), (855, .iaload, 1, 0), (856, .aload 3, 1, 0), (857, .invokestatic 369, 3, 178), (860, .istore 5, 2, 0), (862, .aload 2, 1, 0), (863, .aload 0, 1, 0), (864, .iload 4, 2, 0), (866, .sipush 1, 1, 0), (867, .iadd, 1, 0), (868, .iaload, 1, 0), (869, .aload 0, 1, 0), (870, .iload 4, 2, 0), (872, .sipush 2, 1, 0), (873, .iadd, 1, 0), (874, .iaload, 1, 0), (875, .invokevirtual 291, 3, 180), (878, .istore 6, 2, 0), (880, .aload 2, 1, 0), (881, .invokevirtual 186, 3, 152), (884, .iload 5, 2, 0), (886, .if_icmp .eq 891, 3, 0), (889, .sipush 0, 1, 0), (890, .ireturn, 1, 0), (891, .iload 5, 2, 0), (893, .ifCond .ne 915, 3, 0), (896, .aload 3, 1, 0), (897, .sipush 0, 1, 0), (898, .laload, 1, 0), (899, .iload 6, 2, 0), (901, .ifCond .eq 908, 3, 0), (904, .lconst 1, 1, 0), (905, .goto 909, 3, 0), (908, .lconst 0, 1, 0), (909, .lcmp, 1, 0), (910, .ifCond .eq 915, 3, 0), (913, .sipush 0, 1, 0), (914, .ireturn, 1, 0), (915, .goto 3162, 3, 0), (918, .aload 1, 1, 0), (919, .aload 0, 1, 0), (920, .iload 4, 2, 0), (922, .sipush 1, 1, 0), (923, .iadd, 1, 0), (924, .iaload, 1, 0), (925, .aload 3, 1, 0), (926, .invokestatic 370, 3, 181), (929, .istore 5, 2, 0), (931, .aload 2, 1, 0), (932, .aload 0, 1, 0), (933, .iload 4, 2, 0), (935, .sipush 1, 1, 0), (936, .iadd, 1, 0), (937, .iaload, 1, 0), (938, .invokevirtual 292, 3, 184), (941, .istore 6, 2, 0), (943, .aload 2, 1, 0), (944, .invokevirtual 186, 3, 152), (947, .iload 5, 2, 0), (949, .if_icmp .eq 954, 3, 0), (952, .sipush 0, 1, 0), (953, .ireturn, 1, 0), (954, .iload 5, 2, 0), (956, .ifCond .ne 971, 3, 0), (959, .aload 3, 1, 0), (960, .sipush 0, 1, 0), (961, .laload, 1, 0), (962, .iload 6, 2, 0), (964, .i2l, 1, 0), (965, .lcmp, 1, 0), (966, .ifCond .eq 971, 3, 0), (969, .sipush 0, 1, 0), (970, .ireturn, 1, 0), (971, .goto 3162, 3, 0), (974, .aload 1, 1, 0), (975, .aload 0, 1, 0), (976, .iload 4, 2, 0), (978, .sipush 1, 1, 0), (979, .iadd, 1, 0), (980, .iaload, 1, 0), (981, .aload 0, 1, 0), (982, .iload 4, 2, 0), (984, .sipush 2, 1, 0), (985, .iadd, 1, 0), (986, .iaload, 1, 0), (987, .aload 3, 1, 0), (988, .invokestatic 371, 3, 185), (991, .istore 5, 2, 0), (993, .aload 2, 1, 0), (994, .aload 0, 1, 0)]
def tO_397_4 : List (Nat × av_O) := [(995, .iload 4, 2, 0), (997, .sipush 1, 1, 0), (998, .iadd, 1, 0), (999, .iaload, 1, 0), (1000, .aload 0, 1, 0), (1001, .iload 4, 2, 0), (1003, .sipush 2, 1, 0), (1004, .iadd, 1, 0), (1005, .iaload, 1, 0), (1006, .invokevirtual 293, 3, 187), (1009, .istore 6, 2, 0), (1011, .aload 2, 1, 0), (1012, .invokevirtual 186, 3, 152), (1015, .iload 5, 2, 0), (1017, .if_icmp .eq 1022, 3, 0), (1020, .sipush 0, 1, 0), (1021, .ireturn, 1, 0), (1022, .iload 5, 2, 0), (1024, .ifCond .ne 1039, 3, 0), (1027, .aload 3, 1, 0), (1028, .sipush 0, 1, 0), (1029, .laload, 1, 0), (1030, .iload 6, 2, 0), (1032, .i2l, 1, 0), (1033, .lcmp, 1, 0), (1034, .ifCond .eq 1039, 3, 0), (1037, .sipush 0, 1, 0), (1038, .ireturn, 1, 0), (1039, .goto 3162, 3, 0), (1042, .aload 1, 1, 0), (1043, .aload 0, 1, 0), (1044, .iload 4, 2, 0), (1046, .sipush 1, 1, 0), (1047, .iadd, 1, 0), (1048, .iaload, 1, 0), (1049, .aload 0, 1, 0), (1050, .iload 4, 2, 0), (1052, .sipush 2, 1, 0), (1053, .iadd, 1, 0), (1054, .iaload, 1, 0), (1055, .aload 3, 1, 0), (1056, .invokestatic 372, 3, 188), (1059, .istore 5, 2, 0), (1061, .aload 2, 1, 0), (1062, .aload 0, 1, 0), (1063, .iload 4, 2, 0), (1065, .sipush 1, 1, 0), (1066, .iadd, 1, 0), (1067, .iaload, 1, 0), (1068, .aload 0, 1, 0), (1069, .iload 4, 2, 0), (1071, .sipush 2, 1, 0), (1072, .iadd, 1, 0), (1073, .iaload, 1, 0), (1074, .invokevirtual 295, 3, 190), (1077, .istore 6, 2, 0), (1079, .aload 2, 1, 0), (1080, .invokevirtual 186, 3, 152), (1083, .iload 5, 2, 0), (1085, .if_icmp .eq 1090, 3, 0), (1088, .sipush 0, 1, 0), (1089, .ireturn, 1, 0), (1090, .iload 5, 2, 0), (1092, .ifCond .ne 1107, 3, 0), (1095, .aload 3, 1, 0), (1096, .sipush 0, 1, 0), (1097, .laload, 1, 0), (1098, .iload 6, 2, 0), (1100, .i2l, 1, 0), (1101, .lcmp, 1, 0), (1102, .ifCond .eq 1107, 3, 0), (1105, .sipush 0, 1, 0), (1106, .ireturn, 1, 0), (1107, .goto 3162, 3, 0), (1110, .aload 1, 1, 0), (1111, .aload 0, 1, 0), (1112, .iload 4, 2, 0), (1114, .sipush 1, 1, 0), (1115, .iadd, 1, 0), (1116, .iaload, 1, 0), (1117, .aload 0, 1, 0), (1118, .iload 4, 2, 0), (1120, .sipush 2, 1, 0), (1121, .iadd, 1, 0), (1122, .iaload, 1, 0), (1123, .aload 3, 1, 0), (1124, .invokestatic 373, 3, 191), (1127, .istore 5, 2, 0), (1129, .aload 2, 1, 0), (1130, .aload 0, 1, 0), (1131, .iload 4, 2, 0), (1133, .sipush 1, 1, 0), (1134, .iadd, 1, 0), (1135, .iaload, 1, 0), (1136, .aload 0, 1, 0), (1137, .iload 4, 2, 0), (1139, .sipush 2, 1, 0), (1140, .iadd, 1, 0), (1141, .iaload, 1, 0), (1142, .invokevirtual 296, 3, 193), (1145, .istore 6, 2, 0), (1147, .aload 2, 1, 0), (1148, .invokevirtual 186, 3, 152), (1151, .iload 5, 2, 0), (1153, .if_icmp .eq 1158, 3, 0), (1156, .sipush 0, 1, 0), (1157, .ireturn, 1, 0), (1158, .iload 5, 2, 0), (1160, .ifCond .ne 1175, 3, 0), (1163, .aload 3, 1, 0), (1164, .sipush 0, 1, 0), (1165, .laload, 1, 0), (1166, .iload 6, 2, 0), (1168, .i2l, 1, 0), (1169, .lcmp, 1, 0), (1170, .ifCond .eq 1175, 3, 0), (1173, .sipush 0, 1, 0), (1174, .ireturn, 1, 0), (1175, .goto 3162, 3, 0), (1178, .aload 1, 1, 0)]
def tO_397_5 : List (Nat × av_O) := [(1179, .aload 0, 1, 0), (1180, .iload 4, 2, 0), (1182, .sipush 1, 1, 0), (1183, .iadd, 1, 0), (1184, .iaload, 1, 0), (1185, .aload 0, 1, 0), (1186, .iload 4, 2, 0), (1188, .sipush 2, 1, 0), (1189, .iadd, 1, 0), (1190, .iaload, 1, 0), (1191, .aload 3, 1, 0), (1192, .invokestatic 374, 3, 194), (1195, .istore 5, 2, 0), (1197, .aload 2, 1, 0), (1198, .aload 0, 1, 0), (1199, .iload 4, 2, 0), (1201, .sipush 1, 1, 0), (1202, .iadd, 1, 0), (1203, .iaload, 1, 0), (1204, .aload 0, 1, 0), (1205, .iload 4, 2, 0), (1207, .sipush 2, 1, 0), (1208, .iadd, 1, 0), (1209, .iaload, 1, 0), (1210, .invokevirtual 297, 3, 196), (1213, .istore 6, 2, 0), (1215, .aload 2, 1, 0), (1216, .invokevirtual 186, 3, 152), (1219, .iload 5, 2, 0), (1221, .if_icmp .eq 1226, 3, 0), (1224, .sipush 0, 1, 0), (1225, .ireturn, 1, 0), (1226, .iload 5, 2, 0), (1228, .ifCond .ne 1243, 3, 0), (1231, .aload 3, 1, 0), (1232, .sipush 0, 1, 0), (1233, .laload, 1, 0), (1234, .iload 6, 2, 0), (1236, .i2l, 1, 0), (1237, .lcmp, 1, 0), (1238, .ifCond .eq 1243, 3, 0), (1241, .sipush 0, 1, 0), (1242, .ireturn, 1, 0), (1243, .goto 3162, 3, 0), (1246, .aload 1, 1, 0), (1247, .aload 0, 1, 0), (1248, .iload 4, 2, 0), (1250, .sipush 1, 1, 0), (1251, .iadd, 1, 0), (1252, .iaload, 1, 0), (1253, .aload 0, 1, 0), (1254, .iload 4, 2, 0), (1256, .sipush 2, 1, 0), (1257, .iadd, 1, 0), (1258, .iaload, 1, 0), (1259, .aload 0, 1, 0), (1260, .iload 4, 2, 0), (1262, .sipush 3, 1, 0), (1263, .iadd, 1, 0), (1264, .iaload, 1, 0), (1265, .ifCond .eq 1272, 3, 0), (1268, .sipush 1, 1, 0), (1269, .goto 1273, 3, 0), (1272, .sipush 0, 1, 0), (1273, .aload 3, 1, 0), (1274, .invokestatic 375, 3, 197), (1277, .istore 5, 2, 0), (1279, .aload 2, 1, 0), (1280, .aload 0, 1, 0), (1281, .iload 4, 2, 0), (1283, .sipush 1, 1, 0), (1284, .iadd, 1, 0), (1285, .iaload, 1, 0), (1286, .aload 0, 1, 0), (1287, .iload 4, 2, 0), (1289, .sipush 2, 1, 0), (1290, .iadd, 1, 0), (1291, .iaload, 1, 0), (1292, .aload 0, 1, 0), (1293, .iload 4, 2, 0), (1295, .sipush 3, 1, 0), (1296, .iadd, 1, 0), (1297, .iaload, 1, 0), (1298, .ifCond .eq 1305, 3, 0), (1301, .sipush 1, 1, 0), (1302, .goto 1306, 3, 0), (1305, .sipush 0, 1, 0), (1306, .invokevirtual 298, 3, 200), (1309, .istore 6, 2, 0), (1311, .aload 2, 1, 0), (1312, .invokevirtual 186, 3, 152), (1315, .iload 5, 2, 0), (1317, .if_icmp .eq 1322, 3, 0), (1320, .sipush 0, 1, 0), (1321, .ireturn, 1, 0), (1322, .iload 5, 2, 0), (1324, .ifCond .ne 1339, 3, 0), (1327, .aload 3, 1, 0), (1328, .sipush 0, 1, 0), (1329, .laload, 1, 0), (1330, .iload 6, 2, 0), (1332, .i2l, 1, 0), (1333, .lcmp, 1, 0), (1334, .ifCond .eq 1339, 3, 0), (1337, .sipush 0, 1, 0), (1338, .ireturn, 1, 0), (1339, .goto 3162, 3, 0), (1342, .aload 1, 1, 0), (1343, .aload 0, 1, 0), (1344, .iload 4, 2, 0), (1346, .sipush 1, 1, 0), (1347, .iadd, 1, 0), (1348, .iaload, 1, 0), (1349, .aload 0, 1, 0), (1350, .iload 4, 2, 0), (1352, .sipush 2, 1, 0), (1353, .iadd, 1, 0), (1354, .iaload, 1, 0), (1355, .aload 0, 1, 0), (1356, .iload 4, 2, 0)]
def tO_397_6 : List (Nat × av_O) := [(1358, .sipush 3, 1, 0), (1359, .iadd, 1, 0), (1360, .iaload, 1, 0), (1361, .ifCond .eq 1368, 3, 0), (1364, .sipush 1, 1, 0), (1365, .goto 1369, 3, 0), (1368, .sipush 0, 1, 0), (1369, .aload 3, 1, 0), (1370, .invokestatic 376, 3, 201), (1373, .istore 5, 2, 0), (1375, .aload 2, 1, 0), (1376, .aload 0, 1, 0), (1377, .iload 4, 2, 0), (1379, .sipush 1, 1, 0), (1380, .iadd, 1, 0), (1381, .iaload, 1, 0), (1382, .aload 0, 1, 0), (1383, .iload 4, 2, 0), (1385, .sipush 2, 1, 0), (1386, .iadd, 1, 0), (1387, .iaload, 1, 0), (1388, .aload 0, 1, 0), (1389, .iload 4, 2, 0), (1391, .sipush 3, 1, 0), (1392, .iadd, 1, 0), (1393, .iaload, 1, 0), (1394, .ifCond .eq 1401, 3, 0), (1397, .sipush 1, 1, 0), (1398, .goto 1402, 3, 0), (1401, .sipush 0, 1, 0), (1402, .invokevirtual 300, 3, 203), (1405, .istore 6, 2, 0), (1407, .aload 2, 1, 0), (1408, .invokevirtual 186, 3, 152), (1411, .iload 5, 2, 0), (1413, .if_icmp .eq 1418, 3, 0), (1416, .sipush 0, 1, 0), (1417, .ireturn, 1, 0), (1418, .iload 5, 2, 0), (1420, .ifCond .ne 1442, 3, 0), (1423, .aload 3, 1, 0), (1424, .sipush 0, 1, 0), (1425, .laload, 1, 0), (1426, .iload 6, 2, 0), (1428, .ifCond .eq 1435, 3, 0), (1431, .lconst 1, 1, 0), (1432, .goto 1436, 3, 0), (1435, .lconst 0, 1, 0), (1436, .lcmp, 1, 0), (1437, .ifCond .eq 1442, 3, 0), (1440, .sipush 0, 1, 0), (1441, .ireturn, 1, 0), (1442, .goto 3162, 3, 0), (1445, .aload 1, 1, 0), (1446, .aload 0, 1, 0), (1447, .iload 4, 2, 0), (1449, .sipush 1, 1, 0), (1450, .iadd, 1, 0), (1451, .iaload, 1, 0), (1452, .aload 0, 1, 0), (1453, .iload 4, 2, 0), (1455, .sipush 2, 1, 0), (1456, .iadd, 1, 0), (1457, .iaload, 1, 0), (1458, .aload 3, 1, 0), (1459, .invokestatic 377, 3, 204), (1462, .istore 5, 2, 0), (1464, .aload 2, 1, 0), (1465, .aload 0, 1, 0), (1466, .iload 4, 2, 0), (1468, .sipush 1, 1, 0), (1469, .iadd, 1, 0), (1470, .iaload, 1, 0), (1471, .aload 0, 1, 0), (1472, .iload 4, 2, 0), (1474, .sipush 2, 1, 0), (1475, .iadd, 1, 0), (1476, .iaload, 1, 0), (1477, .invokevirtual 301, 3, 206), (1480, .istore 6, 2, 0), (1482, .aload 2, 1, 0), (1483, .invokevirtual 186, 3, 152), (1486, .iload 5, 2, 0), (1488, .if_icmp .eq 1493, 3, 0), (1491, .sipush 0, 1, 0), (1492, .ireturn, 1, 0), (1493, .iload 5, 2, 0), (1495, .ifCond .ne 1510, 3, 0), (1498, .aload 3, 1, 0), (1499, .sipush 0, 1, 0), (1500, .laload, 1, 0), (1501, .iload 6, 2, 0), (1503, .i2l, 1, 0), (1504, .lcmp, 1, 0), (1505, .ifCond .eq 1510, 3, 0), (1508, .sipush 0, 1, 0), (1509, .ireturn, 1, 0), (1510, .goto 3162, 3, 0), (1513, .aload 1, 1, 0), (1514, .aload 0, 1, 0), (1515, .iload 4, 2, 0), (1517, .sipush 1, 1, 0), (1518, .iadd, 1, 0), (1519, .iaload, 1, 0), (1520, .aload 3, 1, 0), (1521, .invokestatic 378, 3, 207), (1524, .istore 5, 2, 0), (1526, .aload 2, 1, 0), (1527, .aload 0, 1, 0), (1528, .iload 4, 2, 0), (1530, .sipush 1, 1, 0), (1531, .iadd, 1, 0), (1532, .iaload, 1, 0), (1533, .invokevirtual 302, 3, 209), (1536, .istore 6, 2, 0), (1538, .aload 2, 1, 0), (1539, .invokevirtual 186, 3, 152), (1542, .iload 5, 2, 0), (1544, .if_icmp .eq 1549, 3, 0), (1547, .sipush 0, 1, 0)]
def tO_397_7 : List (Nat × av_O) := [(1548, .ireturn, 1, 0), (1549, .iload 5, 2, 0), (1551, .ifCond .ne 1566, 3, 0), (1554, .aload 3, 1, 0), (1555, .sipush 0, 1, 0), (1556, .laload, 1, 0), (1557, .iload 6, 2, 0), (1559, .i2l, 1, 0), (1560, .lcmp, 1, 0), (1561, .ifCond .eq 1566, 3, 0), (1564, .sipush 0, 1, 0), (1565, .ireturn, 1, 0), (1566, .goto 3162, 3, 0), (1569, .aload 1, 1, 0), (1570, .aload 0, 1, 0), (1571, .iload 4, 2, 0), (1573, .sipush 1, 1, 0), (1574, .iadd, 1, 0), (1575, .iaload, 1, 0), (1576, .invokevirtual 120, 3, 210), (1579, .aload 2, 1, 0), (1580, .aload 0, 1, 0), (1581, .iload 4, 2, 0), (1583, .sipush 1, 1, 0), (1584, .iadd, 1, 0), (1585, .iaload, 1, 0), (1586, .invokevirtual 271, 3, 213), (1589, .if_icmp .eq 3162, 3, 0), (1592, .sipush 0, 1, 0), (1593, .ireturn, 1, 0), (1594, .aload 1, 1, 0), (1595, .aload 0, 1, 0), (1596, .iload 4, 2, 0), (1598, .sipush 1, 1, 0), (1599, .iadd, 1, 0), (1600, .iaload, 1, 0), (1601, .invokevirtual 121, 3, 214), (1604, .aload 2, 1, 0), (1605, .aload 0, 1, 0), (1606, .iload 4, 2, 0), (1608, .sipush 1, 1, 0), (1609, .iadd, 1, 0), (1610, .iaload, 1, 0), (1611, .invokevirtual 272, 3, 217), (1614, .if_icmp .eq 3162, 3, 0), (1617, .sipush 0, 1, 0), (1618, .ireturn, 1, 0), (1619, .aload 1, 1, 0), (1620, .invokevirtual 122, 3, 218), (1623, .aload 2, 1, 0), (1624, .invokevirtual 273, 3, 221), (1627, .if_icmp .eq 3162, 3, 0), (1630, .sipush 0, 1, 0), (1631, .ireturn, 1, 0), (1632, .aload 1, 1, 0), (1633, .invokevirtual 123, 3, 222), (1636, .aload 2, 1, 0), (1637, .invokevirtual 274, 3, 225), (1640, .if_icmp .eq 3162, 3, 0), (1643, .sipush 0, 1, 0), (1644, .ireturn, 1, 0), (1645, .aload 1, 1, 0), (1646, .invokevirtual 124, 3, 226), (1649, .aload 2, 1, 0), (1650, .invokevirtual 275, 3, 229), (1653, .if_icmp .eq 3162, 3, 0), (1656, .sipush 0, 1, 0), (1657, .ireturn, 1, 0), (1658, .aload 1, 1, 0), (1659, .invokevirtual 125, 3, 230), (1662, .aload 2, 1, 0), (1663, .invokevirtual 276, 3, 233), (1666, .if_icmp .eq 3162, 3, 0), (1669, .sipush 0, 1, 0), (1670, .ireturn, 1, 0), (1671, .aload 1, 1, 0), (1672, .aload 0, 1, 0), (1673, .iload 4, 2, 0), (1675, .sipush 1, 1, 0), (1676, .iadd, 1, 0), (1677, .iaload, 1, 0), (1678, .aload 3, 1, 0), (1679, .invokestatic 379, 3, 234), (1682, .istore 5, 2, 0), (1684, .aload 2, 1, 0), (1685, .aload 0, 1, 0), (1686, .iload 4, 2, 0), (1688, .sipush 1, 1, 0), (1689, .iadd, 1, 0), (1690, .iaload, 1, 0), (1691, .invokevirtual 278, 3, 236), (1694, .istore 6, 2, 0), (1696, .aload 2, 1, 0), (1697, .invokevirtual 186, 3, 152), (1700, .iload 5, 2, 0), (1702, .if_icmp .eq 1707, 3, 0), (1705, .sipush 0, 1, 0), (1706, .ireturn, 1, 0), (1707, .iload 5, 2, 0), (1709, .ifCond .ne 1724, 3, 0), (1712, .aload 3, 1, 0), (1713, .sipush 0, 1, 0), (1714, .laload, 1, 0), (1715, .iload 6, 2, 0), (1717, .i2l, 1, 0), (1718, .lcmp, 1, 0), (1719, .ifCond .eq 1724, 3, 0), (1722, .sipush 0, 1, 0), (1723, .ireturn, 1, 0), (1724, .goto 3162, 3, 0), (1727, .aload 1, 1, 0), (1728, .invokevirtual 127, 3, 237), (1731, .aload 2, 1, 0), (1732, .invokevirtual 281, 3, 240), (1735, .if_icmp .eq 3162, 3, 0), (1738, .sipush 0, 1, 0), (1739, .ireturn, 1, 0), (1740, .aload 1, 1, 0), (1741, .aload 3, 1, 0), (1742, .invokestatic 380, 3, 241)]
def tO_397_8 : List (Nat × av_O) := [(1745, .istore 5, 2, 0), (1747, .aload 2, 1, 0), (1748, .invokevirtual 305, 3, 243), (1751, .istore 6, 2, 0), (1753, .aload 2, 1, 0), (1754, .invokevirtual 186, 3, 152), (1757, .iload 5, 2, 0), (1759, .if_icmp .eq 1764, 3, 0), (1762, .sipush 0, 1, 0), (1763, .ireturn, 1, 0), (1764, .iload 5, 2, 0), (1766, .ifCond .ne 1781, 3, 0), (1769, .aload 3, 1, 0), (1770, .sipush 0, 1, 0), (1771, .laload, 1, 0), (1772, .iload 6, 2, 0), (1774, .i2l, 1, 0), (1775, .lcmp, 1, 0), (1776, .ifCond .eq 1781, 3, 0), (1779, .sipush 0, 1, 0), (1780, .ireturn, 1, 0), (1781, .goto 3162, 3, 0), (1784, .aload 1, 1, 0), (1785, .aload 0, 1, 0), (1786, .iload 4, 2, 0), (1788, .sipush 1, 1, 0), (1789, .iadd, 1, 0), (1790, .iaload, 1, 0), (1791, .ifCond .eq 1798, 3, 0), (1794, .sipush 1, 1, 0), (1795, .goto 1799, 3, 0), (1798, .sipush 0, 1, 0), (1799, .aload 3, 1, 0), (1800, .invokestatic 381, 3, 244), (1803, .istore 5, 2, 0), (1805, .aload 2, 1, 0), (1806, .aload 0, 1, 0), (1807, .iload 4, 2, 0), (1809, .sipush 1, 1, 0), (1810, .iadd, 1, 0), (1811, .iaload, 1, 0), (1812, .ifCond .eq 1819, 3, 0), (1815, .sipush 1, 1, 0), (1816, .goto 1820, 3, 0), (1819, .sipush 0, 1, 0), (1820, .invokevirtual 307, 3, 247), (1823, .istore 6, 2, 0), (1825, .aload 2, 1, 0), (1826, .invokevirtual 186, 3, 152), (1829, .iload 5, 2, 0), (1831, .if_icmp .eq 1836, 3, 0), (1834, .sipush 0, 1, 0), (1835, .ireturn, 1, 0), (1836, .iload 5, 2, 0), (1838, .ifCond .ne 1853, 3, 0), (1841, .aload 3, 1, 0), (1842, .sipush 0, 1, 0), (1843, .laload, 1, 0), (1844, .iload 6, 2, 0), (1846, .i2l, 1, 0), (1847, .lcmp, 1, 0), (1848, .ifCond .eq 1853, 3, 0), (1851, .sipush 0, 1, 0), (1852, .ireturn, 1, 0), (1853, .goto 3162, 3, 0), (1856, .aload 1, 1, 0), (1857, .aload 3, 1, 0), (1858, .invokestatic 382, 3, 248), (1861, .istore 5, 2, 0), (1863, .aload 2, 1, 0), (1864, .invokevirtual 308, 3, 250), (1867, .istore 6, 2, 0), (1869, .aload 2, 1, 0), (1870, .invokevirtual 186, 3, 152), (1873, .iload 5, 2, 0), (1875, .if_icmp .eq 1880, 3, 0), (1878, .sipush 0, 1, 0), (1879, .ireturn, 1, 0), (1880, .iload 5, 2, 0), (1882, .ifCond .ne 1897, 3, 0), (1885, .aload 3, 1, 0), (1886, .sipush 0, 1, 0), (1887, .laload, 1, 0), (1888, .iload 6, 2, 0), (1890, .i2l, 1, 0), (1891, .lcmp, 1, 0), (1892, .ifCond .eq 1897, 3, 0), (1895, .sipush 0, 1, 0), (1896, .ireturn, 1, 0), (1897, .goto 3162, 3, 0), (1900, .aload 1, 1, 0), (1901, .aload 0, 1, 0), (1902, .iload 4, 2, 0), (1904, .sipush 1, 1, 0), (1905, .iadd, 1, 0), (1906, .iaload, 1, 0), (1907, .aload 3, 1, 0), (1908, .invokestatic 383, 3, 251), (1911, .istore 5, 2, 0), (1913, .aload 2, 1, 0), (1914, .aload 0, 1, 0), (1915, .iload 4, 2, 0), (1917, .sipush 1, 1, 0), (1918, .iadd, 1, 0), (1919, .iaload, 1, 0), (1920, .invokevirtual 310, 3, 253), (1923, .istore 6, 2, 0), (1925, .aload 2, 1, 0), (1926, .invokevirtual 186, 3, 152), (1929, .iload 5, 2, 0), (1931, .if_icmp .eq 1936, 3, 0), (1934, .sipush 0, 1, 0), (1935, .ireturn, 1, 0), (1936, .iload 5, 2, 0), (1938, .ifCond .ne 1953, 3, 0), (1941, .aload 3, 1, 0), (1942, .sipush 0, 1, 0), (1943, .laload, 1, 0), (1944, .iload 6, 2, 0), (1946, .i2l, 1, 0)]
def tO_397_9 : List (Nat × av_O) := [(1947, .lcmp, 1, 0), (1948, .ifCond .eq 1953, 3, 0), (1951, .sipush 0, 1, 0), (1952, .ireturn, 1, 0), (1953, .goto 3162, 3, 0), (1956, .aload 1, 1, 0), (1957, .invokevirtual 141, 3, 254), (1960, .aload 2, 1, 0), (1961, .invokevirtual 311, 3, 257), (1964, .if_icmp .eq 3162, 3, 0), (1967, .sipush 0, 1, 0), (1968, .ireturn, 1, 0), (1969, .aload 1, 1, 0), (1970, .invokevirtual 143, 3, 258), (1973, .aload 2, 1, 0), (1974, .invokevirtual 312, 3, 261), (1977, .if_icmp .eq 3162, 3, 0), (1980, .sipush 0, 1, 0), (1981, .ireturn, 1, 0), (1982, .aload 1, 1, 0), (1983, .aload 0, 1, 0), (1984, .iload 4, 2, 0), (1986, .sipush 1, 1, 0), (1987, .iadd, 1, 0), (1988, .iaload, 1, 0), (1989, .aload 0, 1, 0), (1990, .iload 4, 2, 0), (1992, .sipush 2, 1, 0), (1993, .iadd, 1, 0), (1994, .iaload, 1, 0), (1995, .aload 3, 1, 0), (1996, .invokestatic 384, 3, 262), (1999, .istore 5, 2, 0), (2001, .aload 2, 1, 0), (2002, .aload 0, 1, 0), (2003, .iload 4, 2, 0), (2005, .sipush 1, 1, 0), (2006, .iadd, 1, 0), (2007, .iaload, 1, 0), (2008, .aload 0, 1, 0), (2009, .iload 4, 2, 0), (2011, .sipush 2, 1, 0), (2012, .iadd, 1, 0), (2013, .iaload, 1, 0), (2014, .invokevirtual 313, 3, 264), (2017, .istore 6, 2, 0), (2019, .aload 2, 1, 0), (2020, .invokevirtual 186, 3, 152), (2023, .iload 5, 2, 0), (2025, .if_icmp .eq 2030, 3, 0), (2028, .sipush 0, 1, 0), (2029, .ireturn, 1, 0), (2030, .iload 5, 2, 0), (2032, .ifCond .ne 2054, 3, 0), (2035, .aload 3, 1, 0), (2036, .sipush 0, 1, 0), (2037, .laload, 1, 0), (2038, .iload 6, 2, 0), (2040, .ifCond .eq 2047, 3, 0), (2043, .lconst 1, 1, 0), (2044, .goto 2048, 3, 0), (2047, .lconst 0, 1, 0), (2048, .lcmp, 1, 0), (2049, .ifCond .eq 2054, 3, 0), (2052, .sipush 0, 1, 0), (2053, .ireturn, 1, 0), (2054, .goto 3162, 3, 0), (2057, .aload 1, 1, 0), (2058, .aload 0, 1, 0), (2059, .iload 4, 2, 0), (2061, .sipush 1, 1, 0), (2062, .iadd, 1, 0), (2063, .iaload, 1, 0), (2064, .aload 3, 1, 0), (2065, .invokestatic 385, 3, 265), (2068, .istore 5, 2, 0), (2070, .aload 2, 1, 0), (2071, .aload 0, 1, 0), (2072, .iload 4, 2, 0), (2074, .sipush 1, 1, 0), (2075, .iadd, 1, 0), (2076, .iaload, 1, 0), (2077, .invokevirtual 317, 3, 267), (2080, .istore 6, 2, 0), (2082, .aload 2, 1, 0), (2083, .invokevirtual 186, 3, 152), (2086, .iload 5, 2, 0), (2088, .if_icmp .eq 2093, 3, 0), (2091, .sipush 0, 1, 0), (2092, .ireturn, 1, 0), (2093, .iload 5, 2, 0), (2095, .ifCond .ne 2110, 3, 0), (2098, .aload 3, 1, 0), (2099, .sipush 0, 1, 0), (2100, .laload, 1, 0), (2101, .iload 6, 2, 0), (2103, .i2l, 1, 0), (2104, .lcmp, 1, 0), (2105, .ifCond .eq 2110, 3, 0), (2108, .sipush 0, 1, 0), (2109, .ireturn, 1, 0), (2110, .goto 3162, 3, 0), (2113, .aload 1, 1, 0), (2114, .invokevirtual 146, 3, 268), (2117, .aload 2, 1, 0), (2118, .invokevirtual 320, 3, 271), (2121, .if_icmp .eq 3162, 3, 0), (2124, .sipush 0, 1, 0), (2125, .ireturn, 1, 0), (2126, .aload 1, 1, 0), (2127, .aload 0, 1, 0), (2128, .iload 4, 2, 0), (2130, .sipush 1, 1, 0), (2131, .iadd, 1, 0), (2132, .iaload, 1, 0), (2133, .aload 0, 1, 0), (2134, .iload 4, 2, 0), (2136, .sipush 2, 1, 0), (2137, .iadd, 1, 0), (2138, .iaload, 1, 0)]
def tO_397_10 : List (Nat × av_O) := [(2139, .ifCond .eq 2146, 3, 0), (2142, .sipush 1, 1, 0), (2143, .goto 2147, 3, 0), (2146, .sipush 0, 1, 0), (2147, .aload 3, 1, 0), (2148, .invokestatic 386, 3, 272), (2151, .istore 5, 2, 0), (2153, .aload 2, 1, 0), (2154, .aload 0, 1, 0), (2155, .iload 4, 2, 0), (2157, .sipush 1, 1, 0), (2158, .iadd, 1, 0), (2159, .iaload, 1, 0), (2160, .aload 0, 1, 0), (2161, .iload 4, 2, 0), (2163, .sipush 2, 1, 0), (2164, .iadd, 1, 0), (2165, .iaload, 1, 0), (2166, .ifCond .eq 2173, 3, 0), (2169, .sipush 1, 1, 0), (2170, .goto 2174, 3, 0), (2173, .sipush 0, 1, 0), (2174, .invokevirtual 324, 3, 275), (2177, .istore 6, 2, 0), (2179, .aload 2, 1, 0), (2180, .invokevirtual 186, 3, 152), (2183, .iload 5, 2, 0), (2185, .if_icmp .eq 2190, 3, 0), (2188, .sipush 0, 1, 0), (2189, .ireturn, 1, 0), (2190, .iload 5, 2, 0), (2192, .ifCond .ne 2207, 3, 0), (2195, .aload 3, 1, 0), (2196, .sipush 0, 1, 0), (2197, .laload, 1, 0), (2198, .iload 6, 2, 0), (2200, .i2l, 1, 0), (2201, .lcmp, 1, 0), (2202, .ifCond .eq 2207, 3, 0), (2205, .sipush 0, 1, 0), (2206, .ireturn, 1, 0), (2207, .goto 3162, 3, 0), (2210, .aload 1, 1, 0), (2211, .invokevirtual 148, 3, 276), (2214, .aload 2, 1, 0), (2215, .invokevirtual 325, 3, 279), (2218, .if_icmp .eq 3162, 3, 0), (2221, .sipush 0, 1, 0), (2222, .ireturn, 1, 0), (2223, .aload 1, 1, 0), (2224, .aload 0, 1, 0), (2225, .iload 4, 2, 0), (2227, .sipush 1, 1, 0), (2228, .iadd, 1, 0), (2229, .iaload, 1, 0), (2230, .aload 3, 1, 0), (2231, .invokestatic 387, 3, 280), (2234, .istore 5, 2, 0), (2236, .aload 2, 1, 0), (2237, .aload 0, 1, 0), (2238, .iload 4, 2, 0), (2240, .sipush 1, 1, 0), (2241, .iadd, 1, 0), (2242, .iaload, 1, 0), (2243, .invokevirtual 326, 3, 282), (2246, .istore 6, 2, 0), (2248, .aload 2, 1, 0), (2249, .invokevirtual 186, 3, 152), (2252, .iload 5, 2, 0), (2254, .if_icmp .eq 2259, 3, 0), (2257, .sipush 0, 1, 0), (2258, .ireturn, 1, 0), (2259, .iload 5, 2, 0), (2261, .ifCond .ne 2276, 3, 0), (2264, .aload 3, 1, 0), (2265, .sipush 0, 1, 0), (2266, .laload, 1, 0), (2267, .iload 6, 2, 0), (2269, .i2l, 1, 0), (2270, .lcmp, 1, 0), (2271, .ifCond .eq 2276, 3, 0), (2274, .sipush 0, 1, 0), (2275, .ireturn, 1, 0), (2276, .goto 3162, 3, 0), (2279, .aload 1, 1, 0), (2280, .aload 0, 1, 0), (2281, .iload 4, 2, 0), (2283, .sipush 1, 1, 0), (2284, .iadd, 1, 0), (2285, .iaload, 1, 0), (2286, .aload 0, 1, 0), (2287, .iload 4, 2, 0), (2289, .sipush 2, 1, 0), (2290, .iadd, 1, 0), (2291, .iaload, 1, 0), (2292, .ifCond .eq 2299, 3, 0), (2295, .sipush 1, 1, 0), (2296, .goto 2300, 3, 0), (2299, .sipush 0, 1, 0), (2300, .invokevirtual 152, 3, 283), (2303, .aload 2, 1, 0), (2304, .aload 0, 1, 0), (2305, .iload 4, 2, 0), (2307, .sipush 1, 1, 0), (2308, .iadd, 1, 0), (2309, .iaload, 1, 0), (2310, .aload 0, 1, 0), (2311, .iload 4, 2, 0), (2313, .sipush 2, 1, 0), (2314, .iadd, 1, 0), (2315, .iaload, 1, 0), (2316, .ifCond .eq 2323, 3, 0), (2319, .sipush 1, 1, 0), (2320, .goto 2324, 3, 0), (2323, .sipush 0, 1, 0), (2324, .invokevirtual 328, 3, 286), (2327, .if_icmp .eq 3162, 3, 0), (2330, .sipush 0, 1, 0), (2331, .ireturn, 1, 0), (2332, .aload 1, 1, 0)]
def tO_397_11 : List (Nat × av_O) := [(2333, .aload 0, 1, 0), (2334, .iload 4, 2, 0), (2336, .sipush 1, 1, 0), (2337, .iadd, 1, 0), (2338, .iaload, 1, 0), (2339, .aload 0, 1, 0), (2340, .iload 4, 2, 0), (2342, .sipush 2, 1, 0), (2343, .iadd, 1, 0), (2344, .iaload, 1, 0), (2345, .ifCond .eq 2352, 3, 0), (2348, .sipush 1, 1, 0), (2349, .goto 2353, 3, 0), (2352, .sipush 0, 1, 0), (2353, .aload 3, 1, 0), (2354, .invokestatic 388, 3, 287), (2357, .istore 5, 2, 0), (2359, .aload 2, 1, 0), (2360, .aload 0, 1, 0), (2361, .iload 4, 2, 0), (2363, .sipush 1, 1, 0), (2364, .iadd, 1, 0), (2365, .iaload, 1, 0), (2366, .aload 0, 1, 0), (2367, .iload 4, 2, 0), (2369, .sipush 2, 1, 0), (2370, .iadd, 1, 0), (2371, .iaload, 1, 0), (2372, .ifCond .eq 2379, 3, 0), (2375, .sipush 1, 1, 0), (2376, .goto 2380, 3, 0), (2379, .sipush 0, 1, 0), (2380, .invokevirtual 330, 3, 289), (2383, .istore 6, 2, 0), (2385, .aload 2, 1, 0), (2386, .invokevirtual 186, 3, 152), (2389, .iload 5, 2, 0), (2391, .if_icmp .eq 2396, 3, 0), (2394, .sipush 0, 1, 0), (2395, .ireturn, 1, 0), (2396, .iload 5, 2, 0), (2398, .ifCond .ne 2413, 3, 0), (2401, .aload 3, 1, 0), (2402, .sipush 0, 1, 0), (2403, .laload, 1, 0), (2404, .iload 6, 2, 0), (2406, .i2l, 1, 0), (2407, .lcmp, 1, 0), (2408, .ifCond .eq 2413, 3, 0), (2411, .sipush 0, 1, 0), (2412, .ireturn, 1, 0), (2413, .goto 3162, 3, 0), (2416, .aload 1, 1, 0), (2417, .aload 0, 1, 0), (2418, .iload 4, 2, 0), (2420, .sipush 1, 1, 0), (2421, .iadd, 1, 0), (2422, .iaload, 1, 0), (2423, .aload 3, 1, 0), (2424, .invokestatic 389, 3, 290), (2427, .istore 5, 2, 0), (2429, .aload 2, 1, 0), (2430, .aload 0, 1, 0), (2431, .iload 4, 2, 0), (2433, .sipush 1, 1, 0), (2434, .iadd, 1, 0), (2435, .iaload, 1, 0), (2436, .invokevirtual 335, 3, 292), (2439, .istore 6, 2, 0), (2441, .aload 2, 1, 0), (2442, .invokevirtual 186, 3, 152), (2445, .iload 5, 2, 0), (2447, .if_icmp .eq 2452, 3, 0), (2450, .sipush 0, 1, 0), (2451, .ireturn, 1, 0), (2452, .iload 5, 2, 0), (2454, .ifCond .ne 2469, 3, 0), (2457, .aload 3, 1, 0), (2458, .sipush 0, 1, 0), (2459, .laload, 1, 0), (2460, .iload 6, 2, 0), (2462, .i2l, 1, 0), (2463, .lcmp, 1, 0), (2464, .ifCond .eq 2469, 3, 0), (2467, .sipush 0, 1, 0), (2468, .ireturn, 1, 0), (2469, .goto 3162, 3, 0), (2472, .aload 1, 1, 0), (2473, .aload 0, 1, 0), (2474, .iload 4, 2, 0), (2476, .sipush 1, 1, 0), (2477, .iadd, 1, 0), (2478, .iaload, 1, 0), (2479, .aload 3, 1, 0), (2480, .invokestatic 390, 3, 293), (2483, .istore 5, 2, 0), (2485, .aload 2, 1, 0), (2486, .aload 0, 1, 0), (2487, .iload 4, 2, 0), (2489, .sipush 1, 1, 0), (2490, .iadd, 1, 0), (2491, .iaload, 1, 0), (2492, .invokevirtual 338, 3, 295), (2495, .istore 6, 2, 0), (2497, .aload 2, 1, 0), (2498, .invokevirtual 186, 3, 152), (2501, .iload 5, 2, 0), (2503, .if_icmp .eq 2508, 3, 0), (2506, .sipush 0, 1, 0), (2507, .ireturn, 1, 0), (2508, .iload 5, 2, 0), (2510, .ifCond .ne 2525, 3, 0), (2513, .aload 3, 1, 0), (2514, .sipush 0, 1, 0), (2515, .laload, 1, 0), (2516, .iload 6, 2, 0), (2518, .i2l, 1, 0), (2519, .lcmp, 1, 0), (2520, .ifCond .eq 2525, 3, 0), (2523, .sipush 0, 1, 0)]
def tO_397_12 : List (Nat × av_O) := [(2524, .ireturn, 1, 0), (2525, .goto 3162, 3, 0), (2528, .aload 1, 1, 0), (2529, .aload 0, 1, 0), (2530, .iload 4, 2, 0), (2532, .sipush 1, 1, 0), (2533, .iadd, 1, 0), (2534, .iaload, 1, 0), (2535, .aload 0, 1, 0), (2536, .iload 4, 2, 0), (2538, .sipush 2, 1, 0), (2539, .iadd, 1, 0), (2540, .iaload, 1, 0), (2541, .aload 3, 1, 0), (2542, .invokestatic 391, 3, 296), (2545, .istore 5, 2, 0), (2547, .aload 2, 1, 0), (2548, .aload 0, 1, 0), (2549, .iload 4, 2, 0), (2551, .sipush 1, 1, 0), (2552, .iadd, 1, 0), (2553, .iaload, 1, 0), (2554, .aload 0, 1, 0), (2555, .iload 4, 2, 0), (2557, .sipush 2, 1, 0), (2558, .iadd, 1, 0), (2559, .iaload, 1, 0), (2560, .invokevirtual 339, 3, 298), (2563, .istore 6, 2, 0), (2565, .aload 2, 1, 0), (2566, .invokevirtual 186, 3, 152), (2569, .iload 5, 2, 0), (2571, .if_icmp .eq 2576, 3, 0), (2574, .sipush 0, 1, 0), (2575, .ireturn, 1, 0), (2576, .iload 5, 2, 0), (2578, .ifCond .ne 2593, 3, 0), (2581, .aload 3, 1, 0), (2582, .sipush 0, 1, 0), (2583, .laload, 1, 0), (2584, .iload 6, 2, 0), (2586, .i2l, 1, 0), (2587, .lcmp, 1, 0), (2588, .ifCond .eq 2593, 3, 0), (2591, .sipush 0, 1, 0), (2592, .ireturn, 1, 0), (2593, .goto 3162, 3, 0), (2596, .aload 1, 1, 0), (2597, .invokevirtual 162, 3, 299), (2600, .aload 2, 1, 0), (2601, .invokevirtual 340, 3, 302), (2604, .if_icmp .eq 3162, 3, 0), (2607, .sipush 0, 1, 0), (2608, .ireturn, 1, 0), (2609, .aload 1, 1, 0), (2610, .invokevirtual 163, 3, 303), (2613, .aload 2, 1, 0), (2614, .invokevirtual 341, 3, 306), (2617, .if_icmp .eq 3162, 3, 0), (2620, .sipush 0, 1, 0), (2621, .ireturn, 1, 0), (2622, .aload 1, 1, 0), (2623, .invokevirtual 164, 3, 307), (2626, .aload 2, 1, 0), (2627, .invokevirtual 342, 3, 310), (2630, .if_icmp .eq 3162, 3, 0), (2633, .sipush 0, 1, 0), (2634, .ireturn, 1, 0), (2635, .aload 1, 1, 0), (2636, .invokevirtual 165, 3, 311), (2639, .aload 2, 1, 0), (2640, .invokevirtual 343, 3, 314), (2643, .if_icmp .eq 3162, 3, 0), (2646, .sipush 0, 1, 0), (2647, .ireturn, 1, 0), (2648, .aload 1, 1, 0), (2649, .invokevirtual 166, 3, 315), (2652, .aload 2, 1, 0), (2653, .invokevirtual 344, 3, 318), (2656, .if_icmp .eq 3162, 3, 0), (2659, .sipush 0, 1, 0), (2660, .ireturn, 1, 0), (2661, .aload 1, 1, 0), (2662, .invokevirtual 167, 3, 319), (2665, .aload 2, 1, 0), (2666, .invokevirtual 345, 3, 322), (2669, .if_icmp .eq 3162, 3, 0), (2672, .sipush 0, 1, 0), (2673, .ireturn, 1, 0), (2674, .aload 1, 1, 0), (2675, .invokevirtual 168, 3, 323), (2678, .aload 2, 1, 0), (2679, .invokevirtual 346, 3, 326), (2682, .if_icmp .eq 3162, 3, 0), (2685, .sipush 0, 1, 0), (2686, .ireturn, 1, 0), (2687, .aload 1, 1, 0), (2688, .aload 0, 1, 0), (2689, .iload 4, 2, 0), (2691, .sipush 1, 1, 0), (2692, .iadd, 1, 0), (2693, .iaload, 1, 0), (2694, .aload 0, 1, 0), (2695, .iload 4, 2, 0), (2697, .sipush 2, 1, 0), (2698, .iadd, 1, 0), (2699, .iaload, 1, 0), (2700, .aload 3, 1, 0), (2701, .invokestatic 392, 3, 327), (2704, .istore 5, 2, 0), (2706, .aload 2, 1, 0), (2707, .aload 0, 1, 0), (2708, .iload 4, 2, 0), (2710, .sipush 1, 1, 0), (2711, .iadd, 1, 0), (2712, .iaload, 1, 0), (2713, .aload 0, 1, 0), (2714, .iload 4, 2, 0), (2716, .sipush 2, 1, 0), (2717, .iadd, 1, 0)]
def tO_397_13 : List (Nat × av_O) := [(2718, .iaload, 1, 0), (2719, .invokevirtual 348, 3, 329), (2722, .istore 6, 2, 0), (2724, .aload 2, 1, 0), (2725, .invokevirtual 186, 3, 152), (2728, .iload 5, 2, 0), (2730, .if_icmp .eq 2735, 3, 0), (2733, .sipush 0, 1, 0), (2734, .ireturn, 1, 0), (2735, .iload 5, 2, 0), (2737, .ifCond .ne 2752, 3, 0), (2740, .aload 3, 1, 0), (2741, .sipush 0, 1, 0), (2742, .laload, 1, 0), (2743, .iload 6, 2, 0), (2745, .i2l, 1, 0), (2746, .lcmp, 1, 0), (2747, .ifCond .eq 2752, 3, 0), (2750, .sipush 0, 1, 0), (2751, .ireturn, 1, 0), (2752, .goto 3162, 3, 0), (2755, .aload 1, 1, 0), (2756, .aload 0, 1, 0), (2757, .iload 4, 2, 0), (2759, .sipush 1, 1, 0), (2760, .iadd, 1, 0), (2761, .iaload, 1, 0), (2762, .aload 0, 1, 0), (2763, .iload 4, 2, 0), (2765, .sipush 2, 1, 0), (2766, .iadd, 1, 0), (2767, .iaload, 1, 0), (2768, .ifCond .eq 2775, 3, 0), (2771, .sipush 1, 1, 0), (2772, .goto 2776, 3, 0), (2775, .sipush 0, 1, 0), (2776, .aload 3, 1, 0), (2777, .invokestatic 393, 3, 330), (2780, .istore 5, 2, 0), (2782, .aload 2, 1, 0), (2783, .aload 0, 1, 0), (2784, .iload 4, 2, 0), (2786, .sipush 1, 1, 0), (2787, .iadd, 1, 0), (2788, .iaload, 1, 0), (2789, .aload 0, 1, 0), (2790, .iload 4, 2, 0), (2792, .sipush 2, 1, 0), (2793, .iadd, 1, 0), (2794, .iaload, 1, 0), (2795, .ifCond .eq 2802, 3, 0), (2798, .sipush 1, 1, 0), (2799, .goto 2803, 3, 0), (2802, .sipush 0, 1, 0), (2803, .invokevirtual 349, 3, 332), (2806, .istore 6, 2, 0), (2808, .aload 2, 1, 0), (2809, .invokevirtual 186, 3, 152), (2812, .iload 5, 2, 0), (2814, .if_icmp .eq 2819, 3, 0), (2817, .sipush 0, 1, 0), (2818, .ireturn, 1, 0), (2819, .iload 5, 2, 0), (2821, .ifCond .ne 2836, 3, 0), (2824, .aload 3, 1, 0), (2825, .sipush 0, 1, 0), (2826, .laload, 1, 0), (2827, .iload 6, 2, 0), (2829, .i2l, 1, 0), (2830, .lcmp, 1, 0), (2831, .ifCond .eq 2836, 3, 0), (2834, .sipush 0, 1, 0), (2835, .ireturn, 1, 0), (2836, .goto 3162, 3, 0), (2839, .aload 1, 1, 0), (2840, .aload 0, 1, 0), (2841, .iload 4, 2, 0), (2843, .sipush 1, 1, 0), (2844, .iadd, 1, 0), (2845, .iaload, 1, 0), (2846, .aload 0, 1, 0), (2847, .iload 4, 2, 0), (2849, .sipush 2, 1, 0), (2850, .iadd, 1, 0), (2851, .iaload, 1, 0), (2852, .ifCond .eq 2859, 3, 0), (2855, .sipush 1, 1, 0), (2856, .goto 2860, 3, 0), (2859, .sipush 0, 1, 0), (2860, .aload 3, 1, 0), (2861, .invokestatic 394, 3, 333), (2864, .istore 5, 2, 0), (2866, .aload 2, 1, 0), (2867, .aload 0, 1, 0), (2868, .iload 4, 2, 0), (2870, .sipush 1, 1, 0), (2871, .iadd, 1, 0), (2872, .iaload, 1, 0), (2873, .aload 0, 1, 0), (2874, .iload 4, 2, 0), (2876, .sipush 2, 1, 0), (2877, .iadd, 1, 0), (2878, .iaload, 1, 0), (2879, .ifCond .eq 2886, 3, 0), (2882, .sipush 1, 1, 0), (2883, .goto 2887, 3, 0), (2886, .sipush 0, 1, 0), (2887, .invokevirtual 350, 3, 335), (2890, .istore 6, 2, 0), (2892, .aload 2, 1, 0), (2893, .invokevirtual 186, 3, 152), (2896, .iload 5, 2, 0), (2898, .if_icmp .eq 2903, 3, 0), (2901, .sipush 0, 1, 0), (2902, .ireturn, 1, 0), (2903, .iload 5, 2, 0), (2905, .ifCond .ne 2920, 3, 0), (2908, .aload 3, 1, 0), (2909, .sipush 0, 1, 0), (2910, .laload, 1, 0)]
def tO_397_14 : List (Nat × av_O) := [(2911, .iload 6, 2, 0), (2913, .i2l, 1, 0), (2914, .lcmp, 1, 0), (2915, .ifCond .eq 2920, 3, 0), (2918, .sipush 0, 1, 0), (2919, .ireturn, 1, 0), (2920, .goto 3162, 3, 0), (2923, .aload 1, 1, 0), (2924, .aload 0, 1, 0), (2925, .iload 4, 2, 0), (2927, .sipush 1, 1, 0), (2928, .iadd, 1, 0), (2929, .iaload, 1, 0), (2930, .aload 0, 1, 0), (2931, .iload 4, 2, 0), (2933, .sipush 2, 1, 0), (2934, .iadd, 1, 0), (2935, .iaload, 1, 0), (2936, .ifCond .eq 2943, 3, 0), (2939, .sipush 1, 1, 0), (2940, .goto 2944, 3, 0), (2943, .sipush 0, 1, 0), (2944, .aload 3, 1, 0), (2945, .invokestatic 395, 3, 336), (2948, .istore 5, 2, 0), (2950, .aload 2, 1, 0), (2951, .aload 0, 1, 0), (2952, .iload 4, 2, 0), (2954, .sipush 1, 1, 0), (2955, .iadd, 1, 0), (2956, .iaload, 1, 0), (2957, .aload 0, 1, 0), (2958, .iload 4, 2, 0), (2960, .sipush 2, 1, 0), (2961, .iadd, 1, 0), (2962, .iaload, 1, 0), (2963, .ifCond .eq 2970, 3, 0), (2966, .sipush 1, 1, 0), (2967, .goto 2971, 3, 0), (2970, .sipush 0, 1, 0), (2971, .invokevirtual 352, 3, 338), (2974, .istore 6, 2, 0), (2976, .aload 2, 1, 0), (2977, .invokevirtual 186, 3, 152), (2980, .iload 5, 2, 0), (2982, .if_icmp .eq 2987, 3, 0), (2985, .sipush 0, 1, 0), (2986, .ireturn, 1, 0), (2987, .iload 5, 2, 0), (2989, .ifCond .ne 3004, 3, 0), (2992, .aload 3, 1, 0), (2993, .sipush 0, 1, 0), (2994, .laload, 1, 0), (2995, .iload 6, 2, 0), (2997, .i2l, 1, 0), (2998, .lcmp, 1, 0), (2999, .ifCond .eq 3004, 3, 0), (3002, .sipush 0, 1, 0), (3003, .ireturn, 1, 0), (3004, .goto 3162, 3, 0), (3007, .aload 1, 1, 0), (3008, .aload 0, 1, 0), (3009, .iload 4, 2, 0), (3011, .sipush 1, 1, 0), (3012, .iadd, 1, 0), (3013, .iaload, 1, 0), (3014, .aload 0, 1, 0), (3015, .iload 4, 2, 0), (3017, .sipush 2, 1, 0), (3018, .iadd, 1, 0), (3019, .iaload, 1, 0), (3020, .aload 3, 1, 0), (3021, .invokestatic 396, 3, 339), (3024, .istore 5, 2, 0), (3026, .aload 2, 1, 0), (3027, .aload 0, 1, 0), (3028, .iload 4, 2, 0), (3030, .sipush 1, 1, 0), (3031, .iadd, 1, 0), (3032, .iaload, 1, 0), (3033, .aload 0, 1, 0), (3034, .iload 4, 2, 0), (3036, .sipush 2, 1, 0), (3037, .iadd, 1, 0), (3038, .iaload, 1, 0), (3039, .invokevirtual 353, 3, 341), (3042, .istore 6, 2, 0), (3044, .aload 2, 1, 0), (3045, .invokevirtual 186, 3, 152), (3048, .iload 5, 2, 0), (3050, .if_icmp .eq 3055, 3, 0), (3053, .sipush 0, 1, 0), (3054, .ireturn, 1, 0), (3055, .iload 5, 2, 0), (3057, .ifCond .ne 3072, 3, 0), (3060, .aload 3, 1, 0), (3061, .sipush 0, 1, 0), (3062, .laload, 1, 0), (3063, .iload 6, 2, 0), (3065, .i2l, 1, 0), (3066, .lcmp, 1, 0), (3067, .ifCond .eq 3072, 3, 0), (3070, .sipush 0, 1, 0), (3071, .ireturn, 1, 0), (3072, .goto 3162, 3, 0), (3075, .aload 1, 1, 0), (3076, .aload 0, 1, 0), (3077, .iload 4, 2, 0), (3079, .sipush 1, 1, 0), (3080, .iadd, 1, 0), (3081, .iaload, 1, 0), (3082, .invokevirtual 174, 3, 342), (3085, .aload 2, 1, 0), (3086, .aload 0, 1, 0), (3087, .iload 4, 2, 0), (3089, .sipush 1, 1, 0), (3090, .iadd, 1, 0), (3091, .iaload, 1, 0), (3092, .invokevirtual 354, 3, 345), (3095, .if_icmp .eq 3162, 3, 0)]
def tO_397_15 : List (Nat × av_O) := [(3098, .sipush 0, 1, 0), (3099, .ireturn, 1, 0), (3100, .aload 1, 1, 0), (3101, .invokevirtual 175, 3, 346), (3104, .aload 2, 1, 0), (3105, .invokevirtual 194, 3, 350), (3108, .if_icmp .eq 3162, 3, 0), (3111, .sipush 0, 1, 0), (3112, .ireturn, 1, 0), (3113, .aload 1, 1, 0), (3114, .invokevirtual 176, 3, 351), (3117, .aload 2, 1, 0), (3118, .invokevirtual 191, 3, 354), (3121, .goto 3162, 3, 0), (3124, .aload 1, 1, 0), (3125, .invokevirtual 177, 3, 355), (3128, .aload 2, 1, 0), (3129, .invokevirtual 192, 3, 358), (3132, .if_icmp .eq 3162, 3, 0), (3135, .sipush 0, 1, 0), (3136, .ireturn, 1, 0), (3137, .aload 1, 1, 0), (3138, .aload 0, 1, 0), (3139, .iload 4, 2, 0), (3141, .sipush 1, 1, 0), (3142, .iadd, 1, 0), (3143, .iaload, 1, 0), (3144, .invokevirtual 178, 3, 359), (3147, .aload 2, 1, 0), (3148, .aload 0, 1, 0), (3149, .iload 4, 2, 0), (3151, .sipush 1, 1, 0), (3152, .iadd, 1, 0), (3153, .iaload, 1, 0), (3154, .invokevirtual 355, 3, 362), (3157, .if_icmp .eq 3162, 3, 0), (3160, .sipush 0, 1, 0), (3161, .ireturn, 1, 0), (3162, .iinc 4 6, 3, 0), (3165, .goto 23, 3, 0), (3168, .sipush 1, 1, 0), (3169, .ireturn, 1, 0)]
def tO_397 : List (Nat × av_O) := tO_397_0 ++ (tO_397_1 ++ (tO_397_2 ++ (tO_397_3 ++ (tO_397_4 ++ (tO_397_5 ++ (tO_397_6 ++ (tO_397_7 ++ (tO_397_8 ++ (tO_397_9 ++ (tO_397_10 ++ (tO_397_11 ++ (tO_397_12 ++ (tO_397_13 ++ (tO_397_14 ++ (tO_397_15)))))))))))))))
def tOp : List (List (Nat × av_O)) := [tO_0, tO_1, tO_2, tO_3, tO_4, tO_5, tO_6, tO_7, tO_8, tO_9, tO_10, tO_11, tO_12, tO_13, tO_14, tO_15, tO_16, tO_17, tO_18, tO_19, tO_20, tO_21, tO_22, tO_23, tO_24, tO_25, tO_26, tO_27, tO_28, tO_29, tO_30, tO_31, tO_32, tO_33, tO_34, tO_35, tO_36, tO_37, tO_38, tO_39, tO_40, tO_41, tO_42, tO_43, tO_44, tO_45, tO_46, tO_47, tO_48, tO_49, tO_50, tO_51, tO_52, tO_53, tO_54, tO_55, tO_56, tO_57, tO_58, tO_59, tO_60, tO_61, tO_62, tO_63, tO_64, tO_65, tO_66, tO_67, tO_68, tO_69, tO_70, tO_71, tO_72, tO_73, tO_74, tO_75, tO_76, tO_77, tO_78, tO_79, tO_80, tO_81, tO_82, tO_83, tO_84, tO_85, tO_86, tO_87, tO_88, tO_89, tO_90, tO_91, tO_92, tO_93, tO_94, tO_95, tO_96, tO_97, tO_98, tO_99, tO_100, tO_101, tO_102, tO_103, tO_104, tO_105, tO_106, tO_107, tO_108, tO_109, tO_110, tO_111, tO_112, tO_113, tO_114, tO_115, tO_116, tO_117, tO_118, tO_119, tO_120, tO_121, tO_122, tO_123, tO_124, tO_125, tO_126, tO_127, tO_128, tO_129, tO_130, tO_131, tO_132, tO_133, tO_134, tO_135, tO_136, tO_137, tO_138, tO_139, tO_140, tO_141, tO_142, tO_143, tO_144, tO_145, tO_146, tO_147, tO_148, tO_149, tO_150, tO_151, tO_152, tO_153, tO_154, tO_155, tO_156, tO_157, tO_158, tO_159, tO_160, tO_161, tO_162, tO_163, tO_164, tO_165, tO_166, tO_167, tO_168, tO_169, tO_170, tO_171, tO_172, tO_173, tO_174, tO_175, tO_176, tO_177, tO_178, tO_179, tO_180, tO_181, tO_182, tO_183, tO_184, tO_185, tO_186, tO_187, tO_188, tO_189, tO_190, tO_191, tO_192, tO_193, tO_194, tO_195, tO_196, tO_197, tO_198, tO_199, tO_200, tO_201, tO_202, tO_203, tO_204, tO_205, tO_206, tO_207, tO_208, tO_209, tO_210, tO_211, tO_212, tO_213, tO_214, tO_215, tO_216, tO_217, tO_218, tO_219, tO_220, tO_221, tO_222, tO_223, tO_224, tO_225, tO_226, tO_227, tO_228, tO_229, tO_230, tO_231, tO_232, tO_233, tO_234, tO_235, tO_236, tO_237, tO_238, tO_239, tO_240, tO_241, tO_242, tO_243, tO_244, tO_245, tO_246, tO_247, tO_248, tO_249, tO_250, tO_251, tO_252, tO_253, tO_254, tO_255, tO_256, tO_257, tO_258, tO_259, tO_260, tO_261, tO_262, tO_263, tO_264, tO_265, tO_266, tO_267, tO_268, tO_269, tO_270, tO_271, tO_272, tO_273, tO_274, tO_275, tO_276, tO_277, tO_278, tO_279, tO_280, tO_281, tO_282, tO_283, tO_284, tO_285, tO_286, tO_287, tO_288, tO_289, tO_290, tO_291, tO_292, tO_293, tO_294, tO_295, tO_296, tO_297, tO_298, tO_299, tO_300, tO_301, tO_302, tO_303, tO_304, tO_305, tO_306, tO_307, tO_308, tO_309, tO_310, tO_311, tO_312, tO_313, tO_314, tO_315, tO_316, tO_317, tO_318, tO_319, tO_320, tO_321, tO_322, tO_323, tO_324, tO_325, tO_326, tO_327, tO_328, tO_329, tO_330, tO_331, tO_332, tO_333, tO_334, tO_335, tO_336, tO_337, tO_338, tO_339, tO_340, tO_341, tO_342, tO_343, tO_344, tO_345, tO_346, tO_347, tO_348, tO_349, tO_350, tO_351, tO_352, tO_353, tO_354, tO_355, tO_356, tO_357, tO_358, tO_359, tO_360, tO_361, tO_362, tO_363, tO_364, tO_365, tO_366, tO_367, tO_368, tO_369, tO_370, tO_371, tO_372, tO_373, tO_374, tO_375, tO_376, tO_377, tO_378, tO_379, tO_380, tO_381, tO_382, tO_383, tO_384, tO_385, tO_386, tO_387, tO_388, tO_389, tO_390, tO_391, tO_392, tO_393, tO_394, tO_395, tO_396, tO_397]
/-- the program, for a script of nx ints xs -/
def tP (nx : Nat) (xs : Nat → Int32) : av_P := (fun mi pc => (tOp.getD mi []).lookup pc, fun mi => tMe.getD mi tM0, fun ci => tTy.getD ci [], fun k => tTh.getD k "", fun i => tTx.getD i [], nx, xs)
def tK : av_K := (fun i => tCn.getD i "", tFl, tMl, tNl, tKl, tSl, tKc, tJl)
def tTs : List Cond := (Jvm.Cond.code x code maxLocals ret :: lw_tbl).filter goodWord
def tXs : List Cond := lw_tbl.filter av_xw
end
section
theorem k_m5 : (decide (lw_tbl[1110]? = some (av_cw tM_5))) = true := by decide +kernel
theorem k_n5 : lw_tbl[1110]? = some (av_cw tM_5) := rfl
theorem k_m100 : (decide (lw_tbl[793]? = some (av_cw tM_100))) = true := by decide +kernel
theorem k_n100 : lw_tbl[793]? = some (av_cw tM_100) := rfl
theorem k_m250 : (decide (lw_tbl[2075]? = some (av_cw tM_250))) = true := by decide +kernel
theorem k_n250 : lw_tbl[2075]? = some (av_cw tM_250) := rfl
theorem k_m396 : (decide (lw_tbl[1619]? = some (av_cw tM_396))) = true := by decide +kernel
theorem k_n396 : lw_tbl[1619]? = some (av_cw tM_396) := rfl
end
