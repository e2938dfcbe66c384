section
-- ===== PART A: goes FIRST, ahead of the names: the tables' words, and 'selects' of the private methods out of them =====
/-- a private method of a class that the tables say can be made, by its rows of tables_1 -/
def lw_okq (q : MethodName × Nat) : Prop := (q.1.cls ≠ "java/lang/invoke/MethodHandle" ∧ q.1.cls ≠ "java/lang/invoke/VarHandle") ∧ Cond.instantiable q.1.cls q.2 ∈ tables_1 ∧ Cond.privateMethod q.1 ∈ tables_1 ∧ Cond.instanceMethod q.1 ∈ tables_1
theorem lw_p0 : lw_okq (⟨"SinglesPast", "freshWorlds", "()LSinglesPast$Worlds;"⟩, 15) := ⟨⟨by decide +kernel, by decide +kernel⟩, List.mem_of_getElem? (i := 31) (by decide +kernel), List.mem_of_getElem? (i := 406) (by decide +kernel), List.mem_of_getElem? (i := 407) (by decide +kernel)⟩
theorem lw_p1 : lw_okq (⟨"SinglesPast$Worlds", "orderByStops", "(LSinglesPast$Things;)V"⟩, 8) := ⟨⟨by decide +kernel, by decide +kernel⟩, List.mem_of_getElem? (i := 270) (by decide +kernel), List.mem_of_getElem? (i := 418) (by decide +kernel), List.mem_of_getElem? (i := 419) (by decide +kernel)⟩
theorem lw_p2 : lw_okq (⟨"SinglesPast$Worlds", "turnTies", "(LSinglesPast$Things;)V"⟩, 8) := ⟨⟨by decide +kernel, by decide +kernel⟩, List.mem_of_getElem? (i := 270) (by decide +kernel), List.mem_of_getElem? (i := 422) (by decide +kernel), List.mem_of_getElem? (i := 423) (by decide +kernel)⟩
theorem lw_p3 : lw_okq (⟨"SinglesPast$Worlds", "findDoers", "(LSinglesPast$State;)V"⟩, 8) := ⟨⟨by decide +kernel, by decide +kernel⟩, List.mem_of_getElem? (i := 270) (by decide +kernel), List.mem_of_getElem? (i := 426) (by decide +kernel), List.mem_of_getElem? (i := 427) (by decide +kernel)⟩
theorem lw_p4 : lw_okq (⟨"SinglesPast$Worlds", "build", "(II)I"⟩, 8) := ⟨⟨by decide +kernel, by decide +kernel⟩, List.mem_of_getElem? (i := 270) (by decide +kernel), List.mem_of_getElem? (i := 433) (by decide +kernel), List.mem_of_getElem? (i := 434) (by decide +kernel)⟩
theorem lw_p5 : lw_okq (⟨"SinglesPast$Worlds", "lastMakes", "(I)Z"⟩, 8) := ⟨⟨by decide +kernel, by decide +kernel⟩, List.mem_of_getElem? (i := 270) (by decide +kernel), List.mem_of_getElem? (i := 437) (by decide +kernel), List.mem_of_getElem? (i := 438) (by decide +kernel)⟩
theorem lw_p6 : lw_okq (⟨"SinglesPast", "soNow", "()I"⟩, 15) := ⟨⟨by decide +kernel, by decide +kernel⟩, List.mem_of_getElem? (i := 31) (by decide +kernel), List.mem_of_getElem? (i := 487) (by decide +kernel), List.mem_of_getElem? (i := 488) (by decide +kernel)⟩
theorem lw_p7 : lw_okq (⟨"SinglesPast", "changesBy", "(I)I"⟩, 15) := ⟨⟨by decide +kernel, by decide +kernel⟩, List.mem_of_getElem? (i := 31) (by decide +kernel), List.mem_of_getElem? (i := 505) (by decide +kernel), List.mem_of_getElem? (i := 506) (by decide +kernel)⟩
theorem lw_p8 : lw_okq (⟨"SinglesPast", "hangingOn", "(I)I"⟩, 15) := ⟨⟨by decide +kernel, by decide +kernel⟩, List.mem_of_getElem? (i := 31) (by decide +kernel), List.mem_of_getElem? (i := 517) (by decide +kernel), List.mem_of_getElem? (i := 518) (by decide +kernel)⟩
theorem lw_p9 : lw_okq (⟨"SinglesPast$Seating", "seatFrom", "(LSinglesPast$State;III)V"⟩, 4) := ⟨⟨by decide +kernel, by decide +kernel⟩, List.mem_of_getElem? (i := 303) (by decide +kernel), List.mem_of_getElem? (i := 544) (by decide +kernel), List.mem_of_getElem? (i := 545) (by decide +kernel)⟩
theorem lw_p10 : lw_okq (⟨"SinglesPast$Seating", "hasRoom", "(LSinglesPast$State;II)Z"⟩, 4) := ⟨⟨by decide +kernel, by decide +kernel⟩, List.mem_of_getElem? (i := 303) (by decide +kernel), List.mem_of_getElem? (i := 551) (by decide +kernel), List.mem_of_getElem? (i := 552) (by decide +kernel)⟩
theorem lw_p11 : lw_okq (⟨"SinglesPast", "bestPrice", "(I)I"⟩, 15) := ⟨⟨by decide +kernel, by decide +kernel⟩, List.mem_of_getElem? (i := 31) (by decide +kernel), List.mem_of_getElem? (i := 563) (by decide +kernel), List.mem_of_getElem? (i := 564) (by decide +kernel)⟩
theorem lw_p12 : lw_okq (⟨"SinglesPast", "earningsAt", "(II)I"⟩, 15) := ⟨⟨by decide +kernel, by decide +kernel⟩, List.mem_of_getElem? (i := 31) (by decide +kernel), List.mem_of_getElem? (i := 567) (by decide +kernel), List.mem_of_getElem? (i := 568) (by decide +kernel)⟩
theorem lw_p13 : lw_okq (⟨"SinglesPast", "forgetActs", "()V"⟩, 15) := ⟨⟨by decide +kernel, by decide +kernel⟩, List.mem_of_getElem? (i := 31) (by decide +kernel), List.mem_of_getElem? (i := 655) (by decide +kernel), List.mem_of_getElem? (i := 656) (by decide +kernel)⟩
theorem lw_p14 : lw_okq (⟨"SinglesPast$Tape", "moveTo", "(I)V"⟩, 6) := ⟨⟨by decide +kernel, by decide +kernel⟩, List.mem_of_getElem? (i := 39) (by decide +kernel), List.mem_of_getElem? (i := 687) (by decide +kernel), List.mem_of_getElem? (i := 688) (by decide +kernel)⟩
theorem lw_p15 : lw_okq (⟨"SinglesPast$Tape", "isNext", "(Ljava/lang/String;II)Z"⟩, 6) := ⟨⟨by decide +kernel, by decide +kernel⟩, List.mem_of_getElem? (i := 39) (by decide +kernel), List.mem_of_getElem? (i := 754) (by decide +kernel), List.mem_of_getElem? (i := 755) (by decide +kernel)⟩
def lw_privs_1 : List (MethodName × Nat) := [(⟨"SinglesPast", "freshWorlds", "()LSinglesPast$Worlds;"⟩, 15), (⟨"SinglesPast$Worlds", "orderByStops", "(LSinglesPast$Things;)V"⟩, 8), (⟨"SinglesPast$Worlds", "turnTies", "(LSinglesPast$Things;)V"⟩, 8), (⟨"SinglesPast$Worlds", "findDoers", "(LSinglesPast$State;)V"⟩, 8), (⟨"SinglesPast$Worlds", "build", "(II)I"⟩, 8), (⟨"SinglesPast$Worlds", "lastMakes", "(I)Z"⟩, 8), (⟨"SinglesPast", "soNow", "()I"⟩, 15), (⟨"SinglesPast", "changesBy", "(I)I"⟩, 15), (⟨"SinglesPast", "hangingOn", "(I)I"⟩, 15), (⟨"SinglesPast$Seating", "seatFrom", "(LSinglesPast$State;III)V"⟩, 4), (⟨"SinglesPast$Seating", "hasRoom", "(LSinglesPast$State;II)Z"⟩, 4), (⟨"SinglesPast", "bestPrice", "(I)I"⟩, 15), (⟨"SinglesPast", "earningsAt", "(II)I"⟩, 15), (⟨"SinglesPast", "forgetActs", "()V"⟩, 15), (⟨"SinglesPast$Tape", "moveTo", "(I)V"⟩, 6), (⟨"SinglesPast$Tape", "isNext", "(Ljava/lang/String;II)Z"⟩, 6)]
theorem lw_r1 : ∀ q ∈ lw_privs_1, lw_okq q := List.forall_mem_cons.mpr ⟨lw_p0, List.forall_mem_cons.mpr ⟨lw_p1, List.forall_mem_cons.mpr ⟨lw_p2, List.forall_mem_cons.mpr ⟨lw_p3, List.forall_mem_cons.mpr ⟨lw_p4, List.forall_mem_cons.mpr ⟨lw_p5, List.forall_mem_cons.mpr ⟨lw_p6, List.forall_mem_cons.mpr ⟨lw_p7, List.forall_mem_cons.mpr ⟨lw_p8, List.forall_mem_cons.mpr ⟨lw_p9, List.forall_mem_cons.mpr ⟨lw_p10, List.forall_mem_cons.mpr ⟨lw_p11, List.forall_mem_cons.mpr ⟨lw_p12, List.forall_mem_cons.mpr ⟨lw_p13, List.forall_mem_cons.mpr ⟨lw_p14, List.forall_mem_cons.mpr ⟨lw_p15, fun _ h => absurd h List.not_mem_nil⟩⟩⟩⟩⟩⟩⟩⟩⟩⟩⟩⟩⟩⟩⟩⟩
theorem lw_p16 : lw_okq (⟨"SinglesPast", "closeText", "(Z)V"⟩, 15) := ⟨⟨by decide +kernel, by decide +kernel⟩, List.mem_of_getElem? (i := 31) (by decide +kernel), List.mem_of_getElem? (i := 838) (by decide +kernel), List.mem_of_getElem? (i := 839) (by decide +kernel)⟩
theorem lw_p17 : lw_okq (⟨"java/lang/Throwable", "fillInStackTrace", "(I)Ljava/lang/Throwable;"⟩, 6) := ⟨⟨by decide +kernel, by decide +kernel⟩, List.mem_of_getElem? (i := 882) (by decide +kernel), List.mem_of_getElem? (i := 880) (by decide +kernel), List.mem_of_getElem? (i := 881) (by decide +kernel)⟩
theorem lw_p18 : lw_okq (⟨"SinglesPast$LawText", "readLine", "(LSinglesPast$Tape;I)Z"⟩, 6) := ⟨⟨by decide +kernel, by decide +kernel⟩, List.mem_of_getElem? (i := 245) (by decide +kernel), List.mem_of_getElem? (i := 940) (by decide +kernel), List.mem_of_getElem? (i := 941) (by decide +kernel)⟩
theorem lw_p19 : lw_okq (⟨"SinglesPast$LawText", "readCondition", "(LSinglesPast$Tape;I)Z"⟩, 6) := ⟨⟨by decide +kernel, by decide +kernel⟩, List.mem_of_getElem? (i := 245) (by decide +kernel), List.mem_of_getElem? (i := 949) (by decide +kernel), List.mem_of_getElem? (i := 950) (by decide +kernel)⟩
theorem lw_p20 : lw_okq (⟨"SinglesPast$LawText", "readAtom", "(LSinglesPast$Tape;I)Z"⟩, 6) := ⟨⟨by decide +kernel, by decide +kernel⟩, List.mem_of_getElem? (i := 245) (by decide +kernel), List.mem_of_getElem? (i := 953) (by decide +kernel), List.mem_of_getElem? (i := 954) (by decide +kernel)⟩
theorem lw_p21 : lw_okq (⟨"SinglesPast$LawText", "put", "(I)V"⟩, 6) := ⟨⟨by decide +kernel, by decide +kernel⟩, List.mem_of_getElem? (i := 245) (by decide +kernel), List.mem_of_getElem? (i := 959) (by decide +kernel), List.mem_of_getElem? (i := 960) (by decide +kernel)⟩
theorem lw_p22 : lw_okq (⟨"SinglesPast$LawText", "readSum", "(LSinglesPast$Tape;)Z"⟩, 6) := ⟨⟨by decide +kernel, by decide +kernel⟩, List.mem_of_getElem? (i := 245) (by decide +kernel), List.mem_of_getElem? (i := 965) (by decide +kernel), List.mem_of_getElem? (i := 966) (by decide +kernel)⟩
theorem lw_p23 : lw_okq (⟨"SinglesPast", "needThing", "(I)V"⟩, 15) := ⟨⟨by decide +kernel, by decide +kernel⟩, List.mem_of_getElem? (i := 31) (by decide +kernel), List.mem_of_getElem? (i := 1026) (by decide +kernel), List.mem_of_getElem? (i := 1027) (by decide +kernel)⟩
theorem lw_p24 : lw_okq (⟨"SinglesPast$Things", "longestAhead", "(I[I)I"⟩, 6) := ⟨⟨by decide +kernel, by decide +kernel⟩, List.mem_of_getElem? (i := 76) (by decide +kernel), List.mem_of_getElem? (i := 1050) (by decide +kernel), List.mem_of_getElem? (i := 1051) (by decide +kernel)⟩
theorem lw_p25 : lw_okq (⟨"SinglesPast", "latestStop", "(I)I"⟩, 15) := ⟨⟨by decide +kernel, by decide +kernel⟩, List.mem_of_getElem? (i := 31) (by decide +kernel), List.mem_of_getElem? (i := 1057) (by decide +kernel), List.mem_of_getElem? (i := 1058) (by decide +kernel)⟩
theorem lw_p26 : lw_okq (⟨"SinglesPast", "needGoer", "(I)V"⟩, 15) := ⟨⟨by decide +kernel, by decide +kernel⟩, List.mem_of_getElem? (i := 31) (by decide +kernel), List.mem_of_getElem? (i := 1084) (by decide +kernel), List.mem_of_getElem? (i := 1085) (by decide +kernel)⟩
theorem lw_p27 : lw_okq (⟨"SinglesPast$Law", "holds", "(II)Z"⟩, 7) := ⟨⟨by decide +kernel, by decide +kernel⟩, List.mem_of_getElem? (i := 976) (by decide +kernel), List.mem_of_getElem? (i := 1110) (by decide +kernel), List.mem_of_getElem? (i := 1111) (by decide +kernel)⟩
theorem lw_p28 : lw_okq (⟨"SinglesPast", "needTrain", "(I)V"⟩, 15) := ⟨⟨by decide +kernel, by decide +kernel⟩, List.mem_of_getElem? (i := 31) (by decide +kernel), List.mem_of_getElem? (i := 1122) (by decide +kernel), List.mem_of_getElem? (i := 1123) (by decide +kernel)⟩
theorem lw_p29 : lw_okq (⟨"SinglesPast", "shareOf", "(I)I"⟩, 15) := ⟨⟨by decide +kernel, by decide +kernel⟩, List.mem_of_getElem? (i := 31) (by decide +kernel), List.mem_of_getElem? (i := 1127) (by decide +kernel), List.mem_of_getElem? (i := 1128) (by decide +kernel)⟩
theorem lw_p30 : lw_okq (⟨"SinglesPast", "beginAct", "()V"⟩, 15) := ⟨⟨by decide +kernel, by decide +kernel⟩, List.mem_of_getElem? (i := 31) (by decide +kernel), List.mem_of_getElem? (i := 1170) (by decide +kernel), List.mem_of_getElem? (i := 1171) (by decide +kernel)⟩
theorem lw_p31 : lw_okq (⟨"SinglesPast$State", "drawnTrainOf", "(I)I"⟩, 18) := ⟨⟨by decide +kernel, by decide +kernel⟩, List.mem_of_getElem? (i := 70) (by decide +kernel), List.mem_of_getElem? (i := 1183) (by decide +kernel), List.mem_of_getElem? (i := 1184) (by decide +kernel)⟩
def lw_privs_2 : List (MethodName × Nat) := [(⟨"SinglesPast", "closeText", "(Z)V"⟩, 15), (⟨"java/lang/Throwable", "fillInStackTrace", "(I)Ljava/lang/Throwable;"⟩, 6), (⟨"SinglesPast$LawText", "readLine", "(LSinglesPast$Tape;I)Z"⟩, 6), (⟨"SinglesPast$LawText", "readCondition", "(LSinglesPast$Tape;I)Z"⟩, 6), (⟨"SinglesPast$LawText", "readAtom", "(LSinglesPast$Tape;I)Z"⟩, 6), (⟨"SinglesPast$LawText", "put", "(I)V"⟩, 6), (⟨"SinglesPast$LawText", "readSum", "(LSinglesPast$Tape;)Z"⟩, 6), (⟨"SinglesPast", "needThing", "(I)V"⟩, 15), (⟨"SinglesPast$Things", "longestAhead", "(I[I)I"⟩, 6), (⟨"SinglesPast", "latestStop", "(I)I"⟩, 15), (⟨"SinglesPast", "needGoer", "(I)V"⟩, 15), (⟨"SinglesPast$Law", "holds", "(II)Z"⟩, 7), (⟨"SinglesPast", "needTrain", "(I)V"⟩, 15), (⟨"SinglesPast", "shareOf", "(I)I"⟩, 15), (⟨"SinglesPast", "beginAct", "()V"⟩, 15), (⟨"SinglesPast$State", "drawnTrainOf", "(I)I"⟩, 18)]
theorem lw_r2 : ∀ q ∈ lw_privs_2, lw_okq q := List.forall_mem_cons.mpr ⟨lw_p16, List.forall_mem_cons.mpr ⟨lw_p17, List.forall_mem_cons.mpr ⟨lw_p18, List.forall_mem_cons.mpr ⟨lw_p19, List.forall_mem_cons.mpr ⟨lw_p20, List.forall_mem_cons.mpr ⟨lw_p21, List.forall_mem_cons.mpr ⟨lw_p22, List.forall_mem_cons.mpr ⟨lw_p23, List.forall_mem_cons.mpr ⟨lw_p24, List.forall_mem_cons.mpr ⟨lw_p25, List.forall_mem_cons.mpr ⟨lw_p26, List.forall_mem_cons.mpr ⟨lw_p27, List.forall_mem_cons.mpr ⟨lw_p28, List.forall_mem_cons.mpr ⟨lw_p29, List.forall_mem_cons.mpr ⟨lw_p30, List.forall_mem_cons.mpr ⟨lw_p31, fun _ h => absurd h List.not_mem_nil⟩⟩⟩⟩⟩⟩⟩⟩⟩⟩⟩⟩⟩⟩⟩⟩
theorem lw_p32 : lw_okq (⟨"SinglesPast$State", "draw", "()I"⟩, 18) := ⟨⟨by decide +kernel, by decide +kernel⟩, List.mem_of_getElem? (i := 70) (by decide +kernel), List.mem_of_getElem? (i := 1187) (by decide +kernel), List.mem_of_getElem? (i := 1188) (by decide +kernel)⟩
theorem lw_p33 : lw_okq (⟨"SinglesPast", "needNotGone", "(I)V"⟩, 15) := ⟨⟨by decide +kernel, by decide +kernel⟩, List.mem_of_getElem? (i := 31) (by decide +kernel), List.mem_of_getElem? (i := 1257) (by decide +kernel), List.mem_of_getElem? (i := 1258) (by decide +kernel)⟩
theorem lw_p34 : lw_okq (⟨"SinglesPast", "needTwoGoers", "(II)V"⟩, 15) := ⟨⟨by decide +kernel, by decide +kernel⟩, List.mem_of_getElem? (i := 31) (by decide +kernel), List.mem_of_getElem? (i := 1277) (by decide +kernel), List.mem_of_getElem? (i := 1278) (by decide +kernel)⟩
theorem lw_p35 : lw_okq (⟨"SinglesPast", "readTold", "()V"⟩, 15) := ⟨⟨by decide +kernel, by decide +kernel⟩, List.mem_of_getElem? (i := 31) (by decide +kernel), List.mem_of_getElem? (i := 1317) (by decide +kernel), List.mem_of_getElem? (i := 1318) (by decide +kernel)⟩
theorem lw_p36 : lw_okq (⟨"SinglesPast", "comesAbout", "(LSinglesPast$Worlds;I)Z"⟩, 15) := ⟨⟨by decide +kernel, by decide +kernel⟩, List.mem_of_getElem? (i := 31) (by decide +kernel), List.mem_of_getElem? (i := 1322) (by decide +kernel), List.mem_of_getElem? (i := 1323) (by decide +kernel)⟩
theorem lw_p37 : lw_okq (⟨"SinglesPast", "isTold", "(I)Z"⟩, 15) := ⟨⟨by decide +kernel, by decide +kernel⟩, List.mem_of_getElem? (i := 31) (by decide +kernel), List.mem_of_getElem? (i := 1326) (by decide +kernel), List.mem_of_getElem? (i := 1327) (by decide +kernel)⟩
theorem lw_p38 : lw_okq (⟨"SinglesPast", "fits", "(LSinglesPast$Worlds;I)Z"⟩, 15) := ⟨⟨by decide +kernel, by decide +kernel⟩, List.mem_of_getElem? (i := 31) (by decide +kernel), List.mem_of_getElem? (i := 1337) (by decide +kernel), List.mem_of_getElem? (i := 1338) (by decide +kernel)⟩
theorem lw_p39 : lw_okq (⟨"SinglesPast", "countFitting", "(LSinglesPast$Worlds;I)I"⟩, 15) := ⟨⟨by decide +kernel, by decide +kernel⟩, List.mem_of_getElem? (i := 31) (by decide +kernel), List.mem_of_getElem? (i := 1348) (by decide +kernel), List.mem_of_getElem? (i := 1349) (by decide +kernel)⟩
theorem lw_p40 : lw_okq (⟨"SinglesPast$Pairing", "pairFrom", "(LSinglesPast$State;III)V"⟩, 3) := ⟨⟨by decide +kernel, by decide +kernel⟩, List.mem_of_getElem? (i := 323) (by decide +kernel), List.mem_of_getElem? (i := 1415) (by decide +kernel), List.mem_of_getElem? (i := 1416) (by decide +kernel)⟩
theorem lw_p41 : lw_okq (⟨"SinglesPastModel", "readAll", "(Z)I"⟩, 24) := ⟨⟨by decide +kernel, by decide +kernel⟩, List.mem_of_getElem? (i := 1498) (by decide +kernel), List.mem_of_getElem? (i := 1605) (by decide +kernel), List.mem_of_getElem? (i := 1606) (by decide +kernel)⟩
theorem lw_p42 : lw_okq (⟨"SinglesPastModel", "uses", "()V"⟩, 24) := ⟨⟨by decide +kernel, by decide +kernel⟩, List.mem_of_getElem? (i := 1498) (by decide +kernel), List.mem_of_getElem? (i := 1609) (by decide +kernel), List.mem_of_getElem? (i := 1610) (by decide +kernel)⟩
theorem lw_p43 : lw_okq (⟨"SinglesPastModel", "blanks", "()V"⟩, 24) := ⟨⟨by decide +kernel, by decide +kernel⟩, List.mem_of_getElem? (i := 1498) (by decide +kernel), List.mem_of_getElem? (i := 1613) (by decide +kernel), List.mem_of_getElem? (i := 1614) (by decide +kernel)⟩
theorem lw_p44 : lw_okq (⟨"SinglesPastModel", "isAt", "(II)Z"⟩, 24) := ⟨⟨by decide +kernel, by decide +kernel⟩, List.mem_of_getElem? (i := 1498) (by decide +kernel), List.mem_of_getElem? (i := 1617) (by decide +kernel), List.mem_of_getElem? (i := 1618) (by decide +kernel)⟩
theorem lw_p45 : lw_okq (⟨"SinglesPastModel", "readLine", "(ZI)Z"⟩, 24) := ⟨⟨by decide +kernel, by decide +kernel⟩, List.mem_of_getElem? (i := 1498) (by decide +kernel), List.mem_of_getElem? (i := 1621) (by decide +kernel), List.mem_of_getElem? (i := 1622) (by decide +kernel)⟩
theorem lw_p46 : lw_okq (⟨"SinglesPastModel", "letters", "()V"⟩, 24) := ⟨⟨by decide +kernel, by decide +kernel⟩, List.mem_of_getElem? (i := 1498) (by decide +kernel), List.mem_of_getElem? (i := 1625) (by decide +kernel), List.mem_of_getElem? (i := 1626) (by decide +kernel)⟩
theorem lw_p47 : lw_okq (⟨"SinglesPastModel", "readStationLine", "()Z"⟩, 24) := ⟨⟨by decide +kernel, by decide +kernel⟩, List.mem_of_getElem? (i := 1498) (by decide +kernel), List.mem_of_getElem? (i := 1629) (by decide +kernel), List.mem_of_getElem? (i := 1630) (by decide +kernel)⟩
def lw_privs_3 : List (MethodName × Nat) := [(⟨"SinglesPast$State", "draw", "()I"⟩, 18), (⟨"SinglesPast", "needNotGone", "(I)V"⟩, 15), (⟨"SinglesPast", "needTwoGoers", "(II)V"⟩, 15), (⟨"SinglesPast", "readTold", "()V"⟩, 15), (⟨"SinglesPast", "comesAbout", "(LSinglesPast$Worlds;I)Z"⟩, 15), (⟨"SinglesPast", "isTold", "(I)Z"⟩, 15), (⟨"SinglesPast", "fits", "(LSinglesPast$Worlds;I)Z"⟩, 15), (⟨"SinglesPast", "countFitting", "(LSinglesPast$Worlds;I)I"⟩, 15), (⟨"SinglesPast$Pairing", "pairFrom", "(LSinglesPast$State;III)V"⟩, 3), (⟨"SinglesPastModel", "readAll", "(Z)I"⟩, 24), (⟨"SinglesPastModel", "uses", "()V"⟩, 24), (⟨"SinglesPastModel", "blanks", "()V"⟩, 24), (⟨"SinglesPastModel", "isAt", "(II)Z"⟩, 24), (⟨"SinglesPastModel", "readLine", "(ZI)Z"⟩, 24), (⟨"SinglesPastModel", "letters", "()V"⟩, 24), (⟨"SinglesPastModel", "readStationLine", "()Z"⟩, 24)]
theorem lw_r3 : ∀ q ∈ lw_privs_3, lw_okq q := List.forall_mem_cons.mpr ⟨lw_p32, List.forall_mem_cons.mpr ⟨lw_p33, List.forall_mem_cons.mpr ⟨lw_p34, List.forall_mem_cons.mpr ⟨lw_p35, List.forall_mem_cons.mpr ⟨lw_p36, List.forall_mem_cons.mpr ⟨lw_p37, List.forall_mem_cons.mpr ⟨lw_p38, List.forall_mem_cons.mpr ⟨lw_p39, List.forall_mem_cons.mpr ⟨lw_p40, List.forall_mem_cons.mpr ⟨lw_p41, List.forall_mem_cons.mpr ⟨lw_p42, List.forall_mem_cons.mpr ⟨lw_p43, List.forall_mem_cons.mpr ⟨lw_p44, List.forall_mem_cons.mpr ⟨lw_p45, List.forall_mem_cons.mpr ⟨lw_p46, List.forall_mem_cons.mpr ⟨lw_p47, fun _ h => absurd h List.not_mem_nil⟩⟩⟩⟩⟩⟩⟩⟩⟩⟩⟩⟩⟩⟩⟩⟩
theorem lw_p48 : lw_okq (⟨"SinglesPastModel", "isWord", "(Ljava/lang/String;)Z"⟩, 24) := ⟨⟨by decide +kernel, by decide +kernel⟩, List.mem_of_getElem? (i := 1498) (by decide +kernel), List.mem_of_getElem? (i := 1634) (by decide +kernel), List.mem_of_getElem? (i := 1635) (by decide +kernel)⟩
theorem lw_p49 : lw_okq (⟨"SinglesPastModel", "readThing", "()Z"⟩, 24) := ⟨⟨by decide +kernel, by decide +kernel⟩, List.mem_of_getElem? (i := 1498) (by decide +kernel), List.mem_of_getElem? (i := 1640) (by decide +kernel), List.mem_of_getElem? (i := 1641) (by decide +kernel)⟩
theorem lw_p50 : lw_okq (⟨"SinglesPastModel", "things", "()I"⟩, 24) := ⟨⟨by decide +kernel, by decide +kernel⟩, List.mem_of_getElem? (i := 1498) (by decide +kernel), List.mem_of_getElem? (i := 1644) (by decide +kernel), List.mem_of_getElem? (i := 1645) (by decide +kernel)⟩
theorem lw_p51 : lw_okq (⟨"SinglesPastModel", "behind", "(Ljava/lang/String;II)I"⟩, 24) := ⟨⟨by decide +kernel, by decide +kernel⟩, List.mem_of_getElem? (i := 1498) (by decide +kernel), List.mem_of_getElem? (i := 1649) (by decide +kernel), List.mem_of_getElem? (i := 1650) (by decide +kernel)⟩
theorem lw_p52 : lw_okq (⟨"SinglesPastModel", "number", "(II)I"⟩, 24) := ⟨⟨by decide +kernel, by decide +kernel⟩, List.mem_of_getElem? (i := 1498) (by decide +kernel), List.mem_of_getElem? (i := 1653) (by decide +kernel), List.mem_of_getElem? (i := 1654) (by decide +kernel)⟩
theorem lw_p53 : lw_okq (⟨"SinglesPastModel", "passes", "(Ljava/lang/String;)Z"⟩, 24) := ⟨⟨by decide +kernel, by decide +kernel⟩, List.mem_of_getElem? (i := 1498) (by decide +kernel), List.mem_of_getElem? (i := 1658) (by decide +kernel), List.mem_of_getElem? (i := 1659) (by decide +kernel)⟩
theorem lw_p54 : lw_okq (⟨"SinglesPastModel", "told", "(Ljava/lang/String;II)I"⟩, 24) := ⟨⟨by decide +kernel, by decide +kernel⟩, List.mem_of_getElem? (i := 1498) (by decide +kernel), List.mem_of_getElem? (i := 1663) (by decide +kernel), List.mem_of_getElem? (i := 1664) (by decide +kernel)⟩
theorem lw_p55 : lw_okq (⟨"SinglesPastModel", "readLink", "(II)Z"⟩, 24) := ⟨⟨by decide +kernel, by decide +kernel⟩, List.mem_of_getElem? (i := 1498) (by decide +kernel), List.mem_of_getElem? (i := 1672) (by decide +kernel), List.mem_of_getElem? (i := 1673) (by decide +kernel)⟩
theorem lw_p56 : lw_okq (⟨"SinglesPastModel", "ofThing", "(II)I"⟩, 24) := ⟨⟨by decide +kernel, by decide +kernel⟩, List.mem_of_getElem? (i := 1498) (by decide +kernel), List.mem_of_getElem? (i := 1676) (by decide +kernel), List.mem_of_getElem? (i := 1677) (by decide +kernel)⟩
theorem lw_p57 : lw_okq (⟨"SinglesPastModel", "readGoer", "()Z"⟩, 24) := ⟨⟨by decide +kernel, by decide +kernel⟩, List.mem_of_getElem? (i := 1498) (by decide +kernel), List.mem_of_getElem? (i := 1682) (by decide +kernel), List.mem_of_getElem? (i := 1683) (by decide +kernel)⟩
theorem lw_p58 : lw_okq (⟨"SinglesPastModel", "goers", "()I"⟩, 24) := ⟨⟨by decide +kernel, by decide +kernel⟩, List.mem_of_getElem? (i := 1498) (by decide +kernel), List.mem_of_getElem? (i := 1686) (by decide +kernel), List.mem_of_getElem? (i := 1687) (by decide +kernel)⟩
theorem lw_p59 : lw_okq (⟨"SinglesPastModel", "readShuns", "()Z"⟩, 24) := ⟨⟨by decide +kernel, by decide +kernel⟩, List.mem_of_getElem? (i := 1498) (by decide +kernel), List.mem_of_getElem? (i := 1701) (by decide +kernel), List.mem_of_getElem? (i := 1702) (by decide +kernel)⟩
theorem lw_p60 : lw_okq (⟨"SinglesPastModel", "readTrain", "()Z"⟩, 24) := ⟨⟨by decide +kernel, by decide +kernel⟩, List.mem_of_getElem? (i := 1498) (by decide +kernel), List.mem_of_getElem? (i := 1706) (by decide +kernel), List.mem_of_getElem? (i := 1707) (by decide +kernel)⟩
theorem lw_p61 : lw_okq (⟨"SinglesPastModel", "trains", "()I"⟩, 24) := ⟨⟨by decide +kernel, by decide +kernel⟩, List.mem_of_getElem? (i := 1498) (by decide +kernel), List.mem_of_getElem? (i := 1710) (by decide +kernel), List.mem_of_getElem? (i := 1711) (by decide +kernel)⟩
theorem lw_p62 : lw_okq (⟨"SinglesPastModel", "stopsTold", "()I"⟩, 24) := ⟨⟨by decide +kernel, by decide +kernel⟩, List.mem_of_getElem? (i := 1498) (by decide +kernel), List.mem_of_getElem? (i := 1716) (by decide +kernel), List.mem_of_getElem? (i := 1717) (by decide +kernel)⟩
theorem lw_p63 : lw_okq (⟨"SinglesPastModel", "readNumber", "(III)Z"⟩, 24) := ⟨⟨by decide +kernel, by decide +kernel⟩, List.mem_of_getElem? (i := 1498) (by decide +kernel), List.mem_of_getElem? (i := 1727) (by decide +kernel), List.mem_of_getElem? (i := 1728) (by decide +kernel)⟩
def lw_privs_4 : List (MethodName × Nat) := [(⟨"SinglesPastModel", "isWord", "(Ljava/lang/String;)Z"⟩, 24), (⟨"SinglesPastModel", "readThing", "()Z"⟩, 24), (⟨"SinglesPastModel", "things", "()I"⟩, 24), (⟨"SinglesPastModel", "behind", "(Ljava/lang/String;II)I"⟩, 24), (⟨"SinglesPastModel", "number", "(II)I"⟩, 24), (⟨"SinglesPastModel", "passes", "(Ljava/lang/String;)Z"⟩, 24), (⟨"SinglesPastModel", "told", "(Ljava/lang/String;II)I"⟩, 24), (⟨"SinglesPastModel", "readLink", "(II)Z"⟩, 24), (⟨"SinglesPastModel", "ofThing", "(II)I"⟩, 24), (⟨"SinglesPastModel", "readGoer", "()Z"⟩, 24), (⟨"SinglesPastModel", "goers", "()I"⟩, 24), (⟨"SinglesPastModel", "readShuns", "()Z"⟩, 24), (⟨"SinglesPastModel", "readTrain", "()Z"⟩, 24), (⟨"SinglesPastModel", "trains", "()I"⟩, 24), (⟨"SinglesPastModel", "stopsTold", "()I"⟩, 24), (⟨"SinglesPastModel", "readNumber", "(III)Z"⟩, 24)]
theorem lw_r4 : ∀ q ∈ lw_privs_4, lw_okq q := List.forall_mem_cons.mpr ⟨lw_p48, List.forall_mem_cons.mpr ⟨lw_p49, List.forall_mem_cons.mpr ⟨lw_p50, List.forall_mem_cons.mpr ⟨lw_p51, List.forall_mem_cons.mpr ⟨lw_p52, List.forall_mem_cons.mpr ⟨lw_p53, List.forall_mem_cons.mpr ⟨lw_p54, List.forall_mem_cons.mpr ⟨lw_p55, List.forall_mem_cons.mpr ⟨lw_p56, List.forall_mem_cons.mpr ⟨lw_p57, List.forall_mem_cons.mpr ⟨lw_p58, List.forall_mem_cons.mpr ⟨lw_p59, List.forall_mem_cons.mpr ⟨lw_p60, List.forall_mem_cons.mpr ⟨lw_p61, List.forall_mem_cons.mpr ⟨lw_p62, List.forall_mem_cons.mpr ⟨lw_p63, fun _ h => absurd h List.not_mem_nil⟩⟩⟩⟩⟩⟩⟩⟩⟩⟩⟩⟩⟩⟩⟩⟩
theorem lw_p64 : lw_okq (⟨"SinglesPastModel", "readLawLine", "(I)Z"⟩, 24) := ⟨⟨by decide +kernel, by decide +kernel⟩, List.mem_of_getElem? (i := 1498) (by decide +kernel), List.mem_of_getElem? (i := 1731) (by decide +kernel), List.mem_of_getElem? (i := 1732) (by decide +kernel)⟩
theorem lw_p65 : lw_okq (⟨"SinglesPastModel", "readCond", "()Z"⟩, 24) := ⟨⟨by decide +kernel, by decide +kernel⟩, List.mem_of_getElem? (i := 1498) (by decide +kernel), List.mem_of_getElem? (i := 1739) (by decide +kernel), List.mem_of_getElem? (i := 1740) (by decide +kernel)⟩
theorem lw_p66 : lw_okq (⟨"SinglesPastModel", "readAllOf", "()Z"⟩, 24) := ⟨⟨by decide +kernel, by decide +kernel⟩, List.mem_of_getElem? (i := 1498) (by decide +kernel), List.mem_of_getElem? (i := 1743) (by decide +kernel), List.mem_of_getElem? (i := 1744) (by decide +kernel)⟩
theorem lw_p67 : lw_okq (⟨"SinglesPastModel", "readAtom", "()Z"⟩, 24) := ⟨⟨by decide +kernel, by decide +kernel⟩, List.mem_of_getElem? (i := 1498) (by decide +kernel), List.mem_of_getElem? (i := 1747) (by decide +kernel), List.mem_of_getElem? (i := 1748) (by decide +kernel)⟩
theorem lw_p68 : lw_okq (⟨"SinglesPastModel", "sign", "(I)Z"⟩, 24) := ⟨⟨by decide +kernel, by decide +kernel⟩, List.mem_of_getElem? (i := 1498) (by decide +kernel), List.mem_of_getElem? (i := 1751) (by decide +kernel), List.mem_of_getElem? (i := 1752) (by decide +kernel)⟩
theorem lw_p69 : lw_okq (⟨"SinglesPastModel", "emits", "(II)V"⟩, 24) := ⟨⟨by decide +kernel, by decide +kernel⟩, List.mem_of_getElem? (i := 1498) (by decide +kernel), List.mem_of_getElem? (i := 1756) (by decide +kernel), List.mem_of_getElem? (i := 1757) (by decide +kernel)⟩
theorem lw_p70 : lw_okq (⟨"SinglesPastModel", "readTag", "()Z"⟩, 24) := ⟨⟨by decide +kernel, by decide +kernel⟩, List.mem_of_getElem? (i := 1498) (by decide +kernel), List.mem_of_getElem? (i := 1760) (by decide +kernel), List.mem_of_getElem? (i := 1761) (by decide +kernel)⟩
theorem lw_p71 : lw_okq (⟨"SinglesPastModel", "readSum", "()Z"⟩, 24) := ⟨⟨by decide +kernel, by decide +kernel⟩, List.mem_of_getElem? (i := 1498) (by decide +kernel), List.mem_of_getElem? (i := 1765) (by decide +kernel), List.mem_of_getElem? (i := 1766) (by decide +kernel)⟩
theorem lw_p72 : lw_okq (⟨"SinglesPastModel", "readPart", "()Z"⟩, 24) := ⟨⟨by decide +kernel, by decide +kernel⟩, List.mem_of_getElem? (i := 1498) (by decide +kernel), List.mem_of_getElem? (i := 1769) (by decide +kernel), List.mem_of_getElem? (i := 1770) (by decide +kernel)⟩
theorem lw_p73 : lw_okq (⟨"SinglesPastModel", "wordOfPart", "()I"⟩, 24) := ⟨⟨by decide +kernel, by decide +kernel⟩, List.mem_of_getElem? (i := 1498) (by decide +kernel), List.mem_of_getElem? (i := 1773) (by decide +kernel), List.mem_of_getElem? (i := 1774) (by decide +kernel)⟩
theorem lw_p74 : lw_okq (⟨"SinglesPastModel", "throwsIf", "(ZI)Z"⟩, 24) := ⟨⟨by decide +kernel, by decide +kernel⟩, List.mem_of_getElem? (i := 1498) (by decide +kernel), List.mem_of_getElem? (i := 1781) (by decide +kernel), List.mem_of_getElem? (i := 1782) (by decide +kernel)⟩
theorem lw_p75 : lw_okq (⟨"SinglesPastModel", "everybody", "()I"⟩, 24) := ⟨⟨by decide +kernel, by decide +kernel⟩, List.mem_of_getElem? (i := 1498) (by decide +kernel), List.mem_of_getElem? (i := 1793) (by decide +kernel), List.mem_of_getElem? (i := 1794) (by decide +kernel)⟩
theorem lw_p76 : lw_okq (⟨"SinglesPastModel", "worldOf", "(I)I"⟩, 24) := ⟨⟨by decide +kernel, by decide +kernel⟩, List.mem_of_getElem? (i := 1498) (by decide +kernel), List.mem_of_getElem? (i := 1797) (by decide +kernel), List.mem_of_getElem? (i := 1798) (by decide +kernel)⟩
theorem lw_p77 : lw_okq (⟨"SinglesPastModel", "isSo", "(II)Z"⟩, 24) := ⟨⟨by decide +kernel, by decide +kernel⟩, List.mem_of_getElem? (i := 1498) (by decide +kernel), List.mem_of_getElem? (i := 1801) (by decide +kernel), List.mem_of_getElem? (i := 1802) (by decide +kernel)⟩
theorem lw_p78 : lw_okq (⟨"SinglesPastModel", "of", "(II)I"⟩, 24) := ⟨⟨by decide +kernel, by decide +kernel⟩, List.mem_of_getElem? (i := 1498) (by decide +kernel), List.mem_of_getElem? (i := 1805) (by decide +kernel), List.mem_of_getElem? (i := 1806) (by decide +kernel)⟩
theorem lw_p79 : lw_okq (⟨"SinglesPastModel", "goneOnes", "()I"⟩, 24) := ⟨⟨by decide +kernel, by decide +kernel⟩, List.mem_of_getElem? (i := 1498) (by decide +kernel), List.mem_of_getElem? (i := 1813) (by decide +kernel), List.mem_of_getElem? (i := 1814) (by decide +kernel)⟩
def lw_privs_5 : List (MethodName × Nat) := [(⟨"SinglesPastModel", "readLawLine", "(I)Z"⟩, 24), (⟨"SinglesPastModel", "readCond", "()Z"⟩, 24), (⟨"SinglesPastModel", "readAllOf", "()Z"⟩, 24), (⟨"SinglesPastModel", "readAtom", "()Z"⟩, 24), (⟨"SinglesPastModel", "sign", "(I)Z"⟩, 24), (⟨"SinglesPastModel", "emits", "(II)V"⟩, 24), (⟨"SinglesPastModel", "readTag", "()Z"⟩, 24), (⟨"SinglesPastModel", "readSum", "()Z"⟩, 24), (⟨"SinglesPastModel", "readPart", "()Z"⟩, 24), (⟨"SinglesPastModel", "wordOfPart", "()I"⟩, 24), (⟨"SinglesPastModel", "throwsIf", "(ZI)Z"⟩, 24), (⟨"SinglesPastModel", "everybody", "()I"⟩, 24), (⟨"SinglesPastModel", "worldOf", "(I)I"⟩, 24), (⟨"SinglesPastModel", "isSo", "(II)Z"⟩, 24), (⟨"SinglesPastModel", "of", "(II)I"⟩, 24), (⟨"SinglesPastModel", "goneOnes", "()I"⟩, 24)]
theorem lw_r5 : ∀ q ∈ lw_privs_5, lw_okq q := List.forall_mem_cons.mpr ⟨lw_p64, List.forall_mem_cons.mpr ⟨lw_p65, List.forall_mem_cons.mpr ⟨lw_p66, List.forall_mem_cons.mpr ⟨lw_p67, List.forall_mem_cons.mpr ⟨lw_p68, List.forall_mem_cons.mpr ⟨lw_p69, List.forall_mem_cons.mpr ⟨lw_p70, List.forall_mem_cons.mpr ⟨lw_p71, List.forall_mem_cons.mpr ⟨lw_p72, List.forall_mem_cons.mpr ⟨lw_p73, List.forall_mem_cons.mpr ⟨lw_p74, List.forall_mem_cons.mpr ⟨lw_p75, List.forall_mem_cons.mpr ⟨lw_p76, List.forall_mem_cons.mpr ⟨lw_p77, List.forall_mem_cons.mpr ⟨lw_p78, List.forall_mem_cons.mpr ⟨lw_p79, fun _ h => absurd h List.not_mem_nil⟩⟩⟩⟩⟩⟩⟩⟩⟩⟩⟩⟩⟩⟩⟩⟩
theorem lw_p80 : lw_okq (⟨"SinglesPastModel", "agreesBy", "(II)Z"⟩, 24) := ⟨⟨by decide +kernel, by decide +kernel⟩, List.mem_of_getElem? (i := 1498) (by decide +kernel), List.mem_of_getElem? (i := 1817) (by decide +kernel), List.mem_of_getElem? (i := 1818) (by decide +kernel)⟩
theorem lw_p81 : lw_okq (⟨"SinglesPastModel", "bornIn", "(II)I"⟩, 24) := ⟨⟨by decide +kernel, by decide +kernel⟩, List.mem_of_getElem? (i := 1498) (by decide +kernel), List.mem_of_getElem? (i := 1821) (by decide +kernel), List.mem_of_getElem? (i := 1822) (by decide +kernel)⟩
theorem lw_p82 : lw_okq (⟨"SinglesPastModel", "manyAgree", "()I"⟩, 24) := ⟨⟨by decide +kernel, by decide +kernel⟩, List.mem_of_getElem? (i := 1498) (by decide +kernel), List.mem_of_getElem? (i := 1829) (by decide +kernel), List.mem_of_getElem? (i := 1830) (by decide +kernel)⟩
theorem lw_p83 : lw_okq (⟨"SinglesPastModel", "pastBy", "(I)I"⟩, 24) := ⟨⟨by decide +kernel, by decide +kernel⟩, List.mem_of_getElem? (i := 1498) (by decide +kernel), List.mem_of_getElem? (i := 1837) (by decide +kernel), List.mem_of_getElem? (i := 1838) (by decide +kernel)⟩
theorem lw_p84 : lw_okq (⟨"SinglesPastModel", "nowBy", "(I)I"⟩, 24) := ⟨⟨by decide +kernel, by decide +kernel⟩, List.mem_of_getElem? (i := 1498) (by decide +kernel), List.mem_of_getElem? (i := 1846) (by decide +kernel), List.mem_of_getElem? (i := 1847) (by decide +kernel)⟩
theorem lw_p85 : lw_okq (⟨"SinglesPastModel", "noGoer", "(I)Z"⟩, 24) := ⟨⟨by decide +kernel, by decide +kernel⟩, List.mem_of_getElem? (i := 1498) (by decide +kernel), List.mem_of_getElem? (i := 1858) (by decide +kernel), List.mem_of_getElem? (i := 1859) (by decide +kernel)⟩
theorem lw_p86 : lw_okq (⟨"SinglesPastModel", "ifOtherwise", "(I)I"⟩, 24) := ⟨⟨by decide +kernel, by decide +kernel⟩, List.mem_of_getElem? (i := 1498) (by decide +kernel), List.mem_of_getElem? (i := 1865) (by decide +kernel), List.mem_of_getElem? (i := 1866) (by decide +kernel)⟩
theorem lw_p87 : lw_okq (⟨"SinglesPastModel", "changesOf", "(I)I"⟩, 24) := ⟨⟨by decide +kernel, by decide +kernel⟩, List.mem_of_getElem? (i := 1498) (by decide +kernel), List.mem_of_getElem? (i := 1873) (by decide +kernel), List.mem_of_getElem? (i := 1874) (by decide +kernel)⟩
theorem lw_p88 : lw_okq (⟨"SinglesPastModel", "worthOf", "(I)I"⟩, 24) := ⟨⟨by decide +kernel, by decide +kernel⟩, List.mem_of_getElem? (i := 1498) (by decide +kernel), List.mem_of_getElem? (i := 1877) (by decide +kernel), List.mem_of_getElem? (i := 1878) (by decide +kernel)⟩
theorem lw_p89 : lw_okq (⟨"SinglesPastModel", "noThing", "(I)Z"⟩, 24) := ⟨⟨by decide +kernel, by decide +kernel⟩, List.mem_of_getElem? (i := 1498) (by decide +kernel), List.mem_of_getElem? (i := 1885) (by decide +kernel), List.mem_of_getElem? (i := 1886) (by decide +kernel)⟩
theorem lw_p90 : lw_okq (⟨"SinglesPastModel", "lineOf", "(I)I"⟩, 24) := ⟨⟨by decide +kernel, by decide +kernel⟩, List.mem_of_getElem? (i := 1498) (by decide +kernel), List.mem_of_getElem? (i := 1889) (by decide +kernel), List.mem_of_getElem? (i := 1890) (by decide +kernel)⟩
theorem lw_p91 : lw_okq (⟨"SinglesPastModel", "latestOf", "(I)I"⟩, 24) := ⟨⟨by decide +kernel, by decide +kernel⟩, List.mem_of_getElem? (i := 1498) (by decide +kernel), List.mem_of_getElem? (i := 1893) (by decide +kernel), List.mem_of_getElem? (i := 1894) (by decide +kernel)⟩
theorem lw_p92 : lw_okq (⟨"SinglesPastModel", "allStops", "()I"⟩, 24) := ⟨⟨by decide +kernel, by decide +kernel⟩, List.mem_of_getElem? (i := 1498) (by decide +kernel), List.mem_of_getElem? (i := 1897) (by decide +kernel), List.mem_of_getElem? (i := 1898) (by decide +kernel)⟩
theorem lw_p93 : lw_okq (⟨"SinglesPastModel", "ofTrain", "(II)I"⟩, 24) := ⟨⟨by decide +kernel, by decide +kernel⟩, List.mem_of_getElem? (i := 1498) (by decide +kernel), List.mem_of_getElem? (i := 1901) (by decide +kernel), List.mem_of_getElem? (i := 1902) (by decide +kernel)⟩
theorem lw_p94 : lw_okq (⟨"SinglesPastModel", "trainOf", "(I)I"⟩, 24) := ⟨⟨by decide +kernel, by decide +kernel⟩, List.mem_of_getElem? (i := 1498) (by decide +kernel), List.mem_of_getElem? (i := 1909) (by decide +kernel), List.mem_of_getElem? (i := 1910) (by decide +kernel)⟩
theorem lw_p95 : lw_okq (⟨"SinglesPastModel", "canGo", "(II)Z"⟩, 24) := ⟨⟨by decide +kernel, by decide +kernel⟩, List.mem_of_getElem? (i := 1498) (by decide +kernel), List.mem_of_getElem? (i := 1913) (by decide +kernel), List.mem_of_getElem? (i := 1914) (by decide +kernel)⟩
def lw_privs_6 : List (MethodName × Nat) := [(⟨"SinglesPastModel", "agreesBy", "(II)Z"⟩, 24), (⟨"SinglesPastModel", "bornIn", "(II)I"⟩, 24), (⟨"SinglesPastModel", "manyAgree", "()I"⟩, 24), (⟨"SinglesPastModel", "pastBy", "(I)I"⟩, 24), (⟨"SinglesPastModel", "nowBy", "(I)I"⟩, 24), (⟨"SinglesPastModel", "noGoer", "(I)Z"⟩, 24), (⟨"SinglesPastModel", "ifOtherwise", "(I)I"⟩, 24), (⟨"SinglesPastModel", "changesOf", "(I)I"⟩, 24), (⟨"SinglesPastModel", "worthOf", "(I)I"⟩, 24), (⟨"SinglesPastModel", "noThing", "(I)Z"⟩, 24), (⟨"SinglesPastModel", "lineOf", "(I)I"⟩, 24), (⟨"SinglesPastModel", "latestOf", "(I)I"⟩, 24), (⟨"SinglesPastModel", "allStops", "()I"⟩, 24), (⟨"SinglesPastModel", "ofTrain", "(II)I"⟩, 24), (⟨"SinglesPastModel", "trainOf", "(I)I"⟩, 24), (⟨"SinglesPastModel", "canGo", "(II)Z"⟩, 24)]
theorem lw_r6 : ∀ q ∈ lw_privs_6, lw_okq q := List.forall_mem_cons.mpr ⟨lw_p80, List.forall_mem_cons.mpr ⟨lw_p81, List.forall_mem_cons.mpr ⟨lw_p82, List.forall_mem_cons.mpr ⟨lw_p83, List.forall_mem_cons.mpr ⟨lw_p84, List.forall_mem_cons.mpr ⟨lw_p85, List.forall_mem_cons.mpr ⟨lw_p86, List.forall_mem_cons.mpr ⟨lw_p87, List.forall_mem_cons.mpr ⟨lw_p88, List.forall_mem_cons.mpr ⟨lw_p89, List.forall_mem_cons.mpr ⟨lw_p90, List.forall_mem_cons.mpr ⟨lw_p91, List.forall_mem_cons.mpr ⟨lw_p92, List.forall_mem_cons.mpr ⟨lw_p93, List.forall_mem_cons.mpr ⟨lw_p94, List.forall_mem_cons.mpr ⟨lw_p95, fun _ h => absurd h List.not_mem_nil⟩⟩⟩⟩⟩⟩⟩⟩⟩⟩⟩⟩⟩⟩⟩⟩
theorem lw_p96 : lw_okq (⟨"SinglesPastModel", "isGone", "(I)Z"⟩, 24) := ⟨⟨by decide +kernel, by decide +kernel⟩, List.mem_of_getElem? (i := 1498) (by decide +kernel), List.mem_of_getElem? (i := 1917) (by decide +kernel), List.mem_of_getElem? (i := 1918) (by decide +kernel)⟩
theorem lw_p97 : lw_okq (⟨"SinglesPastModel", "stopsFor", "(II)Z"⟩, 24) := ⟨⟨by decide +kernel, by decide +kernel⟩, List.mem_of_getElem? (i := 1498) (by decide +kernel), List.mem_of_getElem? (i := 1921) (by decide +kernel), List.mem_of_getElem? (i := 1922) (by decide +kernel)⟩
theorem lw_p98 : lw_okq (⟨"SinglesPastModel", "goneBy", "(I)I"⟩, 24) := ⟨⟨by decide +kernel, by decide +kernel⟩, List.mem_of_getElem? (i := 1498) (by decide +kernel), List.mem_of_getElem? (i := 1925) (by decide +kernel), List.mem_of_getElem? (i := 1926) (by decide +kernel)⟩
theorem lw_p99 : lw_okq (⟨"SinglesPastModel", "costOf", "(II)I"⟩, 24) := ⟨⟨by decide +kernel, by decide +kernel⟩, List.mem_of_getElem? (i := 1498) (by decide +kernel), List.mem_of_getElem? (i := 1929) (by decide +kernel), List.mem_of_getElem? (i := 1930) (by decide +kernel)⟩
theorem lw_p100 : lw_okq (⟨"SinglesPastModel", "sumOf", "(III)I"⟩, 24) := ⟨⟨by decide +kernel, by decide +kernel⟩, List.mem_of_getElem? (i := 1498) (by decide +kernel), List.mem_of_getElem? (i := 1933) (by decide +kernel), List.mem_of_getElem? (i := 1934) (by decide +kernel)⟩
theorem lw_p101 : lw_okq (⟨"SinglesPastModel", "holdsLine", "(III)Z"⟩, 24) := ⟨⟨by decide +kernel, by decide +kernel⟩, List.mem_of_getElem? (i := 1498) (by decide +kernel), List.mem_of_getElem? (i := 1937) (by decide +kernel), List.mem_of_getElem? (i := 1938) (by decide +kernel)⟩
theorem lw_p102 : lw_okq (⟨"SinglesPastModel", "factOf", "(IIII)I"⟩, 24) := ⟨⟨by decide +kernel, by decide +kernel⟩, List.mem_of_getElem? (i := 1498) (by decide +kernel), List.mem_of_getElem? (i := 1941) (by decide +kernel), List.mem_of_getElem? (i := 1942) (by decide +kernel)⟩
theorem lw_p103 : lw_okq (⟨"SinglesPastModel", "isBarred", "(II)Z"⟩, 24) := ⟨⟨by decide +kernel, by decide +kernel⟩, List.mem_of_getElem? (i := 1498) (by decide +kernel), List.mem_of_getElem? (i := 1945) (by decide +kernel), List.mem_of_getElem? (i := 1946) (by decide +kernel)⟩
theorem lw_p104 : lw_okq (⟨"SinglesPastModel", "meetsNone", "(II)Z"⟩, 24) := ⟨⟨by decide +kernel, by decide +kernel⟩, List.mem_of_getElem? (i := 1498) (by decide +kernel), List.mem_of_getElem? (i := 1949) (by decide +kernel), List.mem_of_getElem? (i := 1950) (by decide +kernel)⟩
theorem lw_p105 : lw_okq (⟨"SinglesPastModel", "noTrain", "(I)Z"⟩, 24) := ⟨⟨by decide +kernel, by decide +kernel⟩, List.mem_of_getElem? (i := 1498) (by decide +kernel), List.mem_of_getElem? (i := 1957) (by decide +kernel), List.mem_of_getElem? (i := 1958) (by decide +kernel)⟩
theorem lw_p106 : lw_okq (⟨"SinglesPastModel", "noSuch", "(II)Z"⟩, 24) := ⟨⟨by decide +kernel, by decide +kernel⟩, List.mem_of_getElem? (i := 1498) (by decide +kernel), List.mem_of_getElem? (i := 1965) (by decide +kernel), List.mem_of_getElem? (i := 1966) (by decide +kernel)⟩
theorem lw_p107 : lw_okq (⟨"SinglesPastModel", "fearOf", "(II)I"⟩, 24) := ⟨⟨by decide +kernel, by decide +kernel⟩, List.mem_of_getElem? (i := 1498) (by decide +kernel), List.mem_of_getElem? (i := 1973) (by decide +kernel), List.mem_of_getElem? (i := 1974) (by decide +kernel)⟩
theorem lw_p108 : lw_okq (⟨"SinglesPastModel", "remembers", "()V"⟩, 24) := ⟨⟨by decide +kernel, by decide +kernel⟩, List.mem_of_getElem? (i := 1498) (by decide +kernel), List.mem_of_getElem? (i := 1985) (by decide +kernel), List.mem_of_getElem? (i := 1986) (by decide +kernel)⟩
theorem lw_p109 : lw_okq (⟨"SinglesPastModel", "goesOn", "(IZ)I"⟩, 24) := ⟨⟨by decide +kernel, by decide +kernel⟩, List.mem_of_getElem? (i := 1498) (by decide +kernel), List.mem_of_getElem? (i := 1989) (by decide +kernel), List.mem_of_getElem? (i := 1990) (by decide +kernel)⟩
theorem lw_p110 : lw_okq (⟨"SinglesPastModel", "oneDay", "(Z)I"⟩, 24) := ⟨⟨by decide +kernel, by decide +kernel⟩, List.mem_of_getElem? (i := 1498) (by decide +kernel), List.mem_of_getElem? (i := 1993) (by decide +kernel), List.mem_of_getElem? (i := 1994) (by decide +kernel)⟩
theorem lw_p111 : lw_okq (⟨"SinglesPastModel", "decides", "(IZ)Z"⟩, 24) := ⟨⟨by decide +kernel, by decide +kernel⟩, List.mem_of_getElem? (i := 1498) (by decide +kernel), List.mem_of_getElem? (i := 1997) (by decide +kernel), List.mem_of_getElem? (i := 1998) (by decide +kernel)⟩
def lw_privs_7 : List (MethodName × Nat) := [(⟨"SinglesPastModel", "isGone", "(I)Z"⟩, 24), (⟨"SinglesPastModel", "stopsFor", "(II)Z"⟩, 24), (⟨"SinglesPastModel", "goneBy", "(I)I"⟩, 24), (⟨"SinglesPastModel", "costOf", "(II)I"⟩, 24), (⟨"SinglesPastModel", "sumOf", "(III)I"⟩, 24), (⟨"SinglesPastModel", "holdsLine", "(III)Z"⟩, 24), (⟨"SinglesPastModel", "factOf", "(IIII)I"⟩, 24), (⟨"SinglesPastModel", "isBarred", "(II)Z"⟩, 24), (⟨"SinglesPastModel", "meetsNone", "(II)Z"⟩, 24), (⟨"SinglesPastModel", "noTrain", "(I)Z"⟩, 24), (⟨"SinglesPastModel", "noSuch", "(II)Z"⟩, 24), (⟨"SinglesPastModel", "fearOf", "(II)I"⟩, 24), (⟨"SinglesPastModel", "remembers", "()V"⟩, 24), (⟨"SinglesPastModel", "goesOn", "(IZ)I"⟩, 24), (⟨"SinglesPastModel", "oneDay", "(Z)I"⟩, 24), (⟨"SinglesPastModel", "decides", "(IZ)Z"⟩, 24)]
theorem lw_r7 : ∀ q ∈ lw_privs_7, lw_okq q := List.forall_mem_cons.mpr ⟨lw_p96, List.forall_mem_cons.mpr ⟨lw_p97, List.forall_mem_cons.mpr ⟨lw_p98, List.forall_mem_cons.mpr ⟨lw_p99, List.forall_mem_cons.mpr ⟨lw_p100, List.forall_mem_cons.mpr ⟨lw_p101, List.forall_mem_cons.mpr ⟨lw_p102, List.forall_mem_cons.mpr ⟨lw_p103, List.forall_mem_cons.mpr ⟨lw_p104, List.forall_mem_cons.mpr ⟨lw_p105, List.forall_mem_cons.mpr ⟨lw_p106, List.forall_mem_cons.mpr ⟨lw_p107, List.forall_mem_cons.mpr ⟨lw_p108, List.forall_mem_cons.mpr ⟨lw_p109, List.forall_mem_cons.mpr ⟨lw_p110, List.forall_mem_cons.mpr ⟨lw_p111, fun _ h => absurd h List.not_mem_nil⟩⟩⟩⟩⟩⟩⟩⟩⟩⟩⟩⟩⟩⟩⟩⟩
theorem lw_p112 : lw_okq (⟨"SinglesPastModel", "drawn", "(I)I"⟩, 24) := ⟨⟨by decide +kernel, by decide +kernel⟩, List.mem_of_getElem? (i := 1498) (by decide +kernel), List.mem_of_getElem? (i := 2001) (by decide +kernel), List.mem_of_getElem? (i := 2002) (by decide +kernel)⟩
theorem lw_p113 : lw_okq (⟨"SinglesPastModel", "isSold", "(II)I"⟩, 24) := ⟨⟨by decide +kernel, by decide +kernel⟩, List.mem_of_getElem? (i := 1498) (by decide +kernel), List.mem_of_getElem? (i := 2006) (by decide +kernel), List.mem_of_getElem? (i := 2007) (by decide +kernel)⟩
theorem lw_p114 : lw_okq (⟨"SinglesPastModel", "isTold", "(III)V"⟩, 24) := ⟨⟨by decide +kernel, by decide +kernel⟩, List.mem_of_getElem? (i := 1498) (by decide +kernel), List.mem_of_getElem? (i := 2010) (by decide +kernel), List.mem_of_getElem? (i := 2011) (by decide +kernel)⟩
theorem lw_p115 : lw_okq (⟨"SinglesPastModel", "isNow", "(II)I"⟩, 24) := ⟨⟨by decide +kernel, by decide +kernel⟩, List.mem_of_getElem? (i := 1498) (by decide +kernel), List.mem_of_getElem? (i := 2023) (by decide +kernel), List.mem_of_getElem? (i := 2024) (by decide +kernel)⟩
theorem lw_p116 : lw_okq (⟨"SinglesPastModel", "noTwo", "(II)Z"⟩, 24) := ⟨⟨by decide +kernel, by decide +kernel⟩, List.mem_of_getElem? (i := 1498) (by decide +kernel), List.mem_of_getElem? (i := 2046) (by decide +kernel), List.mem_of_getElem? (i := 2047) (by decide +kernel)⟩
theorem lw_p117 : lw_okq (⟨"SinglesPastModel", "isRows", "()Z"⟩, 24) := ⟨⟨by decide +kernel, by decide +kernel⟩, List.mem_of_getElem? (i := 1498) (by decide +kernel), List.mem_of_getElem? (i := 2063) (by decide +kernel), List.mem_of_getElem? (i := 2064) (by decide +kernel)⟩
theorem lw_p118 : lw_okq (⟨"SinglesPastModel", "areSo", "(I)Z"⟩, 24) := ⟨⟨by decide +kernel, by decide +kernel⟩, List.mem_of_getElem? (i := 1498) (by decide +kernel), List.mem_of_getElem? (i := 2067) (by decide +kernel), List.mem_of_getElem? (i := 2068) (by decide +kernel)⟩
theorem lw_p119 : lw_okq (⟨"SinglesPastModel", "fitsWho", "(I)Z"⟩, 24) := ⟨⟨by decide +kernel, by decide +kernel⟩, List.mem_of_getElem? (i := 1498) (by decide +kernel), List.mem_of_getElem? (i := 2075) (by decide +kernel), List.mem_of_getElem? (i := 2076) (by decide +kernel)⟩
theorem lw_p120 : lw_okq (⟨"SinglesPastModel", "hangsOn", "(I)I"⟩, 24) := ⟨⟨by decide +kernel, by decide +kernel⟩, List.mem_of_getElem? (i := 1498) (by decide +kernel), List.mem_of_getElem? (i := 2087) (by decide +kernel), List.mem_of_getElem? (i := 2088) (by decide +kernel)⟩
theorem lw_p121 : lw_okq (⟨"SinglesPastModel", "mostOf", "(I)I"⟩, 24) := ⟨⟨by decide +kernel, by decide +kernel⟩, List.mem_of_getElem? (i := 1498) (by decide +kernel), List.mem_of_getElem? (i := 2107) (by decide +kernel), List.mem_of_getElem? (i := 2108) (by decide +kernel)⟩
theorem lw_p122 : lw_okq (⟨"SinglesPastModel", "laysWay", "(II)I"⟩, 24) := ⟨⟨by decide +kernel, by decide +kernel⟩, List.mem_of_getElem? (i := 1498) (by decide +kernel), List.mem_of_getElem? (i := 2111) (by decide +kernel), List.mem_of_getElem? (i := 2112) (by decide +kernel)⟩
theorem lw_p123 : lw_okq (⟨"SinglesPastModel", "mayGo", "(II)Z"⟩, 24) := ⟨⟨by decide +kernel, by decide +kernel⟩, List.mem_of_getElem? (i := 1498) (by decide +kernel), List.mem_of_getElem? (i := 2115) (by decide +kernel), List.mem_of_getElem? (i := 2116) (by decide +kernel)⟩
theorem lw_p124 : lw_okq (⟨"SinglesPastModel", "canAll", "(I)Z"⟩, 24) := ⟨⟨by decide +kernel, by decide +kernel⟩, List.mem_of_getElem? (i := 1498) (by decide +kernel), List.mem_of_getElem? (i := 2123) (by decide +kernel), List.mem_of_getElem? (i := 2124) (by decide +kernel)⟩
theorem lw_p125 : lw_okq (⟨"SinglesPastModel", "laysMembers", "(I)I"⟩, 24) := ⟨⟨by decide +kernel, by decide +kernel⟩, List.mem_of_getElem? (i := 1498) (by decide +kernel), List.mem_of_getElem? (i := 2127) (by decide +kernel), List.mem_of_getElem? (i := 2128) (by decide +kernel)⟩
theorem lw_p126 : lw_okq (⟨"SinglesPastModel", "earnsOf", "(I)I"⟩, 24) := ⟨⟨by decide +kernel, by decide +kernel⟩, List.mem_of_getElem? (i := 1498) (by decide +kernel), List.mem_of_getElem? (i := 2135) (by decide +kernel), List.mem_of_getElem? (i := 2136) (by decide +kernel)⟩
theorem lw_p127 : lw_okq (⟨"SinglesPastModel", "priceOf", "(I)I"⟩, 24) := ⟨⟨by decide +kernel, by decide +kernel⟩, List.mem_of_getElem? (i := 1498) (by decide +kernel), List.mem_of_getElem? (i := 2139) (by decide +kernel), List.mem_of_getElem? (i := 2140) (by decide +kernel)⟩
def lw_privs_8 : List (MethodName × Nat) := [(⟨"SinglesPastModel", "drawn", "(I)I"⟩, 24), (⟨"SinglesPastModel", "isSold", "(II)I"⟩, 24), (⟨"SinglesPastModel", "isTold", "(III)V"⟩, 24), (⟨"SinglesPastModel", "isNow", "(II)I"⟩, 24), (⟨"SinglesPastModel", "noTwo", "(II)Z"⟩, 24), (⟨"SinglesPastModel", "isRows", "()Z"⟩, 24), (⟨"SinglesPastModel", "areSo", "(I)Z"⟩, 24), (⟨"SinglesPastModel", "fitsWho", "(I)Z"⟩, 24), (⟨"SinglesPastModel", "hangsOn", "(I)I"⟩, 24), (⟨"SinglesPastModel", "mostOf", "(I)I"⟩, 24), (⟨"SinglesPastModel", "laysWay", "(II)I"⟩, 24), (⟨"SinglesPastModel", "mayGo", "(II)Z"⟩, 24), (⟨"SinglesPastModel", "canAll", "(I)Z"⟩, 24), (⟨"SinglesPastModel", "laysMembers", "(I)I"⟩, 24), (⟨"SinglesPastModel", "earnsOf", "(I)I"⟩, 24), (⟨"SinglesPastModel", "priceOf", "(I)I"⟩, 24)]
theorem lw_r8 : ∀ q ∈ lw_privs_8, lw_okq q := List.forall_mem_cons.mpr ⟨lw_p112, List.forall_mem_cons.mpr ⟨lw_p113, List.forall_mem_cons.mpr ⟨lw_p114, List.forall_mem_cons.mpr ⟨lw_p115, List.forall_mem_cons.mpr ⟨lw_p116, List.forall_mem_cons.mpr ⟨lw_p117, List.forall_mem_cons.mpr ⟨lw_p118, List.forall_mem_cons.mpr ⟨lw_p119, List.forall_mem_cons.mpr ⟨lw_p120, List.forall_mem_cons.mpr ⟨lw_p121, List.forall_mem_cons.mpr ⟨lw_p122, List.forall_mem_cons.mpr ⟨lw_p123, List.forall_mem_cons.mpr ⟨lw_p124, List.forall_mem_cons.mpr ⟨lw_p125, List.forall_mem_cons.mpr ⟨lw_p126, List.forall_mem_cons.mpr ⟨lw_p127, fun _ h => absurd h List.not_mem_nil⟩⟩⟩⟩⟩⟩⟩⟩⟩⟩⟩⟩⟩⟩⟩⟩
theorem lw_p128 : lw_okq (⟨"SinglesPastModel", "payersOf", "(II)I"⟩, 24) := ⟨⟨by decide +kernel, by decide +kernel⟩, List.mem_of_getElem? (i := 1498) (by decide +kernel), List.mem_of_getElem? (i := 2143) (by decide +kernel), List.mem_of_getElem? (i := 2144) (by decide +kernel)⟩
theorem lw_p129 : lw_okq (⟨"SinglesPastModel", "laysPairs", "()V"⟩, 24) := ⟨⟨by decide +kernel, by decide +kernel⟩, List.mem_of_getElem? (i := 1498) (by decide +kernel), List.mem_of_getElem? (i := 2173) (by decide +kernel), List.mem_of_getElem? (i := 2174) (by decide +kernel)⟩
theorem lw_p130 : lw_okq (⟨"SinglesPastModel", "pairedBy", "(II)I"⟩, 24) := ⟨⟨by decide +kernel, by decide +kernel⟩, List.mem_of_getElem? (i := 1498) (by decide +kernel), List.mem_of_getElem? (i := 2177) (by decide +kernel), List.mem_of_getElem? (i := 2178) (by decide +kernel)⟩
theorem lw_p131 : lw_okq (⟨"SinglesPastModel", "canPair", "(II)Z"⟩, 24) := ⟨⟨by decide +kernel, by decide +kernel⟩, List.mem_of_getElem? (i := 1498) (by decide +kernel), List.mem_of_getElem? (i := 2188) (by decide +kernel), List.mem_of_getElem? (i := 2189) (by decide +kernel)⟩
theorem lw_p132 : lw_okq (⟨"SinglesPastModel", "goerHas", "(III)I"⟩, 24) := ⟨⟨by decide +kernel, by decide +kernel⟩, List.mem_of_getElem? (i := 1498) (by decide +kernel), List.mem_of_getElem? (i := 2196) (by decide +kernel), List.mem_of_getElem? (i := 2197) (by decide +kernel)⟩
theorem lw_p133 : lw_okq (⟨"SinglesPastModel", "keepsAll", "()V"⟩, 24) := ⟨⟨by decide +kernel, by decide +kernel⟩, List.mem_of_getElem? (i := 1498) (by decide +kernel), List.mem_of_getElem? (i := 2242) (by decide +kernel), List.mem_of_getElem? (i := 2243) (by decide +kernel)⟩
theorem lw_p134 : lw_okq (⟨"SinglesPastModel", "bringsBack", "()V"⟩, 24) := ⟨⟨by decide +kernel, by decide +kernel⟩, List.mem_of_getElem? (i := 1498) (by decide +kernel), List.mem_of_getElem? (i := 2246) (by decide +kernel), List.mem_of_getElem? (i := 2247) (by decide +kernel)⟩
theorem lw_p135 : lw_okq (⟨"SinglesPastModel", "ofLog", "(II)I"⟩, 24) := ⟨⟨by decide +kernel, by decide +kernel⟩, List.mem_of_getElem? (i := 1498) (by decide +kernel), List.mem_of_getElem? (i := 2262) (by decide +kernel), List.mem_of_getElem? (i := 2263) (by decide +kernel)⟩
def lw_privs_9 : List (MethodName × Nat) := [(⟨"SinglesPastModel", "payersOf", "(II)I"⟩, 24), (⟨"SinglesPastModel", "laysPairs", "()V"⟩, 24), (⟨"SinglesPastModel", "pairedBy", "(II)I"⟩, 24), (⟨"SinglesPastModel", "canPair", "(II)Z"⟩, 24), (⟨"SinglesPastModel", "goerHas", "(III)I"⟩, 24), (⟨"SinglesPastModel", "keepsAll", "()V"⟩, 24), (⟨"SinglesPastModel", "bringsBack", "()V"⟩, 24), (⟨"SinglesPastModel", "ofLog", "(II)I"⟩, 24)]
theorem lw_r9 : ∀ q ∈ lw_privs_9, lw_okq q := List.forall_mem_cons.mpr ⟨lw_p128, List.forall_mem_cons.mpr ⟨lw_p129, List.forall_mem_cons.mpr ⟨lw_p130, List.forall_mem_cons.mpr ⟨lw_p131, List.forall_mem_cons.mpr ⟨lw_p132, List.forall_mem_cons.mpr ⟨lw_p133, List.forall_mem_cons.mpr ⟨lw_p134, List.forall_mem_cons.mpr ⟨lw_p135, fun _ h => absurd h List.not_mem_nil⟩⟩⟩⟩⟩⟩⟩⟩
def lw_privs : List (MethodName × Nat) := lw_privs_1 ++ (lw_privs_2 ++ (lw_privs_3 ++ (lw_privs_4 ++ (lw_privs_5 ++ (lw_privs_6 ++ (lw_privs_7 ++ (lw_privs_8 ++ (lw_privs_9))))))))
def lw_tbl : List Cond := k2_sels lw_privs ++ tables_1
theorem lw_privs_ok : ∀ q ∈ lw_privs, lw_okq q := by
  show ∀ q ∈ lw_privs_1 ++ (lw_privs_2 ++ (lw_privs_3 ++ (lw_privs_4 ++ (lw_privs_5 ++ (lw_privs_6 ++ (lw_privs_7 ++ (lw_privs_8 ++ (lw_privs_9)))))))), lw_okq q
  exact List.forall_mem_append.mpr ⟨lw_r1, List.forall_mem_append.mpr ⟨lw_r2, List.forall_mem_append.mpr ⟨lw_r3, List.forall_mem_append.mpr ⟨lw_r4, List.forall_mem_append.mpr ⟨lw_r5, List.forall_mem_append.mpr ⟨lw_r6, List.forall_mem_append.mpr ⟨lw_r7, List.forall_mem_append.mpr ⟨lw_r8, lw_r9⟩⟩⟩⟩⟩⟩⟩⟩
-- ===== end of PART A; then your names; then what follows =====
end
section
/-! ===== BEGIN words of one list among another's, by their places ===== -/
theorem goodIn_r {big : List Cond} (ws : List Cond) (ps : List Nat) (hp : ws = ps.filterMap (fun i => big[i]?)) (h : ws.all goodWord = true) : GoodIn big ws := by
  intro w hw
  have h1 := List.all_eq_true.mp h w hw
  rw [hp] at hw
  obtain ⟨i, -, hi⟩ := List.mem_filterMap.mp hw
  have hm : w ∈ big := by first | exact List.mem_of_getElem? hi | exact List.getElem?_mem hi
  exact ⟨hm, good_of_word h1⟩
theorem goodIn_app {big a b : List Cond} (ha : GoodIn big a) (hb : GoodIn big b) : GoodIn big (a ++ b) := fun w h => (List.mem_append.mp h).elim (ha w) (hb w)
theorem goodIn_ca {big a b : List Cond} {c : Cond} (ha : GoodIn big (c :: a)) (hb : GoodIn big b) : GoodIn big (c :: (a ++ b)) := fun w h => (List.mem_cons.mp h).elim (fun e => ha w (List.mem_cons.mpr (Or.inl e))) (fun h => (List.mem_append.mp h).elim (fun h => ha w (List.mem_cons.mpr (Or.inr h))) (hb w))
theorem goodIn_sub {big ws : List Cond} (hm : ∀ w ∈ ws, w ∈ big) (h : ws.all goodWord = true) : GoodIn big ws := fun w hw => ⟨hm w hw, good_of_word (List.all_eq_true.mp h w hw)⟩
/-! ===== END ===== -/

/-! ===== BEGIN a throw that comes back into a method and is caught behind rows that are passed ===== -/
section TC
def tc_F (e : Env) (s : State) (f : JFrame) (a : Addr) (h : Handler) (vm' : Vm) : Prop :=
  ∀ (Q : Handler → Pre) (E : CtlPost) (d : Bool) (acts : List Action), wp (findHandler f a) Q E e d acts s ↔ Q h d acts (s.setVm vm')
def tc_pass (pl : Platform) (s₀ : State) (d : ClassId) (pc : Nat) (thrown : ClassId) (y : ExceptionTableEntry) : Prop :=
  covers y pc = false ∨ (y.catchType ≠ 0 ∧ ∃ c, s₀.vm.ClassLinks pl d y.catchType c ∧ s₀.vm.assignable thrown c = false)
theorem tc_row {e : Env} {s : State} {f : JFrame} {a : Addr} {x : ExceptionTableEntry} {t : List ExceptionTableEntry} {c : ClassId} {cell : Cell} (hx : covers x f.pc = true) (h0 : x.catchType ≠ 0)
    (hl : s.vm.ClassLinks e.platform f.method.cls x.catchType c) (hcell : s.heap[a]? = some cell) (hobj : ∀ k, cell.vm ≠ .statics k)
    (hk : ∃ k, s.vm.classes[cell.cls]? = some k) (hc : ∃ k, s.vm.classes[c]? = some k) (Q : Handler → Pre) (E : CtlPost) (d : Bool) (acts : List Action) :
    (s.vm.assignable cell.cls c = true → (wp (findHandler.go f a (x :: t)) Q E e d acts s ↔ Q (.found x.handlerPc) d acts (s.setVm (s.vm.noted f.method.cls x.catchType (.cls c))))) ∧
    (s.vm.assignable cell.cls c = false → (wp (findHandler.go f a (x :: t)) Q E e d acts s ↔ wp (findHandler.go f a t) Q E e d acts (s.setVm (s.vm.noted f.method.cls x.catchType (.cls c))))) := by
  simp only [covers] at hx
  obtain ⟨ha, ht⟩ := (resolveClass_links e.toSetting hl).op (op := VmOp.resolveClass f.method.cls x.catchType) rfl
  have hal : s.vm.Alike (s.vm.noted f.method.cls x.catchType (.cls c)) := (Vm.Alike.refl s.vm).noted _ _ _
  obtain ⟨k1, hk1⟩ := hk
  obtain ⟨k2, hk2⟩ := hc
  obtain ⟨k1', hk1', -⟩ := hal.2.2 _ _ hk1
  obtain ⟨k2', hk2', -⟩ := hal.2.2 _ _ hk2
  refine ⟨fun hf => ?_, fun hf => ?_⟩
  · have hf' : (s.vm.noted f.method.cls x.catchType (.cls c)).assignable cell.cls c = true := by rw [hal.assignable]; exact hf
    simp [findHandler.go, hx, h0, ha, ht, hcell, hobj, hk1', hk2', hf', VmOp.dirties, VmOp.acts]
  · have hf' : (s.vm.noted f.method.cls x.catchType (.cls c)).assignable cell.cls c = false := by rw [hal.assignable]; exact hf
    simp [findHandler.go, hx, h0, ha, ht, hcell, hobj, hk1', hk2', hf', VmOp.dirties, VmOp.acts]
theorem tc_go {e : Env} {s₀ : State} {f : JFrame} {a : Addr} {cell : Cell} (hobj : ∀ k, cell.vm ≠ .statics k) (hk0 : ∃ k, s₀.vm.classes[cell.cls]? = some k)
    (x : ExceptionTableEntry) (rest : List ExceptionTableEntry) (hx : covers x f.pc = true) (h0 : x.catchType ≠ 0) {c : ClassId} (hl : s₀.vm.ClassLinks e.platform f.method.cls x.catchType c) (hfit : s₀.vm.assignable cell.cls c = true) :
    ∀ (pre : List ExceptionTableEntry) (S : State), s₀.WarmedH S.vm → S.heap[a]? = some cell → (∀ y ∈ pre, tc_pass e.platform s₀ f.method.cls f.pc cell.cls y) →
      ∃ vm', s₀.WarmedH vm' ∧ ∀ (Q : Handler → Pre) (E : CtlPost) (d : Bool) (acts : List Action), wp (findHandler.go f a (pre ++ x :: rest)) Q E e d acts S ↔ Q (.found x.handlerPc) d acts (S.setVm vm') := by
  obtain ⟨k0, hk0⟩ := hk0
  intro pre
  induction pre with
  | nil =>
    intro S hW hcell _
    obtain ⟨k0', hk0', -⟩ := hW.alike.2.2 _ _ hk0
    obtain ⟨dk, _, _, kt, hd, _, _, _, _, hkt, _, hopen⟩ := hl.here
    obtain ⟨kt', hkt', -⟩ := hW.alike.2.2 _ _ hkt
    exact ⟨_, hW.noted hd hopen (State.rightAt_cls hl), fun Q E d acts => by
      rw [List.nil_append]
      exact (tc_row hx h0 (hW.classLinks hl) hcell hobj ⟨k0', hk0'⟩ ⟨kt', hkt'⟩ Q E d acts).1 (by rw [hW.alike.assignable]; exact hfit)⟩
  | cons y ys ih =>
    intro S hW hcell hpass
    obtain ⟨k0', hk0', -⟩ := hW.alike.2.2 _ _ hk0
    have hrest : ∀ z ∈ ys, tc_pass e.platform s₀ f.method.cls f.pc cell.cls z := fun z hz => hpass z (List.mem_cons_of_mem _ hz)
    by_cases hcov : covers y f.pc = true
    · rcases hpass y List.mem_cons_self with h | ⟨h0', c', hl', hno⟩
      · rw [h] at hcov; cases hcov
      · obtain ⟨dk, _, _, kt, hd, _, _, _, _, hkt, _, hopen⟩ := hl'.here
        obtain ⟨kt', hkt', -⟩ := hW.alike.2.2 _ _ hkt
        obtain ⟨vm', hW', hq⟩ := ih (S.setVm (S.vm.noted f.method.cls y.catchType (.cls c'))) (hW.noted hd hopen (State.rightAt_cls hl')) hcell hrest
        exact ⟨vm', hW', fun Q E d acts => by
          rw [List.cons_append, (tc_row hcov h0' (hW.classLinks hl') hcell hobj ⟨k0', hk0'⟩ ⟨kt', hkt'⟩ Q E d acts).2 (by rw [hW.alike.assignable]; exact hno)]
          exact hq Q E d acts⟩
    · obtain ⟨vm', hW', hq⟩ := ih S hW hcell hrest
      exact ⟨vm', hW', fun Q E d acts => by
        rw [List.cons_append, W.findHandler_go_skip (by simpa using hcov)]
        exact hq Q E d acts⟩
theorem tc_step {e : Env} {s : State} {a : Addr} {f : JFrame} {r : List Frame} {pc : Nat} {vm' : Vm} (hfind : tc_F e s f a (.found pc) vm') :
    (stepThrowing e s a (.java f :: r)).Is ((s.setVm vm').setFrames (.java { f with pc := pc, stack := [.ref a] } :: r)) [] := by
  simp only [stepThrowing, searchFrame, vmDo]
  generalize hr : Sem.go _ e false [] s = res
  obtain ⟨as, rfl, ha⟩ := Sem.eq_ok_of hr (a := Handler.found pc) (s' := s.setVm vm') (acts' := []) (by simp [hfind _ _ _ _])
  exact ⟨rfl, ha⟩
theorem tc_frames (u : State) (vm' : Vm) (F G : List Frame) : ((u.setFrames F).setVm vm').setFrames G = (u.setVm vm').setFrames G := by
  rw [show (u.setFrames F).setVm vm' = (u.setVm vm').setFrames F from rfl, State.setFrames_setFrames]
theorem tc_steps {tb : Tables} {e : Env} {s target : State} {g : JFrame} {c : Code} {below : List Frame} {a : Addr} (h : At s g.method c below) {pc : Nat} {vm' : Vm}
    (hfind : tc_F e ((s.setTop g).pushFrame (.throwing a)) g a (.found pc) vm') (hrest : Steps tb e below ((s.setVm vm').setTop { g with pc := pc, stack := [.ref a] }) target) :
    Steps tb e below ((s.setTop g).pushFrame (.throwing a)) target := by
  obtain ⟨hgo, hw⟩ := h.throwing a
  refine Steps.head hgo hw ?_
  rw [stepThread_throwing (frames_entered h.top _), (tc_step (s := (s.setTop g).pushFrame (.throwing a)) hfind).1]
  obtain ⟨g₀, hg⟩ := Option.isSome_iff_exists.mp h.top
  obtain ⟨r, hr⟩ := State.topJava?_eq_some.mp hg
  have hr' : (s.setVm vm').frames = .java g₀ :: r := hr
  rw [State.setTop_of_frames _ hr'] at hrest
  rw [hr, List.tail_cons, State.pushFrame, tc_frames, State.setTop_of_frames _ hr, tc_frames]
  exact hrest
theorem tc_caught {p : Program} {l : Launch} {e : Env} {R : Room} {s : State} {m₀ : MethodId} {args : Array Value} {below : List Frame} {meth : Method} {c : Code} {T : State} {locs : List Loc} {cells slots : Nat}
    (X : Stand p l e R s m₀ args below meth c T locs cells slots) (a : Addr) {g : JFrame} (hg : g.method = m₀) {cell : Cell} (hcell : T.heap[a]? = some cell) (hobj : cell.vm.isStatics = false) (hk0 : ∃ k, s.vm.classes[cell.cls]? = some k)
    (pre : List ExceptionTableEntry) (x : ExceptionTableEntry) (rest : List ExceptionTableEntry) (hsplit : c.exceptionTable.toList = pre ++ x :: rest)
    (hpass : ∀ y ∈ pre, tc_pass e.platform s m₀.cls g.pc cell.cls y) (hx : covers x g.pc = true) (h0 : x.catchType ≠ 0) {cT : ClassId} (hl : s.vm.ClassLinks e.platform m₀.cls x.catchType cT) (hfit : s.vm.assignable cell.cls cT = true) :
    ∃ vm', Stand p l e R s m₀ args below meth c (T.setVm vm') locs cells slots ∧ Steps p.tables e below ((T.setTop g).pushFrame (.throwing a)) ((T.setVm vm').setTop { g with pc := x.handlerPc, stack := [.ref a] }) := by
  subst hg
  obtain ⟨vm', hW', hq⟩ := tc_go (e := e) (s₀ := s) (f := g) (a := a) (cell := cell) (VmData.ne_statics_of hobj) hk0 x rest hx h0 hl hfit pre ((T.setTop g).pushFrame (.throwing a)) X.warmed hcell hpass
  refine ⟨vm', X.noted hW', tc_steps X.here (fun Q E d acts => ?_) (Steps.refl _)⟩
  rw [W.findHandler_eq (s := (T.setTop g).pushFrame (.throwing a)) (f := g) (meth := meth) (code := c) X.method' X.code, hsplit]
  exact hq Q E d acts
end TC
/-! ===== END ===== -/
/-! ===== BEGIN exceptions that leave a method, and their catching by the caller (launches without stack traces) ===== -/
section VXA
/-! The laws vx_back, vx_callV, vx_callS, vx_callSW, vx_throw0, vx_throwS follow proofs of the library, with one case more: JvmDerived/Free/Laws.lean (Back.of_free), Shelf42/LK1.lean (callV, callS), Shelf/KitTraced.lean (throwNew0V, throwNewS). -/
/-- where a method has thrown q: the class by its name, the cell, what was written, the world -/
def vx_T (XC : String → State → State → Prop) (st : State) (q : Addr) (t : State) (mc ms : Nat) (free : Addr → Prop) : Prop :=
  ∃ (E : String) (ce : Cell) (L : List Loc), XC E st t ∧ t.heap[q]? = some ce ∧ ce.vm = .none ∧ st.vm.findClass E = some ce.cls ∧ st.WarmedH t.vm ∧ st.sameButNew ({ t with vm := st.vm } : State) L mc ms ∧ ∀ z ∈ L, free z.base
def vx_Q (Qc : Array Value → State → Outcome → State → Prop) (XC : String → State → State → Prop) (mc ms : Nat) (free : Addr → Prop) : Array Value → State → Outcome → State → Prop := fun a st o t =>
  (Qc a st o t ∧ ∃ L, FrameEnd st o t L mc ms ∧ ∀ q ∈ L, free q.base) ∨ ∃ q, o = .threw q ∧ vx_T XC st q t mc ms free
/-- a callee that returns or throws -/
def vx_Met (l : Launch) (y : MethodName) (ws : List Cond) (rm : Room) (Pc : Array Value → State → Prop) (Qc : Array Value → State → Outcome → State → Prop) (XC : String → State → State → Prop) (mc ms : Nat) (free : Addr → Prop) : Prop :=
  MetFree l y (headSpec ws rm) Pc (fun _ _ _ _ _ => True) (vx_Q Qc XC mc ms free)
def vx_Post (XC : String → State → State → Prop) (mc ms : Nat) (free : Addr → Prop) : Pt → Array Value → Addr → Pt → Prop := fun A a q B =>
  ∃ (g : JFrame) (mk : MethodId) (t : State) (L : List Loc) (E : String) (ce : Cell), B.U.heap = t.heap ∧ B.U.vm = t.vm ∧ XC E (A.U.calling g mk a) t ∧ t.heap[q]? = some ce ∧ ce.vm = .none ∧ A.U.vm.findClass E = some ce.cls ∧ B.locs = A.locs ++ L ∧ (∀ z ∈ L, free z.base) ∧ B.cells = A.cells + mc ∧ B.slots = A.slots + ms
def vx_Back (l : Launch) (R : Room) (p : Program) (e : Env) (below : List Frame) (s : State) (sargs : Array Value) (y : MethodName) (len W9 : Nat)
    (Pre : Pt → Array Value → Prop) (Post : Pt → Array Value → Option Value → Pt → Prop) (PostX : Pt → Array Value → Addr → Pt → Prop) : Prop :=
  ∀ (m : MethodId) (meth : Method) (c : Code) (A : Pt) (g : JFrame) (ig : Instr) (mk : MethodId) (a : Array Value),
    Stand p l e R s m sargs below meth c A.U A.locs A.cells A.slots → g.method = m → g.locals.size = c.maxLocals → decode c.code g.pc = .ok (ig, len) →
    2 * g.monitorRoom + (g.stack.map fun v => v.category).sum ≤ W9 → A.U.methodNamed? y = some mk → Pre A a →
    (∃ (v : Option Value) (B : Pt), Stand p l e R s m sargs below meth c B.U B.locs B.cells B.slots ∧ Post A a v B ∧
      Steps p.tables e below (doInvoke e (A.U.setTop g) [] mk a).1 (B.U.setTop { g with pc := g.pc + len, stack := v.toList ++ g.stack })) ∨
    (∃ (q : Addr) (B : Pt), Stand p l e R s m sargs below meth c B.U B.locs B.cells B.slots ∧ PostX A a q B ∧
      Steps p.tables e below (doInvoke e (A.U.setTop g) [] mk a).1 ((B.U.setTop g).pushFrame (.throwing q)))
section Payer
variable {l : Launch} {R : Room} {p : Program} {e : Env} {below : List Frame} {s : State} {sargs : Array Value} {y : MethodName} {len W9 : Nat}
theorem vx_back {ws : List Cond} {rm : Room} {Pc : Array Value → State → Prop} {Qc : Array Value → State → Outcome → State → Prop} {XC : String → State → State → Prop} {mc ms : Nat} {free : Addr → Prop} {bytes : ByteArray} {maxL : Nat} {ret : Option FieldType}
    (hM : vx_Met l y ws rm Pc Qc XC mc ms free) (hblind : FrameBlind Pc) (hrc : rm.cells = mc) (hrs : rm.slots = ms)
    (hframes : rm.frames + 1 ≤ R.frames) (hlocals : W9 + (maxL + 11) + rm.locals ≤ R.locals)
    (hws : ∀ w ∈ ws, ∀ a' U, s.WarmedH U.vm → w.before a' U = true) (hcode : Cond.code y bytes maxL ret ∈ ws) (hinit : ∀ a' U, s.WarmedH U.vm → (Cond.initialized y.cls).before a' U = true) :
    vx_Back l R p e below s sargs y len W9 (PreOf R mc ms Pc) (PostOf Qc mc ms free) (vx_Post XC mc ms free) := by
  intro m meth c A g ig mk a X hg hsize hdg hW hn hp
  have h1 : (headSpec ws rm).pre.before a A.U = true := atoms_intro fun w hw => hws w hw _ _ X.warmed
  have h2 : (Cond.code y bytes maxL ret).before a A.U = true := hws _ hcode _ _ X.warmed
  have h3 : (Cond.initialized y.cls).before a A.U = true := hinit _ _ X.warmed
  have h4 : A.cells + (headSpec ws rm).room.cells ≤ R.cells := by rw [show (headSpec ws rm).room.cells = mc from hrc]; exact hp.1
  have h5 : A.slots + (headSpec ws rm).room.slots ≤ R.slots := by rw [show (headSpec ws rm).room.slots = ms from hrs]; exact hp.2.1
  have hPc : Pc a (A.U.calling g mk a) := hblind _ _ _ _ hp.2.2
  obtain ⟨U, Ls, c0, s0⟩ := A
  dsimp only [Pt.U, Pt.locs, Pt.cells, Pt.slots] at h1 h2 h3 h4 h5 X hn hPc ⊢
  obtain ⟨methY, cY, hmY, hcY, -, hlY, -, -, -, -⟩ := Cond.code_spec hn h2
  obtain ⟨kY, hkY, -⟩ := className_of_methodNamed hn
  have hinitY : kY.init = .initialized := Cond.initialized_spec (findClass_of_methodNamed hn) hkY h3
  have h : At U g.method c below := by rw [hg]; exact X.here
  have hlocals9 : W9 + (maxL + 11) + (headSpec ws rm).room.locals ≤ R.locals := hlocals
  have happ : (headSpec ws rm).appliesLoose y e.platform (U.calling g mk a) = true :=
    Spec.appliesLoose_calling (g := g) h hdg hn hkY hinitY
      (X.room_calling (g := g) (R' := (headSpec ws rm).room) hsize hmY hcY hframes (by rw [hlY]; omega) h4 h5) h1
  obtain ⟨mid, hmid⟩ := h.above
  have hfr : (U.setTop g).frames = (.java g :: mid) ++ below := by rw [State.frames_setTop' g h.top, hmid]; rfl
  obtain ⟨o, s₂, hsteps, -, hend, hq⟩ := Steps.callFree hM p X.admits X.cas X.clock (acts := []) hfr happ hPc trivial
  have hq' : vx_Q Qc XC mc ms free a (U.calling g mk a) o s₂ := hq
  rw [State.frames_setTop' g h.top] at hend
  obtain ⟨g₀, hg0⟩ := Option.isSome_iff_exists.mp h.top
  obtain ⟨r, hr⟩ := State.topJava?_eq_some.mp hg0
  have hr' : (({ U with heap := s₂.heap, slotsUsed := s₂.slotsUsed } : State).setVm s₂.vm).frames = .java g₀ :: r := hr
  rcases hq' with ⟨hqc, L, hfe, hL⟩ | ⟨q, rfl, E, ce, L, hx, hce, hcv, hcl, hW₂, hsm, hL⟩
  · obtain ⟨⟨v, rfl⟩, hW₂, e2, q2, q3, q4, q5, q6⟩ := id hfe
    have e3 : s₂ = ({ (U.calling g mk a).setFrames s₂.frames with heap := s₂.heap, slotsUsed := s₂.slotsUsed } : State).setVm s₂.vm := by
      have : s₂ = ({ s₂ with vm := (U.calling g mk a).vm } : State).setVm s₂.vm := rfl
      rw [e2] at this
      exact this
    obtain ⟨c₂, i₂, len₂, hc₂, hd₂, hf₂⟩ := hend
    have hW' : U.WarmedH s₂.vm := hW₂
    have hcc : c₂ = c := by
      have h1 : s₂.code? g.method = U.code? g.method := by
        rw [State.code?_eq, State.code?_eq, hW'.alike.method?]
      exact Option.some.inj (hc₂.symm.trans (h1.trans h.code))
    subst hcc
    have hlen : len₂ = len := by rw [hdg] at hd₂; cases hd₂; rfl
    subst hlen
    have hs₂ : s₂ = (({ U with heap := s₂.heap, slotsUsed := s₂.slotsUsed } : State).setVm s₂.vm).setTop { g with pc := g.pc + len₂, stack := v.toList ++ g.stack } := by
      refine e3.trans ?_
      rw [hf₂, State.calling_eq h.top, State.setFrames_setFrames, State.setTop_of_frames _ hr', hr]
      rfl
    have hsame : U.sameButNew ({ U with heap := s₂.heap, slotsUsed := s₂.slotsUsed } : State) L mc ms := by
      refine ⟨?_, q2, q3, q4, q5, q6⟩
      obtain ⟨t, ht, -⟩ := State.frames_cons hr
      show ({ U with heap := s₂.heap, slotsUsed := s₂.slotsUsed } : State) = { U.setFrames U.frames with heap := s₂.heap, slotsUsed := s₂.slotsUsed }
      rw [State.setFrames_self ht]
    subst hg
    refine Or.inl ⟨v, ⟨(({ U with heap := s₂.heap, slotsUsed := s₂.slotsUsed } : State).setVm s₂.vm), Ls ++ L, c0 + mc, s0 + ms⟩,
      ⟨X.admits, X.cas, X.clock, X.frames, X.room, X.hears, X.method, X.code, (X.here.setHeapUsed s₂.heap s₂.slotsUsed).setVm hW'.alike, X.tail, State.WarmedH.trans X.warmed hW', X.limits, X.bytes, X.same.trans (hsame.setVm s.vm)⟩,
      ⟨g, mk, s₂, L, rfl, rfl, hqc, rfl, hL, rfl, rfl⟩, ?_⟩
    show Steps p.tables e below _ ((({ U with heap := s₂.heap, slotsUsed := s₂.slotsUsed } : State).setVm s₂.vm).setTop { g with pc := g.pc + len₂, stack := v.toList ++ g.stack })
    rw [← hs₂]
    exact hsteps
  · obtain ⟨e2, q2, q3, q4, q5, q6⟩ := id hsm
    have e3 : s₂ = ({ (U.calling g mk a).setFrames s₂.frames with heap := s₂.heap, slotsUsed := s₂.slotsUsed } : State).setVm s₂.vm := by
      have : s₂ = ({ s₂ with vm := (U.calling g mk a).vm } : State).setVm s₂.vm := rfl
      rw [e2] at this
      exact this
    have hf₂ : s₂.frames = .throwing q :: .java g :: U.frames.tail := hend
    have hW' : U.WarmedH s₂.vm := hW₂
    have hs₂ : s₂ = ((({ U with heap := s₂.heap, slotsUsed := s₂.slotsUsed } : State).setVm s₂.vm).setTop g).pushFrame (.throwing q) := by
      refine e3.trans ?_
      rw [hf₂, State.calling_eq h.top, State.setFrames_setFrames, State.pushFrame, State.frames_setTop _ hr', State.setTop_of_frames _ hr', State.setFrames_setFrames, hr]
      rfl
    have hsame : U.sameButNew ({ U with heap := s₂.heap, slotsUsed := s₂.slotsUsed } : State) L mc ms := by
      refine ⟨?_, q2, q3, q4, q5, q6⟩
      obtain ⟨t, ht, -⟩ := State.frames_cons hr
      show ({ U with heap := s₂.heap, slotsUsed := s₂.slotsUsed } : State) = { U.setFrames U.frames with heap := s₂.heap, slotsUsed := s₂.slotsUsed }
      rw [State.setFrames_self ht]
    subst hg
    refine Or.inr ⟨q, ⟨(({ U with heap := s₂.heap, slotsUsed := s₂.slotsUsed } : State).setVm s₂.vm), Ls ++ L, c0 + mc, s0 + ms⟩,
      ⟨X.admits, X.cas, X.clock, X.frames, X.room, X.hears, X.method, X.code, (X.here.setHeapUsed s₂.heap s₂.slotsUsed).setVm hW'.alike, X.tail, State.WarmedH.trans X.warmed hW', X.limits, X.bytes, X.same.trans (hsame.setVm s.vm)⟩,
      ⟨g, mk, s₂, L, E, ce, rfl, rfl, hx, hce, hcv, hcl, rfl, hL, rfl, rfl⟩, ?_⟩
    show Steps p.tables e below _ (((({ U with heap := s₂.heap, slotsUsed := s₂.slotsUsed } : State).setVm s₂.vm).setTop g).pushFrame (.throwing q))
    rw [← hs₂]
    exact hsteps
end Payer
section Calls
variable {p : Program} {l : Launch} {e : Env} {R : Room} {s : State} {m : MethodId} {args : Array Value} {below : List Frame} {meth : Method} {c : Code} {T : State} {locs : List Loc} {cells slots : Nat}
theorem vx_callV (X : Stand p l e R s m args below meth c T locs cells slots) (hexec : p.tables.exec = Jvm.exec) {own C : String} {index : Nat} {y : MethodName} {bytes : ByteArray} {maxL : Nat} {ret : Option FieldType}
    (hown : s.vm.findClass own = some m.cls) (hlink : (Cond.methodLink own index y).before args s = true) (hinst : (Cond.instanceMethod y).before args s = true) (hsel : (Cond.selects C y y).before args s = true)
    (hcode : (Cond.code y bytes maxL ret).before args s = true) (hy : y.cls ≠ "java/lang/invoke/MethodHandle" ∧ y.cls ≠ "java/lang/invoke/VarHandle")
    {W9 : Nat} {Pre : Pt → Array Value → Prop} {Post : Pt → Array Value → Option Value → Pt → Prop} {PostX : Pt → Array Value → Addr → Pt → Prop} (hK : vx_Back l R p e below s args y 3 W9 Pre Post PostX)
    {b : Addr} {cellB : Cell} (hcell : T.heap[b]? = some cellB) (hobj : cellB.vm.isStatics = false) (hcls : s.vm.findClass C = some cellB.cls)
    {g : JFrame} (hg : g.method = m) (hsize : g.locals.size = c.maxLocals) {argsL rest : List Value} (hlen : ∀ sig, parseMethodDescriptor y.desc = some sig → argsL.length = sig.parameters.length)
    (hstack : g.stack = argsL.reverse ++ .ref b :: rest) (hW : 2 * g.monitorRoom + (rest.map fun v => v.category).sum ≤ W9) (hdg : decode c.code g.pc = .ok (.invokevirtual index, 3))
    (hpre : ∀ vm₁, s.WarmedH vm₁ → Pre ⟨T.setVm vm₁, locs, cells, slots⟩ (Value.ref b :: argsL).toArray) :
    (∃ (v : Option Value) (vm₁ : Vm) (B : Pt), s.WarmedH vm₁ ∧ Stand p l e R s m args below meth c B.U B.locs B.cells B.slots ∧ Post ⟨T.setVm vm₁, locs, cells, slots⟩ (Value.ref b :: argsL).toArray v B ∧
      ∀ target, Steps p.tables e below (B.U.setTop { g with pc := g.pc + 3, stack := v.toList ++ rest }) target → Steps p.tables e below (T.setTop g) target) ∨
    (∃ (q : Addr) (vm₁ : Vm) (B : Pt), s.WarmedH vm₁ ∧ Stand p l e R s m args below meth c B.U B.locs B.cells B.slots ∧ PostX ⟨T.setVm vm₁, locs, cells, slots⟩ (Value.ref b :: argsL).toArray q B ∧
      Steps p.tables e below (T.setTop g) ((B.U.setTop { g with stack := rest }).pushFrame (.throwing q))) := by
  obtain ⟨mk, methM, hnamed, hmethM, hstM, habM⟩ := Cond.instanceMethod_spec hinst
  obtain ⟨methM', cM, hmethM', -, -, -, -, -, -, hsigM⟩ := Cond.code_spec hnamed hcode
  cases hmethM.symm.trans hmethM'
  obtain ⟨c2, r2, m2, q1, q2, q3, q4, kP, hkP, hkPi⟩ := Cond.selects_spec hsel
  cases hcls.symm.trans q1
  cases (State.methodFound?_of_named hnamed hy).symm.trans q2
  cases hnamed.symm.trans q3
  have hselP : selectMethod e.platform s.vm cellB.cls mk = .method mk := by rw [Launch.admits_selectMethod X.admits]; exact q4
  obtain ⟨vm₁, X₁, hstep₁⟩ := X.invokevirtual hexec hown hlink hnamed hmethM hstM hkP hkPi hy (a := b) (cell := cellB) hcell
    (fun z h => by rw [h] at hobj; cases hobj) hselP hmethM habM hkP hkPi (g := g) hg (argsL := argsL) (rest := rest) (hlen _ hsigM) hstack hdg
  rcases hK m meth c ⟨T.setVm vm₁, locs, cells, slots⟩ { g with stack := rest } (.invokevirtual index) mk (Value.ref b :: argsL).toArray X₁ hg hsize hdg hW (X₁.named hnamed) (hpre vm₁ X₁.warmed) with ⟨v, B, X', hpost, hsteps⟩ | ⟨q, B, X', hpost, hsteps⟩
  · exact Or.inl ⟨v, vm₁, B, X₁.warmed, X', hpost, fun target h => hstep₁ _ fun acts => by rw [doInvoke_state]; exact hsteps.trans h⟩
  · exact Or.inr ⟨q, vm₁, B, X₁.warmed, X', hpost, hstep₁ _ fun acts => by rw [doInvoke_state]; exact hsteps⟩
theorem vx_callS (X : Stand p l e R s m args below meth c T locs cells slots) (hexec : p.tables.exec = Jvm.exec) {own : String} {index : Nat} {y : MethodName} {bytes : ByteArray} {maxL : Nat} {ret : Option FieldType}
    (hown : s.vm.findClass own = some m.cls) (hlink : (Cond.methodLink own index y).before args s = true) (hstat : (Cond.static y).before args s = true) (hinit : (Cond.initialized y.cls).before args s = true)
    (hcode : (Cond.code y bytes maxL ret).before args s = true) (hy : y.cls ≠ "java/lang/invoke/MethodHandle" ∧ y.cls ≠ "java/lang/invoke/VarHandle")
    {W9 : Nat} {Pre : Pt → Array Value → Prop} {Post : Pt → Array Value → Option Value → Pt → Prop} {PostX : Pt → Array Value → Addr → Pt → Prop} (hK : vx_Back l R p e below s args y 3 W9 Pre Post PostX)
    {g : JFrame} (hg : g.method = m) (hsize : g.locals.size = c.maxLocals) {argsL rest : List Value} (hlen : ∀ sig, parseMethodDescriptor y.desc = some sig → argsL.length = sig.parameters.length)
    (hstack : g.stack = argsL.reverse ++ rest) (hW : 2 * g.monitorRoom + (rest.map fun v => v.category).sum ≤ W9) (hdg : decode c.code g.pc = .ok (.invokestatic index, 3))
    (hpre : ∀ vm₁, s.WarmedH vm₁ → Pre ⟨T.setVm vm₁, locs, cells, slots⟩ argsL.toArray) :
    (∃ (v : Option Value) (vm₁ : Vm) (B : Pt), s.WarmedH vm₁ ∧ Stand p l e R s m args below meth c B.U B.locs B.cells B.slots ∧ Post ⟨T.setVm vm₁, locs, cells, slots⟩ argsL.toArray v B ∧
      ∀ target, Steps p.tables e below (B.U.setTop { g with pc := g.pc + 3, stack := v.toList ++ rest }) target → Steps p.tables e below (T.setTop g) target) ∨
    (∃ (q : Addr) (vm₁ : Vm) (B : Pt), s.WarmedH vm₁ ∧ Stand p l e R s m args below meth c B.U B.locs B.cells B.slots ∧ PostX ⟨T.setVm vm₁, locs, cells, slots⟩ argsL.toArray q B ∧
      Steps p.tables e below (T.setTop g) ((B.U.setTop { g with stack := rest }).pushFrame (.throwing q))) := by
  obtain ⟨mk, hnamed⟩ := Cond.code_named hcode
  obtain ⟨methM, cM, hmethM, -, -, -, -, -, -, hsigM⟩ := Cond.code_spec hnamed hcode
  have hstatic : methM.isStatic = true := Cond.static_spec hnamed hmethM hstat
  obtain ⟨kP, hkP, -⟩ := className_of_methodNamed hnamed
  have hinitP : kP.init = .initialized := Cond.initialized_spec (findClass_of_methodNamed hnamed) hkP hinit
  obtain ⟨vm₁, X₁, hstep₁⟩ := X.invokestatic hexec hown hlink hnamed hmethM hstatic hkP hinitP hy (g := g) hg (argsL := argsL) (rest := rest) (hlen _ hsigM) hstack hdg
  rcases hK m meth c ⟨T.setVm vm₁, locs, cells, slots⟩ { g with stack := rest } (.invokestatic index) mk argsL.toArray X₁ hg hsize hdg hW (X₁.named hnamed) (hpre vm₁ X₁.warmed) with ⟨v, B, X', hpost, hsteps⟩ | ⟨q, B, X', hpost, hsteps⟩
  · exact Or.inl ⟨v, vm₁, B, X₁.warmed, X', hpost, fun target h => hstep₁ _ fun acts => by rw [doInvoke_state]; exact hsteps.trans h⟩
  · exact Or.inr ⟨q, vm₁, B, X₁.warmed, X', hpost, hstep₁ _ fun acts => by rw [doInvoke_state]; exact hsteps⟩
end Calls
theorem vx_cls {s : State} {T : State} {vm₁ : Vm} {E : String} {k : ClassId} (hW : s.WarmedH vm₁) (h : (T.setVm vm₁).vm.findClass E = some k) : s.vm.findClass E = some k := by
  have h1 : vm₁.findClass E = some k := h
  rw [hW.alike.findClass] at h1
  exact h1
/-- the method's frame g, with q thrown over it -/
def vx_W (p : Program) (l : Launch) (e : Env) (R : Room) (s : State) (m : MethodId) (args : Array Value) (below : List Frame) (meth : Method) (c : Code) (H : Heap) (locs : List Loc) (cells slots : Nat) (Q : State → Prop) (g : JFrame) (q : Addr) : Prop :=
  ∀ T : State, T.heap = H → Stand p l e R s m args below meth c T locs cells slots → ∃ t, Steps p.tables e below ((T.setTop g).pushFrame (.throwing q)) t ∧ Q t
def vx_Run (p : Program) (l : Launch) (e : Env) (R : Room) (s : State) (m : MethodId) (args : Array Value) (below : List Frame) (meth : Method) (c : Code) (H : Heap) (locs : List Loc) (cells slots mc ms : Nat) (g : JFrame) (rest : List Value) (Qa : State → Outcome → State → Prop) (XC : String → State → State → Prop) (free : Addr → Prop) : Prop :=
  ∀ T : State, T.heap = H → Stand p l e R s m args below meth c T locs cells slots →
    (∃ (v : Option Value) (st₀ t T' : State) (L : List Loc), st₀.heap = H ∧ Stand p l e R s m args below meth c T' (locs ++ L) (cells + mc) (slots + ms) ∧ (∀ q ∈ L, free q.base) ∧ T'.heap = t.heap ∧ T'.vm = t.vm ∧ Qa st₀ (.returned v) t ∧
      Goes p e below T g T' { g with pc := g.pc + 3, stack := v.toList ++ rest }) ∨
    (∃ (q : Addr) (st₀ t T' : State) (L : List Loc) (E : String) (ce : Cell), st₀.heap = H ∧ Stand p l e R s m args below meth c T' (locs ++ L) (cells + mc) (slots + ms) ∧ (∀ z ∈ L, free z.base) ∧ T'.heap = t.heap ∧ T'.vm = t.vm ∧ XC E st₀ t ∧ t.heap[q]? = some ce ∧ ce.vm = .none ∧ s.vm.findClass E = some ce.cls ∧
      Steps p.tables e below (T.setTop g) ((T'.setTop { g with stack := rest }).pushFrame (.throwing q)))
def vx_X {S : Type} (px : S → Prop) (B : String → S → State → Prop) (A : Nat → Prop) : String → State → State → Prop := fun E st t => ∃ u : S, px u ∧ B E u t ∧ va_F A st t
section Runs
variable {p : Program} {l : Launch} {e : Env} {R : Room} {s : State} {m : MethodId} {args : Array Value} {below : List Frame} {meth : Method} {c : Code} {H : Heap} {locs : List Loc} {cells slots : Nat}
variable {y : MethodName} {bytes cc : ByteArray} {maxL nL mc ms n index : Nat} {ret : Option FieldType} {ws : List Cond} {rm : Room} {Pc : Array Value → State → Prop} {Qc : Array Value → State → Outcome → State → Prop} {XC : String → State → State → Prop} {free : Addr → Prop} {Ts : List Cond} {own C : String} {b : Addr} {As rest : List Value} {g : JFrame}
theorem vx_callBack (cb : CallB R s args own index y bytes maxL ret ws rm mc ms n) (hM : vx_Met l y ws rm Pc Qc XC mc ms free) (hbl : FrameBlind Pc) : vx_Back l R p e below s args y 3 8 (PreOf R mc ms Pc) (PostOf Qc mc ms free) (vx_Post XC mc ms free) := by
  obtain ⟨hrc, hrs, hfr, hlo, hws, hcw, -, hini, -⟩ := cb
  exact vx_back (bytes := bytes) (maxL := maxL) (ret := ret) hM hbl hrc hrs hfr hlo hws hcw (fun a' U hW => word_at hW (Or.inl (by first | rfl | simp [Cond.onTables, Cond.keeps, Cond.steady])) hini)
theorem vx_runV (S : CallFix p m c cc nL s args Ts own) (hM : vx_Met l y ws rm Pc Qc XC mc ms free) (cw : CallW R s args own C index y bytes maxL ret ws rm mc ms n) (hp : PreV s H C b Pc As)
    (hg : g.method = m) (hn : As.length = n) (hsize : g.locals.size = nL) (hstack : g.stack = As.reverse ++ .ref b :: rest) (hW : 2 * g.monitorRoom + (rest.map fun v => v.category).sum ≤ 8) (hdg : decode cc g.pc = .ok (.invokevirtual index, 3)) (hf : cells + mc ≤ R.cells ∧ slots + ms ≤ R.slots) :
    vx_Run p l e R s m args below meth c H locs cells slots mc ms g rest (Qc (Value.ref b :: As).toArray) XC free := by
  have hK : vx_Back l R p e below s args y 3 8 (PreOf R mc ms Pc) (PostOf Qc mc ms free) (vx_Post XC mc ms free) := vx_callBack cw.1 hM hp.1
  obtain ⟨⟨-, -, -, -, -, -, hcode, -, hy, hlen, hl⟩, hin, hse⟩ := cw
  obtain ⟨hx, hb, hml, ho, -⟩ := S
  obtain ⟨-, ⟨cellB, hcB, hoB, hclB⟩, hPc⟩ := hp
  intro T hT X
  rcases vx_callV X hx (C := C) (bytes := bytes) (maxL := maxL) (ret := ret) ho hl hin hse hcode hy hK (by rw [hT]; exact hcB) hoB hclB hg (hsize.trans hml.symm) (argsL := As) (rest := rest) (fun sig h => hn.trans (hlen sig h)) hstack hW (by rw [hb]; exact hdg)
    (fun vm₁ hW₁ => ⟨hf.1, hf.2, hPc (T.setVm vm₁) hT hW₁⟩) with ⟨v, vm₁, ⟨U', l2, c2, s2⟩, hW₁, X', ⟨g', mk, t, L, e1, e2, hq, h1, hL, h2, h3⟩, st⟩ | ⟨q, vm₁, ⟨U', l2, c2, s2⟩, hW₁, X', ⟨g', mk, t, L, E, ce, e1, e2, hq, hce, hcv, hcl, h1, hL, h2, h3⟩, st⟩
  · dsimp only [Pt.U, Pt.locs, Pt.cells, Pt.slots] at X' e1 e2 h1 h2 h3 st
    subst h1; subst h2; subst h3
    exact Or.inl ⟨v, (T.setVm vm₁).calling g' mk (Value.ref b :: As).toArray, t, U', L, hT, X', hL, e1, e2, hq, st⟩
  · dsimp only [Pt.U, Pt.locs, Pt.cells, Pt.slots] at X' e1 e2 h1 h2 h3 st hcl
    subst h1; subst h2; subst h3
    exact Or.inr ⟨q, (T.setVm vm₁).calling g' mk (Value.ref b :: As).toArray, t, U', L, E, ce, hT, X', hL, e1, e2, hq, hce, hcv, vx_cls hW₁ hcl, st⟩
theorem vx_runS (S : CallFix p m c cc nL s args Ts own) (hM : vx_Met l y ws rm Pc Qc XC mc ms free) (cw : CallB R s args own index y bytes maxL ret ws rm mc ms n ∧ (Cond.static y).before args s = true) (hp : PreS s H Pc As)
    (hg : g.method = m) (hn : As.length = n) (hsize : g.locals.size = nL) (hstack : g.stack = As.reverse ++ rest) (hW : 2 * g.monitorRoom + (rest.map fun v => v.category).sum ≤ 8) (hdg : decode cc g.pc = .ok (.invokestatic index, 3)) (hf : cells + mc ≤ R.cells ∧ slots + ms ≤ R.slots) :
    vx_Run p l e R s m args below meth c H locs cells slots mc ms g rest (Qc As.toArray) XC free := by
  have hK : vx_Back l R p e below s args y 3 8 (PreOf R mc ms Pc) (PostOf Qc mc ms free) (vx_Post XC mc ms free) := vx_callBack cw.1 hM hp.1
  obtain ⟨⟨-, -, -, -, -, -, hcode, hini, hy, hlen, hl⟩, hstt⟩ := cw
  obtain ⟨hx, hb, hml, ho, -⟩ := S
  intro T hT X
  rcases vx_callS X hx (bytes := bytes) (maxL := maxL) (ret := ret) ho hl hstt hini hcode hy hK hg (hsize.trans hml.symm) (argsL := As) (rest := rest) (fun sig h => hn.trans (hlen sig h)) hstack hW (by rw [hb]; exact hdg)
    (fun vm₁ hW₁ => ⟨hf.1, hf.2, hp.2 (T.setVm vm₁) hT hW₁⟩) with ⟨v, vm₁, ⟨U', l2, c2, s2⟩, hW₁, X', ⟨g', mk, t, L, e1, e2, hq, h1, hL, h2, h3⟩, st⟩ | ⟨q, vm₁, ⟨U', l2, c2, s2⟩, hW₁, X', ⟨g', mk, t, L, E, ce, e1, e2, hq, hce, hcv, hcl, h1, hL, h2, h3⟩, st⟩
  · dsimp only [Pt.U, Pt.locs, Pt.cells, Pt.slots] at X' e1 e2 h1 h2 h3 st
    subst h1; subst h2; subst h3
    exact Or.inl ⟨v, (T.setVm vm₁).calling g' mk As.toArray, t, U', L, hT, X', hL, e1, e2, hq, st⟩
  · dsimp only [Pt.U, Pt.locs, Pt.cells, Pt.slots] at X' e1 e2 h1 h2 h3 st hcl
    subst h1; subst h2; subst h3
    exact Or.inr ⟨q, (T.setVm vm₁).calling g' mk As.toArray, t, U', L, E, ce, hT, X', hL, e1, e2, hq, hce, hcv, vx_cls hW₁ hcl, st⟩
end Runs
section Rows
variable {p : Program} {l : Launch} {e : Env} {R : Room} {s : State} {m : MethodId} {args : Array Value} {below : List Frame} {meth : Method} {c : Code} {H : Heap} {locs : List Loc} {cells slots : Nat} {Q : State → Prop}
variable {mc ms : Nat} {free : Addr → Prop} {A0 A1 : Nat → Prop} {H0 : Heap} {a : Array Value} {pc : Nat} {ls : Array Slot} {st0 rest : List Value}
theorem vx_keep {st₀ t T' : State} {L : List Loc} (h0 : st₀.heap = H) (e1 : T'.heap = t.heap) (hS : va_S A0 H0 H locs) (hA : ∀ q, q < H.size → A1 q → A0 q) (hf : ∀ q, free q → A0 q) (hL : ∀ q ∈ L, free q.base) (hF : va_F A1 st₀ t) :
    H.size ≤ T'.heap.size ∧ (∀ q : Nat, q < H.size → ¬ A1 q → T'.heap[q]? = H[q]?) ∧ va_S A0 H0 T'.heap (locs ++ L) := by
  obtain ⟨hz, hk⟩ := hF
  rw [h0] at hz hk
  exact ⟨by rw [e1]; exact hz, fun q h1 h2 => by rw [e1]; exact hk q h1 h2,
    ⟨Nat.le_trans hS.1 (by rw [e1]; exact hz), fun q h1 h2 => by rw [e1, hk q (Nat.lt_of_lt_of_le h1 hS.1) (fun z => h2 (hA q (Nat.lt_of_lt_of_le h1 hS.1) z))]; exact hS.2.1 q h1 h2, fun q hq => by
      rcases List.mem_append.mp hq with h | h
      · exact hS.2.2 q h
      · exact hf _ (hL q h)⟩⟩
theorem vx_calli {S SX : Type} {post : Int32 → S → Prop} {px : SX → Prop} {B : S → State → Prop} {BX : String → SX → State → Prop} {AX : Nat → Prop} (hr : vx_Run p l e R s m args below meth c H locs cells slots mc ms (F0 m pc ls st0) rest (va_Qi post B A1 a) (vx_X px BX AX) free) (hS : va_S A0 H0 H locs) (hA : ∀ q, q < H.size → A1 q → A0 q) (hf : ∀ q, free q → A0 q) (hAX : ∀ q, q < H.size → AX q → A0 q)
    (kx : ∀ (E : String) (ce : Cell) (q9 : Addr) (u : SX) (t : State) (H1 : Heap) (locs1 : List Loc), t.heap = H1 → s.vm.Alike t.vm → px u → BX E u t → H.size ≤ H1.size → (∀ q : Nat, q < H.size → ¬ AX q → H1[q]? = H[q]?) → va_S A0 H0 H1 locs1 → H1[q9]? = some ce → ce.vm = .none → s.vm.findClass E = some ce.cls → vx_W p l e R s m args below meth c H1 locs1 (cells + mc) (slots + ms) Q (F0 m pc ls rest) q9)
    (kk : ∀ (r : Int32) (u : S) (t : State) (H1 : Heap) (locs1 : List Loc), t.heap = H1 → s.vm.Alike t.vm → post r u → B u t → H.size ≤ H1.size → (∀ q : Nat, q < H.size → ¬ A1 q → H1[q]? = H[q]?) → va_S A0 H0 H1 locs1 → W p l e R s m args below meth c H1 locs1 (cells + mc) (slots + ms) Q (F0 m (pc + 3) ls (.int r :: rest))) : W p l e R s m args below meth c H locs cells slots Q (F0 m pc ls st0) := by
  intro T hT X
  rcases hr T hT X with ⟨v, st₀, t, T', L, h0, X', hL, e1, e2, ⟨⟨r, u, hv, hp, hb⟩, hF⟩, st⟩ | ⟨q, st₀, t, T', L, E, ce, h0, X', hL, e1, e2, ⟨u, hp, hb, hF⟩, hce, hcv, hcl, st⟩
  · cases hv
    obtain ⟨k1, k2, k3⟩ := vx_keep h0 e1 hS hA hf hL hF
    obtain ⟨t2, a1, b1⟩ := kk r u t T'.heap (locs ++ L) e1.symm (by rw [← e2]; exact X'.warmed.alike) hp hb k1 k2 k3 T' rfl X'
    exact ⟨t2, st t2 a1, b1⟩
  · obtain ⟨k1, k2, k3⟩ := vx_keep h0 e1 hS hAX hf hL hF
    obtain ⟨t2, a1, b1⟩ := kx E ce q u t T'.heap (locs ++ L) e1.symm (by rw [← e2]; exact X'.warmed.alike) hp hb k1 k2 k3 (by rw [e1]; exact hce) hcv hcl T' rfl X'
    exact ⟨t2, st.trans a1, b1⟩
theorem vx_calll {S SX : Type} {post : Int64 → S → Prop} {px : SX → Prop} {B : S → State → Prop} {BX : String → SX → State → Prop} {AX : Nat → Prop} (hr : vx_Run p l e R s m args below meth c H locs cells slots mc ms (F0 m pc ls st0) rest (va_Ql post B A1 a) (vx_X px BX AX) free) (hS : va_S A0 H0 H locs) (hA : ∀ q, q < H.size → A1 q → A0 q) (hf : ∀ q, free q → A0 q) (hAX : ∀ q, q < H.size → AX q → A0 q)
    (kx : ∀ (E : String) (ce : Cell) (q9 : Addr) (u : SX) (t : State) (H1 : Heap) (locs1 : List Loc), t.heap = H1 → s.vm.Alike t.vm → px u → BX E u t → H.size ≤ H1.size → (∀ q : Nat, q < H.size → ¬ AX q → H1[q]? = H[q]?) → va_S A0 H0 H1 locs1 → H1[q9]? = some ce → ce.vm = .none → s.vm.findClass E = some ce.cls → vx_W p l e R s m args below meth c H1 locs1 (cells + mc) (slots + ms) Q (F0 m pc ls rest) q9)
    (kk : ∀ (r : Int64) (u : S) (t : State) (H1 : Heap) (locs1 : List Loc), t.heap = H1 → s.vm.Alike t.vm → post r u → B u t → H.size ≤ H1.size → (∀ q : Nat, q < H.size → ¬ A1 q → H1[q]? = H[q]?) → va_S A0 H0 H1 locs1 → W p l e R s m args below meth c H1 locs1 (cells + mc) (slots + ms) Q (F0 m (pc + 3) ls (.long r :: rest))) : W p l e R s m args below meth c H locs cells slots Q (F0 m pc ls st0) := by
  intro T hT X
  rcases hr T hT X with ⟨v, st₀, t, T', L, h0, X', hL, e1, e2, ⟨⟨r, u, hv, hp, hb⟩, hF⟩, st⟩ | ⟨q, st₀, t, T', L, E, ce, h0, X', hL, e1, e2, ⟨u, hp, hb, hF⟩, hce, hcv, hcl, st⟩
  · cases hv
    obtain ⟨k1, k2, k3⟩ := vx_keep h0 e1 hS hA hf hL hF
    obtain ⟨t2, a1, b1⟩ := kk r u t T'.heap (locs ++ L) e1.symm (by rw [← e2]; exact X'.warmed.alike) hp hb k1 k2 k3 T' rfl X'
    exact ⟨t2, st t2 a1, b1⟩
  · obtain ⟨k1, k2, k3⟩ := vx_keep h0 e1 hS hAX hf hL hF
    obtain ⟨t2, a1, b1⟩ := kx E ce q u t T'.heap (locs ++ L) e1.symm (by rw [← e2]; exact X'.warmed.alike) hp hb k1 k2 k3 (by rw [e1]; exact hce) hcv hcl T' rfl X'
    exact ⟨t2, st.trans a1, b1⟩
theorem vx_callf {S SX : Type} {post : UInt32 → S → Prop} {px : SX → Prop} {B : S → State → Prop} {BX : String → SX → State → Prop} {AX : Nat → Prop} (hr : vx_Run p l e R s m args below meth c H locs cells slots mc ms (F0 m pc ls st0) rest (va_Qf post B A1 a) (vx_X px BX AX) free) (hS : va_S A0 H0 H locs) (hA : ∀ q, q < H.size → A1 q → A0 q) (hf : ∀ q, free q → A0 q) (hAX : ∀ q, q < H.size → AX q → A0 q)
    (kx : ∀ (E : String) (ce : Cell) (q9 : Addr) (u : SX) (t : State) (H1 : Heap) (locs1 : List Loc), t.heap = H1 → s.vm.Alike t.vm → px u → BX E u t → H.size ≤ H1.size → (∀ q : Nat, q < H.size → ¬ AX q → H1[q]? = H[q]?) → va_S A0 H0 H1 locs1 → H1[q9]? = some ce → ce.vm = .none → s.vm.findClass E = some ce.cls → vx_W p l e R s m args below meth c H1 locs1 (cells + mc) (slots + ms) Q (F0 m pc ls rest) q9)
    (kk : ∀ (r : UInt32) (u : S) (t : State) (H1 : Heap) (locs1 : List Loc), t.heap = H1 → s.vm.Alike t.vm → post r u → B u t → H.size ≤ H1.size → (∀ q : Nat, q < H.size → ¬ A1 q → H1[q]? = H[q]?) → va_S A0 H0 H1 locs1 → W p l e R s m args below meth c H1 locs1 (cells + mc) (slots + ms) Q (F0 m (pc + 3) ls (.float r :: rest))) : W p l e R s m args below meth c H locs cells slots Q (F0 m pc ls st0) := by
  intro T hT X
  rcases hr T hT X with ⟨v, st₀, t, T', L, h0, X', hL, e1, e2, ⟨⟨r, u, hv, hp, hb⟩, hF⟩, st⟩ | ⟨q, st₀, t, T', L, E, ce, h0, X', hL, e1, e2, ⟨u, hp, hb, hF⟩, hce, hcv, hcl, st⟩
  · cases hv
    obtain ⟨k1, k2, k3⟩ := vx_keep h0 e1 hS hA hf hL hF
    obtain ⟨t2, a1, b1⟩ := kk r u t T'.heap (locs ++ L) e1.symm (by rw [← e2]; exact X'.warmed.alike) hp hb k1 k2 k3 T' rfl X'
    exact ⟨t2, st t2 a1, b1⟩
  · obtain ⟨k1, k2, k3⟩ := vx_keep h0 e1 hS hAX hf hL hF
    obtain ⟨t2, a1, b1⟩ := kx E ce q u t T'.heap (locs ++ L) e1.symm (by rw [← e2]; exact X'.warmed.alike) hp hb k1 k2 k3 (by rw [e1]; exact hce) hcv hcl T' rfl X'
    exact ⟨t2, st.trans a1, b1⟩
theorem vx_calld {S SX : Type} {post : UInt64 → S → Prop} {px : SX → Prop} {B : S → State → Prop} {BX : String → SX → State → Prop} {AX : Nat → Prop} (hr : vx_Run p l e R s m args below meth c H locs cells slots mc ms (F0 m pc ls st0) rest (va_Qd post B A1 a) (vx_X px BX AX) free) (hS : va_S A0 H0 H locs) (hA : ∀ q, q < H.size → A1 q → A0 q) (hf : ∀ q, free q → A0 q) (hAX : ∀ q, q < H.size → AX q → A0 q)
    (kx : ∀ (E : String) (ce : Cell) (q9 : Addr) (u : SX) (t : State) (H1 : Heap) (locs1 : List Loc), t.heap = H1 → s.vm.Alike t.vm → px u → BX E u t → H.size ≤ H1.size → (∀ q : Nat, q < H.size → ¬ AX q → H1[q]? = H[q]?) → va_S A0 H0 H1 locs1 → H1[q9]? = some ce → ce.vm = .none → s.vm.findClass E = some ce.cls → vx_W p l e R s m args below meth c H1 locs1 (cells + mc) (slots + ms) Q (F0 m pc ls rest) q9)
    (kk : ∀ (r : UInt64) (u : S) (t : State) (H1 : Heap) (locs1 : List Loc), t.heap = H1 → s.vm.Alike t.vm → post r u → B u t → H.size ≤ H1.size → (∀ q : Nat, q < H.size → ¬ A1 q → H1[q]? = H[q]?) → va_S A0 H0 H1 locs1 → W p l e R s m args below meth c H1 locs1 (cells + mc) (slots + ms) Q (F0 m (pc + 3) ls (.double r :: rest))) : W p l e R s m args below meth c H locs cells slots Q (F0 m pc ls st0) := by
  intro T hT X
  rcases hr T hT X with ⟨v, st₀, t, T', L, h0, X', hL, e1, e2, ⟨⟨r, u, hv, hp, hb⟩, hF⟩, st⟩ | ⟨q, st₀, t, T', L, E, ce, h0, X', hL, e1, e2, ⟨u, hp, hb, hF⟩, hce, hcv, hcl, st⟩
  · cases hv
    obtain ⟨k1, k2, k3⟩ := vx_keep h0 e1 hS hA hf hL hF
    obtain ⟨t2, a1, b1⟩ := kk r u t T'.heap (locs ++ L) e1.symm (by rw [← e2]; exact X'.warmed.alike) hp hb k1 k2 k3 T' rfl X'
    exact ⟨t2, st t2 a1, b1⟩
  · obtain ⟨k1, k2, k3⟩ := vx_keep h0 e1 hS hAX hf hL hF
    obtain ⟨t2, a1, b1⟩ := kx E ce q u t T'.heap (locs ++ L) e1.symm (by rw [← e2]; exact X'.warmed.alike) hp hb k1 k2 k3 (by rw [e1]; exact hce) hcv hcl T' rfl X'
    exact ⟨t2, st.trans a1, b1⟩
theorem vx_callv {S SX : Type} {post : S → Prop} {px : SX → Prop} {B : S → State → Prop} {BX : String → SX → State → Prop} {AX : Nat → Prop} (hr : vx_Run p l e R s m args below meth c H locs cells slots mc ms (F0 m pc ls st0) rest (va_Qv post B A1 a) (vx_X px BX AX) free) (hS : va_S A0 H0 H locs) (hA : ∀ q, q < H.size → A1 q → A0 q) (hf : ∀ q, free q → A0 q) (hAX : ∀ q, q < H.size → AX q → A0 q)
    (kx : ∀ (E : String) (ce : Cell) (q9 : Addr) (u : SX) (t : State) (H1 : Heap) (locs1 : List Loc), t.heap = H1 → s.vm.Alike t.vm → px u → BX E u t → H.size ≤ H1.size → (∀ q : Nat, q < H.size → ¬ AX q → H1[q]? = H[q]?) → va_S A0 H0 H1 locs1 → H1[q9]? = some ce → ce.vm = .none → s.vm.findClass E = some ce.cls → vx_W p l e R s m args below meth c H1 locs1 (cells + mc) (slots + ms) Q (F0 m pc ls rest) q9)
    (kk : ∀ (u : S) (t : State) (H1 : Heap) (locs1 : List Loc), t.heap = H1 → s.vm.Alike t.vm → post u → B u t → H.size ≤ H1.size → (∀ q : Nat, q < H.size → ¬ A1 q → H1[q]? = H[q]?) → va_S A0 H0 H1 locs1 → W p l e R s m args below meth c H1 locs1 (cells + mc) (slots + ms) Q (F0 m (pc + 3) ls (rest))) : W p l e R s m args below meth c H locs cells slots Q (F0 m pc ls st0) := by
  intro T hT X
  rcases hr T hT X with ⟨v, st₀, t, T', L, h0, X', hL, e1, e2, ⟨⟨u, hv, hp, hb⟩, hF⟩, st⟩ | ⟨q, st₀, t, T', L, E, ce, h0, X', hL, e1, e2, ⟨u, hp, hb, hF⟩, hce, hcv, hcl, st⟩
  · cases hv
    obtain ⟨k1, k2, k3⟩ := vx_keep h0 e1 hS hA hf hL hF
    obtain ⟨t2, a1, b1⟩ := kk u t T'.heap (locs ++ L) e1.symm (by rw [← e2]; exact X'.warmed.alike) hp hb k1 k2 k3 T' rfl X'
    exact ⟨t2, st t2 a1, b1⟩
  · obtain ⟨k1, k2, k3⟩ := vx_keep h0 e1 hS hAX hf hL hF
    obtain ⟨t2, a1, b1⟩ := kx E ce q u t T'.heap (locs ++ L) e1.symm (by rw [← e2]; exact X'.warmed.alike) hp hb k1 k2 k3 (by rw [e1]; exact hce) hcv hcl T' rfl X'
    exact ⟨t2, st.trans a1, b1⟩
/-- caught by the row x of this method's table; the rows ahead don't take it -/
theorem vx_catch {own name : String} {E : String} {ce : Cell} {q : Addr} (hown : s.vm.findClass own = some m.cls) (pre : List ExceptionTableEntry) (x : ExceptionTableEntry) (suf : List ExceptionTableEntry) (hsplit : c.exceptionTable.toList = pre ++ x :: suf)
    (hpass : ∀ z ∈ pre, covers z pc = false ∨ (z.catchType ≠ 0 ∧ ∃ nm : String, (Cond.classLink own z.catchType nm).before args s = true ∧ va_Nc E nm s)) (hx : covers x pc = true) (h0 : x.catchType ≠ 0)
    (hlink : (Cond.classLink own x.catchType name).before args s = true) (hcast : (Cond.castable E name).before args s = true) (hcell : H[q]? = some ce) (hv : ce.vm = .none) (hcl : s.vm.findClass E = some ce.cls)
    (kk : W p l e R s m args below meth c H locs cells slots Q (F0 m x.handlerPc ls [.ref q])) : vx_W p l e R s m args below meth c H locs cells slots Q (F0 m pc ls rest) q := by
  intro T hT X
  have hpl : e.platform.magicAccessors = ({} : Platform).magicAccessors := by rw [X.admits.platform]
  obtain ⟨c3, c4, hc3, hc4, hasg⟩ := Cond.castable_spec hcast
  cases Option.some.inj (hc3.symm.trans hcl)
  obtain ⟨c5, hc5, hcl5⟩ := Cond.classLink_spec hown hlink e.platform hpl
  cases Option.some.inj (hc4.symm.trans hc5)
  obtain ⟨vm', X', st⟩ := tc_caught X q (g := F0 m pc ls rest) rfl (by rw [hT]; exact hcell) (by rw [hv]; rfl) (by obtain ⟨k9, h9, -⟩ := Vm.findClass_spec hcl; exact ⟨k9, h9⟩) pre x suf hsplit
    (fun z hz => by
      rcases hpass z hz with h | ⟨hz0, nm, hl1, hn1⟩
      · exact Or.inl h
      · obtain ⟨c6, hc6, hcl6⟩ := Cond.classLink_spec hown hl1 e.platform hpl
        obtain ⟨a8, b8, h1, h2, h3⟩ := hn1
        cases Option.some.inj (h1.symm.trans hcl)
        cases Option.some.inj (h2.symm.trans hc6)
        exact Or.inr ⟨hz0, _, hcl6, h3⟩) hx h0 hcl5 hasg
  obtain ⟨t, a1, b1⟩ := kk (T.setVm vm') hT X'
  exact ⟨t, st.trans a1, b1⟩
end Rows
section Ends
variable {p : Program} {l : Launch} {e : Env} {R : Room} {s : State} {m : MethodId} {args : Array Value} {below : List Frame} {meth : Method} {c : Code} {H : Heap} {locs : List Loc} {cells slots : Nat} {Q : State → Prop}
variable {mc ms : Nat} {free : Addr → Prop} {A0 A1 : Nat → Prop} {H0 : Heap} {a : Array Value} {ls : Array Slot} {st0 rest : List Value}
variable {Qc : Array Value → State → Outcome → State → Prop} {XC : String → State → State → Prop}
/-- what a body that may throw owes at its end -/
def vx_MQ (below : List Frame) (Qc : Array Value → State → Outcome → State → Prop) (XC : String → State → State → Prop) (a : Array Value) (s : State) (mc ms : Nat) (free : Addr → Prop) : State → Prop := fun t =>
  ∃ o, t.status = .running ∧ Ended t below o ∧ vx_Q Qc XC mc ms free a s o t
theorem vx_ret {g : JFrame} {mc ms : Nat} (k : W p l e R s m args below meth c H locs cells slots (MQ below Qc args s mc ms free) g) : W p l e R s m args below meth c H locs cells slots (vx_MQ below Qc XC args s mc ms free) g := by
  intro T hT X
  obtain ⟨t, a1, o, b1, b2, b3, b4⟩ := k T hT X
  exact ⟨t, a1, o, b1, b2, Or.inl ⟨b3, b4⟩⟩
/-- not caught here: it goes on to the caller -/
theorem vx_widen {g : JFrame} {q : Addr} {k n : Nat} (h1 : cells ≤ k) (h2 : slots ≤ n) (kk : vx_W p l e R s m args below meth c H locs k n Q g q) : vx_W p l e R s m args below meth c H locs cells slots Q g q := fun T hT X => kk T hT (stand_widen X h1 h2)
theorem vx_out {pc : Nat} {E : String} {ce : Cell} {q : Addr} {mc ms : Nat} (hout : ∀ x ∈ c.exceptionTable.toList, covers x pc = false) (hlocks : meth.locks = false) (hcell : H[q]? = some ce) (hv : ce.vm = .none) (hcl : s.vm.findClass E = some ce.cls)
    (hx : ∀ t : State, t.heap = H → s.vm.Alike t.vm → XC E s t) (hf : ∀ z ∈ locs, free z.base) (hc : cells ≤ mc) (hs : slots ≤ ms) :
    vx_W p l e R s m args below meth c H locs cells slots (vx_MQ below Qc XC args s mc ms free) (F0 m pc ls rest) q := by
  intro T hT X
  obtain ⟨st1, hrun, hend, hW, hsm⟩ := X.leaveThrown q (g := F0 m pc ls rest) rfl rfl rfl hout hlocks
  have hcell9 : (T.setFrames (.throwing q :: below)).heap[q]? = some ce := by
    show T.heap[q]? = some ce
    rw [hT]; exact hcell
  exact ⟨_, st1, .threw q, hrun, hend, Or.inr ⟨q, rfl, E, ce, locs, hx _ hT hW.alike, hcell9, hv, hcl, hW, hsm.mono hc hs, hf⟩⟩
theorem vx_frame {U : State} {k n : Nat} (h : s.sameButNew ({ U with vm := s.vm } : State) locs k n) : s.heap.size ≤ U.heap.size ∧ ∀ q : Nat, q < s.heap.size → (∀ z ∈ locs, z.base ≠ q) → U.heap[q]? = s.heap[q]? := by
  obtain ⟨-, h2, -, -, -, h6⟩ := h
  refine ⟨h2, fun q hq hz => ?_⟩
  obtain ⟨c9, e1, e2, e3, e4⟩ := h6 q _ (Array.getElem?_eq_getElem hq)
  have hs : c9.slots = (s.heap[q]).slots := Array.ext_getElem? fun i => e4 i fun hm => hz _ hm rfl
  have h9 : c9 = s.heap[q] := by
    rw [hs] at e2
    exact e2
  have e5 : U.heap[q]? = some c9 := e1
  rw [e5, h9, Array.getElem?_eq_getElem hq]
/-- the words of a throw but the four that speak of the heap -/
def vx_no (w : Cond) : Bool := decide (w ≠ .isRef (.static Bundle.tN "UNASSIGNED_STACK" Bundle.steD)) && decide (w ≠ .isRef (.static Bundle.tN "SUPPRESSED_SENTINEL" Bundle.listD)) && decide (w ≠ .laysStatic Bundle.tN "UNASSIGNED_STACK" Bundle.steD) && decide (w ≠ .laysStatic Bundle.tN "SUPPRESSED_SENTINEL" Bundle.listD)
def vx_at0 (own : String) (ic : Nat) (X : String) (names : List String) : List Cond := (Bundle.ownAtoms0 own ic X names).filter vx_no
def vx_atS (own : String) (ic : Nat) (X : String) (names : List String) : List Cond := (Bundle.ownAtoms own ic X names).filter vx_no
/-- a word that the tables alone decide, or a good one -/
def vx_ot (w : Cond) : Bool := w.onTables || goodWord w
theorem vx_ot_at {args a' : Array Value} {s U : State} {w : Cond} (hW : s.WarmedH U.vm) (hvm : s.vm = U.vm) (hg : vx_ot w = true) (h : w.before args s = true) : w.before a' U = true := by
  simp only [vx_ot, Bool.or_eq_true] at hg
  rcases hg with hg | hg
  · exact va_tabs hg hvm h
  · exact word_at hW (good_of_word hg) h
/-- a list's words: the good ones out of the method's own list, the others by premises of their own -/
theorem vx_hat {args : Array Value} {s : State} {L B : List Cond} (h1 : ∀ w ∈ L.filter goodWord, w.before args s = true) (h2 : ∀ w ∈ L.filter (fun w => !goodWord w), w ∈ B) (h3 : ∀ w ∈ B, w.before args s = true) : ∀ w ∈ L, w.before args s = true := by
  intro w hw
  by_cases g : goodWord w = true
  · exact h1 w (List.mem_filter.mpr ⟨hw, g⟩)
  · refine h3 w (h2 w (List.mem_filter.mpr ⟨hw, ?_⟩))
    show (!goodWord w) = true
    cases hgw : goodWord w
    · rfl
    · exact absurd hgw g
theorem vx_c {args : Array Value} {s : State} {w : Cond} {B : List Cond} (h : w.before args s = true) (t : ∀ w ∈ B, w.before args s = true) : ∀ w' ∈ w :: B, w'.before args s = true := fun w' h' => (List.mem_cons.mp h').elim (fun e => by rw [e]; exact h) (t w')
theorem vx_n {args : Array Value} {s : State} : ∀ w ∈ ([] : List Cond), w.before args s = true := fun _ h => nomatch h
theorem vx_own {args : Array Value} {s : State} {L : List Cond} (h1 : ∀ w ∈ L.filter vx_no, w.before args s = true)
    (hU : (Cond.isRef (.static Bundle.tN "UNASSIGNED_STACK" Bundle.steD)).before args s = true) (hN : (Cond.isRef (.static Bundle.tN "SUPPRESSED_SENTINEL" Bundle.listD)).before args s = true)
    (lU : (Cond.laysStatic Bundle.tN "UNASSIGNED_STACK" Bundle.steD).before args s = true) (lN : (Cond.laysStatic Bundle.tN "SUPPRESSED_SENTINEL" Bundle.listD).before args s = true) : ∀ w ∈ L, w.before args s = true := by
  intro w hw
  by_cases e1 : w = .isRef (.static Bundle.tN "UNASSIGNED_STACK" Bundle.steD)
  · rw [e1]; exact hU
  · by_cases e2 : w = .isRef (.static Bundle.tN "SUPPRESSED_SENTINEL" Bundle.listD)
    · rw [e2]; exact hN
    · by_cases e3 : w = .laysStatic Bundle.tN "UNASSIGNED_STACK" Bundle.steD
      · rw [e3]; exact lU
      · by_cases e4 : w = .laysStatic Bundle.tN "SUPPRESSED_SENTINEL" Bundle.listD
        · rw [e4]; exact lN
        · exact h1 w (List.mem_filter.mpr ⟨hw, by unfold vx_no; rw [decide_eq_true e1, decide_eq_true e2, decide_eq_true e3, decide_eq_true e4]; rfl⟩)
/-- where a static field lies, its class's statics cell in H -/
def vx_L (C n d : String) (A : Nat → Prop) (U : State) (H : Heap) : Prop := ∃ (c : ClassId) (k : Class) (i : Nat) (f : Field) (a : Nat) (cell : Cell), U.vm.findClass C = some c ∧ U.fieldFound? C n d = some (c, k, i, f) ∧ f.isStatic = true ∧ k.statics = some a ∧ H[a]? = some cell ∧ cell.vm.isStatics = true ∧ cell.cls = c ∧ f.slot < cell.slots.size ∧ k.staticTypes[f.slot]? = some f.type ∧ ¬ A a
theorem vx_L.moved {C n d : String} {A : Nat → Prop} {u U : State} {H : Heap} (hvm : u.vm.Alike U.vm) (h : vx_L C n d A u H) : vx_L C n d A U H := by
  obtain ⟨c, k, i, f, a, cell, h1, h2, h3, h4, h5, h6, h7, h8, h9, h10⟩ := h
  obtain ⟨k', hi', he⟩ := State.fieldFound?_setVm hvm h2
  exact ⟨c, k', i, f, a, cell, by rw [hvm.findClass]; exact h1, hi', h3, by rw [he]; exact h4, h5, h6, h7, h8, by rw [he]; exact h9, h10⟩
theorem vx_L.kept {C n d : String} {A : Nat → Prop} {U : State} {H H1 : Heap} (h : vx_L C n d A U H) (hq : ∀ a : Nat, a < H.size → ¬ A a → H1[a]? = H[a]?) : vx_L C n d A U H1 := by
  obtain ⟨c, k, i, f, a, cell, h1, h2, h3, h4, h5, h6, h7, h8, h9, h10⟩ := h
  exact ⟨c, k, i, f, a, cell, h1, h2, h3, h4, by rw [hq a (Array.getElem?_eq_some_iff.mp h5).1 h10]; exact h5, h6, h7, h8, h9, h10⟩
theorem vx_L.narrow {C n d : String} {A B : Nat → Prop} {U : State} {H : Heap} (h : vx_L C n d A U H) (hAB : ∀ q, B q → A q) : vx_L C n d B U H := by
  obtain ⟨c, k, i, f, a, cell, h1, h2, h3, h4, h5, h6, h7, h8, h9, h10⟩ := h
  exact ⟨c, k, i, f, a, cell, h1, h2, h3, h4, h5, h6, h7, h8, h9, fun z => h10 (hAB _ z)⟩
theorem vx_L.word {C n d : String} {A : Nat → Prop} {s : State} {args : Array Value} (h : vx_L C n d A s s.heap) : (Cond.laysStatic C n d).before args s = true := by
  obtain ⟨c, k, i, f, a, cell, h1, h2, h3, h4, h5, h6, h7, h8, h9, -⟩ := h
  show (Cond.laysStatic C n d).holds args s none s [] = true
  exact Cond.laysStatic_of h1 h2 h3 h4 h5 h6 h7 h8 h9
/-- .. and what it holds: null or some reference -/
def vx_Zq (C n d : String) (A : Nat → Prop) (U : State) (H : Heap) : Prop := va_Zq C n d A U H ∧ vx_L C n d A U H
theorem vx_Zq.moved {C n d : String} {A : Nat → Prop} {u U : State} {H : Heap} (hvm : u.vm.Alike U.vm) (h : vx_Zq C n d A u H) : vx_Zq C n d A U H := ⟨va_Zq.moved hvm h.1, vx_L.moved hvm h.2⟩
theorem vx_Zq.kept {C n d : String} {A : Nat → Prop} {U : State} {H H1 : Heap} (h : vx_Zq C n d A U H) (hq : ∀ a : Nat, a < H.size → ¬ A a → H1[a]? = H[a]?) : vx_Zq C n d A U H1 := ⟨va_Zq.kept h.1 hq, vx_L.kept h.2 hq⟩
theorem vx_Zq.narrow {C n d : String} {A B : Nat → Prop} {U : State} {H : Heap} (h : vx_Zq C n d A U H) (hAB : ∀ q, B q → A q) : vx_Zq C n d B U H := ⟨va_Zq.narrow h.1 hAB, vx_L.narrow h.2 hAB⟩
theorem vx_Zqof {args : Array Value} {s : State} {C n d : String} {A : Nat → Prop} (hl : (Cond.laysStatic C n d).before args s = true) (hini : (Cond.initialized C).before args s = true) (h : (Cond.isRef (.static C n d)).before args s = true) (hA : ∀ a : Nat, a < s.heap.size → ¬ A a) : vx_Zq C n d A s s.heap := by
  refine ⟨va_Zqof hl hini h hA, ?_⟩
  obtain ⟨c, k, i, f, a, cell, h1, h2, h3, h4, h5, h6, h7, h8, h9⟩ := Cond.laysStatic_spec hl
  exact ⟨c, k, i, f, a, cell, h1, h2, h3, h4, h5, h6, h7, h8, h9, hA a (Array.getElem?_eq_some_iff.mp h5).1⟩
theorem vx_isRef {C n d : String} {v : Value} {A : Nat → Prop} {s : State} {args : Array Value} (h : va_Z C n d v A s s.heap) (hv : v.isRef = true) : (Cond.isRef (.static C n d)).before args s = true := by
  obtain ⟨cf, kf, fi, f, a, cell, h1, h2, h3, h4, h5, h6, h7, -⟩ := h
  have he : (Term.static C n d).eval args s none [] s = some v := by
    simp [Term.eval, State.fieldNamed?, h1, h2, h4, h5, h6, h7]
  simp only [Cond.before, Cond.holds, Cond.value, he]
  cases v <;> simp_all [Value.isRef]
theorem vx_isRefq {C n d : String} {A : Nat → Prop} {s : State} {args : Array Value} (h : va_Zq C n d A s s.heap) : (Cond.isRef (.static C n d)).before args s = true := by
  rcases h with h | ⟨t, h⟩
  · exact vx_isRef h rfl
  · exact vx_isRef h rfl
/-- the same frame, seen from here: as if the method were called anew in this heap -/
theorem vx_rebase {T : State} (X : Stand p l e R s m args below meth c T locs cells slots) {R' : Room} (hf : R'.frames ≤ R.frames) (hl : R'.locals ≤ R.locals) (hc : cells + R'.cells ≤ R.cells) (hs : slots + R'.slots ≤ R.slots) :
    Stand p l e R' ((T.setVm s.vm).setFrames (.invoking m args :: below)) m args below meth c T [] 0 0 := by
  have htop : (T.setVm s.vm).topJava?.isSome := X.here.top
  have hF : ((T.setVm s.vm).setFrames (.invoking m args :: below)).frames = .invoking m args :: below := State.frames_setFrames _ (State.cur_lt_of_top htop)
  obtain ⟨g₀, hg0⟩ := Option.isSome_iff_exists.mp htop
  obtain ⟨r, hr⟩ := State.topJava?_eq_some.mp hg0
  have hl9 : e.platform.stackLimits (T.setVm s.vm).me = e.platform.stackLimits s.me := X.limits
  have hb9 : (T.setVm s.vm).me.stackBytes = s.me.stackBytes := X.bytes
  refine ⟨X.admits, X.cas, X.clock, hF, ?_, X.hears, X.method, X.code, X.here, X.tail, X.warmed, ?_, ?_, ?_⟩
  · have h := X.room
    have hU : ((T.setVm s.vm).setFrames (.invoking m args :: below)).localsInUse = s.localsInUse := by
      rw [State.localsInUse_invoking hF (meth := meth) (c := c) X.method X.code, State.localsInUse_invoking X.frames X.method X.code]
    simp only [State.hasRoom, Bool.and_eq_true, decide_eq_true_eq] at h ⊢
    obtain ⟨⟨⟨⟨h1, h2, h3, h4, h5, h6⟩, h7⟩, h8⟩, h9⟩ := h
    rw [X.frames, List.length_cons] at h2 h3
    have q1 := X.heapSize
    have q2 := X.used
    simp only [hF, hU, List.length_cons, State.stackLimits_setFrames, State.stackBytes_setFrames, hl9, hb9]
    refine ⟨⟨⟨⟨by omega, by omega, by omega, by omega, by omega, h6⟩, ?_⟩, ?_⟩, X.book⟩
    · show T.heap.size + R'.cells ≤ e.platform.maxCells
      omega
    · show T.slotsUsed + R'.slots ≤ e.platform.maxSlots
      omega
  · rw [State.stackLimits_setFrames]; rfl
  · rw [State.stackBytes_setFrames]; rfl
  · refine ⟨?_, Nat.le_refl _, Nat.le_refl _, ?_, ?_, fun a c9 h9 => ⟨c9, h9, rfl, rfl, fun _ _ => rfl⟩⟩
    · obtain ⟨t, ht, -⟩ := State.frames_cons hr
      show T.setVm s.vm = { ((T.setVm s.vm).setFrames (.invoking m args :: below)).setFrames (T.setVm s.vm).frames with heap := T.heap, slotsUsed := T.slotsUsed }
      rw [State.setFrames_setFrames, State.setFrames_self ht]
      rfl
    · show T.slotsUsed = T.slotsUsed + ((T.heap.toList.drop T.heap.size).map (·.slots.size)).sum
      rw [List.drop_eq_nil_of_le (Nat.le_of_eq Array.length_toList)]
      rfl
    · show ((T.heap.toList.drop T.heap.size).map (·.slots.size)).sum ≤ 0
      rw [List.drop_eq_nil_of_le (Nat.le_of_eq Array.length_toList)]
      exact Nat.le_refl _
/-- 'throw new E()': new; dup; invokespecial; athrow -/
theorem vx_throw0 {cc : ByteArray} {pc : Nat} (hexec : p.tables.exec = Jvm.exec) (hb : c.code = cc) (hl : l.stackTraces = false) {own cls : String} {names : List String} {ik ic mc ms : Nat} {A : Nat → Prop}
    (hown : s.vm.findClass own = some m.cls) (hcls : Bundle.fit cls = true) (hnames : ∀ n ∈ names, Bundle.fit n = true)
    (hk : (Cond.classLink own ik cls).before args s = true) (hini : (Cond.initialized cls).before args s = true) (hat : ∀ w ∈ vx_at0 own ic cls names, w.before args s = true)
    (hgood : ∀ w ∈ Cond.classLink own ik cls :: Cond.initialized cls :: vx_at0 own ic cls names, vx_ot w = true)
    (hU : vx_Zq Bundle.tN "UNASSIGNED_STACK" Bundle.steD A s s.heap) (hN : vx_Zq Bundle.tN "SUPPRESSED_SENTINEL" Bundle.listD A s s.heap) (hS : va_S A s.heap H locs) (hsize : ls.size = c.maxLocals)
    (d0 : decode cc pc = .ok (.new ik, 3)) (d3 : decode cc (pc + 3) = .ok (.dup, 1)) (d4 : decode cc (pc + 4) = .ok (.invokespecial ic, 3)) (d7 : decode cc (pc + 7) = .ok (.athrow, 1))
    (hout : ∀ x ∈ c.exceptionTable.toList, covers x (pc + 7) = false)
    (hRframes : names.length + 3 < R.frames) (hRlocals : (rest.map fun v => v.category).sum + (13 * (names.length + 1) + 42) ≤ R.locals) (hRcells : cells + 1 ≤ R.cells) (hRslots : slots + 6 ≤ R.slots) (hlocks : meth.locks = false)
    (hx : ∀ t : State, s.vm.Alike t.vm → H.size ≤ t.heap.size → (∀ q : Nat, q < H.size → t.heap[q]? = H[q]?) → XC cls s t)
    (hf : ∀ z ∈ locs, free z.base) (hc : cells + 1 ≤ mc) (hs : slots + 6 ≤ ms) :
    W p l e R s m args below meth c H locs cells slots (vx_MQ below Qc XC args s mc ms free) (F0 m pc ls rest) := by
  intro T hT X
  have htr : e.platform.stackTraces = false := (show e.platform.stackTraces = l.stackTraces by rw [X.admits.platform]).trans hl
  have Y := vx_rebase X (R' := { frames := R.frames, locals := R.locals, cells := 1, slots := 6 }) (Nat.le_refl _) (Nat.le_refl _) hRcells hRslots
  obtain ⟨s', hA⟩ : ∃ z, z = (T.setVm s.vm).setFrames (.invoking m args :: below) := ⟨_, rfl⟩
  rw [← hA] at Y
  have hvm : s'.vm = s.vm := by rw [hA]; rfl
  have hhp : s'.heap = H := by rw [hA]; exact hT
  have hW0 : s.WarmedH s'.vm := by rw [hvm]; exact State.WarmedH.refl s
  have hat' : ∀ w ∈ vx_at0 own ic cls names, w.before args s' = true := fun w hw => vx_ot_at hW0 hvm.symm (hgood w (List.mem_cons_of_mem _ (List.mem_cons_of_mem _ hw))) (hat w hw)
  have hk' : (Cond.classLink own ik cls).before args s' = true := vx_ot_at hW0 hvm.symm (hgood _ List.mem_cons_self) hk
  have hini' : (Cond.initialized cls).before args s' = true := vx_ot_at hW0 hvm.symm (hgood _ (List.mem_cons_of_mem _ List.mem_cons_self)) hini
  have hU' : vx_Zq Bundle.tN "UNASSIGNED_STACK" Bundle.steD A s' s'.heap := by rw [hhp]; exact vx_Zq.moved hW0.alike (hU.kept hS.2.1)
  have hN' : vx_Zq Bundle.tN "SUPPRESSED_SENTINEL" Bundle.listD A s' s'.heap := by rw [hhp]; exact vx_Zq.moved hW0.alike (hN.kept hS.2.1)
  have h : ∀ w ∈ Bundle.ownAtoms0 own ic cls names, w.before args s' = true := vx_own hat' (vx_isRefq hU'.1) (vx_isRefq hN'.1) hU'.2.word hN'.2.word
  have hown' : s'.vm.findClass own = some m.cls := by rw [hvm]; exact hown
  have hins : (Cond.instantiable cls 6).before args s' = true := h _ (by simp [Bundle.ownAtoms0])
  obtain ⟨vm₁, cX, kX, hfX, hkX, -, -, X₁, st1⟩ := Y.newCold hexec (own := own) (C := cls) (index := ik) (n := 6) hown' hk' hins hini'
    (g := F0 m pc ls rest) rfl (by rw [hb]; exact d0) (Nat.le_refl _) (Nat.le_refl _)
  generalize hT1 : (T.setVm vm₁).pushCell { cls := cX, slots := kX.instanceTypes.map defaultValue, vm := .none } = T1 at X₁ st1
  have hcat : (Value.ref T.heap.size).category = 1 := rfl
  have hcellA : T1.heap[T.heap.size]? = some (freshCell cX kX) := by rw [← hT1]; exact State.heap_pushCell_size _ _
  have d3' : decode c.code (pc + 3) = .ok (.dup, 1) := by rw [hb]; exact d3
  obtain ⟨U, hsteps, hrun, hend, hW, hsame, ce, hce, hO⟩ := X₁.ctorThrow0 hexec htr (own := own) (cls := cls) (names := names) (ic := ic) hown' hcls hnames h (fun x hx => nomatch hx) hfX hkX hcellA (by rw [hhp, hT]; exact Nat.le_refl _)
    (g := { method := m, pc := pc + 4, locals := ls, stack := .ref T.heap.size :: .ref T.heap.size :: rest, locked := none }) rfl hsize rfl rfl (rest := rest) rfl
    (by rw [hb]; exact d4) (by rw [hb]; exact d7) hout hRframes (by simp only [List.map_cons, List.sum_cons, hcat]; omega) hlocks
  obtain ⟨f1, f2⟩ := vx_frame hsame
  rw [hhp] at f1 f2
  have hWs : s.WarmedH U.vm := State.WarmedH.trans hW0 hW
  have hcl : s.vm.findClass cls = some ce.cls := by
    have h9 := hO.cls
    rw [hvm] at h9
    exact h9
  have hall : s.sameButNew ({ U with vm := s.vm } : State) locs mc ms := by
    subst hA
    obtain ⟨e1, e2⟩ := hsame
    rw [State.setFrames_setFrames] at e1
    have h2 : (T.setVm s.vm).sameButNew ({ U with vm := s.vm } : State) [] (0 + 1) (0 + 6) := ⟨e1, e2⟩
    have h3 := X.same.trans h2
    rw [List.append_nil] at h3
    exact h3.mono hc hs
  refine ⟨U, ?_, .threw T.heap.size, hrun, hend, Or.inr ⟨T.heap.size, rfl, cls, ce, locs, hx U hWs.alike f1 (fun q hq => f2 q hq (fun z hz => nomatch hz)), hce, hO.vm, hcl, hWs, hall, hf⟩⟩
  refine st1 _ ?_
  show Steps p.tables e below (T1.setTop { method := m, pc := pc + 3, locals := ls, stack := .ref T.heap.size :: rest, locked := none }) _
  jvm_step X₁.here [X₁.here.top, hexec, d3', Value.category]
  exact hsteps
/-- 'throw new E("text")': new; dup; ldc; invokespecial; athrow -/
theorem vx_throwS {cc : ByteArray} {pc : Nat} (hexec : p.tables.exec = Jvm.exec) (hb : c.code = cc) (hl : l.stackTraces = false) {own cls text : String} {names : List String} {ik is ic mc ms sa : Nat} {A : Nat → Prop}
    (hown : s.vm.findClass own = some m.cls) (hcls : Bundle.fit cls = true) (hnames : ∀ n ∈ names, Bundle.fit n = true)
    (hk : (Cond.classLink own ik cls).before args s = true) (hini : (Cond.initialized cls).before args s = true) (hstr : vk_R own is text sa s) (hat : ∀ w ∈ vx_atS own ic cls names, w.before args s = true)
    (hgood : ∀ w ∈ Cond.classLink own ik cls :: Cond.initialized cls :: vx_atS own ic cls names, vx_ot w = true)
    (hU : vx_Zq Bundle.tN "UNASSIGNED_STACK" Bundle.steD A s s.heap) (hN : vx_Zq Bundle.tN "SUPPRESSED_SENTINEL" Bundle.listD A s s.heap) (hS : va_S A s.heap H locs) (hsize : ls.size = c.maxLocals)
    (d0 : decode cc pc = .ok (.new ik, 3)) (d3 : decode cc (pc + 3) = .ok (.dup, 1)) (d4 : decode cc (pc + 4) = .ok (.ldc is, 2)) (d6 : decode cc (pc + 6) = .ok (.invokespecial ic, 3)) (d9 : decode cc (pc + 9) = .ok (.athrow, 1))
    (hout : ∀ x ∈ c.exceptionTable.toList, covers x (pc + 9) = false)
    (hRframes : names.length + 3 < R.frames) (hRlocals : (rest.map fun v => v.category).sum + (13 * (names.length + 1) + 43) ≤ R.locals) (hRcells : cells + 1 ≤ R.cells) (hRslots : slots + 6 ≤ R.slots) (hlocks : meth.locks = false)
    (hx : ∀ t : State, s.vm.Alike t.vm → H.size ≤ t.heap.size → (∀ q : Nat, q < H.size → t.heap[q]? = H[q]?) → XC cls s t)
    (hf : ∀ z ∈ locs, free z.base) (hc : cells + 1 ≤ mc) (hs : slots + 6 ≤ ms) :
    W p l e R s m args below meth c H locs cells slots (vx_MQ below Qc XC args s mc ms free) (F0 m pc ls rest) := by
  intro T hT X
  have htr : e.platform.stackTraces = false := (show e.platform.stackTraces = l.stackTraces by rw [X.admits.platform]).trans hl
  have Y := vx_rebase X (R' := { frames := R.frames, locals := R.locals, cells := 1, slots := 6 }) (Nat.le_refl _) (Nat.le_refl _) hRcells hRslots
  obtain ⟨s', hA⟩ : ∃ z, z = (T.setVm s.vm).setFrames (.invoking m args :: below) := ⟨_, rfl⟩
  rw [← hA] at Y
  have hvm : s'.vm = s.vm := by rw [hA]; rfl
  have hhp : s'.heap = H := by rw [hA]; exact hT
  have hW0 : s.WarmedH s'.vm := by rw [hvm]; exact State.WarmedH.refl s
  have hat' : ∀ w ∈ vx_atS own ic cls names, w.before args s' = true := fun w hw => vx_ot_at hW0 hvm.symm (hgood w (List.mem_cons_of_mem _ (List.mem_cons_of_mem _ hw))) (hat w hw)
  have hk' : (Cond.classLink own ik cls).before args s' = true := vx_ot_at hW0 hvm.symm (hgood _ List.mem_cons_self) hk
  have hini' : (Cond.initialized cls).before args s' = true := vx_ot_at hW0 hvm.symm (hgood _ (List.mem_cons_of_mem _ List.mem_cons_self)) hini
  have hU' : vx_Zq Bundle.tN "UNASSIGNED_STACK" Bundle.steD A s' s'.heap := by rw [hhp]; exact vx_Zq.moved hW0.alike (hU.kept hS.2.1)
  have hN' : vx_Zq Bundle.tN "SUPPRESSED_SENTINEL" Bundle.listD A s' s'.heap := by rw [hhp]; exact vx_Zq.moved hW0.alike (hN.kept hS.2.1)
  have h : ∀ w ∈ Bundle.ownAtoms own ic cls names, w.before args s' = true := vx_own hat' (vx_isRefq hU'.1) (vx_isRefq hN'.1) hU'.2.word hN'.2.word
  have hown' : s'.vm.findClass own = some m.cls := by rw [hvm]; exact hown
  have hins : (Cond.instantiable cls 6).before args s' = true := h _ (by simp [Bundle.ownAtoms])
  obtain ⟨vm₁, cX, kX, hfX, hkX, -, -, X₁, st1⟩ := Y.newCold hexec (own := own) (C := cls) (index := ik) (n := 6) hown' hk' hins hini'
    (g := F0 m pc ls rest) rfl (by rw [hb]; exact d0) (Nat.le_refl _) (Nat.le_refl _)
  generalize hT1 : (T.setVm vm₁).pushCell { cls := cX, slots := kX.instanceTypes.map defaultValue, vm := .none } = T1 at X₁ st1
  have hcat : (Value.ref T.heap.size).category = 1 := rfl
  have hcellA : T1.heap[T.heap.size]? = some (freshCell cX kX) := by rw [← hT1]; exact State.heap_pushCell_size _ _
  have d3' : decode c.code (pc + 3) = .ok (.dup, 1) := by rw [hb]; exact d3
  have d4' : decode c.code (pc + 4) = .ok (.ldc is, 2) := by rw [hb]; exact d4
  have hstr' : vk_R own is text sa s' := vk_R.warm hW0 hstr
  obtain ⟨U, hsteps, hrun, hend, hW, hsame, ce, hce, hO⟩ := X₁.ctorThrowS hexec htr (own := own) (cls := cls) (names := names) (ic := ic) hown' hcls hnames h (fun x hx => nomatch hx) hfX hkX hcellA (by rw [hhp, hT]; exact Nat.le_refl _) (msg := .ref sa) rfl
    (g := { method := m, pc := pc + 6, locals := ls, stack := .ref sa :: .ref T.heap.size :: .ref T.heap.size :: rest, locked := none }) rfl hsize rfl rfl (rest := rest) rfl
    (by rw [hb]; exact d6) (by rw [hb]; exact d9) hout hRframes (by simp only [List.map_cons, List.sum_cons, hcat]; omega) hlocks
  obtain ⟨f1, f2⟩ := vx_frame hsame
  rw [hhp] at f1 f2
  have hWs : s.WarmedH U.vm := State.WarmedH.trans hW0 hW
  have hcl : s.vm.findClass cls = some ce.cls := by
    have h9 := hO.cls
    rw [hvm] at h9
    exact h9
  have hall : s.sameButNew ({ U with vm := s.vm } : State) locs mc ms := by
    subst hA
    obtain ⟨e1, e2⟩ := hsame
    rw [State.setFrames_setFrames] at e1
    have h2 : (T.setVm s.vm).sameButNew ({ U with vm := s.vm } : State) [] (0 + 1) (0 + 6) := ⟨e1, e2⟩
    have h3 := X.same.trans h2
    rw [List.append_nil] at h3
    exact h3.mono hc hs
  refine ⟨U, ?_, .threw T.heap.size, hrun, hend, Or.inr ⟨T.heap.size, rfl, cls, ce, locs, hx U hWs.alike f1 (fun q hq => f2 q hq (fun z hz => nomatch hz)), hce, hO.vm, hcl, hWs, hall, hf⟩⟩
  refine st1 _ ?_
  show Steps p.tables e below (T1.setTop { method := m, pc := pc + 3, locals := ls, stack := .ref T.heap.size :: rest, locked := none }) _
  jvm_step X₁.here [X₁.here.top, hexec, d3', Value.category]
  exact X₁.ldcString hexec (own := own) (text := text) (index := is) (a := sa) hown' hstr'.1 hstr'.2
    (g := { method := m, pc := pc + 4, locals := ls, stack := .ref T.heap.size :: .ref T.heap.size :: rest, locked := none }) rfl d4' _ hsteps
/-- 'throw new E("text")', the text by a wide index -/
theorem vx_throwSW {cc : ByteArray} {pc : Nat} (hexec : p.tables.exec = Jvm.exec) (hb : c.code = cc) (hl : l.stackTraces = false) {own cls text : String} {names : List String} {ik is ic mc ms sa : Nat} {A : Nat → Prop}
    (hown : s.vm.findClass own = some m.cls) (hcls : Bundle.fit cls = true) (hnames : ∀ n ∈ names, Bundle.fit n = true)
    (hk : (Cond.classLink own ik cls).before args s = true) (hini : (Cond.initialized cls).before args s = true) (hstr : vk_R own is text sa s) (hat : ∀ w ∈ vx_atS own ic cls names, w.before args s = true)
    (hgood : ∀ w ∈ Cond.classLink own ik cls :: Cond.initialized cls :: vx_atS own ic cls names, vx_ot w = true)
    (hU : vx_Zq Bundle.tN "UNASSIGNED_STACK" Bundle.steD A s s.heap) (hN : vx_Zq Bundle.tN "SUPPRESSED_SENTINEL" Bundle.listD A s s.heap) (hS : va_S A s.heap H locs) (hsize : ls.size = c.maxLocals)
    (d0 : decode cc pc = .ok (.new ik, 3)) (d3 : decode cc (pc + 3) = .ok (.dup, 1)) (d4 : decode cc (pc + 4) = .ok (.ldc_w is, 3)) (d7 : decode cc (pc + 7) = .ok (.invokespecial ic, 3)) (d10 : decode cc (pc + 10) = .ok (.athrow, 1))
    (hout : ∀ x ∈ c.exceptionTable.toList, covers x (pc + 10) = false)
    (hRframes : names.length + 3 < R.frames) (hRlocals : (rest.map fun v => v.category).sum + (13 * (names.length + 1) + 43) ≤ R.locals) (hRcells : cells + 1 ≤ R.cells) (hRslots : slots + 6 ≤ R.slots) (hlocks : meth.locks = false)
    (hx : ∀ t : State, s.vm.Alike t.vm → H.size ≤ t.heap.size → (∀ q : Nat, q < H.size → t.heap[q]? = H[q]?) → XC cls s t)
    (hf : ∀ z ∈ locs, free z.base) (hc : cells + 1 ≤ mc) (hs : slots + 6 ≤ ms) :
    W p l e R s m args below meth c H locs cells slots (vx_MQ below Qc XC args s mc ms free) (F0 m pc ls rest) := by
  intro T hT X
  have htr : e.platform.stackTraces = false := (show e.platform.stackTraces = l.stackTraces by rw [X.admits.platform]).trans hl
  have Y := vx_rebase X (R' := { frames := R.frames, locals := R.locals, cells := 1, slots := 6 }) (Nat.le_refl _) (Nat.le_refl _) hRcells hRslots
  obtain ⟨s', hA⟩ : ∃ z, z = (T.setVm s.vm).setFrames (.invoking m args :: below) := ⟨_, rfl⟩
  rw [← hA] at Y
  have hvm : s'.vm = s.vm := by rw [hA]; rfl
  have hhp : s'.heap = H := by rw [hA]; exact hT
  have hW0 : s.WarmedH s'.vm := by rw [hvm]; exact State.WarmedH.refl s
  have hat' : ∀ w ∈ vx_atS own ic cls names, w.before args s' = true := fun w hw => vx_ot_at hW0 hvm.symm (hgood w (List.mem_cons_of_mem _ (List.mem_cons_of_mem _ hw))) (hat w hw)
  have hk' : (Cond.classLink own ik cls).before args s' = true := vx_ot_at hW0 hvm.symm (hgood _ List.mem_cons_self) hk
  have hini' : (Cond.initialized cls).before args s' = true := vx_ot_at hW0 hvm.symm (hgood _ (List.mem_cons_of_mem _ List.mem_cons_self)) hini
  have hU' : vx_Zq Bundle.tN "UNASSIGNED_STACK" Bundle.steD A s' s'.heap := by rw [hhp]; exact vx_Zq.moved hW0.alike (hU.kept hS.2.1)
  have hN' : vx_Zq Bundle.tN "SUPPRESSED_SENTINEL" Bundle.listD A s' s'.heap := by rw [hhp]; exact vx_Zq.moved hW0.alike (hN.kept hS.2.1)
  have h : ∀ w ∈ Bundle.ownAtoms own ic cls names, w.before args s' = true := vx_own hat' (vx_isRefq hU'.1) (vx_isRefq hN'.1) hU'.2.word hN'.2.word
  have hown' : s'.vm.findClass own = some m.cls := by rw [hvm]; exact hown
  have hins : (Cond.instantiable cls 6).before args s' = true := h _ (by simp [Bundle.ownAtoms])
  obtain ⟨vm₁, cX, kX, hfX, hkX, -, -, X₁, st1⟩ := Y.newCold hexec (own := own) (C := cls) (index := ik) (n := 6) hown' hk' hins hini'
    (g := F0 m pc ls rest) rfl (by rw [hb]; exact d0) (Nat.le_refl _) (Nat.le_refl _)
  generalize hT1 : (T.setVm vm₁).pushCell { cls := cX, slots := kX.instanceTypes.map defaultValue, vm := .none } = T1 at X₁ st1
  have hcat : (Value.ref T.heap.size).category = 1 := rfl
  have hcellA : T1.heap[T.heap.size]? = some (freshCell cX kX) := by rw [← hT1]; exact State.heap_pushCell_size _ _
  have d3' : decode c.code (pc + 3) = .ok (.dup, 1) := by rw [hb]; exact d3
  have d4' : decode c.code (pc + 4) = .ok (.ldc_w is, 3) := by rw [hb]; exact d4
  have hstr' : vk_R own is text sa s' := vk_R.warm hW0 hstr
  obtain ⟨U, hsteps, hrun, hend, hW, hsame, ce, hce, hO⟩ := X₁.ctorThrowS hexec htr (own := own) (cls := cls) (names := names) (ic := ic) hown' hcls hnames h (fun x hx => nomatch hx) hfX hkX hcellA (by rw [hhp, hT]; exact Nat.le_refl _) (msg := .ref sa) rfl
    (g := { method := m, pc := pc + 7, locals := ls, stack := .ref sa :: .ref T.heap.size :: .ref T.heap.size :: rest, locked := none }) rfl hsize rfl rfl (rest := rest) rfl
    (by rw [hb]; exact d7) (by rw [hb]; exact d10) hout hRframes (by simp only [List.map_cons, List.sum_cons, hcat]; omega) hlocks
  obtain ⟨f1, f2⟩ := vx_frame hsame
  rw [hhp] at f1 f2
  have hWs : s.WarmedH U.vm := State.WarmedH.trans hW0 hW
  have hcl : s.vm.findClass cls = some ce.cls := by
    have h9 := hO.cls
    rw [hvm] at h9
    exact h9
  have hall : s.sameButNew ({ U with vm := s.vm } : State) locs mc ms := by
    subst hA
    obtain ⟨e1, e2⟩ := hsame
    rw [State.setFrames_setFrames] at e1
    have h2 : (T.setVm s.vm).sameButNew ({ U with vm := s.vm } : State) [] (0 + 1) (0 + 6) := ⟨e1, e2⟩
    have h3 := X.same.trans h2
    rw [List.append_nil] at h3
    exact h3.mono hc hs
  refine ⟨U, ?_, .threw T.heap.size, hrun, hend, Or.inr ⟨T.heap.size, rfl, cls, ce, locs, hx U hWs.alike f1 (fun q hq => f2 q hq (fun z hz => nomatch hz)), hce, hO.vm, hcl, hWs, hall, hf⟩⟩
  refine st1 _ ?_
  show Steps p.tables e below (T1.setTop { method := m, pc := pc + 3, locals := ls, stack := .ref T.heap.size :: rest, locked := none }) _
  jvm_step X₁.here [X₁.here.top, hexec, d3', Value.category]
  exact X₁.ldcStringW hexec (own := own) (text := text) (index := is) (a := sa) hown' hstr'.1 hstr'.2
    (g := { method := m, pc := pc + 4, locals := ls, stack := .ref T.heap.size :: .ref T.heap.size :: rest, locked := none }) rfl d4' _ hsteps
end Ends
section Bodies
variable {l : Launch}
theorem vx_ofW {y : MethodName} {ws ws' : List Cond} {rm : Room} {Pc : Array Value → State → Prop} {Qc : Array Value → State → Outcome → State → Prop} {XC : String → State → State → Prop} {mc ms : Nat} {free : Addr → Prop} {cc : ByteArray} {maxL : Nat} {ret : Option FieldType}
    (hy : plainName y.cls = true) (hw : ws = Cond.code y cc maxL ret :: ws')
    (body : ∀ p e s m args below meth c s₁, BodyLoose p l y (headSpec ws rm) cc maxL ret e s m args below meth c s₁ → c.maxLocals = maxL → (∀ x ∈ c.exceptionTable.toList, False) → Pc args s →
      W p l e (headSpec ws rm).room s m args below meth c s.heap [] 0 0 (vx_MQ below Qc XC args s mc ms free) (entryFrame m args maxL)) : vx_Met l y ws rm Pc Qc XC mc ms free := by
  refine MetFree.of_bodyS (code := cc) (maxLocals := maxL) (ret := ret) hy ?_ ?_
  · intro args s m h hn
    obtain ⟨meth, c, h1, h2, h3, h4, h5, h6, -, -⟩ := Cond.code_spec hn (atoms_spec (ws := ws) h _ (by rw [hw]; exact List.mem_cons_self))
    exact ⟨meth, c, h1, h2, h3, h4, h5, h6⟩
  · intro p e s m args below meth c s₁ B hml hP _
    have hh0 : s₁.heap = s.heap := by rw [B.state]; rfl
    have ht : ∀ x ∈ c.exceptionTable.toList, False := by
      obtain ⟨meth9, c9, h1, h2, -, -, -, -, h7, -⟩ := Cond.code_spec B.named (atoms_spec (ws := ws) B.pre _ (by rw [hw]; exact List.mem_cons_self))
      cases Option.some.inj (h1.symm.trans B.method)
      cases Option.some.inj (h2.symm.trans (Stand.of_body B).code)
      intro x hx
      rw [Array.isEmpty_iff.mp h7] at hx
      cases hx
    obtain ⟨t, a1, o, b1, b2, b3⟩ := body p e s m args below meth c s₁ B hml ht hP s₁ hh0 (Stand.of_body B)
    exact ⟨t, o, a1, b1, b2, b3⟩
/-- the table of a body with handlers -/
theorem vx_table {p : Program} {x y : MethodName} {S : Spec} {cc bytes : ByteArray} {maxL maxL' : Nat} {ret ret' : Option FieldType} {e : Env} {s s₁ : State} {m : MethodId} {args : Array Value} {below : List Frame} {meth : Method} {c : Code} {hh : List (Nat × Nat × Nat × Nat)}
    (B : BodyLoose p l y S cc maxL ret e s m args below meth c s₁) (h : (Cond.codeWith y bytes maxL' ret' hh).before args s = true) : c.exceptionTable.toList = tableOf hh := by
  obtain ⟨m9, meth9, c9, hn9, h1, h2, -, -, h6, -⟩ := Cond.codeWith_spec h
  cases Option.some.inj (hn9.symm.trans B.named)
  cases Option.some.inj (h1.symm.trans B.method)
  cases Option.some.inj (h2.symm.trans (Stand.of_body B).code)
  rw [← h6, table_eq]
end Bodies
end VXA
/-! ===== END ===== -/
/-! ===== BEGIN a static call of a method with an exception table ===== -/
section VXS
variable {p : Program} {l : Launch} {e : Env} {R : Room} {s : State} {m : MethodId} {args : Array Value} {below : List Frame} {meth : Method} {c : Code} {T : State} {H : Heap} {locs : List Loc} {cells slots : Nat}
abbrev vx_CSW (R : Room) (s : State) (args : Array Value) (own : String) (index : Nat) (y : MethodName) (bytes : ByteArray) (maxL : Nat) (ret : Option FieldType) (hh : List (Nat × Nat × Nat × Nat)) (ws : List Cond) (rm : Room) (mc ms n : Nat) : Prop :=
  (rm.cells = mc ∧ rm.slots = ms ∧ rm.frames + 1 ≤ R.frames ∧ 8 + (maxL + 11) + rm.locals ≤ R.locals ∧ (∀ w ∈ ws, ∀ (a' : Array Value) (U : State), s.WarmedH U.vm → w.before a' U = true) ∧ Cond.codeWith y bytes maxL ret hh ∈ ws) ∧
  (Cond.codeWith y bytes maxL ret hh).before args s = true ∧ (Cond.initialized y.cls).before args s = true ∧ (y.cls ≠ "java/lang/invoke/MethodHandle" ∧ y.cls ≠ "java/lang/invoke/VarHandle") ∧
  (∀ sig, parseMethodDescriptor y.desc = some sig → n = sig.parameters.length) ∧ (Cond.methodLink own index y).before args s = true ∧ (Cond.static y).before args s = true
theorem vx_cwSW {own : String} {index maxL mc ms : Nat} {y : MethodName} {bytes : ByteArray} {ret : Option FieldType} {hh : List (Nat × Nat × Nat × Nat)} {Ts ws ws' : List Cond} {rm : Room} (n : Nat) (ht : ∀ w ∈ Ts, w.before args s = true) (hT : GoodIn Ts (va_wsS own index y ws)) (hw : ws = Cond.codeWith y bytes maxL ret hh :: ws') (hrc : rm.cells = mc) (hrs : rm.slots = ms)
    (hd : y.cls ≠ "java/lang/invoke/MethodHandle" ∧ y.cls ≠ "java/lang/invoke/VarHandle" ∧ (parseMethodDescriptor y.desc).map (fun d => d.parameters.length) = some n) (hR : rm.frames + 1 ≤ R.frames ∧ 8 + (maxL + 11) + rm.locals ≤ R.locals) :
    vx_CSW R s args own index y bytes maxL ret hh ws rm mc ms n := by
  have ok : ∀ w ∈ va_wsS own index y ws, w.before args s = true := fun w h => ht w (hT w h).1
  have hG : GoodIn Ts ws := fun w h => hT w (by unfold va_wsS; exact List.mem_append_right _ h)
  have hc : Cond.codeWith y bytes maxL ret hh ∈ ws := by rw [hw]; exact List.mem_cons_self
  refine ⟨⟨hrc, hrs, hR.1, hR.2, pay_in ht hG, hc⟩, ht _ (hG _ hc).1, ok _ (by simp [va_wsS]), ⟨hd.1, hd.2.1⟩, fun sig h => ?_, ok _ (by simp [va_wsS]), ok _ (by simp [va_wsS])⟩
  have h2 := hd.2.2
  rw [h] at h2
  exact (Option.some.inj h2).symm
theorem vx_callSW (X : Stand p l e R s m args below meth c T locs cells slots) (hexec : p.tables.exec = Jvm.exec) {own : String} {index : Nat} {y : MethodName} {bytes : ByteArray} {maxL : Nat} {ret : Option FieldType} {hh : List (Nat × Nat × Nat × Nat)}
    (hown : s.vm.findClass own = some m.cls) (hlink : (Cond.methodLink own index y).before args s = true) (hstat : (Cond.static y).before args s = true) (hinit : (Cond.initialized y.cls).before args s = true)
    (hcode : (Cond.codeWith y bytes maxL ret hh).before args s = true) (hy : y.cls ≠ "java/lang/invoke/MethodHandle" ∧ y.cls ≠ "java/lang/invoke/VarHandle")
    {W9 : Nat} {Pre : Pt → Array Value → Prop} {Post : Pt → Array Value → Option Value → Pt → Prop} (hK : Back l R p e below s args y 3 W9 Pre Post)
    {g : JFrame} (hg : g.method = m) (hsize : g.locals.size = c.maxLocals) {argsL rest : List Value} (hlen : ∀ sig, parseMethodDescriptor y.desc = some sig → argsL.length = sig.parameters.length)
    (hstack : g.stack = argsL.reverse ++ rest) (hW : 2 * g.monitorRoom + (rest.map fun v => v.category).sum ≤ W9) (hdg : decode c.code g.pc = .ok (.invokestatic index, 3))
    (hpre : ∀ vm₁, s.WarmedH vm₁ → Pre ⟨T.setVm vm₁, locs, cells, slots⟩ argsL.toArray) :
    ∃ (v : Option Value) (vm₁ : Vm) (B : Pt), s.WarmedH vm₁ ∧ Stand p l e R s m args below meth c B.U B.locs B.cells B.slots ∧ Post ⟨T.setVm vm₁, locs, cells, slots⟩ argsL.toArray v B ∧
      ∀ target, Steps p.tables e below (B.U.setTop { g with pc := g.pc + 3, stack := v.toList ++ rest }) target → Steps p.tables e below (T.setTop g) target := by
  obtain ⟨mk, methM, cM, hnamed, hmethM, -, -, -, -, -, -, hsigM⟩ := Cond.codeWith_spec hcode
  have hstatic : methM.isStatic = true := Cond.static_spec hnamed hmethM hstat
  obtain ⟨kP, hkP, -⟩ := className_of_methodNamed hnamed
  have hinitP : kP.init = .initialized := Cond.initialized_spec (findClass_of_methodNamed hnamed) hkP hinit
  obtain ⟨vm₁, X₁, hstep₁⟩ := X.invokestatic hexec hown hlink hnamed hmethM hstatic hkP hinitP hy (g := g) hg (argsL := argsL) (rest := rest) (hlen _ hsigM) hstack hdg
  obtain ⟨v, B, X', hpost, hsteps⟩ := hK m meth c ⟨T.setVm vm₁, locs, cells, slots⟩ { g with stack := rest } (.invokestatic index) mk argsL.toArray X₁ hg hsize hdg hW (X₁.named hnamed) (hpre vm₁ X₁.warmed)
  exact ⟨v, vm₁, B, X₁.warmed, X', hpost, fun target h => hstep₁ _ fun acts => by rw [doInvoke_state]; exact hsteps.trans h⟩
theorem vx_runSW {y : MethodName} {bytes cc : ByteArray} {maxL nL mc ms n index : Nat} {ret : Option FieldType} {hh : List (Nat × Nat × Nat × Nat)} {ws : List Cond} {rm : Room} {Pc : Array Value → State → Prop} {Qc : Array Value → State → Outcome → State → Prop} {free : Addr → Prop} {Ts : List Cond} {own : String} {As rest : List Value} {g : JFrame}
    (S : CallFix p m c cc nL s args Ts own) (hM : Met l y ws rm Pc Qc mc ms free) (cw : vx_CSW R s args own index y bytes maxL ret hh ws rm mc ms n) (hp : PreS s H Pc As)
    (hg : g.method = m) (hn : As.length = n) (hsize : g.locals.size = nL) (hstack : g.stack = As.reverse ++ rest) (hW : 2 * g.monitorRoom + (rest.map fun v => v.category).sum ≤ 8) (hdg : decode cc g.pc = .ok (.invokestatic index, 3)) (hf : cells + mc ≤ R.cells ∧ slots + ms ≤ R.slots) :
    va_Run p l e R s m args below meth c H locs cells slots mc ms g rest (Qc As.toArray) (free) := by
  obtain ⟨⟨hrc, hrs, hfr, hlo, hws, hcw⟩, hcode, hini, hy, hlen, hl, hstt⟩ := cw
  have hK : Back l R p e below s args y 3 8 (PreOf R mc ms Pc) (PostOf Qc mc ms free) := va_backW (hh := hh) (bytes := bytes) (maxL := maxL) (ret := ret) hM hp.1 hrc hrs hfr hlo hws hcw (fun a' U hW => word_at hW (Or.inl (by first | rfl | simp [Cond.onTables, Cond.keeps, Cond.steady])) hini)
  obtain ⟨hx, hb, hml, ho, -⟩ := S
  intro T hT X
  obtain ⟨v, vm₁, ⟨U', l2, c2, s2⟩, hW₁, X', ⟨g', mk, t, L, e1, e2, hq, h1, hL, h2, h3⟩, st⟩ := vx_callSW X hx (hh := hh) (bytes := bytes) (maxL := maxL) (ret := ret) ho hl hstt hini hcode hy hK hg (hsize.trans hml.symm) (argsL := As) (rest := rest) (fun sig h => hn.trans (hlen sig h)) hstack hW (by rw [hb]; exact hdg)
    (fun vm₁ hW₁ => ⟨hf.1, hf.2, hp.2 (T.setVm vm₁) hT hW₁⟩)
  dsimp only [Pt.U, Pt.locs, Pt.cells, Pt.slots] at X' e1 e2 h1 h2 h3 st
  subst h1; subst h2; subst h3
  exact ⟨v, (T.setVm vm₁).calling g' mk As.toArray, t, U', L, hT, X', hL, e1, e2, hq, st⟩
/-- a thing of a world lies in the heap -/
theorem vx_lt {D : va_G} {cl : List vw_C} {ws : va_W} {H1 : Heap} (h : va_P D cl ws H1) {k : Nat} {q : Nat × va_E} (hk : ws[k]? = some q) : q.1 < H1.size := (h k q hk).lt
end VXS
/-! ===== END ===== -/
/-! ===== BEGIN methods with a table of their own: called by a name, returning or throwing ===== -/
section VXH
/-! vx_backW, vx_callVX, vx_callSX, vx_callVW, vx_runVW, vx_runVX, vx_runSX, vx_ofWH follow the same proofs as their sisters above (Free/Laws.lean, Shelf42/LK1.lean); vx_outP calls Shelf42/NT130.lean (outThrough). -/
section
variable {l : Launch} {R : Room} {p : Program} {e : Env} {below : List Frame} {s : State} {sargs : Array Value} {y : MethodName} {len W9 : Nat}
theorem vx_backW {ws : List Cond} {rm : Room} {Pc : Array Value → State → Prop} {Qc : Array Value → State → Outcome → State → Prop} {XC : String → State → State → Prop} {mc ms : Nat} {free : Addr → Prop} {bytes : ByteArray} {maxL : Nat} {ret : Option FieldType} {hh : List (Nat × Nat × Nat × Nat)}
    (hM : vx_Met l y ws rm Pc Qc XC mc ms free) (hblind : FrameBlind Pc) (hrc : rm.cells = mc) (hrs : rm.slots = ms)
    (hframes : rm.frames + 1 ≤ R.frames) (hlocals : W9 + (maxL + 11) + rm.locals ≤ R.locals)
    (hws : ∀ w ∈ ws, ∀ a' U, s.WarmedH U.vm → w.before a' U = true) (hcode : Cond.codeWith y bytes maxL ret hh ∈ ws) (hinit : ∀ a' U, s.WarmedH U.vm → (Cond.initialized y.cls).before a' U = true) :
    vx_Back l R p e below s sargs y len W9 (PreOf R mc ms Pc) (PostOf Qc mc ms free) (vx_Post XC mc ms free) := by
  intro m meth c A g ig mk a X hg hsize hdg hW hn hp
  have h1 : (headSpec ws rm).pre.before a A.U = true := atoms_intro fun w hw => hws w hw _ _ X.warmed
  have h2 : (Cond.codeWith y bytes maxL ret hh).before a A.U = true := hws _ hcode _ _ X.warmed
  have h3 : (Cond.initialized y.cls).before a A.U = true := hinit _ _ X.warmed
  have h4 : A.cells + (headSpec ws rm).room.cells ≤ R.cells := by rw [show (headSpec ws rm).room.cells = mc from hrc]; exact hp.1
  have h5 : A.slots + (headSpec ws rm).room.slots ≤ R.slots := by rw [show (headSpec ws rm).room.slots = ms from hrs]; exact hp.2.1
  have hPc : Pc a (A.U.calling g mk a) := hblind _ _ _ _ hp.2.2
  obtain ⟨U, Ls, c0, s0⟩ := A
  dsimp only [Pt.U, Pt.locs, Pt.cells, Pt.slots] at h1 h2 h3 h4 h5 X hn hPc ⊢
  obtain ⟨m9, methY, cY, hn9, hmY, hcY, -, hlY, -⟩ := Cond.codeWith_spec h2
  cases Option.some.inj (hn9.symm.trans hn)
  obtain ⟨kY, hkY, -⟩ := className_of_methodNamed hn
  have hinitY : kY.init = .initialized := Cond.initialized_spec (findClass_of_methodNamed hn) hkY h3
  have h : At U g.method c below := by rw [hg]; exact X.here
  have hlocals9 : W9 + (maxL + 11) + (headSpec ws rm).room.locals ≤ R.locals := hlocals
  have happ : (headSpec ws rm).appliesLoose y e.platform (U.calling g mk a) = true :=
    Spec.appliesLoose_calling (g := g) h hdg hn hkY hinitY
      (X.room_calling (g := g) (R' := (headSpec ws rm).room) hsize hmY hcY hframes (by rw [hlY]; omega) h4 h5) h1
  obtain ⟨mid, hmid⟩ := h.above
  have hfr : (U.setTop g).frames = (.java g :: mid) ++ below := by rw [State.frames_setTop' g h.top, hmid]; rfl
  obtain ⟨o, s₂, hsteps, -, hend, hq⟩ := Steps.callFree hM p X.admits X.cas X.clock (acts := []) hfr happ hPc trivial
  have hq' : vx_Q Qc XC mc ms free a (U.calling g mk a) o s₂ := hq
  rw [State.frames_setTop' g h.top] at hend
  obtain ⟨g₀, hg0⟩ := Option.isSome_iff_exists.mp h.top
  obtain ⟨r, hr⟩ := State.topJava?_eq_some.mp hg0
  have hr' : (({ U with heap := s₂.heap, slotsUsed := s₂.slotsUsed } : State).setVm s₂.vm).frames = .java g₀ :: r := hr
  rcases hq' with ⟨hqc, L, hfe, hL⟩ | ⟨q, rfl, E, ce, L, hx, hce, hcv, hcl, hW₂, hsm, hL⟩
  · obtain ⟨⟨v, rfl⟩, hW₂, e2, q2, q3, q4, q5, q6⟩ := id hfe
    have e3 : s₂ = ({ (U.calling g mk a).setFrames s₂.frames with heap := s₂.heap, slotsUsed := s₂.slotsUsed } : State).setVm s₂.vm := by
      have : s₂ = ({ s₂ with vm := (U.calling g mk a).vm } : State).setVm s₂.vm := rfl
      rw [e2] at this
      exact this
    obtain ⟨c₂, i₂, len₂, hc₂, hd₂, hf₂⟩ := hend
    have hW' : U.WarmedH s₂.vm := hW₂
    have hcc : c₂ = c := by
      have h1 : s₂.code? g.method = U.code? g.method := by
        rw [State.code?_eq, State.code?_eq, hW'.alike.method?]
      exact Option.some.inj (hc₂.symm.trans (h1.trans h.code))
    subst hcc
    have hlen : len₂ = len := by rw [hdg] at hd₂; cases hd₂; rfl
    subst hlen
    have hs₂ : s₂ = (({ U with heap := s₂.heap, slotsUsed := s₂.slotsUsed } : State).setVm s₂.vm).setTop { g with pc := g.pc + len₂, stack := v.toList ++ g.stack } := by
      refine e3.trans ?_
      rw [hf₂, State.calling_eq h.top, State.setFrames_setFrames, State.setTop_of_frames _ hr', hr]
      rfl
    have hsame : U.sameButNew ({ U with heap := s₂.heap, slotsUsed := s₂.slotsUsed } : State) L mc ms := by
      refine ⟨?_, q2, q3, q4, q5, q6⟩
      obtain ⟨t, ht, -⟩ := State.frames_cons hr
      show ({ U with heap := s₂.heap, slotsUsed := s₂.slotsUsed } : State) = { U.setFrames U.frames with heap := s₂.heap, slotsUsed := s₂.slotsUsed }
      rw [State.setFrames_self ht]
    subst hg
    refine Or.inl ⟨v, ⟨(({ U with heap := s₂.heap, slotsUsed := s₂.slotsUsed } : State).setVm s₂.vm), Ls ++ L, c0 + mc, s0 + ms⟩,
      ⟨X.admits, X.cas, X.clock, X.frames, X.room, X.hears, X.method, X.code, (X.here.setHeapUsed s₂.heap s₂.slotsUsed).setVm hW'.alike, X.tail, State.WarmedH.trans X.warmed hW', X.limits, X.bytes, X.same.trans (hsame.setVm s.vm)⟩,
      ⟨g, mk, s₂, L, rfl, rfl, hqc, rfl, hL, rfl, rfl⟩, ?_⟩
    show Steps p.tables e below _ ((({ U with heap := s₂.heap, slotsUsed := s₂.slotsUsed } : State).setVm s₂.vm).setTop { g with pc := g.pc + len₂, stack := v.toList ++ g.stack })
    rw [← hs₂]
    exact hsteps
  · obtain ⟨e2, q2, q3, q4, q5, q6⟩ := id hsm
    have e3 : s₂ = ({ (U.calling g mk a).setFrames s₂.frames with heap := s₂.heap, slotsUsed := s₂.slotsUsed } : State).setVm s₂.vm := by
      have : s₂ = ({ s₂ with vm := (U.calling g mk a).vm } : State).setVm s₂.vm := rfl
      rw [e2] at this
      exact this
    have hf₂ : s₂.frames = .throwing q :: .java g :: U.frames.tail := hend
    have hW' : U.WarmedH s₂.vm := hW₂
    have hs₂ : s₂ = ((({ U with heap := s₂.heap, slotsUsed := s₂.slotsUsed } : State).setVm s₂.vm).setTop g).pushFrame (.throwing q) := by
      refine e3.trans ?_
      rw [hf₂, State.calling_eq h.top, State.setFrames_setFrames, State.pushFrame, State.frames_setTop _ hr', State.setTop_of_frames _ hr', State.setFrames_setFrames, hr]
      rfl
    have hsame : U.sameButNew ({ U with heap := s₂.heap, slotsUsed := s₂.slotsUsed } : State) L mc ms := by
      refine ⟨?_, q2, q3, q4, q5, q6⟩
      obtain ⟨t, ht, -⟩ := State.frames_cons hr
      show ({ U with heap := s₂.heap, slotsUsed := s₂.slotsUsed } : State) = { U.setFrames U.frames with heap := s₂.heap, slotsUsed := s₂.slotsUsed }
      rw [State.setFrames_self ht]
    subst hg
    refine Or.inr ⟨q, ⟨(({ U with heap := s₂.heap, slotsUsed := s₂.slotsUsed } : State).setVm s₂.vm), Ls ++ L, c0 + mc, s0 + ms⟩,
      ⟨X.admits, X.cas, X.clock, X.frames, X.room, X.hears, X.method, X.code, (X.here.setHeapUsed s₂.heap s₂.slotsUsed).setVm hW'.alike, X.tail, State.WarmedH.trans X.warmed hW', X.limits, X.bytes, X.same.trans (hsame.setVm s.vm)⟩,
      ⟨g, mk, s₂, L, E, ce, rfl, rfl, hx, hce, hcv, hcl, rfl, hL, rfl, rfl⟩, ?_⟩
    show Steps p.tables e below _ (((({ U with heap := s₂.heap, slotsUsed := s₂.slotsUsed } : State).setVm s₂.vm).setTop g).pushFrame (.throwing q))
    rw [← hs₂]
    exact hsteps
end
variable {p : Program} {l : Launch} {e : Env} {R : Room} {s : State} {m : MethodId} {args : Array Value} {below : List Frame} {meth : Method} {c : Code} {T : State} {H : Heap} {locs : List Loc} {cells slots : Nat}
theorem vx_callVX (X : Stand p l e R s m args below meth c T locs cells slots) (hexec : p.tables.exec = Jvm.exec) {own C : String} {index : Nat} {y : MethodName} {bytes : ByteArray} {maxL : Nat} {ret : Option FieldType} {hh : List (Nat × Nat × Nat × Nat)}
    (hown : s.vm.findClass own = some m.cls) (hlink : (Cond.methodLink own index y).before args s = true) (hinst : (Cond.instanceMethod y).before args s = true) (hsel : (Cond.selects C y y).before args s = true)
    (hcode : (Cond.codeWith y bytes maxL ret hh).before args s = true) (hy : y.cls ≠ "java/lang/invoke/MethodHandle" ∧ y.cls ≠ "java/lang/invoke/VarHandle")
    {W9 : Nat} {Pre : Pt → Array Value → Prop} {Post : Pt → Array Value → Option Value → Pt → Prop} {PostX : Pt → Array Value → Addr → Pt → Prop} (hK : vx_Back l R p e below s args y 3 W9 Pre Post PostX)
    {b : Addr} {cellB : Cell} (hcell : T.heap[b]? = some cellB) (hobj : cellB.vm.isStatics = false) (hcls : s.vm.findClass C = some cellB.cls)
    {g : JFrame} (hg : g.method = m) (hsize : g.locals.size = c.maxLocals) {argsL rest : List Value} (hlen : ∀ sig, parseMethodDescriptor y.desc = some sig → argsL.length = sig.parameters.length)
    (hstack : g.stack = argsL.reverse ++ .ref b :: rest) (hW : 2 * g.monitorRoom + (rest.map fun v => v.category).sum ≤ W9) (hdg : decode c.code g.pc = .ok (.invokevirtual index, 3))
    (hpre : ∀ vm₁, s.WarmedH vm₁ → Pre ⟨T.setVm vm₁, locs, cells, slots⟩ (Value.ref b :: argsL).toArray) :
    (∃ (v : Option Value) (vm₁ : Vm) (B : Pt), s.WarmedH vm₁ ∧ Stand p l e R s m args below meth c B.U B.locs B.cells B.slots ∧ Post ⟨T.setVm vm₁, locs, cells, slots⟩ (Value.ref b :: argsL).toArray v B ∧
      ∀ target, Steps p.tables e below (B.U.setTop { g with pc := g.pc + 3, stack := v.toList ++ rest }) target → Steps p.tables e below (T.setTop g) target) ∨
    (∃ (q : Addr) (vm₁ : Vm) (B : Pt), s.WarmedH vm₁ ∧ Stand p l e R s m args below meth c B.U B.locs B.cells B.slots ∧ PostX ⟨T.setVm vm₁, locs, cells, slots⟩ (Value.ref b :: argsL).toArray q B ∧
      Steps p.tables e below (T.setTop g) ((B.U.setTop { g with stack := rest }).pushFrame (.throwing q))) := by
  obtain ⟨mk, methM, hnamed, hmethM, hstM, habM⟩ := Cond.instanceMethod_spec hinst
  obtain ⟨m8, methM', cM, hn8, hmethM', -, -, -, -, -, -, hsigM⟩ := Cond.codeWith_spec hcode
  cases Option.some.inj (hn8.symm.trans hnamed)
  cases hmethM.symm.trans hmethM'
  obtain ⟨c2, r2, m2, q1, q2, q3, q4, kP, hkP, hkPi⟩ := Cond.selects_spec hsel
  cases hcls.symm.trans q1
  cases (State.methodFound?_of_named hnamed hy).symm.trans q2
  cases hnamed.symm.trans q3
  have hselP : selectMethod e.platform s.vm cellB.cls mk = .method mk := by rw [Launch.admits_selectMethod X.admits]; exact q4
  obtain ⟨vm₁, X₁, hstep₁⟩ := X.invokevirtual hexec hown hlink hnamed hmethM hstM hkP hkPi hy (a := b) (cell := cellB) hcell
    (fun z h => by rw [h] at hobj; cases hobj) hselP hmethM habM hkP hkPi (g := g) hg (argsL := argsL) (rest := rest) (hlen _ hsigM) hstack hdg
  rcases hK m meth c ⟨T.setVm vm₁, locs, cells, slots⟩ { g with stack := rest } (.invokevirtual index) mk (Value.ref b :: argsL).toArray X₁ hg hsize hdg hW (X₁.named hnamed) (hpre vm₁ X₁.warmed) with ⟨v, B, X', hpost, hsteps⟩ | ⟨q, B, X', hpost, hsteps⟩
  · exact Or.inl ⟨v, vm₁, B, X₁.warmed, X', hpost, fun target h => hstep₁ _ fun acts => by rw [doInvoke_state]; exact hsteps.trans h⟩
  · exact Or.inr ⟨q, vm₁, B, X₁.warmed, X', hpost, hstep₁ _ fun acts => by rw [doInvoke_state]; exact hsteps⟩
theorem vx_callSX (X : Stand p l e R s m args below meth c T locs cells slots) (hexec : p.tables.exec = Jvm.exec) {own : String} {index : Nat} {y : MethodName} {bytes : ByteArray} {maxL : Nat} {ret : Option FieldType} {hh : List (Nat × Nat × Nat × Nat)}
    (hown : s.vm.findClass own = some m.cls) (hlink : (Cond.methodLink own index y).before args s = true) (hstat : (Cond.static y).before args s = true) (hinit : (Cond.initialized y.cls).before args s = true)
    (hcode : (Cond.codeWith y bytes maxL ret hh).before args s = true) (hy : y.cls ≠ "java/lang/invoke/MethodHandle" ∧ y.cls ≠ "java/lang/invoke/VarHandle")
    {W9 : Nat} {Pre : Pt → Array Value → Prop} {Post : Pt → Array Value → Option Value → Pt → Prop} {PostX : Pt → Array Value → Addr → Pt → Prop} (hK : vx_Back l R p e below s args y 3 W9 Pre Post PostX)
    {g : JFrame} (hg : g.method = m) (hsize : g.locals.size = c.maxLocals) {argsL rest : List Value} (hlen : ∀ sig, parseMethodDescriptor y.desc = some sig → argsL.length = sig.parameters.length)
    (hstack : g.stack = argsL.reverse ++ rest) (hW : 2 * g.monitorRoom + (rest.map fun v => v.category).sum ≤ W9) (hdg : decode c.code g.pc = .ok (.invokestatic index, 3))
    (hpre : ∀ vm₁, s.WarmedH vm₁ → Pre ⟨T.setVm vm₁, locs, cells, slots⟩ argsL.toArray) :
    (∃ (v : Option Value) (vm₁ : Vm) (B : Pt), s.WarmedH vm₁ ∧ Stand p l e R s m args below meth c B.U B.locs B.cells B.slots ∧ Post ⟨T.setVm vm₁, locs, cells, slots⟩ argsL.toArray v B ∧
      ∀ target, Steps p.tables e below (B.U.setTop { g with pc := g.pc + 3, stack := v.toList ++ rest }) target → Steps p.tables e below (T.setTop g) target) ∨
    (∃ (q : Addr) (vm₁ : Vm) (B : Pt), s.WarmedH vm₁ ∧ Stand p l e R s m args below meth c B.U B.locs B.cells B.slots ∧ PostX ⟨T.setVm vm₁, locs, cells, slots⟩ argsL.toArray q B ∧
      Steps p.tables e below (T.setTop g) ((B.U.setTop { g with stack := rest }).pushFrame (.throwing q))) := by
  obtain ⟨mk, methM, cM, hnamed, hmethM, -, -, -, -, -, -, hsigM⟩ := Cond.codeWith_spec hcode
  have hstatic : methM.isStatic = true := Cond.static_spec hnamed hmethM hstat
  obtain ⟨kP, hkP, -⟩ := className_of_methodNamed hnamed
  have hinitP : kP.init = .initialized := Cond.initialized_spec (findClass_of_methodNamed hnamed) hkP hinit
  obtain ⟨vm₁, X₁, hstep₁⟩ := X.invokestatic hexec hown hlink hnamed hmethM hstatic hkP hinitP hy (g := g) hg (argsL := argsL) (rest := rest) (hlen _ hsigM) hstack hdg
  rcases hK m meth c ⟨T.setVm vm₁, locs, cells, slots⟩ { g with stack := rest } (.invokestatic index) mk argsL.toArray X₁ hg hsize hdg hW (X₁.named hnamed) (hpre vm₁ X₁.warmed) with ⟨v, B, X', hpost, hsteps⟩ | ⟨q, B, X', hpost, hsteps⟩
  · exact Or.inl ⟨v, vm₁, B, X₁.warmed, X', hpost, fun target h => hstep₁ _ fun acts => by rw [doInvoke_state]; exact hsteps.trans h⟩
  · exact Or.inr ⟨q, vm₁, B, X₁.warmed, X', hpost, hstep₁ _ fun acts => by rw [doInvoke_state]; exact hsteps⟩
theorem vx_callVW (X : Stand p l e R s m args below meth c T locs cells slots) (hexec : p.tables.exec = Jvm.exec) {own C : String} {index : Nat} {y : MethodName} {bytes : ByteArray} {maxL : Nat} {ret : Option FieldType} {hh : List (Nat × Nat × Nat × Nat)}
    (hown : s.vm.findClass own = some m.cls) (hlink : (Cond.methodLink own index y).before args s = true) (hinst : (Cond.instanceMethod y).before args s = true) (hsel : (Cond.selects C y y).before args s = true)
    (hcode : (Cond.codeWith y bytes maxL ret hh).before args s = true) (hy : y.cls ≠ "java/lang/invoke/MethodHandle" ∧ y.cls ≠ "java/lang/invoke/VarHandle")
    {W9 : Nat} {Pre : Pt → Array Value → Prop} {Post : Pt → Array Value → Option Value → Pt → Prop} (hK : Back l R p e below s args y 3 W9 Pre Post)
    {b : Addr} {cellB : Cell} (hcell : T.heap[b]? = some cellB) (hobj : cellB.vm.isStatics = false) (hcls : s.vm.findClass C = some cellB.cls)
    {g : JFrame} (hg : g.method = m) (hsize : g.locals.size = c.maxLocals) {argsL rest : List Value} (hlen : ∀ sig, parseMethodDescriptor y.desc = some sig → argsL.length = sig.parameters.length)
    (hstack : g.stack = argsL.reverse ++ .ref b :: rest) (hW : 2 * g.monitorRoom + (rest.map fun v => v.category).sum ≤ W9) (hdg : decode c.code g.pc = .ok (.invokevirtual index, 3))
    (hpre : ∀ vm₁, s.WarmedH vm₁ → Pre ⟨T.setVm vm₁, locs, cells, slots⟩ (Value.ref b :: argsL).toArray) :
    ∃ (v : Option Value) (vm₁ : Vm) (B : Pt), s.WarmedH vm₁ ∧ Stand p l e R s m args below meth c B.U B.locs B.cells B.slots ∧ Post ⟨T.setVm vm₁, locs, cells, slots⟩ (Value.ref b :: argsL).toArray v B ∧
      ∀ target, Steps p.tables e below (B.U.setTop { g with pc := g.pc + 3, stack := v.toList ++ rest }) target → Steps p.tables e below (T.setTop g) target := by
  obtain ⟨mk, methM, hnamed, hmethM, hstM, habM⟩ := Cond.instanceMethod_spec hinst
  obtain ⟨m8, methM', cM, hn8, hmethM', -, -, -, -, -, -, hsigM⟩ := Cond.codeWith_spec hcode
  cases Option.some.inj (hn8.symm.trans hnamed)
  cases hmethM.symm.trans hmethM'
  obtain ⟨c2, r2, m2, q1, q2, q3, q4, kP, hkP, hkPi⟩ := Cond.selects_spec hsel
  cases hcls.symm.trans q1
  cases (State.methodFound?_of_named hnamed hy).symm.trans q2
  cases hnamed.symm.trans q3
  have hselP : selectMethod e.platform s.vm cellB.cls mk = .method mk := by rw [Launch.admits_selectMethod X.admits]; exact q4
  obtain ⟨vm₁, X₁, hstep₁⟩ := X.invokevirtual hexec hown hlink hnamed hmethM hstM hkP hkPi hy (a := b) (cell := cellB) hcell
    (fun z h => by rw [h] at hobj; cases hobj) hselP hmethM habM hkP hkPi (g := g) hg (argsL := argsL) (rest := rest) (hlen _ hsigM) hstack hdg
  obtain ⟨v, B, X', hpost, hsteps⟩ := hK m meth c ⟨T.setVm vm₁, locs, cells, slots⟩ { g with stack := rest } (.invokevirtual index) mk (Value.ref b :: argsL).toArray X₁ hg hsize hdg hW (X₁.named hnamed) (hpre vm₁ X₁.warmed)
  exact ⟨v, vm₁, B, X₁.warmed, X', hpost, fun target h => hstep₁ _ fun acts => by rw [doInvoke_state]; exact hsteps.trans h⟩
abbrev vx_CVW (R : Room) (s : State) (args : Array Value) (own C : String) (index : Nat) (y : MethodName) (bytes : ByteArray) (maxL : Nat) (ret : Option FieldType) (hh : List (Nat × Nat × Nat × Nat)) (ws : List Cond) (rm : Room) (mc ms n : Nat) : Prop :=
  (rm.cells = mc ∧ rm.slots = ms ∧ rm.frames + 1 ≤ R.frames ∧ 8 + (maxL + 11) + rm.locals ≤ R.locals ∧ (∀ w ∈ ws, ∀ (a' : Array Value) (U : State), s.WarmedH U.vm → w.before a' U = true) ∧ Cond.codeWith y bytes maxL ret hh ∈ ws) ∧
  (Cond.codeWith y bytes maxL ret hh).before args s = true ∧ (Cond.initialized y.cls).before args s = true ∧ (y.cls ≠ "java/lang/invoke/MethodHandle" ∧ y.cls ≠ "java/lang/invoke/VarHandle") ∧
  (∀ sig, parseMethodDescriptor y.desc = some sig → n = sig.parameters.length) ∧ (Cond.methodLink own index y).before args s = true ∧ (Cond.instanceMethod y).before args s = true ∧ (Cond.selects C y y).before args s = true
theorem vx_cwVW {own C : String} {index maxL mc ms : Nat} {y : MethodName} {bytes : ByteArray} {ret : Option FieldType} {hh : List (Nat × Nat × Nat × Nat)} {Ts ws ws' : List Cond} {rm : Room} (n : Nat) (ht : ∀ w ∈ Ts, w.before args s = true) (hT : GoodIn Ts (wsV own index C y ws)) (hw : ws = Cond.codeWith y bytes maxL ret hh :: ws') (hrc : rm.cells = mc) (hrs : rm.slots = ms)
    (hd : y.cls = C ∧ y.cls ≠ "java/lang/invoke/MethodHandle" ∧ y.cls ≠ "java/lang/invoke/VarHandle" ∧ (parseMethodDescriptor y.desc).map (fun d => d.parameters.length) = some n) (hR : rm.frames + 1 ≤ R.frames ∧ 8 + (maxL + 11) + rm.locals ≤ R.locals) :
    vx_CVW R s args own C index y bytes maxL ret hh ws rm mc ms n := by
  obtain ⟨hC, hd⟩ := hd
  subst hC
  have ok : ∀ w ∈ wsV own index y.cls y ws, w.before args s = true := fun w h => ht w (hT w h).1
  have hG : GoodIn Ts ws := fun w h => hT w (by unfold wsV; exact List.mem_append_right _ h)
  have hc : Cond.codeWith y bytes maxL ret hh ∈ ws := by rw [hw]; exact List.mem_cons_self
  refine ⟨⟨hrc, hrs, hR.1, hR.2, pay_in ht hG, hc⟩, ht _ (hG _ hc).1, ok _ (by simp [wsV]), ⟨hd.1, hd.2.1⟩, fun sig h => ?_, ok _ (by simp [wsV]), ok _ (by simp [wsV]), ok _ (by simp [wsV])⟩
  have h2 := hd.2.2
  rw [h] at h2
  exact (Option.some.inj h2).symm
theorem vx_runVW {y : MethodName} {bytes cc : ByteArray} {maxL nL mc ms n index : Nat} {ret : Option FieldType} {hh : List (Nat × Nat × Nat × Nat)} {ws : List Cond} {rm : Room} {Pc : Array Value → State → Prop} {Qc : Array Value → State → Outcome → State → Prop} {free : Addr → Prop} {Ts : List Cond} {own C : String} {b : Addr} {As rest : List Value} {g : JFrame}
    (S : CallFix p m c cc nL s args Ts own) (hM : Met l y ws rm Pc Qc mc ms free) (cw : vx_CVW R s args own C index y bytes maxL ret hh ws rm mc ms n) (hp : PreV s H C b Pc As)
    (hg : g.method = m) (hn : As.length = n) (hsize : g.locals.size = nL) (hstack : g.stack = As.reverse ++ .ref b :: rest) (hW : 2 * g.monitorRoom + (rest.map fun v => v.category).sum ≤ 8) (hdg : decode cc g.pc = .ok (.invokevirtual index, 3)) (hf : cells + mc ≤ R.cells ∧ slots + ms ≤ R.slots) :
    va_Run p l e R s m args below meth c H locs cells slots mc ms g rest (Qc (Value.ref b :: As).toArray) free := by
  obtain ⟨⟨hrc, hrs, hfr, hlo, hws, hcw⟩, hcode, hini, hy, hlen, hl, hin, hse⟩ := cw
  have hK : Back l R p e below s args y 3 8 (PreOf R mc ms Pc) (PostOf Qc mc ms free) := va_backW (hh := hh) (bytes := bytes) (maxL := maxL) (ret := ret) hM hp.1 hrc hrs hfr hlo hws hcw (fun a' U hW => word_at hW (Or.inl (by first | rfl | simp [Cond.onTables, Cond.keeps, Cond.steady])) hini)
  obtain ⟨hx, hb, hml, ho, -⟩ := S
  obtain ⟨-, ⟨cellB, hcB, hoB, hclB⟩, hPc⟩ := hp
  intro T hT X
  obtain ⟨v, vm₁, ⟨U', l2, c2, s2⟩, hW₁, X', ⟨g', mk, t, L, e1, e2, hq, h1, hL, h2, h3⟩, st⟩ := vx_callVW X hx (C := C) (hh := hh) (bytes := bytes) (maxL := maxL) (ret := ret) ho hl hin hse hcode hy hK (by rw [hT]; exact hcB) hoB hclB hg (hsize.trans hml.symm) (argsL := As) (rest := rest) (fun sig h => hn.trans (hlen sig h)) hstack hW (by rw [hb]; exact hdg)
    (fun vm₁ hW₁ => ⟨hf.1, hf.2, hPc (T.setVm vm₁) hT hW₁⟩)
  dsimp only [Pt.U, Pt.locs, Pt.cells, Pt.slots] at X' e1 e2 h1 h2 h3 st
  subst h1; subst h2; subst h3
  exact ⟨v, (T.setVm vm₁).calling g' mk (Value.ref b :: As).toArray, t, U', L, hT, X', hL, e1, e2, hq, st⟩
section
variable {y : MethodName} {bytes cc : ByteArray} {maxL nL mc ms n index : Nat} {ret : Option FieldType} {ws : List Cond} {rm : Room} {Pc : Array Value → State → Prop} {Qc : Array Value → State → Outcome → State → Prop} {XC : String → State → State → Prop} {free : Addr → Prop} {Ts : List Cond} {own C : String} {b : Addr} {As rest : List Value} {g : JFrame}
theorem vx_runVX {hh : List (Nat × Nat × Nat × Nat)} (S : CallFix p m c cc nL s args Ts own) (hM : vx_Met l y ws rm Pc Qc XC mc ms free) (cw : vx_CVW R s args own C index y bytes maxL ret hh ws rm mc ms n) (hp : PreV s H C b Pc As)
    (hg : g.method = m) (hn : As.length = n) (hsize : g.locals.size = nL) (hstack : g.stack = As.reverse ++ .ref b :: rest) (hW : 2 * g.monitorRoom + (rest.map fun v => v.category).sum ≤ 8) (hdg : decode cc g.pc = .ok (.invokevirtual index, 3)) (hf : cells + mc ≤ R.cells ∧ slots + ms ≤ R.slots) :
    vx_Run p l e R s m args below meth c H locs cells slots mc ms g rest (Qc (Value.ref b :: As).toArray) XC free := by
  obtain ⟨⟨hrc, hrs, hfr, hlo, hws, hcw⟩, hcode, hini, hy, hlen, hl, hin, hse⟩ := cw
  have hK : vx_Back l R p e below s args y 3 8 (PreOf R mc ms Pc) (PostOf Qc mc ms free) (vx_Post XC mc ms free) := vx_backW (hh := hh) (bytes := bytes) (maxL := maxL) (ret := ret) hM hp.1 hrc hrs hfr hlo hws hcw (fun a' U hW => word_at hW (Or.inl (by first | rfl | simp [Cond.onTables, Cond.keeps, Cond.steady])) hini)
  obtain ⟨hx, hb, hml, ho, -⟩ := S
  obtain ⟨-, ⟨cellB, hcB, hoB, hclB⟩, hPc⟩ := hp
  intro T hT X
  rcases vx_callVX X hx (C := C) (hh := hh) (bytes := bytes) (maxL := maxL) (ret := ret) ho hl hin hse hcode hy hK (by rw [hT]; exact hcB) hoB hclB hg (hsize.trans hml.symm) (argsL := As) (rest := rest) (fun sig h => hn.trans (hlen sig h)) hstack hW (by rw [hb]; exact hdg)
    (fun vm₁ hW₁ => ⟨hf.1, hf.2, hPc (T.setVm vm₁) hT hW₁⟩) with ⟨v, vm₁, ⟨U', l2, c2, s2⟩, hW₁, X', ⟨g', mk, t, L, e1, e2, hq, h1, hL, h2, h3⟩, st⟩ | ⟨q, vm₁, ⟨U', l2, c2, s2⟩, hW₁, X', ⟨g', mk, t, L, E, ce, e1, e2, hq, hce, hcv, hcl, h1, hL, h2, h3⟩, st⟩
  · dsimp only [Pt.U, Pt.locs, Pt.cells, Pt.slots] at X' e1 e2 h1 h2 h3 st
    subst h1; subst h2; subst h3
    exact Or.inl ⟨v, (T.setVm vm₁).calling g' mk (Value.ref b :: As).toArray, t, U', L, hT, X', hL, e1, e2, hq, st⟩
  · dsimp only [Pt.U, Pt.locs, Pt.cells, Pt.slots] at X' e1 e2 h1 h2 h3 st hcl
    subst h1; subst h2; subst h3
    exact Or.inr ⟨q, (T.setVm vm₁).calling g' mk (Value.ref b :: As).toArray, t, U', L, E, ce, hT, X', hL, e1, e2, hq, hce, hcv, vx_cls hW₁ hcl, st⟩
theorem vx_runSX {hh : List (Nat × Nat × Nat × Nat)} (S : CallFix p m c cc nL s args Ts own) (hM : vx_Met l y ws rm Pc Qc XC mc ms free) (cw : vx_CSW R s args own index y bytes maxL ret hh ws rm mc ms n) (hp : PreS s H Pc As)
    (hg : g.method = m) (hn : As.length = n) (hsize : g.locals.size = nL) (hstack : g.stack = As.reverse ++ rest) (hW : 2 * g.monitorRoom + (rest.map fun v => v.category).sum ≤ 8) (hdg : decode cc g.pc = .ok (.invokestatic index, 3)) (hf : cells + mc ≤ R.cells ∧ slots + ms ≤ R.slots) :
    vx_Run p l e R s m args below meth c H locs cells slots mc ms g rest (Qc As.toArray) XC free := by
  obtain ⟨⟨hrc, hrs, hfr, hlo, hws, hcw⟩, hcode, hini, hy, hlen, hl, hstt⟩ := cw
  have hK : vx_Back l R p e below s args y 3 8 (PreOf R mc ms Pc) (PostOf Qc mc ms free) (vx_Post XC mc ms free) := vx_backW (hh := hh) (bytes := bytes) (maxL := maxL) (ret := ret) hM hp.1 hrc hrs hfr hlo hws hcw (fun a' U hW => word_at hW (Or.inl (by first | rfl | simp [Cond.onTables, Cond.keeps, Cond.steady])) hini)
  obtain ⟨hx, hb, hml, ho, -⟩ := S
  intro T hT X
  rcases vx_callSX X hx (hh := hh) (bytes := bytes) (maxL := maxL) (ret := ret) ho hl hstt hini hcode hy hK hg (hsize.trans hml.symm) (argsL := As) (rest := rest) (fun sig h => hn.trans (hlen sig h)) hstack hW (by rw [hb]; exact hdg)
    (fun vm₁ hW₁ => ⟨hf.1, hf.2, hp.2 (T.setVm vm₁) hT hW₁⟩) with ⟨v, vm₁, ⟨U', l2, c2, s2⟩, hW₁, X', ⟨g', mk, t, L, e1, e2, hq, h1, hL, h2, h3⟩, st⟩ | ⟨q, vm₁, ⟨U', l2, c2, s2⟩, hW₁, X', ⟨g', mk, t, L, E, ce, e1, e2, hq, hce, hcv, hcl, h1, hL, h2, h3⟩, st⟩
  · dsimp only [Pt.U, Pt.locs, Pt.cells, Pt.slots] at X' e1 e2 h1 h2 h3 st
    subst h1; subst h2; subst h3
    exact Or.inl ⟨v, (T.setVm vm₁).calling g' mk As.toArray, t, U', L, hT, X', hL, e1, e2, hq, st⟩
  · dsimp only [Pt.U, Pt.locs, Pt.cells, Pt.slots] at X' e1 e2 h1 h2 h3 st hcl
    subst h1; subst h2; subst h3
    exact Or.inr ⟨q, (T.setVm vm₁).calling g' mk As.toArray, t, U', L, E, ce, hT, X', hL, e1, e2, hq, hce, hcv, vx_cls hW₁ hcl, st⟩
end
end VXH
theorem vx_ofWH {l : Launch} {y : MethodName} {ws ws' : List Cond} {rm : Room} {Pc : Array Value → State → Prop} {Qc : Array Value → State → Outcome → State → Prop} {XC : String → State → State → Prop} {mc ms : Nat} {free : Addr → Prop} {cc : ByteArray} {maxL : Nat} {ret : Option FieldType} {hh : List (Nat × Nat × Nat × Nat)}
    (hy : plainName y.cls = true) (hw : ws = Cond.codeWith y cc maxL ret hh :: ws')
    (body : ∀ p e s m args below meth c s₁, BodyLoose p l y (headSpec ws rm) cc maxL ret e s m args below meth c s₁ → c.maxLocals = maxL → Pc args s →
      W p l e (headSpec ws rm).room s m args below meth c s.heap [] 0 0 (vx_MQ below Qc XC args s mc ms free) (entryFrame m args maxL)) : vx_Met l y ws rm Pc Qc XC mc ms free := by
  refine MetFree.of_bodyS (code := cc) (maxLocals := maxL) (ret := ret) hy ?_ ?_
  · intro args s m h hn
    obtain ⟨m9, meth, c, hn9, h1, h2, h3, h4, -, h5, h6, -⟩ := Cond.codeWith_spec (atoms_spec (ws := ws) h _ (by rw [hw]; exact List.mem_cons_self))
    cases hn.symm.trans hn9
    exact ⟨meth, c, h1, h2, h3, h4, h5, h6⟩
  · intro p e s m args below meth c s₁ B hml hP _
    have hh0 : s₁.heap = s.heap := by rw [B.state]; rfl
    obtain ⟨t, a1, o, b1, b2, b3⟩ := body p e s m args below meth c s₁ B hml hP s₁ hh0 (Stand.of_body B)
    exact ⟨t, o, a1, b1, b2, b3⟩
/-! ===== END ===== -/
end
section
/-! ===== THE ABSTRACT MACHINE: the bytecode over a heap of numbered cells; a reference is a cell's number; the script is retAddr 0, the texts are retAddr 1 and on ===== -/
abbrev av_O : Type := Instr × Nat × Nat
abbrev av_L : Type := List (Option Value)
abbrev av_H : Type := List va_E
abbrev av_F : Type := Nat × av_L × List Value × av_H × Nat × Nat
abbrev av_S : Type := av_F ⊕ (Option Value ⊕ ((Nat × List Value × List Value) ⊕ String))
abbrev av_R : Type := (Option Value ⊕ String) × av_H × Nat × Nat
/-- a method: its name, its bytes, its locals, what it answers, how many values it takes off the stack, its handlers (from, to, at, the entry of the class), their classes, its class's number, whether it may throw -/
abbrev av_M : Type := MethodName × ByteArray × Nat × Option FieldType × Nat × List (Nat × Nat × Nat × Nat) × List String × Nat × Bool
/-- a program: its instructions, its methods, the types of each class's fields, the throws (class), the texts, the script's length and ints -/
abbrev av_P : Type := (Nat → Nat → Option av_O) × (Nat → av_M) × (Nat → List FieldType) × (Nat → String) × (Nat → List Int32) × Nat × (Nat → Int32)
def av_op (P : av_P) : Nat → Nat → Option av_O := P.1
def av_me (P : av_P) : Nat → av_M := P.2.1
def av_ty (P : av_P) : Nat → List FieldType := P.2.2.1
def av_th (P : av_P) : Nat → String := P.2.2.2.1
def av_tx (P : av_P) : Nat → List Int32 := P.2.2.2.2.1
def av_nx (P : av_P) : Nat := P.2.2.2.2.2.1
def av_xs (P : av_P) : Nat → Int32 := P.2.2.2.2.2.2
def av_cmp (k : Jvm.ClassFile.Cond) (x y : Int32) : Bool := match k with
  | .eq => decide (x = y)
  | .ne => decide (x ≠ y)
  | .lt => decide (x < y)
  | .ge => decide (y ≤ x)
  | .gt => decide (y < x)
  | .le => decide (x ≤ y)
def av_goto (t : Int) (L : av_L) (st : List Value) (h : av_H) (c s : Nat) : Option av_S := some (.inl (t.toNat, L, st, h, c, s))
def av_def (t : FieldType) : Value := defaultValue t
/-- may the value be put into a field of that type -/
def av_fit (t : FieldType) (v : Value) : Bool := match t, v with
  | .int, .int _ => true
  | .boolean, .int x => decide (x = 0) || decide (x = 1)
  | .object _, .ref _ => true
  | .object _, .null => true
  | .array _, .ref _ => true
  | .array _, .null => true
  | _, _ => false
def av_in (i : Int32) (n : Nat) : Bool := decide (¬ i < 0) && decide (i.toNatClampNeg < n)
def av_bin (pc len : Nat) (L : av_L) (st : List Value) (h : av_H) (c s : Nat) (f : Int32 → Int32 → Option Int32) : Option av_S := match st with
  | .int y :: .int x :: r => match f x y with
    | some z => some (.inl (pc + len, L, .int z :: r, h, c, s))
    | none => none
  | _ => none
def av_iaload (P : av_P) (pc len : Nat) (L : av_L) (st : List Value) (h : av_H) (c s : Nat) : Option av_S := match st with
  | .int i :: .ref a :: r => match h[a]? with
    | some (.inl (0, n, .inl f)) => if av_in i n then some (.inl (pc + len, L, .int (f i.toNatClampNeg) :: r, h, c, s)) else none
    | _ => none
  | .int i :: .retAddr 0 :: r => if av_in i (av_nx P) then some (.inl (pc + len, L, .int (av_xs P i.toNatClampNeg) :: r, h, c, s)) else none
  | _ => none
def av_alen (P : av_P) (pc len : Nat) (L : av_L) (st : List Value) (h : av_H) (c s : Nat) : Option av_S := match st with
  | .ref a :: r => match h[a]? with
    | some (.inl (t, n, _)) => if t < 4 then some (.inl (pc + len, L, .int (Int32.ofNat n) :: r, h, c, s)) else none
    | _ => none
  | .retAddr 0 :: r => some (.inl (pc + len, L, .int (Int32.ofNat (av_nx P)) :: r, h, c, s))
  | _ => none
def av_copy (pc len : Nat) (L : av_L) (st : List Value) (h : av_H) (c s : Nat) : Option av_S := match st with
  | .int n :: .int dp :: .ref b :: .int sp :: .ref a :: r => match h[a]?, h[b]? with
    | some (.inl (0, n0, .inl f)), some (.inl (0, n1, .inl g)) =>
      if ¬ sp < 0 ∧ ¬ dp < 0 ∧ ¬ n < 0 ∧ sp.toNatClampNeg + n.toNatClampNeg ≤ n0 ∧ dp.toNatClampNeg + n.toNatClampNeg ≤ n1 ∧ (r.map fun v => v.category).sum ≤ 8
      then some (.inl (pc + len, L, r, h.set b (.inl (0, n1, .inl (va_cpy f g sp.toNatClampNeg dp.toNatClampNeg n.toNatClampNeg))), c, s)) else none
    | _, _ => none
  | _ => none
/-- the arrays that are made: ints, bytes, longs -/
def av_newa (k : ArrayType) (n : Nat) : Option va_E := match k with
  | .int => some (.inl (0, n, .inl (fun _ => 0)))
  | .byte => some (.inl (1, n, .inl (fun _ => 0)))
  | .long => some (.inl (2, n, .inr (.inl (fun _ => 0))))
  | _ => none
/-- the receiver is an object of that class -/
def av_rcv (h : av_H) (ci : Nat) (as : List Value) : Bool := match as with
  | .ref b :: _ => match h[b]? with
    | some (.inr (k, _)) => decide (k = ci)
    | _ => false
  | _ => false
def av_isr (as : List Value) : Bool := match as with
  | .ref _ :: _ => true
  | _ => false
/-- one instruction -/
def av_one (P : av_P) (mi pc : Nat) (ins : Instr) (len : Nat) (L : av_L) (st : List Value) (h : av_H) (c s : Nat) : Option av_S := match ins with
  | .sipush v => some (.inl (pc + len, L, .int (Int32.ofInt v) :: st, h, c, s))
  | .lconst n => some (.inl (pc + len, L, .long (Int64.ofNat (n : Nat)) :: st, h, c, s))
  | .ldc i => some (.inl (pc + len, L, .retAddr (i + 1) :: st, h, c, s))
  | .iload i => match L[i]? with
    | some (some (.int x)) => some (.inl (pc + len, L, .int x :: st, h, c, s))
    | _ => none
  | .aload i => match L[i]? with
    | some (some (.ref x)) => some (.inl (pc + len, L, .ref x :: st, h, c, s))
    | some (some (.retAddr x)) => some (.inl (pc + len, L, .retAddr x :: st, h, c, s))
    | _ => none
  | .istore i => match st with
    | .int x :: r => if i < L.length then some (.inl (pc + len, L.set i (some (.int x)), r, h, c, s)) else none
    | _ => none
  | .astore i => match st with
    | .ref x :: r => if i < L.length then some (.inl (pc + len, L.set i (some (.ref x)), r, h, c, s)) else none
    | .retAddr x :: r => if i < L.length then some (.inl (pc + len, L.set i (some (.retAddr x)), r, h, c, s)) else none
    | _ => none
  | .iinc i n => match L[i]? with
    | some (some (.int x)) => some (.inl (pc + len, L.set i (some (.int (x + Int32.ofInt n))), st, h, c, s))
    | _ => none
  | .dup => match st with
    | v :: r => if v.category = 1 then some (.inl (pc + len, L, v :: v :: r, h, c, s)) else none
    | _ => none
  | .dup2 => match st with
    | v :: w :: r => if v.category = 1 ∧ w.category = 1 then some (.inl (pc + len, L, v :: w :: v :: w :: r, h, c, s)) else none
    | _ => none
  | .pop => match st with
    | v :: r => if v.category = 1 then some (.inl (pc + len, L, r, h, c, s)) else none
    | _ => none
  | .iadd => av_bin pc len L st h c s fun x y => some (x + y)
  | .isub => av_bin pc len L st h c s fun x y => some (x - y)
  | .imul => av_bin pc len L st h c s fun x y => some (x * y)
  | .idiv => av_bin pc len L st h c s fun x y => if y = 0 then none else some (x / y)
  | .irem => av_bin pc len L st h c s fun x y => if y = 0 then none else some (x - x / y * y)
  | .iand => av_bin pc len L st h c s fun x y => some (x &&& y)
  | .ior => av_bin pc len L st h c s fun x y => some (x ||| y)
  | .ixor => av_bin pc len L st h c s fun x y => some (x ^^^ y)
  | .ishl => av_bin pc len L st h c s fun x y => some (x <<< (y &&& 31))
  | .ishr => av_bin pc len L st h c s fun x y => some (x >>> (y &&& 31))
  | .iushr => av_bin pc len L st h c s fun x y => some ((x.toUInt32 >>> (y.toUInt32 &&& Int32.toUInt32 31)).toInt32)
  | .i2l => match st with
    | .int x :: r => some (.inl (pc + len, L, .long x.toInt64 :: r, h, c, s))
    | _ => none
  | .i2b => match st with
    | .int x :: r => some (.inl (pc + len, L, .int x.toInt8.toInt32 :: r, h, c, s))
    | _ => none
  | .lcmp => match st with
    | .long y :: .long x :: r => some (.inl (pc + len, L, .int (lg_cmp x y) :: r, h, c, s))
    | _ => none
  | .if_icmp k t => match st with
    | .int y :: .int x :: r => if av_cmp k x y then av_goto t L r h c s else some (.inl (pc + len, L, r, h, c, s))
    | _ => none
  | .ifCond k t => match st with
    | .int x :: r => if av_cmp k x 0 then av_goto t L r h c s else some (.inl (pc + len, L, r, h, c, s))
    | _ => none
  | .ifnonnull t => match st with
    | .ref _ :: r => av_goto t L r h c s
    | .null :: r => some (.inl (pc + len, L, r, h, c, s))
    | _ => none
  | .goto t => av_goto t L st h c s
  | .tableswitch d lo hi ts => match st with
    | .int x :: r => if x.toInt < lo ∨ hi < x.toInt then av_goto d L r h c s else match ts[(x.toInt - lo).toNat]? with
      | some t => av_goto t L r h c s
      | none => none
    | _ => none
  | .getfield q => match st with
    | .ref a :: r => match h[a]? with
      | some (.inr (ci, fs)) => if ci = q / 64 then match fs[q % 64]? with
        | some v => some (.inl (pc + len, L, v :: r, h, c, s))
        | none => none
        else none
      | _ => none
    | _ => none
  | .putfield q => match st with
    | v :: .ref a :: r => match h[a]? with
      | some (.inr (ci, fs)) => if ci = q / 64 ∧ q % 64 < fs.length ∧ av_fit ((av_ty P ci).getD (q % 64) .float) v = true then some (.inl (pc + len, L, r, h.set a (.inr (ci, fs.set (q % 64) v)), c, s)) else none
      | _ => none
    | _ => none
  | .iaload => av_iaload P pc len L st h c s
  | .baload => match st with
    | .int i :: .ref a :: r => match h[a]? with
      | some (.inl (1, n, .inl f)) => if av_in i n then some (.inl (pc + len, L, .int (f i.toNatClampNeg) :: r, h, c, s)) else none
      | _ => none
    | _ => none
  | .laload => match st with
    | .int i :: .ref a :: r => match h[a]? with
      | some (.inl (2, n, .inr (.inl f))) => if av_in i n then some (.inl (pc + len, L, .long (f i.toNatClampNeg) :: r, h, c, s)) else none
      | _ => none
    | _ => none
  | .aaload => match st with
    | .int i :: .ref a :: r => match h[a]? with
      | some (.inl (3, n, .inr (.inr (.inr (.inr f))))) => if av_in i n then some (.inl (pc + len, L, va_rf (f i.toNatClampNeg) :: r, h, c, s)) else none
      | _ => none
    | _ => none
  | .iastore => match st with
    | .int x :: .int i :: .ref a :: r => match h[a]? with
      | some (.inl (0, n, .inl f)) => if av_in i n then some (.inl (pc + len, L, r, h.set a (.inl (0, n, .inl (upd f i.toNatClampNeg x))), c, s)) else none
      | _ => none
    | _ => none
  | .bastore => match st with
    | .int x :: .int i :: .ref a :: r => match h[a]? with
      | some (.inl (1, n, .inl f)) => if av_in i n then some (.inl (pc + len, L, r, h.set a (.inl (1, n, .inl (upd f i.toNatClampNeg (vp_nar .byte x)))), c, s)) else none
      | _ => none
    | _ => none
  | .lastore => match st with
    | .long x :: .int i :: .ref a :: r => match h[a]? with
      | some (.inl (2, n, .inr (.inl f))) => if av_in i n then some (.inl (pc + len, L, r, h.set a (.inl (2, n, .inr (.inl (vp_updL f i.toNatClampNeg x)))), c, s)) else none
      | _ => none
    | _ => none
  | .aastore => match st with
    | .ref b :: .int i :: .ref a :: r => match h[a]?, h[b]? with
      | some (.inl (3, n, .inr (.inr (.inr (.inr f))))), some (.inr (6, _)) => if av_in i n then some (.inl (pc + len, L, r, h.set a (.inl (3, n, .inr (.inr (.inr (.inr (va_up f i.toNatClampNeg (some b))))))), c, s)) else none
      | _, _ => none
    | _ => none
  | .arraylength => av_alen P pc len L st h c s
  | .newarray k => match st with
    | .int n :: r => if ¬ n < 0 ∧ n.toNatClampNeg ≤ 60000 then match av_newa k n.toNatClampNeg with
      | some e => some (.inl (pc + len, L, .ref h.length :: r, h ++ [e], c + 1, s + n.toNatClampNeg))
      | none => none
      else none
    | _ => none
  | .anewarray _ => match st with
    | .int n :: r => if ¬ n < 0 ∧ n.toNatClampNeg ≤ 60000 then some (.inl (pc + len, L, .ref h.length :: r, h ++ [.inl (3, n.toNatClampNeg, .inr (.inr (.inr (.inr (fun _ => none)))))], c + 1, s + n.toNatClampNeg)) else none
    | _ => none
  | .new ci => some (.inl (pc + len, L, .ref h.length :: st, h ++ [.inr (ci, (av_ty P ci).map av_def)], c + 1, s + (av_ty P ci).length))
  | .monitorenter => match st with
    | .ref _ :: r => if (r.map fun v => v.category).sum ≤ 8 then some (.inl (pc + len, L, r, h, c, s)) else none
    | _ => none
  | .invokedynamic 0 => av_copy pc len L st h c s
  | .invokedynamic 1 => match st with
    | .retAddr (a + 1) :: r => if (r.map fun v => v.category).sum ≤ 8 then some (.inl (pc + len, L, .int (Int32.ofNat (av_tx P a).length) :: r, h, c, s)) else none
    | _ => none
  | .invokedynamic 2 => match st with
    | .int i :: .retAddr (a + 1) :: r => if (r.map fun v => v.category).sum ≤ 8 ∧ av_in i (av_tx P a).length = true then some (.inl (pc + len, L, .int ((av_tx P a).getD i.toNatClampNeg 0) :: r, h, c, s)) else none
    | _ => none
  | .invokedynamic 3 => match st with
    | .ref a :: r => match h[a]? with
      | some (.inl (0, n, .inl f)) => if (r.map fun v => v.category).sum ≤ 8 ∧ n ≤ 60000 then some (.inl (pc + len, L, .ref h.length :: r, h ++ [.inl (0, n, .inl f)], c + 1, s + n)) else none
      | _ => none
    | _ => none
  | .checkcast _ => match st with
    | .ref a :: r => match h[a]? with
      | some (.inl (0, n, .inl _)) => some (.inl (pc + len, L, .ref a :: r, h, c, s))
      | _ => none
    | _ => none
  | .instanceof k => if (st.map fun v => v.category).sum ≤ 8 then some (.inr (.inr (.inr (av_th P k)))) else none
  | .ireturn => match st with
    | [.int x] => match (av_me P mi).2.2.2.1 with
      | some .int => some (.inr (.inl (some (.int x))))
      | some .boolean => if x = 0 ∨ x = 1 then some (.inr (.inl (some (.int x)))) else none
      | _ => none
    | _ => none
  | .areturn => match st with
    | [.ref x] => match (av_me P mi).2.2.2.1 with
      | some (.object _) => some (.inr (.inl (some (.ref x))))
      | some (.array _) => some (.inr (.inl (some (.ref x))))
      | _ => none
    | _ => none
  | .return_ => match st, (av_me P mi).2.2.2.1 with
    | [], none => some (.inr (.inl none))
    | _, _ => none
  | .invokestatic mj => let a := (av_me P mj).2.2.2.2.1
    if a ≤ st.length ∧ ((st.drop a).map fun v => v.category).sum ≤ 8 ∧ ((st.take a).all fun v => v.category == 1) = true then some (.inr (.inr (.inl (mj, (st.take a).reverse, st.drop a)))) else none
  | .invokevirtual mj => let a := (av_me P mj).2.2.2.2.1
    if a ≤ st.length ∧ ((st.drop a).map fun v => v.category).sum ≤ 8 ∧ ((st.take a).all fun v => v.category == 1) = true ∧ av_rcv h (av_me P mj).2.2.2.2.2.2.2.1 (st.take a).reverse = true then some (.inr (.inr (.inl (mj, (st.take a).reverse, st.drop a)))) else none
  | .invokespecial mj => let a := (av_me P mj).2.2.2.2.1
    if a ≤ st.length ∧ ((st.drop a).map fun v => v.category).sum ≤ 8 ∧ ((st.take a).all fun v => v.category == 1) = true ∧ av_isr (st.take a).reverse = true then some (.inr (.inr (.inl (mj, (st.take a).reverse, st.drop a)))) else none
  | _ => none
def av_stp (P : av_P) (mi pc : Nat) (L : av_L) (st : List Value) (h : av_H) (c s : Nat) : Option av_S := match av_op P mi pc with
  | some (ins, len, _) => av_one P mi pc ins len L st h c s
  | none => none
/-- the locals with which a method begins -/
def av_ent (P : av_P) (mj : Nat) (as : List Value) : av_L := as.map some ++ List.replicate ((av_me P mj).2.2.1 - as.length) none
/-- the classes that are thrown and caught -/
def av_es : List String := ["java/lang/IllegalArgumentException", "java/lang/IllegalStateException", "java/lang/IndexOutOfBoundsException", "java/lang/UnsupportedOperationException", "java/util/NoSuchElementException"]
/-- where a thrown E is caught: the first row over pc that names E -/
def av_hnd (pc : Nat) (E : String) : List (Nat × Nat × Nat × Nat) → List String → Option Nat
  | (a, b, t, _) :: hh, nm :: nms => if a ≤ pc ∧ pc < b ∧ nm = E then some t else av_hnd pc E hh nms
  | _, _ => none
/-- the machine: n steps at most, d calls deep at most -/
def av_rn (P : av_P) : Nat → Nat → Nat → Nat → av_L → List Value → av_H → Nat → Nat → Option av_R
  | 0, _, _, _, _, _, _, _, _ => none
  | n + 1, d, mi, pc, L, st, h, c, s => match av_stp P mi pc L st h c s with
    | none => none
    | some (.inl (pc', L', st', h', c', s')) => av_rn P n d mi pc' L' st' h' c' s'
    | some (.inr (.inl v)) => some (.inl v, h, c, s)
    | some (.inr (.inr (.inr E))) => some (.inr E, h, c + 1, s + 6)
    | some (.inr (.inr (.inl (mj, as, r)))) => match d with
      | 0 => none
      | d' + 1 => match av_rn P n d' mj 0 (av_ent P mj as) [] h 0 0 with
        | none => none
        | some (.inl v, h', c', s') => av_rn P n (d' + 1) mi (pc + 3) L (v.toList ++ r) h' (c + c') (s + s')
        | some (.inr E, h', c', s') => if (av_me P mj).2.2.2.2.2.2.2.2 = false then none else if (av_me P mi).2.2.2.2.2.1 = [] then some (.inr E, h', c + c', s + s') else if E ∉ av_es then none else match av_hnd pc E (av_me P mi).2.2.2.2.2.1 (av_me P mi).2.2.2.2.2.2.1 with
          | none => none
          | some t => match av_op P mi t with
            | some (.astore i, len, _) => if i < L.length then av_rn P n (d' + 1) mi (t + len) (L.set i none) [] h' (c + c') (s + s') else none
            | _ => none
end
section
/-! ===== WHAT THE ABSTRACT MACHINE SAYS OF THE REAL ONE ===== -/
/-- class names; fields (own, index, class, slot); methods (own, index, method); nest mates' methods; int constants; texts; classes that are made; the JDK's own (0 arraycopy, 1 length, 2 charAt, 3 Object's, 4 the class of rows of State, 5 clone of ints, 6 the class of ints) -/
abbrev av_K : Type := (Nat → String) × List (Nat × Nat × Nat × Nat) × List (Nat × Nat × Nat) × List (Nat × Nat × Nat) × List (Nat × Nat × Int) × List (Nat × Nat × Nat) × List (Nat × Nat × Nat) × List (Nat × Nat × Nat)
def av_cn (K : av_K) : Nat → String := K.1
def av_fl (K : av_K) : List (Nat × Nat × Nat × Nat) := K.2.1
def av_ml (K : av_K) : List (Nat × Nat × Nat) := K.2.2.1
def av_nl (K : av_K) : List (Nat × Nat × Nat) := K.2.2.2.1
def av_kl (K : av_K) : List (Nat × Nat × Int) := K.2.2.2.2.1
def av_sl (K : av_K) : List (Nat × Nat × Nat) := K.2.2.2.2.2.1
def av_kc (K : av_K) : List (Nat × Nat × Nat) := K.2.2.2.2.2.2.1
def av_jl (K : av_K) : List (Nat × Nat × Nat) := K.2.2.2.2.2.2.2
def av_fin (K : av_K) (cl : List vw_C) (oc : Nat) (ini : Bool) (ci k : Nat) : Bool := match cl[ci]? with
  | some (_, T, _) => decide ((T k).2.2.2 = false) || (ini && decide ((T k).1 = av_cn K oc))
  | none => false
/-- the op at pc says what the bytes say (calls, throws and ends apart) -/
def av_ok (K : av_K) (cl : List vw_C) (oc : Nat) (ini : Bool) (cc : ByteArray) (pc : Nat) (ins : Instr) (len ix : Nat) : Bool := match ins with
  | .sipush v => (decide (len = 1) && decide (decode cc pc = .ok (.iconst v, 1))) || (decide (len = 2) && decide (decode cc pc = .ok (.bipush v, 2)) && decide ((Int8.ofInt v).toInt32 = Int32.ofInt v)) || (decide (len = 3) && decide (decode cc pc = .ok (.sipush v, 3)) && decide ((Int16.ofInt v).toInt32 = Int32.ofInt v)) || (decide (len = 2) && decide (decode cc pc = .ok (.ldc ix, 2)) && decide ((oc, ix, v) ∈ av_kl K)) || (decide (len = 3) && decide (decode cc pc = .ok (.ldc_w ix, 3)) && decide ((oc, ix, v) ∈ av_kl K))
  | .lconst n => decide (len = 1) && decide (decode cc pc = .ok (.lconst n, 1))
  | .ldc i => ((decide (len = 2) && decide (decode cc pc = .ok (.ldc ix, 2))) || (decide (len = 3) && decide (decode cc pc = .ok (.ldc_w ix, 3)))) && decide ((oc, ix, i) ∈ av_sl K)
  | .iload i => (decide (len = 2) && decide (decode cc pc = .ok (.iload i, 2))) || (decide (len = 1) && decide (i < 4) && decide (decode cc pc = .ok (.iload_n (Fin.ofNat 4 i), 1)))
  | .aload i => (decide (len = 2) && decide (decode cc pc = .ok (.aload i, 2))) || (decide (len = 1) && decide (i < 4) && decide (decode cc pc = .ok (.aload_n (Fin.ofNat 4 i), 1)))
  | .istore i => (decide (len = 2) && decide (decode cc pc = .ok (.istore i, 2))) || (decide (len = 1) && decide (i < 4) && decide (decode cc pc = .ok (.istore_n (Fin.ofNat 4 i), 1)))
  | .astore i => (decide (len = 2) && decide (decode cc pc = .ok (.astore i, 2))) || (decide (len = 1) && decide (i < 4) && decide (decode cc pc = .ok (.astore_n (Fin.ofNat 4 i), 1)))
  | .iinc i n => decide (len = 3) && decide (decode cc pc = .ok (.iinc i n, 3))
  | .if_icmp k t => decide (len = 3) && decide (0 ≤ t) && decide (decode cc pc = .ok (.if_icmp k (t - pc), 3))
  | .ifCond k t => decide (len = 3) && decide (0 ≤ t) && decide (decode cc pc = .ok (.ifCond k (t - pc), 3))
  | .ifnonnull t => decide (len = 3) && decide (0 ≤ t) && decide (decode cc pc = .ok (.ifnonnull (t - pc), 3))
  | .goto t => decide (len = 3) && decide (0 ≤ t) && decide (decode cc pc = .ok (.goto (t - pc), 3))
  | .tableswitch d lo hi ts => decide (0 ≤ d) && ts.all (fun t => decide (0 ≤ t)) && decide (decode cc pc = .ok (.tableswitch (d - pc) lo hi (ts.map (fun t => t - pc)), len))
  | .getfield q => decide (len = 3) && decide (decode cc pc = .ok (.getfield ix, 3)) && decide ((oc, ix, q / 64, q % 64) ∈ av_fl K)
  | .putfield q => decide (len = 3) && decide (decode cc pc = .ok (.putfield ix, 3)) && decide ((oc, ix, q / 64, q % 64) ∈ av_fl K) && av_fin K cl oc ini (q / 64) (q % 64)
  | .newarray k => decide (len = 2) && decide (decode cc pc = .ok (.newarray k, 2))
  | .anewarray _ => decide (len = 3) && decide (decode cc pc = .ok (.anewarray ix, 3)) && decide ((oc, ix, 4) ∈ av_jl K)
  | .new ci => decide (len = 3) && decide (decode cc pc = .ok (.new ix, 3)) && decide ((oc, ix, ci) ∈ av_kc K)
  | .monitorenter => decide (len = 3) && decide (decode cc pc = .ok (.invokespecial ix, 3)) && decide ((oc, ix, 3) ∈ av_jl K)
  | .invokedynamic 0 => decide (len = 3) && decide (decode cc pc = .ok (.invokestatic ix, 3)) && decide ((oc, ix, 0) ∈ av_jl K)
  | .invokedynamic 1 => decide (len = 3) && decide (decode cc pc = .ok (.invokevirtual ix, 3)) && decide ((oc, ix, 1) ∈ av_jl K)
  | .invokedynamic 2 => decide (len = 3) && decide (decode cc pc = .ok (.invokevirtual ix, 3)) && decide ((oc, ix, 2) ∈ av_jl K)
  | .invokedynamic 3 => decide (len = 3) && decide (decode cc pc = .ok (.invokevirtual ix, 3)) && decide ((oc, ix, 5) ∈ av_jl K)
  | .checkcast _ => decide (len = 3) && decide (decode cc pc = .ok (.checkcast ix, 3)) && decide ((oc, ix, 6) ∈ av_jl K)
  | i => decide (len = 1) && decide (decode cc pc = .ok (i, 1))
/-- values, cells, worlds: a number stands for the address that σ gives it, a text or the script for that of τ -/
def av_v (σ τ : Nat → Nat) : Value → Value
  | .ref a => .ref (σ a)
  | .retAddr a => .ref (τ a)
  | v => v
def av_e (cy σ τ : Nat → Nat) : va_E → va_E
  | .inl (t, n, .inr (.inr (.inr (.inr f)))) => .inl (cy t, n, .inr (.inr (.inr (.inr (fun j => (f j).map σ)))))
  | .inl (t, n, x) => .inl (cy t, n, x)
  | .inr (ci, fs) => .inr (ci, fs.map (av_v σ τ))
def av_ws (cy σ τ : Nat → Nat) (h : av_H) : va_W := h.mapIdx fun k e => (σ k, av_e cy σ τ e)
def av_wv (n : Nat) : Value → Prop
  | .ref a => a < n
  | _ => True
def av_we (n : Nat) : va_E → Prop
  | .inl (_, _, .inr (.inr (.inr (.inr f)))) => ∀ j a, f j = some a → a < n
  | .inl _ => True
  | .inr (_, fs) => ∀ v ∈ fs, av_wv n v
def av_lv (σ τ : Nat → Nat) (L : av_L) : List (Nat × Value) := (List.range L.length).filterMap fun i => match L[i]? with
  | some (some v) => some (i, av_v σ τ v)
  | _ => none
theorem av_v_cat (σ τ : Nat → Nat) (v : Value) : (av_v σ τ v).category = v.category := by cases v <;> rfl
theorem av_ws_get {cy σ τ : Nat → Nat} {h : av_H} {k : Nat} {e : va_E} (hk : h[k]? = some e) : (av_ws cy σ τ h)[k]? = some (σ k, av_e cy σ τ e) := by
  simp [av_ws, List.getElem?_mapIdx, hk]
theorem av_ws_set {cy σ τ : Nat → Nat} {h : av_H} {k : Nat} {e : va_E} : av_ws cy σ τ (h.set k e) = (av_ws cy σ τ h).set k (σ k, av_e cy σ τ e) := by
  apply List.ext_getElem?
  intro j
  simp only [av_ws, List.getElem?_mapIdx, List.getElem?_set, List.length_mapIdx]
  by_cases hj : k = j
  · subst hj
    by_cases hl : k < h.length <;> simp [hl]
  · simp [hj]
theorem av_ws_app {cy σ τ : Nat → Nat} {h : av_H} {e : va_E} : av_ws cy σ τ (h ++ [e]) = av_ws cy σ τ h ++ [(σ h.length, av_e cy σ τ e)] := by
  simp [av_ws, List.mapIdx_append]
theorem av_v_ext {σ σ' τ : Nat → Nat} {n : Nat} (hσ : ∀ k, k < n → σ' k = σ k) {v : Value} (hv : av_wv n v) : av_v σ' τ v = av_v σ τ v := by
  cases v <;> simp_all [av_v, av_wv]
theorem av_e_ext {cy σ σ' τ : Nat → Nat} {n : Nat} (hσ : ∀ k, k < n → σ' k = σ k) {e : va_E} (he : av_we n e) : av_e cy σ' τ e = av_e cy σ τ e := by
  rcases e with ⟨t, m, x⟩ | ⟨ci, fs⟩
  · rcases x with f | f | f | f | f
    · rfl
    · rfl
    · rfl
    · rfl
    · simp only [av_e]
      have : (fun j => (f j).map σ') = fun j => (f j).map σ := by
        funext j
        cases hj : f j with
        | none => rfl
        | some a => simp [hσ a (he j a hj)]
      rw [this]
  · simp only [av_e]
    rw [List.map_congr_left (fun v hv => av_v_ext hσ (he v hv))]
theorem av_ws_ext {cy σ σ' τ : Nat → Nat} {h : av_H} (hσ : ∀ k, k < h.length → σ' k = σ k) (he : ∀ e ∈ h, av_we h.length e) : av_ws cy σ' τ h = av_ws cy σ τ h := by
  apply List.ext_getElem?
  intro j
  simp only [av_ws, List.getElem?_mapIdx]
  cases hj : h[j]? with
  | none => rfl
  | some e =>
    have h1 : j < h.length := (List.getElem?_eq_some_iff.mp hj).1
    simp [hσ j h1, av_e_ext hσ (he e (List.mem_of_getElem? hj))]
theorem av_wv_le {n n' : Nat} (hn : n ≤ n') {v : Value} (h : av_wv n v) : av_wv n' v := by
  cases v with
  | ref a => exact Nat.lt_of_lt_of_le h hn
  | _ => trivial
theorem av_we_le {n n' : Nat} (hn : n ≤ n') {e : va_E} (h : av_we n e) : av_we n' e := by
  rcases e with ⟨t, m, x⟩ | ⟨ci, fs⟩
  · rcases x with f | f | f | f | f
    · trivial
    · trivial
    · trivial
    · trivial
    · exact fun j a hj => Nat.lt_of_lt_of_le (h j a hj) hn
  · exact fun v hv => av_wv_le hn (h v hv)
theorem av_lv_mem {σ τ : Nat → Nat} {L : av_L} {q : Nat × Value} : q ∈ av_lv σ τ L ↔ ∃ v, L[q.1]? = some (some v) ∧ q.2 = av_v σ τ v := by
  obtain ⟨i, w⟩ := q
  simp only [av_lv, List.mem_filterMap, List.mem_range]
  constructor
  · rintro ⟨j, hj, h⟩
    split at h
    · next v hv => cases h; exact ⟨v, hv, rfl⟩
    · cases h
  · rintro ⟨v, hv, rfl⟩
    exact ⟨i, (List.getElem?_eq_some_iff.mp hv).1, by rw [hv]⟩
theorem av_lv_ext {σ σ' τ : Nat → Nat} {L : av_L} {n : Nat} (hσ : ∀ k, k < n → σ' k = σ k) (hL : ∀ (i : Nat) (v : Value), L[i]? = some (some v) → v.category = 1 ∧ av_wv n v) {ls : Array Slot} {nL : Nat} (h : lv_has ls nL (av_lv σ τ L)) : lv_has ls nL (av_lv σ' τ L) := by
  refine ⟨h.1, h.2.1, fun q hq => ?_⟩
  obtain ⟨v, hv, e⟩ := av_lv_mem.mp hq
  rw [e, av_v_ext hσ (hL _ v hv).2]
  exact h.2.2 (q.1, av_v σ τ v) (av_lv_mem.mpr ⟨v, hv, rfl⟩)
/-- what goes on from state to state: the locals, the stack, the cells -/
def av_Rel (cy τ : Nat → Nat) (D : va_G) (cl : List vw_C) (A : Nat → Prop) (H0 : Heap) (σ0 : Nat → Nat) (n0 nL : Nat) (σ : Nat → Nat) (L : av_L) (st : List Value) (h : av_H) (ls : Array Slot) (H : Heap) (locs : List Loc) : Prop :=
  (∀ k, k < n0 → σ k = σ0 k) ∧ n0 ≤ h.length ∧ (L.length = nL ∧ lv_has ls nL (av_lv σ τ L)) ∧ (∀ (i : Nat) (v : Value), L[i]? = some (some v) → v.category = 1 ∧ av_wv h.length v) ∧ (∀ v ∈ st, av_wv h.length v) ∧ (∀ e ∈ h, av_we h.length e) ∧
  va_P D cl (av_ws cy σ τ h) H ∧ va_D A (av_ws cy σ τ h) ∧ va_S A H0 H locs
theorem av_get {cy τ : Nat → Nat} {D : va_G} {cl : List vw_C} {A : Nat → Prop} {H0 : Heap} {σ0 : Nat → Nat} {n0 nL : Nat} {σ : Nat → Nat} {L : av_L} {st : List Value} {h : av_H} {ls : Array Slot} {H : Heap} {locs : List Loc} (r : av_Rel cy τ D cl A H0 σ0 n0 nL σ L st h ls H locs) {i : Nat} {v : Value} (hv : L[i]? = some (some v)) : ls[i]? = some (.val (av_v σ τ v)) :=
  r.2.2.1.2.2.2 (i, av_v σ τ v) (av_lv_mem.mpr ⟨v, hv, rfl⟩)
end
section
/-! ===== ONE INSTRUCTION ===== -/
def av_tys (cy : Nat → Nat) : List (ClassId × FieldType) := [(cy 0, .int), (cy 1, .byte), (cy 2, .long), (cy 3, .object "SinglesPast$State")]
/-- what the tables say, once for all -/
def av_Env (P : av_P) (K : av_K) (Ts : List Cond) (cl : List vw_C) : Prop :=
  (∀ (ci : Nat) (C : String) (T : u_T) (N : Nat), cl[ci]? = some (C, T, N) → (∀ w ∈ u_ws C T N, w ∈ Ts) ∧ (∀ k, k < N → parseFieldDescriptor (T k).2.2.1 = some ((av_ty P ci).getD k .float)) ∧ (∀ a, a < N → ∀ b, b < N → a ≠ b → (T a).2.1 ≠ (T b).2.1) ∧ (av_ty P ci).length = N ∧ Cond.instantiable C N ∈ Ts ∧ Cond.initialized C ∈ Ts) ∧
  (∀ q ∈ av_fl K, ∃ (C : String) (T : u_T) (N : Nat), cl[q.2.2.1]? = some (C, T, N) ∧ q.2.2.2 < N ∧ Cond.fieldLink (av_cn K q.1) q.2.1 (T q.2.2.2).1 (T q.2.2.2).2.1 (T q.2.2.2).2.2.1 ∈ Ts) ∧
  (∀ q ∈ av_kl K, Cond.constant (av_cn K q.1) q.2.1 (Int32.ofInt q.2.2) ∈ Ts) ∧
  (∀ q ∈ av_kc K, ∃ (C : String) (T : u_T) (N : Nat), cl[q.2.2]? = some (C, T, N) ∧ Cond.classLink (av_cn K q.1) q.2.1 C ∈ Ts) ∧
  (∀ q ∈ av_jl K, (q.2.2 = 0 → Cond.methodLink (av_cn K q.1) q.2.1 arraycopyName ∈ Ts) ∧ (q.2.2 = 3 → Cond.methodLink (av_cn K q.1) q.2.1 Lib.objectInit ∈ Ts) ∧ (q.2.2 = 4 → Cond.classLink (av_cn K q.1) q.2.1 "SinglesPast$State" ∈ Ts)) ∧
  ((∀ q ∈ av_jl K, (q.2.2 = 5 → Cond.methodLink (av_cn K q.1) q.2.1 ⟨"[I", "clone", "()Ljava/lang/Object;"⟩ ∈ Ts) ∧ (q.2.2 = 6 → Cond.classLink (av_cn K q.1) q.2.1 "[I" ∈ Ts)) ∧ Cond.sameMethod "[I" "java/lang/Object" "clone" "()Ljava/lang/Object;" ∈ Ts ∧ Cond.native ⟨"java/lang/Object", "clone", "()Ljava/lang/Object;"⟩ ∈ Ts ∧ Cond.instanceMethod ⟨"java/lang/Object", "clone", "()Ljava/lang/Object;"⟩ ∈ Ts ∧ Cond.selects "[I" ⟨"[I", "clone", "()Ljava/lang/Object;"⟩ ⟨"java/lang/Object", "clone", "()Ljava/lang/Object;"⟩ ∈ Ts) ∧
  (Cond.native arraycopyName ∈ Ts ∧ Cond.static arraycopyName ∈ Ts ∧ Cond.initialized "java/lang/System" ∈ Ts) ∧ (Cond.instanceMethod Lib.objectInit ∈ Ts ∧ Cond.code Lib.objectInit ⟨#[0xb1]⟩ 1 none ∈ Ts) ∧
  (Cond.arrayClass .int ∈ Ts ∧ Cond.arrayClass .byte ∈ Ts ∧ Cond.arrayClass .long ∈ Ts) ∧ cl[6]?.map (fun r => r.1) = some "SinglesPast$State"
/-- the texts and the script at a method's start -/
def av_Old (P : av_P) (K : av_K) (τ : Nat → Nat) (A : Nat → Prop) (s : State) : Prop :=
  (∀ q ∈ av_sl K, ∃ tx : String, vk_R (av_cn K q.1) q.2.1 tx (τ (q.2.2 + 1)) s) ∧ (va_X (τ 0) (av_nx P) (av_xs P) s s.heap ∧ τ 0 < s.heap.size ∧ ¬ A (τ 0)) ∧ va_AO "SinglesPast$State" s ∧ va_Nw (.castable "[I" "java/lang/Cloneable") s
section SD
variable {P : av_P} {K : av_K} {Ts : List Cond} {cl : List vw_C} {cy τ : Nat → Nat} {D : va_G} {A : Nat → Prop} {σ0 σ : Nat → Nat} {n0 nL oc mi pc : Nat} {ini : Bool} {cc : ByteArray}
variable {p : Program} {l : Launch} {e : Env} {R : Room} {s : State} {m : MethodId} {args : Array Value} {below : List Frame} {meth : Method} {c : Code} {H : Heap} {locs : List Loc} {cells slots : Nat} {Q : State → Prop} {ls : Array Slot}
variable {L L' : av_L} {st st' : List Value} {h h' : av_H} {pc' cells' slots' : Nat}
/-- what stays in a method -/
def av_Fix (P : av_P) (K : av_K) (Ts : List Cond) (cl : List vw_C) (cy τ : Nat → Nat) (D : va_G) (A : Nat → Prop) (nL oc : Nat) (ini : Bool) (cc : ByteArray) (p : Program) (R : Room) (s : State) (m : MethodId) (args : Array Value) (meth : Method) (c : Code) : Prop :=
  (p.tables.exec = Jvm.exec ∧ c.code = cc ∧ c.maxLocals = nL ∧ s.vm.findClass (av_cn K oc) = some m.cls) ∧ (∀ w ∈ Ts, w.before args s = true) ∧ (ini = true → meth.name = "<init>") ∧ va_K D cl (av_tys cy) s ∧ (∀ q, s.heap.size ≤ q → A q) ∧ av_Old P K τ A s ∧ (20 ≤ R.frames ∧ 400 ≤ R.locals)
/-- the texts' two methods, as steps -/
def av_Str (P : av_P) (K : av_K) (τ : Nat → Nat) (A : Nat → Prop) (oc : Nat) (cc : ByteArray) (p : Program) (l : Launch) (e : Env) (R : Room) (s : State) (m : MethodId) (args : Array Value) (below : List Frame) (meth : Method) (c : Code) (Q : State → Prop) (nL : Nat) : Prop :=
  (∀ (pc ix a : Nat) (ls : Array Slot) (rest : List Value) (H : Heap) (locs : List Loc) (cells slots : Nat), decode cc pc = .ok (.invokevirtual ix, 3) → (oc, ix, 1) ∈ av_jl K → ls.size = nL → va_S A s.heap H locs → (rest.map fun v => v.category).sum ≤ 8 → cells ≤ R.cells → slots ≤ R.slots →
    W p l e R s m args below meth c H locs cells slots Q (F0 m (pc + 3) ls (.int (Int32.ofNat (av_tx P a).length) :: rest)) → W p l e R s m args below meth c H locs cells slots Q (F0 m pc ls (.ref (τ (a + 1)) :: rest))) ∧
  (∀ (pc ix a : Nat) (i : Int32) (ls : Array Slot) (rest : List Value) (H : Heap) (locs : List Loc) (cells slots : Nat), decode cc pc = .ok (.invokevirtual ix, 3) → (oc, ix, 2) ∈ av_jl K → ls.size = nL → va_S A s.heap H locs → (rest.map fun v => v.category).sum ≤ 8 → cells ≤ R.cells → slots ≤ R.slots → av_in i (av_tx P a).length = true →
    W p l e R s m args below meth c H locs cells slots Q (F0 m (pc + 3) ls (.int ((av_tx P a).getD i.toNatClampNeg 0) :: rest)) → W p l e R s m args below meth c H locs cells slots Q (F0 m pc ls (.int i :: .ref (τ (a + 1)) :: rest)))
theorem av_in_iff {i : Int32} {n : Nat} (h : av_in i n = true) : vp_in i n := by
  simp only [av_in, Bool.and_eq_true, decide_eq_true_eq] at h
  rintro (h1 | h1)
  · exact h.1 h1
  · omega
theorem av_cats (σ τ : Nat → Nat) (r : List Value) : ((r.map (av_v σ τ)).map fun v => v.category).sum = (r.map fun v => v.category).sum := by
  rw [List.map_map]
  congr 1
  exact List.map_congr_left fun v _ => av_v_cat σ τ v
/-- the stack changes alone -/
theorem av_Rel.stk (r : av_Rel cy τ D cl A s.heap σ0 n0 nL σ L st h ls H locs) (hs : ∀ v ∈ st', av_wv h.length v) : av_Rel cy τ D cl A s.heap σ0 n0 nL σ L st' h ls H locs :=
  ⟨r.1, r.2.1, r.2.2.1, r.2.2.2.1, hs, r.2.2.2.2.2⟩
theorem av_Rel.store (r : av_Rel cy τ D cl A s.heap σ0 n0 nL σ L st h ls H locs) {i : Nat} {v : Value} (hc : v.category = 1) (hv : av_wv h.length v) (hs : ∀ v ∈ st', av_wv h.length v) {ls' : Array Slot}
    (hl : lv_has ls' nL ((i, av_v σ τ v) :: (av_lv σ τ L).filter (fun q => !(q.1 == i) && !(q.1 + 1 == i && q.2.category == 2)))) : av_Rel cy τ D cl A s.heap σ0 n0 nL σ (L.set i (some v)) st' h ls' H locs := by
  refine ⟨r.1, r.2.1, ⟨by rw [List.length_set]; exact r.2.2.1.1, hl.1, hl.2.1, fun q hq => ?_⟩, fun j w hw => ?_, hs, r.2.2.2.2.2⟩
  · obtain ⟨w, hw, e⟩ := av_lv_mem.mp hq
    refine hl.2.2 q ?_
    rw [List.getElem?_set] at hw
    by_cases hj : i = q.1
    · rw [if_pos hj] at hw
      split at hw
      · cases hw
        refine List.mem_cons.mpr (Or.inl ?_)
        rw [hj, ← e]
      · cases hw
    · rw [if_neg hj] at hw
      refine List.mem_cons.mpr (Or.inr (List.mem_filter.mpr ⟨av_lv_mem.mpr ⟨w, hw, e⟩, ?_⟩))
      have h1 : q.2.category = 1 := by rw [e, av_v_cat]; exact (r.2.2.2.1 _ w hw).1
      simp [h1]
      exact fun z => hj z.symm
  · rw [List.getElem?_set] at hw
    split at hw
    · split at hw
      · cases hw
        exact ⟨hc, hv⟩
      · cases hw
    · exact r.2.2.2.1 j w hw
/-- a cell changes -/
theorem av_Rel.cell (r : av_Rel cy τ D cl A s.heap σ0 n0 nL σ L st h ls H locs) {a : Nat} {x : va_E} (hx : av_we h.length x) (hs : ∀ v ∈ st', av_wv h.length v) {H1 : Heap} {locs1 : List Loc}
    (hP : va_P D cl ((av_ws cy σ τ h).set a (σ a, av_e cy σ τ x)) H1) (hD : va_D A ((av_ws cy σ τ h).set a (σ a, av_e cy σ τ x))) (hS : va_S A s.heap H1 locs1) : av_Rel cy τ D cl A s.heap σ0 n0 nL σ L st' (h.set a x) ls H1 locs1 := by
  rw [← av_ws_set] at hP hD
  refine ⟨r.1, by rw [List.length_set]; exact r.2.1, r.2.2.1, by rw [List.length_set]; exact r.2.2.2.1, by rw [List.length_set]; exact hs, fun y hy => ?_, hP, hD, hS⟩
  rw [List.length_set]
  rcases List.mem_or_eq_of_mem_set hy with h1 | h1
  · exact r.2.2.2.2.2.1 y h1
  · rw [h1]; exact hx
/-- a cell is made -/
theorem av_Rel.make (r : av_Rel cy τ D cl A s.heap σ0 n0 nL σ L st h ls H locs) {q : Nat} {x y : va_E} (hx : av_we h.length x) (hs : ∀ v ∈ st', av_wv (h.length + 1) v) (hxy : ∀ σ', av_e cy σ' τ x = y) {H1 : Heap} {locs1 : List Loc}
    (hP : va_P D cl (av_ws cy σ τ h ++ [(q, y)]) H1) (hD : va_D A (av_ws cy σ τ h ++ [(q, y)])) (hS : va_S A s.heap H1 locs1) :
    ∃ σ', (∀ k, k < h.length → σ' k = σ k) ∧ σ' h.length = q ∧ av_Rel cy τ D cl A s.heap σ0 n0 nL σ' L st' (h ++ [x]) ls H1 locs1 := by
  have hσ : ∀ k, k < h.length → (fun k => if k = h.length then q else σ k) k = σ k := fun k hk => if_neg (Nat.ne_of_lt hk)
  refine ⟨fun k => if k = h.length then q else σ k, hσ, if_pos rfl, fun k hk => (hσ k (Nat.lt_of_lt_of_le hk r.2.1)).trans (r.1 k hk), by rw [List.length_append]; exact Nat.le_trans r.2.1 (Nat.le_add_right _ _), ⟨r.2.2.1.1, av_lv_ext hσ r.2.2.2.1 r.2.2.1.2⟩, fun i v hv => ⟨(r.2.2.2.1 i v hv).1, ?_⟩, by simpa using hs, fun z hz => ?_, ?_, ?_, hS⟩
  · exact av_wv_le (by simp) (r.2.2.2.1 i v hv).2
  · rcases List.mem_append.mp hz with h1 | h1
    · exact av_we_le (by simp) (r.2.2.2.2.2.1 z h1)
    · rw [List.mem_singleton.mp h1]; exact av_we_le (by simp) hx
  · rw [av_ws_app, av_ws_ext hσ r.2.2.2.2.2.1, hxy]
    simpa using hP
  · rw [av_ws_app, av_ws_ext hσ r.2.2.2.2.2.1, hxy]
    simpa using hD
end SD
end
section
/-! ===== ONE INSTRUCTION OF THE ABSTRACT MACHINE IS ONE OF THE REAL ONE ===== -/
section SE
variable {P : av_P} {K : av_K} {Ts : List Cond} {cl : List vw_C} {cy τ : Nat → Nat} {D : va_G} {A : Nat → Prop} {σ0 σ : Nat → Nat} {n0 nL oc mi pc : Nat} {ini : Bool} {cc : ByteArray}
variable {p : Program} {l : Launch} {e : Env} {R : Room} {s : State} {m : MethodId} {args : Array Value} {below : List Frame} {meth : Method} {c : Code} {H : Heap} {locs : List Loc} {cells slots : Nat} {Q : State → Prop} {ls : Array Slot}
variable {L L' : av_L} {st st' : List Value} {h h' : av_H} {pc' cells' slots' : Nat}
/-- the goal of a step: from all that the next state may be -/
def av_K1 (cy τ : Nat → Nat) (D : va_G) (cl : List vw_C) (A : Nat → Prop) (σ0 : Nat → Nat) (n0 nL : Nat) (p : Program) (l : Launch) (e : Env) (R : Room) (s : State) (m : MethodId) (args : Array Value) (below : List Frame) (meth : Method) (c : Code) (Q : State → Prop) (pc' : Nat) (L' : av_L) (st' : List Value) (h' : av_H) (cells' slots' : Nat) : Prop :=
  ∀ (σ' : Nat → Nat) (ls' : Array Slot) (H' : Heap) (locs' : List Loc), av_Rel cy τ D cl A s.heap σ0 n0 nL σ' L' st' h' ls' H' locs' → W p l e R s m args below meth c H' locs' cells' slots' Q (F0 m pc' ls' (st'.map (av_v σ' τ)))
theorem sd_bin (r : av_Rel cy τ D cl A s.heap σ0 n0 nL σ L st h ls H locs) {f : Int32 → Int32 → Option Int32} {len : Nat} (hs : av_bin pc len L st h cells slots f = some (.inl (pc', L', st', h', cells', slots')))
    (kk : av_K1 cy τ D cl A σ0 n0 nL p l e R s m args below meth c Q pc' L' st' h' cells' slots')
    (row : ∀ (x y z : Int32) (rest : List Value), f x y = some z → W p l e R s m args below meth c H locs cells slots Q (F0 m (pc + len) ls (.int z :: rest)) → W p l e R s m args below meth c H locs cells slots Q (F0 m pc ls (.int y :: .int x :: rest))) :
    W p l e R s m args below meth c H locs cells slots Q (F0 m pc ls (st.map (av_v σ τ))) := by
  unfold av_bin at hs
  split at hs
  · next y x r0 =>
    split at hs
    · next z hz =>
      cases hs
      exact row x y z _ hz (kk σ ls H locs (r.stk (fun v hv => by
        rcases List.mem_cons.mp hv with h1 | h1
        · rw [h1]; trivial
        · exact r.2.2.2.2.1 v (List.mem_cons_of_mem _ (List.mem_cons_of_mem _ h1)))))
    · cases hs
  · cases hs
theorem sd_icmp {k : Jvm.ClassFile.Cond} {t : Int} (hx : p.tables.exec = Jvm.exec) (hb : c.code = cc) (ht : 0 ≤ t) (hd : decode cc pc = .ok (.if_icmp k (t - pc), 3)) {x y : Int32} {rest : List Value}
    (kt : av_cmp k x y = true → W p l e R s m args below meth c H locs cells slots Q (F0 m t.toNat ls rest)) (kf : ¬ av_cmp k x y = true → W p l e R s m args below meth c H locs cells slots Q (F0 m (pc + 3) ls rest)) :
    W p l e R s m args below meth c H locs cells slots Q (F0 m pc ls (.int y :: .int x :: rest)) := by
  have h1 : (pc : Int) + (t - pc) = (t.toNat : Int) := by omega
  cases k with
  | eq => exact lv_icmp_eq hx hb hd h1 (fun z => kt (by simp [av_cmp, z])) (fun z => kf (by simpa [av_cmp] using z))
  | ne => exact lv_icmp_ne hx hb hd h1 (fun z => kt (by simpa [av_cmp] using z)) (fun z => kf (by simpa [av_cmp] using z))
  | lt => exact lv_icmp_lt hx hb hd h1 (fun z => kt (by simpa [av_cmp] using z)) (fun z => kf (by simpa [av_cmp] using z))
  | ge => exact lv_icmp_ge hx hb hd h1 (fun z => kt (by simpa [av_cmp] using z)) (fun z => kf (by simpa [av_cmp] using z))
  | gt => exact lv_icmp_gt hx hb hd h1 (fun z => kt (by simpa [av_cmp] using z)) (fun z => kf (by simpa [av_cmp] using z))
  | le => exact lv_icmp_le hx hb hd h1 (fun z => kt (by simpa [av_cmp] using z)) (fun z => kf (by simpa [av_cmp] using z))
theorem sd_if {k : Jvm.ClassFile.Cond} {t : Int} (hx : p.tables.exec = Jvm.exec) (hb : c.code = cc) (ht : 0 ≤ t) (hd : decode cc pc = .ok (.ifCond k (t - pc), 3)) {x : Int32} {rest : List Value}
    (kt : av_cmp k x 0 = true → W p l e R s m args below meth c H locs cells slots Q (F0 m t.toNat ls rest)) (kf : ¬ av_cmp k x 0 = true → W p l e R s m args below meth c H locs cells slots Q (F0 m (pc + 3) ls rest)) :
    W p l e R s m args below meth c H locs cells slots Q (F0 m pc ls (.int x :: rest)) := by
  have h1 : (pc : Int) + (t - pc) = (t.toNat : Int) := by omega
  cases k with
  | eq => exact lv_if_eq hx hb hd h1 (fun z => kt (by simp [av_cmp, z])) (fun z => kf (by simpa [av_cmp] using z))
  | ne => exact lv_if_ne hx hb hd h1 (fun z => kt (by simpa [av_cmp] using z)) (fun z => kf (by simpa [av_cmp] using z))
  | lt => exact lv_if_lt hx hb hd h1 (fun z => kt (by simpa [av_cmp] using z)) (fun z => kf (by simpa [av_cmp] using z))
  | ge => exact lv_if_ge hx hb hd h1 (fun z => kt (by simpa [av_cmp] using z)) (fun z => kf (by simpa [av_cmp] using z))
  | gt => exact lv_if_gt hx hb hd h1 (fun z => kt (by simpa [av_cmp] using z)) (fun z => kf (by simpa [av_cmp] using z))
  | le => exact lv_if_le hx hb hd h1 (fun z => kt (by simpa [av_cmp] using z)) (fun z => kf (by simpa [av_cmp] using z))
theorem sd_ld (r : av_Rel cy τ D cl A s.heap σ0 n0 nL σ L st h ls H locs) {v : Value} (hv : av_wv h.length v) {len : Nat} (kk : av_K1 cy τ D cl A σ0 n0 nL p l e R s m args below meth c Q (pc + len) L (v :: st) h cells slots)
    (row : W p l e R s m args below meth c H locs cells slots Q (F0 m (pc + len) ls (av_v σ τ v :: st.map (av_v σ τ))) → W p l e R s m args below meth c H locs cells slots Q (F0 m pc ls (st.map (av_v σ τ)))) :
    W p l e R s m args below meth c H locs cells slots Q (F0 m pc ls (st.map (av_v σ τ))) :=
  row (kk σ ls H locs (r.stk (fun w hw => by
    rcases List.mem_cons.mp hw with h1 | h1
    · rw [h1]; exact hv
    · exact r.2.2.2.2.1 w h1)))
/-- a text by a wide index -/
theorem sd_ldcw (hx : p.tables.exec = Jvm.exec) (hb : c.code = cc) {own tx : String} {index q : Nat} (hown : s.vm.findClass own = some m.cls) (hZ : vk_R own index tx q s) {rest : List Value} (hd : decode cc pc = .ok (.ldc_w index, 3))
    (k : W p l e R s m args below meth c H locs cells slots Q (F0 m (pc + 3) ls (.ref q :: rest))) : W p l e R s m args below meth c H locs cells slots Q (F0 m pc ls rest) := by
  intro T hT X
  obtain ⟨t, a1, b1⟩ := k T hT X
  refine ⟨t, ?_, b1⟩
  obtain ⟨k1, cf, i, a', hk, hcf, hcp, -, hr, hev'⟩ := Cond.stringRef_spec (args := #[]) hown hZ.1
  cases hZ.2.symm.trans hev'
  obtain ⟨k', hk', he⟩ := X.warmed.alike.2.2 _ _ hk
  have hr' : k'.resolved[index]? = some (some (.string q)) := by
    rcases X.warmed.entry hk hk' index with h1 | ⟨h1, -⟩
    · rw [h1]; exact hr
    · rw [hr] at h1; cases h1
  have hd' : decode c.code pc = .ok (.ldc_w index, 3) := by rw [hb]; exact hd
  jvm_step X.here [hx, hd', ldc_w.wp_string (e := e) (s := T) (f := F0 m pc ls rest) X.here.top hk' (by rw [he]; exact hcf) hcp hr']
  exact a1
theorem av_tl {n : Nat} {v : Value} {r : List Value} (h : ∀ w ∈ v :: r, av_wv n w) : ∀ w ∈ r, av_wv n w := fun w hw => h w (List.mem_cons_of_mem _ hw)
theorem av_hd {n : Nat} {v : Value} {r : List Value} (h : ∀ w ∈ v :: r, av_wv n w) : av_wv n v := h v List.mem_cons_self
theorem av_co {n : Nat} {v : Value} {r : List Value} (hv : av_wv n v) (h : ∀ w ∈ r, av_wv n w) : ∀ w ∈ v :: r, av_wv n w := fun w hw => by
  rcases List.mem_cons.mp hw with h1 | h1
  · rw [h1]; exact hv
  · exact h w h1
theorem av_fit_ok {t : FieldType} {v : Value} (hf : av_fit t v = true) : narrow t (av_v σ τ v) = av_v σ τ v ∧ fits t (av_v σ τ v) = true := by
  cases t <;> cases v <;> simp_all [av_fit, av_v, narrow, fits]
  rcases hf with rfl | rfl <;> decide
theorem av_v_def (t : FieldType) : av_v σ τ (av_def t) = av_def t := by cases t <;> rfl
theorem av_v_rf (q : Option Nat) : av_v σ τ (va_rf q) = va_rf (q.map σ) := by cases q <;> rfl
theorem av_ra {tys : List (ClassId × FieldType)} {k1 k2 : Nat} {c1 c2 : ClassId} {t : FieldType} {C : String} {tys2 : List (ClassId × FieldType)} (ht : t = .int ∨ t = .byte ∨ t = .long ∨ t = .object C) (h1 : va_K D cl tys s) (h2 : va_K D cl tys2 s) (e1 : tys[k1]? = some (c1, t)) (e2 : tys2[k2]? = some (c2, t)) : c1 = c2 := by
  have a1 := (h1.2 _ _ e1).2
  have a2 := (h2.2 _ _ e2).2
  rcases ht with rfl | rfl | rfl | rfl
  · exact Option.some.inj (a1.symm.trans a2)
  · exact Option.some.inj (a1.symm.trans a2)
  · exact Option.some.inj (a1.symm.trans a2)
  · obtain ⟨_, _, _, _, _, f1⟩ := a1
    obtain ⟨_, _, _, _, _, f2⟩ := a2
    exact Option.some.inj (f1.symm.trans f2)
theorem sd_field (hE : av_Env P K Ts cl) (hF : av_Fix P K Ts cl cy τ D A nL oc ini cc p R s m args meth c) (r : av_Rel cy τ D cl A s.heap σ0 n0 nL σ L st h ls H locs) {q len ix : Nat} (hok : av_ok K cl oc ini cc pc (.getfield q) len ix = true)
    (hs : av_one P mi pc (.getfield q) len L st h cells slots = some (.inl (pc', L', st', h', cells', slots'))) (kk : av_K1 cy τ D cl A σ0 n0 nL p l e R s m args below meth c Q pc' L' st' h' cells' slots') :
    W p l e R s m args below meth c H locs cells slots Q (F0 m pc ls (st.map (av_v σ τ))) := by
  obtain ⟨⟨hx, hb, hml, hown⟩, hts, hin, hK, hA, hOld, hR⟩ := hF
  simp only [av_ok, Bool.and_eq_true, decide_eq_true_eq] at hok
  obtain ⟨⟨rfl, hd⟩, hm⟩ := hok
  obtain ⟨C, T, N, hc, hk, hw⟩ := hE.2.1 _ hm
  simp only [av_one] at hs
  split at hs
  · next a r0 =>
    split at hs
    · next ci fs ha =>
      split at hs
      · next hci =>
        split at hs
        · next v hv =>
          cases hs
          subst hci
          have hwv : av_wv h.length v := r.2.2.2.2.2.1 _ (List.mem_of_getElem? ha) v (List.mem_of_getElem? hv)
          refine va_get (D := D) (C := C) (T := T) (N := N) (v := av_v σ τ v) hx hb hts (hE.1 _ _ _ _ hc).1 hown hK r.2.2.2.2.2.2.1 a (av_ws_get ha) hc (q % 64) hk (hts _ hw) (fun _ z => z) ?_ hd (kk σ ls H locs (r.stk (av_co hwv (av_tl r.2.2.2.2.1))))
          rw [List.getElem?_map, hv]
          rfl
        · cases hs
      · cases hs
    · cases hs
  · cases hs
theorem sd_put (hE : av_Env P K Ts cl) (hF : av_Fix P K Ts cl cy τ D A nL oc ini cc p R s m args meth c) (r : av_Rel cy τ D cl A s.heap σ0 n0 nL σ L st h ls H locs) {q len ix : Nat} (hok : av_ok K cl oc ini cc pc (.putfield q) len ix = true)
    (hs : av_one P mi pc (.putfield q) len L st h cells slots = some (.inl (pc', L', st', h', cells', slots'))) (kk : av_K1 cy τ D cl A σ0 n0 nL p l e R s m args below meth c Q pc' L' st' h' cells' slots') :
    W p l e R s m args below meth c H locs cells slots Q (F0 m pc ls (st.map (av_v σ τ))) := by
  obtain ⟨⟨hx, hb, hml, hown⟩, hts, hin, hK, hA, hOld, hR⟩ := hF
  simp only [av_ok, Bool.and_eq_true, decide_eq_true_eq] at hok
  obtain ⟨⟨⟨rfl, hd⟩, hm⟩, hfin⟩ := hok
  obtain ⟨C, T, N, hc, hk, hw⟩ := hE.2.1 _ hm
  obtain ⟨hu, hty, hnm, hN, -, -⟩ := hE.1 _ _ _ _ hc
  simp only [av_one] at hs
  split at hs
  · next v a r0 =>
    split at hs
    · next ci fs ha =>
      split at hs
      · next hh =>
        obtain ⟨hci, hlt, hf⟩ := hh
        cases hs
        subst hci
        obtain ⟨hn1, hf1⟩ := av_fit_ok (σ := σ) (τ := τ) hf
        have hwe : av_we h.length (.inr (q / 64, fs.set (q % 64) v)) := fun w hw => by
          rcases List.mem_or_eq_of_mem_set hw with h1 | h1
          · exact r.2.2.2.2.2.1 _ (List.mem_of_getElem? ha) w h1
          · rw [h1]; exact av_hd r.2.2.2.2.1
        have hnext : ∀ (H1 : Heap) (locs1 : List Loc), va_P D cl ((av_ws cy σ τ h).set a (σ a, .inr (q / 64, (fs.map (av_v σ τ)).set (q % 64) (av_v σ τ v)))) H1 → va_D A ((av_ws cy σ τ h).set a (σ a, .inr (q / 64, (fs.map (av_v σ τ)).set (q % 64) (av_v σ τ v)))) → va_S A s.heap H1 locs1 →
            W p l e R s m args below meth c H1 locs1 cells slots Q (F0 m (pc + 3) ls (st'.map (av_v σ τ))) := fun H1 locs1 hP1 hD1 hS1 => by
          rw [← List.map_set] at hP1 hD1
          exact kk σ ls H1 locs1 (r.cell hwe (av_tl (av_tl r.2.2.2.2.1)) hP1 hD1 hS1)
        simp only [av_fin, hc, Bool.or_eq_true, Bool.and_eq_true, decide_eq_true_eq] at hfin
        by_cases hfi : (T (q % 64)).2.2.2 = false
        · exact va_put (D := D) (C := C) (T := T) (N := N) hx hb hts hu (fun k => (av_ty P (q / 64)).getD k .float) hty hnm hown hK r.2.2.2.2.2.2.1 r.2.2.2.2.2.2.2.1 r.2.2.2.2.2.2.2.2 a (av_ws_get ha) hc (q % 64) hk (hts _ hw) (fun _ z => z) hfi (hty _ hk) hn1 hf1 (by rw [List.length_map]; exact hlt) hd hnext
        · rcases hfin with h1 | ⟨h1, h2⟩
          · exact absurd h1 hfi
          · exact va_putF (D := D) (C := C) (T := T) (N := N) hx hb hts hu (fun k => (av_ty P (q / 64)).getD k .float) hty hnm hown hK r.2.2.2.2.2.2.1 r.2.2.2.2.2.2.2.1 r.2.2.2.2.2.2.2.2 a (av_ws_get ha) hc (q % 64) hk (hts _ hw) (fun _ z => z) (by simpa using hfi) (hin h1) h2 (hty _ hk) hn1 hf1 (by rw [List.length_map]; exact hlt) hd hnext
      · cases hs
    · cases hs
  · cases hs
end SE
end
section
/-! ===== ALL INSTRUCTIONS BUT CALLS, THROWS AND ENDS ===== -/
section SF
variable {P : av_P} {K : av_K} {Ts : List Cond} {cl : List vw_C} {cy τ : Nat → Nat} {D : va_G} {A : Nat → Prop} {σ0 σ : Nat → Nat} {n0 nL oc mi pc : Nat} {ini : Bool} {cc : ByteArray}
variable {p : Program} {l : Launch} {e : Env} {R : Room} {s : State} {m : MethodId} {args : Array Value} {below : List Frame} {meth : Method} {c : Code} {H : Heap} {locs : List Loc} {cells slots : Nat} {Q : State → Prop} {ls : Array Slot}
variable {L L' : av_L} {st st' : List Value} {h h' : av_H} {pc' cells' slots' : Nat}
theorem av_4 (cy : Nat → Nat) (t : Nat) (h : t < 4) : ∃ ty, (av_tys cy)[t]? = some (cy t, ty) := by
  rcases (show t = 0 ∨ t = 1 ∨ t = 2 ∨ t = 3 by omega) with rfl | rfl | rfl | rfl <;> exact ⟨_, rfl⟩
theorem sd_arr (hE : av_Env P K Ts cl) (hF : av_Fix P K Ts cl cy τ D A nL oc ini cc p R s m args meth c) (r : av_Rel cy τ D cl A s.heap σ0 n0 nL σ L st h ls H locs) {ins : Instr} {len ix : Nat}
    (hi : ins = .iaload ∨ ins = .baload ∨ ins = .laload ∨ ins = .aaload ∨ ins = .arraylength) (hok : av_ok K cl oc ini cc pc ins len ix = true)
    (hs : av_one P mi pc ins len L st h cells slots = some (.inl (pc', L', st', h', cells', slots'))) (kk : av_K1 cy τ D cl A σ0 n0 nL p l e R s m args below meth c Q pc' L' st' h' cells' slots') :
    W p l e R s m args below meth c H locs cells slots Q (F0 m pc ls (st.map (av_v σ τ))) := by
  obtain ⟨⟨hx, hb, hml, hown⟩, hts, hin, hK, hA, hOld, hR⟩ := hF
  have hP := r.2.2.2.2.2.2.1
  have hst := r.2.2.2.2.1
  rcases hi with rfl | rfl | rfl | rfl | rfl
  · simp only [av_ok, Bool.and_eq_true, decide_eq_true_eq] at hok
    obtain ⟨rfl, hd⟩ := hok
    simp only [av_one, av_iaload] at hs
    split at hs
    · next i a r0 =>
      split at hs
      · next n f ha =>
        split at hs
        · next hin1 =>
          cases hs
          exact va_iald (D := D) hx hb hK hP a 0 (av_ws_get ha) rfl (av_in_iff hin1) hd (kk σ ls H locs (r.stk (av_co trivial (av_tl (av_tl hst)))))
        · cases hs
      · cases hs
    · next i r0 =>
      split at hs
      · next hin1 =>
        cases hs
        exact va_sld (A := A) hx hb hOld.2.1.1 hOld.2.1.2.1 hOld.2.1.2.2 r.2.2.2.2.2.2.2.2 (av_in_iff hin1) hd (kk σ ls H locs (r.stk (av_co trivial (av_tl (av_tl hst)))))
      · cases hs
    · cases hs
  · simp only [av_ok, Bool.and_eq_true, decide_eq_true_eq] at hok
    obtain ⟨rfl, hd⟩ := hok
    simp only [av_one] at hs
    split at hs
    · next i a r0 =>
      split at hs
      · next n f ha =>
        split at hs
        · next hin1 =>
          cases hs
          exact va_bald (D := D) hx hb hK hP a 1 (av_ws_get ha) rfl (av_in_iff hin1) hd (kk σ ls H locs (r.stk (av_co trivial (av_tl (av_tl hst)))))
        · cases hs
      · cases hs
    · cases hs
  · simp only [av_ok, Bool.and_eq_true, decide_eq_true_eq] at hok
    obtain ⟨rfl, hd⟩ := hok
    simp only [av_one] at hs
    split at hs
    · next i a r0 =>
      split at hs
      · next n f ha =>
        split at hs
        · next hin1 =>
          cases hs
          exact va_lald (D := D) hx hb hK hP a 2 (av_ws_get ha) rfl (av_in_iff hin1) hd (kk σ ls H locs (r.stk (av_co trivial (av_tl (av_tl hst)))))
        · cases hs
      · cases hs
    · cases hs
  · simp only [av_ok, Bool.and_eq_true, decide_eq_true_eq] at hok
    obtain ⟨rfl, hd⟩ := hok
    simp only [av_one] at hs
    split at hs
    · next i a r0 =>
      split at hs
      · next n f ha =>
        split at hs
        · next hin1 =>
          cases hs
          have hwe := r.2.2.2.2.2.1 _ (List.mem_of_getElem? ha)
          have hwv : av_wv h.length (va_rf (f i.toNatClampNeg)) := by
            cases hj : f i.toNatClampNeg with
            | none => trivial
            | some b => exact hwe _ b hj
          have k1 := kk σ ls H locs (r.stk (av_co hwv (av_tl (av_tl hst))))
          rw [List.map_cons, av_v_rf] at k1
          exact va_aldq (D := D) hx hb hK hP a 3 (av_ws_get ha) rfl (av_in_iff hin1) hd k1
        · cases hs
      · cases hs
    · cases hs
  · simp only [av_ok, Bool.and_eq_true, decide_eq_true_eq] at hok
    obtain ⟨rfl, hd⟩ := hok
    simp only [av_one, av_alen] at hs
    split at hs
    · next a r0 =>
      split at hs
      · next t n x ha =>
        split at hs
        · next ht =>
          cases hs
          have hk1 := kk σ ls H locs (r.stk (av_co (v := .int (Int32.ofNat n)) trivial (av_tl hst)))
          have hw := av_ws_get (cy := cy) (σ := σ) (τ := τ) ha
          obtain ⟨ty, hty⟩ := av_4 cy t ht
          rcases x with f | f | f | f | f
          · exact va_alen (D := D) hx hb hK hP a t hw hty rfl hd hk1
          · exact va_alen (D := D) hx hb hK hP a t hw hty rfl hd hk1
          · exact va_alen (D := D) hx hb hK hP a t hw hty rfl hd hk1
          · exact va_alen (D := D) hx hb hK hP a t hw hty rfl hd hk1
          · exact va_alen (D := D) hx hb hK hP a t hw hty rfl hd hk1
        · cases hs
      · cases hs
    · next r0 =>
      cases hs
      exact va_slen (A := A) hx hb hOld.2.1.1 hOld.2.1.2.1 hOld.2.1.2.2 r.2.2.2.2.2.2.2.2 hd (kk σ ls H locs (r.stk (av_co trivial (av_tl hst))))
    · cases hs
theorem sd_ast (hE : av_Env P K Ts cl) (hF : av_Fix P K Ts cl cy τ D A nL oc ini cc p R s m args meth c) (r : av_Rel cy τ D cl A s.heap σ0 n0 nL σ L st h ls H locs) {ins : Instr} {len ix : Nat}
    (hi : ins = .iastore ∨ ins = .bastore ∨ ins = .lastore ∨ ins = .aastore) (hok : av_ok K cl oc ini cc pc ins len ix = true)
    (hs : av_one P mi pc ins len L st h cells slots = some (.inl (pc', L', st', h', cells', slots'))) (kk : av_K1 cy τ D cl A σ0 n0 nL p l e R s m args below meth c Q pc' L' st' h' cells' slots') :
    W p l e R s m args below meth c H locs cells slots Q (F0 m pc ls (st.map (av_v σ τ))) := by
  obtain ⟨⟨hx, hb, hml, hown⟩, hts, hin, hK, hA, hOld, hR⟩ := hF
  have hP := r.2.2.2.2.2.2.1
  have hD := r.2.2.2.2.2.2.2.1
  have hS := r.2.2.2.2.2.2.2.2
  have hst := r.2.2.2.2.1
  rcases hi with rfl | rfl | rfl | rfl
  · simp only [av_ok, Bool.and_eq_true, decide_eq_true_eq] at hok
    obtain ⟨rfl, hd⟩ := hok
    simp only [av_one] at hs
    split at hs
    · next x i a r0 =>
      split at hs
      · next n f ha =>
        split at hs
        · next hin1 =>
          cases hs
          exact va_iast (D := D) hx hb hK hP hD hS a 0 (av_ws_get ha) rfl (av_in_iff hin1) hd (fun H1 locs1 hP1 hD1 hS1 => kk σ ls H1 locs1 (r.cell (x := .inl (0, n, .inl (upd f i.toNatClampNeg x))) trivial (av_tl (av_tl (av_tl hst))) hP1 hD1 hS1))
        · cases hs
      · cases hs
    · cases hs
  · simp only [av_ok, Bool.and_eq_true, decide_eq_true_eq] at hok
    obtain ⟨rfl, hd⟩ := hok
    simp only [av_one] at hs
    split at hs
    · next x i a r0 =>
      split at hs
      · next n f ha =>
        split at hs
        · next hin1 =>
          cases hs
          exact va_bast (D := D) hx hb hK hP hD hS a 1 (av_ws_get ha) rfl (av_in_iff hin1) hd (fun H1 locs1 hP1 hD1 hS1 => kk σ ls H1 locs1 (r.cell (x := .inl (1, n, .inl (upd f i.toNatClampNeg (vp_nar .byte x)))) trivial (av_tl (av_tl (av_tl hst))) hP1 hD1 hS1))
        · cases hs
      · cases hs
    · cases hs
  · simp only [av_ok, Bool.and_eq_true, decide_eq_true_eq] at hok
    obtain ⟨rfl, hd⟩ := hok
    simp only [av_one] at hs
    split at hs
    · next x i a r0 =>
      split at hs
      · next n f ha =>
        split at hs
        · next hin1 =>
          cases hs
          exact va_last (D := D) hx hb hK hP hD hS a 2 (av_ws_get ha) rfl (av_in_iff hin1) hd (fun H1 locs1 hP1 hD1 hS1 => kk σ ls H1 locs1 (r.cell (x := .inl (2, n, .inr (.inl (vp_updL f i.toNatClampNeg x)))) trivial (av_tl (av_tl (av_tl hst))) hP1 hD1 hS1))
        · cases hs
      · cases hs
    · cases hs
  · simp only [av_ok, Bool.and_eq_true, decide_eq_true_eq] at hok
    obtain ⟨rfl, hd⟩ := hok
    simp only [av_one] at hs
    split at hs
    · next b i a r0 =>
      split at hs
      · next n f fs ha hb6 =>
        split at hs
        · next hin1 =>
          cases hs
          have h6 := hE.2.2.2.2.2.2.2.2.2
          obtain ⟨rc, hrc, hrn⟩ : ∃ rc, cl[6]? = some rc ∧ rc.1 = "SinglesPast$State" := by
            cases h9 : cl[6]? with
            | none => rw [h9] at h6; cases h6
            | some rc => rw [h9] at h6; exact ⟨rc, rfl, Option.some.inj h6⟩
          have hwe := r.2.2.2.2.2.1 _ (List.mem_of_getElem? ha)
          refine va_astq (D := D) (r := rc) hx hb hK hP hD hS a 3 b 6 (av_ws_get ha) (by rw [hrn]; rfl) (av_ws_get hb6) hrc (av_in_iff hin1) hd (fun H1 locs1 hP1 hD1 hS1 => kk σ ls H1 locs1 (r.cell (x := .inl (3, n, .inr (.inr (.inr (.inr (va_up f i.toNatClampNeg (some b))))))) (fun j z hz => ?_) (av_tl (av_tl (av_tl hst))) ?_ ?_ hS1))
          · simp only [va_up] at hz
            split at hz
            · cases hz; exact av_hd hst
            · exact hwe j z hz
          · have e1 : av_e cy σ τ (.inl (3, n, .inr (.inr (.inr (.inr (va_up f i.toNatClampNeg (some b))))))) = .inl (cy 3, n, .inr (.inr (.inr (.inr (va_up (fun j => (f j).map σ) i.toNatClampNeg (some (σ b))))))) := by
              simp only [av_e]
              congr 7
              funext j
              simp only [va_up]
              split <;> rfl
            rw [e1]; exact hP1
          · have e1 : av_e cy σ τ (.inl (3, n, .inr (.inr (.inr (.inr (va_up f i.toNatClampNeg (some b))))))) = .inl (cy 3, n, .inr (.inr (.inr (.inr (va_up (fun j => (f j).map σ) i.toNatClampNeg (some (σ b))))))) := by
              simp only [av_e]
              congr 7
              funext j
              simp only [va_up]
              split <;> rfl
            rw [e1]; exact hD1
        · cases hs
      · cases hs
    · cases hs
end SF
end
section
section SG
variable {P : av_P} {K : av_K} {Ts : List Cond} {cl : List vw_C} {cy τ : Nat → Nat} {D : va_G} {A : Nat → Prop} {σ0 σ : Nat → Nat} {n0 nL oc mi pc : Nat} {ini : Bool} {cc : ByteArray}
variable {p : Program} {l : Launch} {e : Env} {R : Room} {s : State} {m : MethodId} {args : Array Value} {below : List Frame} {meth : Method} {c : Code} {H : Heap} {locs : List Loc} {cells slots : Nat} {Q : State → Prop} {ls : Array Slot}
variable {L L' : av_L} {st st' : List Value} {h h' : av_H} {pc' cells' slots' : Nat}
/-- behind a making: the stack's other values stand as they did -/
theorem av_made (r : av_Rel cy τ D cl A s.heap σ0 n0 nL σ L st h ls H locs) {q : Nat} {x y : va_E} {r0 : List Value} (hr0 : ∀ w ∈ r0, av_wv h.length w) (hx : av_we h.length x) (hxy : ∀ σ', av_e cy σ' τ x = y) {H1 : Heap} {locs1 : List Loc} {pc1 c1 s1 : Nat}
    (hP : va_P D cl (av_ws cy σ τ h ++ [(q, y)]) H1) (hD : va_D A (av_ws cy σ τ h ++ [(q, y)])) (hS : va_S A s.heap H1 locs1)
    (kk : av_K1 cy τ D cl A σ0 n0 nL p l e R s m args below meth c Q pc1 L (.ref h.length :: r0) (h ++ [x]) c1 s1) : W p l e R s m args below meth c H1 locs1 c1 s1 Q (F0 m pc1 ls (.ref q :: r0.map (av_v σ τ))) := by
  obtain ⟨σ', h1, h2, r'⟩ := r.make (st' := .ref h.length :: r0) hx (av_co (Nat.lt_succ_self _) (fun w hw => av_wv_le (Nat.le_succ _) (hr0 w hw))) hxy hP hD hS
  have k1 := kk σ' ls H1 locs1 r'
  have e1 : (Value.ref h.length :: r0).map (av_v σ' τ) = .ref q :: r0.map (av_v σ τ) := by
    rw [List.map_cons, List.map_congr_left (fun w hw => av_v_ext h1 (hr0 w hw))]
    exact congrArg (fun z => Value.ref z :: r0.map (av_v σ τ)) h2
  rw [e1] at k1
  exact k1
theorem sd_new (hE : av_Env P K Ts cl) (hF : av_Fix P K Ts cl cy τ D A nL oc ini cc p R s m args meth c) (r : av_Rel cy τ D cl A s.heap σ0 n0 nL σ L st h ls H locs) {ci len ix : Nat} (hok : av_ok K cl oc ini cc pc (.new ci) len ix = true)
    (hs : av_one P mi pc (.new ci) len L st h cells slots = some (.inl (pc', L', st', h', cells', slots'))) (hc1 : cells' ≤ R.cells) (hs1 : slots' ≤ R.slots) (kk : av_K1 cy τ D cl A σ0 n0 nL p l e R s m args below meth c Q pc' L' st' h' cells' slots') :
    W p l e R s m args below meth c H locs cells slots Q (F0 m pc ls (st.map (av_v σ τ))) := by
  obtain ⟨⟨hx, hb, hml, hown⟩, hts, hin, hK, hA, hOld, hR⟩ := hF
  simp only [av_ok, Bool.and_eq_true, decide_eq_true_eq] at hok
  obtain ⟨⟨rfl, hd⟩, hm⟩ := hok
  obtain ⟨C, T, N, hc, hw⟩ := hE.2.2.2.1 _ hm
  obtain ⟨hu, hty, hnm, hN, hi1, hi2⟩ := hE.1 _ _ _ _ hc
  simp only [av_one] at hs
  cases hs
  subst hN
  refine va_new (D := D) (C := C) (T := T) (N := (av_ty P ci).length) (fs := (av_ty P ci).map av_def) hx hb hts hu (fun k => (av_ty P ci).getD k .float) hty hown (hts _ hw) (hts _ hi1) (hts _ hi2) hK r.2.2.2.2.2.2.1 r.2.2.2.2.2.2.2.1 r.2.2.2.2.2.2.2.2 hA hc (fun j hj => ?_) hc1 hs1 hd (fun q H1 hP1 hD1 hS1 => ?_)
  · simp [vp_V, av_def, List.getD_eq_getElem?_getD, hj]
  · refine av_made r (x := .inr (ci, (av_ty P ci).map av_def)) r.2.2.2.2.1 (fun w hw => ?_) (fun σ' => ?_) hP1 hD1 hS1 kk
    · obtain ⟨t, -, rfl⟩ := List.mem_map.mp hw
      cases t <;> trivial
    · simp only [av_e, List.map_map]
      congr 2
      exact List.map_congr_left (fun t _ => av_v_def t)
theorem sd_newa (hE : av_Env P K Ts cl) (hF : av_Fix P K Ts cl cy τ D A nL oc ini cc p R s m args meth c) (r : av_Rel cy τ D cl A s.heap σ0 n0 nL σ L st h ls H locs) {k : ArrayType} {len ix : Nat} (hok : av_ok K cl oc ini cc pc (.newarray k) len ix = true)
    (hs : av_one P mi pc (.newarray k) len L st h cells slots = some (.inl (pc', L', st', h', cells', slots'))) (hc1 : cells' ≤ R.cells) (hs1 : slots' ≤ R.slots) (kk : av_K1 cy τ D cl A σ0 n0 nL p l e R s m args below meth c Q pc' L' st' h' cells' slots') :
    W p l e R s m args below meth c H locs cells slots Q (F0 m pc ls (st.map (av_v σ τ))) := by
  obtain ⟨⟨hx, hb, hml, hown⟩, hts, hin, hK, hA, hOld, hR⟩ := hF
  simp only [av_ok, Bool.and_eq_true, decide_eq_true_eq] at hok
  obtain ⟨rfl, hd⟩ := hok
  have hcls := hE.2.2.2.2.2.2.2.2.1
  simp only [av_one] at hs
  split at hs
  · next n r0 =>
    split at hs
    · next hn =>
      obtain ⟨hn0, hn1⟩ := hn
      cases k with
      | int =>
        simp only [av_newa] at hs
        cases hs
        refine va_newa (D := D) (atype := .int) (ty := .int) (a0 := (n.toNatClampNeg, .inl (fun _ => 0))) hx hb (hts _ hcls.1) rfl hK r.2.2.2.2.2.2.1 r.2.2.2.2.2.2.2.1 r.2.2.2.2.2.2.2.2 hA (fun cA => rfl) hn0 rfl (by simp only [componentBytes]; omega) hc1 hs1 hd (fun q cA H1 hK1 hP1 hD1 hS1 => ?_)
        have hcA : cA = cy 0 := av_ra (C := "") (Or.inl rfl) hK1 hK (k1 := 4) (k2 := 0) rfl rfl
        subst hcA
        exact av_made r (x := .inl (0, n.toNatClampNeg, .inl (fun _ => 0))) (av_tl r.2.2.2.2.1) trivial (fun _ => rfl) hP1 hD1 hS1 kk
      | byte =>
        simp only [av_newa] at hs
        cases hs
        refine va_newa (D := D) (atype := .byte) (ty := .byte) (a0 := (n.toNatClampNeg, .inl (fun _ => 0))) hx hb (hts _ hcls.2.1) rfl hK r.2.2.2.2.2.2.1 r.2.2.2.2.2.2.2.1 r.2.2.2.2.2.2.2.2 hA (fun cA => rfl) hn0 rfl (by simp only [componentBytes]; omega) hc1 hs1 hd (fun q cA H1 hK1 hP1 hD1 hS1 => ?_)
        have hcA : cA = cy 1 := av_ra (C := "") (Or.inr (Or.inl rfl)) hK1 hK (k1 := 4) (k2 := 1) rfl rfl
        subst hcA
        exact av_made r (x := .inl (1, n.toNatClampNeg, .inl (fun _ => 0))) (av_tl r.2.2.2.2.1) trivial (fun _ => rfl) hP1 hD1 hS1 kk
      | long =>
        simp only [av_newa] at hs
        cases hs
        refine va_newa (D := D) (atype := .long) (ty := .long) (a0 := (n.toNatClampNeg, .inr (.inl (fun _ => 0)))) hx hb (hts _ hcls.2.2) rfl hK r.2.2.2.2.2.2.1 r.2.2.2.2.2.2.2.1 r.2.2.2.2.2.2.2.2 hA (fun cA => rfl) hn0 rfl (by simp only [componentBytes]; omega) hc1 hs1 hd (fun q cA H1 hK1 hP1 hD1 hS1 => ?_)
        have hcA : cA = cy 2 := av_ra (C := "") (Or.inr (Or.inr (Or.inl rfl))) hK1 hK (k1 := 4) (k2 := 2) rfl rfl
        subst hcA
        exact av_made r (x := .inl (2, n.toNatClampNeg, .inr (.inl (fun _ => 0)))) (av_tl r.2.2.2.2.1) trivial (fun _ => rfl) hP1 hD1 hS1 kk
      | _ => simp only [av_newa] at hs; cases hs
    · cases hs
  · cases hs
theorem sd_newr (hE : av_Env P K Ts cl) (hF : av_Fix P K Ts cl cy τ D A nL oc ini cc p R s m args meth c) (r : av_Rel cy τ D cl A s.heap σ0 n0 nL σ L st h ls H locs) {k : Nat} {len ix : Nat} (hok : av_ok K cl oc ini cc pc (.anewarray k) len ix = true)
    (hs : av_one P mi pc (.anewarray k) len L st h cells slots = some (.inl (pc', L', st', h', cells', slots'))) (hc1 : cells' ≤ R.cells) (hs1 : slots' ≤ R.slots) (kk : av_K1 cy τ D cl A σ0 n0 nL p l e R s m args below meth c Q pc' L' st' h' cells' slots') :
    W p l e R s m args below meth c H locs cells slots Q (F0 m pc ls (st.map (av_v σ τ))) := by
  obtain ⟨⟨hx, hb, hml, hown⟩, hts, hin, hK, hA, hOld, hR⟩ := hF
  simp only [av_ok, Bool.and_eq_true, decide_eq_true_eq] at hok
  obtain ⟨⟨rfl, hd⟩, hm⟩ := hok
  simp only [av_one] at hs
  split at hs
  · next n r0 =>
    split at hs
    · next hn =>
      obtain ⟨hn0, hn1⟩ := hn
      cases hs
      refine va_newq (D := D) (C := "SinglesPast$State") hx hb hown (hts _ ((hE.2.2.2.2.1 _ hm).2.2 rfl)) hOld.2.2.1 hK r.2.2.2.2.2.2.1 r.2.2.2.2.2.2.2.1 r.2.2.2.2.2.2.2.2 hA hn0 rfl (by omega) hc1 hs1 hd (fun q cA H1 hK1 hP1 hD1 hS1 => ?_)
      have hcA : cA = cy 3 := av_ra (C := "SinglesPast$State") (Or.inr (Or.inr (Or.inr rfl))) hK1 hK (k1 := 4) (k2 := 3) rfl rfl
      subst hcA
      exact av_made r (x := .inl (3, n.toNatClampNeg, .inr (.inr (.inr (.inr (fun _ => none)))))) (av_tl r.2.2.2.2.1) (fun j a hj => by cases hj) (fun _ => rfl) hP1 hD1 hS1 kk
    · cases hs
  · cases hs
theorem sd_copy (hE : av_Env P K Ts cl) (hF : av_Fix P K Ts cl cy τ D A nL oc ini cc p R s m args meth c) (r : av_Rel cy τ D cl A s.heap σ0 n0 nL σ L st h ls H locs) {len ix : Nat} (hok : av_ok K cl oc ini cc pc (.invokedynamic 0) len ix = true)
    (hs : av_one P mi pc (.invokedynamic 0) len L st h cells slots = some (.inl (pc', L', st', h', cells', slots'))) (kk : av_K1 cy τ D cl A σ0 n0 nL p l e R s m args below meth c Q pc' L' st' h' cells' slots') :
    W p l e R s m args below meth c H locs cells slots Q (F0 m pc ls (st.map (av_v σ τ))) := by
  obtain ⟨⟨hx, hb, hml, hown⟩, hts, hin, hK, hA, hOld, hR⟩ := hF
  simp only [av_ok, Bool.and_eq_true, decide_eq_true_eq] at hok
  obtain ⟨⟨rfl, hd⟩, hm⟩ := hok
  have hj := hE.2.2.2.2.2.2.1
  simp only [av_one, av_copy] at hs
  split at hs
  · next n dp b sp a r0 =>
    split at hs
    · next n0' f n1 g ha hb1 =>
      split at hs
      · next hh =>
        obtain ⟨h1, h2, h3, h4, h5, h6⟩ := hh
        cases hs
        refine va_copyi (D := D) (ty := .int) hx hb (by rw [hml]; exact r.2.2.1.2.1.symm) hown (hts _ ((hE.2.2.2.2.1 _ hm).1 rfl)) (hts _ hj.1) (hts _ hj.2.1) (hts _ hj.2.2) hK r.2.2.2.2.2.2.1 r.2.2.2.2.2.2.2.1 r.2.2.2.2.2.2.2.2 a b 0 0 (av_ws_get ha) (av_ws_get hb1) rfl rfl rfl h1 h2 h3 h4 h5 (fun _ _ => rfl) (by omega) ?_ hd (fun H1 locs1 hP1 hD1 hS1 => kk σ ls H1 locs1 (r.cell (x := .inl (0, n1, .inl (va_cpy f g sp.toNatClampNeg dp.toNatClampNeg n.toNatClampNeg))) trivial (av_tl (av_tl (av_tl (av_tl (av_tl r.2.2.2.2.1))))) hP1 hD1 hS1))
        have e1 := av_cats σ τ st'
        have e2 : nativeFrameWords "java/lang/System" "arraycopy" 5 ≤ 100 := by decide
        have e3 := hR.2
        omega
      · cases hs
    · cases hs
  · cases hs
theorem sd_clone (hE : av_Env P K Ts cl) (hF : av_Fix P K Ts cl cy τ D A nL oc ini cc p R s m args meth c) (r : av_Rel cy τ D cl A s.heap σ0 n0 nL σ L st h ls H locs) {len ix : Nat} (hok : av_ok K cl oc ini cc pc (.invokedynamic 3) len ix = true)
    (hs : av_one P mi pc (.invokedynamic 3) len L st h cells slots = some (.inl (pc', L', st', h', cells', slots'))) (hc1 : cells' ≤ R.cells) (hs1 : slots' ≤ R.slots) (kk : av_K1 cy τ D cl A σ0 n0 nL p l e R s m args below meth c Q pc' L' st' h' cells' slots') :
    W p l e R s m args below meth c H locs cells slots Q (F0 m pc ls (st.map (av_v σ τ))) := by
  obtain ⟨⟨hx, hb, hml, hown⟩, hts, hin, hK, hA, hOld, hR⟩ := hF
  simp only [av_ok, Bool.and_eq_true, decide_eq_true_eq] at hok
  obtain ⟨⟨rfl, hd⟩, hm⟩ := hok
  obtain ⟨hj, w1, w2, w3, w4⟩ := hE.2.2.2.2.2.1
  simp only [av_one] at hs
  split at hs
  · next a r0 =>
    split at hs
    · next n f ha =>
      split at hs
      · next h8 =>
        cases hs
        have e1 := av_cats σ τ r0
        have e3 := hR.2
        have hnm : s.vm.findClass "[I" = some (cy 0) := (hK.2 0 _ rfl).2
        refine va_clone (D := D) (ad := "[I") (x := (n, .inl f)) (ty := .int) hx hb (by rw [hml]; exact r.2.2.1.2.1.symm) hown (hts _ ((hj _ hm).1 rfl)) (hts _ w1) (hts _ w2) (hts _ w3) (hts _ w4) hOld.2.2.2 hK r.2.2.2.2.2.2.1 r.2.2.2.2.2.2.2.1 r.2.2.2.2.2.2.2.2 hA a 0 (av_ws_get ha) rfl hnm (fun i v hv => ?_) (by omega) (by omega) hc1 hs1 hd (fun q H1 hK1 hP1 hD1 hS1 => ?_)
        · rw [vp_cell_i] at hv
          by_cases hi : i < n
          · rw [arrV_read _ _ hi] at hv; cases hv; rfl
          · rw [Array.getElem?_eq_none (by rw [arrV_size]; omega)] at hv; cases hv
        · exact av_made r (x := .inl (0, n, .inl f)) (av_tl r.2.2.2.2.1) trivial (fun _ => rfl) hP1 hD1 hS1 kk
      · cases hs
    · cases hs
  · cases hs
theorem sd_cast (hE : av_Env P K Ts cl) (hF : av_Fix P K Ts cl cy τ D A nL oc ini cc p R s m args meth c) (r : av_Rel cy τ D cl A s.heap σ0 n0 nL σ L st h ls H locs) {k len ix : Nat} (hok : av_ok K cl oc ini cc pc (.checkcast k) len ix = true)
    (hs : av_one P mi pc (.checkcast k) len L st h cells slots = some (.inl (pc', L', st', h', cells', slots'))) (kk : av_K1 cy τ D cl A σ0 n0 nL p l e R s m args below meth c Q pc' L' st' h' cells' slots') :
    W p l e R s m args below meth c H locs cells slots Q (F0 m pc ls (st.map (av_v σ τ))) := by
  obtain ⟨⟨hx, hb, hml, hown⟩, hts, hin, hK, hA, hOld, hR⟩ := hF
  simp only [av_ok, Bool.and_eq_true, decide_eq_true_eq] at hok
  obtain ⟨⟨rfl, hd⟩, hm⟩ := hok
  simp only [av_one] at hs
  split at hs
  · next a r0 =>
    split at hs
    · next n f ha =>
      cases hs
      have hnm : s.vm.findClass "[I" = some (cy 0) := (hK.2 0 _ rfl).2
      exact va_castA (D := D) (nm := "[I") hx hb hown (hts _ ((hE.2.2.2.2.2.1.1 _ hm).2 rfl)) r.2.2.2.2.2.2.1 a (av_ws_get ha) hnm hd (kk σ ls H locs r)
    · cases hs
  · cases hs
end SG
end
section
section SH
variable {P : av_P} {K : av_K} {Ts : List Cond} {cl : List vw_C} {cy τ : Nat → Nat} {D : va_G} {A : Nat → Prop} {σ0 σ : Nat → Nat} {n0 nL oc mi pc : Nat} {ini : Bool} {cc : ByteArray}
variable {p : Program} {l : Launch} {e : Env} {R : Room} {s : State} {m : MethodId} {args : Array Value} {below : List Frame} {meth : Method} {c : Code} {H : Heap} {locs : List Loc} {cells slots : Nat} {Q : State → Prop} {ls : Array Slot}
variable {L L' : av_L} {st st' : List Value} {h h' : av_H} {pc' cells' slots' : Nat}
set_option maxHeartbeats 4000000 in
/-- one instruction (no call, no throw, no end) -/
theorem sd_one (hE : av_Env P K Ts cl) (hF : av_Fix P K Ts cl cy τ D A nL oc ini cc p R s m args meth c) (hStr : av_Str P K τ A oc cc p l e R s m args below meth c Q nL) (r : av_Rel cy τ D cl A s.heap σ0 n0 nL σ L st h ls H locs) {ins : Instr} {len ix : Nat} (hok : av_ok K cl oc ini cc pc ins len ix = true)
    (hs : av_one P mi pc ins len L st h cells slots = some (.inl (pc', L', st', h', cells', slots'))) (hc1 : cells' ≤ R.cells) (hs1 : slots' ≤ R.slots) (kk : av_K1 cy τ D cl A σ0 n0 nL p l e R s m args below meth c Q pc' L' st' h' cells' slots') :
    W p l e R s m args below meth c H locs cells slots Q (F0 m pc ls (st.map (av_v σ τ))) := by
  have hF0 := hF
  obtain ⟨⟨hx, hb, hml, hown⟩, hts, hin, hK, hA, hOld, hR⟩ := hF
  have hst := r.2.2.2.2.1
  have hlh := r.2.2.1.2
  cases ins with
  | sipush v =>
    simp only [av_one] at hs
    cases hs
    refine sd_ld (v := .int (Int32.ofInt v)) r trivial kk (fun k1 => ?_)
    simp only [av_ok, Bool.or_eq_true, Bool.and_eq_true, decide_eq_true_eq] at hok
    rcases hok with (((⟨rfl, hd⟩ | ⟨⟨rfl, hd⟩, hv⟩) | ⟨⟨rfl, hd⟩, hv⟩) | ⟨⟨rfl, hd⟩, hm⟩) | ⟨⟨rfl, hd⟩, hm⟩
    · exact lv_iconst hx hb hd rfl k1
    · exact lv_bipush hx hb hd hv k1
    · exact lv_sipush hx hb hd hv k1
    · exact lv_ldc hx hb hown (hts _ (hE.2.2.1 _ hm)) hd k1
    · exact lv_ldcw hx hb hown (hts _ (hE.2.2.1 _ hm)) hd k1
  | lconst n =>
    simp only [av_one] at hs
    cases hs
    simp only [av_ok, Bool.and_eq_true, decide_eq_true_eq] at hok
    obtain ⟨rfl, hd⟩ := hok
    exact sd_ld (v := .long (Int64.ofNat (n : Nat))) r trivial kk (fun k1 => lv_lconst hx hb hd rfl k1)
  | ldc i =>
    simp only [av_one] at hs
    cases hs
    simp only [av_ok, Bool.or_eq_true, Bool.and_eq_true, decide_eq_true_eq] at hok
    obtain ⟨hd2, hm⟩ := hok
    obtain ⟨tx, hZ⟩ := hOld.1 _ hm
    rcases hd2 with ⟨rfl, hd⟩ | ⟨rfl, hd⟩
    · exact sd_ld (v := .retAddr (i + 1)) r trivial kk (fun k1 => va_ldcS hx hb hown hZ hd k1)
    · exact sd_ld (v := .retAddr (i + 1)) r trivial kk (fun k1 => sd_ldcw hx hb hown hZ hd k1)
  | iload i =>
    simp only [av_one] at hs
    split at hs
    · next x hv =>
      cases hs
      refine sd_ld (v := .int x) r trivial kk (fun k1 => ?_)
      simp only [av_ok, Bool.or_eq_true, Bool.and_eq_true, decide_eq_true_eq] at hok
      rcases hok with ⟨rfl, hd⟩ | ⟨⟨rfl, hi⟩, hd⟩
      · exact lv_iload hx hb hd (av_get r hv) k1
      · exact lv_iload_n hx hb hd (Nat.mod_eq_of_lt hi) (av_get r hv) k1
    · cases hs
  | aload i =>
    simp only [av_one] at hs
    split at hs
    · next x hv =>
      cases hs
      refine sd_ld (v := .ref x) r (r.2.2.2.1 _ _ hv).2 kk (fun k1 => ?_)
      simp only [av_ok, Bool.or_eq_true, Bool.and_eq_true, decide_eq_true_eq] at hok
      rcases hok with ⟨rfl, hd⟩ | ⟨⟨rfl, hi⟩, hd⟩
      · exact lv_aload hx hb hd (av_get r hv) k1
      · exact lv_aload_n hx hb hd (Nat.mod_eq_of_lt hi) (av_get r hv) k1
    · next x hv =>
      cases hs
      refine sd_ld (v := .retAddr x) r trivial kk (fun k1 => ?_)
      simp only [av_ok, Bool.or_eq_true, Bool.and_eq_true, decide_eq_true_eq] at hok
      rcases hok with ⟨rfl, hd⟩ | ⟨⟨rfl, hi⟩, hd⟩
      · exact lv_aload hx hb hd (av_get r hv) k1
      · exact lv_aload_n hx hb hd (Nat.mod_eq_of_lt hi) (av_get r hv) k1
    · cases hs
  | istore i =>
    simp only [av_one] at hs
    split at hs
    · next x r0 =>
      split at hs
      · next hi1 =>
        cases hs
        rw [r.2.2.1.1] at hi1
        simp only [av_ok, Bool.or_eq_true, Bool.and_eq_true, decide_eq_true_eq] at hok
        rcases hok with ⟨rfl, hd⟩ | ⟨⟨rfl, hi⟩, hd⟩
        · exact lv_istore hx hb hd hlh hi1 rfl (fun ls' hl => kk σ ls' H locs (r.store (v := .int x) rfl trivial (av_tl hst) hl))
        · exact lv_istore_n hx hb hd (Nat.mod_eq_of_lt hi) hlh hi1 rfl (fun ls' hl => kk σ ls' H locs (r.store (v := .int x) rfl trivial (av_tl hst) hl))
      · cases hs
    · cases hs
  | astore i =>
    simp only [av_one] at hs
    split at hs
    · next x r0 =>
      split at hs
      · next hi1 =>
        cases hs
        rw [r.2.2.1.1] at hi1
        simp only [av_ok, Bool.or_eq_true, Bool.and_eq_true, decide_eq_true_eq] at hok
        rcases hok with ⟨rfl, hd⟩ | ⟨⟨rfl, hi⟩, hd⟩
        · exact lv_astore hx hb hd hlh hi1 rfl (fun ls' hl => kk σ ls' H locs (r.store (v := .ref x) rfl (av_hd hst) (av_tl hst) hl))
        · exact lv_astore_n hx hb hd (Nat.mod_eq_of_lt hi) hlh hi1 rfl (fun ls' hl => kk σ ls' H locs (r.store (v := .ref x) rfl (av_hd hst) (av_tl hst) hl))
      · cases hs
    · next x r0 =>
      split at hs
      · next hi1 =>
        cases hs
        rw [r.2.2.1.1] at hi1
        simp only [av_ok, Bool.or_eq_true, Bool.and_eq_true, decide_eq_true_eq] at hok
        rcases hok with ⟨rfl, hd⟩ | ⟨⟨rfl, hi⟩, hd⟩
        · exact lv_astore hx hb hd hlh hi1 rfl (fun ls' hl => kk σ ls' H locs (r.store (v := .retAddr x) rfl trivial (av_tl hst) hl))
        · exact lv_astore_n hx hb hd (Nat.mod_eq_of_lt hi) hlh hi1 rfl (fun ls' hl => kk σ ls' H locs (r.store (v := .retAddr x) rfl trivial (av_tl hst) hl))
      · cases hs
    · cases hs
  | iinc i n =>
    simp only [av_one] at hs
    split at hs
    · next x hv =>
      cases hs
      simp only [av_ok, Bool.and_eq_true, decide_eq_true_eq] at hok
      obtain ⟨rfl, hd⟩ := hok
      have hi1 : i < nL := by rw [← r.2.2.1.1]; exact (List.getElem?_eq_some_iff.mp hv).1
      obtain ⟨k, hk⟩ := List.getElem?_of_mem (av_lv_mem (σ := σ) (τ := τ) (q := (i, .int x)).mpr ⟨.int x, hv, rfl⟩)
      exact lv_iinc hx hb hd hlh hk rfl hi1 rfl (fun ls' hl => kk σ ls' H locs (r.store (v := .int (x + Int32.ofInt n)) rfl trivial hst hl))
    · cases hs
  | dup =>
    simp only [av_one] at hs
    split at hs
    · next v r0 =>
      split at hs
      · next hv =>
        cases hs
        simp only [av_ok, Bool.and_eq_true, decide_eq_true_eq] at hok
        obtain ⟨rfl, hd⟩ := hok
        exact lv_dup hx hb hd (by rw [av_v_cat]; exact hv) (kk σ ls H locs (r.stk (av_co (av_hd hst) hst)))
      · cases hs
    · cases hs
  | dup2 =>
    simp only [av_one] at hs
    split at hs
    · next v w r0 =>
      split at hs
      · next hv =>
        cases hs
        simp only [av_ok, Bool.and_eq_true, decide_eq_true_eq] at hok
        obtain ⟨rfl, hd⟩ := hok
        exact lv_dup2_11 hx hb hd (by rw [av_v_cat]; exact hv.1) (by rw [av_v_cat]; exact hv.2) (kk σ ls H locs (r.stk (av_co (av_hd hst) (av_co (av_hd (av_tl hst)) hst))))
      · cases hs
    · cases hs
  | pop =>
    simp only [av_one] at hs
    split at hs
    · next v r0 =>
      split at hs
      · next hv =>
        cases hs
        simp only [av_ok, Bool.and_eq_true, decide_eq_true_eq] at hok
        obtain ⟨rfl, hd⟩ := hok
        exact lv_pop hx hb hd (by rw [av_v_cat]; exact hv) (kk σ ls H locs (r.stk (av_tl hst)))
      · cases hs
    · cases hs
  | iadd =>
    simp only [av_ok, Bool.and_eq_true, decide_eq_true_eq] at hok
    obtain ⟨rfl, hd⟩ := hok
    simp only [av_one] at hs
    exact sd_bin r hs kk (fun x y z rest hz k1 => by cases hz; exact lv_iadd hx hb hd k1)
  | isub =>
    simp only [av_ok, Bool.and_eq_true, decide_eq_true_eq] at hok
    obtain ⟨rfl, hd⟩ := hok
    simp only [av_one] at hs
    exact sd_bin r hs kk (fun x y z rest hz k1 => by cases hz; exact lv_isub hx hb hd k1)
  | imul =>
    simp only [av_ok, Bool.and_eq_true, decide_eq_true_eq] at hok
    obtain ⟨rfl, hd⟩ := hok
    simp only [av_one] at hs
    exact sd_bin r hs kk (fun x y z rest hz k1 => by cases hz; exact lv_imul hx hb hd k1)
  | idiv =>
    simp only [av_ok, Bool.and_eq_true, decide_eq_true_eq] at hok
    obtain ⟨rfl, hd⟩ := hok
    simp only [av_one] at hs
    refine sd_bin r hs kk (fun x y z rest hz k1 => ?_)
    split at hz
    · cases hz
    · next hy => cases hz; exact lv_idiv hx hb hd hy k1
  | irem =>
    simp only [av_ok, Bool.and_eq_true, decide_eq_true_eq] at hok
    obtain ⟨rfl, hd⟩ := hok
    simp only [av_one] at hs
    refine sd_bin r hs kk (fun x y z rest hz k1 => ?_)
    split at hz
    · cases hz
    · next hy => cases hz; exact lv_irem hx hb hd hy k1
  | iand =>
    simp only [av_ok, Bool.and_eq_true, decide_eq_true_eq] at hok
    obtain ⟨rfl, hd⟩ := hok
    simp only [av_one] at hs
    exact sd_bin r hs kk (fun x y z rest hz k1 => by cases hz; exact lv_iand hx hb hd k1)
  | ior =>
    simp only [av_ok, Bool.and_eq_true, decide_eq_true_eq] at hok
    obtain ⟨rfl, hd⟩ := hok
    simp only [av_one] at hs
    exact sd_bin r hs kk (fun x y z rest hz k1 => by cases hz; exact lv_ior hx hb hd k1)
  | ixor =>
    simp only [av_ok, Bool.and_eq_true, decide_eq_true_eq] at hok
    obtain ⟨rfl, hd⟩ := hok
    simp only [av_one] at hs
    exact sd_bin r hs kk (fun x y z rest hz k1 => by cases hz; exact lv_ixor hx hb hd k1)
  | ishl =>
    simp only [av_ok, Bool.and_eq_true, decide_eq_true_eq] at hok
    obtain ⟨rfl, hd⟩ := hok
    simp only [av_one] at hs
    exact sd_bin r hs kk (fun x y z rest hz k1 => by cases hz; exact lv_ishl hx hb hd k1)
  | ishr =>
    simp only [av_ok, Bool.and_eq_true, decide_eq_true_eq] at hok
    obtain ⟨rfl, hd⟩ := hok
    simp only [av_one] at hs
    exact sd_bin r hs kk (fun x y z rest hz k1 => by cases hz; exact lv_ishr hx hb hd k1)
  | iushr =>
    simp only [av_ok, Bool.and_eq_true, decide_eq_true_eq] at hok
    obtain ⟨rfl, hd⟩ := hok
    simp only [av_one] at hs
    exact sd_bin r hs kk (fun x y z rest hz k1 => by cases hz; exact lv_iushr hx hb hd rfl k1)
  | i2l =>
    simp only [av_one] at hs
    split at hs
    · cases hs
      simp only [av_ok, Bool.and_eq_true, decide_eq_true_eq] at hok
      obtain ⟨rfl, hd⟩ := hok
      exact lv_i2l hx hb hd rfl (kk σ ls H locs (r.stk (av_co trivial (av_tl hst))))
    · cases hs
  | i2b =>
    simp only [av_one] at hs
    split at hs
    · cases hs
      simp only [av_ok, Bool.and_eq_true, decide_eq_true_eq] at hok
      obtain ⟨rfl, hd⟩ := hok
      exact lv_i2b hx hb hd rfl (kk σ ls H locs (r.stk (av_co trivial (av_tl hst))))
    · cases hs
  | lcmp =>
    simp only [av_one] at hs
    split at hs
    · cases hs
      simp only [av_ok, Bool.and_eq_true, decide_eq_true_eq] at hok
      obtain ⟨rfl, hd⟩ := hok
      exact W.lcmp hx hb hd (kk σ ls H locs (r.stk (av_co trivial (av_tl (av_tl hst)))))
    · cases hs
  | if_icmp k t =>
    simp only [av_one] at hs
    simp only [av_ok, Bool.and_eq_true, decide_eq_true_eq] at hok
    obtain ⟨⟨rfl, ht⟩, hd⟩ := hok
    split at hs
    · next y x r0 =>
      refine sd_icmp hx hb ht hd (fun hz => ?_) (fun hz => ?_)
      · rw [if_pos hz] at hs
        simp only [av_goto] at hs
        cases hs
        exact kk σ ls H locs (r.stk (av_tl (av_tl hst)))
      · rw [if_neg hz] at hs
        cases hs
        exact kk σ ls H locs (r.stk (av_tl (av_tl hst)))
    · cases hs
  | ifCond k t =>
    simp only [av_one] at hs
    simp only [av_ok, Bool.and_eq_true, decide_eq_true_eq] at hok
    obtain ⟨⟨rfl, ht⟩, hd⟩ := hok
    split at hs
    · next x r0 =>
      refine sd_if hx hb ht hd (fun hz => ?_) (fun hz => ?_)
      · rw [if_pos hz] at hs
        simp only [av_goto] at hs
        cases hs
        exact kk σ ls H locs (r.stk (av_tl hst))
      · rw [if_neg hz] at hs
        cases hs
        exact kk σ ls H locs (r.stk (av_tl hst))
    · cases hs
  | ifnonnull t =>
    simp only [av_one] at hs
    simp only [av_ok, Bool.and_eq_true, decide_eq_true_eq] at hok
    obtain ⟨⟨rfl, ht⟩, hd⟩ := hok
    split at hs
    · next a r0 =>
      simp only [av_goto] at hs
      cases hs
      exact lv_ifnonnull hx hb hd (by omega) (kk σ ls H locs (r.stk (av_tl hst)))
    · next r0 =>
      cases hs
      exact lv_ifnonnullN hx hb hd (kk σ ls H locs (r.stk (av_tl hst)))
    · cases hs
  | goto t =>
    simp only [av_one, av_goto] at hs
    simp only [av_ok, Bool.and_eq_true, decide_eq_true_eq] at hok
    obtain ⟨⟨rfl, ht⟩, hd⟩ := hok
    cases hs
    exact lv_goto hx hb hd (by omega) (kk σ ls H locs r)
  | tableswitch d lo hi ts =>
    simp only [av_one] at hs
    simp only [av_ok, Bool.and_eq_true, decide_eq_true_eq] at hok
    obtain ⟨⟨h0, hts1⟩, hd⟩ := hok
    split at hs
    · next x r0 =>
      split at hs
      · next hz =>
        simp only [av_goto] at hs
        cases hs
        exact lv_tableOut hx hb hd hz (by omega) (kk σ ls H locs (r.stk (av_tl hst)))
      · next hz =>
        split at hs
        · next t htt =>
          simp only [av_goto] at hs
          cases hs
          have h1 : 0 ≤ t := by
            have h2 := Array.all_eq_true'.mp hts1 t (Array.mem_of_getElem? htt)
            simpa using h2
          exact lv_tableIn (off := t - pc) hx hb hd (fun q => hz (Or.inl q)) (fun q => hz (Or.inr q)) (by rw [Array.getElem?_map, htt]; rfl) (by omega) (kk σ ls H locs (r.stk (av_tl hst)))
        · cases hs
    · cases hs
  | getfield q => exact sd_field hE hF0 r hok hs kk
  | putfield q => exact sd_put hE hF0 r hok hs kk
  | iaload => exact sd_arr hE hF0 r (Or.inl rfl) hok hs kk
  | baload => exact sd_arr hE hF0 r (Or.inr (Or.inl rfl)) hok hs kk
  | laload => exact sd_arr hE hF0 r (Or.inr (Or.inr (Or.inl rfl))) hok hs kk
  | aaload => exact sd_arr hE hF0 r (Or.inr (Or.inr (Or.inr (Or.inl rfl)))) hok hs kk
  | arraylength => exact sd_arr hE hF0 r (Or.inr (Or.inr (Or.inr (Or.inr rfl)))) hok hs kk
  | iastore => exact sd_ast hE hF0 r (Or.inl rfl) hok hs kk
  | bastore => exact sd_ast hE hF0 r (Or.inr (Or.inl rfl)) hok hs kk
  | lastore => exact sd_ast hE hF0 r (Or.inr (Or.inr (Or.inl rfl))) hok hs kk
  | aastore => exact sd_ast hE hF0 r (Or.inr (Or.inr (Or.inr rfl))) hok hs kk
  | newarray k => exact sd_newa hE hF0 r hok hs hc1 hs1 kk
  | anewarray k => exact sd_newr hE hF0 r hok hs hc1 hs1 kk
  | new ci => exact sd_new hE hF0 r hok hs hc1 hs1 kk
  | monitorenter =>
    simp only [av_one] at hs
    simp only [av_ok, Bool.and_eq_true, decide_eq_true_eq] at hok
    obtain ⟨⟨rfl, hd⟩, hm⟩ := hok
    split at hs
    · next a r0 =>
      split at hs
      · next h8 =>
        cases hs
        refine W.objInit (g := F0 m pc ls _) hx hb hown (hts _ ((hE.2.2.2.2.1 _ hm).2.1 rfl)) (hts _ hE.2.2.2.2.2.2.2.1.1) (hts _ hE.2.2.2.2.2.2.2.1.2) rfl (by rw [hml]; exact hlh.1) rfl hd (by omega) ?_ (kk σ ls H locs (r.stk (av_tl hst)))
        have e1 := lv_room (m := m) (pc := pc) (ls := ls) (rest := av_v σ τ (Value.ref a) :: st'.map (av_v σ τ)) (st := st'.map (av_v σ τ)) (by rw [av_cats]; exact h8)
        have e3 := hR.2
        exact Nat.le_trans (Nat.add_le_add_right e1 12) (by omega)
      · cases hs
    · cases hs
  | invokedynamic k =>
    match k, hs, hok with
    | 0, hs, hok => exact sd_copy hE hF0 r hok hs kk
    | 1, hs, hok =>
      simp only [av_one] at hs
      simp only [av_ok, Bool.and_eq_true, decide_eq_true_eq] at hok
      obtain ⟨⟨rfl, hd⟩, hm⟩ := hok
      split at hs
      · next a r0 _ =>
        split at hs
        · next h8 =>
          cases hs
          exact hStr.1 pc ix a ls (r0.map (av_v σ τ)) H locs cells slots hd hm hlh.1 r.2.2.2.2.2.2.2.2 (by rw [av_cats σ τ]; exact h8) hc1 hs1 (kk σ ls H locs (r.stk (av_co trivial (av_tl hst))))
        · cases hs
      · cases hs
    | 2, hs, hok =>
      simp only [av_one] at hs
      simp only [av_ok, Bool.and_eq_true, decide_eq_true_eq] at hok
      obtain ⟨⟨rfl, hd⟩, hm⟩ := hok
      split at hs
      · next i a r0 _ =>
        split at hs
        · next h8 =>
          cases hs
          exact hStr.2 pc ix a i ls (r0.map (av_v σ τ)) H locs cells slots hd hm hlh.1 r.2.2.2.2.2.2.2.2 (by rw [av_cats σ τ]; exact h8.1) hc1 hs1 h8.2 (kk σ ls H locs (r.stk (av_co trivial (av_tl (av_tl hst)))))
        · cases hs
      · cases hs
    | 3, hs, hok => exact sd_clone hE hF0 r hok hs hc1 hs1 kk
    | k + 4, hs, hok => simp only [av_one] at hs; cases hs
  | checkcast k => exact sd_cast hE hF0 r hok hs kk
  | instanceof k => simp only [av_one] at hs; split at hs <;> cases hs
  | ireturn =>
    simp only [av_one] at hs
    split at hs
    · split at hs
      · cases hs
      · split at hs <;> cases hs
      · cases hs
    · cases hs
  | areturn =>
    simp only [av_one] at hs
    split at hs
    · split at hs <;> cases hs
    · cases hs
  | return_ =>
    simp only [av_one] at hs
    split at hs <;> cases hs
  | invokestatic mj => simp only [av_one] at hs; split at hs <;> cases hs
  | invokevirtual mj => simp only [av_one] at hs; split at hs <;> cases hs
  | invokespecial mj => simp only [av_one] at hs; split at hs <;> cases hs
  | _ => simp only [av_one] at hs; cases hs
end SH
end
section
/-! ===== BEGINNINGS AND ENDS ===== -/
/-- what is carried beside the tables' good words: words of the nest, of declarations, of casts; classes that are not castable; two statics of Throwable; the texts -/
def av_Ol2 (P : av_P) (Xs : List Cond) (Nc : List (String × String)) (nt : Nat) (τ : Nat → Nat) (A : Nat → Prop) (s : State) : Prop :=
  (∀ w ∈ Xs, va_Nw w s) ∧ (∀ q ∈ Nc, va_Nc q.1 q.2 s) ∧ (vx_Zq Bundle.tN "UNASSIGNED_STACK" Bundle.steD A s s.heap ∧ vx_Zq Bundle.tN "SUPPRESSED_SENTINEL" Bundle.listD A s s.heap) ∧ va_Z "java/lang/String" "COMPACT_STRINGS" "Z" (.int 1) A s s.heap ∧
  ∀ i, i < nt → va_O "java/lang/String" (τ (i + 1)) A s s.heap ∧ va_OF "java/lang/String" "coder" "B" (.int 0) (τ (i + 1)) A s s.heap ∧ ∃ v, va_OF "java/lang/String" "value" "[B" (.ref v) (τ (i + 1)) A s s.heap ∧ va_T .byte v (av_tx P i).length (fun j => .int ((av_tx P i).getD j 0)) A s s.heap
def av_xw (w : Cond) : Bool := match w with
  | .methodLinkNest _ _ _ _ => true
  | .declares _ => true
  | .castable _ _ => true
  | _ => false
theorem av_Nw_go {w : Cond} (hw : av_xw w = true) {s U : State} (hW : s.WarmedH U.vm) (h : va_Nw w s) : va_Nw w U := by
  cases w with
  | methodLinkNest a i x b => exact va_Nw.warmM hW h
  | declares x => exact va_Nw.warmD hW h
  | castable a b => exact va_Nw.warmC hW h
  | _ => cases hw
theorem av_Old_go {P : av_P} {K : av_K} {τ : Nat → Nat} {A : Nat → Prop} {s U : State} (h : av_Old P K τ A s) (hW : s.WarmedH U.vm) (hz : s.heap.size ≤ U.heap.size) (hq : ∀ q, q < s.heap.size → ¬ A q → U.heap[q]? = s.heap[q]?) : av_Old P K τ A U := by
  refine ⟨fun q hq1 => ?_, ⟨?_, Nat.lt_of_lt_of_le h.2.1.2.1 hz, h.2.1.2.2⟩, va_AO.moved hW.alike h.2.2.1, va_Nw.warmC hW h.2.2.2⟩
  · obtain ⟨tx, hx⟩ := h.1 q hq1
    exact ⟨tx, vk_R.warm hW hx⟩
  · exact va_X.moved hW.alike (h.2.1.1.kept (hq _ h.2.1.2.1 h.2.1.2.2))
theorem av_Ol2_go {P : av_P} {Xs : List Cond} {Nc : List (String × String)} {nt : Nat} {τ : Nat → Nat} {A : Nat → Prop} {s U : State} (hX : ∀ w ∈ Xs, av_xw w = true) (h : av_Ol2 P Xs Nc nt τ A s) (hW : s.WarmedH U.vm) (hq : ∀ q, q < s.heap.size → ¬ A q → U.heap[q]? = s.heap[q]?) : av_Ol2 P Xs Nc nt τ A U := by
  refine ⟨fun w hw => av_Nw_go (hX w hw) hW (h.1 w hw), fun q hq1 => va_Nc.moved hW.alike (h.2.1 q hq1), ⟨vx_Zq.moved hW.alike (h.2.2.1.1.kept hq), vx_Zq.moved hW.alike (h.2.2.1.2.kept hq)⟩, va_Z.moved hW.alike (h.2.2.2.1.kept hq), fun i hi => ?_⟩
  obtain ⟨h1, h2, v, h3, h4⟩ := h.2.2.2.2 i hi
  exact ⟨va_O.moved hW.alike (h1.kept hq), va_OF.moved hW.alike (h2.kept hq), v, va_OF.moved hW.alike (h3.kept hq), va_T.moved hW.alike (h4.kept hq)⟩
/-- the cells at a state -/
def av_B (cy τ : Nat → Nat) (D : va_G) (cl : List vw_C) (A : Nat → Prop) (σ : Nat → Nat) (h : av_H) (t : State) : Prop :=
  va_P D cl (av_ws cy σ τ h) t.heap ∧ va_K D cl (av_tys cy) t ∧ va_D A (av_ws cy σ τ h) ∧ ∀ x ∈ h, av_we h.length x
/-- a method's start -/
def av_Pc (P : av_P) (K : av_K) (Xs : List Cond) (Nc : List (String × String)) (nt : Nat) (cy τ : Nat → Nat) (D : va_G) (cl : List vw_C) (A : Nat → Prop) (σ : Nat → Nat) (h : av_H) (as : List Value) : Array Value → State → Prop :=
  va_Pc (as.map (av_v σ τ)) (fun U => av_B cy τ D cl A σ h U ∧ av_Old P K τ A U ∧ av_Ol2 P Xs Nc nt τ A U ∧ ∀ q, U.heap.size ≤ q → A q)
/-- its end: it answers .. -/
def av_Qc (cy τ : Nat → Nat) (D : va_G) (cl : List vw_C) (A : Nat → Prop) (σ0 : Nat → Nat) (n0 : Nat) (o : Option Value ⊕ String) (h' : av_H) : Array Value → State → Outcome → State → Prop := fun _ st oc t => match o with
  | .inl v => ∃ σ', (∀ k, k < n0 → σ' k = σ0 k) ∧ n0 ≤ h'.length ∧ oc = .returned (v.map (av_v σ' τ)) ∧ (∀ w, v = some w → av_wv h'.length w) ∧ av_B cy τ D cl A σ' h' t ∧ va_F A st t
  | .inr _ => False
/-- .. or throws -/
def av_Xc (cy τ : Nat → Nat) (D : va_G) (cl : List vw_C) (A : Nat → Prop) (σ0 : Nat → Nat) (n0 : Nat) (o : Option Value ⊕ String) (h' : av_H) : String → State → State → Prop := fun E st t => match o with
  | .inl _ => False
  | .inr E' => E = E' ∧ ∃ σ', (∀ k, k < n0 → σ' k = σ0 k) ∧ n0 ≤ h'.length ∧ av_B cy τ D cl A σ' h' t ∧ va_F A st t
theorem av_Pc_blind {P : av_P} {K : av_K} {Xs : List Cond} {Nc : List (String × String)} {nt : Nat} {cy τ : Nat → Nat} {D : va_G} {cl : List vw_C} {A : Nat → Prop} {σ : Nat → Nat} {h : av_H} {as : List Value} (hX : ∀ w ∈ Xs, av_xw w = true) : FrameBlind (av_Pc P K Xs Nc nt cy τ D cl A σ h as) := by
  intro a U g mk q
  obtain ⟨q0, ⟨q1, q2, q3, q4⟩, q5, q6, q7⟩ := q
  have hW : U.WarmedH (U.calling g mk a).vm := State.WarmedH.refl U
  exact ⟨q0, ⟨q1, va_K.moved (u := U) (U := U.calling g mk a) (Vm.Alike.refl U.vm) q2, q3, q4⟩, av_Old_go (U := U.calling g mk a) q5 hW (Nat.le_refl _) (fun _ _ _ => rfl), av_Ol2_go (U := U.calling g mk a) hX q6 hW (fun _ _ _ => rfl), q7⟩
section SI
variable {P : av_P} {K : av_K} {Ts : List Cond} {cl : List vw_C} {cy τ : Nat → Nat} {D : va_G} {A : Nat → Prop} {σ0 σ : Nat → Nat} {n0 nL oc mi pc : Nat} {ini : Bool} {cc : ByteArray}
variable {p : Program} {l : Launch} {e : Env} {R : Room} {s : State} {m : MethodId} {args : Array Value} {below : List Frame} {meth : Method} {c : Code} {H : Heap} {locs : List Loc} {cells slots : Nat} {Q : State → Prop} {ls : Array Slot}
variable {L L' : av_L} {st st' : List Value} {h h' : av_H} {pc' cells' slots' : Nat}
/-- an end -/
theorem sd_ret (hF : av_Fix P K Ts cl cy τ D A nL oc ini cc p R s m args meth c) (r : av_Rel cy τ D cl A s.heap σ0 n0 nL σ L st h ls H locs) (hret : meth.sig.returnType = (av_me P mi).2.2.2.1) (hlocks : meth.locks = false) {ins : Instr} {len ix : Nat}
    (hi : ins = .ireturn ∨ ins = .areturn ∨ ins = .return_) (hok : av_ok K cl oc ini cc pc ins len ix = true) {v : Option Value} (hs : av_one P mi pc ins len L st h cells slots = some (.inr (.inl v))) :
    W p l e R s m args below meth c H locs cells slots (vx_MQ below (av_Qc cy τ D cl A σ0 n0 (.inl v) h) (av_Xc cy τ D cl A σ0 n0 (.inl v) h) args s cells slots A) (F0 m pc ls (st.map (av_v σ τ))) := by
  obtain ⟨⟨hx, hb, hml, hown⟩, hts, hin, hK, hA, hOld, hR⟩ := hF
  obtain ⟨r1, r2, r3, r4, r5, r6, r7, r8, r9⟩ := r
  apply vx_ret
  have key : ∀ (w : Option Value), (∀ z, w = some z → av_wv h.length z) → ∀ t : State, t.heap = H → s.WarmedH t.vm → av_Qc cy τ D cl A σ0 n0 (.inl w) h args s (.returned (w.map (av_v σ τ))) t := fun w hw t ht hW =>
    ⟨σ, r1, r2, rfl, hw, ⟨by rw [ht]; exact r7, va_K.moved hW.alike hK, r8, r6⟩, r9.F ht⟩
  rcases hi with rfl | rfl | rfl
  · simp only [av_ok, Bool.and_eq_true, decide_eq_true_eq] at hok
    obtain ⟨rfl, hd⟩ := hok
    simp only [av_one] at hs
    split at hs
    · next x =>
      split at hs
      · next ht =>
        cases hs
        exact W.iret hx hb (hret.trans ht) (fun t ht hW => key (some (.int x)) (fun z hz => by cases hz; trivial) t ht hW) r9.2.2 hd
      · next ht =>
        split at hs
        · next h01 =>
          cases hs
          exact W.zret (ty := .boolean) hx hb (hret.trans ht) (by rcases h01 with rfl | rfl <;> decide) (fun t ht hW => key (some (.int x)) (fun z hz => by cases hz; trivial) t ht hW) r9.2.2 hd
        · cases hs
      · cases hs
    · cases hs
  · simp only [av_ok, Bool.and_eq_true, decide_eq_true_eq] at hok
    obtain ⟨rfl, hd⟩ := hok
    simp only [av_one] at hs
    split at hs
    · next x =>
      split at hs
      · next C ht =>
        cases hs
        exact W.aret (v := .ref (σ x)) hx hb (hret.trans ht) (Or.inl ⟨_, rfl⟩) (Or.inr ⟨_, rfl⟩) (fun t ht hW => key (some (.ref x)) (fun z hz => by cases hz; exact av_hd r5) t ht hW) r9.2.2 hd
      · next C ht =>
        cases hs
        exact W.aret (v := .ref (σ x)) hx hb (hret.trans ht) (Or.inr ⟨_, rfl⟩) (Or.inr ⟨_, rfl⟩) (fun t ht hW => key (some (.ref x)) (fun z hz => by cases hz; exact av_hd r5) t ht hW) r9.2.2 hd
      · cases hs
    · cases hs
  · simp only [av_ok, Bool.and_eq_true, decide_eq_true_eq] at hok
    obtain ⟨rfl, hd⟩ := hok
    simp only [av_one] at hs
    split at hs
    · next ht =>
      cases hs
      exact W.vret hx hb (hret.trans ht) (fun t ht hW => key none (fun z hz => by cases hz) t ht hW) r9.2.2 hd
    · cases hs
end SI
end
section
/-! ===== THROWS AND CALLS ===== -/
def av_nms : List String := ["java/lang/RuntimeException", "java/lang/Exception"]
/-- the throws: own class, the class's entry, the text's, the constructor's, is the text's wide -/
abbrev av_I : Type := List (Nat × Nat × Nat × Nat × Bool)
def av_EnvT (P : av_P) (K : av_K) (Ts Xs : List Cond) (I : av_I) : Prop :=
  ∀ k oc ik is ic wd, I[k]? = some (oc, ik, is, ic, wd) → Bundle.fit (av_th P k) = true ∧ Cond.classLink (av_cn K oc) ik (av_th P k) ∈ Ts ∧ Cond.initialized (av_th P k) ∈ Ts ∧ (∃ si, (oc, is, si) ∈ av_sl K) ∧
    (∀ w ∈ vx_atS (av_cn K oc) ic (av_th P k) av_nms, w ∈ Ts ∨ w ∈ Xs) ∧ ∀ w ∈ vx_atS (av_cn K oc) ic (av_th P k) av_nms, vx_ot w = true
def av_tok (I : av_I) (oc : Nat) (cc : ByteArray) (pc k : Nat) : Bool := match I[k]? with
  | some (oc', ik, is, ic, false) => decide (oc' = oc) && decide (decode cc pc = .ok (.new ik, 3)) && decide (decode cc (pc + 3) = .ok (.dup, 1)) && decide (decode cc (pc + 4) = .ok (.ldc is, 2)) && decide (decode cc (pc + 6) = .ok (.invokespecial ic, 3)) && decide (decode cc (pc + 9) = .ok (.athrow, 1))
  | some (oc', ik, is, ic, true) => decide (oc' = oc) && decide (decode cc pc = .ok (.new ik, 3)) && decide (decode cc (pc + 3) = .ok (.dup, 1)) && decide (decode cc (pc + 4) = .ok (.ldc_w is, 3)) && decide (decode cc (pc + 7) = .ok (.invokespecial ic, 3)) && decide (decode cc (pc + 10) = .ok (.athrow, 1))
  | none => false
section SJ
variable {P : av_P} {K : av_K} {Ts Xs : List Cond} {Nc : List (String × String)} {nt : Nat} {I : av_I} {cl : List vw_C} {cy τ : Nat → Nat} {D : va_G} {A : Nat → Prop} {σ0 σ : Nat → Nat} {n0 nL oc mi pc : Nat} {ini : Bool} {cc : ByteArray}
variable {p : Program} {l : Launch} {e : Env} {R : Room} {s : State} {m : MethodId} {args : Array Value} {below : List Frame} {meth : Method} {c : Code} {H : Heap} {locs : List Loc} {cells slots : Nat} {Q : State → Prop} {ls : Array Slot}
variable {L L' : av_L} {st st' : List Value} {h h' : av_H} {pc' cells' slots' : Nat}
theorem av_B_kept (r : av_Rel cy τ D cl A s.heap σ0 n0 nL σ L st h ls H locs) (hK : va_K D cl (av_tys cy) s) {t : State} (hvm : s.vm.Alike t.vm) (hq : ∀ q : Nat, q < H.size → t.heap[q]? = H[q]?) : av_B cy τ D cl A σ h t :=
  ⟨r.2.2.2.2.2.2.1.kept (fun k x hx => hq x.1 ((r.2.2.2.2.2.2.1 k x hx).lt)), va_K.moved hvm hK, r.2.2.2.2.2.2.2.1, r.2.2.2.2.2.1⟩
theorem sd_thr (hT : av_EnvT P K Ts Xs I) (hF : av_Fix P K Ts cl cy τ D A nL oc ini cc p R s m args meth c) (hO2 : av_Ol2 P Xs Nc nt τ A s) (hXs : ∀ w ∈ Xs, av_xw w = true) (hGd : ∀ w ∈ Ts, goodWord w = true) (hl : l.stackTraces = false) (hlocks : meth.locks = false) (htab : c.exceptionTable.toList = [])
    (r : av_Rel cy τ D cl A s.heap σ0 n0 nL σ L st h ls H locs) {k : Nat} (hok : av_tok I oc cc pc k = true) (h8 : (st.map fun v => v.category).sum ≤ 8) (hc : cells + 1 ≤ R.cells) (hs : slots + 6 ≤ R.slots) :
    W p l e R s m args below meth c H locs cells slots (vx_MQ below (av_Qc cy τ D cl A σ0 n0 (.inr (av_th P k)) h) (av_Xc cy τ D cl A σ0 n0 (.inr (av_th P k)) h) args s (cells + 1) (slots + 6) A) (F0 m pc ls (st.map (av_v σ τ))) := by
  obtain ⟨⟨hx, hb, hml, hown⟩, hts, hin, hK, hA, hOld, hR⟩ := hF
  have hX : ∀ t : State, s.vm.Alike t.vm → H.size ≤ t.heap.size → (∀ q : Nat, q < H.size → t.heap[q]? = H[q]?) → av_Xc cy τ D cl A σ0 n0 (.inr (av_th P k)) h (av_th P k) s t := fun t hvm hz hq =>
    ⟨rfl, σ, r.1, r.2.1, av_B_kept r hK hvm hq, ⟨Nat.le_trans r.2.2.2.2.2.2.2.2.1 hz, fun q h1 h2 => (hq q (Nat.lt_of_lt_of_le h1 r.2.2.2.2.2.2.2.2.1)).trans (r.2.2.2.2.2.2.2.2.2.1 q h1 h2)⟩⟩
  have hout : ∀ j, ∀ x ∈ c.exceptionTable.toList, covers x j = false := fun j x hx => by rw [htab] at hx; cases hx
  have hcat := av_cats σ τ st
  have hlen : av_nms.length = 2 := rfl
  unfold av_tok at hok
  split at hok
  · next oc' ik is ic hI =>
    simp only [Bool.and_eq_true, decide_eq_true_eq] at hok
    obtain ⟨⟨⟨⟨⟨rfl, d0⟩, d3⟩, d4⟩, d6⟩, d9⟩ := hok
    obtain ⟨t1, t2, t3, ⟨si, hsi⟩, t5, t6⟩ := hT _ _ _ _ _ _ hI
    obtain ⟨tx, hZ⟩ := hOld.1 _ hsi
    have hat : ∀ w ∈ vx_atS (av_cn K oc') ic (av_th P k) av_nms, w.before args s = true := fun w hw => (t5 w hw).elim (fun h1 => hts w h1) (fun h1 => va_Nw.use (by have h2 := hXs w h1; cases w <;> first | rfl | cases h2) (hO2.1 w h1))
    exact vx_throwS (names := av_nms) hx hb hl hown t1 (by decide) (hts _ t2) (hts _ t3) hZ hat (fun w hw => by
      rcases List.mem_cons.mp hw with h1 | h1
      · rw [h1]; exact Bool.or_eq_true _ _ |>.mpr (Or.inr (hGd _ t2))
      · rcases List.mem_cons.mp h1 with h2 | h2
        · rw [h2]; exact Bool.or_eq_true _ _ |>.mpr (Or.inr (hGd _ t3))
        · exact t6 w h2) hO2.2.2.1.1 hO2.2.2.1.2 r.2.2.2.2.2.2.2.2 (by rw [hml]; exact r.2.2.1.2.1) d0 d3 d4 d6 d9 (hout _) (by omega) (by omega) hc hs hlocks hX r.2.2.2.2.2.2.2.2.2.2 (Nat.le_refl _) (Nat.le_refl _)
  · next oc' ik is ic hI =>
    simp only [Bool.and_eq_true, decide_eq_true_eq] at hok
    obtain ⟨⟨⟨⟨⟨rfl, d0⟩, d3⟩, d4⟩, d6⟩, d9⟩ := hok
    obtain ⟨t1, t2, t3, ⟨si, hsi⟩, t5, t6⟩ := hT _ _ _ _ _ _ hI
    obtain ⟨tx, hZ⟩ := hOld.1 _ hsi
    have hat : ∀ w ∈ vx_atS (av_cn K oc') ic (av_th P k) av_nms, w.before args s = true := fun w hw => (t5 w hw).elim (fun h1 => hts w h1) (fun h1 => va_Nw.use (by have h2 := hXs w h1; cases w <;> first | rfl | cases h2) (hO2.1 w h1))
    exact vx_throwSW (names := av_nms) hx hb hl hown t1 (by decide) (hts _ t2) (hts _ t3) hZ hat (fun w hw => by
      rcases List.mem_cons.mp hw with h1 | h1
      · rw [h1]; exact Bool.or_eq_true _ _ |>.mpr (Or.inr (hGd _ t2))
      · rcases List.mem_cons.mp h1 with h2 | h2
        · rw [h2]; exact Bool.or_eq_true _ _ |>.mpr (Or.inr (hGd _ t3))
        · exact t6 w h2) hO2.2.2.1.1 hO2.2.2.1.2 r.2.2.2.2.2.2.2.2 (by rw [hml]; exact r.2.2.1.2.1) d0 d3 d4 d6 d9 (hout _) (by omega) (by omega) hc hs hlocks hX r.2.2.2.2.2.2.2.2.2.2 (Nat.le_refl _) (Nat.le_refl _)
  · cases hok
/-- behind a call: it has answered, or thrown -/
theorem sd_ran (hK : va_K D cl (av_tys cy) s) (r : av_Rel cy τ D cl A s.heap σ0 n0 nL σ L st h ls H locs) {rest : List Value} (hrest : ∀ v ∈ rest, av_wv h.length v) {mc ms : Nat} {st0 : List Value} {o : Option Value ⊕ String} {a0 : Array Value}
    (hr : vx_Run p l e R s m args below meth c H locs cells slots mc ms (F0 m pc ls st0) (rest.map (av_v σ τ)) (av_Qc cy τ D cl A σ h.length o h' a0) (av_Xc cy τ D cl A σ h.length o h') A)
    (kret : ∀ v, o = .inl v → av_K1 cy τ D cl A σ0 n0 nL p l e R s m args below meth c Q (pc + 3) L (v.toList ++ rest) h' (cells + mc) (slots + ms))
    (kthr : ∀ E, o = .inr E → ∀ (σ' : Nat → Nat) (H' : Heap) (locs' : List Loc) (q : Addr) (ce : Cell), av_Rel cy τ D cl A s.heap σ0 n0 nL σ' L [] h' ls H' locs' → H'[q]? = some ce → ce.vm = .none → s.vm.findClass E = some ce.cls → vx_W p l e R s m args below meth c H' locs' (cells + mc) (slots + ms) Q (F0 m pc ls (rest.map (av_v σ τ))) q) :
    W p l e R s m args below meth c H locs cells slots Q (F0 m pc ls st0) := by
  intro T hT X
  obtain ⟨r1, r2, r3, r4, r5, r6, r7, r8, r9⟩ := r
  have key : ∀ (σ' : Nat → Nat) (t T' : State) (st₀ : State) (Lc : List Loc) (stk : List Value), st₀.heap = H → T'.heap = t.heap → (∀ q ∈ Lc, A q.base) → (∀ k, k < h.length → σ' k = σ k) → h.length ≤ h'.length → av_B cy τ D cl A σ' h' t → va_F A st₀ t → (∀ v ∈ stk, av_wv h'.length v) →
      av_Rel cy τ D cl A s.heap σ0 n0 nL σ' L stk h' ls T'.heap (locs ++ Lc) := fun σ' t T' st₀ Lc stk h0 e1 hL hσ hn hB hF hstk => by
    obtain ⟨k1, k2, k3⟩ := vx_keep (A0 := A) (A1 := A) (free := A) h0 e1 r9 (fun _ _ z => z) (fun _ z => z) hL hF
    refine ⟨fun k hk => (hσ k (Nat.lt_of_lt_of_le hk r2)).trans (r1 k hk), Nat.le_trans r2 hn, ⟨r3.1, av_lv_ext hσ r4 r3.2⟩, fun i v hv => ⟨(r4 i v hv).1, av_wv_le hn (r4 i v hv).2⟩, hstk, hB.2.2.2, by rw [e1]; exact hB.1, hB.2.2.1, k3⟩
  rcases hr T hT X with ⟨v, st₀, t, T', Lc, h0, X', hL, e1, e2, hq, go⟩ | ⟨q, st₀, t, T', Lc, E, ce, h0, X', hL, e1, e2, hq, hce, hcv, hcl, go⟩
  · rcases o with v0 | E
    · obtain ⟨σ', hσ, hn, hv, hwv, hB, hF⟩ := hq
      cases hv
      have hrel := key σ' t T' st₀ Lc (v0.toList ++ rest) h0 e1 hL hσ hn hB hF (fun w hw => by
        rcases List.mem_append.mp hw with h1 | h1
        · exact hwv w (by simpa using h1)
        · exact av_wv_le hn (hrest w h1))
      obtain ⟨t2, a1, b1⟩ := kret v0 rfl σ' ls T'.heap (locs ++ Lc) hrel T' rfl X'
      refine ⟨t2, go t2 ?_, b1⟩
      have e3 : (v0.toList ++ rest).map (av_v σ' τ) = (v0.map (av_v σ' τ)).toList ++ rest.map (av_v σ τ) := by
        rw [List.map_append, List.map_congr_left (fun w hw => av_v_ext hσ (hrest w hw))]
        cases v0 <;> rfl
      rw [e3] at a1
      exact a1
    · exact hq.elim
  · rcases o with v0 | E0
    · exact hq.elim
    · obtain ⟨rfl, σ', hσ, hn, hB, hF⟩ := hq
      have hrel := key σ' t T' st₀ Lc [] h0 e1 hL hσ hn hB hF (fun w hw => by cases hw)
      obtain ⟨t2, a1, b1⟩ := kthr E rfl σ' T'.heap (locs ++ Lc) q ce hrel (by rw [e1]; exact hce) hcv hcl T' rfl X'
      exact ⟨t2, go.trans a1, b1⟩
end SJ
end
section
/-! ===== CALLS BY CONTRACT; THE WHOLE RUN ===== -/
def av_cw (M : av_M) : Cond := match M.2.2.2.2.2.1 with
  | [] => .code M.1 M.2.1 M.2.2.1 M.2.2.2.1
  | hh => .codeWith M.1 M.2.1 M.2.2.1 M.2.2.2.1 hh
def av_rm (d c s : Nat) : Room := { frames := d + 20, cells := c, slots := s, locals := 100 * d + 400 }
/-- what the tables say of the methods: nm of them, their classes' numbers (as the code's), their kinds (0 static, 1 of an object, 2 a constructor) -/
def av_EnvM (P : av_P) (K : av_K) (Ts Xs : List Cond) (cl : List vw_C) (nm : Nat) (mo mk : Nat → Nat) : Prop :=
  (∀ w ∈ Ts, goodWord w = true) ∧ (∀ w ∈ Xs, av_xw w = true) ∧
  (∀ mj, mj < nm → av_cw (av_me P mj) ∈ Ts ∧ plainName (av_me P mj).1.cls = true ∧ ((av_me P mj).1.cls ≠ "java/lang/invoke/MethodHandle" ∧ (av_me P mj).1.cls ≠ "java/lang/invoke/VarHandle") ∧ Cond.initialized (av_me P mj).1.cls ∈ Ts ∧ (av_me P mj).2.2.1 ≤ 80 ∧ (av_me P mj).2.2.2.2.1 ≤ (av_me P mj).2.2.1 ∧ av_cn K (mo mj) = (av_me P mj).1.cls) ∧
  (∀ mj, mj < nm → (mk mj = 0 → Cond.static (av_me P mj).1 ∈ Ts ∧ (parseMethodDescriptor (av_me P mj).1.desc).map (fun d => d.parameters.length) = some (av_me P mj).2.2.2.2.1) ∧
    (mk mj = 1 → Cond.instanceMethod (av_me P mj).1 ∈ Ts ∧ Cond.selects (av_me P mj).1.cls (av_me P mj).1 (av_me P mj).1 ∈ Ts ∧ (∃ n, (parseMethodDescriptor (av_me P mj).1.desc).map (fun d => d.parameters.length) = some n ∧ (av_me P mj).2.2.2.2.1 = n + 1) ∧ (av_me P mj).2.2.2.2.2.1 = [] ∧ cl[(av_me P mj).2.2.2.2.2.2.2.1]?.map (fun r => r.1) = some (av_me P mj).1.cls) ∧
    (mk mj = 2 → Cond.instanceMethod (av_me P mj).1 ∈ Ts ∧ (av_me P mj).1.name = "<init>" ∧ (∃ n, (parseMethodDescriptor (av_me P mj).1.desc).map (fun d => d.parameters.length) = some n ∧ (av_me P mj).2.2.2.2.1 = n + 1) ∧ (av_me P mj).2.2.2.2.2.1 = [] ∧ (av_me P mj).2.2.2.1 = none ∧ (av_me P mj).2.2.2.2.2.2.2.2 = false)) ∧
  (∀ q ∈ av_ml K, Cond.methodLink (av_cn K q.1) q.2.1 (av_me P q.2.2).1 ∈ Ts) ∧ ∀ q ∈ av_nl K, Cond.methodLinkNest (av_cn K q.1) q.2.1 (av_me P q.2.2).1 "SinglesPast" ∈ Xs ∧ (av_me P q.2.2).2.2.2.2.2.1 = [] ∧ (av_me P q.2.2).2.2.2.2.2.2.2.2 = false
/-- the op at pc says what the bytes say, calls and throws too -/
def av_chk (P : av_P) (K : av_K) (cl : List vw_C) (I : av_I) (nm : Nat) (mk : Nat → Nat) (oc mi : Nat) (ini : Bool) (cc : ByteArray) (pc : Nat) (ins : Instr) (len ix : Nat) : Bool := match ins with
  | .instanceof k => av_tok I oc cc pc k && decide ((av_me P mi).2.2.2.2.2.1 = [])
  | .invokestatic mj => decide (mj < nm) && decide (mk mj = 0) && decide (len = 3) && decide (decode cc pc = .ok (.invokestatic ix, 3)) && (decide ((oc, ix, mj) ∈ av_ml K) || decide ((oc, ix, mj) ∈ av_nl K))
  | .invokevirtual mj => decide (mj < nm) && decide (mk mj = 1) && decide (len = 3) && decide (decode cc pc = .ok (.invokevirtual ix, 3)) && decide ((oc, ix, mj) ∈ av_ml K)
  | .invokespecial mj => decide (mj < nm) && decide (mk mj = 2) && decide (len = 3) && decide (decode cc pc = .ok (.invokespecial ix, 3)) && (decide ((oc, ix, mj) ∈ av_ml K) || decide ((oc, ix, mj) ∈ av_nl K))
  | ins => av_ok K cl oc ini cc pc ins len ix
theorem met_of {l : Launch} {y : MethodName} {ws : List Cond} {rm : Room} {Pc : Array Value → State → Prop} {Qc : Array Value → State → Outcome → State → Prop} {XC : String → State → State → Prop} {mc ms : Nat} {free : Addr → Prop} (h : vx_Met l y ws rm Pc Qc XC mc ms free) (hX : ∀ E st t, ¬ XC E st t) : Met l y ws rm Pc Qc mc ms free := by
  intro p e ha hc hk s m args below hf happ hP hK
  obtain ⟨n, o, h1, h2, h3, hQ⟩ := h p e ha hc hk s m args below hf happ hP hK
  refine ⟨n, o, h1, h2, h3, ?_⟩
  rcases hQ with hQ | ⟨q, -, E, ce, L, hx, -⟩
  · exact hQ
  · exact absurd hx (hX _ _ _)
section SK
variable {P : av_P} {K : av_K} {Ts Xs : List Cond} {Nc : List (String × String)} {nt nm : Nat} {mo mk : Nat → Nat} {I : av_I} {cl : List vw_C} {cy τ : Nat → Nat} {D : va_G} {A : Nat → Prop} {σ0 σ : Nat → Nat} {n0 nL oc mi pc : Nat} {ini : Bool} {cc : ByteArray}
variable {p : Program} {l : Launch} {e : Env} {R : Room} {s : State} {m : MethodId} {args : Array Value} {below : List Frame} {meth : Method} {c : Code} {H : Heap} {locs : List Loc} {cells slots : Nat} {Q : State → Prop} {ls : Array Slot}
variable {L L' : av_L} {st st' : List Value} {h h' : av_H} {pc' cells' slots' : Nat}
theorem av_pre (hF : av_Fix P K Ts cl cy τ D A nL oc ini cc p R s m args meth c) (hXs : ∀ w ∈ Xs, av_xw w = true) (hO2 : av_Ol2 P Xs Nc nt τ A s) (r : av_Rel cy τ D cl A s.heap σ0 n0 nL σ L st h ls H locs) {as : List Value} :
    ∀ U : State, U.heap = H → s.WarmedH U.vm → av_Pc P K Xs Nc nt cy τ D cl A σ h as (as.map (av_v σ τ)).toArray U := fun U hU hW => by
  obtain ⟨⟨hx, hb, hml, hown⟩, hts, hin, hK, hA, hOld, hR⟩ := hF
  obtain ⟨r1, r2, r3, r4, r5, r6, r7, r8, r9⟩ := r
  exact ⟨rfl, ⟨by rw [hU]; exact r7, va_K.moved hW.alike hK, r8, r6⟩, av_Old_go hOld hW (by rw [hU]; exact r9.1) (fun q h1 h2 => by rw [hU]; exact r9.2.1 q h1 h2), av_Ol2_go hXs hO2 hW (fun q h1 h2 => by rw [hU]; exact r9.2.1 q h1 h2), fun q hq => hA q (Nat.le_trans r9.1 (by rw [← hU]; exact hq))⟩
/-- a call, by the callee's contract -/
theorem sd_go (hM0 : av_EnvM P K Ts Xs cl nm mo mk) (hF : av_Fix P K Ts cl cy τ D A nL oc ini cc p R s m args meth c) (hO2 : av_Ol2 P Xs Nc nt τ A s) (r : av_Rel cy τ D cl A s.heap σ0 n0 nL σ L st h ls H locs) {ins : Instr} {mj len ix : Nat}
    (hi : ins = .invokestatic mj ∨ ins = .invokevirtual mj ∨ ins = .invokespecial mj) (hok : av_chk P K cl I nm mk oc mi ini cc pc ins len ix = true) {as rest : List Value} {mj' : Nat} (hs : av_one P mi pc ins len L st h cells slots = some (.inr (.inr (.inl (mj', as, rest)))))
    {d' c1 s1 : Nat} (hR : (av_rm d' c1 s1).frames + 1 ≤ R.frames ∧ (av_rm d' c1 s1).locals + 100 ≤ R.locals) {o : Option Value ⊕ String} {h1 : av_H} (hmt : ∀ E, o = .inr E → (av_me P mj).2.2.2.2.2.2.2.2 = true) (hf : cells + c1 ≤ R.cells ∧ slots + s1 ≤ R.slots)
    (hM : vx_Met l (av_me P mj).1 (av_cw (av_me P mj) :: Ts) (av_rm d' c1 s1) (av_Pc P K Xs Nc nt cy τ D cl A σ h as) (av_Qc cy τ D cl A σ h.length o h1) (av_Xc cy τ D cl A σ h.length o h1) c1 s1 A) :
    mj' = mj ∧ (∀ v ∈ rest, av_wv h.length v) ∧ vx_Run p l e R s m args below meth c H locs cells slots c1 s1 (F0 m pc ls (st.map (av_v σ τ))) (rest.map (av_v σ τ)) (av_Qc cy τ D cl A σ h.length o h1 (as.map (av_v σ τ)).toArray) (av_Xc cy τ D cl A σ h.length o h1) A := by
  have hpre := av_pre (as := as) hF hM0.2.1 hO2 r
  obtain ⟨⟨hx, hb, hml, hown⟩, hts, hin, hK, hA, hOld, hR0⟩ := hF
  have hbl : FrameBlind (av_Pc P K Xs Nc nt cy τ D cl A σ h as) := av_Pc_blind hM0.2.1
  have hsize : ls.size = nL := r.2.2.1.2.1
  -- what all three kinds share
  have key : mj < nm → (mj' = mj ∧ (av_me P mj).2.2.2.2.1 ≤ st.length ∧ ((st.drop (av_me P mj).2.2.2.2.1).map fun v => v.category).sum ≤ 8 ∧ (st.take (av_me P mj).2.2.2.2.1).reverse = as ∧ st.drop (av_me P mj).2.2.2.2.1 = rest) →
      (as.map (av_v σ τ)).length = (av_me P mj).2.2.2.2.1 ∧ st.map (av_v σ τ) = (as.map (av_v σ τ)).reverse ++ rest.map (av_v σ τ) ∧ 2 * (F0 m pc ls (st.map (av_v σ τ))).monitorRoom + ((rest.map (av_v σ τ)).map fun v => v.category).sum ≤ 8 ∧ (∀ v ∈ rest, av_wv h.length v) ∧
      GoodIn Ts (av_cw (av_me P mj) :: Ts) ∧ (av_rm d' c1 s1).frames + 1 ≤ R.frames ∧ 8 + ((av_me P mj).2.2.1 + 11) + (av_rm d' c1 s1).locals ≤ R.locals := fun hlt hz => by
    obtain ⟨-, z1, z2, rfl, rfl⟩ := hz
    obtain ⟨m1, -, -, -, m5, -, -⟩ := hM0.2.2.1 mj hlt
    refine ⟨by simp [z1], ?_, lv_room (by rw [av_cats]; exact z2), fun v hv => r.2.2.2.2.1 v (List.mem_of_mem_drop hv), fun w hw => ?_, hR.1, by omega⟩
    · rw [List.map_reverse, List.reverse_reverse, ← List.map_append, List.take_append_drop]
    · rcases List.mem_cons.mp hw with e1 | e1
      · rw [e1]; exact ⟨m1, good_of_word (hM0.1 _ m1)⟩
      · exact ⟨e1, good_of_word (hM0.1 _ e1)⟩
  have hsig : ∀ n, (parseMethodDescriptor (av_me P mj).1.desc).map (fun d => d.parameters.length) = some n → ∀ sig, parseMethodDescriptor (av_me P mj).1.desc = some sig → n = sig.parameters.length := fun n hn sig hs => by
    rw [hs] at hn
    exact (Option.some.inj hn).symm
  have hinl : (av_me P mj).2.2.2.2.2.2.2.2 = false → ∀ E st t, ¬ av_Xc cy τ D cl A σ h.length o h1 E st t := fun hf0 E st t hz => by
    rcases o with v | E0
    · exact hz
    · have := hmt E0 rfl
      rw [hf0] at this
      cases this
  rcases hi with rfl | rfl | rfl
  · -- static
    simp only [av_one] at hs
    split at hs
    · next hz =>
      cases hs
      simp only [av_chk, Bool.and_eq_true, Bool.or_eq_true, decide_eq_true_eq] at hok
      obtain ⟨⟨⟨⟨hlt, hk0⟩, rfl⟩, hd⟩, hlk⟩ := hok
      obtain ⟨a1, a2, a3, a4, a5, a6, a7⟩ := key hlt ⟨rfl, hz.1, hz.2.1, rfl, rfl⟩
      obtain ⟨m1, m2, m3, m4, m5, m6, m7⟩ := hM0.2.2.1 mj hlt
      obtain ⟨k1, k2⟩ := (hM0.2.2.2.1 mj hlt).1 hk0
      refine ⟨rfl, a4, ?_⟩
      by_cases hh : (av_me P mj).2.2.2.2.2.1 = []
      · have hcw : av_cw (av_me P mj) = .code (av_me P mj).1 (av_me P mj).2.1 (av_me P mj).2.2.1 (av_me P mj).2.2.2.1 := by simp only [av_cw, hh]
        rw [hcw] at hM a5 m1
        rcases hlk with hlk | hlk
        · exact vx_runS (n := (av_me P mj).2.2.2.2.1) (bytes := (av_me P mj).2.1) (maxL := (av_me P mj).2.2.1) (ret := (av_me P mj).2.2.2.1) ⟨hx, hb, hml, hown, hts⟩ hM ⟨⟨rfl, rfl, a6, a7, pay_in hts a5, List.mem_cons_self, hts _ m1, hts _ m4, m3, hsig _ k2, hts _ (hM0.2.2.2.2.1 _ hlk)⟩, hts _ k1⟩ ⟨hbl, hpre⟩ rfl a1 hsize a2 a3 hd hf
        · obtain ⟨w1, w2, w3⟩ := hM0.2.2.2.2.2 _ hlk
          intro T hT X
          exact Or.inl (va_runSN (n := (av_me P mj).2.2.2.2.1) (bytes := (av_me P mj).2.1) (maxL := (av_me P mj).2.2.1) (ret := (av_me P mj).2.2.2.1) (host := "SinglesPast") ⟨hx, hb, hml, hown, hts⟩ (met_of hM (hinl w3)) ⟨⟨⟨rfl, rfl, a6, a7, pay_in hts a5, List.mem_cons_self⟩, hts _ m1, hts _ m4, m3, hsig _ k2, va_Nw.use rfl (hO2.1 _ w1)⟩, hts _ k1, trivial⟩ ⟨hbl, hpre⟩ rfl a1 hsize a2 a3 hd hf T hT X)
      · obtain ⟨q0, qs, hq⟩ : ∃ q0 qs, (av_me P mj).2.2.2.2.2.1 = q0 :: qs := by
          cases hq : (av_me P mj).2.2.2.2.2.1 with
          | nil => exact absurd hq hh
          | cons q0 qs => exact ⟨q0, qs, rfl⟩
        have hcw : av_cw (av_me P mj) = .codeWith (av_me P mj).1 (av_me P mj).2.1 (av_me P mj).2.2.1 (av_me P mj).2.2.2.1 (q0 :: qs) := by simp only [av_cw, hq]
        rw [hcw] at hM a5 m1
        rcases hlk with hlk | hlk
        · exact vx_runSX (n := (av_me P mj).2.2.2.2.1) (bytes := (av_me P mj).2.1) (maxL := (av_me P mj).2.2.1) (ret := (av_me P mj).2.2.2.1) (hh := q0 :: qs) ⟨hx, hb, hml, hown, hts⟩ hM ⟨⟨rfl, rfl, a6, a7, pay_in hts a5, List.mem_cons_self⟩, hts _ m1, hts _ m4, m3, hsig _ k2, hts _ (hM0.2.2.2.2.1 _ hlk), hts _ k1⟩ ⟨hbl, hpre⟩ rfl a1 hsize a2 a3 hd hf
        · exact absurd (hM0.2.2.2.2.2 _ hlk).2.1 hh
    · cases hs
  · -- of an object
    simp only [av_one] at hs
    split at hs
    · next hz =>
      cases hs
      simp only [av_chk, Bool.and_eq_true, decide_eq_true_eq] at hok
      obtain ⟨⟨⟨⟨hlt, hk0⟩, rfl⟩, hd⟩, hlk⟩ := hok
      obtain ⟨a1, a2, a3, a4, a5, a6, a7⟩ := key hlt ⟨rfl, hz.1, hz.2.1, rfl, rfl⟩
      obtain ⟨m1, m2, m3, m4, m5, m6, m7⟩ := hM0.2.2.1 mj hlt
      obtain ⟨k1, k2, ⟨n, kn, kn1⟩, kh, kc⟩ := (hM0.2.2.2.1 mj hlt).2.1 hk0
      refine ⟨rfl, a4, ?_⟩
      have hcw : av_cw (av_me P mj) = .code (av_me P mj).1 (av_me P mj).2.1 (av_me P mj).2.2.1 (av_me P mj).2.2.2.1 := by simp only [av_cw, kh]
      rw [hcw] at hM a5 m1
      have hrv := hz.2.2.2
      unfold av_rcv at hrv
      split at hrv
      · next b tl hb0 =>
        split at hrv
        · next k fs hk =>
          simp only [decide_eq_true_eq] at hrv
          subst hrv
          rw [hb0] at hpre a1 a2 hM
          obtain ⟨rc, hrc, hrn⟩ : ∃ rc, cl[(av_me P mj).2.2.2.2.2.2.2.1]? = some rc ∧ rc.1 = (av_me P mj).1.cls := by
            cases h9 : cl[(av_me P mj).2.2.2.2.2.2.2.1]? with
            | none => rw [h9] at kc; cases kc
            | some rc => rw [h9] at kc; exact ⟨rc, rfl, Option.some.inj kc⟩
          have hrecv := va_recv hK r.2.2.2.2.2.2.1 hrc (av_ws_get (cy := cy) (σ := σ) (τ := τ) hk)
          rw [hrn] at hrecv
          rw [hb0]
          have hbl' : FrameBlind (av_Pc P K Xs Nc nt cy τ D cl A σ h (Value.ref b :: tl)) := av_Pc_blind hM0.2.1
          exact vx_runV (n := n) (C := (av_me P mj).1.cls) (b := σ b) (As := tl.map (av_v σ τ)) (bytes := (av_me P mj).2.1) (maxL := (av_me P mj).2.2.1) (ret := (av_me P mj).2.2.2.1) ⟨hx, hb, hml, hown, hts⟩ hM ⟨⟨rfl, rfl, a6, a7, pay_in hts a5, List.mem_cons_self, hts _ m1, hts _ m4, m3, hsig _ kn, hts _ (hM0.2.2.2.2.1 _ hlk)⟩, hts _ k1, hts _ k2⟩ ⟨hbl', hrecv, hpre⟩ rfl (by simp only [List.map_cons, List.length_cons] at a1; omega) hsize (by rw [a2]; simp [av_v]) a3 hd hf
        · cases hrv
      · cases hrv
    · cases hs
  · -- a constructor
    simp only [av_one] at hs
    split at hs
    · next hz =>
      cases hs
      simp only [av_chk, Bool.and_eq_true, Bool.or_eq_true, decide_eq_true_eq] at hok
      obtain ⟨⟨⟨⟨hlt, hk0⟩, rfl⟩, hd⟩, hlk⟩ := hok
      obtain ⟨a1, a2, a3, a4, a5, a6, a7⟩ := key hlt ⟨rfl, hz.1, hz.2.1, rfl, rfl⟩
      obtain ⟨m1, m2, m3, m4, m5, m6, m7⟩ := hM0.2.2.1 mj hlt
      obtain ⟨k1, k2, ⟨n, kn, kn1⟩, kh, kr, kt⟩ := (hM0.2.2.2.1 mj hlt).2.2 hk0
      refine ⟨rfl, a4, ?_⟩
      have hcw : av_cw (av_me P mj) = .code (av_me P mj).1 (av_me P mj).2.1 (av_me P mj).2.2.1 none := by simp only [av_cw, kh, kr]
      rw [hcw] at hM a5 m1
      have hrv := hz.2.2.2
      unfold av_isr at hrv
      split at hrv
      · next b tl hb0 =>
        rw [hb0] at hpre a1 a2 hM
        rw [hb0]
        have hbl' : FrameBlind (av_Pc P K Xs Nc nt cy τ D cl A σ h (Value.ref b :: tl)) := av_Pc_blind hM0.2.1
        have hlen : (tl.map (av_v σ τ)).length = n := by simp only [List.map_cons, List.length_cons] at a1; omega
        have hstk : (F0 m pc ls (st.map (av_v σ τ))).stack = (tl.map (av_v σ τ)).reverse ++ .ref (σ b) :: (st.drop (av_me P mj).2.2.2.2.1).map (av_v σ τ) := by rw [show (F0 m pc ls (st.map (av_v σ τ))).stack = st.map (av_v σ τ) from rfl, a2]; simp [av_v]
        intro T hT X
        rcases hlk with hlk | hlk
        · exact Or.inl (va_runI (n := n) (b := σ b) (As := tl.map (av_v σ τ)) (bytes := (av_me P mj).2.1) (maxL := (av_me P mj).2.2.1) ⟨hx, hb, hml, hown, hts⟩ (met_of hM (hinl kt)) ⟨⟨rfl, rfl, a6, a7, pay_in hts a5, List.mem_cons_self, hts _ m1, hts _ m4, m3, hsig _ kn, hts _ (hM0.2.2.2.2.1 _ hlk)⟩, k2, hts _ k1⟩ ⟨hbl', hpre⟩ rfl hlen hsize hstk a3 hd hf T hT X)
        · exact Or.inl (va_runIN (n := n) (b := σ b) (As := tl.map (av_v σ τ)) (bytes := (av_me P mj).2.1) (maxL := (av_me P mj).2.2.1) (host := "SinglesPast") ⟨hx, hb, hml, hown, hts⟩ (met_of hM (hinl kt)) ⟨⟨⟨rfl, rfl, a6, a7, pay_in hts a5, List.mem_cons_self⟩, hts _ m1, hts _ m4, m3, hsig _ kn, va_Nw.use rfl (hO2.1 _ (hM0.2.2.2.2.2 _ hlk).1)⟩, k2, hts _ k1⟩ ⟨hbl', hpre⟩ rfl hlen hsize hstk a3 hd hf T hT X)
      · cases hrv
    · cases hs
end SK
end
section
/-! ===== THE RUN OF THE ABSTRACT MACHINE IS ONE OF THE REAL ONE ===== -/
set_option maxHeartbeats 4000000 in
theorem av_one_cls {P : av_P} {mi pc len : Nat} {ins : Instr} {L : av_L} {st : List Value} {h : av_H} {c s : Nat} {x : av_S} (hs : av_one P mi pc ins len L st h c s = some x) :
    (∃ pc' L' st' h' c' s', x = .inl (pc', L', st', h', c', s') ∧ c ≤ c' ∧ s ≤ s') ∨ (∃ v, x = .inr (.inl v) ∧ (ins = .ireturn ∨ ins = .areturn ∨ ins = .return_)) ∨
    (∃ mj as r, x = .inr (.inr (.inl (mj, as, r))) ∧ (ins = .invokestatic mj ∨ ins = .invokevirtual mj ∨ ins = .invokespecial mj) ∧ as.length = (av_me P mj).2.2.2.2.1 ∧ ∀ v ∈ as, v.category = 1 ∧ v ∈ st) ∨ ∃ k, x = .inr (.inr (.inr (av_th P k))) ∧ ins = .instanceof k ∧ (st.map fun v => v.category).sum ≤ 8 := by
  have key : ∀ a : Nat, a ≤ st.length → (((st.take a).all fun v => v.category == 1) = true) → (st.take a).reverse.length = a ∧ ∀ v ∈ (st.take a).reverse, v.category = 1 ∧ v ∈ st := fun a h1 h2 => ⟨by simp [h1], fun v hv => by
    have h3 := List.mem_reverse.mp hv
    have h4 := List.all_eq_true.mp h2 v h3
    exact ⟨by simpa using h4, List.mem_of_mem_take h3⟩⟩
  cases ins with
  | invokestatic mj =>
    simp only [av_one] at hs
    split at hs
    · next hz => cases hs; exact Or.inr (Or.inr (Or.inl ⟨_, _, _, rfl, Or.inl rfl, key _ hz.1 hz.2.2⟩))
    · cases hs
  | invokevirtual mj =>
    simp only [av_one] at hs
    split at hs
    · next hz => cases hs; exact Or.inr (Or.inr (Or.inl ⟨_, _, _, rfl, Or.inr (Or.inl rfl), key _ hz.1 hz.2.2.1⟩))
    · cases hs
  | invokespecial mj =>
    simp only [av_one] at hs
    split at hs
    · next hz => cases hs; exact Or.inr (Or.inr (Or.inl ⟨_, _, _, rfl, Or.inr (Or.inr rfl), key _ hz.1 hz.2.2.1⟩))
    · cases hs
  | instanceof k =>
    simp only [av_one] at hs
    split at hs
    · next hz => cases hs; exact Or.inr (Or.inr (Or.inr ⟨_, rfl, rfl, hz⟩))
    · cases hs
  | ireturn =>
    simp only [av_one] at hs
    (repeat' split at hs) <;> first | (cases hs; exact Or.inr (Or.inl ⟨_, rfl, Or.inl rfl⟩)) | cases hs
  | areturn =>
    simp only [av_one] at hs
    (repeat' split at hs) <;> first | (cases hs; exact Or.inr (Or.inl ⟨_, rfl, Or.inr (Or.inl rfl)⟩)) | cases hs
  | return_ =>
    simp only [av_one] at hs
    (repeat' split at hs) <;> first | (cases hs; exact Or.inr (Or.inl ⟨_, rfl, Or.inr (Or.inr rfl)⟩)) | cases hs
  | invokedynamic k =>
    match k, hs with
    | 0, hs => simp only [av_one, av_copy] at hs; (repeat' split at hs) <;> first | (cases hs; exact Or.inl ⟨_, _, _, _, _, _, rfl, Nat.le_refl _, Nat.le_refl _⟩) | cases hs
    | 1, hs => simp only [av_one] at hs; (repeat' split at hs) <;> first | (cases hs; exact Or.inl ⟨_, _, _, _, _, _, rfl, Nat.le_refl _, Nat.le_refl _⟩) | cases hs
    | 2, hs => simp only [av_one] at hs; (repeat' split at hs) <;> first | (cases hs; exact Or.inl ⟨_, _, _, _, _, _, rfl, Nat.le_refl _, Nat.le_refl _⟩) | cases hs
    | 3, hs => simp only [av_one] at hs; (repeat' split at hs) <;> first | (cases hs; exact Or.inl ⟨_, _, _, _, _, _, rfl, Nat.le_succ _, Nat.le_add_right _ _⟩) | cases hs
    | k + 4, hs => simp only [av_one] at hs; cases hs
  | _ =>
    simp only [av_one, av_bin, av_iaload, av_alen, av_copy, av_goto] at hs
    (repeat' split at hs) <;> first | (cases hs; exact Or.inl ⟨_, _, _, _, _, _, rfl, Nat.le_refl _, Nat.le_refl _⟩) | (cases hs; exact Or.inl ⟨_, _, _, _, _, _, rfl, Nat.le_succ _, Nat.le_add_right _ _⟩) | cases hs
theorem av_rn_mono {P : av_P} : ∀ (n d mi pc : Nat) (L : av_L) (st : List Value) (h : av_H) (c s : Nat) (x : av_R), av_rn P n d mi pc L st h c s = some x → c ≤ x.2.2.1 ∧ s ≤ x.2.2.2
  | 0, _, _, _, _, _, _, _, _, _, hr => by simp [av_rn] at hr
  | n + 1, d, mi, pc, L, st, h, c, s, x, hr => by
    simp only [av_rn] at hr
    split at hr
    · cases hr
    · next pc' L' st' h' c' s' hs =>
      have ih := av_rn_mono n d mi pc' L' st' h' c' s' x hr
      unfold av_stp at hs
      split at hs
      · rcases av_one_cls hs with ⟨_, _, _, _, _, _, e, h1, h2⟩ | ⟨_, e, _⟩ | ⟨_, _, _, e, _⟩ | ⟨_, e, _⟩
        · cases e; exact ⟨Nat.le_trans h1 ih.1, Nat.le_trans h2 ih.2⟩
        · cases e
        · cases e
        · cases e
      · cases hs
    · cases hr; exact ⟨Nat.le_refl _, Nat.le_refl _⟩
    · cases hr; exact ⟨Nat.le_succ _, Nat.le_add_right _ _⟩
    · split at hr
      · cases hr
      · split at hr
        · cases hr
        · next v h' c' s' hc =>
          have ih := av_rn_mono n _ mi _ _ _ _ _ _ x hr
          exact ⟨Nat.le_trans (Nat.le_add_right _ _) ih.1, Nat.le_trans (Nat.le_add_right _ _) ih.2⟩
        · next E h' c' s' hc =>
          split at hr
          · cases hr
          · split at hr
            · cases hr; exact ⟨Nat.le_add_right _ _, Nat.le_add_right _ _⟩
            · split at hr
              · cases hr
              · split at hr
                · cases hr
                · split at hr
                  · split at hr
                    · have ih := av_rn_mono n _ mi _ _ _ _ _ _ x hr
                      exact ⟨Nat.le_trans (Nat.le_add_right _ _) ih.1, Nat.le_trans (Nat.le_add_right _ _) ih.2⟩
                    · cases hr
                  · cases hr
end
section
/-- what the tables say of handlers -/
def av_EnvH (P : av_P) (K : av_K) (Ts Xs : List Cond) (Nc : List (String × String)) (nm : Nat) (mo : Nat → Nat) : Prop :=
  (∀ mi, mi < nm → (av_me P mi).2.2.2.2.2.1.length = (av_me P mi).2.2.2.2.2.2.1.length ∧ ∀ (i : Nat) (q : Nat × Nat × Nat × Nat) (nm : String), (av_me P mi).2.2.2.2.2.1[i]? = some q → (av_me P mi).2.2.2.2.2.2.1[i]? = some nm → q.2.2.2 ≠ 0 ∧ Cond.classLink (av_cn K (mo mi)) q.2.2.2 nm ∈ Ts ∧ nm ∈ av_es) ∧
  ∀ E ∈ av_es, Cond.castable E E ∈ Xs ∧ ∀ nm ∈ av_es, E ≠ nm → (E, nm) ∈ Nc
theorem av_hnd_spec {pc : Nat} {E : String} {t : Nat} : ∀ (hh : List (Nat × Nat × Nat × Nat)) (nms : List String), av_hnd pc E hh nms = some t → ∃ (i : Nat) (x : Nat × Nat × Nat × Nat), hh[i]? = some x ∧ nms[i]? = some E ∧ x.1 ≤ pc ∧ pc < x.2.1 ∧ x.2.2.1 = t ∧ ∀ j, j < i → ∃ y nm, hh[j]? = some y ∧ nms[j]? = some nm ∧ ¬ (y.1 ≤ pc ∧ pc < y.2.1 ∧ nm = E)
  | [], _, h => by simp [av_hnd] at h
  | _ :: _, [], h => by simp [av_hnd] at h
  | (a, b, u, ct) :: hh, nm :: nms, h => by
    simp only [av_hnd] at h
    split at h
    · next hz =>
      cases h
      exact ⟨0, (a, b, t, ct), rfl, by rw [← hz.2.2]; rfl, hz.1, hz.2.1, rfl, fun j hj => absurd hj (Nat.not_lt_zero _)⟩
    · next hz =>
      obtain ⟨i, x, h1, h2, h3, h4, h5, h6⟩ := av_hnd_spec hh nms h
      refine ⟨i + 1, x, h1, h2, h3, h4, h5, fun j hj => ?_⟩
      cases j with
      | zero => exact ⟨(a, b, u, ct), nm, rfl, rfl, hz⟩
      | succ j => exact h6 j (Nat.lt_of_succ_lt_succ hj)
section SL
variable {P : av_P} {K : av_K} {Ts Xs : List Cond} {Nc : List (String × String)} {nt nm : Nat} {mo mk : Nat → Nat} {I : av_I} {cl : List vw_C} {cy τ : Nat → Nat} {D : va_G} {A : Nat → Prop} {l : Launch}
variable {p : Program} {e : Env} {R : Room} {s : State} {m : MethodId} {args : Array Value} {below : List Frame} {meth : Method} {c : Code} {H : Heap} {locs : List Loc} {cells slots : Nat} {Q : State → Prop} {ls : Array Slot} {σ0 σ : Nat → Nat} {n0 nL oc mi pc : Nat} {ini : Bool} {cc : ByteArray} {L : av_L} {st : List Value} {h : av_H}
theorem av_Rel.drop (r : av_Rel cy τ D cl A s.heap σ0 n0 nL σ L st h ls H locs) {i q : Nat} {ls' : Array Slot} (hl : lv_has ls' nL ((i, Value.ref q) :: (av_lv σ τ L).filter (fun q => !(q.1 == i) && !(q.1 + 1 == i && q.2.category == 2)))) : av_Rel cy τ D cl A s.heap σ0 n0 nL σ (L.set i none) st h ls' H locs := by
  refine ⟨r.1, r.2.1, ⟨by rw [List.length_set]; exact r.2.2.1.1, hl.1, hl.2.1, fun q hq => ?_⟩, fun j w hw => ?_, r.2.2.2.2⟩
  · obtain ⟨w, hw, e⟩ := av_lv_mem.mp hq
    refine hl.2.2 q ?_
    rw [List.getElem?_set] at hw
    by_cases hj : i = q.1
    · rw [if_pos hj] at hw
      split at hw <;> cases hw
    · rw [if_neg hj] at hw
      refine List.mem_cons.mpr (Or.inr (List.mem_filter.mpr ⟨av_lv_mem.mpr ⟨w, hw, e⟩, ?_⟩))
      have h1 : q.2.category = 1 := by rw [e, av_v_cat]; exact (r.2.2.2.1 _ w hw).1
      simp [h1]
      exact fun z => hj z.symm
  · rw [List.getElem?_set] at hw
    split at hw
    · split at hw <;> cases hw
    · exact r.2.2.2.1 j w hw
/-- a thrown E is caught by this method -/
theorem sd_catch (hM0 : av_EnvM P K Ts Xs cl nm mo mk) (hH : av_EnvH P K Ts Xs Nc nm mo) (hF : av_Fix P K Ts cl cy τ D A nL (mo mi) ini cc p R s m args meth c) (hO2 : av_Ol2 P Xs Nc nt τ A s) (hmi : mi < nm) (htab : c.exceptionTable.toList = tableOf (av_me P mi).2.2.2.2.2.1)
    {E : String} (hE : E ∈ av_es) {t : Nat} (ht : av_hnd pc E (av_me P mi).2.2.2.2.2.1 (av_me P mi).2.2.2.2.2.2.1 = some t) {q : Addr} {ce : Cell} (hce : H[q]? = some ce) (hcv : ce.vm = .none) (hcl : s.vm.findClass E = some ce.cls) {rest : List Value}
    (kk : W p l e R s m args below meth c H locs cells slots Q (F0 m t ls [.ref q])) : vx_W p l e R s m args below meth c H locs cells slots Q (F0 m pc ls rest) q := by
  obtain ⟨⟨hx, hb, hml, hown⟩, hts, hin, hK, hA, hOld, hR0⟩ := hF
  obtain ⟨i, x, h1, h2, h3, h4, h5, h6⟩ := av_hnd_spec _ _ ht
  obtain ⟨hlen, hh⟩ := hH.1 mi hmi
  obtain ⟨c0, c1, -⟩ := hh i x E h1 h2
  obtain ⟨e1, e2⟩ := hH.2 E hE
  have hil : i < (av_me P mi).2.2.2.2.2.1.length := (List.getElem?_eq_some_iff.mp h1).1
  have hg : (av_me P mi).2.2.2.2.2.1 = (av_me P mi).2.2.2.2.2.1.take i ++ x :: (av_me P mi).2.2.2.2.2.1.drop (i + 1) := by
    have h9 : (av_me P mi).2.2.2.2.2.1[i] = x := (List.getElem?_eq_some_iff.mp h1).2
    rw [← h9, ← List.drop_eq_getElem_cons hil, List.take_append_drop]
  have hsplit : c.exceptionTable.toList = tableOf ((av_me P mi).2.2.2.2.2.1.take i) ++ (⟨x.1, x.2.1, x.2.2.1, x.2.2.2⟩ : ExceptionTableEntry) :: tableOf ((av_me P mi).2.2.2.2.2.1.drop (i + 1)) := by
    rw [htab]
    conv => lhs; rw [hg]
    simp [tableOf]
  refine vx_catch (own := av_cn K (mo mi)) (name := E) (E := E) (ce := ce) hown _ _ _ hsplit (fun z hz => ?_) (by simp [covers]; omega) c0 (hts _ c1) (va_Nw.use rfl (hO2.1 _ e1)) hce hcv hcl (by rw [← h5] at kk; exact kk)
  obtain ⟨y, hy, rfl⟩ := List.mem_map.mp hz
  obtain ⟨j, hj⟩ := List.getElem?_of_mem hy
  have hji : j < i := by
    have := (List.getElem?_eq_some_iff.mp hj).1
    simp at this
    omega
  obtain ⟨y', nm', g1, g2, g3⟩ := h6 j hji
  have hyy : y = y' := by
    rw [List.getElem?_take_of_lt hji, g1] at hj
    exact (Option.some.inj hj).symm
  subst hyy
  obtain ⟨d0, d1, d2⟩ := hh j y nm' g1 g2
  by_cases hcov : y.1 ≤ pc ∧ pc < y.2.1
  · refine Or.inr ⟨d0, nm', hts _ d1, hO2.2.1 _ (e2 nm' d2 (fun z => g3 ⟨hcov.1, hcov.2, z.symm⟩))⟩
  · refine Or.inl ?_
    simp [covers]
    omega
theorem lv_args1 : ∀ (vs : List Value) (k i : Nat) (v : Value), (∀ w ∈ vs, w.category = 1) → vs[i]? = some v → (k + i, v) ∈ lv_args k vs
  | [], _, _, _, _, h => by simp at h
  | w :: vs, k, 0, v, hc, h => by
    cases h
    exact List.mem_cons_self
  | w :: vs, k, i + 1, v, hc, h => by
    have h1 := lv_args1 vs (k + 1) i v (fun z hz => hc z (List.mem_cons_of_mem _ hz)) (by simpa using h)
    refine List.mem_cons_of_mem _ ?_
    rw [if_neg (by rw [hc w List.mem_cons_self]; decide)]
    rw [show k + (i + 1) = k + 1 + i by omega]
    exact h1
theorem lg_sl1 : ∀ vs : List Value, (∀ w ∈ vs, w.category = 1) → (lg_sl vs).length = vs.length
  | [], _ => rfl
  | w :: vs, hc => by
    have h1 := lg_sl1 vs (fun z hz => hc z (List.mem_cons_of_mem _ hz))
    simp only [lg_sl, List.flatMap_cons, List.length_append] at h1 ⊢
    rw [if_neg (by rw [hc w List.mem_cons_self]; decide), h1]
    simp
    omega
end SL
end
section
def av_ini (P : av_P) (mi : Nat) : Bool := decide ((av_me P mi).1.name = "<init>")
/-- all that the tables say -/
def av_All (P : av_P) (K : av_K) (Ts Xs : List Cond) (Nc : List (String × String)) (nm : Nat) (mo mk : Nat → Nat) (I : av_I) (cl : List vw_C) : Prop :=
  av_Env P K Ts cl ∧ av_EnvT P K Ts Xs I ∧ av_EnvM P K Ts Xs cl nm mo mk ∧ av_EnvH P K Ts Xs Nc nm mo ∧ ∀ mi, mi < nm → ∀ pc ins len ix, av_op P mi pc = some (ins, len, ix) → av_chk P K cl I nm mk (mo mi) mi (av_ini P mi) (av_me P mi).2.1 pc ins len ix = true
/-- the texts' methods, wherever -/
def av_Strs (P : av_P) (K : av_K) (Ts Xs : List Cond) (Nc : List (String × String)) (nt : Nat) (cl : List vw_C) (cy τ : Nat → Nat) (D : va_G) (A : Nat → Prop) (l : Launch) : Prop :=
  ∀ (nL oc : Nat) (ini : Bool) (cc : ByteArray) (p : Program) (e : Env) (R : Room) (s : State) (m : MethodId) (args : Array Value) (below : List Frame) (meth : Method) (c : Code) (Q : State → Prop), av_Fix P K Ts cl cy τ D A nL oc ini cc p R s m args meth c → av_Ol2 P Xs Nc nt τ A s → av_Str P K τ A oc cc p l e R s m args below meth c Q nL
section SM
variable {P : av_P} {K : av_K} {Ts Xs : List Cond} {Nc : List (String × String)} {nt nm : Nat} {mo mk : Nat → Nat} {I : av_I} {cl : List vw_C} {cy τ : Nat → Nat} {D : va_G} {A : Nat → Prop} {l : Launch}
/-- what a run gives, at n steps -/
def av_Snd (P : av_P) (K : av_K) (Ts Xs : List Cond) (Nc : List (String × String)) (nt nm : Nat) (mo : Nat → Nat) (cl : List vw_C) (cy τ : Nat → Nat) (D : va_G) (A : Nat → Prop) (l : Launch) (n : Nat) : Prop :=
  ∀ (d mi pc : Nat) (L : av_L) (st : List Value) (h : av_H) (c s : Nat) (o : Option Value ⊕ String) (h' : av_H) (c' s' : Nat), av_rn P n d mi pc L st h c s = some (o, h', c', s') → mi < nm →
  ∀ (p : Program) (e : Env) (S : State) (m : MethodId) (args : Array Value) (below : List Frame) (meth : Method) (cd : Code) (H : Heap) (locs : List Loc) (ls : Array Slot) (σ0 σ : Nat → Nat) (n0 : Nat) (R : Room), (d + 20 ≤ R.frames ∧ 100 * d + 400 ≤ R.locals ∧ c' ≤ R.cells ∧ s' ≤ R.slots) →
    av_Fix P K Ts cl cy τ D A (av_me P mi).2.2.1 (mo mi) (av_ini P mi) (av_me P mi).2.1 p R S m args meth cd → av_Ol2 P Xs Nc nt τ A S → meth.sig.returnType = (av_me P mi).2.2.2.1 → meth.locks = false → cd.exceptionTable.toList = tableOf (av_me P mi).2.2.2.2.2.1 →
    av_Rel cy τ D cl A S.heap σ0 n0 (av_me P mi).2.2.1 σ L st h ls H locs →
    W p l e R S m args below meth cd H locs c s (vx_MQ below (av_Qc cy τ D cl A σ0 n0 o h') (av_Xc cy τ D cl A σ0 n0 o h') args S c' s' A) (F0 m pc ls (st.map (av_v σ τ)))
/-- a method's contract, out of its run -/
theorem sd_meth (hAll : av_All P K Ts Xs Nc nm mo mk I cl) {n : Nat} (ih : av_Snd P K Ts Xs Nc nt nm mo cl cy τ D A l n) {d mj : Nat} (hmj : mj < nm) {as : List Value} {h h' : av_H} {o : Option Value ⊕ String} {c' s' : Nat} (hr : av_rn P n d mj 0 (av_ent P mj as) [] h 0 0 = some (o, h', c', s')) {σ : Nat → Nat}
    (hlen : as.length = (av_me P mj).2.2.2.2.1) (has : ∀ v ∈ as, v.category = 1 ∧ av_wv h.length v) :
    vx_Met l (av_me P mj).1 (av_cw (av_me P mj) :: Ts) (av_rm d c' s') (av_Pc P K Xs Nc nt cy τ D cl A σ h as) (av_Qc cy τ D cl A σ h.length o h') (av_Xc cy τ D cl A σ h.length o h') c' s' A := by
  obtain ⟨m1, m2, m3, m4, m5, m6, m7⟩ := hAll.2.2.1.2.2.1 mj hmj
  have body : ∀ (p : Program) (e : Env) (s : State) (m : MethodId) (args : Array Value) (below : List Frame) (meth : Method) (c : Code) (s₁ : State), BodyLoose p l (av_me P mj).1 (headSpec (av_cw (av_me P mj) :: Ts) (av_rm d c' s')) (av_me P mj).2.1 (av_me P mj).2.2.1 (av_me P mj).2.2.2.1 e s m args below meth c s₁ → c.maxLocals = (av_me P mj).2.2.1 → c.exceptionTable.toList = tableOf (av_me P mj).2.2.2.2.2.1 → av_Pc P K Xs Nc nt cy τ D cl A σ h as args s →
      W p l e (headSpec (av_cw (av_me P mj) :: Ts) (av_rm d c' s')).room s m args below meth c s.heap [] 0 0 (vx_MQ below (av_Qc cy τ D cl A σ h.length o h') (av_Xc cy τ D cl A σ h.length o h') args s c' s' A) (entryFrame m args (av_me P mj).2.2.1) := fun p e s m args below meth c s₁ B hml htab hv => by
    obtain ⟨rfl, ⟨b1, b2, b3, b4⟩, v2, v3, v4⟩ := hv
    have hts := atoms_spec (ws := av_cw (av_me P mj) :: Ts) B.pre
    have hown : s.vm.findClass (av_cn K (mo mj)) = some m.cls := by rw [m7]; exact findClass_of_methodNamed B.named
    have hcat : ∀ w ∈ as.map (av_v σ τ), w.category = 1 := fun w hw => by
      obtain ⟨v, hv, rfl⟩ := List.mem_map.mp hw
      rw [av_v_cat]
      exact (has v hv).1
    have hle : (lg_sl (as.map (av_v σ τ))).length ≤ (av_me P mj).2.2.1 := by rw [lg_sl1 _ hcat, List.length_map, hlen]; exact m6
    have hl := lv_entry (as.map (av_v σ τ)) hle
    rw [lg_entry_eq]
    refine ih d mj 0 (av_ent P mj as) [] h 0 0 o h' c' s' hr hmj p e s m _ below meth c s.heap [] _ σ σ h.length (av_rm d c' s') ⟨Nat.le_refl _, Nat.le_refl _, Nat.le_refl _, Nat.le_refl _⟩ ⟨⟨B.exec, B.bytes, hml, hown⟩, fun w hw => hts w (List.mem_cons_of_mem _ hw), fun hi => (name_of_methodNamed B.named B.method).1.trans (by simpa [av_ini] using hi), b2, v4, v2, ?_, ?_⟩ v3 B.returns B.notSynchronized htab ⟨fun _ _ => rfl, Nat.le_refl _, ⟨?_, hl.1, hl.2.1, fun q hq => ?_⟩, fun i v hv => ?_, fun v hv => (by cases hv), b4, b1, b3, va_S.rf⟩
    · show 20 ≤ d + 20
      omega
    · show 400 ≤ 100 * d + 400
      omega
    · simp only [av_ent, List.length_append, List.length_map, List.length_replicate]
      omega
    · obtain ⟨v, hv, e1⟩ := av_lv_mem.mp hq
      refine hl.2.2 q ?_
      have h1 : as[q.1]? = some v := by
        simp only [av_ent] at hv
        by_cases hq1 : q.1 < as.length
        · rw [List.getElem?_append_left (by simpa using hq1), List.getElem?_map] at hv
          cases h9 : as[q.1]? with
          | none => rw [h9] at hv; cases hv
          | some z => rw [h9] at hv; cases hv; rfl
        · rw [List.getElem?_append_right (by simpa using hq1)] at hv
          have := List.eq_of_mem_replicate (List.mem_of_getElem? hv)
          cases this
      have h2 := lv_args1 (as.map (av_v σ τ)) 0 q.1 (av_v σ τ v) hcat (by rw [List.getElem?_map, h1]; rfl)
      rw [Nat.zero_add, ← e1] at h2
      exact h2
    · have h1 : v ∈ as := by
        simp only [av_ent] at hv
        have h2 := List.mem_of_getElem? hv
        rcases List.mem_append.mp h2 with h3 | h3
        · obtain ⟨z, hz, e1⟩ := List.mem_map.mp h3
          cases e1
          exact hz
        · have := List.eq_of_mem_replicate h3
          cases this
      exact has v h1
  by_cases hh : (av_me P mj).2.2.2.2.2.1 = []
  · have hcw : av_cw (av_me P mj) = .code (av_me P mj).1 (av_me P mj).2.1 (av_me P mj).2.2.1 (av_me P mj).2.2.2.1 := by simp only [av_cw, hh]
    refine vx_ofW (cc := (av_me P mj).2.1) (maxL := (av_me P mj).2.2.1) (ret := (av_me P mj).2.2.2.1) m2 (by rw [hcw]) (fun p e s m args below meth c s₁ B hml hno hv => body p e s m args below meth c s₁ B hml ?_ hv)
    rw [hh]
    exact List.eq_nil_iff_forall_not_mem.mpr hno
  · obtain ⟨q0, qs, hq⟩ : ∃ q0 qs, (av_me P mj).2.2.2.2.2.1 = q0 :: qs := by
      cases hq : (av_me P mj).2.2.2.2.2.1 with
      | nil => exact absurd hq hh
      | cons q0 qs => exact ⟨q0, qs, rfl⟩
    have hcw : av_cw (av_me P mj) = .codeWith (av_me P mj).1 (av_me P mj).2.1 (av_me P mj).2.2.1 (av_me P mj).2.2.2.1 (q0 :: qs) := by simp only [av_cw, hq]
    refine vx_ofWH (cc := (av_me P mj).2.1) (maxL := (av_me P mj).2.2.1) (ret := (av_me P mj).2.2.2.1) (hh := q0 :: qs) m2 (by rw [hcw]) (fun p e s m args below meth c s₁ B hml hv => body p e s m args below meth c s₁ B hml ?_ hv)
    have hts := atoms_spec (ws := av_cw (av_me P mj) :: Ts) B.pre
    have h1 := hts _ List.mem_cons_self
    rw [hcw] at h1
    rw [hq]
    exact vx_table (x := (av_me P mj).1) B h1
set_option maxHeartbeats 4000000 in
/-- THE RUN IS SOUND -/
theorem sd_run (hAll : av_All P K Ts Xs Nc nm mo mk I cl) (hl : l.stackTraces = false) (hStr : av_Strs P K Ts Xs Nc nt cl cy τ D A l) : ∀ n, av_Snd P K Ts Xs Nc nt nm mo cl cy τ D A l n := by
  intro n
  induction n with
  | zero =>
    intro d mi pc L st h c s o h' c' s' hr
    simp [av_rn] at hr
  | succ n ih =>
    intro d mi pc L st h c s o h' c' s' hr hmi p e S m args below meth cd H locs ls σ0 σ n0 R hRm hF hO2 hret hlocks htab r
    have hmono := av_rn_mono (n + 1) d mi pc L st h c s _ hr
    simp only at hmono
    simp only [av_rn] at hr
    cases hstp : av_stp P mi pc L st h c s with
    | none => rw [hstp] at hr; cases hr
    | some x =>
      rw [hstp] at hr
      unfold av_stp at hstp
      cases hop : av_op P mi pc with
      | none => rw [hop] at hstp; cases hstp
      | some q =>
        obtain ⟨ins, len, ix⟩ := q
        rw [hop] at hstp
        simp only at hstp
        have hchk := hAll.2.2.2.2 mi hmi pc ins len ix hop
        rcases av_one_cls hstp with ⟨pc', L', st', h1, c1, s1, rfl, hc1, hs1⟩ | ⟨v, rfl, hi⟩ | ⟨mj, as, rs, rfl, hi, hlen, has⟩ | ⟨k, rfl, rfl, h8⟩
        · -- a plain instruction
          simp only at hr
          have hok : av_ok K cl (mo mi) (av_ini P mi) (av_me P mi).2.1 pc ins len ix = true := by
            cases ins with
            | instanceof k => simp only [av_one] at hstp; split at hstp <;> cases hstp
            | invokestatic k => simp only [av_one] at hstp; split at hstp <;> cases hstp
            | invokevirtual k => simp only [av_one] at hstp; split at hstp <;> cases hstp
            | invokespecial k => simp only [av_one] at hstp; split at hstp <;> cases hstp
            | _ => exact hchk
          have hm := av_rn_mono n d mi pc' L' st' h1 c1 s1 _ hr
          exact sd_one hAll.1 hF (hStr _ _ _ _ _ _ _ _ _ _ _ _ _ _ hF hO2) r hok hstp (Nat.le_trans hm.1 hRm.2.2.1) (Nat.le_trans hm.2 hRm.2.2.2) (fun σ' ls' H' locs' r' => ih d mi pc' L' st' h1 c1 s1 o h' c' s' hr hmi p e S m args below meth cd H' locs' ls' σ0 σ' n0 R hRm hF hO2 hret hlocks htab r')
        · -- an end
          simp only at hr
          cases hr
          have hok : av_ok K cl (mo mi) (av_ini P mi) (av_me P mi).2.1 pc ins len ix = true := by rcases hi with rfl | rfl | rfl <;> exact hchk
          exact sd_ret hF r hret hlocks hi hok hstp
        · -- a call
          simp only at hr
          cases d with
          | zero => simp only at hr; cases hr
          | succ d' =>
            simp only at hr
            have hmj : mj < nm := by
              rcases hi with rfl | rfl | rfl <;> (simp only [av_chk, Bool.and_eq_true, decide_eq_true_eq] at hchk; exact hchk.1.1.1.1)
            cases hcall : av_rn P n d' mj 0 (av_ent P mj as) [] h 0 0 with
            | none => rw [hcall] at hr; cases hr
            | some y =>
              obtain ⟨o1, h1, c1, s1⟩ := y
              rw [hcall] at hr
              have hM := sd_meth hAll ih hmj hcall (σ := σ) hlen (fun v hv => ⟨(has v hv).1, r.2.2.2.2.1 v (has v hv).2⟩)
              have hmt : ∀ E, o1 = .inr E → (av_me P mj).2.2.2.2.2.2.2.2 = true := fun E hE => by
                subst hE
                simp only at hr
                split at hr
                · cases hr
                · next hz => simpa using hz
              have hroom : c + c1 ≤ c' ∧ s + s1 ≤ s' := by
                rcases o1 with v | E
                · simp only at hr
                  have := av_rn_mono n _ mi _ _ _ _ _ _ _ hr
                  exact this
                · simp only at hr
                  split at hr
                  · cases hr
                  · split at hr
                    · cases hr; exact ⟨Nat.le_refl _, Nat.le_refl _⟩
                    · split at hr
                      · cases hr
                      · split at hr
                        · cases hr
                        · split at hr
                          · split at hr
                            · have := av_rn_mono n _ mi _ _ _ _ _ _ _ hr
                              exact this
                            · cases hr
                          · cases hr
              obtain ⟨-, hrs, hrun⟩ := sd_go (I := I) (mi := mi) (p := p) (e := e) (below := below) hAll.2.2.1 hF hO2 r hi hchk hstp (d' := d') (c1 := c1) (s1 := s1) (by constructor <;> (simp only [av_rm]; omega)) hmt ⟨Nat.le_trans hroom.1 hRm.2.2.1, Nat.le_trans hroom.2 hRm.2.2.2⟩ hM
              refine sd_ran hF.2.2.2.1 r hrs hrun (fun v hv => ?_) (fun E hE σ' H' locs' q ce r' hce hcv hcl => ?_)
              · subst hv
                simp only at hr
                intro σ' ls' H' locs' r'
                exact ih (d' + 1) mi (pc + 3) L (v.toList ++ rs) h1 (c + c1) (s + s1) o h' c' s' hr hmi p e S m args below meth cd H' locs' ls' σ0 σ' n0 R hRm hF hO2 hret hlocks htab r'
              · subst hE
                simp only at hr
                split at hr
                · cases hr
                · split at hr
                  · next hz1 hz =>
                    cases hr
                    refine vx_out (fun x hx => ?_) hlocks hce hcv hcl (fun t ht hvm => ⟨rfl, σ', r'.1, r'.2.1, ⟨by rw [ht]; exact r'.2.2.2.2.2.2.1, va_K.moved hvm hF.2.2.2.1, r'.2.2.2.2.2.2.2.1, r'.2.2.2.2.2.1⟩, r'.2.2.2.2.2.2.2.2.F ht⟩) r'.2.2.2.2.2.2.2.2.2.2 (Nat.le_refl _) (Nat.le_refl _)
                    rw [htab, hz] at hx
                    cases hx
                  · split at hr
                    · cases hr
                    · next hEs =>
                      split at hr
                      · cases hr
                      · next t ht =>
                        split at hr
                        · next i len1 ix1 hop1 =>
                          split at hr
                          · next hiL =>
                            refine sd_catch hAll.2.2.1 hAll.2.2.2.1 hF hO2 hmi htab (by simpa using hEs) ht hce hcv hcl ?_
                            have hchk1 := hAll.2.2.2.2 mi hmi t (.astore i) len1 ix1 hop1
                            simp only [av_chk, av_ok, Bool.or_eq_true, Bool.and_eq_true, decide_eq_true_eq] at hchk1
                            have hiL1 : i < (av_me P mi).2.2.1 := by rw [← r'.2.2.1.1]; exact hiL
                            have kk : ∀ ls' : Array Slot, lv_has ls' (av_me P mi).2.2.1 ((i, Value.ref q) :: (av_lv σ' τ L).filter (fun q => !(q.1 == i) && !(q.1 + 1 == i && q.2.category == 2))) → W p l e R S m args below meth cd H' locs' (c + c1) (s + s1) (vx_MQ below (av_Qc cy τ D cl A σ0 n0 o h') (av_Xc cy τ D cl A σ0 n0 o h') args S c' s' A) (F0 m (t + len1) ls' []) := fun ls' hl' =>
                              ih (d' + 1) mi (t + len1) (L.set i none) [] h1 (c + c1) (s + s1) o h' c' s' hr hmi p e S m args below meth cd H' locs' ls' σ0 σ' n0 R hRm hF hO2 hret hlocks htab (r'.drop hl')
                            rcases hchk1 with ⟨rfl, hd⟩ | ⟨⟨rfl, hi4⟩, hd⟩
                            · exact lv_astore hF.1.1 hF.1.2.1 hd r'.2.2.1.2 hiL1 rfl kk
                            · exact lv_astore_n hF.1.1 hF.1.2.1 hd (Nat.mod_eq_of_lt hi4) r'.2.2.1.2 hiL1 rfl kk
                          · cases hr
                        · cases hr
        · -- a throw
          simp only at hr
          cases hr
          simp only [av_chk, Bool.and_eq_true, decide_eq_true_eq] at hchk
          exact sd_thr hAll.2.1 hF hO2 hAll.2.2.1.2.1 hAll.2.2.1.1 hl hlocks (by rw [htab, hchk.2]; rfl) r hchk.1 h8 hRm.2.2.1 hRm.2.2.2
end SM
end
