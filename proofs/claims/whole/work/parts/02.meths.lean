/-! ===== THE TABLES: the methods (by wip/whole/gen2.py) ===== -/
def tTy : List (List FieldType) := [[.int, (.array .int), (.array .int), (.array .int), (.array .int), (.array .int), (.array .int)],
  [.int, .int, (.array .int), (.array .int), (.array .int), (.array .int)],
  [.int, (.array .int)],
  [.int, .int, (.array (.object "SinglesPast$State"))],
  [(.array .int), .int, (.array .int)],
  [(.array .int), .int, (.array .int), (.array .int)],
  [(.object "SinglesPast$Things"), .int, (.array .int), (.array .int), .int, (.array .int), (.array .int), (.array .int), (.array .int), (.array .int), .int, (.array .int), (.array .int), .int, (.object "SinglesPast$Law"), .int, .int, (.object "SinglesPast$Log")],
  [(.array .int), .int, .int, .int, .int, .int],
  [.int, .int, (.array .int), (.array .int), (.array .int), (.array .int)],
  [(.array .int), (.array .int), .int, .int, (.array .int), (.array .int), (.array .int), (.array .int)],
  [(.object "SinglesPast$Tape"), .int, (.object "SinglesPast$State"), (.object "SinglesPast$State"), .boolean, (.object "SinglesPast$State"), (.object "SinglesPast$Memory"), (.object "SinglesPast$LawText"), (.object "SinglesPast$Worlds"), .boolean, (.object "SinglesPast$Worlds"), (.object "SinglesPast$Seating"), (.object "SinglesPast$Pairing"), .int, .int],
  [.int, (.array .int), (.array .int), (.array .int), (.array .int), (.array .int), .boolean, .int, (.array .byte), .int, .int, .int, .int, .int, .int, (.array .int), .int, (.array .int), .int, (.array .int), (.array .int), (.array .int), (.array .int), (.array .int)]]
def tTh : List String := ["java/lang/UnsupportedOperationException", "java/lang/IllegalArgumentException", "java/util/NoSuchElementException", "java/util/NoSuchElementException", "java/util/NoSuchElementException", "java/lang/IllegalArgumentException", "java/lang/IllegalStateException", "java/lang/IllegalArgumentException", "java/lang/IllegalArgumentException", "java/lang/IllegalArgumentException", "java/lang/IllegalStateException", "java/lang/IllegalArgumentException", "java/lang/IllegalArgumentException", "java/lang/IllegalArgumentException", "java/util/NoSuchElementException", "java/lang/IndexOutOfBoundsException", "java/lang/IndexOutOfBoundsException", "java/lang/IndexOutOfBoundsException", "java/lang/IllegalArgumentException", "java/lang/IndexOutOfBoundsException", "java/lang/IllegalStateException", "java/lang/IllegalArgumentException"]
def tTx : List (List Int32) := [[116, 104, 105, 110, 103, 32, 109, 97, 107, 101, 115, 32, 104, 105, 110, 100, 101, 114, 115, 32, 103, 111, 101, 114, 32, 115, 104, 117, 110, 115, 32, 116, 114, 97, 105, 110, 32, 100, 97, 121],
  [97, 116],
  [115, 111],
  [119, 111, 114, 116, 104],
  [116, 111],
  [109, 111, 110, 101, 121],
  [110, 101, 114, 118, 101],
  [100, 111, 101, 115],
  [117, 110, 100, 111, 101, 115],
  [98, 111, 114, 110],
  [115, 101, 97, 116, 115],
  [115, 116, 111, 112, 115],
  [116, 104, 101, 32, 116, 101, 120, 116, 32, 105, 115, 32, 119, 114, 111, 110, 103],
  [116, 104, 101, 114, 101, 32, 97, 114, 101, 32, 49, 50, 32, 116, 101, 120, 116, 115],
  [99, 111, 115, 116, 32, 102, 101, 97, 114, 32, 98, 97, 114],
  [105, 102],
  [110, 111, 116],
  [98, 111, 114, 110, 32, 100, 111, 101, 115, 32, 102, 117, 108, 108],
  [103, 111, 101, 114, 32, 119, 105, 115, 104, 32, 109, 111, 110, 101, 121, 32, 110, 101, 114, 118, 101, 32, 116, 114, 97, 105, 110, 32, 103, 111, 110, 101, 32, 100, 97, 121],
  [97, 110, 100],
  [111, 114],
  [116, 104, 101, 114, 101, 32, 105, 115, 32, 110, 111, 32, 115, 117, 99, 104, 32, 84, 72, 73, 78, 71],
  [97, 32, 84, 72, 73, 78, 71, 32, 104, 97, 115, 32, 110, 111, 32, 115, 117, 99, 104, 32, 119, 104, 97, 116],
  [116, 104, 101, 114, 101, 32, 105, 115, 32, 110, 111, 32, 115, 117, 99, 104, 32, 71, 79, 69, 82],
  [97, 32, 71, 79, 69, 82, 32, 104, 97, 115, 32, 110, 111, 32, 115, 117, 99, 104, 32, 119, 104, 97, 116],
  [116, 104, 101, 114, 101, 32, 105, 115, 32, 110, 111, 32, 115, 117, 99, 104, 32, 84, 82, 65, 73, 78],
  [97, 32, 84, 82, 65, 73, 78, 32, 104, 97, 115, 32, 110, 111, 32, 115, 117, 99, 104, 32, 119, 104, 97, 116],
  [68, 65, 89, 83, 32, 97, 114, 101, 32, 49, 32, 116, 111, 32, 54, 48],
  [104, 101, 32, 67, 65, 78, 32, 110, 111, 116, 32, 103, 111, 32, 98, 121, 32, 105, 116],
  [77, 79, 78, 69, 89, 32, 116, 104, 97, 116, 32, 105, 115, 32, 103, 105, 118, 101, 110, 32, 105, 115, 32, 49, 32, 116, 111, 32, 57, 57, 57],
  [78, 69, 82, 86, 69, 32, 105, 115, 32, 48, 32, 116, 111, 32, 49, 48, 48],
  [116, 104, 101, 114, 101, 32, 105, 115, 32, 110, 111, 32, 115, 117, 99, 104, 32, 83, 84, 79, 80],
  [104, 101, 32, 105, 115, 32, 71, 79, 78, 69],
  [98, 111, 116, 104, 32, 97, 114, 101, 32, 111, 110, 101],
  [97, 32, 84, 82, 65, 73, 78, 32, 104, 97, 115, 32, 97, 32, 83, 84, 79, 80],
  [104, 101, 32, 105, 115, 32, 110, 111, 116, 32, 71, 79, 78, 69],
  [116, 104, 101, 32, 84, 65, 80, 69, 32, 104, 97, 115, 32, 110, 111, 32, 115, 117, 99, 104, 32, 114, 111, 119, 115],
  [121, 101, 97, 114, 115, 32, 116, 111, 32, 112, 105, 99, 107, 32, 102, 114, 111, 109, 32, 97, 114, 101, 32, 49, 32, 116, 111, 32, 49, 48],
  [68, 65, 89, 83, 32, 111, 102, 32, 111, 100, 100, 115, 32, 97, 114, 101, 32, 48, 32, 116, 111, 32, 52],
  [68, 65, 89, 83, 32, 97, 104, 101, 97, 100, 32, 97, 114, 101, 32, 48, 32, 116, 111, 32, 54, 48],
  [97, 32, 114, 111, 119, 32, 104, 97, 115, 32, 110, 111, 32, 115, 117, 99, 104, 32, 119, 104, 97, 116],
  [116, 104, 105, 110, 103],
  [97, 116],
  [115, 111],
  [119, 111, 114, 116, 104],
  [109, 97, 107, 101, 115],
  [104, 105, 110, 100, 101, 114, 115],
  [103, 111, 101, 114],
  [116, 111],
  [109, 111, 110, 101, 121],
  [110, 101, 114, 118, 101],
  [100, 111, 101, 115],
  [117, 110, 100, 111, 101, 115],
  [98, 111, 114, 110],
  [115, 104, 117, 110, 115],
  [116, 114, 97, 105, 110],
  [115, 101, 97, 116, 115],
  [115, 116, 111, 112, 115],
  [100, 97, 121],
  [99, 111, 115, 116],
  [102, 101, 97, 114],
  [98, 97, 114],
  [105, 102],
  [110, 111, 116],
  [102, 117, 108, 108],
  [119, 105, 115, 104],
  [103, 111, 110, 101],
  [97, 110, 100],
  [111, 114]]
def tM0 : av_M := (⟨"", "", ""⟩, ⟨#[]⟩, 0, none, 0, [], [], 0, false)
/-- SinglesPast$Law.<init> -/
def tM_0 : av_M := (⟨"SinglesPast$Law", "<init>", "(I[I[I[I[I)V"⟩, prog_2_method_1_code, 6, none, 6, [], [], 0, false)
/-- SinglesPast$Law.lookAt -/
def tM_1 : av_M := (⟨"SinglesPast$Law", "lookAt", "(LSinglesPast$State;II)V"⟩, prog_2_method_2_code, 5, none, 4, [], [], 0, false)
/-- SinglesPast$Law.sumOf -/
def tM_2 : av_M := (⟨"SinglesPast$Law", "sumOf", "(I)I"⟩, prog_2_method_3_code, 5, (some .int), 2, [], [], 0, false)
/-- SinglesPast$Law.holds -/
def tM_3 : av_M := (⟨"SinglesPast$Law", "holds", "(II)Z"⟩, prog_2_method_4_code, 8, (some .boolean), 3, [], [], 0, false)
/-- SinglesPast$LawText.<init> -/
def tM_4 : av_M := (⟨"SinglesPast$LawText", "<init>", "()V"⟩, prog_3_method_1_code, 1, none, 1, [], [], 1, false)
/-- SinglesPast$LawText.toLaw -/
def tM_5 : av_M := (⟨"SinglesPast$LawText", "toLaw", "()LSinglesPast$Law;"⟩, prog_3_method_2_code, 1, (some (.object "SinglesPast$Law")), 1, [], [], 1, false)
/-- SinglesPast$LawText.read -/
def tM_6 : av_M := (⟨"SinglesPast$LawText", "read", "(LSinglesPast$Tape;)Z"⟩, prog_3_method_3_code, 3, (some .boolean), 2, [], [], 1, false)
/-- SinglesPast$LawText.readLine -/
def tM_7 : av_M := (⟨"SinglesPast$LawText", "readLine", "(LSinglesPast$Tape;I)Z"⟩, prog_3_method_4_code, 4, (some .boolean), 3, [], [], 1, false)
/-- SinglesPast$LawText.put -/
def tM_8 : av_M := (⟨"SinglesPast$LawText", "put", "(I)V"⟩, prog_3_method_5_code, 2, none, 2, [], [], 1, false)
/-- SinglesPast$LawText.readCondition -/
def tM_9 : av_M := (⟨"SinglesPast$LawText", "readCondition", "(LSinglesPast$Tape;I)Z"⟩, prog_3_method_6_code, 6, (some .boolean), 3, [], [], 1, false)
/-- SinglesPast$LawText.readAtom -/
def tM_10 : av_M := (⟨"SinglesPast$LawText", "readAtom", "(LSinglesPast$Tape;I)Z"⟩, prog_3_method_7_code, 5, (some .boolean), 3, [], [], 1, false)
/-- SinglesPast$LawText.readSum -/
def tM_11 : av_M := (⟨"SinglesPast$LawText", "readSum", "(LSinglesPast$Tape;)Z"⟩, prog_3_method_8_code, 4, (some .boolean), 2, [], [], 1, false)
/-- SinglesPast$Log.<init> -/
def tM_12 : av_M := (⟨"SinglesPast$Log", "<init>", "()V"⟩, prog_4_method_1_code, 1, none, 1, [], [], 2, false)
/-- SinglesPast$Log.copyFrom -/
def tM_13 : av_M := (⟨"SinglesPast$Log", "copyFrom", "(LSinglesPast$Log;)V"⟩, prog_4_method_2_code, 2, none, 2, [], [], 2, false)
/-- SinglesPast$Log.add -/
def tM_14 : av_M := (⟨"SinglesPast$Log", "add", "(IIII)V"⟩, prog_4_method_3_code, 6, none, 5, [], [], 2, false)
/-- SinglesPast$Log.entryOf -/
def tM_15 : av_M := (⟨"SinglesPast$Log", "entryOf", "(II)I"⟩, prog_4_method_4_code, 3, (some .int), 3, [], [], 2, false)
/-- SinglesPast$Log.countOf -/
def tM_16 : av_M := (⟨"SinglesPast$Log", "countOf", "(I)I"⟩, prog_4_method_5_code, 4, (some .int), 2, [], [], 2, false)
/-- SinglesPast$Log.latestDayOf -/
def tM_17 : av_M := (⟨"SinglesPast$Log", "latestDayOf", "(I)I"⟩, prog_4_method_6_code, 3, (some .int), 2, [], [], 2, false)
/-- SinglesPast$Memory.<init> -/
def tM_18 : av_M := (⟨"SinglesPast$Memory", "<init>", "()V"⟩, prog_5_method_1_code, 2, none, 1, [], [], 3, false)
/-- SinglesPast$Memory.keep -/
def tM_19 : av_M := (⟨"SinglesPast$Memory", "keep", "(LSinglesPast$State;)V"⟩, prog_5_method_2_code, 2, none, 2, [], [], 3, false)
/-- SinglesPast$Memory.bringBack -/
def tM_20 : av_M := (⟨"SinglesPast$Memory", "bringBack", "(LSinglesPast$State;)Z"⟩, prog_5_method_3_code, 2, (some .boolean), 2, [], [], 3, false)
/-- SinglesPast$Memory.forget -/
def tM_21 : av_M := (⟨"SinglesPast$Memory", "forget", "()V"⟩, prog_5_method_4_code, 1, none, 1, [], [], 3, false)
/-- SinglesPast$Pairing.<init> -/
def tM_22 : av_M := (⟨"SinglesPast$Pairing", "<init>", "()V"⟩, prog_6_method_1_code, 1, none, 1, [], [], 4, false)
/-- SinglesPast$Pairing.pairMost -/
def tM_23 : av_M := (⟨"SinglesPast$Pairing", "pairMost", "(LSinglesPast$State;I)I"⟩, prog_6_method_2_code, 3, (some .int), 3, [], [], 4, false)
/-- SinglesPast$Pairing.pairFrom -/
def tM_24 : av_M := (⟨"SinglesPast$Pairing", "pairFrom", "(LSinglesPast$State;III)V"⟩, prog_6_method_3_code, 8, none, 5, [], [], 4, false)
/-- SinglesPast$Seating.<init> -/
def tM_25 : av_M := (⟨"SinglesPast$Seating", "<init>", "()V"⟩, prog_7_method_1_code, 1, none, 1, [], [], 5, false)
/-- SinglesPast$Seating.seatMost -/
def tM_26 : av_M := (⟨"SinglesPast$Seating", "seatMost", "(LSinglesPast$State;I)I"⟩, prog_7_method_2_code, 3, (some .int), 3, [], [], 5, false)
/-- SinglesPast$Seating.canSeatAll -/
def tM_27 : av_M := (⟨"SinglesPast$Seating", "canSeatAll", "(LSinglesPast$State;I)Z"⟩, prog_7_method_3_code, 4, (some .boolean), 3, [], [], 5, false)
/-- SinglesPast$Seating.seatFrom -/
def tM_28 : av_M := (⟨"SinglesPast$Seating", "seatFrom", "(LSinglesPast$State;III)V"⟩, prog_7_method_4_code, 6, none, 5, [], [], 5, false)
/-- SinglesPast$Seating.hasRoom -/
def tM_29 : av_M := (⟨"SinglesPast$Seating", "hasRoom", "(LSinglesPast$State;II)Z"⟩, prog_7_method_5_code, 5, (some .boolean), 4, [], [], 5, false)
/-- SinglesPast$State.<init> -/
def tM_30 : av_M := (⟨"SinglesPast$State", "<init>", "()V"⟩, prog_8_method_1_code, 1, none, 1, [], [], 6, false)
/-- SinglesPast$State.copyFrom -/
def tM_31 : av_M := (⟨"SinglesPast$State", "copyFrom", "(LSinglesPast$State;)V"⟩, prog_8_method_2_code, 2, none, 2, [], [], 6, false)
/-- SinglesPast$State.addGoer -/
def tM_32 : av_M := (⟨"SinglesPast$State", "addGoer", "(II)I"⟩, prog_8_method_3_code, 4, (some .int), 3, [], [], 6, false)
/-- SinglesPast$State.addTrain -/
def tM_33 : av_M := (⟨"SinglesPast$State", "addTrain", "(II)V"⟩, prog_8_method_4_code, 3, none, 3, [], [], 6, false)
/-- SinglesPast$State.tellDeed -/
def tM_34 : av_M := (⟨"SinglesPast$State", "tellDeed", "(IIZ)V"⟩, prog_8_method_5_code, 5, none, 4, [], [], 6, false)
/-- SinglesPast$State.tellShunning -/
def tM_35 : av_M := (⟨"SinglesPast$State", "tellShunning", "(IIZ)V"⟩, prog_8_method_6_code, 4, none, 4, [], [], 6, false)
/-- SinglesPast$State.everyone -/
def tM_36 : av_M := (⟨"SinglesPast$State", "everyone", "()I"⟩, prog_8_method_7_code, 1, (some .int), 1, [], [], 6, false)
/-- SinglesPast$State.goneSet -/
def tM_37 : av_M := (⟨"SinglesPast$State", "goneSet", "()I"⟩, prog_8_method_8_code, 3, (some .int), 1, [], [], 6, false)
/-- SinglesPast$State.stayingSet -/
def tM_38 : av_M := (⟨"SinglesPast$State", "stayingSet", "()I"⟩, prog_8_method_9_code, 1, (some .int), 1, [], [], 6, false)
/-- SinglesPast$State.ridersOf -/
def tM_39 : av_M := (⟨"SinglesPast$State", "ridersOf", "(I)I"⟩, prog_8_method_10_code, 4, (some .int), 2, [], [], 6, false)
/-- SinglesPast$State.everyHalt -/
def tM_40 : av_M := (⟨"SinglesPast$State", "everyHalt", "()I"⟩, prog_8_method_11_code, 3, (some .int), 1, [], [], 6, false)
/-- SinglesPast$State.allMoney -/
def tM_41 : av_M := (⟨"SinglesPast$State", "allMoney", "()I"⟩, prog_8_method_12_code, 3, (some .int), 1, [], [], 6, false)
/-- SinglesPast$State.stopsForHim -/
def tM_42 : av_M := (⟨"SinglesPast$State", "stopsForHim", "(II)Z"⟩, prog_8_method_13_code, 3, (some .boolean), 3, [], [], 6, false)
/-- SinglesPast$State.aliveIn -/
def tM_43 : av_M := (⟨"SinglesPast$State", "aliveIn", "(I)I"⟩, prog_8_method_14_code, 4, (some .int), 2, [], [], 6, false)
/-- SinglesPast$State.costOf -/
def tM_44 : av_M := (⟨"SinglesPast$State", "costOf", "(II)I"⟩, prog_8_method_15_code, 3, (some .int), 3, [], [], 6, false)
/-- SinglesPast$State.fearOf -/
def tM_45 : av_M := (⟨"SinglesPast$State", "fearOf", "(II)I"⟩, prog_8_method_16_code, 3, (some .int), 3, [], [], 6, false)
/-- SinglesPast$State.canGo -/
def tM_46 : av_M := (⟨"SinglesPast$State", "canGo", "(II)Z"⟩, prog_8_method_17_code, 4, (some .boolean), 3, [], [], 6, false)
/-- SinglesPast$State.trainOf -/
def tM_47 : av_M := (⟨"SinglesPast$State", "trainOf", "(I)I"⟩, prog_8_method_18_code, 3, (some .int), 2, [], [], 6, false)
/-- SinglesPast$State.board -/
def tM_48 : av_M := (⟨"SinglesPast$State", "board", "(II)I"⟩, prog_8_method_19_code, 4, (some .int), 3, [], [], 6, false)
/-- SinglesPast$State.callBack -/
def tM_49 : av_M := (⟨"SinglesPast$State", "callBack", "(I)I"⟩, prog_8_method_20_code, 3, (some .int), 2, [], [], 6, false)
/-- SinglesPast$State.passDays -/
def tM_50 : av_M := (⟨"SinglesPast$State", "passDays", "(IZ)I"⟩, prog_8_method_21_code, 7, (some .int), 3, [], [], 6, false)
/-- SinglesPast$State.drawnTrainOf -/
def tM_51 : av_M := (⟨"SinglesPast$State", "drawnTrainOf", "(I)I"⟩, prog_8_method_22_code, 4, (some .int), 2, [], [], 6, false)
/-- SinglesPast$State.draw -/
def tM_52 : av_M := (⟨"SinglesPast$State", "draw", "()I"⟩, prog_8_method_23_code, 1, (some .int), 1, [], [], 6, false)
/-- SinglesPast$StationText.read -/
def tM_53 : av_M := (⟨"SinglesPast$StationText", "read", "(LSinglesPast$Tape;LSinglesPast$State;)Z"⟩, prog_9_method_2_code, 3, (some .boolean), 2, [], [], 99, false)
/-- SinglesPast$StationText.readLine -/
def tM_54 : av_M := (⟨"SinglesPast$StationText", "readLine", "(LSinglesPast$Tape;LSinglesPast$State;)Z"⟩, prog_9_method_3_code, 2, (some .boolean), 2, [], [], 99, false)
/-- SinglesPast$StationText.readThing -/
def tM_55 : av_M := (⟨"SinglesPast$StationText", "readThing", "(LSinglesPast$Tape;LSinglesPast$Things;)Z"⟩, prog_9_method_4_code, 5, (some .boolean), 2, [], [], 99, false)
/-- SinglesPast$StationText.readTie -/
def tM_56 : av_M := (⟨"SinglesPast$StationText", "readTie", "(LSinglesPast$Tape;LSinglesPast$Things;Z)Z"⟩, prog_9_method_5_code, 5, (some .boolean), 3, [], [], 99, false)
/-- SinglesPast$StationText.readGoer -/
def tM_57 : av_M := (⟨"SinglesPast$StationText", "readGoer", "(LSinglesPast$Tape;LSinglesPast$State;)Z"⟩, prog_9_method_6_code, 4, (some .boolean), 2, [], [], 99, false)
/-- SinglesPast$StationText.readDeed -/
def tM_58 : av_M := (⟨"SinglesPast$StationText", "readDeed", "(LSinglesPast$Tape;LSinglesPast$State;I)Z"⟩, prog_9_method_7_code, 4, (some .boolean), 3, [], [], 99, false)
/-- SinglesPast$StationText.readBirth -/
def tM_59 : av_M := (⟨"SinglesPast$StationText", "readBirth", "(LSinglesPast$Tape;LSinglesPast$State;I)Z"⟩, prog_9_method_8_code, 3, (some .boolean), 3, [], [], 99, false)
/-- SinglesPast$StationText.readShunning -/
def tM_60 : av_M := (⟨"SinglesPast$StationText", "readShunning", "(LSinglesPast$Tape;LSinglesPast$State;)Z"⟩, prog_9_method_9_code, 3, (some .boolean), 2, [], [], 99, false)
/-- SinglesPast$StationText.readTrain -/
def tM_61 : av_M := (⟨"SinglesPast$StationText", "readTrain", "(LSinglesPast$Tape;LSinglesPast$State;)Z"⟩, prog_9_method_10_code, 4, (some .boolean), 2, [], [], 99, false)
/-- SinglesPast$StationText.readDay -/
def tM_62 : av_M := (⟨"SinglesPast$StationText", "readDay", "(LSinglesPast$Tape;LSinglesPast$State;)Z"⟩, prog_9_method_11_code, 2, (some .boolean), 2, [], [], 99, false)
/-- SinglesPast$Tape.<init> -/
def tM_63 : av_M := (⟨"SinglesPast$Tape", "<init>", "()V"⟩, prog_10_method_1_code, 1, none, 1, [], [], 7, false)
/-- SinglesPast$Tape.append -/
def tM_64 : av_M := (⟨"SinglesPast$Tape", "append", "(I)V"⟩, prog_10_method_2_code, 3, none, 2, [], [], 7, false)
/-- SinglesPast$Tape.open -/
def tM_65 : av_M := (⟨"SinglesPast$Tape", "open", "()V"⟩, prog_10_method_3_code, 1, none, 1, [], [], 7, false)
/-- SinglesPast$Tape.isOver -/
def tM_66 : av_M := (⟨"SinglesPast$Tape", "isOver", "()Z"⟩, prog_10_method_4_code, 1, (some .boolean), 1, [], [], 7, false)
/-- SinglesPast$Tape.moveTo -/
def tM_67 : av_M := (⟨"SinglesPast$Tape", "moveTo", "(I)V"⟩, prog_10_method_5_code, 2, none, 2, [], [], 7, false)
/-- SinglesPast$Tape.refuse -/
def tM_68 : av_M := (⟨"SinglesPast$Tape", "refuse", "()Z"⟩, prog_10_method_6_code, 1, (some .boolean), 1, [], [], 7, false)
/-- SinglesPast$Tape.takeSign -/
def tM_69 : av_M := (⟨"SinglesPast$Tape", "takeSign", "(C)Z"⟩, prog_10_method_7_code, 2, (some .boolean), 2, [], [], 7, false)
/-- SinglesPast$Tape.takeWord -/
def tM_70 : av_M := (⟨"SinglesPast$Tape", "takeWord", "(Ljava/lang/String;)Z"⟩, prog_10_method_8_code, 2, (some .boolean), 2, [], [], 7, false)
/-- SinglesPast$Tape.takeOneOf -/
def tM_71 : av_M := (⟨"SinglesPast$Tape", "takeOneOf", "(Ljava/lang/String;)I"⟩, prog_10_method_9_code, 5, (some .int), 2, [], [], 7, false)
/-- SinglesPast$Tape.isNext -/
def tM_72 : av_M := (⟨"SinglesPast$Tape", "isNext", "(Ljava/lang/String;II)Z"⟩, prog_10_method_10_code, 6, (some .boolean), 4, [], [], 7, false)
/-- SinglesPast$Tape.takeNumber -/
def tM_73 : av_M := (⟨"SinglesPast$Tape", "takeNumber", "(II)Z"⟩, prog_10_method_11_code, 6, (some .boolean), 3, [], [], 7, false)
/-- SinglesPast$Tape.takeStopLetters -/
def tM_74 : av_M := (⟨"SinglesPast$Tape", "takeStopLetters", "()I"⟩, prog_10_method_12_code, 4, (some .int), 1, [], [], 7, false)
/-- SinglesPast$Things.<init> -/
def tM_75 : av_M := (⟨"SinglesPast$Things", "<init>", "()V"⟩, prog_11_method_1_code, 1, none, 1, [], [], 8, false)
/-- SinglesPast$Things.copyFrom -/
def tM_76 : av_M := (⟨"SinglesPast$Things", "copyFrom", "(LSinglesPast$Things;)V"⟩, prog_11_method_2_code, 2, none, 2, [], [], 8, false)
/-- SinglesPast$Things.add -/
def tM_77 : av_M := (⟨"SinglesPast$Things", "add", "(IZI)V"⟩, prog_11_method_3_code, 5, none, 4, [], [], 8, false)
/-- SinglesPast$Things.tie -/
def tM_78 : av_M := (⟨"SinglesPast$Things", "tie", "(IIZ)V"⟩, prog_11_method_4_code, 5, none, 4, [], [], 8, false)
/-- SinglesPast$Things.worthOf -/
def tM_79 : av_M := (⟨"SinglesPast$Things", "worthOf", "(I)I"⟩, prog_11_method_5_code, 4, (some .int), 2, [], [], 8, false)
/-- SinglesPast$Things.looseSet -/
def tM_80 : av_M := (⟨"SinglesPast$Things", "looseSet", "()I"⟩, prog_11_method_6_code, 4, (some .int), 1, [], [], 8, false)
/-- SinglesPast$Things.lineOf -/
def tM_81 : av_M := (⟨"SinglesPast$Things", "lineOf", "(I)I"⟩, prog_11_method_7_code, 5, (some .int), 2, [], [], 8, false)
/-- SinglesPast$Things.longestAhead -/
def tM_82 : av_M := (⟨"SinglesPast$Things", "longestAhead", "(I[I)I"⟩, prog_11_method_8_code, 5, (some .int), 3, [], [], 8, false)
/-- SinglesPast$Worlds.<init> -/
def tM_83 : av_M := (⟨"SinglesPast$Worlds", "<init>", "()V"⟩, prog_12_method_1_code, 1, none, 1, [], [], 9, false)
/-- SinglesPast$Worlds.fill -/
def tM_84 : av_M := (⟨"SinglesPast$Worlds", "fill", "(LSinglesPast$State;II)V"⟩, prog_12_method_2_code, 5, none, 4, [], [], 9, false)
/-- SinglesPast$Worlds.orderByStops -/
def tM_85 : av_M := (⟨"SinglesPast$Worlds", "orderByStops", "(LSinglesPast$Things;)V"⟩, prog_12_method_3_code, 5, none, 2, [], [], 9, false)
/-- SinglesPast$Worlds.turnTies -/
def tM_86 : av_M := (⟨"SinglesPast$Worlds", "turnTies", "(LSinglesPast$Things;)V"⟩, prog_12_method_4_code, 4, none, 2, [], [], 9, false)
/-- SinglesPast$Worlds.findDoers -/
def tM_87 : av_M := (⟨"SinglesPast$Worlds", "findDoers", "(LSinglesPast$State;)V"⟩, prog_12_method_5_code, 4, none, 2, [], [], 9, false)
/-- SinglesPast$Worlds.build -/
def tM_88 : av_M := (⟨"SinglesPast$Worlds", "build", "(II)I"⟩, prog_12_method_6_code, 9, (some .int), 3, [], [], 9, false)
/-- SinglesPast$Worlds.lastMakes -/
def tM_89 : av_M := (⟨"SinglesPast$Worlds", "lastMakes", "(I)Z"⟩, prog_12_method_7_code, 3, (some .boolean), 2, [], [], 9, false)
/-- SinglesPast$Worlds.isAgreeing -/
def tM_90 : av_M := (⟨"SinglesPast$Worlds", "isAgreeing", "(II)Z"⟩, prog_12_method_8_code, 3, (some .boolean), 3, [], [], 9, false)
/-- SinglesPast$Worlds.countAgreeing -/
def tM_91 : av_M := (⟨"SinglesPast$Worlds", "countAgreeing", "(I)I"⟩, prog_12_method_9_code, 4, (some .int), 2, [], [], 9, false)
/-- SinglesPast$Worlds.pastOf -/
def tM_92 : av_M := (⟨"SinglesPast$Worlds", "pastOf", "(I)I"⟩, prog_12_method_10_code, 4, (some .int), 2, [], [], 9, false)
/-- SinglesPast$Worlds.nowOf -/
def tM_93 : av_M := (⟨"SinglesPast$Worlds", "nowOf", "(I)I"⟩, prog_12_method_11_code, 3, (some .int), 2, [], [], 9, false)
/-- SinglesPast.<init> -/
def tM_94 : av_M := (⟨"SinglesPast", "<init>", "()V"⟩, prog_1_method_1_code, 1, none, 1, [], [], 10, false)
/-- SinglesPast.feed -/
def tM_95 : av_M := (⟨"SinglesPast", "feed", "(IIIII)I"⟩, prog_1_method_2_code, 6, (some .int), 6, [], [], 10, false)
/-- SinglesPast.end -/
def tM_96 : av_M := (⟨"SinglesPast", "end", "(I)Z"⟩, prog_1_method_3_code, 2, (some .boolean), 2, [], [], 10, false)
/-- SinglesPast.station -/
def tM_97 : av_M := (⟨"SinglesPast", "station", "()I"⟩, prog_1_method_4_code, 1, (some .int), 1, [], [], 10, true)
/-- SinglesPast.law -/
def tM_98 : av_M := (⟨"SinglesPast", "law", "()I"⟩, prog_1_method_5_code, 1, (some .int), 1, [], [], 10, true)
/-- SinglesPast.closeText -/
def tM_99 : av_M := (⟨"SinglesPast", "closeText", "(Z)V"⟩, prog_1_method_6_code, 2, none, 2, [], [], 10, true)
/-- SinglesPast.forgetActs -/
def tM_100 : av_M := (⟨"SinglesPast", "forgetActs", "()V"⟩, prog_1_method_7_code, 1, none, 1, [], [], 10, false)
/-- SinglesPast.fault -/
def tM_101 : av_M := (⟨"SinglesPast", "fault", "()I"⟩, prog_1_method_8_code, 1, (some .int), 1, [], [], 10, false)
/-- SinglesPast.thing -/
def tM_102 : av_M := (⟨"SinglesPast", "thing", "(II)I"⟩, prog_1_method_9_code, 3, (some .int), 3, [], [], 10, true)
/-- SinglesPast.goer -/
def tM_103 : av_M := (⟨"SinglesPast", "goer", "(II)I"⟩, prog_1_method_10_code, 3, (some .int), 3, [], [], 10, true)
/-- SinglesPast.train -/
def tM_104 : av_M := (⟨"SinglesPast", "train", "(II)I"⟩, prog_1_method_11_code, 3, (some .int), 3, [], [], 10, true)
/-- SinglesPast.latestStop -/
def tM_105 : av_M := (⟨"SinglesPast", "latestStop", "(I)I"⟩, prog_1_method_12_code, 4, (some .int), 2, [], [], 10, false)
/-- SinglesPast.shareOf -/
def tM_106 : av_M := (⟨"SinglesPast", "shareOf", "(I)I"⟩, prog_1_method_13_code, 3, (some .int), 2, [], [], 10, false)
/-- SinglesPast.cost -/
def tM_107 : av_M := (⟨"SinglesPast", "cost", "(II)I"⟩, prog_1_method_14_code, 3, (some .int), 3, [], [], 10, true)
/-- SinglesPast.fear -/
def tM_108 : av_M := (⟨"SinglesPast", "fear", "(II)I"⟩, prog_1_method_15_code, 3, (some .int), 3, [], [], 10, true)
/-- SinglesPast.may -/
def tM_109 : av_M := (⟨"SinglesPast", "may", "(II)Z"⟩, prog_1_method_16_code, 3, (some .boolean), 3, [], [], 10, true)
/-- SinglesPast.days -/
def tM_110 : av_M := (⟨"SinglesPast", "days", "(I)I"⟩, prog_1_method_17_code, 2, (some .int), 2, [], [], 10, true)
/-- SinglesPast.sell -/
def tM_111 : av_M := (⟨"SinglesPast", "sell", "(II)I"⟩, prog_1_method_18_code, 3, (some .int), 3, [], [], 10, true)
/-- SinglesPast.pay -/
def tM_112 : av_M := (⟨"SinglesPast", "pay", "(II)I"⟩, prog_1_method_19_code, 3, (some .int), 3, [], [], 10, true)
/-- SinglesPast.nerve -/
def tM_113 : av_M := (⟨"SinglesPast", "nerve", "(II)I"⟩, prog_1_method_20_code, 4, (some .int), 3, [], [], 10, true)
/-- SinglesPast.wish -/
def tM_114 : av_M := (⟨"SinglesPast", "wish", "(II)I"⟩, prog_1_method_21_code, 4, (some .int), 3, [], [], 10, true)
/-- SinglesPast.deed -/
def tM_115 : av_M := (⟨"SinglesPast", "deed", "(IIZ)I"⟩, prog_1_method_22_code, 5, (some .int), 4, [], [], 10, true)
/-- SinglesPast.quarrel -/
def tM_116 : av_M := (⟨"SinglesPast", "quarrel", "(IIZ)Z"⟩, prog_1_method_23_code, 5, (some .boolean), 4, [], [], 10, true)
/-- SinglesPast.stops -/
def tM_117 : av_M := (⟨"SinglesPast", "stops", "(II)I"⟩, prog_1_method_24_code, 4, (some .int), 3, [], [], 10, true)
/-- SinglesPast.recall -/
def tM_118 : av_M := (⟨"SinglesPast", "recall", "(I)I"⟩, prog_1_method_25_code, 2, (some .int), 2, [], [], 10, true)
/-- SinglesPast.beginAct -/
def tM_119 : av_M := (⟨"SinglesPast", "beginAct", "()V"⟩, prog_1_method_26_code, 1, none, 1, [], [], 10, false)
/-- SinglesPast.world -/
def tM_120 : av_M := (⟨"SinglesPast", "world", "(I)I"⟩, prog_1_method_27_code, 2, (some .int), 2, [], [], 10, false)
/-- SinglesPast.agrees -/
def tM_121 : av_M := (⟨"SinglesPast", "agrees", "(I)Z"⟩, prog_1_method_28_code, 2, (some .boolean), 2, [], [], 10, false)
/-- SinglesPast.agree -/
def tM_122 : av_M := (⟨"SinglesPast", "agree", "()I"⟩, prog_1_method_29_code, 1, (some .int), 1, [], [], 10, false)
/-- SinglesPast.past -/
def tM_123 : av_M := (⟨"SinglesPast", "past", "()I"⟩, prog_1_method_30_code, 1, (some .int), 1, [], [], 10, false)
/-- SinglesPast.now -/
def tM_124 : av_M := (⟨"SinglesPast", "now", "()I"⟩, prog_1_method_31_code, 1, (some .int), 1, [], [], 10, false)
/-- SinglesPast.ring -/
def tM_125 : av_M := (⟨"SinglesPast", "ring", "()I"⟩, prog_1_method_32_code, 6, (some .int), 1, [], [], 10, false)
/-- SinglesPast.otherwise -/
def tM_126 : av_M := (⟨"SinglesPast", "otherwise", "(I)I"⟩, prog_1_method_33_code, 2, (some .int), 2, [], [], 10, true)
/-- SinglesPast.heavy -/
def tM_127 : av_M := (⟨"SinglesPast", "heavy", "()I"⟩, prog_1_method_34_code, 5, (some .int), 1, [], [], 10, false)
/-- SinglesPast.freshWorlds -/
def tM_128 : av_M := (⟨"SinglesPast", "freshWorlds", "()LSinglesPast$Worlds;"⟩, prog_1_method_35_code, 1, (some (.object "SinglesPast$Worlds")), 1, [], [], 10, false)
/-- SinglesPast.soNow -/
def tM_129 : av_M := (⟨"SinglesPast", "soNow", "()I"⟩, prog_1_method_36_code, 1, (some .int), 1, [], [], 10, false)
/-- SinglesPast.changesBy -/
def tM_130 : av_M := (⟨"SinglesPast", "changesBy", "(I)I"⟩, prog_1_method_37_code, 2, (some .int), 2, [], [], 10, false)
/-- SinglesPast.isFewer -/
def tM_131 : av_M := (⟨"SinglesPast", "isFewer", "(II)Z"⟩, prog_1_method_38_code, 2, (some .boolean), 2, [], [], 10, false)
/-- SinglesPast.send -/
def tM_132 : av_M := (⟨"SinglesPast", "send", "()I"⟩, prog_1_method_39_code, 6, (some .int), 1, [], [], 10, true)
/-- SinglesPast.who -/
def tM_133 : av_M := (⟨"SinglesPast", "who", "(Z)I"⟩, prog_1_method_40_code, 5, (some .int), 2, [], [], 10, true)
/-- SinglesPast.look -/
def tM_134 : av_M := (⟨"SinglesPast", "look", "()I"⟩, prog_1_method_41_code, 8, (some .int), 1, [], [], 10, true)
/-- SinglesPast.readTold -/
def tM_135 : av_M := (⟨"SinglesPast", "readTold", "()V"⟩, prog_1_method_42_code, 6, none, 1, [], [], 10, true)
/-- SinglesPast.isTold -/
def tM_136 : av_M := (⟨"SinglesPast", "isTold", "(I)Z"⟩, prog_1_method_43_code, 2, (some .boolean), 2, [], [], 10, false)
/-- SinglesPast.comesAbout -/
def tM_137 : av_M := (⟨"SinglesPast", "comesAbout", "(LSinglesPast$Worlds;I)Z"⟩, prog_1_method_44_code, 4, (some .boolean), 3, [], [], 10, false)
/-- SinglesPast.fits -/
def tM_138 : av_M := (⟨"SinglesPast", "fits", "(LSinglesPast$Worlds;I)Z"⟩, prog_1_method_45_code, 3, (some .boolean), 3, [], [], 10, false)
/-- SinglesPast.countFitting -/
def tM_139 : av_M := (⟨"SinglesPast", "countFitting", "(LSinglesPast$Worlds;I)I"⟩, prog_1_method_46_code, 6, (some .int), 3, [], [], 10, false)
/-- SinglesPast.hangs -/
def tM_140 : av_M := (⟨"SinglesPast", "hangs", "(I)I"⟩, prog_1_method_47_code, 2, (some .int), 2, [], [], 10, true)
/-- SinglesPast.key -/
def tM_141 : av_M := (⟨"SinglesPast", "key", "()I"⟩, prog_1_method_48_code, 5, (some .int), 1, [], [], 10, false)
/-- SinglesPast.hangingOn -/
def tM_142 : av_M := (⟨"SinglesPast", "hangingOn", "(I)I"⟩, prog_1_method_49_code, 3, (some .int), 2, [], [], 10, false)
/-- SinglesPast.loose -/
def tM_143 : av_M := (⟨"SinglesPast", "loose", "()I"⟩, prog_1_method_50_code, 1, (some .int), 1, [], [], 10, false)
/-- SinglesPast.kills -/
def tM_144 : av_M := (⟨"SinglesPast", "kills", "(II)Z"⟩, prog_1_method_51_code, 3, (some .boolean), 3, [], [], 10, true)
/-- SinglesPast.colours -/
def tM_145 : av_M := (⟨"SinglesPast", "colours", "(I)I"⟩, prog_1_method_52_code, 3, (some .int), 2, [], [], 10, true)
/-- SinglesPast.clash -/
def tM_146 : av_M := (⟨"SinglesPast", "clash", "()I"⟩, prog_1_method_53_code, 5, (some .int), 1, [], [], 10, false)
/-- SinglesPast.price -/
def tM_147 : av_M := (⟨"SinglesPast", "price", "(IZ)I"⟩, prog_1_method_54_code, 4, (some .int), 3, [], [], 10, true)
/-- SinglesPast.dearest -/
def tM_148 : av_M := (⟨"SinglesPast", "dearest", "()I"⟩, prog_1_method_55_code, 5, (some .int), 1, [], [], 10, false)
/-- SinglesPast.bestPrice -/
def tM_149 : av_M := (⟨"SinglesPast", "bestPrice", "(I)I"⟩, prog_1_method_56_code, 7, (some .int), 2, [], [], 10, false)
/-- SinglesPast.earningsAt -/
def tM_150 : av_M := (⟨"SinglesPast", "earningsAt", "(II)I"⟩, prog_1_method_57_code, 6, (some .int), 3, [], [], 10, false)
/-- SinglesPast.crowd -/
def tM_151 : av_M := (⟨"SinglesPast", "crowd", "(I)I"⟩, prog_1_method_58_code, 4, (some .int), 2, [], [], 10, true)
/-- SinglesPast.asks -/
def tM_152 : av_M := (⟨"SinglesPast", "asks", "(IZ)I"⟩, prog_1_method_59_code, 5, (some .int), 3, [], [], 10, false)
/-- SinglesPast.questionsFor -/
def tM_153 : av_M := (⟨"SinglesPast", "questionsFor", "(I)I"⟩, prog_1_method_60_code, 3, (some .int), 1, [], [], 10, false)
/-- SinglesPast.openingOf -/
def tM_154 : av_M := (⟨"SinglesPast", "openingOf", "(II)I"⟩, prog_1_method_61_code, 5, (some .int), 2, [], [], 10, false)
/-- SinglesPast.pick -/
def tM_155 : av_M := (⟨"SinglesPast", "pick", "(IZ)I"⟩, prog_1_method_62_code, 7, (some .int), 3, [], [], 10, true)
/-- SinglesPast.ordersThatPickBest -/
def tM_156 : av_M := (⟨"SinglesPast", "ordersThatPickBest", "(II)I"⟩, prog_1_method_63_code, 5, (some .int), 2, [], [], 10, false)
/-- SinglesPast.pairs -/
def tM_157 : av_M := (⟨"SinglesPast", "pairs", "(I)I"⟩, prog_1_method_64_code, 3, (some .int), 2, [], [], 10, true)
/-- SinglesPast.rests -/
def tM_158 : av_M := (⟨"SinglesPast", "rests", "(I)I"⟩, prog_1_method_65_code, 8, (some .int), 2, [], [], 10, true)
/-- SinglesPast.manHas -/
def tM_159 : av_M := (⟨"SinglesPast", "manHas", "(III)I"⟩, prog_1_method_66_code, 3, (some .int), 3, [], [], 10, false)
/-- SinglesPast.clerkHas -/
def tM_160 : av_M := (⟨"SinglesPast", "clerkHas", "(II)I"⟩, prog_1_method_67_code, 2, (some .int), 2, [], [], 10, false)
/-- SinglesPast.odds -/
def tM_161 : av_M := (⟨"SinglesPast", "odds", "(II)I"⟩, prog_1_method_68_code, 7, (some .int), 3, [], [], 10, true)
/-- SinglesPast.brave -/
def tM_162 : av_M := (⟨"SinglesPast", "brave", "()I"⟩, prog_1_method_69_code, 4, (some .int), 1, [], [], 10, false)
/-- SinglesPast.gone -/
def tM_163 : av_M := (⟨"SinglesPast", "gone", "()I"⟩, prog_1_method_70_code, 1, (some .int), 1, [], [], 10, false)
/-- SinglesPast.unborn -/
def tM_164 : av_M := (⟨"SinglesPast", "unborn", "()I"⟩, prog_1_method_71_code, 1, (some .int), 1, [], [], 10, false)
/-- SinglesPast.twins -/
def tM_165 : av_M := (⟨"SinglesPast", "twins", "()I"⟩, prog_1_method_72_code, 4, (some .int), 1, [], [], 10, false)
/-- SinglesPast.worth -/
def tM_166 : av_M := (⟨"SinglesPast", "worth", "()I"⟩, prog_1_method_73_code, 1, (some .int), 1, [], [], 10, false)
/-- SinglesPast.empty -/
def tM_167 : av_M := (⟨"SinglesPast", "empty", "()I"⟩, prog_1_method_74_code, 3, (some .int), 1, [], [], 10, false)
/-- SinglesPast.never -/
def tM_168 : av_M := (⟨"SinglesPast", "never", "()I"⟩, prog_1_method_75_code, 1, (some .int), 1, [], [], 10, false)
/-- SinglesPast.ahead -/
def tM_169 : av_M := (⟨"SinglesPast", "ahead", "(II)I"⟩, prog_1_method_76_code, 3, (some .int), 3, [], [], 10, true)
/-- SinglesPast.trial -/
def tM_170 : av_M := (⟨"SinglesPast", "trial", "(IZ)I"⟩, prog_1_method_77_code, 4, (some .int), 3, [], [], 10, true)
/-- SinglesPast.span -/
def tM_171 : av_M := (⟨"SinglesPast", "span", "(IZ)I"⟩, prog_1_method_78_code, 7, (some .int), 3, [], [], 10, true)
/-- SinglesPast.led -/
def tM_172 : av_M := (⟨"SinglesPast", "led", "(IZ)I"⟩, prog_1_method_79_code, 3, (some .int), 3, [], [], 10, true)
/-- SinglesPast.log -/
def tM_173 : av_M := (⟨"SinglesPast", "log", "(II)I"⟩, prog_1_method_80_code, 3, (some .int), 3, [], [], 10, true)
/-- SinglesPast.seed -/
def tM_174 : av_M := (⟨"SinglesPast", "seed", "(I)I"⟩, prog_1_method_81_code, 3, (some .int), 2, [], [], 10, false)
/-- SinglesPast.undo -/
def tM_175 : av_M := (⟨"SinglesPast", "undo", "()Z"⟩, prog_1_method_82_code, 2, (some .boolean), 1, [], [], 10, false)
/-- SinglesPast.image -/
def tM_176 : av_M := (⟨"SinglesPast", "image", "()V"⟩, prog_1_method_83_code, 1, none, 1, [], [], 10, false)
/-- SinglesPast.back -/
def tM_177 : av_M := (⟨"SinglesPast", "back", "()Z"⟩, prog_1_method_84_code, 1, (some .boolean), 1, [], [], 10, false)
/-- SinglesPast.count -/
def tM_178 : av_M := (⟨"SinglesPast", "count", "(I)I"⟩, prog_1_method_85_code, 2, (some .int), 2, [], [], 10, false)
/-- SinglesPast.needStop -/
def tM_179 : av_M := (⟨"SinglesPast", "needStop", "(I)V"⟩, prog_1_method_86_code, 1, none, 1, [], [], 10, true)
/-- SinglesPast.needThing -/
def tM_180 : av_M := (⟨"SinglesPast", "needThing", "(I)V"⟩, prog_1_method_87_code, 2, none, 2, [], [], 10, true)
/-- SinglesPast.needGoer -/
def tM_181 : av_M := (⟨"SinglesPast", "needGoer", "(I)V"⟩, prog_1_method_88_code, 2, none, 2, [], [], 10, true)
/-- SinglesPast.needTwoGoers -/
def tM_182 : av_M := (⟨"SinglesPast", "needTwoGoers", "(II)V"⟩, prog_1_method_89_code, 3, none, 3, [], [], 10, true)
/-- SinglesPast.needTrain -/
def tM_183 : av_M := (⟨"SinglesPast", "needTrain", "(I)V"⟩, prog_1_method_90_code, 2, none, 2, [], [], 10, true)
/-- SinglesPast.needNotGone -/
def tM_184 : av_M := (⟨"SinglesPast", "needNotGone", "(I)V"⟩, prog_1_method_91_code, 2, none, 2, [], [], 10, true)
/-- SinglesPast.needTrialDays -/
def tM_185 : av_M := (⟨"SinglesPast", "needTrialDays", "(I)V"⟩, prog_1_method_92_code, 1, none, 1, [], [], 10, true)
/-- SinglesPastModel.thrown -/
def tM_186 : av_M := (⟨"SinglesPastModel", "thrown", "()I"⟩, prog_14_method_1_code, 1, (some .int), 1, [], [], 11, false)
/-- SinglesPastModel.throwsIf -/
def tM_187 : av_M := (⟨"SinglesPastModel", "throwsIf", "(ZI)Z"⟩, prog_14_method_2_code, 3, (some .boolean), 3, [], [], 11, false)
/-- SinglesPastModel.in -/
def tM_188 : av_M := (⟨"SinglesPastModel", "in", "(III)Z"⟩, prog_14_method_3_code, 3, (some .boolean), 3, [], [], 11, false)
/-- SinglesPastModel.has -/
def tM_189 : av_M := (⟨"SinglesPastModel", "has", "(II)Z"⟩, prog_14_method_4_code, 2, (some .boolean), 2, [], [], 11, false)
/-- SinglesPastModel.<init> -/
def tM_190 : av_M := (⟨"SinglesPastModel", "<init>", "()V"⟩, prog_14_method_5_code, 1, none, 1, [], [], 11, false)
/-- SinglesPastModel.image -/
def tM_191 : av_M := (⟨"SinglesPastModel", "image", "()V"⟩, prog_14_method_6_code, 2, none, 1, [], [], 11, false)
/-- SinglesPastModel.back -/
def tM_192 : av_M := (⟨"SinglesPastModel", "back", "()Z"⟩, prog_14_method_7_code, 2, (some .boolean), 1, [], [], 11, false)
/-- SinglesPastModel.remembers -/
def tM_193 : av_M := (⟨"SinglesPastModel", "remembers", "()V"⟩, prog_14_method_8_code, 2, none, 1, [], [], 11, false)
/-- SinglesPastModel.undo -/
def tM_194 : av_M := (⟨"SinglesPastModel", "undo", "()Z"⟩, prog_14_method_9_code, 2, (some .boolean), 1, [], [], 11, false)
/-- SinglesPastModel.keepsAll -/
def tM_195 : av_M := (⟨"SinglesPastModel", "keepsAll", "()V"⟩, prog_14_method_10_code, 2, none, 1, [], [], 11, false)
/-- SinglesPastModel.bringsBack -/
def tM_196 : av_M := (⟨"SinglesPastModel", "bringsBack", "()V"⟩, prog_14_method_11_code, 2, none, 1, [], [], 11, false)
/-- SinglesPastModel.things -/
def tM_197 : av_M := (⟨"SinglesPastModel", "things", "()I"⟩, prog_14_method_12_code, 1, (some .int), 1, [], [], 11, false)
/-- SinglesPastModel.goers -/
def tM_198 : av_M := (⟨"SinglesPastModel", "goers", "()I"⟩, prog_14_method_13_code, 1, (some .int), 1, [], [], 11, false)
/-- SinglesPastModel.trains -/
def tM_199 : av_M := (⟨"SinglesPastModel", "trains", "()I"⟩, prog_14_method_14_code, 1, (some .int), 1, [], [], 11, false)
/-- SinglesPastModel.thingAt -/
def tM_200 : av_M := (⟨"SinglesPastModel", "thingAt", "(II)I"⟩, prog_14_method_15_code, 2, (some .int), 2, [], [], 11, false)
/-- SinglesPastModel.ofThing -/
def tM_201 : av_M := (⟨"SinglesPastModel", "ofThing", "(II)I"⟩, prog_14_method_16_code, 3, (some .int), 3, [], [], 11, false)
/-- SinglesPastModel.at -/
def tM_202 : av_M := (⟨"SinglesPastModel", "at", "(II)I"⟩, prog_14_method_17_code, 2, (some .int), 2, [], [], 11, false)
/-- SinglesPastModel.of -/
def tM_203 : av_M := (⟨"SinglesPastModel", "of", "(II)I"⟩, prog_14_method_18_code, 3, (some .int), 3, [], [], 11, false)
/-- SinglesPastModel.trainAt -/
def tM_204 : av_M := (⟨"SinglesPastModel", "trainAt", "(II)I"⟩, prog_14_method_19_code, 2, (some .int), 2, [], [], 11, false)
/-- SinglesPastModel.ofTrain -/
def tM_205 : av_M := (⟨"SinglesPastModel", "ofTrain", "(II)I"⟩, prog_14_method_20_code, 3, (some .int), 3, [], [], 11, false)
/-- SinglesPastModel.everybody -/
def tM_206 : av_M := (⟨"SinglesPastModel", "everybody", "()I"⟩, prog_14_method_21_code, 1, (some .int), 1, [], [], 11, false)
/-- SinglesPastModel.isGone -/
def tM_207 : av_M := (⟨"SinglesPastModel", "isGone", "(I)Z"⟩, prog_14_method_22_code, 2, (some .boolean), 2, [], [], 11, false)
/-- SinglesPastModel.goneOnes -/
def tM_208 : av_M := (⟨"SinglesPastModel", "goneOnes", "()I"⟩, prog_14_method_23_code, 3, (some .int), 1, [], [], 11, false)
/-- SinglesPastModel.goneBy -/
def tM_209 : av_M := (⟨"SinglesPastModel", "goneBy", "(I)I"⟩, prog_14_method_24_code, 4, (some .int), 2, [], [], 11, false)
/-- SinglesPastModel.noThing -/
def tM_210 : av_M := (⟨"SinglesPastModel", "noThing", "(I)Z"⟩, prog_14_method_25_code, 2, (some .boolean), 2, [], [], 11, false)
/-- SinglesPastModel.noGoer -/
def tM_211 : av_M := (⟨"SinglesPastModel", "noGoer", "(I)Z"⟩, prog_14_method_26_code, 2, (some .boolean), 2, [], [], 11, false)
/-- SinglesPastModel.noTrain -/
def tM_212 : av_M := (⟨"SinglesPastModel", "noTrain", "(I)Z"⟩, prog_14_method_27_code, 2, (some .boolean), 2, [], [], 11, false)
/-- SinglesPastModel.noStop -/
def tM_213 : av_M := (⟨"SinglesPastModel", "noStop", "(I)Z"⟩, prog_14_method_28_code, 1, (some .boolean), 1, [], [], 11, false)
/-- SinglesPastModel.drawn -/
def tM_214 : av_M := (⟨"SinglesPastModel", "drawn", "(I)I"⟩, prog_14_method_29_code, 2, (some .int), 2, [], [], 11, false)
/-- SinglesPastModel.feed -/
def tM_215 : av_M := (⟨"SinglesPastModel", "feed", "(IIIII)I"⟩, prog_14_method_30_code, 7, (some .int), 6, [], [], 11, false)
/-- SinglesPastModel.end -/
def tM_216 : av_M := (⟨"SinglesPastModel", "end", "(I)Z"⟩, prog_14_method_31_code, 2, (some .boolean), 2, [], [], 11, false)
/-- SinglesPastModel.isAt -/
def tM_217 : av_M := (⟨"SinglesPastModel", "isAt", "(II)Z"⟩, prog_14_method_32_code, 3, (some .boolean), 3, [], [], 11, false)
/-- SinglesPastModel.blanks -/
def tM_218 : av_M := (⟨"SinglesPastModel", "blanks", "()V"⟩, prog_14_method_33_code, 1, none, 1, [], [], 11, false)
/-- SinglesPastModel.letters -/
def tM_219 : av_M := (⟨"SinglesPastModel", "letters", "()V"⟩, prog_14_method_34_code, 1, none, 1, [], [], 11, false)
/-- SinglesPastModel.isWord -/
def tM_220 : av_M := (⟨"SinglesPastModel", "isWord", "(Ljava/lang/String;)Z"⟩, prog_14_method_35_code, 4, (some .boolean), 2, [], [], 11, false)
/-- SinglesPastModel.passes -/
def tM_221 : av_M := (⟨"SinglesPastModel", "passes", "(Ljava/lang/String;)Z"⟩, prog_14_method_36_code, 2, (some .boolean), 2, [], [], 11, false)
/-- SinglesPastModel.sign -/
def tM_222 : av_M := (⟨"SinglesPastModel", "sign", "(I)Z"⟩, prog_14_method_37_code, 2, (some .boolean), 2, [], [], 11, false)
/-- SinglesPastModel.number -/
def tM_223 : av_M := (⟨"SinglesPastModel", "number", "(II)I"⟩, prog_14_method_38_code, 4, (some .int), 3, [], [], 11, false)
/-- SinglesPastModel.behind -/
def tM_224 : av_M := (⟨"SinglesPastModel", "behind", "(Ljava/lang/String;II)I"⟩, prog_14_method_39_code, 4, (some .int), 4, [], [], 11, false)
/-- SinglesPastModel.told -/
def tM_225 : av_M := (⟨"SinglesPastModel", "told", "(Ljava/lang/String;II)I"⟩, prog_14_method_40_code, 5, (some .int), 4, [], [], 11, false)
/-- SinglesPastModel.fault -/
def tM_226 : av_M := (⟨"SinglesPastModel", "fault", "()I"⟩, prog_14_method_41_code, 1, (some .int), 1, [], [], 11, false)
/-- SinglesPastModel.uses -/
def tM_227 : av_M := (⟨"SinglesPastModel", "uses", "()V"⟩, prog_14_method_42_code, 1, none, 1, [], [], 11, false)
/-- SinglesPastModel.readNumber -/
def tM_228 : av_M := (⟨"SinglesPastModel", "readNumber", "(III)Z"⟩, prog_14_method_43_code, 5, (some .boolean), 4, [], [], 11, false)
/-- SinglesPastModel.readThing -/
def tM_229 : av_M := (⟨"SinglesPastModel", "readThing", "()Z"⟩, prog_14_method_44_code, 5, (some .boolean), 1, [], [], 11, false)
/-- SinglesPastModel.readLink -/
def tM_230 : av_M := (⟨"SinglesPastModel", "readLink", "(II)Z"⟩, prog_14_method_45_code, 5, (some .boolean), 3, [], [], 11, false)
/-- SinglesPastModel.readGoer -/
def tM_231 : av_M := (⟨"SinglesPastModel", "readGoer", "()Z"⟩, prog_14_method_46_code, 8, (some .boolean), 1, [], [], 11, false)
/-- SinglesPastModel.readShuns -/
def tM_232 : av_M := (⟨"SinglesPastModel", "readShuns", "()Z"⟩, prog_14_method_47_code, 3, (some .boolean), 1, [], [], 11, false)
/-- SinglesPastModel.stopsTold -/
def tM_233 : av_M := (⟨"SinglesPastModel", "stopsTold", "()I"⟩, prog_14_method_48_code, 5, (some .int), 1, [], [], 11, false)
/-- SinglesPastModel.readTrain -/
def tM_234 : av_M := (⟨"SinglesPastModel", "readTrain", "()Z"⟩, prog_14_method_49_code, 4, (some .boolean), 1, [], [], 11, false)
/-- SinglesPastModel.readStationLine -/
def tM_235 : av_M := (⟨"SinglesPastModel", "readStationLine", "()Z"⟩, prog_14_method_50_code, 1, (some .boolean), 1, [], [], 11, false)
/-- SinglesPastModel.emits -/
def tM_236 : av_M := (⟨"SinglesPastModel", "emits", "(II)V"⟩, prog_14_method_51_code, 3, none, 3, [], [], 11, false)
/-- SinglesPastModel.wordOfPart -/
def tM_237 : av_M := (⟨"SinglesPastModel", "wordOfPart", "()I"⟩, prog_14_method_52_code, 1, (some .int), 1, [], [], 11, false)
/-- SinglesPastModel.readPart -/
def tM_238 : av_M := (⟨"SinglesPastModel", "readPart", "()Z"⟩, prog_14_method_53_code, 3, (some .boolean), 1, [], [], 11, false)
/-- SinglesPastModel.readSum -/
def tM_239 : av_M := (⟨"SinglesPastModel", "readSum", "()Z"⟩, prog_14_method_54_code, 1, (some .boolean), 1, [], [], 11, false)
/-- SinglesPastModel.readTag -/
def tM_240 : av_M := (⟨"SinglesPastModel", "readTag", "()Z"⟩, prog_14_method_55_code, 2, (some .boolean), 1, [], [], 11, false)
/-- SinglesPastModel.readAtom -/
def tM_241 : av_M := (⟨"SinglesPastModel", "readAtom", "()Z"⟩, prog_14_method_56_code, 2, (some .boolean), 1, [], [], 11, false)
/-- SinglesPastModel.readAllOf -/
def tM_242 : av_M := (⟨"SinglesPastModel", "readAllOf", "()Z"⟩, prog_14_method_57_code, 1, (some .boolean), 1, [], [], 11, false)
/-- SinglesPastModel.readCond -/
def tM_243 : av_M := (⟨"SinglesPastModel", "readCond", "()Z"⟩, prog_14_method_58_code, 1, (some .boolean), 1, [], [], 11, false)
/-- SinglesPastModel.readLawLine -/
def tM_244 : av_M := (⟨"SinglesPastModel", "readLawLine", "(I)Z"⟩, prog_14_method_59_code, 3, (some .boolean), 2, [], [], 11, false)
/-- SinglesPastModel.readLine -/
def tM_245 : av_M := (⟨"SinglesPastModel", "readLine", "(ZI)Z"⟩, prog_14_method_60_code, 3, (some .boolean), 3, [], [], 11, false)
/-- SinglesPastModel.readAll -/
def tM_246 : av_M := (⟨"SinglesPastModel", "readAll", "(Z)I"⟩, prog_14_method_61_code, 3, (some .int), 2, [], [], 11, false)
/-- SinglesPastModel.station -/
def tM_247 : av_M := (⟨"SinglesPastModel", "station", "()I"⟩, prog_14_method_62_code, 3, (some .int), 1, [], [], 11, false)
/-- SinglesPastModel.law -/
def tM_248 : av_M := (⟨"SinglesPastModel", "law", "()I"⟩, prog_14_method_63_code, 3, (some .int), 1, [], [], 11, false)
/-- SinglesPastModel.factOf -/
def tM_249 : av_M := (⟨"SinglesPastModel", "factOf", "(IIII)I"⟩, prog_14_method_64_code, 5, (some .int), 5, [], [], 11, false)
/-- SinglesPastModel.holdsLine -/
def tM_250 : av_M := (⟨"SinglesPastModel", "holdsLine", "(III)Z"⟩, prog_14_method_65_code, 11, (some .boolean), 4, [], [], 11, false)
/-- SinglesPastModel.sumOf -/
def tM_251 : av_M := (⟨"SinglesPastModel", "sumOf", "(III)I"⟩, prog_14_method_66_code, 6, (some .int), 4, [], [], 11, false)
/-- SinglesPastModel.isBarred -/
def tM_252 : av_M := (⟨"SinglesPastModel", "isBarred", "(II)Z"⟩, prog_14_method_67_code, 5, (some .boolean), 3, [], [], 11, false)
/-- SinglesPastModel.costOf -/
def tM_253 : av_M := (⟨"SinglesPastModel", "costOf", "(II)I"⟩, prog_14_method_68_code, 3, (some .int), 3, [], [], 11, false)
/-- SinglesPastModel.fearOf -/
def tM_254 : av_M := (⟨"SinglesPastModel", "fearOf", "(II)I"⟩, prog_14_method_69_code, 3, (some .int), 3, [], [], 11, false)
/-- SinglesPastModel.stopsFor -/
def tM_255 : av_M := (⟨"SinglesPastModel", "stopsFor", "(II)Z"⟩, prog_14_method_70_code, 3, (some .boolean), 3, [], [], 11, false)
/-- SinglesPastModel.meetsNone -/
def tM_256 : av_M := (⟨"SinglesPastModel", "meetsNone", "(II)Z"⟩, prog_14_method_71_code, 5, (some .boolean), 3, [], [], 11, false)
/-- SinglesPastModel.canGo -/
def tM_257 : av_M := (⟨"SinglesPastModel", "canGo", "(II)Z"⟩, prog_14_method_72_code, 3, (some .boolean), 3, [], [], 11, false)
/-- SinglesPastModel.trainOf -/
def tM_258 : av_M := (⟨"SinglesPastModel", "trainOf", "(I)I"⟩, prog_14_method_73_code, 4, (some .int), 2, [], [], 11, false)
/-- SinglesPastModel.isTold -/
def tM_259 : av_M := (⟨"SinglesPastModel", "isTold", "(III)V"⟩, prog_14_method_74_code, 5, none, 4, [], [], 11, false)
/-- SinglesPastModel.isSold -/
def tM_260 : av_M := (⟨"SinglesPastModel", "isSold", "(II)I"⟩, prog_14_method_75_code, 4, (some .int), 3, [], [], 11, false)
/-- SinglesPastModel.decides -/
def tM_261 : av_M := (⟨"SinglesPastModel", "decides", "(IZ)Z"⟩, prog_14_method_76_code, 5, (some .boolean), 3, [], [], 11, false)
/-- SinglesPastModel.oneDay -/
def tM_262 : av_M := (⟨"SinglesPastModel", "oneDay", "(Z)I"⟩, prog_14_method_77_code, 4, (some .int), 2, [], [], 11, false)
/-- SinglesPastModel.goesOn -/
def tM_263 : av_M := (⟨"SinglesPastModel", "goesOn", "(IZ)I"⟩, prog_14_method_78_code, 5, (some .int), 3, [], [], 11, false)
/-- SinglesPastModel.isSo -/
def tM_264 : av_M := (⟨"SinglesPastModel", "isSo", "(II)Z"⟩, prog_14_method_79_code, 6, (some .boolean), 3, [], [], 11, false)
/-- SinglesPastModel.worldOf -/
def tM_265 : av_M := (⟨"SinglesPastModel", "worldOf", "(I)I"⟩, prog_14_method_80_code, 4, (some .int), 2, [], [], 11, false)
/-- SinglesPastModel.bornIn -/
def tM_266 : av_M := (⟨"SinglesPastModel", "bornIn", "(II)I"⟩, prog_14_method_81_code, 5, (some .int), 3, [], [], 11, false)
/-- SinglesPastModel.agreesBy -/
def tM_267 : av_M := (⟨"SinglesPastModel", "agreesBy", "(II)Z"⟩, prog_14_method_82_code, 3, (some .boolean), 3, [], [], 11, false)
/-- SinglesPastModel.pastBy -/
def tM_268 : av_M := (⟨"SinglesPastModel", "pastBy", "(I)I"⟩, prog_14_method_83_code, 4, (some .int), 2, [], [], 11, false)
/-- SinglesPastModel.nowBy -/
def tM_269 : av_M := (⟨"SinglesPastModel", "nowBy", "(I)I"⟩, prog_14_method_84_code, 3, (some .int), 2, [], [], 11, false)
/-- SinglesPastModel.manyAgree -/
def tM_270 : av_M := (⟨"SinglesPastModel", "manyAgree", "()I"⟩, prog_14_method_85_code, 3, (some .int), 1, [], [], 11, false)
/-- SinglesPastModel.world -/
def tM_271 : av_M := (⟨"SinglesPastModel", "world", "(I)I"⟩, prog_14_method_86_code, 2, (some .int), 2, [], [], 11, false)
/-- SinglesPastModel.agrees -/
def tM_272 : av_M := (⟨"SinglesPastModel", "agrees", "(I)Z"⟩, prog_14_method_87_code, 2, (some .boolean), 2, [], [], 11, false)
/-- SinglesPastModel.agree -/
def tM_273 : av_M := (⟨"SinglesPastModel", "agree", "()I"⟩, prog_14_method_88_code, 1, (some .int), 1, [], [], 11, false)
/-- SinglesPastModel.past -/
def tM_274 : av_M := (⟨"SinglesPastModel", "past", "()I"⟩, prog_14_method_89_code, 1, (some .int), 1, [], [], 11, false)
/-- SinglesPastModel.now -/
def tM_275 : av_M := (⟨"SinglesPastModel", "now", "()I"⟩, prog_14_method_90_code, 1, (some .int), 1, [], [], 11, false)
/-- SinglesPastModel.ring -/
def tM_276 : av_M := (⟨"SinglesPastModel", "ring", "()I"⟩, prog_14_method_91_code, 4, (some .int), 1, [], [], 11, false)
/-- SinglesPastModel.ifOtherwise -/
def tM_277 : av_M := (⟨"SinglesPastModel", "ifOtherwise", "(I)I"⟩, prog_14_method_92_code, 2, (some .int), 2, [], [], 11, false)
/-- SinglesPastModel.otherwise -/
def tM_278 : av_M := (⟨"SinglesPastModel", "otherwise", "(I)I"⟩, prog_14_method_93_code, 2, (some .int), 2, [], [], 11, false)
/-- SinglesPastModel.worthOf -/
def tM_279 : av_M := (⟨"SinglesPastModel", "worthOf", "(I)I"⟩, prog_14_method_94_code, 4, (some .int), 2, [], [], 11, false)
/-- SinglesPastModel.changesOf -/
def tM_280 : av_M := (⟨"SinglesPastModel", "changesOf", "(I)I"⟩, prog_14_method_95_code, 2, (some .int), 2, [], [], 11, false)
/-- SinglesPastModel.heavy -/
def tM_281 : av_M := (⟨"SinglesPastModel", "heavy", "()I"⟩, prog_14_method_96_code, 5, (some .int), 1, [], [], 11, false)
/-- SinglesPastModel.lineOf -/
def tM_282 : av_M := (⟨"SinglesPastModel", "lineOf", "(I)I"⟩, prog_14_method_97_code, 5, (some .int), 2, [], [], 11, false)
/-- SinglesPastModel.allStops -/
def tM_283 : av_M := (⟨"SinglesPastModel", "allStops", "()I"⟩, prog_14_method_98_code, 3, (some .int), 1, [], [], 11, false)
/-- SinglesPastModel.latestOf -/
def tM_284 : av_M := (⟨"SinglesPastModel", "latestOf", "(I)I"⟩, prog_14_method_99_code, 4, (some .int), 2, [], [], 11, false)
/-- SinglesPastModel.thing -/
def tM_285 : av_M := (⟨"SinglesPastModel", "thing", "(II)I"⟩, prog_14_method_100_code, 3, (some .int), 3, [], [], 11, false)
/-- SinglesPastModel.goer -/
def tM_286 : av_M := (⟨"SinglesPastModel", "goer", "(II)I"⟩, prog_14_method_101_code, 3, (some .int), 3, [], [], 11, false)
/-- SinglesPastModel.train -/
def tM_287 : av_M := (⟨"SinglesPastModel", "train", "(II)I"⟩, prog_14_method_102_code, 4, (some .int), 3, [], [], 11, false)
/-- SinglesPastModel.noSuch -/
def tM_288 : av_M := (⟨"SinglesPastModel", "noSuch", "(II)Z"⟩, prog_14_method_103_code, 3, (some .boolean), 3, [], [], 11, false)
/-- SinglesPastModel.cost -/
def tM_289 : av_M := (⟨"SinglesPastModel", "cost", "(II)I"⟩, prog_14_method_104_code, 3, (some .int), 3, [], [], 11, false)
/-- SinglesPastModel.fear -/
def tM_290 : av_M := (⟨"SinglesPastModel", "fear", "(II)I"⟩, prog_14_method_105_code, 3, (some .int), 3, [], [], 11, false)
/-- SinglesPastModel.may -/
def tM_291 : av_M := (⟨"SinglesPastModel", "may", "(II)Z"⟩, prog_14_method_106_code, 3, (some .boolean), 3, [], [], 11, false)
/-- SinglesPastModel.days -/
def tM_292 : av_M := (⟨"SinglesPastModel", "days", "(I)I"⟩, prog_14_method_107_code, 2, (some .int), 2, [], [], 11, false)
/-- SinglesPastModel.sell -/
def tM_293 : av_M := (⟨"SinglesPastModel", "sell", "(II)I"⟩, prog_14_method_108_code, 3, (some .int), 3, [], [], 11, false)
/-- SinglesPastModel.isNow -/
def tM_294 : av_M := (⟨"SinglesPastModel", "isNow", "(II)I"⟩, prog_14_method_109_code, 4, (some .int), 3, [], [], 11, false)
/-- SinglesPastModel.pay -/
def tM_295 : av_M := (⟨"SinglesPastModel", "pay", "(II)I"⟩, prog_14_method_110_code, 3, (some .int), 3, [], [], 11, false)
/-- SinglesPastModel.nerve -/
def tM_296 : av_M := (⟨"SinglesPastModel", "nerve", "(II)I"⟩, prog_14_method_111_code, 3, (some .int), 3, [], [], 11, false)
/-- SinglesPastModel.wish -/
def tM_297 : av_M := (⟨"SinglesPastModel", "wish", "(II)I"⟩, prog_14_method_112_code, 3, (some .int), 3, [], [], 11, false)
/-- SinglesPastModel.deed -/
def tM_298 : av_M := (⟨"SinglesPastModel", "deed", "(IIZ)I"⟩, prog_14_method_113_code, 5, (some .int), 4, [], [], 11, false)
/-- SinglesPastModel.noTwo -/
def tM_299 : av_M := (⟨"SinglesPastModel", "noTwo", "(II)Z"⟩, prog_14_method_114_code, 3, (some .boolean), 3, [], [], 11, false)
/-- SinglesPastModel.quarrel -/
def tM_300 : av_M := (⟨"SinglesPastModel", "quarrel", "(IIZ)Z"⟩, prog_14_method_115_code, 6, (some .boolean), 4, [], [], 11, false)
/-- SinglesPastModel.stops -/
def tM_301 : av_M := (⟨"SinglesPastModel", "stops", "(II)I"⟩, prog_14_method_116_code, 3, (some .int), 3, [], [], 11, false)
/-- SinglesPastModel.recall -/
def tM_302 : av_M := (⟨"SinglesPastModel", "recall", "(I)I"⟩, prog_14_method_117_code, 3, (some .int), 2, [], [], 11, false)
/-- SinglesPastModel.isRows -/
def tM_303 : av_M := (⟨"SinglesPastModel", "isRows", "()Z"⟩, prog_14_method_118_code, 3, (some .boolean), 1, [], [], 11, false)
/-- SinglesPastModel.areSo -/
def tM_304 : av_M := (⟨"SinglesPastModel", "areSo", "(I)Z"⟩, prog_14_method_119_code, 4, (some .boolean), 2, [], [], 11, false)
/-- SinglesPastModel.send -/
def tM_305 : av_M := (⟨"SinglesPastModel", "send", "()I"⟩, prog_14_method_120_code, 4, (some .int), 1, [], [], 11, false)
/-- SinglesPastModel.fitsWho -/
def tM_306 : av_M := (⟨"SinglesPastModel", "fitsWho", "(I)Z"⟩, prog_14_method_121_code, 3, (some .boolean), 2, [], [], 11, false)
/-- SinglesPastModel.who -/
def tM_307 : av_M := (⟨"SinglesPastModel", "who", "(Z)I"⟩, prog_14_method_122_code, 5, (some .int), 2, [], [], 11, false)
/-- SinglesPastModel.look -/
def tM_308 : av_M := (⟨"SinglesPastModel", "look", "()I"⟩, prog_14_method_123_code, 8, (some .int), 1, [], [], 11, false)
/-- SinglesPastModel.hangsOn -/
def tM_309 : av_M := (⟨"SinglesPastModel", "hangsOn", "(I)I"⟩, prog_14_method_124_code, 4, (some .int), 2, [], [], 11, false)
/-- SinglesPastModel.hangs -/
def tM_310 : av_M := (⟨"SinglesPastModel", "hangs", "(I)I"⟩, prog_14_method_125_code, 2, (some .int), 2, [], [], 11, false)
/-- SinglesPastModel.key -/
def tM_311 : av_M := (⟨"SinglesPastModel", "key", "()I"⟩, prog_14_method_126_code, 5, (some .int), 1, [], [], 11, false)
/-- SinglesPastModel.loose -/
def tM_312 : av_M := (⟨"SinglesPastModel", "loose", "()I"⟩, prog_14_method_127_code, 4, (some .int), 1, [], [], 11, false)
/-- SinglesPastModel.kills -/
def tM_313 : av_M := (⟨"SinglesPastModel", "kills", "(II)Z"⟩, prog_14_method_128_code, 3, (some .boolean), 3, [], [], 11, false)
/-- SinglesPastModel.mayGo -/
def tM_314 : av_M := (⟨"SinglesPastModel", "mayGo", "(II)Z"⟩, prog_14_method_129_code, 6, (some .boolean), 3, [], [], 11, false)
/-- SinglesPastModel.laysWay -/
def tM_315 : av_M := (⟨"SinglesPastModel", "laysWay", "(II)I"⟩, prog_14_method_130_code, 6, (some .int), 3, [], [], 11, false)
/-- SinglesPastModel.mostOf -/
def tM_316 : av_M := (⟨"SinglesPastModel", "mostOf", "(I)I"⟩, prog_14_method_131_code, 7, (some .int), 2, [], [], 11, false)
/-- SinglesPastModel.colours -/
def tM_317 : av_M := (⟨"SinglesPastModel", "colours", "(I)I"⟩, prog_14_method_132_code, 3, (some .int), 2, [], [], 11, false)
/-- SinglesPastModel.laysMembers -/
def tM_318 : av_M := (⟨"SinglesPastModel", "laysMembers", "(I)I"⟩, prog_14_method_133_code, 4, (some .int), 2, [], [], 11, false)
/-- SinglesPastModel.canAll -/
def tM_319 : av_M := (⟨"SinglesPastModel", "canAll", "(I)Z"⟩, prog_14_method_134_code, 6, (some .boolean), 2, [], [], 11, false)
/-- SinglesPastModel.clash -/
def tM_320 : av_M := (⟨"SinglesPastModel", "clash", "()I"⟩, prog_14_method_135_code, 4, (some .int), 1, [], [], 11, false)
/-- SinglesPastModel.payersOf -/
def tM_321 : av_M := (⟨"SinglesPastModel", "payersOf", "(II)I"⟩, prog_14_method_136_code, 5, (some .int), 3, [], [], 11, false)
/-- SinglesPastModel.priceOf -/
def tM_322 : av_M := (⟨"SinglesPastModel", "priceOf", "(I)I"⟩, prog_14_method_137_code, 4, (some .int), 2, [], [], 11, false)
/-- SinglesPastModel.earnsOf -/
def tM_323 : av_M := (⟨"SinglesPastModel", "earnsOf", "(I)I"⟩, prog_14_method_138_code, 3, (some .int), 2, [], [], 11, false)
/-- SinglesPastModel.price -/
def tM_324 : av_M := (⟨"SinglesPastModel", "price", "(IZ)I"⟩, prog_14_method_139_code, 3, (some .int), 3, [], [], 11, false)
/-- SinglesPastModel.dearest -/
def tM_325 : av_M := (⟨"SinglesPastModel", "dearest", "()I"⟩, prog_14_method_140_code, 3, (some .int), 1, [], [], 11, false)
/-- SinglesPastModel.crowd -/
def tM_326 : av_M := (⟨"SinglesPastModel", "crowd", "(I)I"⟩, prog_14_method_141_code, 4, (some .int), 2, [], [], 11, false)
/-- SinglesPastModel.asksFor -/
def tM_327 : av_M := (⟨"SinglesPastModel", "asksFor", "(I)I"⟩, prog_14_method_142_code, 2, (some .int), 1, [], [], 11, false)
/-- SinglesPastModel.asks -/
def tM_328 : av_M := (⟨"SinglesPastModel", "asks", "(IZ)I"⟩, prog_14_method_143_code, 9, (some .int), 3, [], [], 11, false)
/-- SinglesPastModel.pickedBy -/
def tM_329 : av_M := (⟨"SinglesPastModel", "pickedBy", "(II)I"⟩, prog_14_method_144_code, 5, (some .int), 2, [], [], 11, false)
/-- SinglesPastModel.pick -/
def tM_330 : av_M := (⟨"SinglesPastModel", "pick", "(IZ)I"⟩, prog_14_method_145_code, 5, (some .int), 3, [], [], 11, false)
/-- SinglesPastModel.firstOf -/
def tM_331 : av_M := (⟨"SinglesPastModel", "firstOf", "(I)I"⟩, prog_14_method_146_code, 1, (some .int), 1, [], [], 11, false)
/-- SinglesPastModel.canPair -/
def tM_332 : av_M := (⟨"SinglesPastModel", "canPair", "(II)Z"⟩, prog_14_method_147_code, 3, (some .boolean), 3, [], [], 11, false)
/-- SinglesPastModel.pairedBy -/
def tM_333 : av_M := (⟨"SinglesPastModel", "pairedBy", "(II)I"⟩, prog_14_method_148_code, 5, (some .int), 3, [], [], 11, false)
/-- SinglesPastModel.laysPairs -/
def tM_334 : av_M := (⟨"SinglesPastModel", "laysPairs", "()V"⟩, prog_14_method_149_code, 4, none, 1, [], [], 11, false)
/-- SinglesPastModel.pairs -/
def tM_335 : av_M := (⟨"SinglesPastModel", "pairs", "(I)I"⟩, prog_14_method_150_code, 7, (some .int), 2, [], [], 11, false)
/-- SinglesPastModel.goerHas -/
def tM_336 : av_M := (⟨"SinglesPastModel", "goerHas", "(III)I"⟩, prog_14_method_151_code, 4, (some .int), 4, [], [], 11, false)
/-- SinglesPastModel.clerkHas -/
def tM_337 : av_M := (⟨"SinglesPastModel", "clerkHas", "(II)I"⟩, prog_14_method_152_code, 2, (some .int), 2, [], [], 11, false)
/-- SinglesPastModel.rests -/
def tM_338 : av_M := (⟨"SinglesPastModel", "rests", "(I)I"⟩, prog_14_method_153_code, 5, (some .int), 2, [], [], 11, false)
/-- SinglesPastModel.odds -/
def tM_339 : av_M := (⟨"SinglesPastModel", "odds", "(II)I"⟩, prog_14_method_154_code, 7, (some .int), 3, [], [], 11, false)
/-- SinglesPastModel.brave -/
def tM_340 : av_M := (⟨"SinglesPastModel", "brave", "()I"⟩, prog_14_method_155_code, 3, (some .int), 1, [], [], 11, false)
/-- SinglesPastModel.gone -/
def tM_341 : av_M := (⟨"SinglesPastModel", "gone", "()I"⟩, prog_14_method_156_code, 1, (some .int), 1, [], [], 11, false)
/-- SinglesPastModel.unborn -/
def tM_342 : av_M := (⟨"SinglesPastModel", "unborn", "()I"⟩, prog_14_method_157_code, 1, (some .int), 1, [], [], 11, false)
/-- SinglesPastModel.twins -/
def tM_343 : av_M := (⟨"SinglesPastModel", "twins", "()I"⟩, prog_14_method_158_code, 4, (some .int), 1, [], [], 11, false)
/-- SinglesPastModel.worth -/
def tM_344 : av_M := (⟨"SinglesPastModel", "worth", "()I"⟩, prog_14_method_159_code, 1, (some .int), 1, [], [], 11, false)
/-- SinglesPastModel.empty -/
def tM_345 : av_M := (⟨"SinglesPastModel", "empty", "()I"⟩, prog_14_method_160_code, 3, (some .int), 1, [], [], 11, false)
/-- SinglesPastModel.never -/
def tM_346 : av_M := (⟨"SinglesPastModel", "never", "()I"⟩, prog_14_method_161_code, 1, (some .int), 1, [], [], 11, false)
/-- SinglesPastModel.noAhead -/
def tM_347 : av_M := (⟨"SinglesPastModel", "noAhead", "(I)Z"⟩, prog_14_method_162_code, 1, (some .boolean), 1, [], [], 11, false)
/-- SinglesPastModel.ahead -/
def tM_348 : av_M := (⟨"SinglesPastModel", "ahead", "(II)I"⟩, prog_14_method_163_code, 4, (some .int), 3, [], [], 11, false)
/-- SinglesPastModel.trial -/
def tM_349 : av_M := (⟨"SinglesPastModel", "trial", "(IZ)I"⟩, prog_14_method_164_code, 4, (some .int), 3, [], [], 11, false)
/-- SinglesPastModel.span -/
def tM_350 : av_M := (⟨"SinglesPastModel", "span", "(IZ)I"⟩, prog_14_method_165_code, 6, (some .int), 3, [], [], 11, false)
/-- SinglesPastModel.ofLog -/
def tM_351 : av_M := (⟨"SinglesPastModel", "ofLog", "(II)I"⟩, prog_14_method_166_code, 3, (some .int), 3, [], [], 11, false)
/-- SinglesPastModel.led -/
def tM_352 : av_M := (⟨"SinglesPastModel", "led", "(IZ)I"⟩, prog_14_method_167_code, 6, (some .int), 3, [], [], 11, false)
/-- SinglesPastModel.log -/
def tM_353 : av_M := (⟨"SinglesPastModel", "log", "(II)I"⟩, prog_14_method_168_code, 3, (some .int), 3, [], [], 11, false)
/-- SinglesPastModel.seed -/
def tM_354 : av_M := (⟨"SinglesPastModel", "seed", "(I)I"⟩, prog_14_method_169_code, 3, (some .int), 2, [], [], 11, false)
/-- SinglesPastModel.count -/
def tM_355 : av_M := (⟨"SinglesPastModel", "count", "(I)I"⟩, prog_14_method_170_code, 4, (some .int), 2, [], [], 11, false)
/-- java/lang/Integer.numberOfTrailingZeros -/
def tM_356 : av_M := (⟨"java/lang/Integer", "numberOfTrailingZeros", "(I)I"⟩, prog_23_method_48_code, 2, (some .int), 1, [], [], 99, false)
/-- java/lang/Integer.bitCount -/
def tM_357 : av_M := (⟨"java/lang/Integer", "bitCount", "(I)I"⟩, prog_23_method_49_code, 1, (some .int), 1, [], [], 99, false)
/-- java/util/Arrays.fill -/
def tM_358 : av_M := (⟨"java/util/Arrays", "fill", "([II)V"⟩, prog_34_method_103_code, 4, none, 2, [], [], 99, false)
/-- java/util/Arrays.copyOf -/
def tM_359 : av_M := (⟨"java/util/Arrays", "copyOf", "([II)[I"⟩, prog_34_method_123_code, 3, (some (.array .int)), 2, [], [], 99, false)
/-- SinglesPastLaw.station -/
def tM_360 : av_M := (⟨"SinglesPastLaw", "station", "(LSinglesPast;[J)I"⟩, method_3_code, 3, (some .int), 2, [(0, 8, 11, 13), (0, 8, 14, 15)], ["java/lang/IllegalArgumentException", "java/lang/UnsupportedOperationException"], 99, false)
/-- SinglesPastLaw.law -/
def tM_361 : av_M := (⟨"SinglesPastLaw", "law", "(LSinglesPast;[J)I"⟩, method_4_code, 3, (some .int), 2, [(0, 8, 11, 13)], ["java/lang/IllegalArgumentException"], 99, false)
/-- SinglesPastLaw.thing -/
def tM_362 : av_M := (⟨"SinglesPastLaw", "thing", "(LSinglesPast;II[J)I"⟩, method_5_code, 5, (some .int), 4, [(0, 10, 13, 24), (0, 10, 17, 26)], ["java/lang/IndexOutOfBoundsException", "java/util/NoSuchElementException"], 99, false)
/-- SinglesPastLaw.goer -/
def tM_363 : av_M := (⟨"SinglesPastLaw", "goer", "(LSinglesPast;II[J)I"⟩, method_6_code, 5, (some .int), 4, [(0, 10, 13, 24), (0, 10, 17, 26)], ["java/lang/IndexOutOfBoundsException", "java/util/NoSuchElementException"], 99, false)
/-- SinglesPastLaw.train -/
def tM_364 : av_M := (⟨"SinglesPastLaw", "train", "(LSinglesPast;II[J)I"⟩, method_7_code, 5, (some .int), 4, [(0, 10, 13, 24), (0, 10, 17, 26)], ["java/lang/IndexOutOfBoundsException", "java/util/NoSuchElementException"], 99, false)
/-- SinglesPastLaw.cost -/
def tM_365 : av_M := (⟨"SinglesPastLaw", "cost", "(LSinglesPast;II[J)I"⟩, method_8_code, 5, (some .int), 4, [(0, 10, 13, 24)], ["java/lang/IndexOutOfBoundsException"], 99, false)
/-- SinglesPastLaw.fear -/
def tM_366 : av_M := (⟨"SinglesPastLaw", "fear", "(LSinglesPast;II[J)I"⟩, method_9_code, 5, (some .int), 4, [(0, 10, 13, 24)], ["java/lang/IndexOutOfBoundsException"], 99, false)
/-- SinglesPastLaw.may -/
def tM_367 : av_M := (⟨"SinglesPastLaw", "may", "(LSinglesPast;II[J)I"⟩, method_10_code, 5, (some .int), 4, [(0, 17, 20, 24)], ["java/lang/IndexOutOfBoundsException"], 99, false)
/-- SinglesPastLaw.days -/
def tM_368 : av_M := (⟨"SinglesPastLaw", "days", "(LSinglesPast;I[J)I"⟩, method_11_code, 4, (some .int), 3, [(0, 9, 12, 13)], ["java/lang/IllegalArgumentException"], 99, false)
/-- SinglesPastLaw.sell -/
def tM_369 : av_M := (⟨"SinglesPastLaw", "sell", "(LSinglesPast;II[J)I"⟩, method_12_code, 5, (some .int), 4, [(0, 10, 13, 24), (0, 10, 17, 51)], ["java/lang/IndexOutOfBoundsException", "java/lang/IllegalStateException"], 99, false)
/-- SinglesPastLaw.pay -/
def tM_370 : av_M := (⟨"SinglesPastLaw", "pay", "(LSinglesPast;II[J)I"⟩, method_13_code, 5, (some .int), 4, [(0, 10, 13, 24), (0, 10, 17, 13)], ["java/lang/IndexOutOfBoundsException", "java/lang/IllegalArgumentException"], 99, false)
/-- SinglesPastLaw.nerve -/
def tM_371 : av_M := (⟨"SinglesPastLaw", "nerve", "(LSinglesPast;II[J)I"⟩, method_14_code, 5, (some .int), 4, [(0, 10, 13, 24), (0, 10, 17, 13)], ["java/lang/IndexOutOfBoundsException", "java/lang/IllegalArgumentException"], 99, false)
/-- SinglesPastLaw.wish -/
def tM_372 : av_M := (⟨"SinglesPastLaw", "wish", "(LSinglesPast;II[J)I"⟩, method_15_code, 5, (some .int), 4, [(0, 10, 13, 24), (0, 10, 17, 51)], ["java/lang/IndexOutOfBoundsException", "java/lang/IllegalStateException"], 99, false)
/-- SinglesPastLaw.deed -/
def tM_373 : av_M := (⟨"SinglesPastLaw", "deed", "(LSinglesPast;IIZ[J)I"⟩, method_16_code, 6, (some .int), 5, [(0, 12, 15, 24), (0, 12, 19, 51)], ["java/lang/IndexOutOfBoundsException", "java/lang/IllegalStateException"], 99, false)
/-- SinglesPastLaw.quarrel -/
def tM_374 : av_M := (⟨"SinglesPastLaw", "quarrel", "(LSinglesPast;IIZ[J)I"⟩, method_17_code, 6, (some .int), 5, [(0, 19, 22, 24), (0, 19, 26, 13)], ["java/lang/IndexOutOfBoundsException", "java/lang/IllegalArgumentException"], 99, false)
/-- SinglesPastLaw.stops -/
def tM_375 : av_M := (⟨"SinglesPastLaw", "stops", "(LSinglesPast;II[J)I"⟩, method_18_code, 5, (some .int), 4, [(0, 10, 13, 24), (0, 10, 17, 13)], ["java/lang/IndexOutOfBoundsException", "java/lang/IllegalArgumentException"], 99, false)
/-- SinglesPastLaw.recall -/
def tM_376 : av_M := (⟨"SinglesPastLaw", "recall", "(LSinglesPast;I[J)I"⟩, method_19_code, 4, (some .int), 3, [(0, 9, 12, 24), (0, 9, 15, 51)], ["java/lang/IndexOutOfBoundsException", "java/lang/IllegalStateException"], 99, false)
/-- SinglesPastLaw.otherwise -/
def tM_377 : av_M := (⟨"SinglesPastLaw", "otherwise", "(LSinglesPast;I[J)I"⟩, method_20_code, 4, (some .int), 3, [(0, 9, 12, 24)], ["java/lang/IndexOutOfBoundsException"], 99, false)
/-- SinglesPastLaw.send -/
def tM_378 : av_M := (⟨"SinglesPastLaw", "send", "(LSinglesPast;[J)I"⟩, method_21_code, 3, (some .int), 2, [(0, 8, 11, 13)], ["java/lang/IllegalArgumentException"], 99, false)
/-- SinglesPastLaw.who -/
def tM_379 : av_M := (⟨"SinglesPastLaw", "who", "(LSinglesPast;Z[J)I"⟩, method_22_code, 4, (some .int), 3, [(0, 9, 12, 13)], ["java/lang/IllegalArgumentException"], 99, false)
/-- SinglesPastLaw.look -/
def tM_380 : av_M := (⟨"SinglesPastLaw", "look", "(LSinglesPast;[J)I"⟩, method_23_code, 3, (some .int), 2, [(0, 8, 11, 13)], ["java/lang/IllegalArgumentException"], 99, false)
/-- SinglesPastLaw.hangs -/
def tM_381 : av_M := (⟨"SinglesPastLaw", "hangs", "(LSinglesPast;I[J)I"⟩, method_24_code, 4, (some .int), 3, [(0, 9, 12, 24)], ["java/lang/IndexOutOfBoundsException"], 99, false)
/-- SinglesPastLaw.kills -/
def tM_382 : av_M := (⟨"SinglesPastLaw", "kills", "(LSinglesPast;II[J)I"⟩, method_25_code, 5, (some .int), 4, [(0, 17, 20, 24), (0, 17, 24, 13)], ["java/lang/IndexOutOfBoundsException", "java/lang/IllegalArgumentException"], 99, false)
/-- SinglesPastLaw.colours -/
def tM_383 : av_M := (⟨"SinglesPastLaw", "colours", "(LSinglesPast;I[J)I"⟩, method_26_code, 4, (some .int), 3, [(0, 9, 12, 24)], ["java/lang/IndexOutOfBoundsException"], 99, false)
/-- SinglesPastLaw.price -/
def tM_384 : av_M := (⟨"SinglesPastLaw", "price", "(LSinglesPast;IZ[J)I"⟩, method_27_code, 5, (some .int), 4, [(0, 10, 13, 24)], ["java/lang/IndexOutOfBoundsException"], 99, false)
/-- SinglesPastLaw.crowd -/
def tM_385 : av_M := (⟨"SinglesPastLaw", "crowd", "(LSinglesPast;I[J)I"⟩, method_28_code, 4, (some .int), 3, [(0, 9, 12, 24)], ["java/lang/IndexOutOfBoundsException"], 99, false)
/-- SinglesPastLaw.pick -/
def tM_386 : av_M := (⟨"SinglesPastLaw", "pick", "(LSinglesPast;IZ[J)I"⟩, method_29_code, 5, (some .int), 4, [(0, 10, 13, 13)], ["java/lang/IllegalArgumentException"], 99, false)
/-- SinglesPastLaw.pairs -/
def tM_387 : av_M := (⟨"SinglesPastLaw", "pairs", "(LSinglesPast;I[J)I"⟩, method_30_code, 4, (some .int), 3, [(0, 9, 12, 24)], ["java/lang/IndexOutOfBoundsException"], 99, false)
/-- SinglesPastLaw.rests -/
def tM_388 : av_M := (⟨"SinglesPastLaw", "rests", "(LSinglesPast;I[J)I"⟩, method_31_code, 4, (some .int), 3, [(0, 9, 12, 24)], ["java/lang/IndexOutOfBoundsException"], 99, false)
/-- SinglesPastLaw.odds -/
def tM_389 : av_M := (⟨"SinglesPastLaw", "odds", "(LSinglesPast;II[J)I"⟩, method_32_code, 5, (some .int), 4, [(0, 10, 13, 24), (0, 10, 17, 13)], ["java/lang/IndexOutOfBoundsException", "java/lang/IllegalArgumentException"], 99, false)
/-- SinglesPastLaw.ahead -/
def tM_390 : av_M := (⟨"SinglesPastLaw", "ahead", "(LSinglesPast;II[J)I"⟩, method_33_code, 5, (some .int), 4, [(0, 10, 13, 24), (0, 10, 17, 13)], ["java/lang/IndexOutOfBoundsException", "java/lang/IllegalArgumentException"], 99, false)
/-- SinglesPastLaw.trial -/
def tM_391 : av_M := (⟨"SinglesPastLaw", "trial", "(LSinglesPast;IZ[J)I"⟩, method_34_code, 5, (some .int), 4, [(0, 10, 13, 13)], ["java/lang/IllegalArgumentException"], 99, false)
/-- SinglesPastLaw.span -/
def tM_392 : av_M := (⟨"SinglesPastLaw", "span", "(LSinglesPast;IZ[J)I"⟩, method_35_code, 5, (some .int), 4, [(0, 10, 13, 13)], ["java/lang/IllegalArgumentException"], 99, false)
/-- SinglesPastLaw.led -/
def tM_393 : av_M := (⟨"SinglesPastLaw", "led", "(LSinglesPast;IZ[J)I"⟩, method_36_code, 5, (some .int), 4, [(0, 10, 13, 24)], ["java/lang/IndexOutOfBoundsException"], 99, false)
/-- SinglesPastLaw.log -/
def tM_394 : av_M := (⟨"SinglesPastLaw", "log", "(LSinglesPast;II[J)I"⟩, method_37_code, 5, (some .int), 4, [(0, 10, 13, 26)], ["java/util/NoSuchElementException"], 99, false)
/-- SinglesPastLaw.law -/
def tM_395 : av_M := (⟨"SinglesPastLaw", "law", "([I)Z"⟩, code, 7, (some .boolean), 1, [], [], 99, false)
def tA_0 : List (Nat × Nat × av_M) := [(0, 2, tM_0), (0, 1, tM_1), (0, 1, tM_2), (0, 1, tM_3), (1, 2, tM_4), (1, 1, tM_5), (1, 1, tM_6), (1, 1, tM_7), (1, 1, tM_8), (1, 1, tM_9), (1, 1, tM_10), (1, 1, tM_11), (2, 2, tM_12), (2, 1, tM_13), (2, 1, tM_14), (2, 1, tM_15), (2, 1, tM_16), (2, 1, tM_17), (3, 2, tM_18), (3, 1, tM_19), (3, 1, tM_20), (3, 1, tM_21), (4, 2, tM_22), (4, 1, tM_23), (4, 1, tM_24), (5, 2, tM_25), (5, 1, tM_26), (5, 1, tM_27), (5, 1, tM_28), (5, 1, tM_29), (6, 2, tM_30), (6, 1, tM_31), (6, 1, tM_32), (6, 1, tM_33), (6, 1, tM_34), (6, 1, tM_35), (6, 1, tM_36), (6, 1, tM_37), (6, 1, tM_38), (6, 1, tM_39)]
def tA_1 : List (Nat × Nat × av_M) := [(6, 1, tM_40), (6, 1, tM_41), (6, 1, tM_42), (6, 1, tM_43), (6, 1, tM_44), (6, 1, tM_45), (6, 1, tM_46), (6, 1, tM_47), (6, 1, tM_48), (6, 1, tM_49), (6, 1, tM_50), (6, 1, tM_51), (6, 1, tM_52), (7, 0, tM_53), (7, 0, tM_54), (7, 0, tM_55), (7, 0, tM_56), (7, 0, tM_57), (7, 0, tM_58), (7, 0, tM_59), (7, 0, tM_60), (7, 0, tM_61), (7, 0, tM_62), (8, 2, tM_63), (8, 1, tM_64), (8, 1, tM_65), (8, 1, tM_66), (8, 1, tM_67), (8, 1, tM_68), (8, 1, tM_69), (8, 1, tM_70), (8, 1, tM_71), (8, 1, tM_72), (8, 1, tM_73), (8, 1, tM_74), (9, 2, tM_75), (9, 1, tM_76), (9, 1, tM_77), (9, 1, tM_78), (9, 1, tM_79)]
def tA_2 : List (Nat × Nat × av_M) := [(9, 1, tM_80), (9, 1, tM_81), (9, 1, tM_82), (10, 2, tM_83), (10, 1, tM_84), (10, 1, tM_85), (10, 1, tM_86), (10, 1, tM_87), (10, 1, tM_88), (10, 1, tM_89), (10, 1, tM_90), (10, 1, tM_91), (10, 1, tM_92), (10, 1, tM_93), (11, 2, tM_94), (11, 1, tM_95), (11, 1, tM_96), (11, 1, tM_97), (11, 1, tM_98), (11, 1, tM_99), (11, 1, tM_100), (11, 1, tM_101), (11, 1, tM_102), (11, 1, tM_103), (11, 1, tM_104), (11, 1, tM_105), (11, 1, tM_106), (11, 1, tM_107), (11, 1, tM_108), (11, 1, tM_109), (11, 1, tM_110), (11, 1, tM_111), (11, 1, tM_112), (11, 1, tM_113), (11, 1, tM_114), (11, 1, tM_115), (11, 1, tM_116), (11, 1, tM_117), (11, 1, tM_118), (11, 1, tM_119)]
def tA_3 : List (Nat × Nat × av_M) := [(11, 1, tM_120), (11, 1, tM_121), (11, 1, tM_122), (11, 1, tM_123), (11, 1, tM_124), (11, 1, tM_125), (11, 1, tM_126), (11, 1, tM_127), (11, 1, tM_128), (11, 1, tM_129), (11, 1, tM_130), (11, 0, tM_131), (11, 1, tM_132), (11, 1, tM_133), (11, 1, tM_134), (11, 1, tM_135), (11, 1, tM_136), (11, 1, tM_137), (11, 1, tM_138), (11, 1, tM_139), (11, 1, tM_140), (11, 1, tM_141), (11, 1, tM_142), (11, 1, tM_143), (11, 1, tM_144), (11, 1, tM_145), (11, 1, tM_146), (11, 1, tM_147), (11, 1, tM_148), (11, 1, tM_149), (11, 1, tM_150), (11, 1, tM_151), (11, 1, tM_152), (11, 0, tM_153), (11, 0, tM_154), (11, 1, tM_155), (11, 0, tM_156), (11, 1, tM_157), (11, 1, tM_158), (11, 0, tM_159)]
def tA_4 : List (Nat × Nat × av_M) := [(11, 0, tM_160), (11, 1, tM_161), (11, 1, tM_162), (11, 1, tM_163), (11, 1, tM_164), (11, 1, tM_165), (11, 1, tM_166), (11, 1, tM_167), (11, 1, tM_168), (11, 1, tM_169), (11, 1, tM_170), (11, 1, tM_171), (11, 1, tM_172), (11, 1, tM_173), (11, 1, tM_174), (11, 1, tM_175), (11, 1, tM_176), (11, 1, tM_177), (11, 1, tM_178), (11, 0, tM_179), (11, 1, tM_180), (11, 1, tM_181), (11, 1, tM_182), (11, 1, tM_183), (11, 1, tM_184), (11, 0, tM_185), (12, 1, tM_186), (12, 1, tM_187), (12, 0, tM_188), (12, 0, tM_189), (12, 2, tM_190), (12, 1, tM_191), (12, 1, tM_192), (12, 1, tM_193), (12, 1, tM_194), (12, 1, tM_195), (12, 1, tM_196), (12, 1, tM_197), (12, 1, tM_198), (12, 1, tM_199)]
def tA_5 : List (Nat × Nat × av_M) := [(12, 0, tM_200), (12, 1, tM_201), (12, 0, tM_202), (12, 1, tM_203), (12, 0, tM_204), (12, 1, tM_205), (12, 1, tM_206), (12, 1, tM_207), (12, 1, tM_208), (12, 1, tM_209), (12, 1, tM_210), (12, 1, tM_211), (12, 1, tM_212), (12, 0, tM_213), (12, 1, tM_214), (12, 1, tM_215), (12, 1, tM_216), (12, 1, tM_217), (12, 1, tM_218), (12, 1, tM_219), (12, 1, tM_220), (12, 1, tM_221), (12, 1, tM_222), (12, 1, tM_223), (12, 1, tM_224), (12, 1, tM_225), (12, 1, tM_226), (12, 1, tM_227), (12, 1, tM_228), (12, 1, tM_229), (12, 1, tM_230), (12, 1, tM_231), (12, 1, tM_232), (12, 1, tM_233), (12, 1, tM_234), (12, 1, tM_235), (12, 1, tM_236), (12, 1, tM_237), (12, 1, tM_238), (12, 1, tM_239)]
def tA_6 : List (Nat × Nat × av_M) := [(12, 1, tM_240), (12, 1, tM_241), (12, 1, tM_242), (12, 1, tM_243), (12, 1, tM_244), (12, 1, tM_245), (12, 1, tM_246), (12, 1, tM_247), (12, 1, tM_248), (12, 1, tM_249), (12, 1, tM_250), (12, 1, tM_251), (12, 1, tM_252), (12, 1, tM_253), (12, 1, tM_254), (12, 1, tM_255), (12, 1, tM_256), (12, 1, tM_257), (12, 1, tM_258), (12, 1, tM_259), (12, 1, tM_260), (12, 1, tM_261), (12, 1, tM_262), (12, 1, tM_263), (12, 1, tM_264), (12, 1, tM_265), (12, 1, tM_266), (12, 1, tM_267), (12, 1, tM_268), (12, 1, tM_269), (12, 1, tM_270), (12, 1, tM_271), (12, 1, tM_272), (12, 1, tM_273), (12, 1, tM_274), (12, 1, tM_275), (12, 1, tM_276), (12, 1, tM_277), (12, 1, tM_278), (12, 1, tM_279)]
def tA_7 : List (Nat × Nat × av_M) := [(12, 1, tM_280), (12, 1, tM_281), (12, 1, tM_282), (12, 1, tM_283), (12, 1, tM_284), (12, 1, tM_285), (12, 1, tM_286), (12, 1, tM_287), (12, 1, tM_288), (12, 1, tM_289), (12, 1, tM_290), (12, 1, tM_291), (12, 1, tM_292), (12, 1, tM_293), (12, 1, tM_294), (12, 1, tM_295), (12, 1, tM_296), (12, 1, tM_297), (12, 1, tM_298), (12, 1, tM_299), (12, 1, tM_300), (12, 1, tM_301), (12, 1, tM_302), (12, 1, tM_303), (12, 1, tM_304), (12, 1, tM_305), (12, 1, tM_306), (12, 1, tM_307), (12, 1, tM_308), (12, 1, tM_309), (12, 1, tM_310), (12, 1, tM_311), (12, 1, tM_312), (12, 1, tM_313), (12, 1, tM_314), (12, 1, tM_315), (12, 1, tM_316), (12, 1, tM_317), (12, 1, tM_318), (12, 1, tM_319)]
def tA_8 : List (Nat × Nat × av_M) := [(12, 1, tM_320), (12, 1, tM_321), (12, 1, tM_322), (12, 1, tM_323), (12, 1, tM_324), (12, 1, tM_325), (12, 1, tM_326), (12, 0, tM_327), (12, 1, tM_328), (12, 0, tM_329), (12, 1, tM_330), (12, 0, tM_331), (12, 1, tM_332), (12, 1, tM_333), (12, 1, tM_334), (12, 1, tM_335), (12, 1, tM_336), (12, 0, tM_337), (12, 1, tM_338), (12, 1, tM_339), (12, 1, tM_340), (12, 1, tM_341), (12, 1, tM_342), (12, 1, tM_343), (12, 1, tM_344), (12, 1, tM_345), (12, 1, tM_346), (12, 0, tM_347), (12, 1, tM_348), (12, 1, tM_349), (12, 1, tM_350), (12, 1, tM_351), (12, 1, tM_352), (12, 1, tM_353), (12, 1, tM_354), (12, 1, tM_355), (13, 0, tM_356), (13, 0, tM_357), (14, 0, tM_358), (14, 0, tM_359)]
def tA_9 : List (Nat × Nat × av_M) := [(15, 0, tM_360), (15, 0, tM_361), (15, 0, tM_362), (15, 0, tM_363), (15, 0, tM_364), (15, 0, tM_365), (15, 0, tM_366), (15, 0, tM_367), (15, 0, tM_368), (15, 0, tM_369), (15, 0, tM_370), (15, 0, tM_371), (15, 0, tM_372), (15, 0, tM_373), (15, 0, tM_374), (15, 0, tM_375), (15, 0, tM_376), (15, 0, tM_377), (15, 0, tM_378), (15, 0, tM_379), (15, 0, tM_380), (15, 0, tM_381), (15, 0, tM_382), (15, 0, tM_383), (15, 0, tM_384), (15, 0, tM_385), (15, 0, tM_386), (15, 0, tM_387), (15, 0, tM_388), (15, 0, tM_389), (15, 0, tM_390), (15, 0, tM_391), (15, 0, tM_392), (15, 0, tM_393), (15, 0, tM_394), (15, 3, tM_395)]
/-- all methods: the code class, the kind, the method -/
def tAll : List (Nat × Nat × av_M) := tA_0 ++ (tA_1 ++ (tA_2 ++ (tA_3 ++ (tA_4 ++ (tA_5 ++ (tA_6 ++ (tA_7 ++ (tA_8 ++ (tA_9)))))))))
def tmo (i : Nat) : Nat := (tAll.getD i (99, 9, tM0)).1
def tmk (i : Nat) : Nat := (tAll.getD i (99, 9, tM0)).2.1
