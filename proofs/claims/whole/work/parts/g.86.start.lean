set_option maxRecDepth 20000
def tSo : List (String × Nat × String) := [("SinglesPast$StationText", 25, "thing makes hinders goer shuns train day"), ("SinglesPast$StationText", 72, "at"), ("SinglesPast$StationText", 85, "so"), ("SinglesPast$StationText", 87, "worth"), ("SinglesPast$StationText", 100, "to"), ("SinglesPast$StationText", 102, "money"), ("SinglesPast$StationText", 108, "nerve"), ("SinglesPast$StationText", 119, "does"), ("SinglesPast$StationText", 121, "undoes"), ("SinglesPast$StationText", 126, "born"), ("SinglesPast$StationText", 133, "seats"), ("SinglesPast$StationText", 135, "stops"), ("SinglesPast", 129, "the text is wrong"), ("SinglesPast", 100, "there are 12 texts"), ("SinglesPast$LawText", 56, "cost fear bar"), ("SinglesPast$LawText", 69, "if"), ("SinglesPast$LawText", 89, "not"), ("SinglesPast$LawText", 94, "born does full"), ("SinglesPast$LawText", 100, "goer wish money nerve train gone day"), ("SinglesPast$LawText", 85, "and"), ("SinglesPast$LawText", 87, "or"), ("SinglesPast", 484, "there is no such THING"), ("SinglesPast", 177, "a THING has no such what"), ("SinglesPast", 486, "there is no such GOER"), ("SinglesPast", 213, "a GOER has no such what"), ("SinglesPast", 490, "there is no such TRAIN"), ("SinglesPast", 235, "a TRAIN has no such what"), ("SinglesPast", 254, "DAYS are 1 to 60"), ("SinglesPast", 265, "he CAN not go by it"), ("SinglesPast", 271, "MONEY that is given is 1 to 999"), ("SinglesPast", 278, "NERVE is 0 to 100"), ("SinglesPast", 481, "there is no such STOP"), ("SinglesPast", 492, "he is GONE"), ("SinglesPast", 488, "both are one"), ("SinglesPast", 298, "a TRAIN has a STOP"), ("SinglesPast", 300, "he is not GONE"), ("SinglesPast", 372, "the TAPE has no such rows"), ("SinglesPast", 413, "years to pick from are 1 to 10"), ("SinglesPast", 429, "DAYS of odds are 0 to 4"), ("SinglesPast", 494, "DAYS ahead are 0 to 60"), ("SinglesPast", 455, "a row has no such what"), ("SinglesPastModel", 180, "thing"), ("SinglesPastModel", 138, "at"), ("SinglesPastModel", 143, "so"), ("SinglesPastModel", 145, "worth"), ("SinglesPastModel", 186, "makes"), ("SinglesPastModel", 191, "hinders"), ("SinglesPastModel", 193, "goer"), ("SinglesPastModel", 153, "to"), ("SinglesPastModel", 155, "money"), ("SinglesPastModel", 157, "nerve"), ("SinglesPastModel", 159, "does"), ("SinglesPastModel", 161, "undoes"), ("SinglesPastModel", 163, "born"), ("SinglesPastModel", 198, "shuns"), ("SinglesPastModel", 203, "train"), ("SinglesPastModel", 173, "seats"), ("SinglesPastModel", 175, "stops"), ("SinglesPastModel", 208, "day"), ("SinglesPastModel", 259, "cost"), ("SinglesPastModel", 261, "fear"), ("SinglesPastModel", 263, "bar"), ("SinglesPastModel", 265, "if"), ("SinglesPastModel", 241, "not"), ("SinglesPastModel", 233, "full"), ("SinglesPastModel", 216, "wish"), ("SinglesPastModel", 218, "gone"), ("SinglesPastModel", 252, "and"), ("SinglesPastModel", 257, "or")]
theorem ts_all {args : Array Value} {s : State} (h : narrow_1.before args s = true) : ∀ i, i < 69 → tsT (tSo.getD i ("", 0, "")).1 (tSo.getD i ("", 0, "")).2.1 (tTx.getD i []) args s
  | 0, _ => ts_0 h
  | 1, _ => ts_1 h
  | 2, _ => ts_2 h
  | 3, _ => ts_3 h
  | 4, _ => ts_4 h
  | 5, _ => ts_5 h
  | 6, _ => ts_6 h
  | 7, _ => ts_7 h
  | 8, _ => ts_8 h
  | 9, _ => ts_9 h
  | 10, _ => ts_10 h
  | 11, _ => ts_11 h
  | 12, _ => ts_12 h
  | 13, _ => ts_13 h
  | 14, _ => ts_14 h
  | 15, _ => ts_15 h
  | 16, _ => ts_16 h
  | 17, _ => ts_17 h
  | 18, _ => ts_18 h
  | 19, _ => ts_19 h
  | 20, _ => ts_20 h
  | 21, _ => ts_21 h
  | 22, _ => ts_22 h
  | 23, _ => ts_23 h
  | 24, _ => ts_24 h
  | 25, _ => ts_25 h
  | 26, _ => ts_26 h
  | 27, _ => ts_27 h
  | 28, _ => ts_28 h
  | 29, _ => ts_29 h
  | 30, _ => ts_30 h
  | 31, _ => ts_31 h
  | 32, _ => ts_32 h
  | 33, _ => ts_33 h
  | 34, _ => ts_34 h
  | 35, _ => ts_35 h
  | 36, _ => ts_36 h
  | 37, _ => ts_37 h
  | 38, _ => ts_38 h
  | 39, _ => ts_39 h
  | 40, _ => ts_40 h
  | 41, _ => ts_41 h
  | 42, _ => ts_42 h
  | 43, _ => ts_43 h
  | 44, _ => ts_44 h
  | 45, _ => ts_45 h
  | 46, _ => ts_46 h
  | 47, _ => ts_47 h
  | 48, _ => ts_48 h
  | 49, _ => ts_49 h
  | 50, _ => ts_50 h
  | 51, _ => ts_51 h
  | 52, _ => ts_52 h
  | 53, _ => ts_53 h
  | 54, _ => ts_54 h
  | 55, _ => ts_55 h
  | 56, _ => ts_56 h
  | 57, _ => ts_57 h
  | 58, _ => ts_58 h
  | 59, _ => ts_59 h
  | 60, _ => ts_60 h
  | 61, _ => ts_61 h
  | 62, _ => ts_62 h
  | 63, _ => ts_63 h
  | 64, _ => ts_64 h
  | 65, _ => ts_65 h
  | 66, _ => ts_66 h
  | 67, _ => ts_67 h
  | 68, _ => ts_68 h
  | i + 69, hi => absurd hi (by omega)
theorem ts_sr : ∀ i, i < 69 → Cond.stringRef (tSo.getD i ("", 0, "")).1 (tSo.getD i ("", 0, "")).2.1 (tSo.getD i ("", 0, "")).2.2 ∈ lw_tbl
  | 0, _ => tg_t3 (List.mem_of_getElem? (i := 220) rfl)
  | 1, _ => tg_t4 (List.mem_of_getElem? (i := 40) rfl)
  | 2, _ => tg_t4 (List.mem_of_getElem? (i := 49) rfl)
  | 3, _ => tg_t4 (List.mem_of_getElem? (i := 50) rfl)
  | 4, _ => tg_t4 (List.mem_of_getElem? (i := 69) rfl)
  | 5, _ => tg_t4 (List.mem_of_getElem? (i := 70) rfl)
  | 6, _ => tg_t4 (List.mem_of_getElem? (i := 79) rfl)
  | 7, _ => tg_t4 (List.mem_of_getElem? (i := 83) rfl)
  | 8, _ => tg_t4 (List.mem_of_getElem? (i := 84) rfl)
  | 9, _ => tg_t4 (List.mem_of_getElem? (i := 89) rfl)
  | 10, _ => tg_t4 (List.mem_of_getElem? (i := 100) rfl)
  | 11, _ => tg_t4 (List.mem_of_getElem? (i := 101) rfl)
  | 12, _ => tg_t4 (List.mem_of_getElem? (i := 164) rfl)
  | 13, _ => tg_t4 (List.mem_of_getElem? (i := 200) rfl)
  | 14, _ => tg_t4 (List.mem_of_getElem? (i := 223) rfl)
  | 15, _ => tg_t4 (List.mem_of_getElem? (i := 226) rfl)
  | 16, _ => tg_t4 (List.mem_of_getElem? (i := 236) rfl)
  | 17, _ => tg_t5 (List.mem_of_getElem? (i := 3) rfl)
  | 18, _ => tg_t5 (List.mem_of_getElem? (i := 8) rfl)
  | 19, _ => tg_t5 (List.mem_of_getElem? (i := 9) rfl)
  | 20, _ => tg_t5 (List.mem_of_getElem? (i := 10) rfl)
  | 21, _ => tg_t5 (List.mem_of_getElem? (i := 78) rfl)
  | 22, _ => tg_t5 (List.mem_of_getElem? (i := 109) rfl)
  | 23, _ => tg_t5 (List.mem_of_getElem? (i := 127) rfl)
  | 24, _ => tg_t5 (List.mem_of_getElem? (i := 153) rfl)
  | 25, _ => tg_t5 (List.mem_of_getElem? (i := 165) rfl)
  | 26, _ => tg_t5 (List.mem_of_getElem? (i := 170) rfl)
  | 27, _ => tg_t5 (List.mem_of_getElem? (i := 208) rfl)
  | 28, _ => tg_t6 (List.mem_of_getElem? (i := 20) rfl)
  | 29, _ => tg_t6 (List.mem_of_getElem? (i := 35) rfl)
  | 30, _ => tg_t6 (List.mem_of_getElem? (i := 44) rfl)
  | 31, _ => tg_t6 (List.mem_of_getElem? (i := 55) rfl)
  | 32, _ => tg_t6 (List.mem_of_getElem? (i := 60) rfl)
  | 33, _ => tg_t6 (List.mem_of_getElem? (i := 80) rfl)
  | 34, _ => tg_t6 (List.mem_of_getElem? (i := 89) rfl)
  | 35, _ => tg_t6 (List.mem_of_getElem? (i := 97) rfl)
  | 36, _ => tg_t6 (List.mem_of_getElem? (i := 120) rfl)
  | 37, _ => tg_t6 (List.mem_of_getElem? (i := 198) rfl)
  | 38, _ => tg_t7 (List.mem_of_getElem? (i := 0) rfl)
  | 39, _ => tg_t7 (List.mem_of_getElem? (i := 11) rfl)
  | 40, _ => tg_t7 (List.mem_of_getElem? (i := 48) rfl)
  | 41, _ => tg_t7 (List.mem_of_getElem? (i := 192) rfl)
  | 42, _ => tg_t7 (List.mem_of_getElem? (i := 207) rfl)
  | 43, _ => tg_t7 (List.mem_of_getElem? (i := 216) rfl)
  | 44, _ => tg_t7 (List.mem_of_getElem? (i := 221) rfl)
  | 45, _ => tg_t7 (List.mem_of_getElem? (i := 230) rfl)
  | 46, _ => tg_t7 (List.mem_of_getElem? (i := 239) rfl)
  | 47, _ => tg_t8 (List.mem_of_getElem? (i := 0) rfl)
  | 48, _ => tg_t8 (List.mem_of_getElem? (i := 9) rfl)
  | 49, _ => tg_t8 (List.mem_of_getElem? (i := 10) rfl)
  | 50, _ => tg_t8 (List.mem_of_getElem? (i := 11) rfl)
  | 51, _ => tg_t8 (List.mem_of_getElem? (i := 12) rfl)
  | 52, _ => tg_t8 (List.mem_of_getElem? (i := 13) rfl)
  | 53, _ => tg_t8 (List.mem_of_getElem? (i := 14) rfl)
  | 54, _ => tg_t8 (List.mem_of_getElem? (i := 19) rfl)
  | 55, _ => tg_t8 (List.mem_of_getElem? (i := 24) rfl)
  | 56, _ => tg_t8 (List.mem_of_getElem? (i := 33) rfl)
  | 57, _ => tg_t8 (List.mem_of_getElem? (i := 34) rfl)
  | 58, _ => tg_t8 (List.mem_of_getElem? (i := 45) rfl)
  | 59, _ => tg_t8 (List.mem_of_getElem? (i := 54) rfl)
  | 60, _ => tg_t8 (List.mem_of_getElem? (i := 55) rfl)
  | 61, _ => tg_t8 (List.mem_of_getElem? (i := 56) rfl)
  | 62, _ => tg_t8 (List.mem_of_getElem? (i := 57) rfl)
  | 63, _ => tg_t8 (List.mem_of_getElem? (i := 74) rfl)
  | 64, _ => tg_t8 (List.mem_of_getElem? (i := 83) rfl)
  | 65, _ => tg_t8 (List.mem_of_getElem? (i := 96) rfl)
  | 66, _ => tg_t8 (List.mem_of_getElem? (i := 97) rfl)
  | 67, _ => tg_t8 (List.mem_of_getElem? (i := 98) rfl)
  | 68, _ => tg_t8 (List.mem_of_getElem? (i := 99) rfl)
  | i + 69, hi => absurd hi (by omega)
theorem ts_sl : ∀ q ∈ tSl, q.2.2 < 69 ∧ av_cn tK q.1 = (tSo.getD q.2.2 ("", 0, "")).1 ∧ q.2.1 = (tSo.getD q.2.2 ("", 0, "")).2.1 := by decide +kernel
theorem ts_len : ∀ i, i < 69 → (tTx.getD i []).length < 2 ^ 31 := by decide +kernel
theorem ts_cs {args : Array Value} {s : State} (h : narrow_1.before args s = true) : (Cond.eq (.static "java/lang/String" "COMPACT_STRINGS" "Z") (.int 1)).before args s = true := (ndr (ndr (ndl (ndl (ndl (ndl (ndl (ndl (ndl (ndl h))))))))))
theorem ts_us {args : Array Value} {s : State} (h : narrow_1.before args s = true) : (Cond.isRef (.static "java/lang/Throwable" "UNASSIGNED_STACK" "[Ljava/lang/StackTraceElement;")).before args s = true := (ndl (ndr (ndl (ndr (ndl (ndl (ndl (ndl (ndl (ndl h))))))))))
theorem ts_ss {args : Array Value} {s : State} (h : narrow_1.before args s = true) : (Cond.isRef (.static "java/lang/Throwable" "SUPPRESSED_SENTINEL" "Ljava/util/List;")).before args s = true := (ndr (ndr (ndl (ndr (ndl (ndl (ndl (ndl (ndl (ndl h))))))))))
theorem ts_nc {args : Array Value} {s : State} (h : narrow_1.before args s = true) : ∀ q ∈ tNc, va_Nc q.1 q.2 s := List.forall_mem_cons.mpr ⟨va_Nc.of (ndl (ndr (ndr (ndl (ndr (ndr (ndl (ndl (ndl h))))))))), List.forall_mem_cons.mpr ⟨va_Nc.of (ndr (ndr (ndl (ndl (ndl (ndl (ndr (ndl (ndl (ndl h)))))))))), List.forall_mem_cons.mpr ⟨va_Nc.of (ndr (ndr (ndr (ndr (ndl (ndr (ndl (ndl (ndl (ndl h)))))))))), List.forall_mem_cons.mpr ⟨va_Nc.of (ndl (ndl (ndr (ndr (ndl (ndr (ndl (ndl (ndl h))))))))), List.forall_mem_cons.mpr ⟨va_Nc.of (ndr (ndr (ndr (ndr (ndr (ndl (ndl (ndl (ndl (ndl h)))))))))), List.forall_mem_cons.mpr ⟨va_Nc.of (ndl (ndl (ndr (ndl (ndl (ndr (ndl (ndl (ndl h))))))))), List.forall_mem_cons.mpr ⟨va_Nc.of (ndl (ndr (ndl (ndr (ndr (ndl (ndl (ndl (ndl h))))))))), List.forall_mem_cons.mpr ⟨va_Nc.of (ndr (ndl (ndr (ndr (ndr (ndl (ndr (ndl (ndl (ndl h)))))))))), List.forall_mem_cons.mpr ⟨va_Nc.of (ndr (ndl (ndr (ndr (ndr (ndl (ndl (ndl (ndl (ndl h)))))))))), List.forall_mem_cons.mpr ⟨va_Nc.of (ndl (ndl (ndl (ndr (ndr (ndr (ndl (ndl (ndl h))))))))), List.forall_mem_cons.mpr ⟨va_Nc.of (ndl (ndr (ndl (ndl (ndr (ndr (ndl (ndl (ndl (ndl h)))))))))), List.forall_mem_cons.mpr ⟨va_Nc.of (ndl (ndl (ndr (ndr (ndr (ndl (ndr (ndl (ndl (ndl h)))))))))), List.forall_mem_cons.mpr ⟨va_Nc.of (ndr (ndr (ndl (ndr (ndr (ndl (ndl (ndl (ndl (ndl h)))))))))), List.forall_mem_cons.mpr ⟨va_Nc.of (ndl (ndr (ndr (ndr (ndl (ndr (ndr (ndl (ndl (ndl h)))))))))), List.forall_mem_cons.mpr ⟨va_Nc.of (ndl (ndr (ndl (ndl (ndl (ndr (ndl (ndl (ndl h))))))))), List.forall_mem_cons.mpr ⟨va_Nc.of (ndl (ndr (ndl (ndr (ndr (ndl (ndr (ndl (ndl (ndl h)))))))))), List.forall_mem_cons.mpr ⟨va_Nc.of (ndl (ndr (ndr (ndr (ndr (ndl (ndl (ndl (ndl (ndl h)))))))))), List.forall_mem_cons.mpr ⟨va_Nc.of (ndl (ndr (ndl (ndl (ndr (ndr (ndr (ndl (ndl (ndl h)))))))))), List.forall_mem_cons.mpr ⟨va_Nc.of (ndr (ndr (ndr (ndl (ndl (ndl (ndr (ndl (ndl (ndl h)))))))))), List.forall_mem_cons.mpr ⟨va_Nc.of (ndr (ndr (ndl (ndl (ndr (ndr (ndl (ndl (ndl (ndl h)))))))))), fun _ h => absurd h List.not_mem_nil⟩⟩⟩⟩⟩⟩⟩⟩⟩⟩⟩⟩⟩⟩⟩⟩⟩⟩⟩⟩
theorem ts_w1 : Cond.laysStatic "java/lang/String" "COMPACT_STRINGS" "Z" ∈ lw_tbl := tg_t3 (List.mem_of_getElem? (i := 234) rfl)
theorem ts_w2 : Cond.laysStatic "java/lang/Throwable" "UNASSIGNED_STACK" "[Ljava/lang/StackTraceElement;" ∈ lw_tbl := tg_t4 (List.mem_of_getElem? (i := 148) rfl)
theorem ts_w3 : Cond.laysStatic "java/lang/Throwable" "SUPPRESSED_SENTINEL" "Ljava/util/List;" ∈ lw_tbl := tg_t4 (List.mem_of_getElem? (i := 150) rfl)
theorem ts_w4 : Cond.initialized "java/lang/String" ∈ lw_tbl := tg_t1 (List.mem_of_getElem? (i := 15) rfl)
theorem ts_w5 : Cond.initialized "java/lang/Throwable" ∈ lw_tbl := tg_t1 (List.mem_of_getElem? (i := 19) rfl)
theorem ts_w6 : Cond.arrayOver (.object "SinglesPast$State") ∈ lw_tbl := tg_t1 (List.mem_of_getElem? (i := 231) rfl)
theorem ts_w7 : Cond.castable "[I" "java/lang/Cloneable" ∈ lw_tbl := tg_t5 (List.mem_of_getElem? (i := 25) rfl)
theorem ts_ai : Cond.arrayClass .int ∈ lw_tbl := tg_t1 (List.mem_of_getElem? (i := 68) rfl)
theorem ts_ab : Cond.arrayClass .byte ∈ lw_tbl := tg_t4 (List.mem_of_getElem? (i := 190) rfl)
theorem ts_al : Cond.arrayClass .long ∈ lw_tbl := tg_t10 (List.mem_of_getElem? (i := 117) rfl)
theorem ts_fm {args : Array Value} {s : State} (h : narrow_1.before args s = true) : (Cond.isRef (.static "jdk/internal/util/Preconditions" "SIOOBE_FORMATTER" "Ljava/util/function/BiFunction;")).before args s = true := (ndl (ndr (ndl (ndl (ndl (ndl (ndl (ndl (ndl h)))))))))
theorem ts_w8 : Cond.laysStatic "jdk/internal/util/Preconditions" "SIOOBE_FORMATTER" "Ljava/util/function/BiFunction;" ∈ lw_tbl := tg_t4 (List.mem_of_getElem? (i := 10) rfl)
theorem ts_w9 : Cond.initialized "jdk/internal/util/Preconditions" ∈ lw_tbl := tg_t1 (List.mem_of_getElem? (i := 17) rfl)
