set_option maxRecDepth 20000
def jy_coder : MethodName := ⟨"java/lang/String", "coder", "()B"⟩
abbrev jc_coder : ByteArray := prog_26_method_152_code
def jw_coder : Cond := .code jy_coder jc_coder 1 (some .byte)
theorem jm_coder : jw_coder ∈ tTs := tg_f (tg_t3 (List.mem_of_getElem? (i := 232) rfl)) rfl
theorem ji_coder : Cond.instanceMethod jy_coder ∈ tTs := tg_f (tg_t3 (List.mem_of_getElem? (i := 230) rfl)) rfl
theorem jl_coder : Cond.selects "java/lang/String" jy_coder jy_coder ∈ tTs := tg_f (tg_t3 (List.mem_of_getElem? (i := 231) rfl)) rfl
def jy_length : MethodName := ⟨"java/lang/String", "length", "()I"⟩
abbrev jc_length : ByteArray := prog_26_method_54_code
def jw_length : Cond := .code jy_length jc_length 1 (some .int)
theorem jm_length : jw_length ∈ tTs := tg_f (tg_t3 (List.mem_of_getElem? (i := 228) rfl)) rfl
theorem ji_length : Cond.instanceMethod jy_length ∈ tTs := tg_f (tg_t3 (List.mem_of_getElem? (i := 226) rfl)) rfl
theorem jl_length : Cond.selects "java/lang/String" jy_length jy_length ∈ tTs := tg_f (tg_t3 (List.mem_of_getElem? (i := 227) rfl)) rfl
def jy_latin : MethodName := ⟨"java/lang/String", "isLatin1", "()Z"⟩
abbrev jc_latin : ByteArray := prog_26_method_154_code
def jw_latin : Cond := .code jy_latin jc_latin 1 (some .boolean)
theorem jm_latin : jw_latin ∈ tTs := tg_f (tg_t4 (List.mem_of_getElem? (i := 2) rfl)) rfl
theorem ji_latin : Cond.instanceMethod jy_latin ∈ tTs := tg_f (tg_t4 (List.mem_of_getElem? (i := 0) rfl)) rfl
theorem jl_latin : Cond.selects "java/lang/String" jy_latin jy_latin ∈ tTs := tg_f (tg_t4 (List.mem_of_getElem? (i := 1) rfl)) rfl
def jy_charAt : MethodName := ⟨"java/lang/String", "charAt", "(I)C"⟩
abbrev jc_charAt : ByteArray := prog_26_method_56_code
def jw_charAt : Cond := .code jy_charAt jc_charAt 2 (some .char)
theorem jm_charAt : jw_charAt ∈ tTs := tg_f (tg_t3 (List.mem_of_getElem? (i := 238) rfl)) rfl
theorem ji_charAt : Cond.instanceMethod jy_charAt ∈ tTs := tg_f (tg_t3 (List.mem_of_getElem? (i := 236) rfl)) rfl
theorem jl_charAt : Cond.selects "java/lang/String" jy_charAt jy_charAt ∈ tTs := tg_f (tg_t3 (List.mem_of_getElem? (i := 237) rfl)) rfl
def jy_chk : MethodName := ⟨"java/lang/String", "checkIndex", "(II)V"⟩
abbrev jc_chk : ByteArray := prog_26_method_155_code
def jw_chk : Cond := .code jy_chk jc_chk 2 (none)
theorem jm_chk : jw_chk ∈ tTs := tg_f (tg_t4 (List.mem_of_getElem? (i := 8) rfl)) rfl
theorem js_chk : Cond.static jy_chk ∈ tTs := tg_f (tg_t4 (List.mem_of_getElem? (i := 7) rfl)) rfl
def jy_l1 : MethodName := ⟨"java/lang/StringLatin1", "charAt", "([BI)C"⟩
abbrev jc_l1 : ByteArray := prog_27_method_2_code
def jw_l1 : Cond := .code jy_l1 jc_l1 2 (some .char)
theorem jm_l1 : jw_l1 ∈ tTs := tg_f (tg_t4 (List.mem_of_getElem? (i := 5) rfl)) rfl
theorem js_l1 : Cond.static jy_l1 ∈ tTs := tg_f (tg_t4 (List.mem_of_getElem? (i := 4) rfl)) rfl
def jy_pre : MethodName := ⟨"jdk/internal/util/Preconditions", "checkIndex", "(IILjava/util/function/BiFunction;)I"⟩
abbrev jc_pre : ByteArray := prog_36_method_11_code
def jw_pre : Cond := .code jy_pre jc_pre 3 (some .int)
theorem jm_pre : jw_pre ∈ tTs := tg_f (tg_t4 (List.mem_of_getElem? (i := 13) rfl)) rfl
theorem js_pre : Cond.static jy_pre ∈ tTs := tg_f (tg_t4 (List.mem_of_getElem? (i := 12) rfl)) rfl
theorem jn_S : Cond.initialized "java/lang/String" ∈ tTs := tg_f (tg_t1 (List.mem_of_getElem? (i := 15) rfl)) rfl
theorem jn_L : Cond.initialized "java/lang/StringLatin1" ∈ tTs := tg_f (tg_t1 (List.mem_of_getElem? (i := 16) rfl)) rfl
theorem jn_P : Cond.initialized "jdk/internal/util/Preconditions" ∈ tTs := tg_f (tg_t1 (List.mem_of_getElem? (i := 17) rfl)) rfl
theorem jf_cs : Cond.fieldLink "java/lang/String" 38 "java/lang/String" "COMPACT_STRINGS" "Z" ∈ tTs := tg_f (tg_t3 (List.mem_of_getElem? (i := 233) rfl)) rfl
theorem jf_co : Cond.fieldLink "java/lang/String" 15 "java/lang/String" "coder" "B" ∈ tTs := tg_f (tg_t10 (List.mem_of_getElem? (i := 139) rfl)) rfl
theorem jf_va : Cond.fieldLink "java/lang/String" 9 "java/lang/String" "value" "[B" ∈ tTs := tg_f (tg_t10 (List.mem_of_getElem? (i := 138) rfl)) rfl
theorem jf_fm : Cond.fieldLink "java/lang/String" 1053 "jdk/internal/util/Preconditions" "SIOOBE_FORMATTER" "Ljava/util/function/BiFunction;" ∈ tTs := tg_f (tg_t4 (List.mem_of_getElem? (i := 9) rfl)) rfl
theorem jk_coder : Cond.methodLink "java/lang/String" 335 jy_coder ∈ tTs := tg_f (tg_t3 (List.mem_of_getElem? (i := 229) rfl)) rfl
theorem jk_latin : Cond.methodLink "java/lang/String" 492 jy_latin ∈ tTs := tg_f (tg_t3 (List.mem_of_getElem? (i := 239) rfl)) rfl
theorem jk_l1 : Cond.methodLink "java/lang/String" 495 jy_l1 ∈ tTs := tg_f (tg_t4 (List.mem_of_getElem? (i := 3) rfl)) rfl
theorem jk_chk : Cond.methodLink "java/lang/StringLatin1" 9 jy_chk ∈ tTs := tg_f (tg_t4 (List.mem_of_getElem? (i := 6) rfl)) rfl
theorem jk_pre : Cond.methodLink "java/lang/String" 1059 jy_pre ∈ tTs := tg_f (tg_t4 (List.mem_of_getElem? (i := 11) rfl)) rfl
theorem jq_len : ∀ q ∈ tJl, q.2.2 = 1 → Cond.methodLink (av_cn tK q.1) q.2.1 jy_length ∈ tTs := List.forall_mem_cons.mpr ⟨fun h => absurd h (by decide), List.forall_mem_cons.mpr ⟨fun h => absurd h (by decide), List.forall_mem_cons.mpr ⟨fun h => absurd h (by decide), List.forall_mem_cons.mpr ⟨fun h => absurd h (by decide), List.forall_mem_cons.mpr ⟨fun h => absurd h (by decide), List.forall_mem_cons.mpr ⟨fun h => absurd h (by decide), List.forall_mem_cons.mpr ⟨fun h => absurd h (by decide), List.forall_mem_cons.mpr ⟨fun h => absurd h (by decide), List.forall_mem_cons.mpr ⟨fun h => absurd h (by decide), List.forall_mem_cons.mpr ⟨fun h => absurd h (by decide), List.forall_mem_cons.mpr ⟨fun h => absurd h (by decide), List.forall_mem_cons.mpr ⟨fun h => absurd h (by decide), List.forall_mem_cons.mpr ⟨fun h => absurd h (by decide), List.forall_mem_cons.mpr ⟨fun h => absurd h (by decide), List.forall_mem_cons.mpr ⟨fun h => absurd h (by decide), List.forall_mem_cons.mpr ⟨fun h => absurd h (by decide), List.forall_mem_cons.mpr ⟨fun _ => tg_f (tg_t3 (List.mem_of_getElem? (i := 225) rfl)) rfl, List.forall_mem_cons.mpr ⟨fun h => absurd h (by decide), List.forall_mem_cons.mpr ⟨fun h => absurd h (by decide), List.forall_mem_cons.mpr ⟨fun h => absurd h (by decide), List.forall_mem_cons.mpr ⟨fun h => absurd h (by decide), List.forall_mem_cons.mpr ⟨fun h => absurd h (by decide), List.forall_mem_cons.mpr ⟨fun h => absurd h (by decide), List.forall_mem_cons.mpr ⟨fun h => absurd h (by decide), List.forall_mem_cons.mpr ⟨fun h => absurd h (by decide), List.forall_mem_cons.mpr ⟨fun h => absurd h (by decide), List.forall_mem_cons.mpr ⟨fun _ => tg_f (tg_t7 (List.mem_of_getElem? (i := 197) rfl)) rfl, List.forall_mem_cons.mpr ⟨fun h => absurd h (by decide), List.forall_mem_cons.mpr ⟨fun h => absurd h (by decide), List.forall_mem_cons.mpr ⟨fun h => absurd h (by decide), List.forall_mem_cons.mpr ⟨fun h => absurd h (by decide), List.forall_mem_cons.mpr ⟨fun h => absurd h (by decide), List.forall_mem_cons.mpr ⟨fun h => absurd h (by decide), List.forall_mem_cons.mpr ⟨fun h => absurd h (by decide), fun _ h => absurd h List.not_mem_nil⟩⟩⟩⟩⟩⟩⟩⟩⟩⟩⟩⟩⟩⟩⟩⟩⟩⟩⟩⟩⟩⟩⟩⟩⟩⟩⟩⟩⟩⟩⟩⟩⟩⟩
theorem jq_chr : ∀ q ∈ tJl, q.2.2 = 2 → Cond.methodLink (av_cn tK q.1) q.2.1 jy_charAt ∈ tTs := List.forall_mem_cons.mpr ⟨fun h => absurd h (by decide), List.forall_mem_cons.mpr ⟨fun h => absurd h (by decide), List.forall_mem_cons.mpr ⟨fun h => absurd h (by decide), List.forall_mem_cons.mpr ⟨fun h => absurd h (by decide), List.forall_mem_cons.mpr ⟨fun h => absurd h (by decide), List.forall_mem_cons.mpr ⟨fun h => absurd h (by decide), List.forall_mem_cons.mpr ⟨fun h => absurd h (by decide), List.forall_mem_cons.mpr ⟨fun h => absurd h (by decide), List.forall_mem_cons.mpr ⟨fun h => absurd h (by decide), List.forall_mem_cons.mpr ⟨fun h => absurd h (by decide), List.forall_mem_cons.mpr ⟨fun h => absurd h (by decide), List.forall_mem_cons.mpr ⟨fun h => absurd h (by decide), List.forall_mem_cons.mpr ⟨fun h => absurd h (by decide), List.forall_mem_cons.mpr ⟨fun h => absurd h (by decide), List.forall_mem_cons.mpr ⟨fun h => absurd h (by decide), List.forall_mem_cons.mpr ⟨fun h => absurd h (by decide), List.forall_mem_cons.mpr ⟨fun h => absurd h (by decide), List.forall_mem_cons.mpr ⟨fun _ => tg_f (tg_t3 (List.mem_of_getElem? (i := 235) rfl)) rfl, List.forall_mem_cons.mpr ⟨fun h => absurd h (by decide), List.forall_mem_cons.mpr ⟨fun h => absurd h (by decide), List.forall_mem_cons.mpr ⟨fun h => absurd h (by decide), List.forall_mem_cons.mpr ⟨fun h => absurd h (by decide), List.forall_mem_cons.mpr ⟨fun h => absurd h (by decide), List.forall_mem_cons.mpr ⟨fun h => absurd h (by decide), List.forall_mem_cons.mpr ⟨fun h => absurd h (by decide), List.forall_mem_cons.mpr ⟨fun h => absurd h (by decide), List.forall_mem_cons.mpr ⟨fun h => absurd h (by decide), List.forall_mem_cons.mpr ⟨fun _ => tg_f (tg_t7 (List.mem_of_getElem? (i := 198) rfl)) rfl, List.forall_mem_cons.mpr ⟨fun h => absurd h (by decide), List.forall_mem_cons.mpr ⟨fun h => absurd h (by decide), List.forall_mem_cons.mpr ⟨fun h => absurd h (by decide), List.forall_mem_cons.mpr ⟨fun h => absurd h (by decide), List.forall_mem_cons.mpr ⟨fun h => absurd h (by decide), List.forall_mem_cons.mpr ⟨fun h => absurd h (by decide), fun _ h => absurd h List.not_mem_nil⟩⟩⟩⟩⟩⟩⟩⟩⟩⟩⟩⟩⟩⟩⟩⟩⟩⟩⟩⟩⟩⟩⟩⟩⟩⟩⟩⟩⟩⟩⟩⟩⟩⟩

theorem jG (k : Cond) (hk : k ∈ tTs) : GoodIn tTs (k :: tTs) := fun w hw => by
  rcases List.mem_cons.mp hw with e1 | e1
  · rw [e1]; exact ⟨hk, good_of_word (List.mem_filter.mp hk).2⟩
  · exact ⟨e1, good_of_word (List.mem_filter.mp e1).2⟩
def jCS (A : Nat → Prop) (U : State) : Prop := va_Z "java/lang/String" "COMPACT_STRINGS" "Z" (.int 1) A U U.heap
def jCo (A : Nat → Prop) (a : Nat) (U : State) : Prop := va_OF "java/lang/String" "coder" "B" (.int 0) a A U U.heap
def jOb (A : Nat → Prop) (a : Nat) (U : State) : Prop := va_O "java/lang/String" a A U U.heap
def jVa (A : Nat → Prop) (a v : Nat) (U : State) : Prop := va_OF "java/lang/String" "value" "[B" (.ref v) a A U U.heap
def jTx (A : Nat → Prop) (v : Nat) (tx : List Int32) (U : State) : Prop := va_T .byte v tx.length (fun j => .int (tx.getD j 0)) A U U.heap
def jFm (A : Nat → Prop) (U : State) : Prop := va_Zq "jdk/internal/util/Preconditions" "SIOOBE_FORMATTER" "Ljava/util/function/BiFunction;" A U U.heap
def jrm (k : Nat) : Room := { frames := k, cells := 0, slots := 0, locals := 25 * k }
set_option maxHeartbeats 1000000 in
theorem c_coder (l : Launch) (A : Nat → Prop) (a : Nat) : Met l jy_coder (jw_coder :: tTs) (jrm 0) (va_Pc [.ref a] (fun U => jCS A U ∧ jCo A a U)) (vp_Si (fun r => r = 0)) 0 0 (fun _ => False) := by
  refine Met.ofW (cc := jc_coder) (maxL := 1) (ret := some .byte) (by decide +kernel) rfl ?_
  intro p e s m args below meth c s₁ B hml hv
  obtain ⟨rfl, hZ, hC⟩ := hv
  have hx := B.exec
  have hb := B.bytes
  have hr := B.returns
  have hts := atoms_spec (ws := jw_coder :: tTs) B.pre
  have hown : s.vm.findClass "java/lang/String" = some m.cls := findClass_of_methodNamed B.named
  have hlocks := B.notSynchronized
  have hS : va_S A s.heap s.heap [] := va_S.rf
  have hl := lv_entry ([.ref a]) (n := 1) (Nat.le_of_ble_eq_true rfl)
  rw [lg_entry_eq]
  generalize (lg_sl ([.ref a]) ++ List.replicate (1 - (lg_sl ([.ref a])).length) Slot.unset).toArray = ls at hl ⊢
  have hl : lv_has ls 1 [(0, .ref a)] := hl
  refine va_gets hx hb hZ hS hown (hts _ (List.mem_cons_of_mem _ jf_cs)) (fun _ z => z) (show decode jc_coder 0 = .ok (.getstatic 38, 3) by decide +kernel) ?_
  refine lv_if_eq (tgt := 13) hx hb (show decode jc_coder 3 = .ok (.ifCond .eq 10, 3) by decide +kernel) (by decide) (fun h => absurd h (by decide)) (fun _ => ?_)
  refine lv_aload_n hx hb (show decode jc_coder 6 = .ok (.aload_n 0, 1) by decide +kernel) rfl (lv_at hl 0 rfl) ?_
  refine vk_getf hx hb hC hS hown (hts _ (List.mem_cons_of_mem _ jf_co)) (fun _ z => z) (show decode jc_coder 7 = .ok (.getfield 15, 3) by decide +kernel) ?_
  refine lv_goto (tgt := 14) hx hb (show decode jc_coder 10 = .ok (.goto 4, 3) by decide +kernel) (by decide) ?_
  exact W.zret (ty := .byte) hx hb hr (by decide) (fun t ht hW => ⟨0, rfl, rfl, ht⟩) (fun q hq => by cases hq) (show decode jc_coder 14 = .ok (.ireturn, 1) by decide +kernel)
set_option maxHeartbeats 1000000 in
theorem c_latin (l : Launch) (A : Nat → Prop) (a : Nat) : Met l jy_latin (jw_latin :: tTs) (jrm 0) (va_Pc [.ref a] (fun U => jCS A U ∧ jCo A a U)) (vp_Si (fun r => r = 1)) 0 0 (fun _ => False) := by
  refine Met.ofW (cc := jc_latin) (maxL := 1) (ret := some .boolean) (by decide +kernel) rfl ?_
  intro p e s m args below meth c s₁ B hml hv
  obtain ⟨rfl, hZ, hC⟩ := hv
  have hx := B.exec
  have hb := B.bytes
  have hr := B.returns
  have hts := atoms_spec (ws := jw_latin :: tTs) B.pre
  have hown : s.vm.findClass "java/lang/String" = some m.cls := findClass_of_methodNamed B.named
  have hlocks := B.notSynchronized
  have hS : va_S A s.heap s.heap [] := va_S.rf
  have hl := lv_entry ([.ref a]) (n := 1) (Nat.le_of_ble_eq_true rfl)
  rw [lg_entry_eq]
  generalize (lg_sl ([.ref a]) ++ List.replicate (1 - (lg_sl ([.ref a])).length) Slot.unset).toArray = ls at hl ⊢
  have hl : lv_has ls 1 [(0, .ref a)] := hl
  refine va_gets hx hb hZ hS hown (hts _ (List.mem_cons_of_mem _ jf_cs)) (fun _ z => z) (show decode jc_latin 0 = .ok (.getstatic 38, 3) by decide +kernel) ?_
  refine lv_if_eq (tgt := 17) hx hb (show decode jc_latin 3 = .ok (.ifCond .eq 14, 3) by decide +kernel) (by decide) (fun h => absurd h (by decide)) (fun _ => ?_)
  refine lv_aload_n hx hb (show decode jc_latin 6 = .ok (.aload_n 0, 1) by decide +kernel) rfl (lv_at hl 0 rfl) ?_
  refine vk_getf hx hb hC hS hown (hts _ (List.mem_cons_of_mem _ jf_co)) (fun _ z => z) (show decode jc_latin 7 = .ok (.getfield 15, 3) by decide +kernel) ?_
  refine lv_if_ne (tgt := 17) hx hb (show decode jc_latin 10 = .ok (.ifCond .ne 7, 3) by decide +kernel) (by decide) (fun h => absurd rfl h) (fun _ => ?_)
  refine lv_iconst hx hb (show decode jc_latin 13 = .ok (.iconst 1, 1) by decide +kernel) rfl ?_
  refine lv_goto (tgt := 18) hx hb (show decode jc_latin 14 = .ok (.goto 4, 3) by decide +kernel) (by decide) ?_
  exact W.zret (ty := .boolean) hx hb hr (by decide) (fun t ht hW => ⟨1, rfl, rfl, ht⟩) (fun q hq => by cases hq) (show decode jc_latin 18 = .ok (.ireturn, 1) by decide +kernel)
theorem jblind2 {A : Nat → Prop} {a : Nat} : FrameBlind (va_Pc [.ref a] (fun U => jCS A U ∧ jCo A a U)) := fun b U g mk q => ⟨q.1, va_Z.moved (u := U) (U := U.calling g mk b) (Vm.Alike.refl U.vm) q.2.1, va_OF.moved (u := U) (U := U.calling g mk b) (Vm.Alike.refl U.vm) q.2.2⟩
set_option maxHeartbeats 1000000 in
theorem c_length (l : Launch) (A : Nat → Prop) (a v : Nat) (tx : List Int32) : Met l jy_length (jw_length :: tTs) (jrm 1) (va_Pc [.ref a] (fun U => jCS A U ∧ jCo A a U ∧ jOb A a U ∧ jVa A a v U ∧ jTx A v tx U)) (vp_Si (fun r => r = Int32.ofNat tx.length)) 0 0 (fun _ => False) := by
  refine Met.ofW (cc := jc_length) (maxL := 1) (ret := some .int) (by decide +kernel) rfl ?_
  intro p e s m args below meth c s₁ B hml hv
  obtain ⟨rfl, hZ, hC, hO, hV, hT⟩ := hv
  have hx := B.exec
  have hb := B.bytes
  have hr := B.returns
  have hts := atoms_spec (ws := jw_length :: tTs) B.pre
  have hts1 : ∀ w ∈ tTs, w.before #[.ref a] s = true := fun w hw => hts w (List.mem_cons_of_mem _ hw)
  have hown : s.vm.findClass "java/lang/String" = some m.cls := findClass_of_methodNamed B.named
  have hlocks := B.notSynchronized
  have hS : va_S A s.heap s.heap [] := va_S.rf
  have hl := lv_entry ([.ref a]) (n := 1) (Nat.le_of_ble_eq_true rfl)
  rw [lg_entry_eq]
  generalize (lg_sl ([.ref a]) ++ List.replicate (1 - (lg_sl ([.ref a])).length) Slot.unset).toArray = ls at hl ⊢
  have hl : lv_has ls 1 [(0, .ref a)] := hl
  obtain ⟨cell, t1, t2, t3, t4, t5, t6, t7⟩ := hT
  refine lv_aload_n hx hb (show decode jc_length 0 = .ok (.aload_n 0, 1) by decide +kernel) rfl (lv_at hl 0 rfl) ?_
  refine vk_getf hx hb hV hS hown (hts1 _ jf_va) (fun _ z => z) (show decode jc_length 1 = .ok (.getfield 9, 3) by decide +kernel) ?_
  refine W.alen (g := F0 m 4 ls [.ref v]) hx hb t1 t2 t5 rfl rfl (show decode jc_length 4 = .ok (.arraylength, 1) by decide +kernel) ?_
  refine lv_aload_n (pc := 5) hx hb (show decode jc_length 5 = .ok (.aload_n 0, 1) by decide +kernel) rfl (lv_at hl 0 rfl) ?_
  obtain ⟨cO, o1, o2, o3, -⟩ := hO
  refine vp_callSi (W.runV (C := "java/lang/String") (b := a) (As := []) (rest := [.int (Int32.ofNat tx.length)]) (n := 0) ⟨hx, hb, hml, hown, hts1⟩ (c_coder l A a) ⟨⟨rfl, rfl, by decide, by decide, pay_in hts1 (jG _ jm_coder), List.mem_cons_self, hts1 _ jm_coder, hts1 _ jn_S, ⟨by decide +kernel, by decide +kernel⟩, fun sig h => ?_, hts1 _ jk_coder⟩, hts1 _ ji_coder, hts1 _ jl_coder⟩ ⟨jblind2, ⟨cO, o1, o2, o3⟩, fun U hU hW => ⟨rfl, ?_, ?_⟩⟩ rfl rfl hl.1 rfl (lv_room (by decide)) (show decode jc_length 6 = .ok (.invokevirtual 335, 3) by decide +kernel) ⟨Nat.le_refl _, Nat.le_refl _⟩) (fun r hr0 => ?_)
  · have h2 : (parseMethodDescriptor jy_coder.desc).map (fun d => d.parameters.length) = some 0 := by decide +kernel
    rw [h] at h2
    exact (Option.some.inj h2).symm
  · exact va_Z.moved hW.alike (by rw [hU]; exact hZ)
  · exact va_OF.moved hW.alike (by rw [hU]; exact hC)
  · subst hr0
    refine lv_ishr hx hb (show decode jc_length 9 = .ok (.ishr, 1) by decide +kernel) ?_
    rw [sb_shr0]
    exact W.iret hx hb hr (fun t ht hW => ⟨_, rfl, rfl, ht⟩) (fun q hq => by cases hq) (show decode jc_length 10 = .ok (.ireturn, 1) by decide +kernel)

