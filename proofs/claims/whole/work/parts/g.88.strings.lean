set_option maxRecDepth 20000
def jy_coder : MethodName := ⟨"java/lang/String", "coder", "()B"⟩
abbrev jc_coder : ByteArray := prog_26_method_152_code
def jw_coder : Cond := .code jy_coder jc_coder 1 (some .byte)
theorem jm_coder : jw_coder ∈ tTs := tg_f (tg_t3 (List.mem_of_getElem? (i := 232) rfl)) rfl
theorem ji_coder : Cond.instanceMethod jy_coder ∈ tTs := tg_f (tg_t3 (List.mem_of_getElem? (i := 230) rfl)) rfl
theorem jl_coder : Cond.selects "java/lang/String" jy_coder jy_coder ∈ tTs := tg_f (tg_t3 (List.mem_of_getElem? (i := 231) rfl)) rfl
def jy_length : MethodName := ⟨"java/lang/String", "length", "()I"⟩
abbrev jc_length : ByteArray := prog_26_method_54_code
def jw_length : Cond := .code jy_length jc_length 1 (some .int)
theorem jm_length : jw_length ∈ tTs := tg_f (tg_t3 (List.mem_of_getElem? (i := 228) rfl)) rfl
theorem ji_length : Cond.instanceMethod jy_length ∈ tTs := tg_f (tg_t3 (List.mem_of_getElem? (i := 226) rfl)) rfl
theorem jl_length : Cond.selects "java/lang/String" jy_length jy_length ∈ tTs := tg_f (tg_t3 (List.mem_of_getElem? (i := 227) rfl)) rfl
def jy_latin : MethodName := ⟨"java/lang/String", "isLatin1", "()Z"⟩
abbrev jc_latin : ByteArray := prog_26_method_154_code
def jw_latin : Cond := .code jy_latin jc_latin 1 (some .boolean)
theorem jm_latin : jw_latin ∈ tTs := tg_f (tg_t4 (List.mem_of_getElem? (i := 2) rfl)) rfl
theorem ji_latin : Cond.instanceMethod jy_latin ∈ tTs := tg_f (tg_t4 (List.mem_of_getElem? (i := 0) rfl)) rfl
theorem jl_latin : Cond.selects "java/lang/String" jy_latin jy_latin ∈ tTs := tg_f (tg_t4 (List.mem_of_getElem? (i := 1) rfl)) rfl
def jy_charAt : MethodName := ⟨"java/lang/String", "charAt", "(I)C"⟩
abbrev jc_charAt : ByteArray := prog_26_method_56_code
def jw_charAt : Cond := .code jy_charAt jc_charAt 2 (some .char)
theorem jm_charAt : jw_charAt ∈ tTs := tg_f (tg_t3 (List.mem_of_getElem? (i := 238) rfl)) rfl
theorem ji_charAt : Cond.instanceMethod jy_charAt ∈ tTs := tg_f (tg_t3 (List.mem_of_getElem? (i := 236) rfl)) rfl
theorem jl_charAt : Cond.selects "java/lang/String" jy_charAt jy_charAt ∈ tTs := tg_f (tg_t3 (List.mem_of_getElem? (i := 237) rfl)) rfl
def jy_chk : MethodName := ⟨"java/lang/String", "checkIndex", "(II)V"⟩
abbrev jc_chk : ByteArray := prog_26_method_155_code
def jw_chk : Cond := .code jy_chk jc_chk 2 (none)
theorem jm_chk : jw_chk ∈ tTs := tg_f (tg_t4 (List.mem_of_getElem? (i := 8) rfl)) rfl
theorem js_chk : Cond.static jy_chk ∈ tTs := tg_f (tg_t4 (List.mem_of_getElem? (i := 7) rfl)) rfl
def jy_l1 : MethodName := ⟨"java/lang/StringLatin1", "charAt", "([BI)C"⟩
abbrev jc_l1 : ByteArray := prog_27_method_2_code
def jw_l1 : Cond := .code jy_l1 jc_l1 2 (some .char)
theorem jm_l1 : jw_l1 ∈ tTs := tg_f (tg_t4 (List.mem_of_getElem? (i := 5) rfl)) rfl
theorem js_l1 : Cond.static jy_l1 ∈ tTs := tg_f (tg_t4 (List.mem_of_getElem? (i := 4) rfl)) rfl
def jy_pre : MethodName := ⟨"jdk/internal/util/Preconditions", "checkIndex", "(IILjava/util/function/BiFunction;)I"⟩
abbrev jc_pre : ByteArray := prog_36_method_11_code
def jw_pre : Cond := .code jy_pre jc_pre 3 (some .int)
theorem jm_pre : jw_pre ∈ tTs := tg_f (tg_t4 (List.mem_of_getElem? (i := 13) rfl)) rfl
theorem js_pre : Cond.static jy_pre ∈ tTs := tg_f (tg_t4 (List.mem_of_getElem? (i := 12) rfl)) rfl
theorem jn_S : Cond.initialized "java/lang/String" ∈ tTs := tg_f (tg_t1 (List.mem_of_getElem? (i := 15) rfl)) rfl
theorem jn_L : Cond.initialized "java/lang/StringLatin1" ∈ tTs := tg_f (tg_t1 (List.mem_of_getElem? (i := 16) rfl)) rfl
theorem jn_P : Cond.initialized "jdk/internal/util/Preconditions" ∈ tTs := tg_f (tg_t1 (List.mem_of_getElem? (i := 17) rfl)) rfl
theorem jf_cs : Cond.fieldLink "java/lang/String" 38 "java/lang/String" "COMPACT_STRINGS" "Z" ∈ tTs := tg_f (tg_t3 (List.mem_of_getElem? (i := 233) rfl)) rfl
theorem jf_co : Cond.fieldLink "java/lang/String" 15 "java/lang/String" "coder" "B" ∈ tTs := tg_f (tg_t10 (List.mem_of_getElem? (i := 139) rfl)) rfl
theorem jf_va : Cond.fieldLink "java/lang/String" 9 "java/lang/String" "value" "[B" ∈ tTs := tg_f (tg_t10 (List.mem_of_getElem? (i := 138) rfl)) rfl
theorem jf_fm : Cond.fieldLink "java/lang/String" 1053 "jdk/internal/util/Preconditions" "SIOOBE_FORMATTER" "Ljava/util/function/BiFunction;" ∈ tTs := tg_f (tg_t4 (List.mem_of_getElem? (i := 9) rfl)) rfl
theorem jk_coder : Cond.methodLink "java/lang/String" 335 jy_coder ∈ tTs := tg_f (tg_t3 (List.mem_of_getElem? (i := 229) rfl)) rfl
theorem jk_latin : Cond.methodLink "java/lang/String" 492 jy_latin ∈ tTs := tg_f (tg_t3 (List.mem_of_getElem? (i := 239) rfl)) rfl
theorem jk_l1 : Cond.methodLink "java/lang/String" 495 jy_l1 ∈ tTs := tg_f (tg_t4 (List.mem_of_getElem? (i := 3) rfl)) rfl
theorem jk_chk : Cond.methodLink "java/lang/StringLatin1" 9 jy_chk ∈ tTs := tg_f (tg_t4 (List.mem_of_getElem? (i := 6) rfl)) rfl
theorem jk_pre : Cond.methodLink "java/lang/String" 1059 jy_pre ∈ tTs := tg_f (tg_t4 (List.mem_of_getElem? (i := 11) rfl)) rfl
theorem jq_len : ∀ q ∈ tJl, q.2.2 = 1 → Cond.methodLink (av_cn tK q.1) q.2.1 jy_length ∈ tTs := List.forall_mem_cons.mpr ⟨fun h => absurd h (by decide), List.forall_mem_cons.mpr ⟨fun h => absurd h (by decide), List.forall_mem_cons.mpr ⟨fun h => absurd h (by decide), List.forall_mem_cons.mpr ⟨fun h => absurd h (by decide), List.forall_mem_cons.mpr ⟨fun h => absurd h (by decide), List.forall_mem_cons.mpr ⟨fun h => absurd h (by decide), List.forall_mem_cons.mpr ⟨fun h => absurd h (by decide), List.forall_mem_cons.mpr ⟨fun h => absurd h (by decide), List.forall_mem_cons.mpr ⟨fun h => absurd h (by decide), List.forall_mem_cons.mpr ⟨fun h => absurd h (by decide), List.forall_mem_cons.mpr ⟨fun h => absurd h (by decide), List.forall_mem_cons.mpr ⟨fun h => absurd h (by decide), List.forall_mem_cons.mpr ⟨fun h => absurd h (by decide), List.forall_mem_cons.mpr ⟨fun h => absurd h (by decide), List.forall_mem_cons.mpr ⟨fun h => absurd h (by decide), List.forall_mem_cons.mpr ⟨fun h => absurd h (by decide), List.forall_mem_cons.mpr ⟨fun _ => tg_f (tg_t3 (List.mem_of_getElem? (i := 225) rfl)) rfl, List.forall_mem_cons.mpr ⟨fun h => absurd h (by decide), List.forall_mem_cons.mpr ⟨fun h => absurd h (by decide), List.forall_mem_cons.mpr ⟨fun h => absurd h (by decide), List.forall_mem_cons.mpr ⟨fun h => absurd h (by decide), List.forall_mem_cons.mpr ⟨fun h => absurd h (by decide), List.forall_mem_cons.mpr ⟨fun h => absurd h (by decide), List.forall_mem_cons.mpr ⟨fun h => absurd h (by decide), List.forall_mem_cons.mpr ⟨fun h => absurd h (by decide), List.forall_mem_cons.mpr ⟨fun h => absurd h (by decide), List.forall_mem_cons.mpr ⟨fun _ => tg_f (tg_t7 (List.mem_of_getElem? (i := 197) rfl)) rfl, List.forall_mem_cons.mpr ⟨fun h => absurd h (by decide), List.forall_mem_cons.mpr ⟨fun h => absurd h (by decide), List.forall_mem_cons.mpr ⟨fun h => absurd h (by decide), List.forall_mem_cons.mpr ⟨fun h => absurd h (by decide), List.forall_mem_cons.mpr ⟨fun h => absurd h (by decide), List.forall_mem_cons.mpr ⟨fun h => absurd h (by decide), List.forall_mem_cons.mpr ⟨fun h => absurd h (by decide), fun _ h => absurd h List.not_mem_nil⟩⟩⟩⟩⟩⟩⟩⟩⟩⟩⟩⟩⟩⟩⟩⟩⟩⟩⟩⟩⟩⟩⟩⟩⟩⟩⟩⟩⟩⟩⟩⟩⟩⟩
theorem jq_chr : ∀ q ∈ tJl, q.2.2 = 2 → Cond.methodLink (av_cn tK q.1) q.2.1 jy_charAt ∈ tTs := List.forall_mem_cons.mpr ⟨fun h => absurd h (by decide), List.forall_mem_cons.mpr ⟨fun h => absurd h (by decide), List.forall_mem_cons.mpr ⟨fun h => absurd h (by decide), List.forall_mem_cons.mpr ⟨fun h => absurd h (by decide), List.forall_mem_cons.mpr ⟨fun h => absurd h (by decide), List.forall_mem_cons.mpr ⟨fun h => absurd h (by decide), List.forall_mem_cons.mpr ⟨fun h => absurd h (by decide), List.forall_mem_cons.mpr ⟨fun h => absurd h (by decide), List.forall_mem_cons.mpr ⟨fun h => absurd h (by decide), List.forall_mem_cons.mpr ⟨fun h => absurd h (by decide), List.forall_mem_cons.mpr ⟨fun h => absurd h (by decide), List.forall_mem_cons.mpr ⟨fun h => absurd h (by decide), List.forall_mem_cons.mpr ⟨fun h => absurd h (by decide), List.forall_mem_cons.mpr ⟨fun h => absurd h (by decide), List.forall_mem_cons.mpr ⟨fun h => absurd h (by decide), List.forall_mem_cons.mpr ⟨fun h => absurd h (by decide), List.forall_mem_cons.mpr ⟨fun h => absurd h (by decide), List.forall_mem_cons.mpr ⟨fun _ => tg_f (tg_t3 (List.mem_of_getElem? (i := 235) rfl)) rfl, List.forall_mem_cons.mpr ⟨fun h => absurd h (by decide), List.forall_mem_cons.mpr ⟨fun h => absurd h (by decide), List.forall_mem_cons.mpr ⟨fun h => absurd h (by decide), List.forall_mem_cons.mpr ⟨fun h => absurd h (by decide), List.forall_mem_cons.mpr ⟨fun h => absurd h (by decide), List.forall_mem_cons.mpr ⟨fun h => absurd h (by decide), List.forall_mem_cons.mpr ⟨fun h => absurd h (by decide), List.forall_mem_cons.mpr ⟨fun h => absurd h (by decide), List.forall_mem_cons.mpr ⟨fun h => absurd h (by decide), List.forall_mem_cons.mpr ⟨fun _ => tg_f (tg_t7 (List.mem_of_getElem? (i := 198) rfl)) rfl, List.forall_mem_cons.mpr ⟨fun h => absurd h (by decide), List.forall_mem_cons.mpr ⟨fun h => absurd h (by decide), List.forall_mem_cons.mpr ⟨fun h => absurd h (by decide), List.forall_mem_cons.mpr ⟨fun h => absurd h (by decide), List.forall_mem_cons.mpr ⟨fun h => absurd h (by decide), List.forall_mem_cons.mpr ⟨fun h => absurd h (by decide), fun _ h => absurd h List.not_mem_nil⟩⟩⟩⟩⟩⟩⟩⟩⟩⟩⟩⟩⟩⟩⟩⟩⟩⟩⟩⟩⟩⟩⟩⟩⟩⟩⟩⟩⟩⟩⟩⟩⟩⟩

theorem jG (k : Cond) (hk : k ∈ tTs) : GoodIn tTs (k :: tTs) := fun w hw => by
  rcases List.mem_cons.mp hw with e1 | e1
  · rw [e1]; exact ⟨hk, good_of_word (List.mem_filter.mp hk).2⟩
  · exact ⟨e1, good_of_word (List.mem_filter.mp e1).2⟩
def jCS (A : Nat → Prop) (U : State) : Prop := va_Z "java/lang/String" "COMPACT_STRINGS" "Z" (.int 1) A U U.heap
def jCo (A : Nat → Prop) (a : Nat) (U : State) : Prop := va_OF "java/lang/String" "coder" "B" (.int 0) a A U U.heap
def jOb (A : Nat → Prop) (a : Nat) (U : State) : Prop := va_O "java/lang/String" a A U U.heap
def jVa (A : Nat → Prop) (a v : Nat) (U : State) : Prop := va_OF "java/lang/String" "value" "[B" (.ref v) a A U U.heap
def jTx (A : Nat → Prop) (v : Nat) (tx : List Int32) (U : State) : Prop := va_T .byte v tx.length (fun j => .int (tx.getD j 0)) A U U.heap
def jFm (A : Nat → Prop) (U : State) : Prop := va_Zq "jdk/internal/util/Preconditions" "SIOOBE_FORMATTER" "Ljava/util/function/BiFunction;" A U U.heap
def jrm (k : Nat) : Room := { frames := k, cells := 0, slots := 0, locals := 25 * k }
set_option maxHeartbeats 1000000 in
theorem c_coder (l : Launch) (A : Nat → Prop) (a : Nat) : Met l jy_coder (jw_coder :: tTs) (jrm 0) (va_Pc [.ref a] (fun U => jCS A U ∧ jCo A a U)) (vp_Si (fun r => r = 0)) 0 0 (fun _ => False) := by
  refine Met.ofW (cc := jc_coder) (maxL := 1) (ret := some .byte) (by decide +kernel) rfl ?_
  intro p e s m args below meth c s₁ B hml hv
  obtain ⟨rfl, hZ, hC⟩ := hv
  have hx := B.exec
  have hb := B.bytes
  have hr := B.returns
  have hts := atoms_spec (ws := jw_coder :: tTs) B.pre
  have hown : s.vm.findClass "java/lang/String" = some m.cls := findClass_of_methodNamed B.named
  have hlocks := B.notSynchronized
  have hS : va_S A s.heap s.heap [] := va_S.rf
  have hl := lv_entry ([.ref a]) (n := 1) (Nat.le_of_ble_eq_true rfl)
  rw [lg_entry_eq]
  generalize (lg_sl ([.ref a]) ++ List.replicate (1 - (lg_sl ([.ref a])).length) Slot.unset).toArray = ls at hl ⊢
  have hl : lv_has ls 1 [(0, .ref a)] := hl
  refine va_gets hx hb hZ hS hown (hts _ (List.mem_cons_of_mem _ jf_cs)) (fun _ z => z) (show decode jc_coder 0 = .ok (.getstatic 38, 3) by decide +kernel) ?_
  refine lv_if_eq (tgt := 13) hx hb (show decode jc_coder 3 = .ok (.ifCond .eq 10, 3) by decide +kernel) (by decide) (fun h => absurd h (by decide)) (fun _ => ?_)
  refine lv_aload_n hx hb (show decode jc_coder 6 = .ok (.aload_n 0, 1) by decide +kernel) rfl (lv_at hl 0 rfl) ?_
  refine vk_getf hx hb hC hS hown (hts _ (List.mem_cons_of_mem _ jf_co)) (fun _ z => z) (show decode jc_coder 7 = .ok (.getfield 15, 3) by decide +kernel) ?_
  refine lv_goto (tgt := 14) hx hb (show decode jc_coder 10 = .ok (.goto 4, 3) by decide +kernel) (by decide) ?_
  exact W.zret (ty := .byte) hx hb hr (by decide) (fun t ht hW => ⟨0, rfl, rfl, ht⟩) (fun q hq => by cases hq) (show decode jc_coder 14 = .ok (.ireturn, 1) by decide +kernel)
set_option maxHeartbeats 1000000 in
theorem c_latin (l : Launch) (A : Nat → Prop) (a : Nat) : Met l jy_latin (jw_latin :: tTs) (jrm 0) (va_Pc [.ref a] (fun U => jCS A U ∧ jCo A a U)) (vp_Si (fun r => r = 1)) 0 0 (fun _ => False) := by
  refine Met.ofW (cc := jc_latin) (maxL := 1) (ret := some .boolean) (by decide +kernel) rfl ?_
  intro p e s m args below meth c s₁ B hml hv
  obtain ⟨rfl, hZ, hC⟩ := hv
  have hx := B.exec
  have hb := B.bytes
  have hr := B.returns
  have hts := atoms_spec (ws := jw_latin :: tTs) B.pre
  have hown : s.vm.findClass "java/lang/String" = some m.cls := findClass_of_methodNamed B.named
  have hlocks := B.notSynchronized
  have hS : va_S A s.heap s.heap [] := va_S.rf
  have hl := lv_entry ([.ref a]) (n := 1) (Nat.le_of_ble_eq_true rfl)
  rw [lg_entry_eq]
  generalize (lg_sl ([.ref a]) ++ List.replicate (1 - (lg_sl ([.ref a])).length) Slot.unset).toArray = ls at hl ⊢
  have hl : lv_has ls 1 [(0, .ref a)] := hl
  refine va_gets hx hb hZ hS hown (hts _ (List.mem_cons_of_mem _ jf_cs)) (fun _ z => z) (show decode jc_latin 0 = .ok (.getstatic 38, 3) by decide +kernel) ?_
  refine lv_if_eq (tgt := 17) hx hb (show decode jc_latin 3 = .ok (.ifCond .eq 14, 3) by decide +kernel) (by decide) (fun h => absurd h (by decide)) (fun _ => ?_)
  refine lv_aload_n hx hb (show decode jc_latin 6 = .ok (.aload_n 0, 1) by decide +kernel) rfl (lv_at hl 0 rfl) ?_
  refine vk_getf hx hb hC hS hown (hts _ (List.mem_cons_of_mem _ jf_co)) (fun _ z => z) (show decode jc_latin 7 = .ok (.getfield 15, 3) by decide +kernel) ?_
  refine lv_if_ne (tgt := 17) hx hb (show decode jc_latin 10 = .ok (.ifCond .ne 7, 3) by decide +kernel) (by decide) (fun h => absurd rfl h) (fun _ => ?_)
  refine lv_iconst hx hb (show decode jc_latin 13 = .ok (.iconst 1, 1) by decide +kernel) rfl ?_
  refine lv_goto (tgt := 18) hx hb (show decode jc_latin 14 = .ok (.goto 4, 3) by decide +kernel) (by decide) ?_
  exact W.zret (ty := .boolean) hx hb hr (by decide) (fun t ht hW => ⟨1, rfl, rfl, ht⟩) (fun q hq => by cases hq) (show decode jc_latin 18 = .ok (.ireturn, 1) by decide +kernel)
theorem jblind2 {A : Nat → Prop} {a : Nat} : FrameBlind (va_Pc [.ref a] (fun U => jCS A U ∧ jCo A a U)) := fun b U g mk q => ⟨q.1, va_Z.moved (u := U) (U := U.calling g mk b) (Vm.Alike.refl U.vm) q.2.1, va_OF.moved (u := U) (U := U.calling g mk b) (Vm.Alike.refl U.vm) q.2.2⟩
set_option maxHeartbeats 1000000 in
theorem c_length (l : Launch) (A : Nat → Prop) (a v : Nat) (tx : List Int32) : Met l jy_length (jw_length :: tTs) (jrm 1) (va_Pc [.ref a] (fun U => jCS A U ∧ jCo A a U ∧ jOb A a U ∧ jVa A a v U ∧ jTx A v tx U)) (vp_Si (fun r => r = Int32.ofNat tx.length)) 0 0 (fun _ => False) := by
  refine Met.ofW (cc := jc_length) (maxL := 1) (ret := some .int) (by decide +kernel) rfl ?_
  intro p e s m args below meth c s₁ B hml hv
  obtain ⟨rfl, hZ, hC, hO, hV, hT⟩ := hv
  have hx := B.exec
  have hb := B.bytes
  have hr := B.returns
  have hts := atoms_spec (ws := jw_length :: tTs) B.pre
  have hts1 : ∀ w ∈ tTs, w.before #[.ref a] s = true := fun w hw => hts w (List.mem_cons_of_mem _ hw)
  have hown : s.vm.findClass "java/lang/String" = some m.cls := findClass_of_methodNamed B.named
  have hlocks := B.notSynchronized
  have hS : va_S A s.heap s.heap [] := va_S.rf
  have hl := lv_entry ([.ref a]) (n := 1) (Nat.le_of_ble_eq_true rfl)
  rw [lg_entry_eq]
  generalize (lg_sl ([.ref a]) ++ List.replicate (1 - (lg_sl ([.ref a])).length) Slot.unset).toArray = ls at hl ⊢
  have hl : lv_has ls 1 [(0, .ref a)] := hl
  obtain ⟨cell, t1, t2, t3, t4, t5, t6, t7⟩ := hT
  refine lv_aload_n hx hb (show decode jc_length 0 = .ok (.aload_n 0, 1) by decide +kernel) rfl (lv_at hl 0 rfl) ?_
  refine vk_getf hx hb hV hS hown (hts1 _ jf_va) (fun _ z => z) (show decode jc_length 1 = .ok (.getfield 9, 3) by decide +kernel) ?_
  refine W.alen (g := F0 m 4 ls [.ref v]) hx hb t1 t2 t5 rfl rfl (show decode jc_length 4 = .ok (.arraylength, 1) by decide +kernel) ?_
  refine lv_aload_n (pc := 5) hx hb (show decode jc_length 5 = .ok (.aload_n 0, 1) by decide +kernel) rfl (lv_at hl 0 rfl) ?_
  obtain ⟨cO, o1, o2, o3, -⟩ := hO
  refine vp_callSi (W.runV (C := "java/lang/String") (b := a) (As := []) (rest := [.int (Int32.ofNat tx.length)]) (n := 0) ⟨hx, hb, hml, hown, hts1⟩ (c_coder l A a) ⟨⟨rfl, rfl, by decide, by decide, pay_in hts1 (jG _ jm_coder), List.mem_cons_self, hts1 _ jm_coder, hts1 _ jn_S, ⟨by decide +kernel, by decide +kernel⟩, fun sig h => ?_, hts1 _ jk_coder⟩, hts1 _ ji_coder, hts1 _ jl_coder⟩ ⟨jblind2, ⟨cO, o1, o2, o3⟩, fun U hU hW => ⟨rfl, ?_, ?_⟩⟩ rfl rfl hl.1 rfl (lv_room (Nat.le_of_ble_eq_true rfl)) (show decode jc_length 6 = .ok (.invokevirtual 335, 3) by decide +kernel) ⟨Nat.le_refl _, Nat.le_refl _⟩) (fun r hr0 => ?_)
  · have h2 : (parseMethodDescriptor jy_coder.desc).map (fun d => d.parameters.length) = some 0 := by decide +kernel
    rw [h] at h2
    exact (Option.some.inj h2).symm
  · exact va_Z.moved hW.alike (by rw [hU]; exact hZ)
  · exact va_OF.moved hW.alike (by rw [hU]; exact hC)
  · subst hr0
    refine lv_ishr hx hb (show decode jc_length 9 = .ok (.ishr, 1) by decide +kernel) ?_
    rw [sb_shr0]
    exact W.iret hx hb hr (fun t ht hW => ⟨_, rfl, rfl, ht⟩) (fun q hq => by cases hq) (show decode jc_length 10 = .ok (.ireturn, 1) by decide +kernel)

set_option maxHeartbeats 1000000 in
theorem c_pre (l : Launch) (i n : Int32) (fv : Value) (hfv : fv.category = 1) (h0 : ¬ i < 0) (h1 : i < n) : Met l jy_pre (jw_pre :: tTs) (jrm 0) (va_Pc [.int i, .int n, fv] (fun _ => True)) (vp_Si (fun r => r = i)) 0 0 (fun _ => False) := by
  refine Met.ofW (cc := jc_pre) (maxL := 3) (ret := some .int) (by decide +kernel) rfl ?_
  intro p e s m args below meth c s₁ B hml hv
  obtain ⟨rfl, -⟩ := hv
  have hx := B.exec
  have hb := B.bytes
  have hr := B.returns
  have hlocks := B.notSynchronized
  have hcat : ∀ w ∈ [Value.int i, .int n, fv], w.category = 1 := fun w hw => by
    rcases List.mem_cons.mp hw with e1 | e1
    · rw [e1]; rfl
    · rcases List.mem_cons.mp e1 with e2 | e2
      · rw [e2]; rfl
      · rw [List.mem_singleton.mp e2]; exact hfv
  have hl := lv_entry ([.int i, .int n, fv]) (n := 3) (by rw [lg_sl1 _ hcat]; exact Nat.le_refl _)
  rw [lg_entry_eq]
  generalize (lg_sl ([Value.int i, .int n, fv]) ++ List.replicate (3 - (lg_sl ([Value.int i, .int n, fv])).length) Slot.unset).toArray = ls at hl ⊢
  have hl : lv_has ls 3 [(0, .int i), (1, .int n), (2, fv)] := hl
  refine lv_iload_n hx hb (show decode jc_pre 0 = .ok (.iload_n 0, 1) by decide +kernel) rfl (lv_at hl 0 rfl) ?_
  refine lv_if_lt (tgt := 9) hx hb (show decode jc_pre 1 = .ok (.ifCond .lt 8, 3) by decide +kernel) (by decide) (fun h => absurd h h0) (fun _ => ?_)
  refine lv_iload_n hx hb (show decode jc_pre 4 = .ok (.iload_n 0, 1) by decide +kernel) rfl (lv_at hl 0 rfl) ?_
  refine lv_iload_n hx hb (show decode jc_pre 5 = .ok (.iload_n 1, 1) by decide +kernel) rfl (lv_at hl 1 rfl) ?_
  refine lv_icmp_lt (tgt := 16) hx hb (show decode jc_pre 6 = .ok (.if_icmp .lt 10, 3) by decide +kernel) (by decide) (fun _ => ?_) (fun h => absurd h1 h)
  refine lv_iload_n hx hb (show decode jc_pre 16 = .ok (.iload_n 0, 1) by decide +kernel) rfl (lv_at hl 0 rfl) ?_
  exact W.iret hx hb hr (fun t ht hW => ⟨i, rfl, rfl, ht⟩) (fun q hq => by cases hq) (show decode jc_pre 17 = .ok (.ireturn, 1) by decide +kernel)
set_option maxHeartbeats 1000000 in
theorem c_chk (l : Launch) (A : Nat → Prop) (i n : Int32) (h0 : ¬ i < 0) (h1 : i < n) : Met l jy_chk (jw_chk :: tTs) (jrm 1) (va_Pc [.int i, .int n] (fun U => jFm A U)) (va_Sv (fun _ => True)) 0 0 (fun _ => False) := by
  refine Met.ofW (cc := jc_chk) (maxL := 2) (ret := none) (by decide +kernel) rfl ?_
  intro p e s m args below meth c s₁ B hml hv
  obtain ⟨rfl, hF⟩ := hv
  have hx := B.exec
  have hb := B.bytes
  have hr := B.returns
  have hts := atoms_spec (ws := jw_chk :: tTs) B.pre
  have hts1 : ∀ w ∈ tTs, w.before #[.int i, .int n] s = true := fun w hw => hts w (List.mem_cons_of_mem _ hw)
  have hown : s.vm.findClass "java/lang/String" = some m.cls := findClass_of_methodNamed B.named
  have hlocks := B.notSynchronized
  have hS : va_S A s.heap s.heap [] := va_S.rf
  have hl := lv_entry ([.int i, .int n]) (n := 2) (Nat.le_of_ble_eq_true rfl)
  rw [lg_entry_eq]
  generalize (lg_sl ([Value.int i, .int n]) ++ List.replicate (2 - (lg_sl ([Value.int i, .int n])).length) Slot.unset).toArray = ls at hl ⊢
  have hl : lv_has ls 2 [(0, .int i), (1, .int n)] := hl
  refine lv_iload_n hx hb (show decode jc_chk 0 = .ok (.iload_n 0, 1) by decide +kernel) rfl (lv_at hl 0 rfl) ?_
  refine lv_iload_n hx hb (show decode jc_chk 1 = .ok (.iload_n 1, 1) by decide +kernel) rfl (lv_at hl 1 rfl) ?_
  have go : ∀ fv : Value, fv.category = 1 → W p l e (headSpec (jw_chk :: tTs) (jrm 1)).room s m #[.int i, .int n] below meth c s.heap [] 0 0 (MQ below (va_Sv (fun _ => True)) #[.int i, .int n] s 0 0 (fun _ => False)) (F0 m 5 ls [fv, .int n, .int i]) := fun fv hfv => by
    refine vp_callSi (W.runS (As := [.int i, .int n, fv]) (rest := []) (n := 3) ⟨hx, hb, hml, hown, hts1⟩ (c_pre l i n fv hfv h0 h1) ⟨⟨rfl, rfl, by decide, by decide, pay_in hts1 (jG _ jm_pre), List.mem_cons_self, hts1 _ jm_pre, hts1 _ jn_P, ⟨by decide +kernel, by decide +kernel⟩, fun sig h => ?_, hts1 _ jk_pre⟩, hts1 _ js_pre⟩ ⟨fun b U g mk q => q, fun U hU hW => ⟨rfl, trivial⟩⟩ rfl rfl hl.1 rfl (lv_room (Nat.le_of_ble_eq_true rfl)) (show decode jc_chk 5 = .ok (.invokestatic 1059, 3) by decide +kernel) ⟨Nat.le_refl _, Nat.le_refl _⟩) (fun r hr0 => ?_)
    · have h2 : (parseMethodDescriptor jy_pre.desc).map (fun d => d.parameters.length) = some 3 := by decide +kernel
      rw [h] at h2
      exact (Option.some.inj h2).symm
    · refine lv_pop hx hb (show decode jc_chk 8 = .ok (.pop, 1) by decide +kernel) rfl ?_
      exact W.vret hx hb hr (fun t ht hW => ⟨rfl, trivial, ht⟩) (fun q hq => by cases hq) (show decode jc_chk 9 = .ok (.return_, 1) by decide +kernel)
  rcases hF with hF | ⟨t, hF⟩
  · exact va_gets hx hb hF hS hown (hts1 _ jf_fm) (fun _ z => z) (show decode jc_chk 2 = .ok (.getstatic 1053, 3) by decide +kernel) (go .null rfl)
  · exact va_gets hx hb hF hS hown (hts1 _ jf_fm) (fun _ z => z) (show decode jc_chk 2 = .ok (.getstatic 1053, 3) by decide +kernel) (go (.ref t) rfl)
def jok (b : Int32) : Bool := decide (((b &&& 255).toUInt32 % 65536).toInt32 = b) && decide (narrow .char (.int b) = .int b)
set_option maxHeartbeats 1000000 in
theorem c_l1 (l : Launch) (A : Nat → Prop) (v : Nat) (tx : List Int32) (i : Int32) (hi : av_in i tx.length = true) (hn : tx.length < 2 ^ 31) (hj : jok (tx.getD i.toNatClampNeg 0) = true) : Met l jy_l1 (jw_l1 :: tTs) (jrm 2) (va_Pc [.ref v, .int i] (fun U => jTx A v tx U ∧ jFm A U)) (vp_Si (fun r => r = tx.getD i.toNatClampNeg 0)) 0 0 (fun _ => False) := by
  simp only [jok, Bool.and_eq_true, decide_eq_true_eq] at hj
  have hvi := av_in_iff hi
  have hi0 : ¬ i < 0 := fun h => hvi (Or.inl h)
  have hi1 : i < Int32.ofNat tx.length := by
    obtain ⟨j, hj1, hj2⟩ := vp_in_of hvi hn
    rw [hj2]
    exact nI_lt hj1 hn
  have hlt : i.toNatClampNeg < tx.length := Nat.not_le.mp fun q => hvi (Or.inr q)
  refine Met.ofW (cc := jc_l1) (maxL := 2) (ret := some .char) (by decide +kernel) rfl ?_
  intro p e s m args below meth c s₁ B hml hv
  obtain ⟨rfl, hT, hF⟩ := hv
  have hx := B.exec
  have hb := B.bytes
  have hr := B.returns
  have hts := atoms_spec (ws := jw_l1 :: tTs) B.pre
  have hts1 : ∀ w ∈ tTs, w.before #[.ref v, .int i] s = true := fun w hw => hts w (List.mem_cons_of_mem _ hw)
  have hown : s.vm.findClass "java/lang/StringLatin1" = some m.cls := findClass_of_methodNamed B.named
  have hlocks := B.notSynchronized
  have hl := lv_entry ([.ref v, .int i]) (n := 2) (Nat.le_of_ble_eq_true rfl)
  rw [lg_entry_eq]
  generalize (lg_sl ([Value.ref v, .int i]) ++ List.replicate (2 - (lg_sl ([Value.ref v, .int i])).length) Slot.unset).toArray = ls at hl ⊢
  have hl : lv_has ls 2 [(0, .ref v), (1, .int i)] := hl
  obtain ⟨cell, t1, t2, t3, t4, t5, t6, t7⟩ := hT
  refine lv_iload_n hx hb (show decode jc_l1 0 = .ok (.iload_n 1, 1) by decide +kernel) rfl (lv_at hl 1 rfl) ?_
  refine lv_aload_n hx hb (show decode jc_l1 1 = .ok (.aload_n 0, 1) by decide +kernel) rfl (lv_at hl 0 rfl) ?_
  refine W.alen (g := F0 m 2 ls [.ref v, .int i]) hx hb t1 t2 t5 rfl rfl (show decode jc_l1 2 = .ok (.arraylength, 1) by decide +kernel) ?_
  refine va_csv (pc := 3) (W.runS (As := [.int i, .int (Int32.ofNat tx.length)]) (rest := []) (n := 2) ⟨hx, hb, hml, hown, hts1⟩ (c_chk l A i (Int32.ofNat tx.length) hi0 hi1) ⟨⟨rfl, rfl, by decide, by decide, pay_in hts1 (jG _ jm_chk), List.mem_cons_self, hts1 _ jm_chk, hts1 _ jn_S, ⟨by decide +kernel, by decide +kernel⟩, fun sig h => ?_, hts1 _ jk_chk⟩, hts1 _ js_chk⟩ ⟨fun b U g mk q => ⟨q.1, va_Zq.moved (u := U) (U := U.calling g mk b) (Vm.Alike.refl U.vm) q.2⟩, fun U hU hW => ⟨rfl, ?_⟩⟩ rfl rfl hl.1 rfl (lv_room (Nat.le_of_ble_eq_true rfl)) (show decode jc_l1 3 = .ok (.invokestatic 9, 3) by decide +kernel) ⟨Nat.le_refl _, Nat.le_refl _⟩) (fun _ => ?_)
  · have h2 : (parseMethodDescriptor jy_chk.desc).map (fun d => d.parameters.length) = some 2 := by decide +kernel
    rw [h] at h2
    exact (Option.some.inj h2).symm
  · exact va_Zq.moved hW.alike (by rw [hU]; exact hF)
  · refine lv_aload_n hx hb (show decode jc_l1 6 = .ok (.aload_n 0, 1) by decide +kernel) rfl (lv_at hl 0 rfl) ?_
    refine lv_iload_n hx hb (show decode jc_l1 7 = .ok (.iload_n 1, 1) by decide +kernel) rfl (lv_at hl 1 rfl) ?_
    refine W.bald (g := F0 m 8 ls [.int i, .ref v]) (v := .int (tx.getD i.toNatClampNeg 0)) hx hb t1 t2 t3 (fun h => ?_) (t6 _ hlt) rfl rfl (show decode jc_l1 8 = .ok (.baload, 1) by decide +kernel) ?_
    · rcases h with h | h
      · exact hi0 h
      · exact absurd (Nat.lt_of_lt_of_le hlt t4) (Nat.not_lt.mpr h)
    · refine lv_sipush (pc := 9) hx hb (show decode jc_l1 9 = .ok (.sipush 255, 3) by decide +kernel) rfl ?_
      refine lv_iand hx hb (show decode jc_l1 12 = .ok (.iand, 1) by decide +kernel) ?_
      refine lv_i2c hx hb (show decode jc_l1 13 = .ok (.i2c, 1) by decide +kernel) hj.1 ?_
      exact W.zret (ty := .char) hx hb hr hj.2 (fun t ht hW => ⟨_, rfl, rfl, ht⟩) (fun q hq => by cases hq) (show decode jc_l1 14 = .ok (.ireturn, 1) by decide +kernel)
set_option maxHeartbeats 1000000 in
theorem c_charAt (l : Launch) (A : Nat → Prop) (a v : Nat) (tx : List Int32) (i : Int32) (hi : av_in i tx.length = true) (hn : tx.length < 2 ^ 31) (hj : jok (tx.getD i.toNatClampNeg 0) = true) : Met l jy_charAt (jw_charAt :: tTs) (jrm 3) (va_Pc [.ref a, .int i] (fun U => jCS A U ∧ jCo A a U ∧ jOb A a U ∧ jVa A a v U ∧ jTx A v tx U ∧ jFm A U)) (vp_Si (fun r => r = tx.getD i.toNatClampNeg 0)) 0 0 (fun _ => False) := by
  have hj1 := hj
  simp only [jok, Bool.and_eq_true, decide_eq_true_eq] at hj1
  refine Met.ofW (cc := jc_charAt) (maxL := 2) (ret := some .char) (by decide +kernel) rfl ?_
  intro p e s m args below meth c s₁ B hml hv
  obtain ⟨rfl, hZ, hC, hO, hV, hT, hF⟩ := hv
  have hx := B.exec
  have hb := B.bytes
  have hr := B.returns
  have hts := atoms_spec (ws := jw_charAt :: tTs) B.pre
  have hts1 : ∀ w ∈ tTs, w.before #[.ref a, .int i] s = true := fun w hw => hts w (List.mem_cons_of_mem _ hw)
  have hown : s.vm.findClass "java/lang/String" = some m.cls := findClass_of_methodNamed B.named
  have hlocks := B.notSynchronized
  have hS : va_S A s.heap s.heap [] := va_S.rf
  have hl := lv_entry ([.ref a, .int i]) (n := 2) (Nat.le_of_ble_eq_true rfl)
  rw [lg_entry_eq]
  generalize (lg_sl ([Value.ref a, .int i]) ++ List.replicate (2 - (lg_sl ([Value.ref a, .int i])).length) Slot.unset).toArray = ls at hl ⊢
  have hl : lv_has ls 2 [(0, .ref a), (1, .int i)] := hl
  refine lv_aload_n hx hb (show decode jc_charAt 0 = .ok (.aload_n 0, 1) by decide +kernel) rfl (lv_at hl 0 rfl) ?_
  obtain ⟨cO, o1, o2, o3, -⟩ := hO
  refine vp_callSi (W.runV (C := "java/lang/String") (b := a) (As := []) (rest := []) (n := 0) ⟨hx, hb, hml, hown, hts1⟩ (c_latin l A a) ⟨⟨rfl, rfl, by decide, by decide, pay_in hts1 (jG _ jm_latin), List.mem_cons_self, hts1 _ jm_latin, hts1 _ jn_S, ⟨by decide +kernel, by decide +kernel⟩, fun sig h => ?_, hts1 _ jk_latin⟩, hts1 _ ji_latin, hts1 _ jl_latin⟩ ⟨jblind2, ⟨cO, o1, o2, o3⟩, fun U hU hW => ⟨rfl, ?_, ?_⟩⟩ rfl rfl hl.1 rfl (lv_room (Nat.le_of_ble_eq_true rfl)) (show decode jc_charAt 1 = .ok (.invokevirtual 492, 3) by decide +kernel) ⟨Nat.le_refl _, Nat.le_refl _⟩) (fun r hr0 => ?_)
  · have h2 : (parseMethodDescriptor jy_latin.desc).map (fun d => d.parameters.length) = some 0 := by decide +kernel
    rw [h] at h2
    exact (Option.some.inj h2).symm
  · exact va_Z.moved hW.alike (by rw [hU]; exact hZ)
  · exact va_OF.moved hW.alike (by rw [hU]; exact hC)
  · subst hr0
    refine lv_if_eq (pc := 4) (tgt := 16) hx hb (show decode jc_charAt 4 = .ok (.ifCond .eq 12, 3) by decide +kernel) (by decide) (fun h => absurd h (by decide)) (fun _ => ?_)
    refine lv_aload_n hx hb (show decode jc_charAt 7 = .ok (.aload_n 0, 1) by decide +kernel) rfl (lv_at hl 0 rfl) ?_
    refine vk_getf hx hb hV hS hown (hts1 _ jf_va) (fun _ z => z) (show decode jc_charAt 8 = .ok (.getfield 9, 3) by decide +kernel) ?_
    refine lv_iload_n hx hb (show decode jc_charAt 11 = .ok (.iload_n 1, 1) by decide +kernel) rfl (lv_at hl 1 rfl) ?_
    refine vp_callSi (W.runS (As := [.ref v, .int i]) (rest := []) (n := 2) ⟨hx, hb, hml, hown, hts1⟩ (c_l1 l A v tx i hi hn hj) ⟨⟨rfl, rfl, by decide, by decide, pay_in hts1 (jG _ jm_l1), List.mem_cons_self, hts1 _ jm_l1, hts1 _ jn_L, ⟨by decide +kernel, by decide +kernel⟩, fun sig h => ?_, hts1 _ jk_l1⟩, hts1 _ js_l1⟩ ⟨fun b U g mk q => ⟨q.1, va_T.moved (u := U) (U := U.calling g mk b) (Vm.Alike.refl U.vm) q.2.1, va_Zq.moved (u := U) (U := U.calling g mk b) (Vm.Alike.refl U.vm) q.2.2⟩, fun U hU hW => ⟨rfl, ?_, ?_⟩⟩ rfl rfl hl.1 rfl (lv_room (Nat.le_of_ble_eq_true rfl)) (show decode jc_charAt 12 = .ok (.invokestatic 495, 3) by decide +kernel) ⟨Nat.le_refl _, Nat.le_refl _⟩) (fun r hr0 => ?_)
    · have h2 : (parseMethodDescriptor jy_l1.desc).map (fun d => d.parameters.length) = some 2 := by decide +kernel
      rw [h] at h2
      exact (Option.some.inj h2).symm
    · exact va_T.moved hW.alike (by rw [hU]; exact hT)
    · exact va_Zq.moved hW.alike (by rw [hU]; exact hF)
    · subst hr0
      exact W.zret (pc := 15) (ty := .char) hx hb hr hj1.2 (fun t ht hW => ⟨_, rfl, rfl, ht⟩) (fun q hq => by cases hq) (show decode jc_charAt 15 = .ok (.ireturn, 1) by decide +kernel)
theorem jtx_ok : ∀ a, a < 69 → ∀ b ∈ tTx.getD a [], jok b = true := by decide +kernel
theorem jtx_lt {a : Nat} (h : 0 < (tTx.getD a []).length) : a < 69 := by
  by_cases h1 : a < 69
  · exact h1
  · exfalso
    rw [List.getD_eq_getElem?_getD, List.getElem?_eq_none (by show (69 : Nat) ≤ a; omega)] at h
    exact absurd h (by decide)
/-- THE TEXTS' METHODS -/
theorem j_strs (nx : Nat) (xs : Nat → Int32) (cy τ : Nat → Nat) (D : va_G) (A : Nat → Prop) (l : Launch) : av_Strs (tP nx xs) tK tTs tXs tNc 69 tCl cy τ D A l := by
  intro nL oc ini cc p e R s m args below meth c Q hF hO2
  obtain ⟨⟨hx, hb, hml, hown⟩, hts, hin, hK, hA, hOld, hR⟩ := hF
  refine ⟨fun pc ix a ls rest H locs cells slots hd hm hsz hS h8 hc hs h0 k => ?_, fun pc ix a i ls rest H locs cells slots hd hm hsz hS h8 hc hs hi k => ?_⟩
  · have ha : a < 69 := jtx_lt h0
    obtain ⟨g1, g2, v, g3, g4⟩ := hO2.2.2.2.2 a ha
    have gO := g1.kept hS.2.1
    obtain ⟨cO, o1, o2, o3, -⟩ := gO
    refine vp_callSi (W.runV (C := "java/lang/String") (b := τ (a + 1)) (As := []) (rest := rest) (n := 0) (bytes := jc_length) (maxL := 1) (ret := some .int) ⟨hx, hb, hml, hown, hts⟩ (c_length l A (τ (a + 1)) v (tTx.getD a [])) ⟨⟨rfl, rfl, ?_, ?_, pay_in hts (jG _ jm_length), List.mem_cons_self, hts _ jm_length, hts _ jn_S, ⟨by decide +kernel, by decide +kernel⟩, fun sig h => ?_, hts _ (jq_len _ hm rfl)⟩, hts _ ji_length, hts _ jl_length⟩ ⟨fun b U g mk q => ⟨q.1, va_Z.moved (u := U) (U := U.calling g mk b) (Vm.Alike.refl U.vm) q.2.1, va_OF.moved (u := U) (U := U.calling g mk b) (Vm.Alike.refl U.vm) q.2.2.1, va_O.moved (u := U) (U := U.calling g mk b) (Vm.Alike.refl U.vm) q.2.2.2.1, va_OF.moved (u := U) (U := U.calling g mk b) (Vm.Alike.refl U.vm) q.2.2.2.2.1, va_T.moved (u := U) (U := U.calling g mk b) (Vm.Alike.refl U.vm) q.2.2.2.2.2⟩, ⟨cO, o1, o2, o3⟩, fun U hU hW => ⟨rfl, ?_, ?_, ?_, ?_, ?_⟩⟩ rfl rfl hsz rfl (lv_room h8) hd ⟨hc, hs⟩) (fun r hr0 => ?_)
    · have := hR.1; show 1 + 1 ≤ R.frames; omega
    · have := hR.2; show 8 + (1 + 11) + 25 * 1 ≤ R.locals; omega
    · have h2 : (parseMethodDescriptor jy_length.desc).map (fun d => d.parameters.length) = some 0 := by decide +kernel
      rw [h] at h2
      exact (Option.some.inj h2).symm
    · exact va_Z.moved hW.alike (by rw [hU]; exact hO2.2.2.2.1.1.kept hS.2.1)
    · exact va_OF.moved hW.alike (by rw [hU]; exact g2.kept hS.2.1)
    · exact va_O.moved hW.alike (by rw [hU]; exact g1.kept hS.2.1)
    · exact va_OF.moved hW.alike (by rw [hU]; exact g3.kept hS.2.1)
    · exact va_T.moved hW.alike (by rw [hU]; exact g4.kept hS.2.1)
    · rw [hr0]; exact k
  · have hlt : i.toNatClampNeg < (tTx.getD a []).length := by
      simp only [av_in, Bool.and_eq_true, decide_eq_true_eq] at hi
      exact hi.2
    have ha : a < 69 := jtx_lt (Nat.lt_of_le_of_lt (Nat.zero_le _) hlt)
    have hj : jok ((tTx.getD a []).getD i.toNatClampNeg 0) = true := jtx_ok a ha _ (by
      rw [List.getD_eq_getElem?_getD (l := tTx.getD a []), List.getElem?_eq_getElem hlt]
      exact List.getElem_mem _)
    obtain ⟨g1, g2, v, g3, g4⟩ := hO2.2.2.2.2 a ha
    have gO := g1.kept hS.2.1
    obtain ⟨cO, o1, o2, o3, -⟩ := gO
    refine vp_callSi (W.runV (C := "java/lang/String") (b := τ (a + 1)) (As := [.int i]) (rest := rest) (n := 1) (bytes := jc_charAt) (maxL := 2) (ret := some .char) ⟨hx, hb, hml, hown, hts⟩ (c_charAt l A (τ (a + 1)) v (tTx.getD a []) i hi (ts_len a ha) hj) ⟨⟨rfl, rfl, ?_, ?_, pay_in hts (jG _ jm_charAt), List.mem_cons_self, hts _ jm_charAt, hts _ jn_S, ⟨by decide +kernel, by decide +kernel⟩, fun sig h => ?_, hts _ (jq_chr _ hm rfl)⟩, hts _ ji_charAt, hts _ jl_charAt⟩ ⟨fun b U g mk q => ⟨q.1, va_Z.moved (u := U) (U := U.calling g mk b) (Vm.Alike.refl U.vm) q.2.1, va_OF.moved (u := U) (U := U.calling g mk b) (Vm.Alike.refl U.vm) q.2.2.1, va_O.moved (u := U) (U := U.calling g mk b) (Vm.Alike.refl U.vm) q.2.2.2.1, va_OF.moved (u := U) (U := U.calling g mk b) (Vm.Alike.refl U.vm) q.2.2.2.2.1, va_T.moved (u := U) (U := U.calling g mk b) (Vm.Alike.refl U.vm) q.2.2.2.2.2.1, va_Zq.moved (u := U) (U := U.calling g mk b) (Vm.Alike.refl U.vm) q.2.2.2.2.2.2⟩, ⟨cO, o1, o2, o3⟩, fun U hU hW => ⟨rfl, ?_, ?_, ?_, ?_, ?_, ?_⟩⟩ rfl rfl hsz rfl (lv_room h8) hd ⟨hc, hs⟩) (fun r hr0 => ?_)
    · have := hR.1; show 3 + 1 ≤ R.frames; omega
    · have := hR.2; show 8 + (2 + 11) + 25 * 3 ≤ R.locals; omega
    · have h2 : (parseMethodDescriptor jy_charAt.desc).map (fun d => d.parameters.length) = some 1 := by decide +kernel
      rw [h] at h2
      exact (Option.some.inj h2).symm
    · exact va_Z.moved hW.alike (by rw [hU]; exact hO2.2.2.2.1.1.kept hS.2.1)
    · exact va_OF.moved hW.alike (by rw [hU]; exact g2.kept hS.2.1)
    · exact va_O.moved hW.alike (by rw [hU]; exact g1.kept hS.2.1)
    · exact va_OF.moved hW.alike (by rw [hU]; exact g3.kept hS.2.1)
    · exact va_T.moved hW.alike (by rw [hU]; exact g4.kept hS.2.1)
    · exact va_Zq.moved hW.alike (by rw [hU]; exact hO2.2.2.2.1.2.kept hS.2.1)
    · rw [hr0]; exact k

