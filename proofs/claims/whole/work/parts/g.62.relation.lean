/-! ===== WHAT THE ABSTRACT MACHINE SAYS OF THE REAL ONE ===== -/
/-- class names; fields (own, index, class, slot); methods (own, index, method); nest mates' methods; int constants; texts; classes that are made; the JDK's own (0 arraycopy, 1 length, 2 charAt, 3 Object's, 4 the class of rows of State, 5 clone of ints, 6 the class of ints, 7 max, 8 min) -/
abbrev av_K : Type := (Nat → String) × List (Nat × Nat × Nat × Nat) × List (Nat × Nat × Nat) × List (Nat × Nat × Nat) × List (Nat × Nat × Int) × List (Nat × Nat × Nat) × List (Nat × Nat × Nat) × List (Nat × Nat × Nat)
def av_cn (K : av_K) : Nat → String := K.1
def av_fl (K : av_K) : List (Nat × Nat × Nat × Nat) := K.2.1
def av_ml (K : av_K) : List (Nat × Nat × Nat) := K.2.2.1
def av_nl (K : av_K) : List (Nat × Nat × Nat) := K.2.2.2.1
def av_kl (K : av_K) : List (Nat × Nat × Int) := K.2.2.2.2.1
def av_sl (K : av_K) : List (Nat × Nat × Nat) := K.2.2.2.2.2.1
def av_kc (K : av_K) : List (Nat × Nat × Nat) := K.2.2.2.2.2.2.1
def av_jl (K : av_K) : List (Nat × Nat × Nat) := K.2.2.2.2.2.2.2
def av_fin (K : av_K) (cl : List vw_C) (oc : Nat) (ini : Bool) (ci k : Nat) : Bool := match cl[ci]? with
  | some (_, T, _) => decide ((T k).2.2.2 = false) || (ini && decide ((T k).1 = av_cn K oc))
  | none => false
/-- the op at pc says what the bytes say (calls, throws and ends apart) -/
def av_ok (K : av_K) (cl : List vw_C) (oc : Nat) (ini : Bool) (cc : ByteArray) (pc : Nat) (ins : Instr) (len ix : Nat) : Bool := match ins with
  | .sipush v => (decide (len = 1) && decide (decode cc pc = .ok (.iconst v, 1))) || (decide (len = 2) && decide (decode cc pc = .ok (.bipush v, 2)) && decide ((Int8.ofInt v).toInt32 = Int32.ofInt v)) || (decide (len = 3) && decide (decode cc pc = .ok (.sipush v, 3)) && decide ((Int16.ofInt v).toInt32 = Int32.ofInt v)) || (decide (len = 2) && decide (decode cc pc = .ok (.ldc ix, 2)) && decide ((oc, ix, v) ∈ av_kl K)) || (decide (len = 3) && decide (decode cc pc = .ok (.ldc_w ix, 3)) && decide ((oc, ix, v) ∈ av_kl K))
  | .lconst n => decide (len = 1) && decide (decode cc pc = .ok (.lconst n, 1))
  | .ldc i => ((decide (len = 2) && decide (decode cc pc = .ok (.ldc ix, 2))) || (decide (len = 3) && decide (decode cc pc = .ok (.ldc_w ix, 3)))) && decide ((oc, ix, i) ∈ av_sl K)
  | .iload i => (decide (len = 2) && decide (decode cc pc = .ok (.iload i, 2))) || (decide (len = 1) && decide (i < 4) && decide (decode cc pc = .ok (.iload_n (Fin.ofNat 4 i), 1)))
  | .aload i => (decide (len = 2) && decide (decode cc pc = .ok (.aload i, 2))) || (decide (len = 1) && decide (i < 4) && decide (decode cc pc = .ok (.aload_n (Fin.ofNat 4 i), 1)))
  | .istore i => (decide (len = 2) && decide (decode cc pc = .ok (.istore i, 2))) || (decide (len = 1) && decide (i < 4) && decide (decode cc pc = .ok (.istore_n (Fin.ofNat 4 i), 1)))
  | .astore i => (decide (len = 2) && decide (decode cc pc = .ok (.astore i, 2))) || (decide (len = 1) && decide (i < 4) && decide (decode cc pc = .ok (.astore_n (Fin.ofNat 4 i), 1)))
  | .iinc i n => decide (len = 3) && decide (decode cc pc = .ok (.iinc i n, 3))
  | .if_icmp k t => decide (len = 3) && decide (0 ≤ t) && decide (decode cc pc = .ok (.if_icmp k (t - pc), 3))
  | .ifCond k t => decide (len = 3) && decide (0 ≤ t) && decide (decode cc pc = .ok (.ifCond k (t - pc), 3))
  | .ifnonnull t => decide (len = 3) && decide (0 ≤ t) && decide (decode cc pc = .ok (.ifnonnull (t - pc), 3))
  | .goto t => decide (len = 3) && decide (0 ≤ t) && decide (decode cc pc = .ok (.goto (t - pc), 3))
  | .tableswitch d lo hi ts => decide (0 ≤ d) && ts.all (fun t => decide (0 ≤ t)) && decide (decode cc pc = .ok (.tableswitch (d - pc) lo hi (ts.map (fun t => t - pc)), len))
  | .getfield q => decide (len = 3) && decide (decode cc pc = .ok (.getfield ix, 3)) && decide ((oc, ix, q / 64, q % 64) ∈ av_fl K)
  | .putfield q => decide (len = 3) && decide (decode cc pc = .ok (.putfield ix, 3)) && decide ((oc, ix, q / 64, q % 64) ∈ av_fl K) && av_fin K cl oc ini (q / 64) (q % 64)
  | .newarray k => decide (len = 2) && decide (decode cc pc = .ok (.newarray k, 2))
  | .anewarray _ => decide (len = 3) && decide (decode cc pc = .ok (.anewarray ix, 3)) && decide ((oc, ix, 4) ∈ av_jl K)
  | .new ci => decide (len = 3) && decide (decode cc pc = .ok (.new ix, 3)) && decide ((oc, ix, ci) ∈ av_kc K)
  | .monitorenter => decide (len = 3) && decide (decode cc pc = .ok (.invokespecial ix, 3)) && decide ((oc, ix, 3) ∈ av_jl K)
  | .invokedynamic 0 => decide (len = 3) && decide (decode cc pc = .ok (.invokestatic ix, 3)) && decide ((oc, ix, 0) ∈ av_jl K)
  | .invokedynamic 1 => decide (len = 3) && decide (decode cc pc = .ok (.invokevirtual ix, 3)) && decide ((oc, ix, 1) ∈ av_jl K)
  | .invokedynamic 2 => decide (len = 3) && decide (decode cc pc = .ok (.invokevirtual ix, 3)) && decide ((oc, ix, 2) ∈ av_jl K)
  | .invokedynamic 3 => decide (len = 3) && decide (decode cc pc = .ok (.invokevirtual ix, 3)) && decide ((oc, ix, 5) ∈ av_jl K)
  | .invokedynamic 4 => decide (len = 3) && decide (decode cc pc = .ok (.invokestatic ix, 3)) && decide ((oc, ix, 7) ∈ av_jl K)
  | .invokedynamic 5 => decide (len = 3) && decide (decode cc pc = .ok (.invokestatic ix, 3)) && decide ((oc, ix, 8) ∈ av_jl K)
  | .checkcast _ => decide (len = 3) && decide (decode cc pc = .ok (.checkcast ix, 3)) && decide ((oc, ix, 6) ∈ av_jl K)
  | i => decide (len = 1) && decide (decode cc pc = .ok (i, 1))
/-- values, cells, worlds: a number stands for the address that σ gives it, a text or the script for that of τ -/
def av_v (σ τ : Nat → Nat) : Value → Value
  | .ref a => .ref (σ a)
  | .retAddr a => .ref (τ a)
  | v => v
def av_e (cy σ τ : Nat → Nat) : va_E → va_E
  | .inl (t, n, .inr (.inr (.inr (.inr f)))) => .inl (cy t, n, .inr (.inr (.inr (.inr (fun j => (f j).map σ)))))
  | .inl (t, n, x) => .inl (cy t, n, x)
  | .inr (ci, fs) => .inr (ci, fs.map (av_v σ τ))
def av_ws (cy σ τ : Nat → Nat) (h : av_H) : va_W := h.mapIdx fun k e => (σ k, av_e cy σ τ e)
def av_wv (n : Nat) : Value → Prop
  | .ref a => a < n
  | _ => True
def av_we (n : Nat) : va_E → Prop
  | .inl (_, _, .inr (.inr (.inr (.inr f)))) => ∀ j a, f j = some a → a < n
  | .inl _ => True
  | .inr (_, fs) => ∀ v ∈ fs, av_wv n v
def av_lv (σ τ : Nat → Nat) (L : av_L) : List (Nat × Value) := (List.range L.length).filterMap fun i => match L[i]? with
  | some (some v) => some (i, av_v σ τ v)
  | _ => none
theorem av_v_cat (σ τ : Nat → Nat) (v : Value) : (av_v σ τ v).category = v.category := by cases v <;> rfl
theorem av_ws_get {cy σ τ : Nat → Nat} {h : av_H} {k : Nat} {e : va_E} (hk : h[k]? = some e) : (av_ws cy σ τ h)[k]? = some (σ k, av_e cy σ τ e) := by
  simp [av_ws, List.getElem?_mapIdx, hk]
theorem av_ws_set {cy σ τ : Nat → Nat} {h : av_H} {k : Nat} {e : va_E} : av_ws cy σ τ (h.set k e) = (av_ws cy σ τ h).set k (σ k, av_e cy σ τ e) := by
  apply List.ext_getElem?
  intro j
  simp only [av_ws, List.getElem?_mapIdx, List.getElem?_set, List.length_mapIdx]
  by_cases hj : k = j
  · subst hj
    by_cases hl : k < h.length <;> simp [hl]
  · simp [hj]
theorem av_ws_app {cy σ τ : Nat → Nat} {h : av_H} {e : va_E} : av_ws cy σ τ (h ++ [e]) = av_ws cy σ τ h ++ [(σ h.length, av_e cy σ τ e)] := by
  simp [av_ws, List.mapIdx_append]
theorem av_v_ext {σ σ' τ : Nat → Nat} {n : Nat} (hσ : ∀ k, k < n → σ' k = σ k) {v : Value} (hv : av_wv n v) : av_v σ' τ v = av_v σ τ v := by
  cases v <;> simp_all [av_v, av_wv]
theorem av_e_ext {cy σ σ' τ : Nat → Nat} {n : Nat} (hσ : ∀ k, k < n → σ' k = σ k) {e : va_E} (he : av_we n e) : av_e cy σ' τ e = av_e cy σ τ e := by
  rcases e with ⟨t, m, x⟩ | ⟨ci, fs⟩
  · rcases x with f | f | f | f | f
    · rfl
    · rfl
    · rfl
    · rfl
    · simp only [av_e]
      have : (fun j => (f j).map σ') = fun j => (f j).map σ := by
        funext j
        cases hj : f j with
        | none => rfl
        | some a => simp [hσ a (he j a hj)]
      rw [this]
  · simp only [av_e]
    rw [List.map_congr_left (fun v hv => av_v_ext hσ (he v hv))]
theorem av_ws_ext {cy σ σ' τ : Nat → Nat} {h : av_H} (hσ : ∀ k, k < h.length → σ' k = σ k) (he : ∀ e ∈ h, av_we h.length e) : av_ws cy σ' τ h = av_ws cy σ τ h := by
  apply List.ext_getElem?
  intro j
  simp only [av_ws, List.getElem?_mapIdx]
  cases hj : h[j]? with
  | none => rfl
  | some e =>
    have h1 : j < h.length := (List.getElem?_eq_some_iff.mp hj).1
    simp [hσ j h1, av_e_ext hσ (he e (List.mem_of_getElem? hj))]
theorem av_wv_le {n n' : Nat} (hn : n ≤ n') {v : Value} (h : av_wv n v) : av_wv n' v := by
  cases v with
  | ref a => exact Nat.lt_of_lt_of_le h hn
  | _ => trivial
theorem av_we_le {n n' : Nat} (hn : n ≤ n') {e : va_E} (h : av_we n e) : av_we n' e := by
  rcases e with ⟨t, m, x⟩ | ⟨ci, fs⟩
  · rcases x with f | f | f | f | f
    · trivial
    · trivial
    · trivial
    · trivial
    · exact fun j a hj => Nat.lt_of_lt_of_le (h j a hj) hn
  · exact fun v hv => av_wv_le hn (h v hv)
theorem av_lv_mem {σ τ : Nat → Nat} {L : av_L} {q : Nat × Value} : q ∈ av_lv σ τ L ↔ ∃ v, L[q.1]? = some (some v) ∧ q.2 = av_v σ τ v := by
  obtain ⟨i, w⟩ := q
  simp only [av_lv, List.mem_filterMap, List.mem_range]
  constructor
  · rintro ⟨j, hj, h⟩
    split at h
    · next v hv => cases h; exact ⟨v, hv, rfl⟩
    · cases h
  · rintro ⟨v, hv, rfl⟩
    exact ⟨i, (List.getElem?_eq_some_iff.mp hv).1, by rw [hv]⟩
theorem av_lv_ext {σ σ' τ : Nat → Nat} {L : av_L} {n : Nat} (hσ : ∀ k, k < n → σ' k = σ k) (hL : ∀ (i : Nat) (v : Value), L[i]? = some (some v) → v.category = 1 ∧ av_wv n v) {ls : Array Slot} {nL : Nat} (h : lv_has ls nL (av_lv σ τ L)) : lv_has ls nL (av_lv σ' τ L) := by
  refine ⟨h.1, h.2.1, fun q hq => ?_⟩
  obtain ⟨v, hv, e⟩ := av_lv_mem.mp hq
  rw [e, av_v_ext hσ (hL _ v hv).2]
  exact h.2.2 (q.1, av_v σ τ v) (av_lv_mem.mpr ⟨v, hv, rfl⟩)
/-- what goes on from state to state: the locals, the stack, the cells -/
def av_Rel (cy τ : Nat → Nat) (D : va_G) (cl : List vw_C) (A : Nat → Prop) (H0 : Heap) (σ0 : Nat → Nat) (n0 nL : Nat) (σ : Nat → Nat) (L : av_L) (st : List Value) (h : av_H) (ls : Array Slot) (H : Heap) (locs : List Loc) : Prop :=
  (∀ k, k < n0 → σ k = σ0 k) ∧ n0 ≤ h.length ∧ (L.length = nL ∧ lv_has ls nL (av_lv σ τ L)) ∧ (∀ (i : Nat) (v : Value), L[i]? = some (some v) → v.category = 1 ∧ av_wv h.length v) ∧ (∀ v ∈ st, av_wv h.length v) ∧ (∀ e ∈ h, av_we h.length e) ∧
  va_P D cl (av_ws cy σ τ h) H ∧ va_D A (av_ws cy σ τ h) ∧ va_S A H0 H locs
theorem av_get {cy τ : Nat → Nat} {D : va_G} {cl : List vw_C} {A : Nat → Prop} {H0 : Heap} {σ0 : Nat → Nat} {n0 nL : Nat} {σ : Nat → Nat} {L : av_L} {st : List Value} {h : av_H} {ls : Array Slot} {H : Heap} {locs : List Loc} (r : av_Rel cy τ D cl A H0 σ0 n0 nL σ L st h ls H locs) {i : Nat} {v : Value} (hv : L[i]? = some (some v)) : ls[i]? = some (.val (av_v σ τ v)) :=
  r.2.2.1.2.2.2 (i, av_v σ τ v) (av_lv_mem.mpr ⟨v, hv, rfl⟩)
def av_nms : List String := ["java/lang/RuntimeException", "java/lang/Exception"]
/-- the throws: own class, the class's entry, the text's, the constructor's, is the text's wide -/
abbrev av_I : Type := List (Nat × Nat × Nat × Nat × Bool)
def av_tok (I : av_I) (oc : Nat) (cc : ByteArray) (pc k : Nat) : Bool := match I[k]? with
  | some (oc', ik, is, ic, false) => decide (oc' = oc) && decide (decode cc pc = .ok (.new ik, 3)) && decide (decode cc (pc + 3) = .ok (.dup, 1)) && decide (decode cc (pc + 4) = .ok (.ldc is, 2)) && decide (decode cc (pc + 6) = .ok (.invokespecial ic, 3)) && decide (decode cc (pc + 9) = .ok (.athrow, 1))
  | some (oc', ik, is, ic, true) => decide (oc' = oc) && decide (decode cc pc = .ok (.new ik, 3)) && decide (decode cc (pc + 3) = .ok (.dup, 1)) && decide (decode cc (pc + 4) = .ok (.ldc_w is, 3)) && decide (decode cc (pc + 7) = .ok (.invokespecial ic, 3)) && decide (decode cc (pc + 10) = .ok (.athrow, 1))
  | none => false
def av_cw (M : av_M) : Cond := match M.2.2.2.2.2.1 with
  | [] => .code M.1 M.2.1 M.2.2.1 M.2.2.2.1
  | hh => .codeWith M.1 M.2.1 M.2.2.1 M.2.2.2.1 hh
/-- the op at pc says what the bytes say, calls and throws too -/
def av_chk (P : av_P) (K : av_K) (cl : List vw_C) (I : av_I) (nm : Nat) (mk : Nat → Nat) (oc mi : Nat) (ini : Bool) (cc : ByteArray) (pc : Nat) (ins : Instr) (len ix : Nat) : Bool := match ins with
  | .instanceof k => av_tok I oc cc pc k && decide ((av_me P mi).2.2.2.2.2.1 = [])
  | .invokestatic mj => decide (mj < nm) && decide (mk mj = 0) && decide (len = 3) && decide (decode cc pc = .ok (.invokestatic ix, 3)) && (decide ((oc, ix, mj) ∈ av_ml K) || decide ((oc, ix, mj) ∈ av_nl K))
  | .invokevirtual mj => decide (mj < nm) && decide (mk mj = 1) && decide (len = 3) && decide (decode cc pc = .ok (.invokevirtual ix, 3)) && decide ((oc, ix, mj) ∈ av_ml K)
  | .invokespecial mj => decide (mj < nm) && decide (mk mj = 2) && decide (len = 3) && decide (decode cc pc = .ok (.invokespecial ix, 3)) && (decide ((oc, ix, mj) ∈ av_ml K) || decide ((oc, ix, mj) ∈ av_nl K))
  | ins => av_ok K cl oc ini cc pc ins len ix
def av_ini (P : av_P) (mi : Nat) : Bool := decide ((av_me P mi).1.name = "<init>")
def av_xw (w : Cond) : Bool := match w with
  | .methodLinkNest _ _ _ _ => true
  | .declares _ => true
  | .castable _ _ => true
  | _ => false
