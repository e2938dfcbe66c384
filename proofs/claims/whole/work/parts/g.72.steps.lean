/-! ===== ONE INSTRUCTION ===== -/
def av_tys (cy : Nat → Nat) : List (ClassId × FieldType) := [(cy 0, .int), (cy 1, .byte), (cy 2, .long), (cy 3, .object "SinglesPast$State")]
/-- what the tables say, once for all -/
def av_Env (P : av_P) (K : av_K) (Ts : List Cond) (cl : List vw_C) : Prop :=
  (∀ (ci : Nat) (C : String) (T : u_T) (N : Nat), cl[ci]? = some (C, T, N) → (∀ w ∈ u_ws C T N, w ∈ Ts) ∧ (∀ k, k < N → parseFieldDescriptor (T k).2.2.1 = some ((av_ty P ci).getD k .float)) ∧ (∀ a, a < N → ∀ b, b < N → a ≠ b → (T a).2.1 ≠ (T b).2.1) ∧ (av_ty P ci).length = N ∧ Cond.instantiable C N ∈ Ts ∧ Cond.initialized C ∈ Ts) ∧
  (∀ q ∈ av_fl K, ∃ (C : String) (T : u_T) (N : Nat), cl[q.2.2.1]? = some (C, T, N) ∧ q.2.2.2 < N ∧ Cond.fieldLink (av_cn K q.1) q.2.1 (T q.2.2.2).1 (T q.2.2.2).2.1 (T q.2.2.2).2.2.1 ∈ Ts) ∧
  (∀ q ∈ av_kl K, Cond.constant (av_cn K q.1) q.2.1 (Int32.ofInt q.2.2) ∈ Ts) ∧
  (∀ q ∈ av_kc K, ∃ (C : String) (T : u_T) (N : Nat), cl[q.2.2]? = some (C, T, N) ∧ Cond.classLink (av_cn K q.1) q.2.1 C ∈ Ts) ∧
  (∀ q ∈ av_jl K, (q.2.2 = 0 → Cond.methodLink (av_cn K q.1) q.2.1 arraycopyName ∈ Ts) ∧ (q.2.2 = 3 → Cond.methodLink (av_cn K q.1) q.2.1 Lib.objectInit ∈ Ts) ∧ (q.2.2 = 4 → Cond.classLink (av_cn K q.1) q.2.1 "SinglesPast$State" ∈ Ts)) ∧
  ((∀ q ∈ av_jl K, (q.2.2 = 5 → Cond.methodLink (av_cn K q.1) q.2.1 ⟨"[I", "clone", "()Ljava/lang/Object;"⟩ ∈ Ts) ∧ (q.2.2 = 6 → Cond.classLink (av_cn K q.1) q.2.1 "[I" ∈ Ts)) ∧ Cond.sameMethod "[I" "java/lang/Object" "clone" "()Ljava/lang/Object;" ∈ Ts ∧ Cond.native ⟨"java/lang/Object", "clone", "()Ljava/lang/Object;"⟩ ∈ Ts ∧ Cond.instanceMethod ⟨"java/lang/Object", "clone", "()Ljava/lang/Object;"⟩ ∈ Ts ∧ Cond.selects "[I" ⟨"[I", "clone", "()Ljava/lang/Object;"⟩ ⟨"java/lang/Object", "clone", "()Ljava/lang/Object;"⟩ ∈ Ts) ∧
  (Cond.native arraycopyName ∈ Ts ∧ Cond.static arraycopyName ∈ Ts ∧ Cond.initialized "java/lang/System" ∈ Ts) ∧ (Cond.instanceMethod Lib.objectInit ∈ Ts ∧ Cond.code Lib.objectInit ⟨#[0xb1]⟩ 1 none ∈ Ts) ∧
  (Cond.arrayClass .int ∈ Ts ∧ Cond.arrayClass .byte ∈ Ts ∧ Cond.arrayClass .long ∈ Ts) ∧ cl[6]?.map (fun r => r.1) = some "SinglesPast$State" ∧
  (∀ q ∈ av_jl K, (q.2.2 = 7 → Cond.methodLink (av_cn K q.1) q.2.1 Lib.Math.max.name ∈ Ts) ∧ (q.2.2 = 8 → Cond.methodLink (av_cn K q.1) q.2.1 Lib.Math.min.name ∈ Ts)) ∧ Cond.initialized "java/lang/Math" ∈ Ts ∧ (Cond.static Lib.Math.max.name ∈ Ts ∧ Cond.code Lib.Math.max.name Lib.Math.max.code 2 (some .int) ∈ Ts) ∧ Cond.static Lib.Math.min.name ∈ Ts ∧ Cond.code Lib.Math.min.name Lib.Math.min.code 2 (some .int) ∈ Ts
/-- the texts and the script at a method's start -/
def av_Old (P : av_P) (K : av_K) (τ : Nat → Nat) (A : Nat → Prop) (s : State) : Prop :=
  (∀ q ∈ av_sl K, ∃ tx : String, vk_R (av_cn K q.1) q.2.1 tx (τ (q.2.2 + 1)) s) ∧ (va_X (τ 0) (av_nx P) (av_xs P) s s.heap ∧ τ 0 < s.heap.size ∧ ¬ A (τ 0)) ∧ va_AO "SinglesPast$State" s ∧ va_Nw (.castable "[I" "java/lang/Cloneable") s
section SD
variable {P : av_P} {K : av_K} {Ts : List Cond} {cl : List vw_C} {cy τ : Nat → Nat} {D : va_G} {A : Nat → Prop} {σ0 σ : Nat → Nat} {n0 nL oc mi pc : Nat} {ini : Bool} {cc : ByteArray}
variable {p : Program} {l : Launch} {e : Env} {R : Room} {s : State} {m : MethodId} {args : Array Value} {below : List Frame} {meth : Method} {c : Code} {H : Heap} {locs : List Loc} {cells slots : Nat} {Q : State → Prop} {ls : Array Slot}
variable {L L' : av_L} {st st' : List Value} {h h' : av_H} {pc' cells' slots' : Nat}
/-- what stays in a method -/
def av_Fix (P : av_P) (K : av_K) (Ts : List Cond) (cl : List vw_C) (cy τ : Nat → Nat) (D : va_G) (A : Nat → Prop) (nL oc : Nat) (ini : Bool) (cc : ByteArray) (p : Program) (R : Room) (s : State) (m : MethodId) (args : Array Value) (meth : Method) (c : Code) : Prop :=
  (p.tables.exec = Jvm.exec ∧ c.code = cc ∧ c.maxLocals = nL ∧ s.vm.findClass (av_cn K oc) = some m.cls) ∧ (∀ w ∈ Ts, w.before args s = true) ∧ (ini = true → meth.name = "<init>") ∧ va_K D cl (av_tys cy) s ∧ (∀ q, s.heap.size ≤ q → A q) ∧ av_Old P K τ A s ∧ (20 ≤ R.frames ∧ 400 ≤ R.locals)
/-- the texts' two methods, as steps -/
def av_Str (P : av_P) (K : av_K) (τ : Nat → Nat) (A : Nat → Prop) (oc : Nat) (cc : ByteArray) (p : Program) (l : Launch) (e : Env) (R : Room) (s : State) (m : MethodId) (args : Array Value) (below : List Frame) (meth : Method) (c : Code) (Q : State → Prop) (nL : Nat) : Prop :=
  (∀ (pc ix a : Nat) (ls : Array Slot) (rest : List Value) (H : Heap) (locs : List Loc) (cells slots : Nat), decode cc pc = .ok (.invokevirtual ix, 3) → (oc, ix, 1) ∈ av_jl K → ls.size = nL → va_S A s.heap H locs → (rest.map fun v => v.category).sum ≤ 8 → cells ≤ R.cells → slots ≤ R.slots → 0 < (av_tx P a).length →
    W p l e R s m args below meth c H locs cells slots Q (F0 m (pc + 3) ls (.int (Int32.ofNat (av_tx P a).length) :: rest)) → W p l e R s m args below meth c H locs cells slots Q (F0 m pc ls (.ref (τ (a + 1)) :: rest))) ∧
  (∀ (pc ix a : Nat) (i : Int32) (ls : Array Slot) (rest : List Value) (H : Heap) (locs : List Loc) (cells slots : Nat), decode cc pc = .ok (.invokevirtual ix, 3) → (oc, ix, 2) ∈ av_jl K → ls.size = nL → va_S A s.heap H locs → (rest.map fun v => v.category).sum ≤ 8 → cells ≤ R.cells → slots ≤ R.slots → av_in i (av_tx P a).length = true →
    W p l e R s m args below meth c H locs cells slots Q (F0 m (pc + 3) ls (.int ((av_tx P a).getD i.toNatClampNeg 0) :: rest)) → W p l e R s m args below meth c H locs cells slots Q (F0 m pc ls (.int i :: .ref (τ (a + 1)) :: rest)))
theorem av_in_iff {i : Int32} {n : Nat} (h : av_in i n = true) : vp_in i n := by
  simp only [av_in, Bool.and_eq_true, decide_eq_true_eq] at h
  rintro (h1 | h1)
  · exact h.1 h1
  · omega
theorem av_cats (σ τ : Nat → Nat) (r : List Value) : ((r.map (av_v σ τ)).map fun v => v.category).sum = (r.map fun v => v.category).sum := by
  rw [List.map_map]
  congr 1
  exact List.map_congr_left fun v _ => av_v_cat σ τ v
/-- the stack changes alone -/
theorem av_Rel.stk (r : av_Rel cy τ D cl A s.heap σ0 n0 nL σ L st h ls H locs) (hs : ∀ v ∈ st', av_wv h.length v) : av_Rel cy τ D cl A s.heap σ0 n0 nL σ L st' h ls H locs :=
  ⟨r.1, r.2.1, r.2.2.1, r.2.2.2.1, hs, r.2.2.2.2.2⟩
theorem av_Rel.store (r : av_Rel cy τ D cl A s.heap σ0 n0 nL σ L st h ls H locs) {i : Nat} {v : Value} (hc : v.category = 1) (hv : av_wv h.length v) (hs : ∀ v ∈ st', av_wv h.length v) {ls' : Array Slot}
    (hl : lv_has ls' nL ((i, av_v σ τ v) :: (av_lv σ τ L).filter (fun q => !(q.1 == i) && !(q.1 + 1 == i && q.2.category == 2)))) : av_Rel cy τ D cl A s.heap σ0 n0 nL σ (L.set i (some v)) st' h ls' H locs := by
  refine ⟨r.1, r.2.1, ⟨by rw [List.length_set]; exact r.2.2.1.1, hl.1, hl.2.1, fun q hq => ?_⟩, fun j w hw => ?_, hs, r.2.2.2.2.2⟩
  · obtain ⟨w, hw, e⟩ := av_lv_mem.mp hq
    refine hl.2.2 q ?_
    rw [List.getElem?_set] at hw
    by_cases hj : i = q.1
    · rw [if_pos hj] at hw
      split at hw
      · cases hw
        refine List.mem_cons.mpr (Or.inl ?_)
        rw [hj, ← e]
      · cases hw
    · rw [if_neg hj] at hw
      refine List.mem_cons.mpr (Or.inr (List.mem_filter.mpr ⟨av_lv_mem.mpr ⟨w, hw, e⟩, ?_⟩))
      have h1 : q.2.category = 1 := by rw [e, av_v_cat]; exact (r.2.2.2.1 _ w hw).1
      simp [h1]
      exact fun z => hj z.symm
  · rw [List.getElem?_set] at hw
    split at hw
    · split at hw
      · cases hw
        exact ⟨hc, hv⟩
      · cases hw
    · exact r.2.2.2.1 j w hw
/-- a cell changes -/
theorem av_Rel.cell (r : av_Rel cy τ D cl A s.heap σ0 n0 nL σ L st h ls H locs) {a : Nat} {x : va_E} (hx : av_we h.length x) (hs : ∀ v ∈ st', av_wv h.length v) {H1 : Heap} {locs1 : List Loc}
    (hP : va_P D cl ((av_ws cy σ τ h).set a (σ a, av_e cy σ τ x)) H1) (hD : va_D A ((av_ws cy σ τ h).set a (σ a, av_e cy σ τ x))) (hS : va_S A s.heap H1 locs1) : av_Rel cy τ D cl A s.heap σ0 n0 nL σ L st' (h.set a x) ls H1 locs1 := by
  rw [← av_ws_set] at hP hD
  refine ⟨r.1, by rw [List.length_set]; exact r.2.1, r.2.2.1, by rw [List.length_set]; exact r.2.2.2.1, by rw [List.length_set]; exact hs, fun y hy => ?_, hP, hD, hS⟩
  rw [List.length_set]
  rcases List.mem_or_eq_of_mem_set hy with h1 | h1
  · exact r.2.2.2.2.2.1 y h1
  · rw [h1]; exact hx
/-- a cell is made -/
theorem av_Rel.make (r : av_Rel cy τ D cl A s.heap σ0 n0 nL σ L st h ls H locs) {q : Nat} {x y : va_E} (hx : av_we h.length x) (hs : ∀ v ∈ st', av_wv (h.length + 1) v) (hxy : ∀ σ', av_e cy σ' τ x = y) {H1 : Heap} {locs1 : List Loc}
    (hP : va_P D cl (av_ws cy σ τ h ++ [(q, y)]) H1) (hD : va_D A (av_ws cy σ τ h ++ [(q, y)])) (hS : va_S A s.heap H1 locs1) :
    ∃ σ', (∀ k, k < h.length → σ' k = σ k) ∧ σ' h.length = q ∧ av_Rel cy τ D cl A s.heap σ0 n0 nL σ' L st' (h ++ [x]) ls H1 locs1 := by
  have hσ : ∀ k, k < h.length → (fun k => if k = h.length then q else σ k) k = σ k := fun k hk => if_neg (Nat.ne_of_lt hk)
  refine ⟨fun k => if k = h.length then q else σ k, hσ, if_pos rfl, fun k hk => (hσ k (Nat.lt_of_lt_of_le hk r.2.1)).trans (r.1 k hk), by rw [List.length_append]; exact Nat.le_trans r.2.1 (Nat.le_add_right _ _), ⟨r.2.2.1.1, av_lv_ext hσ r.2.2.2.1 r.2.2.1.2⟩, fun i v hv => ⟨(r.2.2.2.1 i v hv).1, ?_⟩, by simpa using hs, fun z hz => ?_, ?_, ?_, hS⟩
  · exact av_wv_le (by simp) (r.2.2.2.1 i v hv).2
  · rcases List.mem_append.mp hz with h1 | h1
    · exact av_we_le (by simp) (r.2.2.2.2.2.1 z h1)
    · rw [List.mem_singleton.mp h1]; exact av_we_le (by simp) hx
  · rw [av_ws_app, av_ws_ext hσ r.2.2.2.2.2.1, hxy]
    simpa using hP
  · rw [av_ws_app, av_ws_ext hσ r.2.2.2.2.2.1, hxy]
    simpa using hD
end SD
