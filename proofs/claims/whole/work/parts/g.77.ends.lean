/-! ===== BEGINNINGS AND ENDS ===== -/
/-- what is carried beside the tables' good words: words of the nest, of declarations, of casts; classes that are not castable; two statics of Throwable; the texts -/
def av_Ol2 (P : av_P) (Xs : List Cond) (Nc : List (String × String)) (nt : Nat) (τ : Nat → Nat) (A : Nat → Prop) (s : State) : Prop :=
  (∀ w ∈ Xs, va_Nw w s) ∧ (∀ q ∈ Nc, va_Nc q.1 q.2 s) ∧ (vx_Zq Bundle.tN "UNASSIGNED_STACK" Bundle.steD A s s.heap ∧ vx_Zq Bundle.tN "SUPPRESSED_SENTINEL" Bundle.listD A s s.heap) ∧ (va_Z "java/lang/String" "COMPACT_STRINGS" "Z" (.int 1) A s s.heap ∧ va_Zq "jdk/internal/util/Preconditions" "SIOOBE_FORMATTER" "Ljava/util/function/BiFunction;" A s s.heap) ∧
  ∀ i, i < nt → va_O "java/lang/String" (τ (i + 1)) A s s.heap ∧ va_OF "java/lang/String" "coder" "B" (.int 0) (τ (i + 1)) A s s.heap ∧ ∃ v, va_OF "java/lang/String" "value" "[B" (.ref v) (τ (i + 1)) A s s.heap ∧ va_T .byte v (av_tx P i).length (fun j => .int ((av_tx P i).getD j 0)) A s s.heap
theorem av_Nw_go {w : Cond} (hw : av_xw w = true) {s U : State} (hW : s.WarmedH U.vm) (h : va_Nw w s) : va_Nw w U := by
  cases w with
  | methodLinkNest a i x b => exact va_Nw.warmM hW h
  | declares x => exact va_Nw.warmD hW h
  | castable a b => exact va_Nw.warmC hW h
  | _ => cases hw
theorem av_Old_go {P : av_P} {K : av_K} {τ : Nat → Nat} {A : Nat → Prop} {s U : State} (h : av_Old P K τ A s) (hW : s.WarmedH U.vm) (hz : s.heap.size ≤ U.heap.size) (hq : ∀ q, q < s.heap.size → ¬ A q → U.heap[q]? = s.heap[q]?) : av_Old P K τ A U := by
  refine ⟨fun q hq1 => ?_, ⟨?_, Nat.lt_of_lt_of_le h.2.1.2.1 hz, h.2.1.2.2⟩, va_AO.moved hW.alike h.2.2.1, va_Nw.warmC hW h.2.2.2⟩
  · obtain ⟨tx, hx⟩ := h.1 q hq1
    exact ⟨tx, vk_R.warm hW hx⟩
  · exact va_X.moved hW.alike (h.2.1.1.kept (hq _ h.2.1.2.1 h.2.1.2.2))
theorem av_Ol2_go {P : av_P} {Xs : List Cond} {Nc : List (String × String)} {nt : Nat} {τ : Nat → Nat} {A : Nat → Prop} {s U : State} (hX : ∀ w ∈ Xs, av_xw w = true) (h : av_Ol2 P Xs Nc nt τ A s) (hW : s.WarmedH U.vm) (hq : ∀ q, q < s.heap.size → ¬ A q → U.heap[q]? = s.heap[q]?) : av_Ol2 P Xs Nc nt τ A U := by
  refine ⟨fun w hw => av_Nw_go (hX w hw) hW (h.1 w hw), fun q hq1 => va_Nc.moved hW.alike (h.2.1 q hq1), ⟨vx_Zq.moved hW.alike (h.2.2.1.1.kept hq), vx_Zq.moved hW.alike (h.2.2.1.2.kept hq)⟩, ⟨va_Z.moved hW.alike (h.2.2.2.1.1.kept hq), va_Zq.moved hW.alike (h.2.2.2.1.2.kept hq)⟩, fun i hi => ?_⟩
  obtain ⟨h1, h2, v, h3, h4⟩ := h.2.2.2.2 i hi
  exact ⟨va_O.moved hW.alike (h1.kept hq), va_OF.moved hW.alike (h2.kept hq), v, va_OF.moved hW.alike (h3.kept hq), va_T.moved hW.alike (h4.kept hq)⟩
/-- the cells at a state -/
def av_B (cy τ : Nat → Nat) (D : va_G) (cl : List vw_C) (A : Nat → Prop) (σ : Nat → Nat) (h : av_H) (t : State) : Prop :=
  va_P D cl (av_ws cy σ τ h) t.heap ∧ va_K D cl (av_tys cy) t ∧ va_D A (av_ws cy σ τ h) ∧ ∀ x ∈ h, av_we h.length x
/-- a method's start -/
def av_Pc (P : av_P) (K : av_K) (Xs : List Cond) (Nc : List (String × String)) (nt : Nat) (cy τ : Nat → Nat) (D : va_G) (cl : List vw_C) (A : Nat → Prop) (σ : Nat → Nat) (h : av_H) (as : List Value) : Array Value → State → Prop :=
  va_Pc (as.map (av_v σ τ)) (fun U => av_B cy τ D cl A σ h U ∧ av_Old P K τ A U ∧ av_Ol2 P Xs Nc nt τ A U ∧ ∀ q, U.heap.size ≤ q → A q)
/-- its end: it answers .. -/
def av_Qc (cy τ : Nat → Nat) (D : va_G) (cl : List vw_C) (A : Nat → Prop) (σ0 : Nat → Nat) (n0 : Nat) (o : Option Value ⊕ String) (h' : av_H) : Array Value → State → Outcome → State → Prop := fun _ st oc t => match o with
  | .inl v => ∃ σ', (∀ k, k < n0 → σ' k = σ0 k) ∧ n0 ≤ h'.length ∧ oc = .returned (v.map (av_v σ' τ)) ∧ (∀ w, v = some w → av_wv h'.length w) ∧ av_B cy τ D cl A σ' h' t ∧ va_F A st t
  | .inr _ => False
/-- .. or throws -/
def av_Xc (cy τ : Nat → Nat) (D : va_G) (cl : List vw_C) (A : Nat → Prop) (σ0 : Nat → Nat) (n0 : Nat) (o : Option Value ⊕ String) (h' : av_H) : String → State → State → Prop := fun E st t => match o with
  | .inl _ => False
  | .inr E' => E = E' ∧ ∃ σ', (∀ k, k < n0 → σ' k = σ0 k) ∧ n0 ≤ h'.length ∧ av_B cy τ D cl A σ' h' t ∧ va_F A st t
theorem av_Pc_blind {P : av_P} {K : av_K} {Xs : List Cond} {Nc : List (String × String)} {nt : Nat} {cy τ : Nat → Nat} {D : va_G} {cl : List vw_C} {A : Nat → Prop} {σ : Nat → Nat} {h : av_H} {as : List Value} (hX : ∀ w ∈ Xs, av_xw w = true) : FrameBlind (av_Pc P K Xs Nc nt cy τ D cl A σ h as) := by
  intro a U g mk q
  obtain ⟨q0, ⟨q1, q2, q3, q4⟩, q5, q6, q7⟩ := q
  have hW : U.WarmedH (U.calling g mk a).vm := State.WarmedH.refl U
  exact ⟨q0, ⟨q1, va_K.moved (u := U) (U := U.calling g mk a) (Vm.Alike.refl U.vm) q2, q3, q4⟩, av_Old_go (U := U.calling g mk a) q5 hW (Nat.le_refl _) (fun _ _ _ => rfl), av_Ol2_go (U := U.calling g mk a) hX q6 hW (fun _ _ _ => rfl), q7⟩
section SI
variable {P : av_P} {K : av_K} {Ts : List Cond} {cl : List vw_C} {cy τ : Nat → Nat} {D : va_G} {A : Nat → Prop} {σ0 σ : Nat → Nat} {n0 nL oc mi pc : Nat} {ini : Bool} {cc : ByteArray}
variable {p : Program} {l : Launch} {e : Env} {R : Room} {s : State} {m : MethodId} {args : Array Value} {below : List Frame} {meth : Method} {c : Code} {H : Heap} {locs : List Loc} {cells slots : Nat} {Q : State → Prop} {ls : Array Slot}
variable {L L' : av_L} {st st' : List Value} {h h' : av_H} {pc' cells' slots' : Nat}
/-- an end -/
theorem sd_ret (hF : av_Fix P K Ts cl cy τ D A nL oc ini cc p R s m args meth c) (r : av_Rel cy τ D cl A s.heap σ0 n0 nL σ L st h ls H locs) (hret : meth.sig.returnType = (av_me P mi).2.2.2.1) (hlocks : meth.locks = false) {ins : Instr} {len ix : Nat}
    (hi : ins = .ireturn ∨ ins = .areturn ∨ ins = .return_) (hok : av_ok K cl oc ini cc pc ins len ix = true) {v : Option Value} (hs : av_one P mi pc ins len L st h cells slots = some (.inr (.inl v))) :
    W p l e R s m args below meth c H locs cells slots (vx_MQ below (av_Qc cy τ D cl A σ0 n0 (.inl v) h) (av_Xc cy τ D cl A σ0 n0 (.inl v) h) args s cells slots A) (F0 m pc ls (st.map (av_v σ τ))) := by
  obtain ⟨⟨hx, hb, hml, hown⟩, hts, hin, hK, hA, hOld, hR⟩ := hF
  obtain ⟨r1, r2, r3, r4, r5, r6, r7, r8, r9⟩ := r
  apply vx_ret
  have key : ∀ (w : Option Value), (∀ z, w = some z → av_wv h.length z) → ∀ t : State, t.heap = H → s.WarmedH t.vm → av_Qc cy τ D cl A σ0 n0 (.inl w) h args s (.returned (w.map (av_v σ τ))) t := fun w hw t ht hW =>
    ⟨σ, r1, r2, rfl, hw, ⟨by rw [ht]; exact r7, va_K.moved hW.alike hK, r8, r6⟩, r9.F ht⟩
  rcases hi with rfl | rfl | rfl
  · simp only [av_ok, Bool.and_eq_true, decide_eq_true_eq] at hok
    obtain ⟨rfl, hd⟩ := hok
    simp only [av_one] at hs
    split at hs
    · next x =>
      split at hs
      · next ht =>
        cases hs
        exact W.iret hx hb (hret.trans ht) (fun t ht hW => key (some (.int x)) (fun z hz => by cases hz; trivial) t ht hW) r9.2.2 hd
      · next ht =>
        split at hs
        · next h01 =>
          cases hs
          exact W.zret (ty := .boolean) hx hb (hret.trans ht) (by rcases h01 with rfl | rfl <;> decide) (fun t ht hW => key (some (.int x)) (fun z hz => by cases hz; trivial) t ht hW) r9.2.2 hd
        · cases hs
      · cases hs
    · cases hs
  · simp only [av_ok, Bool.and_eq_true, decide_eq_true_eq] at hok
    obtain ⟨rfl, hd⟩ := hok
    simp only [av_one] at hs
    split at hs
    · next x =>
      split at hs
      · next C ht =>
        cases hs
        exact W.aret (v := .ref (σ x)) hx hb (hret.trans ht) (Or.inl ⟨_, rfl⟩) (Or.inr ⟨_, rfl⟩) (fun t ht hW => key (some (.ref x)) (fun z hz => by cases hz; exact av_hd r5) t ht hW) r9.2.2 hd
      · next C ht =>
        cases hs
        exact W.aret (v := .ref (σ x)) hx hb (hret.trans ht) (Or.inr ⟨_, rfl⟩) (Or.inr ⟨_, rfl⟩) (fun t ht hW => key (some (.ref x)) (fun z hz => by cases hz; exact av_hd r5) t ht hW) r9.2.2 hd
      · cases hs
    · cases hs
  · simp only [av_ok, Bool.and_eq_true, decide_eq_true_eq] at hok
    obtain ⟨rfl, hd⟩ := hok
    simp only [av_one] at hs
    split at hs
    · next ht =>
      cases hs
      exact W.vret hx hb (hret.trans ht) (fun t ht hW => key none (fun z hz => by cases hz) t ht hW) r9.2.2 hd
    · cases hs
end SI
