/-! ===== the constructors: each step keeps the store ===== -/
def tyO (t : FieldType) : Bool := match t with
  | .int => true
  | .boolean => true
  | .object _ => true
  | .array _ => true
  | _ => false
theorem tyO_ok {t : FieldType} (h : tyO t = true) : okV (av_def t) := by
  cases t <;> first | exact Or.inl ⟨_, rfl⟩ | exact Or.inr (Or.inr rfl) | exact (Bool.false_ne_true h).elim
theorem tTy_all : (tTy.all fun ts => ts.all tyO) = true := by decide +kernel
theorem Je_o {ci : Nat} {fs : List Value} (h : ∀ v, v ∈ fs → okV v) : Je (.inr (ci, fs)) := h
theorem Je_r {n : Nat} {f : Nat → Option Nat} (h : ∀ i b, f i = some b → b < 1000) : Je (.inl (3, n, .inr (.inr (.inr (.inr f))))) := h
theorem tTy_ok {ci : Nat} {v : Value} (h : v ∈ (av_ty tP0 ci).map av_def) : okV v := by
  obtain ⟨t, ht, rfl⟩ := List.mem_map.mp h
  have e : av_ty tP0 ci = tTy.getD ci [] := rfl
  rw [e, List.getD_eq_getElem?_getD] at ht
  cases hc : tTy[ci]? with
  | none => rw [hc] at ht; cases ht
  | some ts =>
    rw [hc] at ht
    exact tyO_ok (List.all_eq_true.mp (List.all_eq_true.mp tTy_all ts (List.mem_of_getElem? hc)) t ht)
section HC0
variable {mi pc len c s pc' c' s' : Nat} {L L' : av_L} {st st' : List Value} {h h' : av_H}
theorem oJ_new {ci : Nat} (hj : Jh h) (e : av_one tP0 mi pc (.new ci) len L st h c s = some (.inl (pc', L', st', h', c', s'))) : Jh h' := by
  simp only [av_one] at e
  cases e
  exact hj.app (Je_o fun v hv => tTy_ok hv)
theorem oJ_newa {k : ArrayType} (hj : Jh h) (e : av_one tP0 mi pc (.newarray k) len L st h c s = some (.inl (pc', L', st', h', c', s'))) : Jh h' := by
  simp only [av_one] at e
  split at e
  · split at e
    · cases k with
      | int => simp only [av_newa] at e; cases e; exact hj.app trivial
      | byte => simp only [av_newa] at e; cases e; exact hj.app trivial
      | long => simp only [av_newa] at e; cases e; exact hj.app rfl
      | _ => simp only [av_newa] at e; cases e
    · cases e
  · cases e
theorem oJ_newq {k : Nat} (hj : Jh h) (e : av_one tP0 mi pc (.anewarray k) len L st h c s = some (.inl (pc', L', st', h', c', s'))) : Jh h' := by
  simp only [av_one] at e
  split at e
  · split at e
    · cases e
      exact hj.app (Je_r fun i b hb => by cases hb)
    · cases e
  · cases e
theorem oJ_put {q : Nat} (hj : Jh h) (e : av_one tP0 mi pc (.putfield q) len L st h c s = some (.inl (pc', L', st', h', c', s'))) : Jh h' := by
  simp only [av_one] at e
  split at e
  · next v a r =>
    split at e
    · next ci fs ha =>
      split at e
      · next hh =>
        cases e
        refine hj.set (Je_o fun w hw => ?_)
        rcases List.mem_or_eq_of_mem_set hw with h1 | h1
        · exact hj _ _ ha w h1
        · rw [h1]; exact fit_ok hh.2.2
      · cases e
    · cases e
  · cases e
theorem oJ_ias (hj : Jh h) (e : av_one tP0 mi pc .iastore len L st h c s = some (.inl (pc', L', st', h', c', s'))) : Jh h' := by
  simp only [av_one] at e
  split at e
  · split at e
    · split at e
      · cases e
        exact hj.set trivial
      · cases e
    · cases e
  · cases e
theorem oJ_aas (hl : h.length < 1000) (hj : Jh h) (e : av_one tP0 mi pc .aastore len L st h c s = some (.inl (pc', L', st', h', c', s'))) : Jh h' := by
  simp only [av_one] at e
  split at e
  · next b i a r =>
    split at e
    · next n f fs ha hb =>
      split at e
      · cases e
        refine hj.set (Je_r fun j x hx => ?_)
        unfold va_up at hx
        by_cases hji : j = i.toNatClampNeg
        · rw [if_pos hji] at hx
          cases hx
          have : b < h.length := by
            rcases Nat.lt_or_ge b h.length with h1 | h1
            · exact h1
            · rw [List.getElem?_eq_none h1] at hb; cases hb
          exact Nat.lt_trans this hl
        · rw [if_neg hji] at hx
          exact hj _ _ ha j x hx
      · cases e
    · cases e
  · cases e
set_option maxHeartbeats 4000000 in
theorem one_J {ins : Instr} (ho : okO ins = true) (hl : h.length < 1000) (hj : Jh h) (e : av_one tP0 mi pc ins len L st h c s = some (.inl (pc', L', st', h', c', s'))) : Jh h' := by
  cases ins with
  | new ci => exact oJ_new hj e
  | newarray k => exact oJ_newa hj e
  | anewarray k => exact oJ_newq hj e
  | putfield q => exact oJ_put hj e
  | iastore => exact oJ_ias hj e
  | aastore => exact oJ_aas hl hj e
  | _ => first
    | exact (Bool.false_ne_true ho).elim
    | (simp only [av_one, av_goto] at e; (repeat' split at e) <;> first | (cases e; exact hj) | cases e)
end HC0
theorem rk_J : ∀ (n d mi pc : Nat) (L : av_L) (st : List Value) (h : av_H) (c s : Nat) (o : Option Value ⊕ String) (h' : av_H) (c' s' : Nat), Jh h → av_rk n d mi pc L st h c s = some (o, h', c', s') → Jh h' := by
  intro n
  induction n with
  | zero => intro d mi pc L st h c s o h' c' s' hj e; cases e
  | succ n ih =>
    intro d mi pc L st h c s o h' c' s' hj e
    unfold av_rk at e
    cases hop : av_op tP0 mi pc with
    | none => rw [hop] at e; cases e
    | some x =>
      obtain ⟨ins, len, ix⟩ := x
      rw [hop] at e
      simp only at e
      cases ho' : okO ins && decide (h.length < 1000) with
      | false => rw [ho'] at e; cases e
      | true =>
        have ho : okO ins = true := (Bool.and_eq_true_iff.mp ho').1
        have hl : h.length < 1000 := of_decide_eq_true (Bool.and_eq_true_iff.mp ho').2
        rw [ho'] at e
        simp only at e
        cases hs : av_one tP0 mi pc ins len L st h c s with
        | none => rw [hs] at e; cases e
        | some y =>
          rw [hs] at e
          cases y with
          | inl F =>
            obtain ⟨pc1, L1, st1, h1, c1, s1⟩ := F
            exact ih _ _ _ _ _ _ _ _ _ _ _ _ (one_J ho hl hj hs) e
          | inr z =>
            cases z with
            | inl v => cases e; exact hj
            | inr w =>
              cases w with
              | inr E => cases e
              | inl u =>
                obtain ⟨mj, as, r⟩ := u
                cases d with
                | zero => cases e
                | succ d' =>
                  simp only at e
                  cases hr : av_rk n d' mj 0 (av_ent tP0 mj as) [] h 0 0 with
                  | none => rw [hr] at e; cases e
                  | some R' =>
                    obtain ⟨o1, h1, c1, s1⟩ := R'
                    have j1 := ih _ _ _ _ _ _ _ _ _ _ _ _ hj hr
                    rw [hr] at e
                    cases o1 with
                    | inl v => exact ih _ _ _ _ _ _ _ _ _ _ _ _ j1 e
                    | inr E => cases e
theorem tp_J : ∀ (k pc : Nat) (L : av_L) (st : List Value) (h : av_H) (c s pc' : Nat) (L' : av_L) (st' : List Value) (h' : av_H) (c' s' : Nat), Jh h → av_tp k (pc, L, st, h, c, s) = some (pc', L', st', h', c', s') → Jh h' := by
  intro k
  induction k with
  | zero => intro pc L st h c s pc' L' st' h' c' s' hj e; cases e
  | succ k ih =>
    intro pc L st h c s pc' L' st' h' c' s' hj e
    unfold av_tp at e
    by_cases hp : pc = 23
    · rw [if_pos hp] at e
      cases e
      exact hj
    · rw [if_neg hp] at e
      cases hop : av_op tP0 395 pc with
      | none => rw [hop] at e; cases e
      | some x =>
        obtain ⟨ins, len, ix⟩ := x
        rw [hop] at e
        simp only at e
        cases ho' : okO ins && decide (h.length < 1000) with
        | false => rw [ho'] at e; cases e
        | true =>
          have ho : okO ins = true := (Bool.and_eq_true_iff.mp ho').1
          have hl : h.length < 1000 := of_decide_eq_true (Bool.and_eq_true_iff.mp ho').2
          rw [ho'] at e
          simp only at e
          cases hs : av_one tP0 395 pc ins len L st h c s with
          | none => rw [hs] at e; cases e
          | some y =>
            rw [hs] at e
            cases y with
            | inl F =>
              obtain ⟨pc1, L1, st1, h1, c1, s1⟩ := F
              exact ih _ _ _ _ _ _ _ _ _ _ _ _ (one_J ho hl hj hs) e
            | inr z =>
              cases z with
              | inl v => cases e
              | inr z =>
                cases z with
                | inr E => cases e
                | inl u =>
                  obtain ⟨mj, as, r⟩ := u
                  simp only at e
                  cases hr : av_rk 3000 99 mj 0 (av_ent tP0 mj as) [] h 0 0 with
                  | none => rw [hr] at e; cases e
                  | some R =>
                    obtain ⟨o1, h1, c1, s1⟩ := R
                    have j1 := rk_J _ _ _ _ _ _ _ _ _ _ _ _ _ hj hr
                    rw [hr] at e
                    cases o1 with
                    | inr E => cases e
                    | inl v => exact ih _ _ _ _ _ _ _ _ _ _ _ _ j1 e
/-! the store that a heap is -/
theorem fdv_ok {ci k : Nat} {v : Value} (h : okV v) : fdv (fnm v) (fcd ci k v) = v := by
  rcases h with ⟨x, rfl⟩ | ⟨n, rfl⟩ | rfl
  · rfl
  · rfl
  · show fdv 0 (if ci = 6 ∧ k = 14 then 1 else 2) = .null
    split <;> rfl
theorem sRf_on {b : Nat} (h : b < 1000) : sRf (Int32.ofNat (b + 1)) = some b := by
  unfold sRf
  rw [oN_tn (show b + 1 < 2147483648 by omega)]
theorem Je.cell {e : va_E} (he : Je e) : cellF (rdE e) (shp e) = e := by
  unfold Je at he
  split at he
  · rfl
  · rfl
  · subst he; rfl
  · next n f =>
    show (Sum.inl (3, n, .inr (.inr (.inr (.inr fun i => sRf (match f i with
      | none => 0
      | some b => Int32.ofNat (b + 1)))))) : va_E) = _
    refine congrArg (fun g => (Sum.inl (3, n, .inr (.inr (.inr (.inr g)))) : va_E)) (funext fun i => ?_)
    show sRf (match f i with
      | none => 0
      | some b => Int32.ofNat (b + 1)) = f i
    cases hf : f i with
    | none => rfl
    | some b => exact sRf_on (he i b hf)
  · next ci fs =>
    show (Sum.inr (ci, (fs.mapIdx fun k v => fcd ci k v).mapIdx fun k f => fdv (fnm (fs.getD k .null)) f) : va_E) = _
    refine congrArg (fun l => (Sum.inr (ci, l) : va_E)) ?_
    apply List.ext_getElem?
    intro i
    rw [List.getElem?_mapIdx, List.getElem?_mapIdx, List.getD_eq_getElem?_getD]
    cases hi : fs[i]? with
    | none => rfl
    | some v =>
      show some (fdv (fnm v) (fcd ci i v)) = some v
      rw [fdv_ok (he v (List.mem_of_getElem? hi))]
  · cases he
def rdH (h : av_H) : sD := fun a => match h[a]? with
  | some e => rdE e
  | none => fun _ => 0
theorem Jh.mk {h : av_H} (hj : Jh h) : mk (h.map shp) (rdH h) = h := by
  apply List.ext_getElem?
  intro i
  rw [mk_get, List.getElem?_map]
  cases hi : h[i]? with
  | none => rfl
  | some e =>
    show some (cellF (rdH h i) (shp e)) = some e
    unfold rdH
    rw [hi]
    show some (cellF (rdE e) (shp e)) = some e
    rw [(hj i e hi).cell]
