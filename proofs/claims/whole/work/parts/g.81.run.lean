/-- what the tables say of handlers -/
def av_EnvH (P : av_P) (K : av_K) (Ts Xs : List Cond) (Nc : List (String × String)) (nm : Nat) (mo : Nat → Nat) : Prop :=
  (∀ mi, mi < nm → (av_me P mi).2.2.2.2.2.1.length = (av_me P mi).2.2.2.2.2.2.1.length ∧ ∀ (i : Nat) (q : Nat × Nat × Nat × Nat) (nm : String), (av_me P mi).2.2.2.2.2.1[i]? = some q → (av_me P mi).2.2.2.2.2.2.1[i]? = some nm → q.2.2.2 ≠ 0 ∧ Cond.classLink (av_cn K (mo mi)) q.2.2.2 nm ∈ Ts ∧ nm ∈ av_es) ∧
  ∀ E ∈ av_es, Cond.castable E E ∈ Xs ∧ ∀ nm ∈ av_es, E ≠ nm → (E, nm) ∈ Nc
theorem av_hnd_spec {pc : Nat} {E : String} {t : Nat} : ∀ (hh : List (Nat × Nat × Nat × Nat)) (nms : List String), av_hnd pc E hh nms = some t → ∃ (i : Nat) (x : Nat × Nat × Nat × Nat), hh[i]? = some x ∧ nms[i]? = some E ∧ x.1 ≤ pc ∧ pc < x.2.1 ∧ x.2.2.1 = t ∧ ∀ j, j < i → ∃ y nm, hh[j]? = some y ∧ nms[j]? = some nm ∧ ¬ (y.1 ≤ pc ∧ pc < y.2.1 ∧ nm = E)
  | [], _, h => by simp [av_hnd] at h
  | _ :: _, [], h => by simp [av_hnd] at h
  | (a, b, u, ct) :: hh, nm :: nms, h => by
    simp only [av_hnd] at h
    split at h
    · next hz =>
      cases h
      exact ⟨0, (a, b, t, ct), rfl, by rw [← hz.2.2]; rfl, hz.1, hz.2.1, rfl, fun j hj => absurd hj (Nat.not_lt_zero _)⟩
    · next hz =>
      obtain ⟨i, x, h1, h2, h3, h4, h5, h6⟩ := av_hnd_spec hh nms h
      refine ⟨i + 1, x, h1, h2, h3, h4, h5, fun j hj => ?_⟩
      cases j with
      | zero => exact ⟨(a, b, u, ct), nm, rfl, rfl, hz⟩
      | succ j => exact h6 j (Nat.lt_of_succ_lt_succ hj)
section SL
variable {P : av_P} {K : av_K} {Ts Xs : List Cond} {Nc : List (String × String)} {nt nm : Nat} {mo mk : Nat → Nat} {I : av_I} {cl : List vw_C} {cy τ : Nat → Nat} {D : va_G} {A : Nat → Prop} {l : Launch}
variable {p : Program} {e : Env} {R : Room} {s : State} {m : MethodId} {args : Array Value} {below : List Frame} {meth : Method} {c : Code} {H : Heap} {locs : List Loc} {cells slots : Nat} {Q : State → Prop} {ls : Array Slot} {σ0 σ : Nat → Nat} {n0 nL oc mi pc : Nat} {ini : Bool} {cc : ByteArray} {L : av_L} {st : List Value} {h : av_H}
theorem av_Rel.drop (r : av_Rel cy τ D cl A s.heap σ0 n0 nL σ L st h ls H locs) {i q : Nat} {ls' : Array Slot} (hl : lv_has ls' nL ((i, Value.ref q) :: (av_lv σ τ L).filter (fun q => !(q.1 == i) && !(q.1 + 1 == i && q.2.category == 2)))) : av_Rel cy τ D cl A s.heap σ0 n0 nL σ (L.set i none) st h ls' H locs := by
  refine ⟨r.1, r.2.1, ⟨by rw [List.length_set]; exact r.2.2.1.1, hl.1, hl.2.1, fun q hq => ?_⟩, fun j w hw => ?_, r.2.2.2.2⟩
  · obtain ⟨w, hw, e⟩ := av_lv_mem.mp hq
    refine hl.2.2 q ?_
    rw [List.getElem?_set] at hw
    by_cases hj : i = q.1
    · rw [if_pos hj] at hw
      split at hw <;> cases hw
    · rw [if_neg hj] at hw
      refine List.mem_cons.mpr (Or.inr (List.mem_filter.mpr ⟨av_lv_mem.mpr ⟨w, hw, e⟩, ?_⟩))
      have h1 : q.2.category = 1 := by rw [e, av_v_cat]; exact (r.2.2.2.1 _ w hw).1
      simp [h1]
      exact fun z => hj z.symm
  · rw [List.getElem?_set] at hw
    split at hw
    · split at hw <;> cases hw
    · exact r.2.2.2.1 j w hw
/-- a thrown E is caught by this method -/
theorem sd_catch (hM0 : av_EnvM P K Ts Xs cl nm mo mk) (hH : av_EnvH P K Ts Xs Nc nm mo) (hF : av_Fix P K Ts cl cy τ D A nL (mo mi) ini cc p R s m args meth c) (hO2 : av_Ol2 P Xs Nc nt τ A s) (hmi : mi < nm) (htab : c.exceptionTable.toList = tableOf (av_me P mi).2.2.2.2.2.1)
    {E : String} (hE : E ∈ av_es) {t : Nat} (ht : av_hnd pc E (av_me P mi).2.2.2.2.2.1 (av_me P mi).2.2.2.2.2.2.1 = some t) {q : Addr} {ce : Cell} (hce : H[q]? = some ce) (hcv : ce.vm = .none) (hcl : s.vm.findClass E = some ce.cls) {rest : List Value}
    (kk : W p l e R s m args below meth c H locs cells slots Q (F0 m t ls [.ref q])) : vx_W p l e R s m args below meth c H locs cells slots Q (F0 m pc ls rest) q := by
  obtain ⟨⟨hx, hb, hml, hown⟩, hts, hin, hK, hA, hOld, hR0⟩ := hF
  obtain ⟨i, x, h1, h2, h3, h4, h5, h6⟩ := av_hnd_spec _ _ ht
  obtain ⟨hlen, hh⟩ := hH.1 mi hmi
  obtain ⟨c0, c1, -⟩ := hh i x E h1 h2
  obtain ⟨e1, e2⟩ := hH.2 E hE
  have hil : i < (av_me P mi).2.2.2.2.2.1.length := (List.getElem?_eq_some_iff.mp h1).1
  have hg : (av_me P mi).2.2.2.2.2.1 = (av_me P mi).2.2.2.2.2.1.take i ++ x :: (av_me P mi).2.2.2.2.2.1.drop (i + 1) := by
    have h9 : (av_me P mi).2.2.2.2.2.1[i] = x := (List.getElem?_eq_some_iff.mp h1).2
    rw [← h9, ← List.drop_eq_getElem_cons hil, List.take_append_drop]
  have hsplit : c.exceptionTable.toList = tableOf ((av_me P mi).2.2.2.2.2.1.take i) ++ (⟨x.1, x.2.1, x.2.2.1, x.2.2.2⟩ : ExceptionTableEntry) :: tableOf ((av_me P mi).2.2.2.2.2.1.drop (i + 1)) := by
    rw [htab]
    conv => lhs; rw [hg]
    simp [tableOf]
  refine vx_catch (own := av_cn K (mo mi)) (name := E) (E := E) (ce := ce) hown _ _ _ hsplit (fun z hz => ?_) (by simp [covers]; omega) c0 (hts _ c1) (va_Nw.use rfl (hO2.1 _ e1)) hce hcv hcl (by rw [← h5] at kk; exact kk)
  obtain ⟨y, hy, rfl⟩ := List.mem_map.mp hz
  obtain ⟨j, hj⟩ := List.getElem?_of_mem hy
  have hji : j < i := by
    have := (List.getElem?_eq_some_iff.mp hj).1
    simp at this
    omega
  obtain ⟨y', nm', g1, g2, g3⟩ := h6 j hji
  have hyy : y = y' := by
    rw [List.getElem?_take_of_lt hji, g1] at hj
    exact (Option.some.inj hj).symm
  subst hyy
  obtain ⟨d0, d1, d2⟩ := hh j y nm' g1 g2
  by_cases hcov : y.1 ≤ pc ∧ pc < y.2.1
  · refine Or.inr ⟨d0, nm', hts _ d1, hO2.2.1 _ (e2 nm' d2 (fun z => g3 ⟨hcov.1, hcov.2, z.symm⟩))⟩
  · refine Or.inl ?_
    simp [covers]
    omega
theorem lv_args1 : ∀ (vs : List Value) (k i : Nat) (v : Value), (∀ w ∈ vs, w.category = 1) → vs[i]? = some v → (k + i, v) ∈ lv_args k vs
  | [], _, _, _, _, h => by simp at h
  | w :: vs, k, 0, v, hc, h => by
    cases h
    exact List.mem_cons_self
  | w :: vs, k, i + 1, v, hc, h => by
    have h1 := lv_args1 vs (k + 1) i v (fun z hz => hc z (List.mem_cons_of_mem _ hz)) (by simpa using h)
    refine List.mem_cons_of_mem _ ?_
    rw [if_neg (by rw [hc w List.mem_cons_self]; decide)]
    rw [show k + (i + 1) = k + 1 + i by omega]
    exact h1
theorem lg_sl1 : ∀ vs : List Value, (∀ w ∈ vs, w.category = 1) → (lg_sl vs).length = vs.length
  | [], _ => rfl
  | w :: vs, hc => by
    have h1 := lg_sl1 vs (fun z hz => hc z (List.mem_cons_of_mem _ hz))
    simp only [lg_sl, List.flatMap_cons, List.length_append] at h1 ⊢
    rw [if_neg (by rw [hc w List.mem_cons_self]; decide), h1]
    simp
    omega
end SL
