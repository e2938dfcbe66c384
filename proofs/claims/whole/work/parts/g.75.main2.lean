section SG
variable {P : av_P} {K : av_K} {Ts : List Cond} {cl : List vw_C} {cy τ : Nat → Nat} {D : va_G} {A : Nat → Prop} {σ0 σ : Nat → Nat} {n0 nL oc mi pc : Nat} {ini : Bool} {cc : ByteArray}
variable {p : Program} {l : Launch} {e : Env} {R : Room} {s : State} {m : MethodId} {args : Array Value} {below : List Frame} {meth : Method} {c : Code} {H : Heap} {locs : List Loc} {cells slots : Nat} {Q : State → Prop} {ls : Array Slot}
variable {L L' : av_L} {st st' : List Value} {h h' : av_H} {pc' cells' slots' : Nat}
/-- behind a making: the stack's other values stand as they did -/
theorem av_made (r : av_Rel cy τ D cl A s.heap σ0 n0 nL σ L st h ls H locs) {q : Nat} {x y : va_E} {r0 : List Value} (hr0 : ∀ w ∈ r0, av_wv h.length w) (hx : av_we h.length x) (hxy : ∀ σ', av_e cy σ' τ x = y) {H1 : Heap} {locs1 : List Loc} {pc1 c1 s1 : Nat}
    (hP : va_P D cl (av_ws cy σ τ h ++ [(q, y)]) H1) (hD : va_D A (av_ws cy σ τ h ++ [(q, y)])) (hS : va_S A s.heap H1 locs1)
    (kk : av_K1 cy τ D cl A σ0 n0 nL p l e R s m args below meth c Q pc1 L (.ref h.length :: r0) (h ++ [x]) c1 s1) : W p l e R s m args below meth c H1 locs1 c1 s1 Q (F0 m pc1 ls (.ref q :: r0.map (av_v σ τ))) := by
  obtain ⟨σ', h1, h2, r'⟩ := r.make (st' := .ref h.length :: r0) hx (av_co (Nat.lt_succ_self _) (fun w hw => av_wv_le (Nat.le_succ _) (hr0 w hw))) hxy hP hD hS
  have k1 := kk σ' ls H1 locs1 r'
  have e1 : (Value.ref h.length :: r0).map (av_v σ' τ) = .ref q :: r0.map (av_v σ τ) := by
    rw [List.map_cons, List.map_congr_left (fun w hw => av_v_ext h1 (hr0 w hw))]
    exact congrArg (fun z => Value.ref z :: r0.map (av_v σ τ)) h2
  rw [e1] at k1
  exact k1
theorem sd_new (hE : av_Env P K Ts cl) (hF : av_Fix P K Ts cl cy τ D A nL oc ini cc p R s m args meth c) (r : av_Rel cy τ D cl A s.heap σ0 n0 nL σ L st h ls H locs) {ci len ix : Nat} (hok : av_ok K cl oc ini cc pc (.new ci) len ix = true)
    (hs : av_one P mi pc (.new ci) len L st h cells slots = some (.inl (pc', L', st', h', cells', slots'))) (hc1 : cells' ≤ R.cells) (hs1 : slots' ≤ R.slots) (kk : av_K1 cy τ D cl A σ0 n0 nL p l e R s m args below meth c Q pc' L' st' h' cells' slots') :
    W p l e R s m args below meth c H locs cells slots Q (F0 m pc ls (st.map (av_v σ τ))) := by
  obtain ⟨⟨hx, hb, hml, hown⟩, hts, hin, hK, hA, hOld, hR⟩ := hF
  simp only [av_ok, Bool.and_eq_true, decide_eq_true_eq] at hok
  obtain ⟨⟨rfl, hd⟩, hm⟩ := hok
  obtain ⟨C, T, N, hc, hw⟩ := hE.2.2.2.1 _ hm
  obtain ⟨hu, hty, hnm, hN, hi1, hi2⟩ := hE.1 _ _ _ _ hc
  simp only [av_one] at hs
  cases hs
  subst hN
  refine va_new (D := D) (C := C) (T := T) (N := (av_ty P ci).length) (fs := (av_ty P ci).map av_def) hx hb hts hu (fun k => (av_ty P ci).getD k .float) hty hown (hts _ hw) (hts _ hi1) (hts _ hi2) hK r.2.2.2.2.2.2.1 r.2.2.2.2.2.2.2.1 r.2.2.2.2.2.2.2.2 hA hc (fun j hj => ?_) hc1 hs1 hd (fun q H1 hP1 hD1 hS1 => ?_)
  · simp [vp_V, av_def, List.getD_eq_getElem?_getD, hj]
  · refine av_made r (x := .inr (ci, (av_ty P ci).map av_def)) r.2.2.2.2.1 (fun w hw => ?_) (fun σ' => ?_) hP1 hD1 hS1 kk
    · obtain ⟨t, -, rfl⟩ := List.mem_map.mp hw
      cases t <;> trivial
    · simp only [av_e, List.map_map]
      congr 2
      exact List.map_congr_left (fun t _ => av_v_def t)
theorem sd_newa (hE : av_Env P K Ts cl) (hF : av_Fix P K Ts cl cy τ D A nL oc ini cc p R s m args meth c) (r : av_Rel cy τ D cl A s.heap σ0 n0 nL σ L st h ls H locs) {k : ArrayType} {len ix : Nat} (hok : av_ok K cl oc ini cc pc (.newarray k) len ix = true)
    (hs : av_one P mi pc (.newarray k) len L st h cells slots = some (.inl (pc', L', st', h', cells', slots'))) (hc1 : cells' ≤ R.cells) (hs1 : slots' ≤ R.slots) (kk : av_K1 cy τ D cl A σ0 n0 nL p l e R s m args below meth c Q pc' L' st' h' cells' slots') :
    W p l e R s m args below meth c H locs cells slots Q (F0 m pc ls (st.map (av_v σ τ))) := by
  obtain ⟨⟨hx, hb, hml, hown⟩, hts, hin, hK, hA, hOld, hR⟩ := hF
  simp only [av_ok, Bool.and_eq_true, decide_eq_true_eq] at hok
  obtain ⟨rfl, hd⟩ := hok
  have hcls := hE.2.2.2.2.2.2.2.2.1
  simp only [av_one] at hs
  split at hs
  · next n r0 =>
    split at hs
    · next hn =>
      obtain ⟨hn0, hn1⟩ := hn
      cases k with
      | int =>
        simp only [av_newa] at hs
        cases hs
        refine va_newa (D := D) (atype := .int) (ty := .int) (a0 := (n.toNatClampNeg, .inl (fun _ => 0))) hx hb (hts _ hcls.1) rfl hK r.2.2.2.2.2.2.1 r.2.2.2.2.2.2.2.1 r.2.2.2.2.2.2.2.2 hA (fun cA => rfl) hn0 rfl (by simp only [componentBytes]; omega) hc1 hs1 hd (fun q cA H1 hK1 hP1 hD1 hS1 => ?_)
        have hcA : cA = cy 0 := av_ra (C := "") (Or.inl rfl) hK1 hK (k1 := 4) (k2 := 0) rfl rfl
        subst hcA
        exact av_made r (x := .inl (0, n.toNatClampNeg, .inl (fun _ => 0))) (av_tl r.2.2.2.2.1) trivial (fun _ => rfl) hP1 hD1 hS1 kk
      | byte =>
        simp only [av_newa] at hs
        cases hs
        refine va_newa (D := D) (atype := .byte) (ty := .byte) (a0 := (n.toNatClampNeg, .inl (fun _ => 0))) hx hb (hts _ hcls.2.1) rfl hK r.2.2.2.2.2.2.1 r.2.2.2.2.2.2.2.1 r.2.2.2.2.2.2.2.2 hA (fun cA => rfl) hn0 rfl (by simp only [componentBytes]; omega) hc1 hs1 hd (fun q cA H1 hK1 hP1 hD1 hS1 => ?_)
        have hcA : cA = cy 1 := av_ra (C := "") (Or.inr (Or.inl rfl)) hK1 hK (k1 := 4) (k2 := 1) rfl rfl
        subst hcA
        exact av_made r (x := .inl (1, n.toNatClampNeg, .inl (fun _ => 0))) (av_tl r.2.2.2.2.1) trivial (fun _ => rfl) hP1 hD1 hS1 kk
      | long =>
        simp only [av_newa] at hs
        cases hs
        refine va_newa (D := D) (atype := .long) (ty := .long) (a0 := (n.toNatClampNeg, .inr (.inl (fun _ => 0)))) hx hb (hts _ hcls.2.2) rfl hK r.2.2.2.2.2.2.1 r.2.2.2.2.2.2.2.1 r.2.2.2.2.2.2.2.2 hA (fun cA => rfl) hn0 rfl (by simp only [componentBytes]; omega) hc1 hs1 hd (fun q cA H1 hK1 hP1 hD1 hS1 => ?_)
        have hcA : cA = cy 2 := av_ra (C := "") (Or.inr (Or.inr (Or.inl rfl))) hK1 hK (k1 := 4) (k2 := 2) rfl rfl
        subst hcA
        exact av_made r (x := .inl (2, n.toNatClampNeg, .inr (.inl (fun _ => 0)))) (av_tl r.2.2.2.2.1) trivial (fun _ => rfl) hP1 hD1 hS1 kk
      | _ => simp only [av_newa] at hs; cases hs
    · cases hs
  · cases hs
theorem sd_newr (hE : av_Env P K Ts cl) (hF : av_Fix P K Ts cl cy τ D A nL oc ini cc p R s m args meth c) (r : av_Rel cy τ D cl A s.heap σ0 n0 nL σ L st h ls H locs) {k : Nat} {len ix : Nat} (hok : av_ok K cl oc ini cc pc (.anewarray k) len ix = true)
    (hs : av_one P mi pc (.anewarray k) len L st h cells slots = some (.inl (pc', L', st', h', cells', slots'))) (hc1 : cells' ≤ R.cells) (hs1 : slots' ≤ R.slots) (kk : av_K1 cy τ D cl A σ0 n0 nL p l e R s m args below meth c Q pc' L' st' h' cells' slots') :
    W p l e R s m args below meth c H locs cells slots Q (F0 m pc ls (st.map (av_v σ τ))) := by
  obtain ⟨⟨hx, hb, hml, hown⟩, hts, hin, hK, hA, hOld, hR⟩ := hF
  simp only [av_ok, Bool.and_eq_true, decide_eq_true_eq] at hok
  obtain ⟨⟨rfl, hd⟩, hm⟩ := hok
  simp only [av_one] at hs
  split at hs
  · next n r0 =>
    split at hs
    · next hn =>
      obtain ⟨hn0, hn1⟩ := hn
      cases hs
      refine va_newq (D := D) (C := "SinglesPast$State") hx hb hown (hts _ ((hE.2.2.2.2.1 _ hm).2.2 rfl)) hOld.2.2.1 hK r.2.2.2.2.2.2.1 r.2.2.2.2.2.2.2.1 r.2.2.2.2.2.2.2.2 hA hn0 rfl (by omega) hc1 hs1 hd (fun q cA H1 hK1 hP1 hD1 hS1 => ?_)
      have hcA : cA = cy 3 := av_ra (C := "SinglesPast$State") (Or.inr (Or.inr (Or.inr rfl))) hK1 hK (k1 := 4) (k2 := 3) rfl rfl
      subst hcA
      exact av_made r (x := .inl (3, n.toNatClampNeg, .inr (.inr (.inr (.inr (fun _ => none)))))) (av_tl r.2.2.2.2.1) (fun j a hj => by cases hj) (fun _ => rfl) hP1 hD1 hS1 kk
    · cases hs
  · cases hs
theorem sd_copy (hE : av_Env P K Ts cl) (hF : av_Fix P K Ts cl cy τ D A nL oc ini cc p R s m args meth c) (r : av_Rel cy τ D cl A s.heap σ0 n0 nL σ L st h ls H locs) {len ix : Nat} (hok : av_ok K cl oc ini cc pc (.invokedynamic 0) len ix = true)
    (hs : av_one P mi pc (.invokedynamic 0) len L st h cells slots = some (.inl (pc', L', st', h', cells', slots'))) (kk : av_K1 cy τ D cl A σ0 n0 nL p l e R s m args below meth c Q pc' L' st' h' cells' slots') :
    W p l e R s m args below meth c H locs cells slots Q (F0 m pc ls (st.map (av_v σ τ))) := by
  obtain ⟨⟨hx, hb, hml, hown⟩, hts, hin, hK, hA, hOld, hR⟩ := hF
  simp only [av_ok, Bool.and_eq_true, decide_eq_true_eq] at hok
  obtain ⟨⟨rfl, hd⟩, hm⟩ := hok
  have hj := hE.2.2.2.2.2.2.1
  simp only [av_one, av_copy] at hs
  split at hs
  · next n dp b sp a r0 =>
    split at hs
    · next n0' f n1 g ha hb1 =>
      split at hs
      · next hh =>
        obtain ⟨h1, h2, h3, h4, h5, h6⟩ := hh
        cases hs
        refine va_copyi (D := D) (ty := .int) hx hb (by rw [hml]; exact r.2.2.1.2.1.symm) hown (hts _ ((hE.2.2.2.2.1 _ hm).1 rfl)) (hts _ hj.1) (hts _ hj.2.1) (hts _ hj.2.2) hK r.2.2.2.2.2.2.1 r.2.2.2.2.2.2.2.1 r.2.2.2.2.2.2.2.2 a b 0 0 (av_ws_get ha) (av_ws_get hb1) rfl rfl rfl h1 h2 h3 h4 h5 (fun _ _ => rfl) (by omega) ?_ hd (fun H1 locs1 hP1 hD1 hS1 => kk σ ls H1 locs1 (r.cell (x := .inl (0, n1, .inl (va_cpy f g sp.toNatClampNeg dp.toNatClampNeg n.toNatClampNeg))) trivial (av_tl (av_tl (av_tl (av_tl (av_tl r.2.2.2.2.1))))) hP1 hD1 hS1))
        have e1 := av_cats σ τ st'
        have e2 : nativeFrameWords "java/lang/System" "arraycopy" 5 ≤ 100 := by decide
        have e3 := hR.2
        omega
      · cases hs
    · cases hs
  · cases hs
theorem sd_clone (hE : av_Env P K Ts cl) (hF : av_Fix P K Ts cl cy τ D A nL oc ini cc p R s m args meth c) (r : av_Rel cy τ D cl A s.heap σ0 n0 nL σ L st h ls H locs) {len ix : Nat} (hok : av_ok K cl oc ini cc pc (.invokedynamic 3) len ix = true)
    (hs : av_one P mi pc (.invokedynamic 3) len L st h cells slots = some (.inl (pc', L', st', h', cells', slots'))) (hc1 : cells' ≤ R.cells) (hs1 : slots' ≤ R.slots) (kk : av_K1 cy τ D cl A σ0 n0 nL p l e R s m args below meth c Q pc' L' st' h' cells' slots') :
    W p l e R s m args below meth c H locs cells slots Q (F0 m pc ls (st.map (av_v σ τ))) := by
  obtain ⟨⟨hx, hb, hml, hown⟩, hts, hin, hK, hA, hOld, hR⟩ := hF
  simp only [av_ok, Bool.and_eq_true, decide_eq_true_eq] at hok
  obtain ⟨⟨rfl, hd⟩, hm⟩ := hok
  obtain ⟨hj, w1, w2, w3, w4⟩ := hE.2.2.2.2.2.1
  simp only [av_one] at hs
  split at hs
  · next a r0 =>
    split at hs
    · next n f ha =>
      split at hs
      · next h8 =>
        cases hs
        have e1 := av_cats σ τ r0
        have e3 := hR.2
        have hnm : s.vm.findClass "[I" = some (cy 0) := (hK.2 0 _ rfl).2
        refine va_clone (D := D) (ad := "[I") (x := (n, .inl f)) (ty := .int) hx hb (by rw [hml]; exact r.2.2.1.2.1.symm) hown (hts _ ((hj _ hm).1 rfl)) (hts _ w1) (hts _ w2) (hts _ w3) (hts _ w4) hOld.2.2.2 hK r.2.2.2.2.2.2.1 r.2.2.2.2.2.2.2.1 r.2.2.2.2.2.2.2.2 hA a 0 (av_ws_get ha) rfl hnm (fun i v hv => ?_) (by omega) (by omega) hc1 hs1 hd (fun q H1 hK1 hP1 hD1 hS1 => ?_)
        · rw [vp_cell_i] at hv
          by_cases hi : i < n
          · rw [arrV_read _ _ hi] at hv; cases hv; rfl
          · rw [Array.getElem?_eq_none (by rw [arrV_size]; omega)] at hv; cases hv
        · exact av_made r (x := .inl (0, n, .inl f)) (av_tl r.2.2.2.2.1) trivial (fun _ => rfl) hP1 hD1 hS1 kk
      · cases hs
    · cases hs
  · cases hs
theorem sd_cast (hE : av_Env P K Ts cl) (hF : av_Fix P K Ts cl cy τ D A nL oc ini cc p R s m args meth c) (r : av_Rel cy τ D cl A s.heap σ0 n0 nL σ L st h ls H locs) {k len ix : Nat} (hok : av_ok K cl oc ini cc pc (.checkcast k) len ix = true)
    (hs : av_one P mi pc (.checkcast k) len L st h cells slots = some (.inl (pc', L', st', h', cells', slots'))) (kk : av_K1 cy τ D cl A σ0 n0 nL p l e R s m args below meth c Q pc' L' st' h' cells' slots') :
    W p l e R s m args below meth c H locs cells slots Q (F0 m pc ls (st.map (av_v σ τ))) := by
  obtain ⟨⟨hx, hb, hml, hown⟩, hts, hin, hK, hA, hOld, hR⟩ := hF
  simp only [av_ok, Bool.and_eq_true, decide_eq_true_eq] at hok
  obtain ⟨⟨rfl, hd⟩, hm⟩ := hok
  simp only [av_one] at hs
  split at hs
  · next a r0 =>
    split at hs
    · next n f ha =>
      cases hs
      have hnm : s.vm.findClass "[I" = some (cy 0) := (hK.2 0 _ rfl).2
      exact va_castA (D := D) (nm := "[I") hx hb hown (hts _ ((hE.2.2.2.2.2.1.1 _ hm).2 rfl)) r.2.2.2.2.2.2.1 a (av_ws_get ha) hnm hd (kk σ ls H locs r)
    · cases hs
  · cases hs
end SG
