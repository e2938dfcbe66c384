/-! ===== ONE INSTRUCTION OF THE ABSTRACT MACHINE IS ONE OF THE REAL ONE ===== -/
section SE
variable {P : av_P} {K : av_K} {Ts : List Cond} {cl : List vw_C} {cy τ : Nat → Nat} {D : va_G} {A : Nat → Prop} {σ0 σ : Nat → Nat} {n0 nL oc mi pc : Nat} {ini : Bool} {cc : ByteArray}
variable {p : Program} {l : Launch} {e : Env} {R : Room} {s : State} {m : MethodId} {args : Array Value} {below : List Frame} {meth : Method} {c : Code} {H : Heap} {locs : List Loc} {cells slots : Nat} {Q : State → Prop} {ls : Array Slot}
variable {L L' : av_L} {st st' : List Value} {h h' : av_H} {pc' cells' slots' : Nat}
/-- the goal of a step: from all that the next state may be -/
def av_K1 (cy τ : Nat → Nat) (D : va_G) (cl : List vw_C) (A : Nat → Prop) (σ0 : Nat → Nat) (n0 nL : Nat) (p : Program) (l : Launch) (e : Env) (R : Room) (s : State) (m : MethodId) (args : Array Value) (below : List Frame) (meth : Method) (c : Code) (Q : State → Prop) (pc' : Nat) (L' : av_L) (st' : List Value) (h' : av_H) (cells' slots' : Nat) : Prop :=
  ∀ (σ' : Nat → Nat) (ls' : Array Slot) (H' : Heap) (locs' : List Loc), av_Rel cy τ D cl A s.heap σ0 n0 nL σ' L' st' h' ls' H' locs' → W p l e R s m args below meth c H' locs' cells' slots' Q (F0 m pc' ls' (st'.map (av_v σ' τ)))
theorem sd_bin (r : av_Rel cy τ D cl A s.heap σ0 n0 nL σ L st h ls H locs) {f : Int32 → Int32 → Option Int32} {len : Nat} (hs : av_bin pc len L st h cells slots f = some (.inl (pc', L', st', h', cells', slots')))
    (kk : av_K1 cy τ D cl A σ0 n0 nL p l e R s m args below meth c Q pc' L' st' h' cells' slots')
    (row : ∀ (x y z : Int32) (rest : List Value), f x y = some z → W p l e R s m args below meth c H locs cells slots Q (F0 m (pc + len) ls (.int z :: rest)) → W p l e R s m args below meth c H locs cells slots Q (F0 m pc ls (.int y :: .int x :: rest))) :
    W p l e R s m args below meth c H locs cells slots Q (F0 m pc ls (st.map (av_v σ τ))) := by
  unfold av_bin at hs
  split at hs
  · next y x r0 =>
    split at hs
    · next z hz =>
      cases hs
      exact row x y z _ hz (kk σ ls H locs (r.stk (fun v hv => by
        rcases List.mem_cons.mp hv with h1 | h1
        · rw [h1]; trivial
        · exact r.2.2.2.2.1 v (List.mem_cons_of_mem _ (List.mem_cons_of_mem _ h1)))))
    · cases hs
  · cases hs
theorem sd_icmp {k : Jvm.ClassFile.Cond} {t : Int} (hx : p.tables.exec = Jvm.exec) (hb : c.code = cc) (ht : 0 ≤ t) (hd : decode cc pc = .ok (.if_icmp k (t - pc), 3)) {x y : Int32} {rest : List Value}
    (kt : av_cmp k x y = true → W p l e R s m args below meth c H locs cells slots Q (F0 m t.toNat ls rest)) (kf : ¬ av_cmp k x y = true → W p l e R s m args below meth c H locs cells slots Q (F0 m (pc + 3) ls rest)) :
    W p l e R s m args below meth c H locs cells slots Q (F0 m pc ls (.int y :: .int x :: rest)) := by
  have h1 : (pc : Int) + (t - pc) = (t.toNat : Int) := by omega
  cases k with
  | eq => exact lv_icmp_eq hx hb hd h1 (fun z => kt (by simp [av_cmp, z])) (fun z => kf (by simpa [av_cmp] using z))
  | ne => exact lv_icmp_ne hx hb hd h1 (fun z => kt (by simpa [av_cmp] using z)) (fun z => kf (by simpa [av_cmp] using z))
  | lt => exact lv_icmp_lt hx hb hd h1 (fun z => kt (by simpa [av_cmp] using z)) (fun z => kf (by simpa [av_cmp] using z))
  | ge => exact lv_icmp_ge hx hb hd h1 (fun z => kt (by simpa [av_cmp] using z)) (fun z => kf (by simpa [av_cmp] using z))
  | gt => exact lv_icmp_gt hx hb hd h1 (fun z => kt (by simpa [av_cmp] using z)) (fun z => kf (by simpa [av_cmp] using z))
  | le => exact lv_icmp_le hx hb hd h1 (fun z => kt (by simpa [av_cmp] using z)) (fun z => kf (by simpa [av_cmp] using z))
theorem sd_if {k : Jvm.ClassFile.Cond} {t : Int} (hx : p.tables.exec = Jvm.exec) (hb : c.code = cc) (ht : 0 ≤ t) (hd : decode cc pc = .ok (.ifCond k (t - pc), 3)) {x : Int32} {rest : List Value}
    (kt : av_cmp k x 0 = true → W p l e R s m args below meth c H locs cells slots Q (F0 m t.toNat ls rest)) (kf : ¬ av_cmp k x 0 = true → W p l e R s m args below meth c H locs cells slots Q (F0 m (pc + 3) ls rest)) :
    W p l e R s m args below meth c H locs cells slots Q (F0 m pc ls (.int x :: rest)) := by
  have h1 : (pc : Int) + (t - pc) = (t.toNat : Int) := by omega
  cases k with
  | eq => exact lv_if_eq hx hb hd h1 (fun z => kt (by simp [av_cmp, z])) (fun z => kf (by simpa [av_cmp] using z))
  | ne => exact lv_if_ne hx hb hd h1 (fun z => kt (by simpa [av_cmp] using z)) (fun z => kf (by simpa [av_cmp] using z))
  | lt => exact lv_if_lt hx hb hd h1 (fun z => kt (by simpa [av_cmp] using z)) (fun z => kf (by simpa [av_cmp] using z))
  | ge => exact lv_if_ge hx hb hd h1 (fun z => kt (by simpa [av_cmp] using z)) (fun z => kf (by simpa [av_cmp] using z))
  | gt => exact lv_if_gt hx hb hd h1 (fun z => kt (by simpa [av_cmp] using z)) (fun z => kf (by simpa [av_cmp] using z))
  | le => exact lv_if_le hx hb hd h1 (fun z => kt (by simpa [av_cmp] using z)) (fun z => kf (by simpa [av_cmp] using z))
theorem sd_ld (r : av_Rel cy τ D cl A s.heap σ0 n0 nL σ L st h ls H locs) {v : Value} (hv : av_wv h.length v) {len : Nat} (kk : av_K1 cy τ D cl A σ0 n0 nL p l e R s m args below meth c Q (pc + len) L (v :: st) h cells slots)
    (row : W p l e R s m args below meth c H locs cells slots Q (F0 m (pc + len) ls (av_v σ τ v :: st.map (av_v σ τ))) → W p l e R s m args below meth c H locs cells slots Q (F0 m pc ls (st.map (av_v σ τ)))) :
    W p l e R s m args below meth c H locs cells slots Q (F0 m pc ls (st.map (av_v σ τ))) :=
  row (kk σ ls H locs (r.stk (fun w hw => by
    rcases List.mem_cons.mp hw with h1 | h1
    · rw [h1]; exact hv
    · exact r.2.2.2.2.1 w h1)))
/-- a text by a wide index -/
theorem sd_ldcw (hx : p.tables.exec = Jvm.exec) (hb : c.code = cc) {own tx : String} {index q : Nat} (hown : s.vm.findClass own = some m.cls) (hZ : vk_R own index tx q s) {rest : List Value} (hd : decode cc pc = .ok (.ldc_w index, 3))
    (k : W p l e R s m args below meth c H locs cells slots Q (F0 m (pc + 3) ls (.ref q :: rest))) : W p l e R s m args below meth c H locs cells slots Q (F0 m pc ls rest) := by
  intro T hT X
  obtain ⟨t, a1, b1⟩ := k T hT X
  refine ⟨t, ?_, b1⟩
  obtain ⟨k1, cf, i, a', hk, hcf, hcp, -, hr, hev'⟩ := Cond.stringRef_spec (args := #[]) hown hZ.1
  cases hZ.2.symm.trans hev'
  obtain ⟨k', hk', he⟩ := X.warmed.alike.2.2 _ _ hk
  have hr' : k'.resolved[index]? = some (some (.string q)) := by
    rcases X.warmed.entry hk hk' index with h1 | ⟨h1, -⟩
    · rw [h1]; exact hr
    · rw [hr] at h1; cases h1
  have hd' : decode c.code pc = .ok (.ldc_w index, 3) := by rw [hb]; exact hd
  jvm_step X.here [hx, hd', ldc_w.wp_string (e := e) (s := T) (f := F0 m pc ls rest) X.here.top hk' (by rw [he]; exact hcf) hcp hr']
  exact a1
theorem av_tl {n : Nat} {v : Value} {r : List Value} (h : ∀ w ∈ v :: r, av_wv n w) : ∀ w ∈ r, av_wv n w := fun w hw => h w (List.mem_cons_of_mem _ hw)
theorem av_hd {n : Nat} {v : Value} {r : List Value} (h : ∀ w ∈ v :: r, av_wv n w) : av_wv n v := h v List.mem_cons_self
theorem av_co {n : Nat} {v : Value} {r : List Value} (hv : av_wv n v) (h : ∀ w ∈ r, av_wv n w) : ∀ w ∈ v :: r, av_wv n w := fun w hw => by
  rcases List.mem_cons.mp hw with h1 | h1
  · rw [h1]; exact hv
  · exact h w h1
theorem av_fit_ok {t : FieldType} {v : Value} (hf : av_fit t v = true) : narrow t (av_v σ τ v) = av_v σ τ v ∧ fits t (av_v σ τ v) = true := by
  cases t <;> cases v <;> simp_all [av_fit, av_v, narrow, fits]
  rcases hf with rfl | rfl <;> decide
theorem av_v_def (t : FieldType) : av_v σ τ (av_def t) = av_def t := by cases t <;> rfl
theorem av_v_rf (q : Option Nat) : av_v σ τ (va_rf q) = va_rf (q.map σ) := by cases q <;> rfl
theorem av_ra {tys : List (ClassId × FieldType)} {k1 k2 : Nat} {c1 c2 : ClassId} {t : FieldType} {C : String} {tys2 : List (ClassId × FieldType)} (ht : t = .int ∨ t = .byte ∨ t = .long ∨ t = .object C) (h1 : va_K D cl tys s) (h2 : va_K D cl tys2 s) (e1 : tys[k1]? = some (c1, t)) (e2 : tys2[k2]? = some (c2, t)) : c1 = c2 := by
  have a1 := (h1.2 _ _ e1).2
  have a2 := (h2.2 _ _ e2).2
  rcases ht with rfl | rfl | rfl | rfl
  · exact Option.some.inj (a1.symm.trans a2)
  · exact Option.some.inj (a1.symm.trans a2)
  · exact Option.some.inj (a1.symm.trans a2)
  · obtain ⟨_, _, _, _, _, f1⟩ := a1
    obtain ⟨_, _, _, _, _, f2⟩ := a2
    exact Option.some.inj (f1.symm.trans f2)
theorem sd_field (hE : av_Env P K Ts cl) (hF : av_Fix P K Ts cl cy τ D A nL oc ini cc p R s m args meth c) (r : av_Rel cy τ D cl A s.heap σ0 n0 nL σ L st h ls H locs) {q len ix : Nat} (hok : av_ok K cl oc ini cc pc (.getfield q) len ix = true)
    (hs : av_one P mi pc (.getfield q) len L st h cells slots = some (.inl (pc', L', st', h', cells', slots'))) (kk : av_K1 cy τ D cl A σ0 n0 nL p l e R s m args below meth c Q pc' L' st' h' cells' slots') :
    W p l e R s m args below meth c H locs cells slots Q (F0 m pc ls (st.map (av_v σ τ))) := by
  obtain ⟨⟨hx, hb, hml, hown⟩, hts, hin, hK, hA, hOld, hR⟩ := hF
  simp only [av_ok, Bool.and_eq_true, decide_eq_true_eq] at hok
  obtain ⟨⟨rfl, hd⟩, hm⟩ := hok
  obtain ⟨C, T, N, hc, hk, hw⟩ := hE.2.1 _ hm
  simp only [av_one] at hs
  split at hs
  · next a r0 =>
    split at hs
    · next ci fs ha =>
      split at hs
      · next hci =>
        split at hs
        · next v hv =>
          cases hs
          subst hci
          have hwv : av_wv h.length v := r.2.2.2.2.2.1 _ (List.mem_of_getElem? ha) v (List.mem_of_getElem? hv)
          refine va_get (D := D) (C := C) (T := T) (N := N) (v := av_v σ τ v) hx hb hts (hE.1 _ _ _ _ hc).1 hown hK r.2.2.2.2.2.2.1 a (av_ws_get ha) hc (q % 64) hk (hts _ hw) (fun _ z => z) ?_ hd (kk σ ls H locs (r.stk (av_co hwv (av_tl r.2.2.2.2.1))))
          rw [List.getElem?_map, hv]
          rfl
        · cases hs
      · cases hs
    · cases hs
  · cases hs
theorem sd_put (hE : av_Env P K Ts cl) (hF : av_Fix P K Ts cl cy τ D A nL oc ini cc p R s m args meth c) (r : av_Rel cy τ D cl A s.heap σ0 n0 nL σ L st h ls H locs) {q len ix : Nat} (hok : av_ok K cl oc ini cc pc (.putfield q) len ix = true)
    (hs : av_one P mi pc (.putfield q) len L st h cells slots = some (.inl (pc', L', st', h', cells', slots'))) (kk : av_K1 cy τ D cl A σ0 n0 nL p l e R s m args below meth c Q pc' L' st' h' cells' slots') :
    W p l e R s m args below meth c H locs cells slots Q (F0 m pc ls (st.map (av_v σ τ))) := by
  obtain ⟨⟨hx, hb, hml, hown⟩, hts, hin, hK, hA, hOld, hR⟩ := hF
  simp only [av_ok, Bool.and_eq_true, decide_eq_true_eq] at hok
  obtain ⟨⟨⟨rfl, hd⟩, hm⟩, hfin⟩ := hok
  obtain ⟨C, T, N, hc, hk, hw⟩ := hE.2.1 _ hm
  obtain ⟨hu, hty, hnm, hN, -, -⟩ := hE.1 _ _ _ _ hc
  simp only [av_one] at hs
  split at hs
  · next v a r0 =>
    split at hs
    · next ci fs ha =>
      split at hs
      · next hh =>
        obtain ⟨hci, hlt, hf⟩ := hh
        cases hs
        subst hci
        obtain ⟨hn1, hf1⟩ := av_fit_ok (σ := σ) (τ := τ) hf
        have hwe : av_we h.length (.inr (q / 64, fs.set (q % 64) v)) := fun w hw => by
          rcases List.mem_or_eq_of_mem_set hw with h1 | h1
          · exact r.2.2.2.2.2.1 _ (List.mem_of_getElem? ha) w h1
          · rw [h1]; exact av_hd r.2.2.2.2.1
        have hnext : ∀ (H1 : Heap) (locs1 : List Loc), va_P D cl ((av_ws cy σ τ h).set a (σ a, .inr (q / 64, (fs.map (av_v σ τ)).set (q % 64) (av_v σ τ v)))) H1 → va_D A ((av_ws cy σ τ h).set a (σ a, .inr (q / 64, (fs.map (av_v σ τ)).set (q % 64) (av_v σ τ v)))) → va_S A s.heap H1 locs1 →
            W p l e R s m args below meth c H1 locs1 cells slots Q (F0 m (pc + 3) ls (st'.map (av_v σ τ))) := fun H1 locs1 hP1 hD1 hS1 => by
          rw [← List.map_set] at hP1 hD1
          exact kk σ ls H1 locs1 (r.cell hwe (av_tl (av_tl r.2.2.2.2.1)) hP1 hD1 hS1)
        simp only [av_fin, hc, Bool.or_eq_true, Bool.and_eq_true, decide_eq_true_eq] at hfin
        by_cases hfi : (T (q % 64)).2.2.2 = false
        · exact va_put (D := D) (C := C) (T := T) (N := N) hx hb hts hu (fun k => (av_ty P (q / 64)).getD k .float) hty hnm hown hK r.2.2.2.2.2.2.1 r.2.2.2.2.2.2.2.1 r.2.2.2.2.2.2.2.2 a (av_ws_get ha) hc (q % 64) hk (hts _ hw) (fun _ z => z) hfi (hty _ hk) hn1 hf1 (by rw [List.length_map]; exact hlt) hd hnext
        · rcases hfin with h1 | ⟨h1, h2⟩
          · exact absurd h1 hfi
          · exact va_putF (D := D) (C := C) (T := T) (N := N) hx hb hts hu (fun k => (av_ty P (q / 64)).getD k .float) hty hnm hown hK r.2.2.2.2.2.2.1 r.2.2.2.2.2.2.2.1 r.2.2.2.2.2.2.2.2 a (av_ws_get ha) hc (q % 64) hk (hts _ hw) (fun _ z => z) (by simpa using hfi) (hin h1) h2 (hty _ hk) hn1 hf1 (by rw [List.length_map]; exact hlt) hd hnext
      · cases hs
    · cases hs
  · cases hs
end SE
