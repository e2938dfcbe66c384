def R_law : String := "SinglesPastLaw"
def lw_P (b : Addr) (xs : List Int32) (args : Array Value) (s : State) : Prop := args = #[.ref b] ∧ s.IntsAt b xs ∧ xs.length ≤ 3072 ∧ (Jvm.Cond.and given_1 narrow_1).before args s = true
def lw_Q (_ : Array Value) (s : State) (o : Outcome) (t : State) : Prop := o = .returned (some (.int 1)) ∧ Framed s o t [] 601024 7293034
def lw_Z (below : List Frame) (a : Array Value) (s : State) : State → Prop := fun t => ∃ o, t.status = .running ∧ Ended t below o ∧ lw_Q a s o t
def lw_At (p : Program) (s : State) (m : MethodId) (meth : Method) (c : Code) (b L : Nat) (xs : Nat → Int32) : Prop :=
  p.tables.exec = Jvm.exec ∧ c.code = code ∧ meth.sig.returnType = ret ∧ c.maxLocals = 7 ∧ s.vm.findClass R_law = some m.cls ∧ (∀ w ∈ lw_tbl, w.before #[Value.ref b] s = true) ∧ va_X b L xs s s.heap ∧ b < s.heap.size ∧ meth.locks = false ∧ (Jvm.Cond.and given_1 narrow_1).before #[Value.ref b] s = true
/-! ===== THE LAW'S START: from the abstract run to the law's own walk ===== -/
theorem ts_of {o : String} {k : Nat} {tx : List Int32} {args : Array Value} {s : State} {A : Nat → Prop} (hN : tx.length < 2 ^ 31) (h : tsT o k tx args s) (hA : ∀ a : Nat, a < s.heap.size → ¬ A a) :
    ∃ a, (Term.string o k).eval args s none [] s = some (.ref a) ∧ va_O "java/lang/String" a A s s.heap ∧ va_OF "java/lang/String" "coder" "B" (.int 0) a A s s.heap ∧ ∃ v, va_OF "java/lang/String" "value" "[B" (.ref v) a A s s.heap ∧ va_T .byte v tx.length (fun j => .int (tx.getD j 0)) A s s.heap := by
  obtain ⟨h1, h2, h3, h4, h5⟩ := h
  obtain ⟨a, c, cA, kA, q1, q2, q3, q4, q5, q6, -⟩ := Cond.exactly_spec (args := args) (first := s) (o := none) (s := s) (idx := []) (t := .string o k) (cls := "java/lang/String") h1
  obtain ⟨t, ht, hT⟩ := va_Tof (f := fun j => .int (tx.getD j 0)) (A := A) hN h3 (va_eqt h4) (fun j hj => va_eqt (h5 j hj)) hA
  exact ⟨a, q1, ⟨cA, q3, q5, by rw [q6]; exact q2, hA a (Array.getElem?_eq_some_iff.mp q3).1⟩, vk_OFof q1 (va_eqt h2) hA, t, vk_OFof q1 ht hA, hT⟩
theorem ts_K {s : State} {args : Array Value} (hts : ∀ w ∈ lw_tbl, w.before args s = true) (hT : ∀ w ∈ tTs, w.before args s = true) : ∃ (D : va_G) (cy : Nat → Nat), va_K D tCl (av_tys cy) s := by
  have h0 : ∀ ci : Nat, ∃ q : ClassId × (Nat → Nat), ∀ (C : String) (T : u_T) (N : Nat), tCl[ci]? = some (C, T, N) → u_Kn s C T N q.1 q.2 := by
    intro ci
    cases hc : tCl[ci]? with
    | none => exact ⟨(0, fun _ => 0), fun C T N h => by cases h⟩
    | some q =>
      obtain ⟨C, T, N⟩ := q
      obtain ⟨h1, -, -, -, h5, -⟩ := tl_cl 0 (fun _ => 0) ci C T N hc
      obtain ⟨cC, iS, hk⟩ := u_known (n := N) hT h1 (hT _ h5)
      exact ⟨(cC, iS), fun C' T' N' h => by cases h; exact hk⟩
  obtain ⟨d, hd⟩ := Classical.axiomOfChoice h0
  obtain ⟨c0, k0, p0, a1, a2, a3⟩ := Cond.arrayClass_spec (hts _ ts_ai)
  obtain ⟨c1, k1, p1, b1, b2, b3⟩ := Cond.arrayClass_spec (hts _ ts_ab)
  obtain ⟨c2, k2, p2, d1, d2, d3⟩ := Cond.arrayClass_spec (hts _ ts_al)
  obtain ⟨p3, c3, k3, e1, e2, e3, e4, e5⟩ := Cond.arrayOver_spec (hts _ ts_w6)
  refine ⟨(fun ci => (d ci).1, fun ci => (d ci).2), fun i => match i with | 0 => c0 | 1 => c1 | 2 => c2 | _ => c3, fun ci q hq => hd ci q.1 q.2.1 q.2.2 hq, fun k q hq => ?_⟩
  match k, hq with
  | 0, hq => cases hq; exact ⟨fun n z => ⟨fun k h => (by cases h), k0, a2, p0, a3⟩, a1⟩
  | 1, hq => cases hq; exact ⟨fun n z => ⟨fun k h => (by cases h), k1, b2, p1, b3⟩, b1⟩
  | 2, hq => cases hq; exact ⟨fun n z => ⟨fun k h => (by cases h), k2, d2, p2, d3⟩, d1⟩
  | 3, hq => cases hq; exact ⟨fun n z => ⟨fun k h => (by cases h), k3, e3, p3, e4⟩, k3, p3, e3, e4, e1, e5⟩
  | k + 4, hq => cases hq
theorem ts_framed {s t : State} {o : Outcome} {L : List Loc} {k n k' n' : Nat} (h : FrameEnd s o t L k n) (hL : ∀ q ∈ L, s.heap.size ≤ q.base) (hk : k ≤ k') (hn : n ≤ n') : Framed s o t [] k' n' := by
  obtain ⟨h1, h2, h3⟩ := h
  obtain ⟨f1, f2, f3, f4, f5, f6⟩ := h3.mono hk hn
  refine ⟨h1, h2, f1, f2, f3, f4, f5, fun a c hc => ?_⟩
  obtain ⟨c', g1, g2, g3, g4⟩ := f6 a c hc
  refine ⟨c', g1, g2, g3, fun i _ => g4 i fun hm => ?_⟩
  have h9 := hL _ hm
  have h8 : a < s.heap.size := (Array.getElem?_eq_some_iff.mp hc).1
  exact absurd h9 (Nat.not_le.mpr h8)
theorem law_ent {nx : Nat} {xs : Nat → Int32} (i : Nat) (v : Value) (h : (av_ent (tP nx xs) 395 [.retAddr 0])[i]? = some (some v)) : i = 0 ∧ v = .retAddr 0 := by
  match i, h with
  | 0, h => cases h; exact ⟨rfl, rfl⟩
  | 1, h => cases h
  | 2, h => cases h
  | 3, h => cases h
  | 4, h => cases h
  | 5, h => cases h
  | 6, h => cases h
  | i + 7, h => cases h
theorem law_ini : av_ini tPz 395 = false := by decide +kernel
/-- the law's own walk, out of the abstract run -/
theorem law_start {p : Program} {e : Env} {s : State} {m : MethodId} {below : List Frame} {meth : Method} {c : Code} (l : Launch) (hl : l.stackTraces = false) {b L : Nat} {xs : Nat → Int32} (C0 : lw_At p s m meth c b L xs) (hcw : (Jvm.Cond.code x code maxLocals ret).before #[Value.ref b] s = true) (htab : c.exceptionTable.toList = [])
    (hStr : ∀ (cy τ : Nat → Nat) (D : va_G) (A : Nat → Prop), av_Strs (tP L xs) tK tTs tXs tNc 69 tCl cy τ D A l)
    {n : Nat} {h' : av_H} {c' s' : Nat} (hrun : av_rn (tP L xs) n 100 395 0 (av_ent (tP L xs) 395 [.retAddr 0]) [] [] 0 0 = some (.inl (some (.int 1)), h', c', s')) (hc : c' ≤ 601024) (hs : s' ≤ 7293034) :
    W p l e room_1 s m #[Value.ref b] below meth c s.heap [] 0 0 (lw_Z below #[Value.ref b] s) (entryFrame m ([Value.ref b] : List Value).toArray 7) := by
  obtain ⟨hx, hb, hret, hml, hown, hts, hX, hbl, hlocks, hgv⟩ := C0
  have hnr : narrow_1.before #[Value.ref b] s = true := ndr hgv
  have hT : ∀ w ∈ tTs, w.before #[Value.ref b] s = true := fun w hw => by
    rcases List.mem_cons.mp (List.mem_filter.mp hw).1 with h1 | h1
    · rw [h1]; exact hcw
    · exact hts w h1
  obtain ⟨D, cy, hK⟩ := ts_K hts hT
  let A : Nat → Prop := fun q => s.heap.size ≤ q
  have hA : ∀ a : Nat, a < s.heap.size → ¬ A a := fun a h1 h2 => Nat.not_le.mpr h1 h2
  have h0 : ∀ i : Nat, ∃ a : Nat, i < 69 → (Term.string (tSo.getD i ("", 0, "")).1 (tSo.getD i ("", 0, "")).2.1).eval #[Value.ref b] s none [] s = some (.ref a) ∧ va_O "java/lang/String" a A s s.heap ∧ va_OF "java/lang/String" "coder" "B" (.int 0) a A s s.heap ∧ ∃ v, va_OF "java/lang/String" "value" "[B" (.ref v) a A s s.heap ∧ va_T .byte v (tTx.getD i []).length (fun j => .int ((tTx.getD i []).getD j 0)) A s s.heap := by
    intro i
    by_cases hi : i < 69
    · obtain ⟨a, ha⟩ := ts_of (A := A) (ts_len i hi) (ts_all hnr i hi) hA
      exact ⟨a, fun _ => ha⟩
    · exact ⟨0, fun h => absurd h hi⟩
  obtain ⟨ad, had⟩ := Classical.axiomOfChoice h0
  let τ : Nat → Nat := fun n => match n with | 0 => b | i + 1 => ad i
  have hOld : av_Old (tP L xs) tK τ A s := by
    refine ⟨fun q hq => ?_, ⟨hX, hbl, hA b hbl⟩, hts _ ts_w6, va_Nw.of rfl (hts _ ts_w7)⟩
    obtain ⟨q1, q2, q3⟩ := ts_sl q hq
    rw [q2, q3]
    exact ⟨_, vk_R.of (hts _ (ts_sr _ q1)) (had _ q1).1⟩
  have hO2 : av_Ol2 (tP L xs) tXs tNc 69 τ A s := by
    refine ⟨fun w hw => ?_, ts_nc hnr, ⟨vx_Zqof (hts _ ts_w2) (hts _ ts_w5) (ts_us hnr) hA, vx_Zqof (hts _ ts_w3) (hts _ ts_w5) (ts_ss hnr) hA⟩, ⟨va_Zof (hts _ ts_w1) (hts _ ts_w4) (va_eqt (ts_cs hnr)) hA, va_Zqof (hts _ ts_w8) (hts _ ts_w9) (ts_fm hnr) hA⟩, fun i hi => (had i hi).2⟩
    obtain ⟨w1, w2⟩ := List.mem_filter.mp hw
    exact va_Nw.of (by cases w <;> first | rfl | cases w2) (hts w w1)
  have hfix : av_Fix (tP L xs) tK tTs tCl cy τ D A 7 (tmo 395) (av_ini (tP L xs) 395) code p room_1 s m #[Value.ref b] meth c :=
    ⟨⟨hx, hb, hml, hown⟩, hT, fun hi => absurd ((show av_ini tPz 395 = true from hi).symm.trans law_ini) (by decide), hK, fun q hq => hq, hOld, by decide, by decide⟩
  have hle := lv_entry (([.retAddr 0] : List Value).map (av_v (fun _ => 0) τ)) (n := 7) (Nat.le_of_ble_eq_true rfl)
  have W0 := sd_run (cy := cy) (τ := τ) (D := D) (A := A) (nt := 69) (ta_all L xs) hl (hStr cy τ D A) n 100 395 0 _ [] [] 0 0 _ h' c' s' hrun (by decide) p e s m #[Value.ref b] below meth c s.heap [] _ (fun _ => 0) (fun _ => 0) 0 room_1 ⟨by decide, by decide, hc, hs⟩ hfix hO2 hret hlocks htab
    ⟨fun _ _ => rfl, Nat.le_refl _, ⟨rfl, hle.1, hle.2.1, fun q hq => hle.2.2 q (by
      obtain ⟨v, hv, e1⟩ := av_lv_mem.mp hq
      obtain ⟨i, w⟩ := q
      obtain ⟨h1, h2⟩ := law_ent i v hv
      simp only at h1 e1
      rw [h1, e1, h2]
      exact List.mem_cons_self)⟩, (fun i v hv => by rw [(law_ent i v hv).2]; exact ⟨rfl, trivial⟩), (fun v hv => by cases hv), (fun v hv => by cases hv), (fun k q hk => by cases hk), ⟨(fun i j p q hi => by cases hi), (fun k q hk => by cases hk)⟩, va_S.rf⟩
  intro T hT1 X
  rw [lg_entry_eq]
  obtain ⟨t, a1, o, b1, b2, b3⟩ := W0 T hT1 X
  refine ⟨t, a1, o, b1, b2, ?_⟩
  rcases b3 with ⟨⟨σ', -, -, hv, -⟩, Lc, hF, hLc⟩ | ⟨q, -, E, ce, Lc, hx, -⟩
  · exact ⟨hv, ts_framed hF hLc hc hs⟩
  · exact hx.elim
