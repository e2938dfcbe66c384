/-! ===== CALLS BY CONTRACT; THE WHOLE RUN ===== -/
def av_rm (d c s : Nat) : Room := { frames := d + 20, cells := c, slots := s, locals := 100 * d + 400 }
/-- what the tables say of the methods: nm of them, their classes' numbers (as the code's), their kinds (0 static, 1 of an object, 2 a constructor) -/
def av_EnvM (P : av_P) (K : av_K) (Ts Xs : List Cond) (cl : List vw_C) (nm : Nat) (mo mk : Nat → Nat) : Prop :=
  (∀ w ∈ Ts, goodWord w = true) ∧ (∀ w ∈ Xs, av_xw w = true) ∧
  (∀ mj, mj < nm → av_cw (av_me P mj) ∈ Ts ∧ plainName (av_me P mj).1.cls = true ∧ ((av_me P mj).1.cls ≠ "java/lang/invoke/MethodHandle" ∧ (av_me P mj).1.cls ≠ "java/lang/invoke/VarHandle") ∧ Cond.initialized (av_me P mj).1.cls ∈ Ts ∧ (av_me P mj).2.2.1 ≤ 80 ∧ (av_me P mj).2.2.2.2.1 ≤ (av_me P mj).2.2.1 ∧ av_cn K (mo mj) = (av_me P mj).1.cls) ∧
  (∀ mj, mj < nm → (mk mj = 0 → Cond.static (av_me P mj).1 ∈ Ts ∧ (parseMethodDescriptor (av_me P mj).1.desc).map (fun d => d.parameters.length) = some (av_me P mj).2.2.2.2.1) ∧
    (mk mj = 1 → Cond.instanceMethod (av_me P mj).1 ∈ Ts ∧ Cond.selects (av_me P mj).1.cls (av_me P mj).1 (av_me P mj).1 ∈ Ts ∧ (∃ n, (parseMethodDescriptor (av_me P mj).1.desc).map (fun d => d.parameters.length) = some n ∧ (av_me P mj).2.2.2.2.1 = n + 1) ∧ (av_me P mj).2.2.2.2.2.1 = [] ∧ cl[(av_me P mj).2.2.2.2.2.2.2.1]?.map (fun r => r.1) = some (av_me P mj).1.cls) ∧
    (mk mj = 2 → Cond.instanceMethod (av_me P mj).1 ∈ Ts ∧ (av_me P mj).1.name = "<init>" ∧ (∃ n, (parseMethodDescriptor (av_me P mj).1.desc).map (fun d => d.parameters.length) = some n ∧ (av_me P mj).2.2.2.2.1 = n + 1) ∧ (av_me P mj).2.2.2.2.2.1 = [] ∧ (av_me P mj).2.2.2.1 = none ∧ (av_me P mj).2.2.2.2.2.2.2.2 = false)) ∧
  (∀ q ∈ av_ml K, Cond.methodLink (av_cn K q.1) q.2.1 (av_me P q.2.2).1 ∈ Ts) ∧ ∀ q ∈ av_nl K, Cond.methodLinkNest (av_cn K q.1) q.2.1 (av_me P q.2.2).1 "SinglesPast" ∈ Xs ∧ (av_me P q.2.2).2.2.2.2.2.1 = [] ∧ (av_me P q.2.2).2.2.2.2.2.2.2.2 = false
theorem met_of {l : Launch} {y : MethodName} {ws : List Cond} {rm : Room} {Pc : Array Value → State → Prop} {Qc : Array Value → State → Outcome → State → Prop} {XC : String → State → State → Prop} {mc ms : Nat} {free : Addr → Prop} (h : vx_Met l y ws rm Pc Qc XC mc ms free) (hX : ∀ E st t, ¬ XC E st t) : Met l y ws rm Pc Qc mc ms free := by
  intro p e ha hc hk s m args below hf happ hP hK
  obtain ⟨n, o, h1, h2, h3, hQ⟩ := h p e ha hc hk s m args below hf happ hP hK
  refine ⟨n, o, h1, h2, h3, ?_⟩
  rcases hQ with hQ | ⟨q, -, E, ce, L, hx, -⟩
  · exact hQ
  · exact absurd hx (hX _ _ _)
section SK
variable {P : av_P} {K : av_K} {Ts Xs : List Cond} {Nc : List (String × String)} {nt nm : Nat} {mo mk : Nat → Nat} {I : av_I} {cl : List vw_C} {cy τ : Nat → Nat} {D : va_G} {A : Nat → Prop} {σ0 σ : Nat → Nat} {n0 nL oc mi pc : Nat} {ini : Bool} {cc : ByteArray}
variable {p : Program} {l : Launch} {e : Env} {R : Room} {s : State} {m : MethodId} {args : Array Value} {below : List Frame} {meth : Method} {c : Code} {H : Heap} {locs : List Loc} {cells slots : Nat} {Q : State → Prop} {ls : Array Slot}
variable {L L' : av_L} {st st' : List Value} {h h' : av_H} {pc' cells' slots' : Nat}
theorem av_pre (hF : av_Fix P K Ts cl cy τ D A nL oc ini cc p R s m args meth c) (hXs : ∀ w ∈ Xs, av_xw w = true) (hO2 : av_Ol2 P Xs Nc nt τ A s) (r : av_Rel cy τ D cl A s.heap σ0 n0 nL σ L st h ls H locs) {as : List Value} :
    ∀ U : State, U.heap = H → s.WarmedH U.vm → av_Pc P K Xs Nc nt cy τ D cl A σ h as (as.map (av_v σ τ)).toArray U := fun U hU hW => by
  obtain ⟨⟨hx, hb, hml, hown⟩, hts, hin, hK, hA, hOld, hR⟩ := hF
  obtain ⟨r1, r2, r3, r4, r5, r6, r7, r8, r9⟩ := r
  exact ⟨rfl, ⟨by rw [hU]; exact r7, va_K.moved hW.alike hK, r8, r6⟩, av_Old_go hOld hW (by rw [hU]; exact r9.1) (fun q h1 h2 => by rw [hU]; exact r9.2.1 q h1 h2), av_Ol2_go hXs hO2 hW (fun q h1 h2 => by rw [hU]; exact r9.2.1 q h1 h2), fun q hq => hA q (Nat.le_trans r9.1 (by rw [← hU]; exact hq))⟩
/-- a call, by the callee's contract -/
theorem sd_go (hM0 : av_EnvM P K Ts Xs cl nm mo mk) (hF : av_Fix P K Ts cl cy τ D A nL oc ini cc p R s m args meth c) (hO2 : av_Ol2 P Xs Nc nt τ A s) (r : av_Rel cy τ D cl A s.heap σ0 n0 nL σ L st h ls H locs) {ins : Instr} {mj len ix : Nat}
    (hi : ins = .invokestatic mj ∨ ins = .invokevirtual mj ∨ ins = .invokespecial mj) (hok : av_chk P K cl I nm mk oc mi ini cc pc ins len ix = true) {as rest : List Value} {mj' : Nat} (hs : av_one P mi pc ins len L st h cells slots = some (.inr (.inr (.inl (mj', as, rest)))))
    {d' c1 s1 : Nat} (hR : (av_rm d' c1 s1).frames + 1 ≤ R.frames ∧ (av_rm d' c1 s1).locals + 100 ≤ R.locals) {o : Option Value ⊕ String} {h1 : av_H} (hmt : ∀ E, o = .inr E → (av_me P mj).2.2.2.2.2.2.2.2 = true) (hf : cells + c1 ≤ R.cells ∧ slots + s1 ≤ R.slots)
    (hM : vx_Met l (av_me P mj).1 (av_cw (av_me P mj) :: Ts) (av_rm d' c1 s1) (av_Pc P K Xs Nc nt cy τ D cl A σ h as) (av_Qc cy τ D cl A σ h.length o h1) (av_Xc cy τ D cl A σ h.length o h1) c1 s1 A) :
    mj' = mj ∧ (∀ v ∈ rest, av_wv h.length v) ∧ vx_Run p l e R s m args below meth c H locs cells slots c1 s1 (F0 m pc ls (st.map (av_v σ τ))) (rest.map (av_v σ τ)) (av_Qc cy τ D cl A σ h.length o h1 (as.map (av_v σ τ)).toArray) (av_Xc cy τ D cl A σ h.length o h1) A := by
  have hpre := av_pre (as := as) hF hM0.2.1 hO2 r
  obtain ⟨⟨hx, hb, hml, hown⟩, hts, hin, hK, hA, hOld, hR0⟩ := hF
  have hbl : FrameBlind (av_Pc P K Xs Nc nt cy τ D cl A σ h as) := av_Pc_blind hM0.2.1
  have hsize : ls.size = nL := r.2.2.1.2.1
  -- what all three kinds share
  have key : mj < nm → (mj' = mj ∧ (av_me P mj).2.2.2.2.1 ≤ st.length ∧ ((st.drop (av_me P mj).2.2.2.2.1).map fun v => v.category).sum ≤ 8 ∧ (st.take (av_me P mj).2.2.2.2.1).reverse = as ∧ st.drop (av_me P mj).2.2.2.2.1 = rest) →
      (as.map (av_v σ τ)).length = (av_me P mj).2.2.2.2.1 ∧ st.map (av_v σ τ) = (as.map (av_v σ τ)).reverse ++ rest.map (av_v σ τ) ∧ 2 * (F0 m pc ls (st.map (av_v σ τ))).monitorRoom + ((rest.map (av_v σ τ)).map fun v => v.category).sum ≤ 8 ∧ (∀ v ∈ rest, av_wv h.length v) ∧
      GoodIn Ts (av_cw (av_me P mj) :: Ts) ∧ (av_rm d' c1 s1).frames + 1 ≤ R.frames ∧ 8 + ((av_me P mj).2.2.1 + 11) + (av_rm d' c1 s1).locals ≤ R.locals := fun hlt hz => by
    obtain ⟨-, z1, z2, rfl, rfl⟩ := hz
    obtain ⟨m1, -, -, -, m5, -, -⟩ := hM0.2.2.1 mj hlt
    refine ⟨by simp [z1], ?_, lv_room (by rw [av_cats]; exact z2), fun v hv => r.2.2.2.2.1 v (List.mem_of_mem_drop hv), fun w hw => ?_, hR.1, by omega⟩
    · rw [List.map_reverse, List.reverse_reverse, ← List.map_append, List.take_append_drop]
    · rcases List.mem_cons.mp hw with e1 | e1
      · rw [e1]; exact ⟨m1, good_of_word (hM0.1 _ m1)⟩
      · exact ⟨e1, good_of_word (hM0.1 _ e1)⟩
  have hsig : ∀ n, (parseMethodDescriptor (av_me P mj).1.desc).map (fun d => d.parameters.length) = some n → ∀ sig, parseMethodDescriptor (av_me P mj).1.desc = some sig → n = sig.parameters.length := fun n hn sig hs => by
    rw [hs] at hn
    exact (Option.some.inj hn).symm
  have hinl : (av_me P mj).2.2.2.2.2.2.2.2 = false → ∀ E st t, ¬ av_Xc cy τ D cl A σ h.length o h1 E st t := fun hf0 E st t hz => by
    rcases o with v | E0
    · exact hz
    · have := hmt E0 rfl
      rw [hf0] at this
      cases this
  rcases hi with rfl | rfl | rfl
  · -- static
    simp only [av_one] at hs
    split at hs
    · next hz =>
      cases hs
      simp only [av_chk, Bool.and_eq_true, Bool.or_eq_true, decide_eq_true_eq] at hok
      obtain ⟨⟨⟨⟨hlt, hk0⟩, rfl⟩, hd⟩, hlk⟩ := hok
      obtain ⟨a1, a2, a3, a4, a5, a6, a7⟩ := key hlt ⟨rfl, hz.1, hz.2.1, rfl, rfl⟩
      obtain ⟨m1, m2, m3, m4, m5, m6, m7⟩ := hM0.2.2.1 mj hlt
      obtain ⟨k1, k2⟩ := (hM0.2.2.2.1 mj hlt).1 hk0
      refine ⟨rfl, a4, ?_⟩
      by_cases hh : (av_me P mj).2.2.2.2.2.1 = []
      · have hcw : av_cw (av_me P mj) = .code (av_me P mj).1 (av_me P mj).2.1 (av_me P mj).2.2.1 (av_me P mj).2.2.2.1 := by simp only [av_cw, hh]
        rw [hcw] at hM a5 m1
        rcases hlk with hlk | hlk
        · exact vx_runS (n := (av_me P mj).2.2.2.2.1) (bytes := (av_me P mj).2.1) (maxL := (av_me P mj).2.2.1) (ret := (av_me P mj).2.2.2.1) ⟨hx, hb, hml, hown, hts⟩ hM ⟨⟨rfl, rfl, a6, a7, pay_in hts a5, List.mem_cons_self, hts _ m1, hts _ m4, m3, hsig _ k2, hts _ (hM0.2.2.2.2.1 _ hlk)⟩, hts _ k1⟩ ⟨hbl, hpre⟩ rfl a1 hsize a2 a3 hd hf
        · obtain ⟨w1, w2, w3⟩ := hM0.2.2.2.2.2 _ hlk
          intro T hT X
          exact Or.inl (va_runSN (n := (av_me P mj).2.2.2.2.1) (bytes := (av_me P mj).2.1) (maxL := (av_me P mj).2.2.1) (ret := (av_me P mj).2.2.2.1) (host := "SinglesPast") ⟨hx, hb, hml, hown, hts⟩ (met_of hM (hinl w3)) ⟨⟨⟨rfl, rfl, a6, a7, pay_in hts a5, List.mem_cons_self⟩, hts _ m1, hts _ m4, m3, hsig _ k2, va_Nw.use rfl (hO2.1 _ w1)⟩, hts _ k1, trivial⟩ ⟨hbl, hpre⟩ rfl a1 hsize a2 a3 hd hf T hT X)
      · obtain ⟨q0, qs, hq⟩ : ∃ q0 qs, (av_me P mj).2.2.2.2.2.1 = q0 :: qs := by
          cases hq : (av_me P mj).2.2.2.2.2.1 with
          | nil => exact absurd hq hh
          | cons q0 qs => exact ⟨q0, qs, rfl⟩
        have hcw : av_cw (av_me P mj) = .codeWith (av_me P mj).1 (av_me P mj).2.1 (av_me P mj).2.2.1 (av_me P mj).2.2.2.1 (q0 :: qs) := by simp only [av_cw, hq]
        rw [hcw] at hM a5 m1
        rcases hlk with hlk | hlk
        · exact vx_runSX (n := (av_me P mj).2.2.2.2.1) (bytes := (av_me P mj).2.1) (maxL := (av_me P mj).2.2.1) (ret := (av_me P mj).2.2.2.1) (hh := q0 :: qs) ⟨hx, hb, hml, hown, hts⟩ hM ⟨⟨rfl, rfl, a6, a7, pay_in hts a5, List.mem_cons_self⟩, hts _ m1, hts _ m4, m3, hsig _ k2, hts _ (hM0.2.2.2.2.1 _ hlk), hts _ k1⟩ ⟨hbl, hpre⟩ rfl a1 hsize a2 a3 hd hf
        · exact absurd (hM0.2.2.2.2.2 _ hlk).2.1 hh
    · cases hs
  · -- of an object
    simp only [av_one] at hs
    split at hs
    · next hz =>
      cases hs
      simp only [av_chk, Bool.and_eq_true, decide_eq_true_eq] at hok
      obtain ⟨⟨⟨⟨hlt, hk0⟩, rfl⟩, hd⟩, hlk⟩ := hok
      obtain ⟨a1, a2, a3, a4, a5, a6, a7⟩ := key hlt ⟨rfl, hz.1, hz.2.1, rfl, rfl⟩
      obtain ⟨m1, m2, m3, m4, m5, m6, m7⟩ := hM0.2.2.1 mj hlt
      obtain ⟨k1, k2, ⟨n, kn, kn1⟩, kh, kc⟩ := (hM0.2.2.2.1 mj hlt).2.1 hk0
      refine ⟨rfl, a4, ?_⟩
      have hcw : av_cw (av_me P mj) = .code (av_me P mj).1 (av_me P mj).2.1 (av_me P mj).2.2.1 (av_me P mj).2.2.2.1 := by simp only [av_cw, kh]
      rw [hcw] at hM a5 m1
      have hrv := hz.2.2.2
      unfold av_rcv at hrv
      split at hrv
      · next b tl hb0 =>
        split at hrv
        · next k fs hk =>
          simp only [decide_eq_true_eq] at hrv
          subst hrv
          rw [hb0] at hpre a1 a2 hM
          obtain ⟨rc, hrc, hrn⟩ : ∃ rc, cl[(av_me P mj).2.2.2.2.2.2.2.1]? = some rc ∧ rc.1 = (av_me P mj).1.cls := by
            cases h9 : cl[(av_me P mj).2.2.2.2.2.2.2.1]? with
            | none => rw [h9] at kc; cases kc
            | some rc => rw [h9] at kc; exact ⟨rc, rfl, Option.some.inj kc⟩
          have hrecv := va_recv hK r.2.2.2.2.2.2.1 hrc (av_ws_get (cy := cy) (σ := σ) (τ := τ) hk)
          rw [hrn] at hrecv
          rw [hb0]
          have hbl' : FrameBlind (av_Pc P K Xs Nc nt cy τ D cl A σ h (Value.ref b :: tl)) := av_Pc_blind hM0.2.1
          exact vx_runV (n := n) (C := (av_me P mj).1.cls) (b := σ b) (As := tl.map (av_v σ τ)) (bytes := (av_me P mj).2.1) (maxL := (av_me P mj).2.2.1) (ret := (av_me P mj).2.2.2.1) ⟨hx, hb, hml, hown, hts⟩ hM ⟨⟨rfl, rfl, a6, a7, pay_in hts a5, List.mem_cons_self, hts _ m1, hts _ m4, m3, hsig _ kn, hts _ (hM0.2.2.2.2.1 _ hlk)⟩, hts _ k1, hts _ k2⟩ ⟨hbl', hrecv, hpre⟩ rfl (by simp only [List.map_cons, List.length_cons] at a1; omega) hsize (by rw [a2]; simp [av_v]) a3 hd hf
        · cases hrv
      · cases hrv
    · cases hs
  · -- a constructor
    simp only [av_one] at hs
    split at hs
    · next hz =>
      cases hs
      simp only [av_chk, Bool.and_eq_true, Bool.or_eq_true, decide_eq_true_eq] at hok
      obtain ⟨⟨⟨⟨hlt, hk0⟩, rfl⟩, hd⟩, hlk⟩ := hok
      obtain ⟨a1, a2, a3, a4, a5, a6, a7⟩ := key hlt ⟨rfl, hz.1, hz.2.1, rfl, rfl⟩
      obtain ⟨m1, m2, m3, m4, m5, m6, m7⟩ := hM0.2.2.1 mj hlt
      obtain ⟨k1, k2, ⟨n, kn, kn1⟩, kh, kr, kt⟩ := (hM0.2.2.2.1 mj hlt).2.2 hk0
      refine ⟨rfl, a4, ?_⟩
      have hcw : av_cw (av_me P mj) = .code (av_me P mj).1 (av_me P mj).2.1 (av_me P mj).2.2.1 none := by simp only [av_cw, kh, kr]
      rw [hcw] at hM a5 m1
      have hrv := hz.2.2.2
      unfold av_isr at hrv
      split at hrv
      · next b tl hb0 =>
        rw [hb0] at hpre a1 a2 hM
        rw [hb0]
        have hbl' : FrameBlind (av_Pc P K Xs Nc nt cy τ D cl A σ h (Value.ref b :: tl)) := av_Pc_blind hM0.2.1
        have hlen : (tl.map (av_v σ τ)).length = n := by simp only [List.map_cons, List.length_cons] at a1; omega
        have hstk : (F0 m pc ls (st.map (av_v σ τ))).stack = (tl.map (av_v σ τ)).reverse ++ .ref (σ b) :: (st.drop (av_me P mj).2.2.2.2.1).map (av_v σ τ) := by rw [show (F0 m pc ls (st.map (av_v σ τ))).stack = st.map (av_v σ τ) from rfl, a2]; simp [av_v]
        intro T hT X
        rcases hlk with hlk | hlk
        · exact Or.inl (va_runI (n := n) (b := σ b) (As := tl.map (av_v σ τ)) (bytes := (av_me P mj).2.1) (maxL := (av_me P mj).2.2.1) ⟨hx, hb, hml, hown, hts⟩ (met_of hM (hinl kt)) ⟨⟨rfl, rfl, a6, a7, pay_in hts a5, List.mem_cons_self, hts _ m1, hts _ m4, m3, hsig _ kn, hts _ (hM0.2.2.2.2.1 _ hlk)⟩, k2, hts _ k1⟩ ⟨hbl', hpre⟩ rfl hlen hsize hstk a3 hd hf T hT X)
        · exact Or.inl (va_runIN (n := n) (b := σ b) (As := tl.map (av_v σ τ)) (bytes := (av_me P mj).2.1) (maxL := (av_me P mj).2.2.1) (host := "SinglesPast") ⟨hx, hb, hml, hown, hts⟩ (met_of hM (hinl kt)) ⟨⟨⟨rfl, rfl, a6, a7, pay_in hts a5, List.mem_cons_self⟩, hts _ m1, hts _ m4, m3, hsig _ kn, va_Nw.use rfl (hO2.1 _ (hM0.2.2.2.2.2 _ hlk).1)⟩, k2, hts _ k1⟩ ⟨hbl', hpre⟩ rfl hlen hsize hstk a3 hd hf T hT X)
      · cases hrv
    · cases hs
end SK
