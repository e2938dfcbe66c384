/-! ===== ALL INSTRUCTIONS BUT CALLS, THROWS AND ENDS ===== -/
section SF
variable {P : av_P} {K : av_K} {Ts : List Cond} {cl : List vw_C} {cy τ : Nat → Nat} {D : va_G} {A : Nat → Prop} {σ0 σ : Nat → Nat} {n0 nL oc mi pc : Nat} {ini : Bool} {cc : ByteArray}
variable {p : Program} {l : Launch} {e : Env} {R : Room} {s : State} {m : MethodId} {args : Array Value} {below : List Frame} {meth : Method} {c : Code} {H : Heap} {locs : List Loc} {cells slots : Nat} {Q : State → Prop} {ls : Array Slot}
variable {L L' : av_L} {st st' : List Value} {h h' : av_H} {pc' cells' slots' : Nat}
theorem av_4 (cy : Nat → Nat) (t : Nat) (h : t < 4) : ∃ ty, (av_tys cy)[t]? = some (cy t, ty) := by
  rcases (show t = 0 ∨ t = 1 ∨ t = 2 ∨ t = 3 by omega) with rfl | rfl | rfl | rfl <;> exact ⟨_, rfl⟩
theorem sd_arr (hE : av_Env P K Ts cl) (hF : av_Fix P K Ts cl cy τ D A nL oc ini cc p R s m args meth c) (r : av_Rel cy τ D cl A s.heap σ0 n0 nL σ L st h ls H locs) {ins : Instr} {len ix : Nat}
    (hi : ins = .iaload ∨ ins = .baload ∨ ins = .laload ∨ ins = .aaload ∨ ins = .arraylength) (hok : av_ok K cl oc ini cc pc ins len ix = true)
    (hs : av_one P mi pc ins len L st h cells slots = some (.inl (pc', L', st', h', cells', slots'))) (kk : av_K1 cy τ D cl A σ0 n0 nL p l e R s m args below meth c Q pc' L' st' h' cells' slots') :
    W p l e R s m args below meth c H locs cells slots Q (F0 m pc ls (st.map (av_v σ τ))) := by
  obtain ⟨⟨hx, hb, hml, hown⟩, hts, hin, hK, hA, hOld, hR⟩ := hF
  have hP := r.2.2.2.2.2.2.1
  have hst := r.2.2.2.2.1
  rcases hi with rfl | rfl | rfl | rfl | rfl
  · simp only [av_ok, Bool.and_eq_true, decide_eq_true_eq] at hok
    obtain ⟨rfl, hd⟩ := hok
    simp only [av_one, av_iaload] at hs
    split at hs
    · next i a r0 =>
      split at hs
      · next n f ha =>
        split at hs
        · next hin1 =>
          cases hs
          exact va_iald (D := D) hx hb hK hP a 0 (av_ws_get ha) rfl (av_in_iff hin1) hd (kk σ ls H locs (r.stk (av_co trivial (av_tl (av_tl hst)))))
        · cases hs
      · cases hs
    · next i r0 =>
      split at hs
      · next hin1 =>
        cases hs
        exact va_sld (A := A) hx hb hOld.2.1.1 hOld.2.1.2.1 hOld.2.1.2.2 r.2.2.2.2.2.2.2.2 (av_in_iff hin1) hd (kk σ ls H locs (r.stk (av_co trivial (av_tl (av_tl hst)))))
      · cases hs
    · cases hs
  · simp only [av_ok, Bool.and_eq_true, decide_eq_true_eq] at hok
    obtain ⟨rfl, hd⟩ := hok
    simp only [av_one] at hs
    split at hs
    · next i a r0 =>
      split at hs
      · next n f ha =>
        split at hs
        · next hin1 =>
          cases hs
          exact va_bald (D := D) hx hb hK hP a 1 (av_ws_get ha) rfl (av_in_iff hin1) hd (kk σ ls H locs (r.stk (av_co trivial (av_tl (av_tl hst)))))
        · cases hs
      · cases hs
    · cases hs
  · simp only [av_ok, Bool.and_eq_true, decide_eq_true_eq] at hok
    obtain ⟨rfl, hd⟩ := hok
    simp only [av_one] at hs
    split at hs
    · next i a r0 =>
      split at hs
      · next n f ha =>
        split at hs
        · next hin1 =>
          cases hs
          exact va_lald (D := D) hx hb hK hP a 2 (av_ws_get ha) rfl (av_in_iff hin1) hd (kk σ ls H locs (r.stk (av_co trivial (av_tl (av_tl hst)))))
        · cases hs
      · cases hs
    · cases hs
  · simp only [av_ok, Bool.and_eq_true, decide_eq_true_eq] at hok
    obtain ⟨rfl, hd⟩ := hok
    simp only [av_one] at hs
    split at hs
    · next i a r0 =>
      split at hs
      · next n f ha =>
        split at hs
        · next hin1 =>
          cases hs
          have hwe := r.2.2.2.2.2.1 _ (List.mem_of_getElem? ha)
          have hwv : av_wv h.length (va_rf (f i.toNatClampNeg)) := by
            cases hj : f i.toNatClampNeg with
            | none => trivial
            | some b => exact hwe _ b hj
          have k1 := kk σ ls H locs (r.stk (av_co hwv (av_tl (av_tl hst))))
          rw [List.map_cons, av_v_rf] at k1
          exact va_aldq (D := D) hx hb hK hP a 3 (av_ws_get ha) rfl (av_in_iff hin1) hd k1
        · cases hs
      · cases hs
    · cases hs
  · simp only [av_ok, Bool.and_eq_true, decide_eq_true_eq] at hok
    obtain ⟨rfl, hd⟩ := hok
    simp only [av_one, av_alen] at hs
    split at hs
    · next a r0 =>
      split at hs
      · next t n x ha =>
        split at hs
        · next ht =>
          cases hs
          have hk1 := kk σ ls H locs (r.stk (av_co (v := .int (Int32.ofNat n)) trivial (av_tl hst)))
          have hw := av_ws_get (cy := cy) (σ := σ) (τ := τ) ha
          obtain ⟨ty, hty⟩ := av_4 cy t ht
          rcases x with f | f | f | f | f
          · exact va_alen (D := D) hx hb hK hP a t hw hty rfl hd hk1
          · exact va_alen (D := D) hx hb hK hP a t hw hty rfl hd hk1
          · exact va_alen (D := D) hx hb hK hP a t hw hty rfl hd hk1
          · exact va_alen (D := D) hx hb hK hP a t hw hty rfl hd hk1
          · exact va_alen (D := D) hx hb hK hP a t hw hty rfl hd hk1
        · cases hs
      · cases hs
    · next r0 =>
      cases hs
      exact va_slen (A := A) hx hb hOld.2.1.1 hOld.2.1.2.1 hOld.2.1.2.2 r.2.2.2.2.2.2.2.2 hd (kk σ ls H locs (r.stk (av_co trivial (av_tl hst))))
    · cases hs
theorem sd_ast (hE : av_Env P K Ts cl) (hF : av_Fix P K Ts cl cy τ D A nL oc ini cc p R s m args meth c) (r : av_Rel cy τ D cl A s.heap σ0 n0 nL σ L st h ls H locs) {ins : Instr} {len ix : Nat}
    (hi : ins = .iastore ∨ ins = .bastore ∨ ins = .lastore ∨ ins = .aastore) (hok : av_ok K cl oc ini cc pc ins len ix = true)
    (hs : av_one P mi pc ins len L st h cells slots = some (.inl (pc', L', st', h', cells', slots'))) (kk : av_K1 cy τ D cl A σ0 n0 nL p l e R s m args below meth c Q pc' L' st' h' cells' slots') :
    W p l e R s m args below meth c H locs cells slots Q (F0 m pc ls (st.map (av_v σ τ))) := by
  obtain ⟨⟨hx, hb, hml, hown⟩, hts, hin, hK, hA, hOld, hR⟩ := hF
  have hP := r.2.2.2.2.2.2.1
  have hD := r.2.2.2.2.2.2.2.1
  have hS := r.2.2.2.2.2.2.2.2
  have hst := r.2.2.2.2.1
  rcases hi with rfl | rfl | rfl | rfl
  · simp only [av_ok, Bool.and_eq_true, decide_eq_true_eq] at hok
    obtain ⟨rfl, hd⟩ := hok
    simp only [av_one] at hs
    split at hs
    · next x i a r0 =>
      split at hs
      · next n f ha =>
        split at hs
        · next hin1 =>
          cases hs
          exact va_iast (D := D) hx hb hK hP hD hS a 0 (av_ws_get ha) rfl (av_in_iff hin1) hd (fun H1 locs1 hP1 hD1 hS1 => kk σ ls H1 locs1 (r.cell (x := .inl (0, n, .inl (upd f i.toNatClampNeg x))) trivial (av_tl (av_tl (av_tl hst))) hP1 hD1 hS1))
        · cases hs
      · cases hs
    · cases hs
  · simp only [av_ok, Bool.and_eq_true, decide_eq_true_eq] at hok
    obtain ⟨rfl, hd⟩ := hok
    simp only [av_one] at hs
    split at hs
    · next x i a r0 =>
      split at hs
      · next n f ha =>
        split at hs
        · next hin1 =>
          cases hs
          exact va_bast (D := D) hx hb hK hP hD hS a 1 (av_ws_get ha) rfl (av_in_iff hin1) hd (fun H1 locs1 hP1 hD1 hS1 => kk σ ls H1 locs1 (r.cell (x := .inl (1, n, .inl (upd f i.toNatClampNeg (vp_nar .byte x)))) trivial (av_tl (av_tl (av_tl hst))) hP1 hD1 hS1))
        · cases hs
      · cases hs
    · cases hs
  · simp only [av_ok, Bool.and_eq_true, decide_eq_true_eq] at hok
    obtain ⟨rfl, hd⟩ := hok
    simp only [av_one] at hs
    split at hs
    · next x i a r0 =>
      split at hs
      · next n f ha =>
        split at hs
        · next hin1 =>
          cases hs
          exact va_last (D := D) hx hb hK hP hD hS a 2 (av_ws_get ha) rfl (av_in_iff hin1) hd (fun H1 locs1 hP1 hD1 hS1 => kk σ ls H1 locs1 (r.cell (x := .inl (2, n, .inr (.inl (vp_updL f i.toNatClampNeg x)))) trivial (av_tl (av_tl (av_tl hst))) hP1 hD1 hS1))
        · cases hs
      · cases hs
    · cases hs
  · simp only [av_ok, Bool.and_eq_true, decide_eq_true_eq] at hok
    obtain ⟨rfl, hd⟩ := hok
    simp only [av_one] at hs
    split at hs
    · next b i a r0 =>
      split at hs
      · next n f fs ha hb6 =>
        split at hs
        · next hin1 =>
          cases hs
          have h6 := hE.2.2.2.2.2.2.2.2.2.1
          obtain ⟨rc, hrc, hrn⟩ : ∃ rc, cl[6]? = some rc ∧ rc.1 = "SinglesPast$State" := by
            cases h9 : cl[6]? with
            | none => rw [h9] at h6; cases h6
            | some rc => rw [h9] at h6; exact ⟨rc, rfl, Option.some.inj h6⟩
          have hwe := r.2.2.2.2.2.1 _ (List.mem_of_getElem? ha)
          refine va_astq (D := D) (r := rc) hx hb hK hP hD hS a 3 b 6 (av_ws_get ha) (by rw [hrn]; rfl) (av_ws_get hb6) hrc (av_in_iff hin1) hd (fun H1 locs1 hP1 hD1 hS1 => kk σ ls H1 locs1 (r.cell (x := .inl (3, n, .inr (.inr (.inr (.inr (va_up f i.toNatClampNeg (some b))))))) (fun j z hz => ?_) (av_tl (av_tl (av_tl hst))) ?_ ?_ hS1))
          · simp only [va_up] at hz
            split at hz
            · cases hz; exact av_hd hst
            · exact hwe j z hz
          · have e1 : av_e cy σ τ (.inl (3, n, .inr (.inr (.inr (.inr (va_up f i.toNatClampNeg (some b))))))) = .inl (cy 3, n, .inr (.inr (.inr (.inr (va_up (fun j => (f j).map σ) i.toNatClampNeg (some (σ b))))))) := by
              simp only [av_e]
              congr 7
              funext j
              simp only [va_up]
              split <;> rfl
            rw [e1]; exact hP1
          · have e1 : av_e cy σ τ (.inl (3, n, .inr (.inr (.inr (.inr (va_up f i.toNatClampNeg (some b))))))) = .inl (cy 3, n, .inr (.inr (.inr (.inr (va_up (fun j => (f j).map σ) i.toNatClampNeg (some (σ b))))))) := by
              simp only [av_e]
              congr 7
              funext j
              simp only [va_up]
              split <;> rfl
            rw [e1]; exact hD1
        · cases hs
      · cases hs
    · cases hs
end SF
