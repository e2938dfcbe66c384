section SH
variable {P : av_P} {K : av_K} {Ts : List Cond} {cl : List vw_C} {cy τ : Nat → Nat} {D : va_G} {A : Nat → Prop} {σ0 σ : Nat → Nat} {n0 nL oc mi pc : Nat} {ini : Bool} {cc : ByteArray}
variable {p : Program} {l : Launch} {e : Env} {R : Room} {s : State} {m : MethodId} {args : Array Value} {below : List Frame} {meth : Method} {c : Code} {H : Heap} {locs : List Loc} {cells slots : Nat} {Q : State → Prop} {ls : Array Slot}
variable {L L' : av_L} {st st' : List Value} {h h' : av_H} {pc' cells' slots' : Nat}
set_option maxHeartbeats 4000000 in
/-- one instruction (no call, no throw, no end) -/
theorem sd_one (hE : av_Env P K Ts cl) (hF : av_Fix P K Ts cl cy τ D A nL oc ini cc p R s m args meth c) (hStr : av_Str P K τ A oc cc p l e R s m args below meth c Q nL) (r : av_Rel cy τ D cl A s.heap σ0 n0 nL σ L st h ls H locs) {ins : Instr} {len ix : Nat} (hok : av_ok K cl oc ini cc pc ins len ix = true)
    (hs : av_one P mi pc ins len L st h cells slots = some (.inl (pc', L', st', h', cells', slots'))) (hc1 : cells' ≤ R.cells) (hs1 : slots' ≤ R.slots) (kk : av_K1 cy τ D cl A σ0 n0 nL p l e R s m args below meth c Q pc' L' st' h' cells' slots') :
    W p l e R s m args below meth c H locs cells slots Q (F0 m pc ls (st.map (av_v σ τ))) := by
  have hF0 := hF
  obtain ⟨⟨hx, hb, hml, hown⟩, hts, hin, hK, hA, hOld, hR⟩ := hF
  have hst := r.2.2.2.2.1
  have hlh := r.2.2.1.2
  cases ins with
  | sipush v =>
    simp only [av_one] at hs
    cases hs
    refine sd_ld (v := .int (Int32.ofInt v)) r trivial kk (fun k1 => ?_)
    simp only [av_ok, Bool.or_eq_true, Bool.and_eq_true, decide_eq_true_eq] at hok
    rcases hok with (((⟨rfl, hd⟩ | ⟨⟨rfl, hd⟩, hv⟩) | ⟨⟨rfl, hd⟩, hv⟩) | ⟨⟨rfl, hd⟩, hm⟩) | ⟨⟨rfl, hd⟩, hm⟩
    · exact lv_iconst hx hb hd rfl k1
    · exact lv_bipush hx hb hd hv k1
    · exact lv_sipush hx hb hd hv k1
    · exact lv_ldc hx hb hown (hts _ (hE.2.2.1 _ hm)) hd k1
    · exact lv_ldcw hx hb hown (hts _ (hE.2.2.1 _ hm)) hd k1
  | lconst n =>
    simp only [av_one] at hs
    cases hs
    simp only [av_ok, Bool.and_eq_true, decide_eq_true_eq] at hok
    obtain ⟨rfl, hd⟩ := hok
    exact sd_ld (v := .long (Int64.ofNat (n : Nat))) r trivial kk (fun k1 => lv_lconst hx hb hd rfl k1)
  | ldc i =>
    simp only [av_one] at hs
    cases hs
    simp only [av_ok, Bool.or_eq_true, Bool.and_eq_true, decide_eq_true_eq] at hok
    obtain ⟨hd2, hm⟩ := hok
    obtain ⟨tx, hZ⟩ := hOld.1 _ hm
    rcases hd2 with ⟨rfl, hd⟩ | ⟨rfl, hd⟩
    · exact sd_ld (v := .retAddr (i + 1)) r trivial kk (fun k1 => va_ldcS hx hb hown hZ hd k1)
    · exact sd_ld (v := .retAddr (i + 1)) r trivial kk (fun k1 => sd_ldcw hx hb hown hZ hd k1)
  | iload i =>
    simp only [av_one] at hs
    split at hs
    · next x hv =>
      cases hs
      refine sd_ld (v := .int x) r trivial kk (fun k1 => ?_)
      simp only [av_ok, Bool.or_eq_true, Bool.and_eq_true, decide_eq_true_eq] at hok
      rcases hok with ⟨rfl, hd⟩ | ⟨⟨rfl, hi⟩, hd⟩
      · exact lv_iload hx hb hd (av_get r hv) k1
      · exact lv_iload_n hx hb hd (Nat.mod_eq_of_lt hi) (av_get r hv) k1
    · cases hs
  | aload i =>
    simp only [av_one] at hs
    split at hs
    · next x hv =>
      cases hs
      refine sd_ld (v := .ref x) r (r.2.2.2.1 _ _ hv).2 kk (fun k1 => ?_)
      simp only [av_ok, Bool.or_eq_true, Bool.and_eq_true, decide_eq_true_eq] at hok
      rcases hok with ⟨rfl, hd⟩ | ⟨⟨rfl, hi⟩, hd⟩
      · exact lv_aload hx hb hd (av_get r hv) k1
      · exact lv_aload_n hx hb hd (Nat.mod_eq_of_lt hi) (av_get r hv) k1
    · next x hv =>
      cases hs
      refine sd_ld (v := .retAddr x) r trivial kk (fun k1 => ?_)
      simp only [av_ok, Bool.or_eq_true, Bool.and_eq_true, decide_eq_true_eq] at hok
      rcases hok with ⟨rfl, hd⟩ | ⟨⟨rfl, hi⟩, hd⟩
      · exact lv_aload hx hb hd (av_get r hv) k1
      · exact lv_aload_n hx hb hd (Nat.mod_eq_of_lt hi) (av_get r hv) k1
    · cases hs
  | istore i =>
    simp only [av_one] at hs
    split at hs
    · next x r0 =>
      split at hs
      · next hi1 =>
        cases hs
        rw [r.2.2.1.1] at hi1
        simp only [av_ok, Bool.or_eq_true, Bool.and_eq_true, decide_eq_true_eq] at hok
        rcases hok with ⟨rfl, hd⟩ | ⟨⟨rfl, hi⟩, hd⟩
        · exact lv_istore hx hb hd hlh hi1 rfl (fun ls' hl => kk σ ls' H locs (r.store (v := .int x) rfl trivial (av_tl hst) hl))
        · exact lv_istore_n hx hb hd (Nat.mod_eq_of_lt hi) hlh hi1 rfl (fun ls' hl => kk σ ls' H locs (r.store (v := .int x) rfl trivial (av_tl hst) hl))
      · cases hs
    · cases hs
  | astore i =>
    simp only [av_one] at hs
    split at hs
    · next x r0 =>
      split at hs
      · next hi1 =>
        cases hs
        rw [r.2.2.1.1] at hi1
        simp only [av_ok, Bool.or_eq_true, Bool.and_eq_true, decide_eq_true_eq] at hok
        rcases hok with ⟨rfl, hd⟩ | ⟨⟨rfl, hi⟩, hd⟩
        · exact lv_astore hx hb hd hlh hi1 rfl (fun ls' hl => kk σ ls' H locs (r.store (v := .ref x) rfl (av_hd hst) (av_tl hst) hl))
        · exact lv_astore_n hx hb hd (Nat.mod_eq_of_lt hi) hlh hi1 rfl (fun ls' hl => kk σ ls' H locs (r.store (v := .ref x) rfl (av_hd hst) (av_tl hst) hl))
      · cases hs
    · next x r0 =>
      split at hs
      · next hi1 =>
        cases hs
        rw [r.2.2.1.1] at hi1
        simp only [av_ok, Bool.or_eq_true, Bool.and_eq_true, decide_eq_true_eq] at hok
        rcases hok with ⟨rfl, hd⟩ | ⟨⟨rfl, hi⟩, hd⟩
        · exact lv_astore hx hb hd hlh hi1 rfl (fun ls' hl => kk σ ls' H locs (r.store (v := .retAddr x) rfl trivial (av_tl hst) hl))
        · exact lv_astore_n hx hb hd (Nat.mod_eq_of_lt hi) hlh hi1 rfl (fun ls' hl => kk σ ls' H locs (r.store (v := .retAddr x) rfl trivial (av_tl hst) hl))
      · cases hs
    · cases hs
  | iinc i n =>
    simp only [av_one] at hs
    split at hs
    · next x hv =>
      cases hs
      simp only [av_ok, Bool.and_eq_true, decide_eq_true_eq] at hok
      obtain ⟨rfl, hd⟩ := hok
      have hi1 : i < nL := by rw [← r.2.2.1.1]; exact (List.getElem?_eq_some_iff.mp hv).1
      obtain ⟨k, hk⟩ := List.getElem?_of_mem (av_lv_mem (σ := σ) (τ := τ) (q := (i, .int x)).mpr ⟨.int x, hv, rfl⟩)
      exact lv_iinc hx hb hd hlh hk rfl hi1 rfl (fun ls' hl => kk σ ls' H locs (r.store (v := .int (x + Int32.ofInt n)) rfl trivial hst hl))
    · cases hs
  | dup =>
    simp only [av_one] at hs
    split at hs
    · next v r0 =>
      split at hs
      · next hv =>
        cases hs
        simp only [av_ok, Bool.and_eq_true, decide_eq_true_eq] at hok
        obtain ⟨rfl, hd⟩ := hok
        exact lv_dup hx hb hd (by rw [av_v_cat]; exact hv) (kk σ ls H locs (r.stk (av_co (av_hd hst) hst)))
      · cases hs
    · cases hs
  | dup2 =>
    simp only [av_one] at hs
    split at hs
    · next v w r0 =>
      split at hs
      · next hv =>
        cases hs
        simp only [av_ok, Bool.and_eq_true, decide_eq_true_eq] at hok
        obtain ⟨rfl, hd⟩ := hok
        exact lv_dup2_11 hx hb hd (by rw [av_v_cat]; exact hv.1) (by rw [av_v_cat]; exact hv.2) (kk σ ls H locs (r.stk (av_co (av_hd hst) (av_co (av_hd (av_tl hst)) hst))))
      · cases hs
    · cases hs
  | pop =>
    simp only [av_one] at hs
    split at hs
    · next v r0 =>
      split at hs
      · next hv =>
        cases hs
        simp only [av_ok, Bool.and_eq_true, decide_eq_true_eq] at hok
        obtain ⟨rfl, hd⟩ := hok
        exact lv_pop hx hb hd (by rw [av_v_cat]; exact hv) (kk σ ls H locs (r.stk (av_tl hst)))
      · cases hs
    · cases hs
  | iadd =>
    simp only [av_ok, Bool.and_eq_true, decide_eq_true_eq] at hok
    obtain ⟨rfl, hd⟩ := hok
    simp only [av_one] at hs
    exact sd_bin r hs kk (fun x y z rest hz k1 => by cases hz; exact lv_iadd hx hb hd k1)
  | isub =>
    simp only [av_ok, Bool.and_eq_true, decide_eq_true_eq] at hok
    obtain ⟨rfl, hd⟩ := hok
    simp only [av_one] at hs
    exact sd_bin r hs kk (fun x y z rest hz k1 => by cases hz; exact lv_isub hx hb hd k1)
  | imul =>
    simp only [av_ok, Bool.and_eq_true, decide_eq_true_eq] at hok
    obtain ⟨rfl, hd⟩ := hok
    simp only [av_one] at hs
    exact sd_bin r hs kk (fun x y z rest hz k1 => by cases hz; exact lv_imul hx hb hd k1)
  | idiv =>
    simp only [av_ok, Bool.and_eq_true, decide_eq_true_eq] at hok
    obtain ⟨rfl, hd⟩ := hok
    simp only [av_one] at hs
    refine sd_bin r hs kk (fun x y z rest hz k1 => ?_)
    split at hz
    · cases hz
    · next hy => cases hz; exact lv_idiv hx hb hd hy k1
  | irem =>
    simp only [av_ok, Bool.and_eq_true, decide_eq_true_eq] at hok
    obtain ⟨rfl, hd⟩ := hok
    simp only [av_one] at hs
    refine sd_bin r hs kk (fun x y z rest hz k1 => ?_)
    split at hz
    · cases hz
    · next hy => cases hz; exact lv_irem hx hb hd hy k1
  | iand =>
    simp only [av_ok, Bool.and_eq_true, decide_eq_true_eq] at hok
    obtain ⟨rfl, hd⟩ := hok
    simp only [av_one] at hs
    exact sd_bin r hs kk (fun x y z rest hz k1 => by cases hz; exact lv_iand hx hb hd k1)
  | ior =>
    simp only [av_ok, Bool.and_eq_true, decide_eq_true_eq] at hok
    obtain ⟨rfl, hd⟩ := hok
    simp only [av_one] at hs
    exact sd_bin r hs kk (fun x y z rest hz k1 => by cases hz; exact lv_ior hx hb hd k1)
  | ixor =>
    simp only [av_ok, Bool.and_eq_true, decide_eq_true_eq] at hok
    obtain ⟨rfl, hd⟩ := hok
    simp only [av_one] at hs
    exact sd_bin r hs kk (fun x y z rest hz k1 => by cases hz; exact lv_ixor hx hb hd k1)
  | ishl =>
    simp only [av_ok, Bool.and_eq_true, decide_eq_true_eq] at hok
    obtain ⟨rfl, hd⟩ := hok
    simp only [av_one] at hs
    exact sd_bin r hs kk (fun x y z rest hz k1 => by cases hz; exact lv_ishl hx hb hd k1)
  | ishr =>
    simp only [av_ok, Bool.and_eq_true, decide_eq_true_eq] at hok
    obtain ⟨rfl, hd⟩ := hok
    simp only [av_one] at hs
    exact sd_bin r hs kk (fun x y z rest hz k1 => by cases hz; exact lv_ishr hx hb hd k1)
  | iushr =>
    simp only [av_ok, Bool.and_eq_true, decide_eq_true_eq] at hok
    obtain ⟨rfl, hd⟩ := hok
    simp only [av_one] at hs
    exact sd_bin r hs kk (fun x y z rest hz k1 => by cases hz; exact lv_iushr hx hb hd rfl k1)
  | i2l =>
    simp only [av_one] at hs
    split at hs
    · cases hs
      simp only [av_ok, Bool.and_eq_true, decide_eq_true_eq] at hok
      obtain ⟨rfl, hd⟩ := hok
      exact lv_i2l hx hb hd rfl (kk σ ls H locs (r.stk (av_co trivial (av_tl hst))))
    · cases hs
  | i2b =>
    simp only [av_one] at hs
    split at hs
    · cases hs
      simp only [av_ok, Bool.and_eq_true, decide_eq_true_eq] at hok
      obtain ⟨rfl, hd⟩ := hok
      exact lv_i2b hx hb hd rfl (kk σ ls H locs (r.stk (av_co trivial (av_tl hst))))
    · cases hs
  | lcmp =>
    simp only [av_one] at hs
    split at hs
    · cases hs
      simp only [av_ok, Bool.and_eq_true, decide_eq_true_eq] at hok
      obtain ⟨rfl, hd⟩ := hok
      exact W.lcmp hx hb hd (kk σ ls H locs (r.stk (av_co trivial (av_tl (av_tl hst)))))
    · cases hs
  | if_icmp k t =>
    simp only [av_one] at hs
    simp only [av_ok, Bool.and_eq_true, decide_eq_true_eq] at hok
    obtain ⟨⟨rfl, ht⟩, hd⟩ := hok
    split at hs
    · next y x r0 =>
      refine sd_icmp hx hb ht hd (fun hz => ?_) (fun hz => ?_)
      · rw [if_pos hz] at hs
        simp only [av_goto] at hs
        cases hs
        exact kk σ ls H locs (r.stk (av_tl (av_tl hst)))
      · rw [if_neg hz] at hs
        cases hs
        exact kk σ ls H locs (r.stk (av_tl (av_tl hst)))
    · cases hs
  | ifCond k t =>
    simp only [av_one] at hs
    simp only [av_ok, Bool.and_eq_true, decide_eq_true_eq] at hok
    obtain ⟨⟨rfl, ht⟩, hd⟩ := hok
    split at hs
    · next x r0 =>
      refine sd_if hx hb ht hd (fun hz => ?_) (fun hz => ?_)
      · rw [if_pos hz] at hs
        simp only [av_goto] at hs
        cases hs
        exact kk σ ls H locs (r.stk (av_tl hst))
      · rw [if_neg hz] at hs
        cases hs
        exact kk σ ls H locs (r.stk (av_tl hst))
    · cases hs
  | ifnonnull t =>
    simp only [av_one] at hs
    simp only [av_ok, Bool.and_eq_true, decide_eq_true_eq] at hok
    obtain ⟨⟨rfl, ht⟩, hd⟩ := hok
    split at hs
    · next a r0 =>
      simp only [av_goto] at hs
      cases hs
      exact lv_ifnonnull hx hb hd (by omega) (kk σ ls H locs (r.stk (av_tl hst)))
    · next r0 =>
      cases hs
      exact lv_ifnonnullN hx hb hd (kk σ ls H locs (r.stk (av_tl hst)))
    · cases hs
  | goto t =>
    simp only [av_one, av_goto] at hs
    simp only [av_ok, Bool.and_eq_true, decide_eq_true_eq] at hok
    obtain ⟨⟨rfl, ht⟩, hd⟩ := hok
    cases hs
    exact lv_goto hx hb hd (by omega) (kk σ ls H locs r)
  | tableswitch d lo hi ts =>
    simp only [av_one] at hs
    simp only [av_ok, Bool.and_eq_true, decide_eq_true_eq] at hok
    obtain ⟨⟨h0, hts1⟩, hd⟩ := hok
    split at hs
    · next x r0 =>
      split at hs
      · next hz =>
        simp only [av_goto] at hs
        cases hs
        exact lv_tableOut hx hb hd hz (by omega) (kk σ ls H locs (r.stk (av_tl hst)))
      · next hz =>
        split at hs
        · next t htt =>
          simp only [av_goto] at hs
          cases hs
          have h1 : 0 ≤ t := by
            have h2 := Array.all_eq_true'.mp hts1 t (Array.mem_of_getElem? htt)
            simpa using h2
          exact lv_tableIn (off := t - pc) hx hb hd (fun q => hz (Or.inl q)) (fun q => hz (Or.inr q)) (by rw [Array.getElem?_map, htt]; rfl) (by omega) (kk σ ls H locs (r.stk (av_tl hst)))
        · cases hs
    · cases hs
  | getfield q => exact sd_field hE hF0 r hok hs kk
  | putfield q => exact sd_put hE hF0 r hok hs kk
  | iaload => exact sd_arr hE hF0 r (Or.inl rfl) hok hs kk
  | baload => exact sd_arr hE hF0 r (Or.inr (Or.inl rfl)) hok hs kk
  | laload => exact sd_arr hE hF0 r (Or.inr (Or.inr (Or.inl rfl))) hok hs kk
  | aaload => exact sd_arr hE hF0 r (Or.inr (Or.inr (Or.inr (Or.inl rfl)))) hok hs kk
  | arraylength => exact sd_arr hE hF0 r (Or.inr (Or.inr (Or.inr (Or.inr rfl)))) hok hs kk
  | iastore => exact sd_ast hE hF0 r (Or.inl rfl) hok hs kk
  | bastore => exact sd_ast hE hF0 r (Or.inr (Or.inl rfl)) hok hs kk
  | lastore => exact sd_ast hE hF0 r (Or.inr (Or.inr (Or.inl rfl))) hok hs kk
  | aastore => exact sd_ast hE hF0 r (Or.inr (Or.inr (Or.inr rfl))) hok hs kk
  | newarray k => exact sd_newa hE hF0 r hok hs hc1 hs1 kk
  | anewarray k => exact sd_newr hE hF0 r hok hs hc1 hs1 kk
  | new ci => exact sd_new hE hF0 r hok hs hc1 hs1 kk
  | monitorenter =>
    simp only [av_one] at hs
    simp only [av_ok, Bool.and_eq_true, decide_eq_true_eq] at hok
    obtain ⟨⟨rfl, hd⟩, hm⟩ := hok
    split at hs
    · next a r0 =>
      split at hs
      · next h8 =>
        cases hs
        refine W.objInit (g := F0 m pc ls _) hx hb hown (hts _ ((hE.2.2.2.2.1 _ hm).2.1 rfl)) (hts _ hE.2.2.2.2.2.2.2.1.1) (hts _ hE.2.2.2.2.2.2.2.1.2) rfl (by rw [hml]; exact hlh.1) rfl hd (by omega) ?_ (kk σ ls H locs (r.stk (av_tl hst)))
        have e1 := lv_room (m := m) (pc := pc) (ls := ls) (rest := av_v σ τ (Value.ref a) :: st'.map (av_v σ τ)) (st := st'.map (av_v σ τ)) (by rw [av_cats]; exact h8)
        have e3 := hR.2
        exact Nat.le_trans (Nat.add_le_add_right e1 12) (by omega)
      · cases hs
    · cases hs
  | invokedynamic k =>
    match k, hs, hok with
    | 0, hs, hok => exact sd_copy hE hF0 r hok hs kk
    | 1, hs, hok =>
      simp only [av_one] at hs
      simp only [av_ok, Bool.and_eq_true, decide_eq_true_eq] at hok
      obtain ⟨⟨rfl, hd⟩, hm⟩ := hok
      split at hs
      · next a r0 _ =>
        split at hs
        · next h8 =>
          cases hs
          exact hStr.1 pc ix a ls (r0.map (av_v σ τ)) H locs cells slots hd hm hlh.1 r.2.2.2.2.2.2.2.2 (by rw [av_cats σ τ]; exact h8.1) hc1 hs1 h8.2 (kk σ ls H locs (r.stk (av_co trivial (av_tl hst))))
        · cases hs
      · cases hs
    | 2, hs, hok =>
      simp only [av_one] at hs
      simp only [av_ok, Bool.and_eq_true, decide_eq_true_eq] at hok
      obtain ⟨⟨rfl, hd⟩, hm⟩ := hok
      split at hs
      · next i a r0 _ =>
        split at hs
        · next h8 =>
          cases hs
          exact hStr.2 pc ix a i ls (r0.map (av_v σ τ)) H locs cells slots hd hm hlh.1 r.2.2.2.2.2.2.2.2 (by rw [av_cats σ τ]; exact h8.1) hc1 hs1 h8.2 (kk σ ls H locs (r.stk (av_co trivial (av_tl (av_tl hst)))))
        · cases hs
      · cases hs
    | 3, hs, hok => exact sd_clone hE hF0 r hok hs hc1 hs1 kk
    | 4, hs, hok =>
      simp only [av_one] at hs
      simp only [av_ok, Bool.and_eq_true, decide_eq_true_eq] at hok
      obtain ⟨⟨rfl, hd⟩, hm⟩ := hok
      obtain ⟨hj, w1, w2, w3⟩ := hE.2.2.2.2.2.2.2.2.2.2
      split at hs
      · next y x r0 _ =>
        split at hs
        · next h8 =>
          cases hs
          have e1 := av_cats σ τ r0
          have e3 := hR.2
          exact va_mmax hx hb (by rw [hml]; exact hlh.1.symm) hown (hts _ ((hj _ hm).1 rfl)) (hts _ w2.1) (hts _ w1) (hts _ w2.2) (by omega) (by omega) hc1 hs1 hd (kk σ ls H locs (r.stk (av_co trivial (av_tl (av_tl hst)))))
        · cases hs
      · cases hs
    | 5, hs, hok =>
      simp only [av_one] at hs
      simp only [av_ok, Bool.and_eq_true, decide_eq_true_eq] at hok
      obtain ⟨⟨rfl, hd⟩, hm⟩ := hok
      obtain ⟨hj, w1, w2, w3⟩ := hE.2.2.2.2.2.2.2.2.2.2
      split at hs
      · next y x r0 _ =>
        split at hs
        · next h8 =>
          cases hs
          have e1 := av_cats σ τ r0
          have e3 := hR.2
          exact va_mmin hx hb (by rw [hml]; exact hlh.1.symm) hown (hts _ ((hj _ hm).2 rfl)) (hts _ w3.1) (hts _ w1) (hts _ w3.2) (by omega) (by omega) hc1 hs1 hd (kk σ ls H locs (r.stk (av_co trivial (av_tl (av_tl hst)))))
        · cases hs
      · cases hs
    | k + 6, hs, hok => simp only [av_one] at hs; cases hs
  | checkcast k => exact sd_cast hE hF0 r hok hs kk
  | instanceof k => simp only [av_one] at hs; split at hs <;> cases hs
  | ireturn =>
    simp only [av_one] at hs
    split at hs
    · split at hs
      · cases hs
      · split at hs <;> cases hs
      · cases hs
    · cases hs
  | areturn =>
    simp only [av_one] at hs
    split at hs
    · split at hs <;> cases hs
    · cases hs
  | return_ =>
    simp only [av_one] at hs
    split at hs <;> cases hs
  | invokestatic mj => simp only [av_one] at hs; split at hs <;> cases hs
  | invokevirtual mj => simp only [av_one] at hs; split at hs <;> cases hs
  | invokespecial mj => simp only [av_one] at hs; split at hs <;> cases hs
  | _ => simp only [av_one] at hs; cases hs
end SH
