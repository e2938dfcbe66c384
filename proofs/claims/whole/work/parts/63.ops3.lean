/-! ===== calls that only look: (3) ===== -/
theorem sw_out {y : Int32} {n : Nat} (hn : n < 1000000) (h : ixO y n = none) : Int32.toInt y < 0 ∨ (n : Int) ≤ Int32.toInt y := by
  rcases ixO_none h with h | h
  · left
    have := Int32.lt_iff_toInt_lt.mp h
    rw [oN_ti (by decide)] at this
    exact this
  · right
    have : ¬ Int32.toInt y < Int32.toInt (Int32.ofNat n) := fun e => h (Int32.lt_iff_toInt_lt.mpr e)
    rw [oN_ti (by omega)] at this
    omega
theorem fo_more {α : Type} {F : Nat → α → α} {n : Nat} {x : α} : ∀ {m : Nat}, n ≤ m → (∀ z y, n ≤ z → z < m → F z y = y) → fo F m 0 x = fo F n 0 x
  | 0, h, _ => by rw [show n = 0 by omega]
  | m + 1, h, hp => by
    by_cases e : n = m + 1
    · rw [e]
    · rw [fo_snoc, Nat.zero_add, hp m _ (by omega) (by omega)]
      exact fo_more (by omega) fun z y h1 h2 => hp z y h1 (by omega)
theorem z_or (x : Int32) : x ||| Int32.ofNat 0 = x := b_ext fun i hi => by rw [b_or, b_00, Bool.or_false]
/-! ring -/
def ringF (S : GS) (z : Nat) (best : Int32) : Int32 := if decide (Int32.ofNat z &&& (Int32.ofNat (gN (gV S) (gg S)) ^^^ -1) = Int32.ofNat 0) && (fewer (Int32.ofNat z) best && decide (cntS (gV S) (gt S) (gg S) (gV S 1 1) z = 0)) then Int32.ofNat z else best
def ringS (S : GS) : Int32 := fo (ringF S) 64 0 (-1)
theorem past_cnt (V : sD) (nt ng : Nat) (first : Int32) (g0 : Nat) (hg : g0 < 64) : (pastS V nt ng first g0 = -1) ↔ cntS V nt ng first g0 = 0 := by
  have h := fo_rel (F := fun z best => if agP V nt ng first (Int32.ofNat g0) (Int32.ofNat z) && fewer (Int32.ofNat z) best then Int32.ofNat z else best) (G := fun z (x : Nat) => if agP V nt ng first (Int32.ofNat g0) (Int32.ofNat z) then x + 1 else x) (fun _ x y => x = -1 ↔ y = 0) (g0 + 1) 0 (-1) 0 (by simp) (fun j x y _ hj ih => by
    have hj1 : ¬ Int32.ofNat j = -1 := by rw [oN_ne1 (by omega)]; exact id
    cases ha : agP V nt ng first (Int32.ofNat g0) (Int32.ofNat j)
    · simp only [Bool.false_and, Bool.false_eq_true, if_false]; exact ih
    · simp only [Bool.true_and, if_true]
      constructor
      · intro h1
        exfalso
        split at h1
        · exact hj1 h1
        · next h2 => exact h2 (by unfold fewer; simp [h1])
      · intro h1; omega)
  exact h
theorem cnt_0 (V : sD) (nt ng : Nat) (first : Int32) : ¬ cntS V nt ng first 0 = 0 := by
  unfold cntS
  rw [nS_succ]
  have : agP V nt ng first (Int32.ofNat 0) (Int32.ofNat 0) = true := by
    unfold agP
    have e1 : (Int32.ofNat 0 &&& (Int32.ofNat 0 ^^^ -1) : Int32) = Int32.ofNat 0 := by decide
    have e2 : ∀ y : Int32, Int32.ofNat 0 &&& y = Int32.ofNat 0 := fun y => b_ext fun i hi => by rw [b_and, b_00]; rfl
    rw [e2, e2]
    rfl
  rw [this]
  simp
theorem ring_1 (S : GS) : fo (ringF S) 63 1 (-1) = ringS S := by
  unfold ringS
  show _ = fo (ringF S) 63 1 (ringF S 0 (-1))
  have : ringF S 0 (-1) = -1 := by
    unfold ringF
    simp only [cnt_0, decide_false, Bool.and_false, Bool.false_eq_true, if_false]
  rw [this]
theorem ring_g (S : GS) (I : IvS S) : fo (ringF S) (gN (gV S) (gg S) + 1) 0 (-1) = ringS S := by
  have hg := gN_64 (V := gV S) (i_ng6 I)
  unfold ringS
  refine (fo_more (n := gN (gV S) (gg S) + 1) (m := 64) (by omega) ?_).symm
  intro z y h1 h2
  unfold ringF
  have : ¬ Int32.ofNat z &&& (Int32.ofNat (gN (gV S) (gg S)) ^^^ -1) = Int32.ofNat 0 := fun h => by
    have := sub_le' h2 hg h
    omega
  simp only [this, decide_false, Bool.false_and, Bool.false_eq_true, if_false]
section C63
variable {nx : Nat} {xs : Nat → Int32} {d c s : Nat} {sh : List sC} {D : sD} {Q : av_Q}
variable {G : GT}
theorem c_ring (hv : GV G) (h : GC sh D G) (kk : ∀ D', GC sh D' G → Fc D D' → Q (.inl (some (.int (ringS G.1)))) (mk sh D') c s) : Wx (tP nx xs) (d + 4) 125 0 [some (.ref 0), none, none, none, none, none] [] (mk sh D) c s Q := by
  have hw := h.1.2
  have HS := h.1.1
  have H := St_state HS
  have I := hv.1
  have hV := h.2.1.1
  have hng := i_ng6 I
  have hnt := i_nt8 I
  have hnr := i_nr5 I
  have hnl := i_nl60 I
  have hx := h.L
  have hL := h.2.1.2
  obtain ⟨g1, g2⟩ := gN_of (V := (gV G.1)) hng
  simp only [b125_0 hw, xR_tape HS, xI_wrongAt HS, xF_wrongAt HS, xR_state HS, xR_image HS, xI_imageKept HS, xF_imageKept HS, xR_draft HS, xR_memory HS, xR_lawText HS, xR_worlds HS, xI_worldsFresh HS, xF_worldsFresh HS, xR_otherWorlds HS, xR_seating HS, xR_pairing HS, xI_toldSo HS, xF_toldSo HS, xI_toldNot HS, xF_toldNot HS, xO HS, wi_some, or_0, or_1, bo_or, ite_boP, true_and, and_true, kN_v, kN_n, kT_v, kT_n, kT_e, Nat.add_zero, Nat.zero_add]
  refine k128 hv h ?_
  intro D1 c1 h1 w1
  have hV1 := h1.2.1.1
  have fin := kk D1 h1 (c1.fc hx)
  simp only [b125_4 hw, b125_12 hw, xR_tape HS, xI_wrongAt HS, xF_wrongAt HS, xR_state HS, xR_image HS, xI_imageKept HS, xF_imageKept HS, xR_draft HS, xR_memory HS, xR_lawText HS, xR_worlds HS, xI_worldsFresh HS, xF_worldsFresh HS, xR_otherWorlds HS, xR_seating HS, xR_pairing HS, xI_toldSo HS, xF_toldSo HS, xI_toldNot HS, xF_toldNot HS, xO HS, sR_things H, sI_goers H, sF_goers H, sR_wish H, sR_deed H, sI_makers H, sF_makers H, sR_born H, sR_money H, sR_nerve H, sR_shuns H, sR_by H, sI_trains H, sF_trains H, sR_halts H, sR_seats H, sI_texts H, sF_texts H, sI_law H, sF_law H, sI_day H, sF_day H, sI_seed H, sF_seed H, sR_log H, sO_state H, sI_count H, sF_count H, sI_first H, sF_first H, sR_at H, sR_worth H, sR_makes H, sR_hinders H, sO_things H, sI_rows H, sF_rows H, sR_entries H, sO_log H, sA_2 H, sW_2 H, sA_3 H, sW_3 H, sA_4 H, sW_4 H, sA_5 H, sW_5 H, sA_6 H, sW_6 H, sA_7 H, sW_7 H, sA_8 H, sW_8 H, sA_9 H, sW_9 H, sA_10 H, sW_10 H, sA_11 H, sW_11 H, sA_12 H, sW_12 H, sA_13 H, sW_13 H, sA_14 H, sW_14 H, sA_16 H, sW_16 H, wi_some, or_0, or_1, bo_or, ite_boP, true_and, and_true, kN_v, kN_n, kT_v, kT_n, kT_e, Nat.add_zero, Nat.zero_add, k37 hw H hV1 I, g1]
  rw [← ring_1] at fin
  have lp : ∀ k z best l5, z + k = 64 → Q (.inl (some (.int (fo (ringF G.1) k z best)))) (mk sh D1) c s → Wx (tP nx xs) (d + 4) 125 18 [some (.ref 0), some (.ref 265), (some (.int (Int32.ofNat (gN (gV G.1) (gg G.1))))), (some (.int (best))), (some (.int (Int32.ofNat z))), l5] [] (mk sh D1) c s Q := by
    intro k
    induction k with
    | zero =>
      intro z best l5 hz q
      have : z = 64 := by omega
      subst this
      rw [b125_18 hw]
      simp only [oN_lt (show 64 < 2147483648 by omega) (show 64 < 2147483648 by omega), Nat.lt_irrefl, if_false]
      exact q
    | succ k ih =>
      intro z best l5 hz q
      have hz64 : z < 64 := by omega
      have q : Q (.inl (some (.int (fo (ringF G.1) k (z + 1) (ringF G.1 z best))))) (mk sh D1) c s := q
      have ih := fun best' e l5 => ih (z + 1) best' l5 (by omega) ((e : ringF G.1 z best = best') ▸ q)
      rw [b125_18 hw]
      simp only [oN_lt (show z < 2147483648 by omega) (show 64 < 2147483648 by omega), hz64, if_true]
      unfold ringF at ih
      by_cases hs : Int32.ofNat z &&& (Int32.ofNat (gN (gV G.1) (gg G.1)) ^^^ -1) = Int32.ofNat 0
      · simp only [hs, if_true, b125_39 hw, show ¬ (Int32.ofNat 1 : Int32) = Int32.ofNat 0 by decide, if_false, k131 hw, b125_52 hw, wi_some, or_0, or_1, bo_or, ite_boP, true_and, and_true, kN_v, kN_n, kT_v, kT_n, kT_e, Nat.add_zero, Nat.zero_add, wO HS, decide_true, Bool.true_and] at ih ⊢
        cases hf : fewer (Int32.ofNat z) best
        · simp only [hf, Bool.false_eq_true, if_false, b125_67 hw, oN_add, Bool.false_and] at ih ⊢
          exact ih _ rfl _
        · have e0 := oN_eq (show cntS (gV G.1) (gt G.1) (gg G.1) ((gV G.1) 1 1) z < 2147483648 by have := nS_le (fun y => agP (gV G.1) (gt G.1) (gg G.1) ((gV G.1) 1 1) (Int32.ofNat z) (Int32.ofNat y)) (z + 1); unfold cntS; omega) (show 0 < 2147483648 by decide)
          simp only [hf, if_true, k91 hw (Wsh_265 HS) w1 hz64 (sub_tr hs (gone_sub I)), b125_61 hw, b125_67 hw, wi_some, or_0, or_1, bo_or, ite_boP, true_and, and_true, kN_v, kN_n, kT_v, kT_n, kT_e, Nat.add_zero, Nat.zero_add, oN_add, Bool.true_and, e0] at ih ⊢
          by_cases hc : cntS (gV G.1) (gt G.1) (gg G.1) ((gV G.1) 1 1) z = 0
          · simp only [hc, if_true, decide_true] at ih ⊢; exact ih _ rfl _
          · simp only [hc, if_false, decide_false, Bool.false_eq_true] at ih ⊢; exact ih _ rfl _
      · simp only [hs, if_false, b125_39 hw, if_true, b125_67 hw, oN_add, decide_false, Bool.false_and, Bool.false_eq_true] at ih ⊢
        exact ih _ rfl _
  exact lp 63 1 (-1) _ rfl fin
theorem m_ring (hw : WT sh) (HS : SP sh) (hv : GV G) (h : GR D G) (kk : ∀ D', Ms D D' → D' 286 0 = Int32.ofNat 0 → Q (.inl (some (.int (ringS G.1)))) (mk sh D') c s) : Wx (tP nx xs) (d + 7) 276 0 [some (.ref 286), none, none, none] [] (mk sh D) c s Q := by
  have h0 := h.ms hv (Ms.rf.th (v := Int32.ofNat 0))
  have hng := i_ng6 hv.1
  have hg := gN_64 (V := (gV G.1)) hng
  obtain ⟨g1, g2⟩ := gN_of (V := (gV G.1)) hng
  rw [← ring_g G.1 hv.1] at kk
  simp only [b276_0 hw, b276_5 hw, b276_9 hw, mI_thrown HS, mF_thrown HS, mR_row HS, mR_image HS, mR_earlier HS, mR_trial HS, mR_acts HS, mI_hasImage HS, mF_hasImage HS, mI_remembered HS, mF_remembered HS, mR_tape HS, mI_taped HS, mF_taped HS, mI_point HS, mF_point HS, mI_end HS, mF_end HS, mI_begin HS, mF_begin HS, mI_deep HS, mF_deep HS, mI_faultAt HS, mF_faultAt HS, mR_five HS, mI_codes HS, mF_codes HS, mR_value HS, mI_so HS, mF_so HS, mR_lines HS, mR_chosen HS, mR_best HS, mR_members HS, mR_paired HS, mO HS, mA_287 HS, mW_287 HS, mA_288 HS, mW_288 HS, mA_289 HS, mW_289 HS, mA_290 HS, mW_290 HS, mA_291 HS, mW_291 HS, mA_292 HS, mW_292 HS, mA_293 HS, mW_293 HS, mA_294 HS, mW_294 HS, mA_295 HS, mW_295 HS, mA_296 HS, mW_296 HS, mA_297 HS, mW_297 HS, mA_298 HS, mW_298 HS, mA_299 HS, mW_299 HS, wi_some, or_0, or_1, bo_or, ite_boP, true_and, and_true, kN_v, kN_n, kT_v, kT_n, kT_e, Nat.add_zero, Nat.zero_add, k208 hw HS h0.1.1 hng, g1]
  refine up_P (W := fun i x D => Wx (tP nx xs) (d + 7) 276 14 [some (.ref 286), (some (.int (Int32.ofNat (gN (gV G.1) (gg G.1))))), (some (.int (x))), (some (.int (Int32.ofNat i)))] [] (mk sh D) c s Q) (P := fun _ _ D' => Sm (u2 D 286 0 (Int32.ofNat 0)) D') (F := ringF G.1) (gN (gV G.1) (gg G.1) + 1) ?_ (-1) _ Sm.rf ?_
  · intro z best D1 hz s1 k
    have h1 := h0.ms hv s1.ms
    have hz1 : ¬ gN (gV G.1) (gg G.1) < z := by omega
    rw [b276_14 hw]
    simp only [oN_lt (show gN (gV G.1) (gg G.1) < 2147483648 by omega) (show z < 2147483648 by omega), hz1, if_false]
    unfold ringF at k
    by_cases hs : Int32.ofNat z &&& (Int32.ofNat (gN (gV G.1) (gg G.1)) ^^^ -1) = Int32.ofNat 0
    · simp only [hs, if_true, decide_true, Bool.true_and, k357 hw, b276_36 hw, b276_40 hw, wi_some, or_0, or_1, bo_or, ite_boP, true_and, and_true, kN_v, kN_n, kT_v, kT_n, kT_e, Nat.add_zero, Nat.zero_add] at k ⊢
      have yes : fewer (Int32.ofNat z) best = true → Wx (tP nx xs) (d + 7) 276 43 [some (.ref 286), (some (.int (Int32.ofNat (gN (gV G.1) (gg G.1))))), (some (.int (best))), (some (.int (Int32.ofNat z)))] [] (mk sh D1) c s Q := by
        intro hf
        simp only [b276_43 hw, mI_thrown HS, mF_thrown HS, mR_row HS, mR_image HS, mR_earlier HS, mR_trial HS, mR_acts HS, mI_hasImage HS, mF_hasImage HS, mI_remembered HS, mF_remembered HS, mR_tape HS, mI_taped HS, mF_taped HS, mI_point HS, mF_point HS, mI_end HS, mF_end HS, mI_begin HS, mF_begin HS, mI_deep HS, mF_deep HS, mI_faultAt HS, mF_faultAt HS, mR_five HS, mI_codes HS, mF_codes HS, mR_value HS, mI_so HS, mF_so HS, mR_lines HS, mR_chosen HS, mR_best HS, mR_members HS, mR_paired HS, mO HS, mA_287 HS, mW_287 HS, mA_288 HS, mW_288 HS, mA_289 HS, mW_289 HS, mA_290 HS, mW_290 HS, mA_291 HS, mW_291 HS, mA_292 HS, mW_292 HS, mA_293 HS, mW_293 HS, mA_294 HS, mW_294 HS, mA_295 HS, mW_295 HS, mA_296 HS, mW_296 HS, mA_297 HS, mW_297 HS, mA_298 HS, mW_298 HS, mA_299 HS, mW_299 HS, wi_some, or_0, or_1, bo_or, ite_boP, true_and, and_true, kN_v, kN_n, kT_v, kT_n, kT_e, Nat.add_zero, Nat.zero_add]
        refine k268 hw HS h1.1.1 hv.1 (by omega) ?_
        intro D2 s2
        have k := k D2 (s1.tr s2)
        have e := past_cnt (gV G.1) (gt G.1) (gg G.1) ((gV G.1) 1 1) z (by omega)
        simp only [b276_48 hw, b276_54 hw, oN_add, wi_some, or_0, or_1, bo_or, ite_boP, true_and, and_true, kN_v, kN_n, kT_v, kT_n, kT_e, Nat.add_zero, Nat.zero_add]
        by_cases hc : cntS (gV G.1) (gt G.1) (gg G.1) ((gV G.1) 1 1) z = 0
        · simp only [e.mpr hc, if_true, hf, hc, decide_true, Bool.and_self] at k ⊢; exact k
        · have : ¬ pastS (gV G.1) (gt G.1) (gg G.1) ((gV G.1) 1 1) z = -1 := fun h => hc (e.mp h)
          simp only [this, if_false, hc, decide_false, Bool.and_false, Bool.false_eq_true] at k ⊢; exact k
      by_cases hb : best = -1
      · simp only [hb, if_true]
        rw [hb] at yes
        exact yes (by unfold fewer; simp)
      · simp only [hb, if_false]
        by_cases hc : bc (Int32.ofNat z) < bc best
        · simp only [hc, if_true]
          exact yes (by unfold fewer; simp [hc])
        · have hf : fewer (Int32.ofNat z) best = false := by unfold fewer; simp [hb, hc]
          simp only [hc, hf, if_false, b276_54 hw, oN_add, Bool.false_and, Bool.false_eq_true] at k ⊢
          exact k D1 s1
    · simp only [hs, if_false, b276_54 hw, oN_add, decide_false, Bool.false_and, Bool.false_eq_true] at k ⊢
      exact k D1 s1
  · intro D1 s1
    have h1 : gN (gV G.1) (gg G.1) < gN (gV G.1) (gg G.1) + 1 := by omega
    rw [b276_14 hw]
    simp only [oN_lt (show gN (gV G.1) (gg G.1) < 2147483648 by omega) (show gN (gV G.1) (gg G.1) + 1 < 2147483648 by omega), h1, if_true]
    exact kk D1 (Ms.rf.th.tr s1.ms) (by rw [s1 286 0 (by omega)]; simp [u2_at])
/-! brave -/
def braveF (V : sD) (g : Nat) (b : Option Nat) : Option Nat := if decide (V 12 g = -1) && (match b with
    | none => true
    | some o => decide (V 10 o < V 10 g)) then some g else b
def braveS (S : GS) : Option Nat := fo (braveF (gV S)) (gg S) 0 none
theorem c_brave (hv : GV G) (h : GC sh D G) (kk : Q (.inl (some (.int (opI (braveS G.1))))) (mk sh D) c s) : Wx (tP nx xs) d 162 0 [some (.ref 0), none, none, none] [] (mk sh D) c s Q := by
  have hw := h.1.2
  have HS := h.1.1
  have H := St_state HS
  have I := hv.1
  have hV := h.2.1.1
  have hng := i_ng6 I
  have hnt := i_nt8 I
  have hnr := i_nr5 I
  have hnl := i_nl60 I
  have hx := h.L
  have hL := h.2.1.2
  simp only [b162_0 hw]
  refine up_P (W := fun i (b : Option Nat) D => Wx (tP nx xs) d 162 6 [some (.ref 0), (some (.int (opI b))), (some (.int (match b with
      | none => -1
      | some o => (gV G.1) 10 o))), (some (.int (Int32.ofNat i)))] [] (mk sh D) c s Q) (P := fun i b D' => D' = D ∧ ∀ o, b = some o → o < i) (F := braveF (gV G.1)) (gg G.1) ?_ none D ⟨rfl, fun o h => by cases h⟩ ?_
  · intro i b D1 hi ⟨e, hb⟩ k
    subst e
    have hi6 : i < 6 := by omega
    obtain ⟨n, hn, en⟩ := i_nerve I hi
    rw [b162_6 hw]
    simp only [b162_55 hw, xR_tape HS, xI_wrongAt HS, xF_wrongAt HS, xR_state HS, xR_image HS, xI_imageKept HS, xF_imageKept HS, xR_draft HS, xR_memory HS, xR_lawText HS, xR_worlds HS, xI_worldsFresh HS, xF_worldsFresh HS, xR_otherWorlds HS, xR_seating HS, xR_pairing HS, xI_toldSo HS, xF_toldSo HS, xI_toldNot HS, xF_toldNot HS, xO HS, sR_things H, sI_goers H, sF_goers H, sR_wish H, sR_deed H, sI_makers H, sF_makers H, sR_born H, sR_money H, sR_nerve H, sR_shuns H, sR_by H, sI_trains H, sF_trains H, sR_halts H, sR_seats H, sI_texts H, sF_texts H, sI_law H, sF_law H, sI_day H, sF_day H, sI_seed H, sF_seed H, sR_log H, sO_state H, sI_count H, sF_count H, sI_first H, sF_first H, sR_at H, sR_worth H, sR_makes H, sR_hinders H, sO_things H, sI_rows H, sF_rows H, sR_entries H, sO_log H, sA_2 H, sW_2 H, sA_3 H, sW_3 H, sA_4 H, sW_4 H, sA_5 H, sW_5 H, sA_6 H, sW_6 H, sA_7 H, sW_7 H, sA_8 H, sW_8 H, sA_9 H, sW_9 H, sA_10 H, sW_10 H, sA_11 H, sW_11 H, sA_12 H, sW_12 H, sA_13 H, sW_13 H, sA_14 H, sW_14 H, sA_16 H, sW_16 H, wi_some, or_0, or_1, bo_or, ite_boP, true_and, and_true, kN_v, kN_n, kT_v, kT_n, kT_e, Nat.add_zero, Nat.zero_add, v_0 hV, v_1 hV, v_2 hV, v_3 hV, v_4 hV, v_5 hV, v_6 hV, v_7 hV, v_8 hV, v_9 hV, v_10 hV, v_11 hV, v_12 hV, v_13 hV, v_14 hV, v_15 hV, v_16 hV, i_ng I, hi6, oN_lt (show i < 2147483648 by omega) (show (gg G.1) < 2147483648 by omega), hi, if_true, oN_add]
    unfold braveF at k
    by_cases h1 : (gV G.1) 12 i = -1
    · simp only [h1, if_true, decide_true, Bool.true_and] at k ⊢
      cases b with
      | none =>
        have hm : (-1 : Int32) < (gV G.1) 10 i := by
          rw [en, Int32.lt_iff_toInt_lt, oN_ti (by omega)]
          have : Int32.toInt (-1) = -1 := by decide
          omega
        simp only [hm, if_true] at k ⊢
        exact k D1 ⟨rfl, fun o h => by cases h; omega⟩
      | some o =>
        by_cases h2 : (gV G.1) 10 o < (gV G.1) 10 i
        · simp only [h2, if_true, decide_true] at k ⊢
          exact k D1 ⟨rfl, fun o h => by cases h; omega⟩
        · simp only [h2, if_false, decide_false, Bool.false_eq_true] at k ⊢
          exact k D1 ⟨rfl, fun o' h => by have := hb o' h; omega⟩
    · simp only [h1, if_false, decide_false, Bool.false_and, Bool.false_eq_true] at k ⊢
      exact k D1 ⟨rfl, fun o' h => by have := hb o' h; omega⟩
  · intro D1 ⟨e, _⟩
    subst e
    rw [b162_6 hw]
    simp only [xR_tape HS, xI_wrongAt HS, xF_wrongAt HS, xR_state HS, xR_image HS, xI_imageKept HS, xF_imageKept HS, xR_draft HS, xR_memory HS, xR_lawText HS, xR_worlds HS, xI_worldsFresh HS, xF_worldsFresh HS, xR_otherWorlds HS, xR_seating HS, xR_pairing HS, xI_toldSo HS, xF_toldSo HS, xI_toldNot HS, xF_toldNot HS, xO HS, sR_things H, sI_goers H, sF_goers H, sR_wish H, sR_deed H, sI_makers H, sF_makers H, sR_born H, sR_money H, sR_nerve H, sR_shuns H, sR_by H, sI_trains H, sF_trains H, sR_halts H, sR_seats H, sI_texts H, sF_texts H, sI_law H, sF_law H, sI_day H, sF_day H, sI_seed H, sF_seed H, sR_log H, sO_state H, sI_count H, sF_count H, sI_first H, sF_first H, sR_at H, sR_worth H, sR_makes H, sR_hinders H, sO_things H, sI_rows H, sF_rows H, sR_entries H, sO_log H, sA_2 H, sW_2 H, sA_3 H, sW_3 H, sA_4 H, sW_4 H, sA_5 H, sW_5 H, sA_6 H, sW_6 H, sA_7 H, sW_7 H, sA_8 H, sW_8 H, sA_9 H, sW_9 H, sA_10 H, sW_10 H, sA_11 H, sW_11 H, sA_12 H, sW_12 H, sA_13 H, sW_13 H, sA_14 H, sW_14 H, sA_16 H, sW_16 H, wi_some, or_0, or_1, bo_or, ite_boP, true_and, and_true, kN_v, kN_n, kT_v, kT_n, kT_e, Nat.add_zero, Nat.zero_add, v_0 hV, v_1 hV, v_2 hV, v_3 hV, v_4 hV, v_5 hV, v_6 hV, v_7 hV, v_8 hV, v_9 hV, v_10 hV, v_11 hV, v_12 hV, v_13 hV, v_14 hV, v_15 hV, v_16 hV, i_ng I, oN_lt (show (gg G.1) < 2147483648 by omega) (show (gg G.1) < 2147483648 by omega), Nat.lt_irrefl, if_false]
    exact kk
theorem m_brave (hw : WT sh) (HS : SP sh) (hv : GV G) (h : GR D G) (kk : ∀ D', Ms D D' → D' 286 0 = Int32.ofNat 0 → Q (.inl (some (.int (opI (braveS G.1))))) (mk sh D') c s) : Wx (tP nx xs) (d + 3) 340 0 [some (.ref 286), none, none] [] (mk sh D) c s Q := by
  have h0 := h.ms hv (Ms.rf.th (v := Int32.ofNat 0))
  have R1 := h0.1.1
  have hng := i_ng6 hv.1
  have v5 : 5 < 11 := by decide
  simp only [b340_0 hw, b340_5 hw, mI_thrown HS, mF_thrown HS, mR_row HS, mR_image HS, mR_earlier HS, mR_trial HS, mR_acts HS, mI_hasImage HS, mF_hasImage HS, mI_remembered HS, mF_remembered HS, mR_tape HS, mI_taped HS, mF_taped HS, mI_point HS, mF_point HS, mI_end HS, mF_end HS, mI_begin HS, mF_begin HS, mI_deep HS, mF_deep HS, mI_faultAt HS, mF_faultAt HS, mR_five HS, mI_codes HS, mF_codes HS, mR_value HS, mI_so HS, mF_so HS, mR_lines HS, mR_chosen HS, mR_best HS, mR_members HS, mR_paired HS, mO HS, mA_287 HS, mW_287 HS, mA_288 HS, mW_288 HS, mA_289 HS, mW_289 HS, mA_290 HS, mW_290 HS, mA_291 HS, mW_291 HS, mA_292 HS, mW_292 HS, mA_293 HS, mW_293 HS, mA_294 HS, mW_294 HS, mA_295 HS, mW_295 HS, mA_296 HS, mW_296 HS, mA_297 HS, mW_297 HS, mA_298 HS, mW_298 HS, mA_299 HS, mW_299 HS, wi_some, or_0, or_1, bo_or, ite_boP, true_and, and_true, kN_v, kN_n, kT_v, kT_n, kT_e, Nat.add_zero, Nat.zero_add]
  refine up_P (W := fun i (b : Option Nat) D => Wx (tP nx xs) (d + 3) 340 9 [some (.ref 286), (some (.int (opI b))), (some (.int (Int32.ofNat i)))] [] (mk sh D) c s Q) (P := fun i b D' => D' = u2 D 286 0 (Int32.ofNat 0) ∧ ∀ o, b = some o → o < i) (F := braveF (gV G.1)) (gg G.1) ?_ none _ ⟨rfl, fun o h => by cases h⟩ ?_
  · intro i b D1 hi ⟨e, hb⟩ k
    subst e
    have hi6 : i < 6 := by omega
    rw [b340_9 hw]
    simp only [b340_14 hw, mI_thrown HS, mF_thrown HS, mR_row HS, mR_image HS, mR_earlier HS, mR_trial HS, mR_acts HS, mI_hasImage HS, mF_hasImage HS, mI_remembered HS, mF_remembered HS, mR_tape HS, mI_taped HS, mF_taped HS, mI_point HS, mF_point HS, mI_end HS, mF_end HS, mI_begin HS, mF_begin HS, mI_deep HS, mF_deep HS, mI_faultAt HS, mF_faultAt HS, mR_five HS, mI_codes HS, mF_codes HS, mR_value HS, mI_so HS, mF_so HS, mR_lines HS, mR_chosen HS, mR_best HS, mR_members HS, mR_paired HS, mO HS, mA_287 HS, mW_287 HS, mA_288 HS, mW_288 HS, mA_289 HS, mW_289 HS, mA_290 HS, mW_290 HS, mA_291 HS, mW_291 HS, mA_292 HS, mW_292 HS, mA_293 HS, mW_293 HS, mA_294 HS, mW_294 HS, mA_295 HS, mW_295 HS, mA_296 HS, mW_296 HS, mA_297 HS, mW_297 HS, mA_298 HS, mW_298 HS, mA_299 HS, mW_299 HS, wi_some, or_0, or_1, bo_or, ite_boP, true_and, and_true, kN_v, kN_n, kT_v, kT_n, kT_e, Nat.add_zero, Nat.zero_add, k198 hw HS, r_ng R1, oN_lt (show i < 2147483648 by omega) (show (gg G.1) < 2147483648 by omega), hi, if_true, k207 hw HS R1 hng hi, b340_22 hw]
    unfold braveF at k
    by_cases h1 : (gV G.1) 12 i = -1
    · simp only [h1, not_true_eq_false, decide_false, Bool.false_eq_true, if_false, decide_true, Bool.true_and] at k ⊢
      cases b with
      | none =>
        simp only [opI, if_true, b340_45 hw, b340_47 hw, oN_add] at k ⊢
        exact k _ ⟨rfl, fun o h => by cases h; omega⟩
      | some o =>
        have ho := hb o rfl
        have ho6 : o < 6 := by omega
        simp only [opI, oN_ne1 (show o < 2147483648 by omega), if_false, mI_thrown HS, mF_thrown HS, mR_row HS, mR_image HS, mR_earlier HS, mR_trial HS, mR_acts HS, mI_hasImage HS, mF_hasImage HS, mI_remembered HS, mF_remembered HS, mR_tape HS, mI_taped HS, mF_taped HS, mI_point HS, mF_point HS, mI_end HS, mF_end HS, mI_begin HS, mF_begin HS, mI_deep HS, mF_deep HS, mI_faultAt HS, mF_faultAt HS, mR_five HS, mI_codes HS, mF_codes HS, mR_value HS, mI_so HS, mF_so HS, mR_lines HS, mR_chosen HS, mR_best HS, mR_members HS, mR_paired HS, mO HS, mA_287 HS, mW_287 HS, mA_288 HS, mW_288 HS, mA_289 HS, mW_289 HS, mA_290 HS, mW_290 HS, mA_291 HS, mW_291 HS, mA_292 HS, mW_292 HS, mA_293 HS, mW_293 HS, mA_294 HS, mW_294 HS, mA_295 HS, mW_295 HS, mA_296 HS, mW_296 HS, mA_297 HS, mW_297 HS, mA_298 HS, mW_298 HS, mA_299 HS, mW_299 HS, wi_some, or_0, or_1, bo_or, ite_boP, true_and, and_true, kN_v, kN_n, kT_v, kT_n, kT_e, Nat.add_zero, Nat.zero_add, k203 hw HS hi6 v5, k203 hw HS ho6 v5, r_nerve R1 hi, r_nerve R1 (show o < (gg G.1) by omega), b340_36 hw, b340_42 hw] at k ⊢
        by_cases h2 : (gV G.1) 10 o < (gV G.1) 10 i
        · simp only [h2, if_true, decide_true, b340_45 hw, b340_47 hw, oN_add] at k ⊢
          exact k _ ⟨rfl, fun o h => by cases h; omega⟩
        · simp only [h2, if_false, decide_false, Bool.false_eq_true, b340_47 hw, oN_add] at k ⊢
          exact k _ ⟨rfl, fun o' h => by have := hb o' h; omega⟩
    · simp only [h1, not_false_eq_true, decide_true, if_true, decide_false, Bool.false_and, Bool.false_eq_true, if_false, b340_47 hw, oN_add] at k ⊢
      exact k _ ⟨rfl, fun o' h => by have := hb o' h; omega⟩
  · intro D1 ⟨e, _⟩
    subst e
    rw [b340_9 hw]
    simp only [b340_14 hw, mI_thrown HS, mF_thrown HS, mR_row HS, mR_image HS, mR_earlier HS, mR_trial HS, mR_acts HS, mI_hasImage HS, mF_hasImage HS, mI_remembered HS, mF_remembered HS, mR_tape HS, mI_taped HS, mF_taped HS, mI_point HS, mF_point HS, mI_end HS, mF_end HS, mI_begin HS, mF_begin HS, mI_deep HS, mF_deep HS, mI_faultAt HS, mF_faultAt HS, mR_five HS, mI_codes HS, mF_codes HS, mR_value HS, mI_so HS, mF_so HS, mR_lines HS, mR_chosen HS, mR_best HS, mR_members HS, mR_paired HS, mO HS, mA_287 HS, mW_287 HS, mA_288 HS, mW_288 HS, mA_289 HS, mW_289 HS, mA_290 HS, mW_290 HS, mA_291 HS, mW_291 HS, mA_292 HS, mW_292 HS, mA_293 HS, mW_293 HS, mA_294 HS, mW_294 HS, mA_295 HS, mW_295 HS, mA_296 HS, mW_296 HS, mA_297 HS, mW_297 HS, mA_298 HS, mW_298 HS, mA_299 HS, mW_299 HS, wi_some, or_0, or_1, bo_or, ite_boP, true_and, and_true, kN_v, kN_n, kT_v, kT_n, kT_e, Nat.add_zero, Nat.zero_add, k198 hw HS, r_ng R1, oN_lt (show (gg G.1) < 2147483648 by omega) (show (gg G.1) < 2147483648 by omega), Nat.lt_irrefl, if_false]
    exact kk _ Ms.rf.th (by simp [u2_at])
/-! empty -/
theorem rid_0 {V : sD} {ng : Nat} {t : Int32} (hn : ng ≤ 6) : (bc (ridS V ng t) = Int32.ofNat 0) ↔ ridS V ng t = Int32.ofNat 0 := by
  constructor
  · intro h
    rw [rid_n hn, oN_eq (by have := nS_le (fun g => decide (V 12 g = t)) ng; omega) (by decide)] at h
    have hz : ∀ n, nS (fun g => decide (V 12 g = t)) n = 0 → ∀ g, g < n → decide (V 12 g = t) = false := by
      intro n
      induction n with
      | zero => intro _ g hg; omega
      | succ n ih =>
        intro h g hg
        rw [nS_succ] at h
        by_cases e : g = n
        · subst e
          cases hd : decide (V 12 g = t)
          · rfl
          · rw [hd] at h; simp at h
        · exact ih (by omega) g (by omega)
    apply b_ext
    intro i hi
    unfold ridS
    rw [bs_bt _ (by omega) hi, b_00]
    by_cases h1 : i < ng
    · rw [hz ng h i h1]; simp
    · simp [h1]
  · intro h; rw [h]; decide
def emptyS (S : GS) : Int32 := bs (fun t => decide (ridS (gV S) (gg S) (Int32.ofNat t) = Int32.ofNat 0)) (gr S)
theorem c_empty (hv : GV G) (h : GC sh D G) (kk : Q (.inl (some (.int (emptyS G.1)))) (mk sh D) c s) : Wx (tP nx xs) (d + 1) 167 0 [some (.ref 0), none, none] [] (mk sh D) c s Q := by
  have hw := h.1.2
  have HS := h.1.1
  have H := St_state HS
  have I := hv.1
  have hV := h.2.1.1
  have hng := i_ng6 I
  have hnt := i_nt8 I
  have hnr := i_nr5 I
  have hnl := i_nl60 I
  have hx := h.L
  have hL := h.2.1.2
  simp only [b167_0 hw]
  have e := (up_loop (W := fun i y => Wx (tP nx xs) (d + 1) 167 4 [some (.ref 0), (some (.int (y))), (some (.int (Int32.ofNat i)))] [] (mk sh D) c s Q) (F := fun t y => if decide (ridS (gV G.1) (gg G.1) (Int32.ofNat t) = Int32.ofNat 0) then y ||| jshl (Int32.ofNat 1) (Int32.ofNat t) else y) (gr G.1) (fun i y hi => by
    rw [b167_4 hw]
    simp only [b167_23 hw, b167_32 hw, xR_tape HS, xI_wrongAt HS, xF_wrongAt HS, xR_state HS, xR_image HS, xI_imageKept HS, xF_imageKept HS, xR_draft HS, xR_memory HS, xR_lawText HS, xR_worlds HS, xI_worldsFresh HS, xF_worldsFresh HS, xR_otherWorlds HS, xR_seating HS, xR_pairing HS, xI_toldSo HS, xF_toldSo HS, xI_toldNot HS, xF_toldNot HS, xO HS, sR_things H, sI_goers H, sF_goers H, sR_wish H, sR_deed H, sI_makers H, sF_makers H, sR_born H, sR_money H, sR_nerve H, sR_shuns H, sR_by H, sI_trains H, sF_trains H, sR_halts H, sR_seats H, sI_texts H, sF_texts H, sI_law H, sF_law H, sI_day H, sF_day H, sI_seed H, sF_seed H, sR_log H, sO_state H, sI_count H, sF_count H, sI_first H, sF_first H, sR_at H, sR_worth H, sR_makes H, sR_hinders H, sO_things H, sI_rows H, sF_rows H, sR_entries H, sO_log H, sA_2 H, sW_2 H, sA_3 H, sW_3 H, sA_4 H, sW_4 H, sA_5 H, sW_5 H, sA_6 H, sW_6 H, sA_7 H, sW_7 H, sA_8 H, sW_8 H, sA_9 H, sW_9 H, sA_10 H, sW_10 H, sA_11 H, sW_11 H, sA_12 H, sW_12 H, sA_13 H, sW_13 H, sA_14 H, sW_14 H, sA_16 H, sW_16 H, wi_some, or_0, or_1, bo_or, ite_boP, true_and, and_true, kN_v, kN_n, kT_v, kT_n, kT_e, Nat.add_zero, Nat.zero_add, v_0 hV, v_1 hV, v_2 hV, v_3 hV, v_4 hV, v_5 hV, v_6 hV, v_7 hV, v_8 hV, v_9 hV, v_10 hV, v_11 hV, v_12 hV, v_13 hV, v_14 hV, v_15 hV, v_16 hV, i_nr I, oN_lt (show i < 2147483648 by omega) (show (gr G.1) < 2147483648 by omega), hi, if_true, oN_add, k39 hw H hV I]
    by_cases hh : ridS (gV G.1) (gg G.1) (Int32.ofNat i) = Int32.ofNat 0
    · simp only [hh, if_true, decide_true]
    · simp only [hh, if_false, decide_false, Bool.false_eq_true]) (Int32.ofNat 0))
  rw [e, b167_4 hw]
  simp only [xR_tape HS, xI_wrongAt HS, xF_wrongAt HS, xR_state HS, xR_image HS, xI_imageKept HS, xF_imageKept HS, xR_draft HS, xR_memory HS, xR_lawText HS, xR_worlds HS, xI_worldsFresh HS, xF_worldsFresh HS, xR_otherWorlds HS, xR_seating HS, xR_pairing HS, xI_toldSo HS, xF_toldSo HS, xI_toldNot HS, xF_toldNot HS, xO HS, sR_things H, sI_goers H, sF_goers H, sR_wish H, sR_deed H, sI_makers H, sF_makers H, sR_born H, sR_money H, sR_nerve H, sR_shuns H, sR_by H, sI_trains H, sF_trains H, sR_halts H, sR_seats H, sI_texts H, sF_texts H, sI_law H, sF_law H, sI_day H, sF_day H, sI_seed H, sF_seed H, sR_log H, sO_state H, sI_count H, sF_count H, sI_first H, sF_first H, sR_at H, sR_worth H, sR_makes H, sR_hinders H, sO_things H, sI_rows H, sF_rows H, sR_entries H, sO_log H, sA_2 H, sW_2 H, sA_3 H, sW_3 H, sA_4 H, sW_4 H, sA_5 H, sW_5 H, sA_6 H, sW_6 H, sA_7 H, sW_7 H, sA_8 H, sW_8 H, sA_9 H, sW_9 H, sA_10 H, sW_10 H, sA_11 H, sW_11 H, sA_12 H, sW_12 H, sA_13 H, sW_13 H, sA_14 H, sW_14 H, sA_16 H, sW_16 H, wi_some, or_0, or_1, bo_or, ite_boP, true_and, and_true, kN_v, kN_n, kT_v, kT_n, kT_e, Nat.add_zero, Nat.zero_add, v_0 hV, v_1 hV, v_2 hV, v_3 hV, v_4 hV, v_5 hV, v_6 hV, v_7 hV, v_8 hV, v_9 hV, v_10 hV, v_11 hV, v_12 hV, v_13 hV, v_14 hV, v_15 hV, v_16 hV, i_nr I, oN_lt (show (gr G.1) < 2147483648 by omega) (show (gr G.1) < 2147483648 by omega), Nat.lt_irrefl, if_false]
  exact kk
theorem m_empty (hw : WT sh) (HS : SP sh) (hv : GV G) (h : GR D G) (kk : ∀ D', Ms D D' → D' 286 0 = Int32.ofNat 0 → Q (.inl (some (.int (emptyS G.1)))) (mk sh D') c s) : Wx (tP nx xs) (d + 4) 345 0 [some (.ref 286), none, none] [] (mk sh D) c s Q := by
  have h0 := h.ms hv (Ms.rf.th (v := Int32.ofNat 0))
  have R1 := h0.1.1
  have hng := i_ng6 hv.1
  have hnr := i_nr5 hv.1
  simp only [b345_0 hw, b345_5 hw, mI_thrown HS, mF_thrown HS, mR_row HS, mR_image HS, mR_earlier HS, mR_trial HS, mR_acts HS, mI_hasImage HS, mF_hasImage HS, mI_remembered HS, mF_remembered HS, mR_tape HS, mI_taped HS, mF_taped HS, mI_point HS, mF_point HS, mI_end HS, mF_end HS, mI_begin HS, mF_begin HS, mI_deep HS, mF_deep HS, mI_faultAt HS, mF_faultAt HS, mR_five HS, mI_codes HS, mF_codes HS, mR_value HS, mI_so HS, mF_so HS, mR_lines HS, mR_chosen HS, mR_best HS, mR_members HS, mR_paired HS, mO HS, mA_287 HS, mW_287 HS, mA_288 HS, mW_288 HS, mA_289 HS, mW_289 HS, mA_290 HS, mW_290 HS, mA_291 HS, mW_291 HS, mA_292 HS, mW_292 HS, mA_293 HS, mW_293 HS, mA_294 HS, mW_294 HS, mA_295 HS, mW_295 HS, mA_296 HS, mW_296 HS, mA_297 HS, mW_297 HS, mA_298 HS, mW_298 HS, mA_299 HS, mW_299 HS, wi_some, or_0, or_1, bo_or, ite_boP, true_and, and_true, kN_v, kN_n, kT_v, kT_n, kT_e, Nat.add_zero, Nat.zero_add]
  have e := (up_loop (W := fun i y => Wx (tP nx xs) (d + 4) 345 9 [some (.ref 286), (some (.int (y))), (some (.int (Int32.ofNat i)))] [] (mk sh (u2 D 286 0 (Int32.ofNat 0))) c s Q) (F := fun t y => if decide (ridS (gV G.1) (gg G.1) (Int32.ofNat t) = Int32.ofNat 0) then y ||| jshl (Int32.ofNat 1) (Int32.ofNat t) else y) (gr G.1) (fun i y hi => by
    have ht1 : ¬ Int32.ofNat i = -1 := by rw [oN_ne1 (by omega)]; exact id
    rw [b345_9 hw]
    simp only [b345_14 hw, b345_23 hw, b345_33 hw, mI_thrown HS, mF_thrown HS, mR_row HS, mR_image HS, mR_earlier HS, mR_trial HS, mR_acts HS, mI_hasImage HS, mF_hasImage HS, mI_remembered HS, mF_remembered HS, mR_tape HS, mI_taped HS, mF_taped HS, mI_point HS, mF_point HS, mI_end HS, mF_end HS, mI_begin HS, mF_begin HS, mI_deep HS, mF_deep HS, mI_faultAt HS, mF_faultAt HS, mR_five HS, mI_codes HS, mF_codes HS, mR_value HS, mI_so HS, mF_so HS, mR_lines HS, mR_chosen HS, mR_best HS, mR_members HS, mR_paired HS, mO HS, mA_287 HS, mW_287 HS, mA_288 HS, mW_288 HS, mA_289 HS, mW_289 HS, mA_290 HS, mW_290 HS, mA_291 HS, mW_291 HS, mA_292 HS, mW_292 HS, mA_293 HS, mW_293 HS, mA_294 HS, mW_294 HS, mA_295 HS, mW_295 HS, mA_296 HS, mW_296 HS, mA_297 HS, mW_297 HS, mA_298 HS, mW_298 HS, mA_299 HS, mW_299 HS, wi_some, or_0, or_1, bo_or, ite_boP, true_and, and_true, kN_v, kN_n, kT_v, kT_n, kT_e, Nat.add_zero, Nat.zero_add, k199 hw HS, r_nr R1, oN_lt (show i < 2147483648 by omega) (show (gr G.1) < 2147483648 by omega), hi, if_true, k209 hw HS R1 hng ht1, oN_add, z_or]
    by_cases hh : ridS (gV G.1) (gg G.1) (Int32.ofNat i) = Int32.ofNat 0
    · simp only [hh, show bc (Int32.ofNat 0) = Int32.ofNat 0 by decide, if_true, decide_true]
    · have : ¬ bc (ridS (gV G.1) (gg G.1) (Int32.ofNat i)) = Int32.ofNat 0 := fun h => hh ((rid_0 hng).mp h)
      simp only [this, hh, if_false, decide_false, Bool.false_eq_true]) (Int32.ofNat 0))
  rw [e, b345_9 hw]
  simp only [b345_14 hw, mI_thrown HS, mF_thrown HS, mR_row HS, mR_image HS, mR_earlier HS, mR_trial HS, mR_acts HS, mI_hasImage HS, mF_hasImage HS, mI_remembered HS, mF_remembered HS, mR_tape HS, mI_taped HS, mF_taped HS, mI_point HS, mF_point HS, mI_end HS, mF_end HS, mI_begin HS, mF_begin HS, mI_deep HS, mF_deep HS, mI_faultAt HS, mF_faultAt HS, mR_five HS, mI_codes HS, mF_codes HS, mR_value HS, mI_so HS, mF_so HS, mR_lines HS, mR_chosen HS, mR_best HS, mR_members HS, mR_paired HS, mO HS, mA_287 HS, mW_287 HS, mA_288 HS, mW_288 HS, mA_289 HS, mW_289 HS, mA_290 HS, mW_290 HS, mA_291 HS, mW_291 HS, mA_292 HS, mW_292 HS, mA_293 HS, mW_293 HS, mA_294 HS, mW_294 HS, mA_295 HS, mW_295 HS, mA_296 HS, mW_296 HS, mA_297 HS, mW_297 HS, mA_298 HS, mW_298 HS, mA_299 HS, mW_299 HS, wi_some, or_0, or_1, bo_or, ite_boP, true_and, and_true, kN_v, kN_n, kT_v, kT_n, kT_e, Nat.add_zero, Nat.zero_add, k199 hw HS, r_nr R1, oN_lt (show (gr G.1) < 2147483648 by omega) (show (gr G.1) < 2147483648 by omega), Nat.lt_irrefl, if_false]
  exact kk _ Ms.rf.th (by simp [u2_at])
end C63
