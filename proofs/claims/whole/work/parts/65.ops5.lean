/-! ===== calls that only look: (5): odds, log, led, count, train, goer ===== -/
theorem mn100 {n q : Nat} (hn : n ≤ 100) (hq : q ≤ 2400) : mn (Int32.ofNat 100) (Int32.ofNat n - Int32.ofNat q) = Int32.ofNat n - Int32.ofNat q := by
  unfold mn
  by_cases h : Int32.ofNat n - Int32.ofNat q < Int32.ofNat 100
  · rw [if_pos h]
  · rw [if_neg h]
    have e : ((n : Int) - (q : Int)).bmod (2 ^ 32) = (n : Int) - q := by
      rw [Int.bmod_def]
      split <;> omega
    have h2 : ¬ (Int32.ofNat n - Int32.ofNat q).toInt < Int32.toInt (Int32.ofNat 100) := fun h3 => h (Int32.lt_iff_toInt_lt.mpr h3)
    rw [Int32.toInt_sub, oN_ti (by omega), oN_ti (by omega), oN_ti (by decide), e] at h2
    have : n = 100 ∧ q = 0 := by omega
    obtain ⟨rfl, rfl⟩ := this
    decide
def oddD (S : GS) (g : Nat) : Int32 := match trainL (gw S) (gV S) (gg S) (gr S) g with
  | none => Int32.ofNat 0
  | some t => mx (Int32.ofNat 0) (gV S 10 g - fearL (gw S) (gV S) (gg S) g t)
def o_odds (G : GT) (x y : Int32) : Int32 ⊕ Nat := match ixO x (gg G.1) with
  | none => .inr 1
  | some g => match ixO y 5 with
    | none => .inr 2
    | some n => .inl (fo (fun _ z => (z * (Int32.ofNat 100 - oddD G.1 g)) / Int32.ofNat 100) n 0 (Int32.ofNat 10000))
theorem in4 {y : Int32} : (decide (¬ y < Int32.ofNat 0) && decide (¬ Int32.ofNat 4 < y)) = (ixO y 5).isSome := by
  have := in_ix (x := y) (n := 5) (by decide)
  have e : Int32.ofNat 5 - Int32.ofNat 1 = Int32.ofNat 4 := by decide
  rw [e] at this
  exact this
theorem ge5 {y : Int32} (h : ixO y 5 = none) : y < Int32.ofNat 0 ∨ Int32.ofNat 4 < y := by
  rcases ixO_none h with h | h
  · exact Or.inl h
  · right
    have h1 : ¬ Int32.toInt y < Int32.toInt (Int32.ofNat 5) := fun e => h (Int32.lt_iff_toInt_lt.mpr e)
    rw [oN_ti (by decide)] at h1
    apply Int32.lt_iff_toInt_lt.mpr
    rw [oN_ti (by decide)]
    omega
section C65
variable {nx : Nat} {xs : Nat → Int32} {d c s : Nat} {sh : List sC} {D : sD} {Q : av_Q}
variable {G : GT}
theorem c_odds {x y : Int32} (hv : GV G) (h : GC sh D G) (kk : ∀ D', GC sh D' G → Fc D D' → Q (oQ (e2 xIO xIA) (o_odds G x y)) (mk sh D') (c + o1 (o_odds G x y)) (s + 6 * o1 (o_odds G x y))) : Wx (tP nx xs) (d + 4) 161 0 [some (.ref 0), (some (.int (x))), (some (.int (y))), none, none, none, none] [] (mk sh D) c s Q := by
  have hw := h.1.2
  have HS := h.1.1
  have H := St_state HS
  have I := hv.1
  have hV := h.2.1.1
  have hng := i_ng6 I
  have hnt := i_nt8 I
  have hnr := i_nr5 I
  have hnl := i_nl60 I
  have hx := h.L
  have hL := h.2.1.2
  unfold o_odds at kk
  simp only [b161_0 hw, xR_tape HS, xI_wrongAt HS, xF_wrongAt HS, xR_state HS, xR_image HS, xI_imageKept HS, xF_imageKept HS, xR_draft HS, xR_memory HS, xR_lawText HS, xR_worlds HS, xI_worldsFresh HS, xF_worldsFresh HS, xR_otherWorlds HS, xR_seating HS, xR_pairing HS, xI_toldSo HS, xF_toldSo HS, xI_toldNot HS, xF_toldNot HS, xO HS, wi_some, or_0, or_1, bo_or, ite_boP, true_and, and_true, kN_v, kN_n, kT_v, kT_n, kT_e, Nat.add_zero, Nat.zero_add, k181 hv h]
  cases hi : ixO x (gg G.1) with
  | none => simp only [hi, oQ, o1, wi_some, or_0, or_1, bo_or, ite_boP, true_and, and_true, kN_v, kN_n, kT_v, kT_n, kT_e, Nat.add_zero, Nat.zero_add] at kk ⊢; exact kk D h Fc.rf
  | some g =>
    obtain ⟨hg, rfl⟩ := ixO_some (by omega) hi
    have hg6 : g < 6 := by omega
    simp only [wi_some, or_0, or_1, bo_or, ite_boP, true_and, and_true, kN_v, kN_n, kT_v, kT_n, kT_e, Nat.add_zero, Nat.zero_add, b161_5 hw]
    cases hj : ixO y 5 with
    | none =>
      have fin := kk D h Fc.rf
      simp only [hi, hj, oQ, o1] at fin
      by_cases h1 : y < Int32.ofNat 0
      · simp only [h1, if_true, b161_14 hw]; exact fin
      · have h2 : Int32.ofNat 4 < y := by rcases ge5 hj with h | h; exact absurd h h1; exact h
        simp only [h1, h2, if_false, if_true, b161_14 hw]; exact fin
    | some n =>
      obtain ⟨hn, rfl⟩ := ixO_some (by decide) hj
      have a1 : ¬ Int32.ofNat n < Int32.ofNat 0 := oN_nn (by omega)
      have a2 : ¬ Int32.ofNat 4 < Int32.ofNat n := by rw [oN_lt (by decide) (by omega)]; omega
      simp only [hi, hj, oQ, o1, wi_some, or_0, or_1, bo_or, ite_boP, true_and, and_true, kN_v, kN_n, kT_v, kT_n, kT_e, Nat.add_zero, Nat.zero_add, Nat.mul_zero, a1, a2, if_false, xR_tape HS, xI_wrongAt HS, xF_wrongAt HS, xR_state HS, xR_image HS, xI_imageKept HS, xF_imageKept HS, xR_draft HS, xR_memory HS, xR_lawText HS, xR_worlds HS, xI_worldsFresh HS, xF_worldsFresh HS, xR_otherWorlds HS, xR_seating HS, xR_pairing HS, xI_toldSo HS, xF_toldSo HS, xI_toldNot HS, xF_toldNot HS, xO HS, sR_things H, sI_goers H, sF_goers H, sR_wish H, sR_deed H, sI_makers H, sF_makers H, sR_born H, sR_money H, sR_nerve H, sR_shuns H, sR_by H, sI_trains H, sF_trains H, sR_halts H, sR_seats H, sI_texts H, sF_texts H, sI_law H, sF_law H, sI_day H, sF_day H, sI_seed H, sF_seed H, sR_log H, sO_state H, sI_count H, sF_count H, sI_first H, sF_first H, sR_at H, sR_worth H, sR_makes H, sR_hinders H, sO_things H, sI_rows H, sF_rows H, sR_entries H, sO_log H, sA_2 H, sW_2 H, sA_3 H, sW_3 H, sA_4 H, sW_4 H, sA_5 H, sW_5 H, sA_6 H, sW_6 H, sA_7 H, sW_7 H, sA_8 H, sW_8 H, sA_9 H, sW_9 H, sA_10 H, sW_10 H, sA_11 H, sW_11 H, sA_12 H, sW_12 H, sA_13 H, sW_13 H, sA_14 H, sW_14 H, sA_16 H, sW_16 H] at kk ⊢
      have lp : ∀ D1 l3 dr, GC sh D1 G → Fc D D1 → oddD G.1 g = dr → Wx (tP nx xs) (d + 4) 161 76 [some (.ref 0), (some (.int (Int32.ofNat g))), (some (.int (Int32.ofNat n))), (some (.int (l3))), (some (.int (dr))), (some (.int (Int32.ofNat 10000))), (some (.int (Int32.ofNat 0)))] [] (mk sh D1) c s Q := by
        intro D1 l3 dr h1 f1 hd
        have kk := kk D1 h1 f1
        rw [hd] at kk
        have e := (up_loop (W := fun i z => Wx (tP nx xs) (d + 4) 161 76 [some (.ref 0), (some (.int (Int32.ofNat g))), (some (.int (Int32.ofNat n))), (some (.int (l3))), (some (.int (dr))), (some (.int (z))), (some (.int (Int32.ofNat i)))] [] (mk sh D1) c s Q) (F := fun _ z => (z * (Int32.ofNat 100 - dr)) / Int32.ofNat 100) n (fun i z hi => by
          rw [b161_76 hw]
          simp only [oN_lt (show i < 2147483648 by omega) (show n < 2147483648 by omega), hi, if_true, oN_add]) (Int32.ofNat 10000))
        rw [e, b161_76 hw]
        simp only [oN_lt (show n < 2147483648 by omega) (show n < 2147483648 by omega), Nat.lt_irrefl, if_false]
        exact kk
      refine k47 hw H (by decide) hV I hL hg ?_
      intro D1 s1
      have h1 := h.sl s1
      have hV1 := h1.2.1.1
      simp only [b161_33 hw, wi_some, or_0, or_1, bo_or, ite_boP, true_and, and_true, kN_v, kN_n, kT_v, kT_n, kT_e, Nat.add_zero, Nat.zero_add]
      cases htr : trainL (gw G.1) (gV G.1) (gg G.1) (gr G.1) g with
      | none =>
        simp only [opI, if_true, b161_66 hw]
        exact lp D1 _ _ h1 (s1.cs.fc hx) (by unfold oddD; rw [htr])
      | some t =>
        obtain ⟨ht, _⟩ := trainL_lt htr
        simp only [opI, oN_ne1 (show t < 2147483648 by omega), if_false, xR_tape HS, xI_wrongAt HS, xF_wrongAt HS, xR_state HS, xR_image HS, xI_imageKept HS, xF_imageKept HS, xR_draft HS, xR_memory HS, xR_lawText HS, xR_worlds HS, xI_worldsFresh HS, xF_worldsFresh HS, xR_otherWorlds HS, xR_seating HS, xR_pairing HS, xI_toldSo HS, xF_toldSo HS, xI_toldNot HS, xF_toldNot HS, xO HS, sR_things H, sI_goers H, sF_goers H, sR_wish H, sR_deed H, sI_makers H, sF_makers H, sR_born H, sR_money H, sR_nerve H, sR_shuns H, sR_by H, sI_trains H, sF_trains H, sR_halts H, sR_seats H, sI_texts H, sF_texts H, sI_law H, sF_law H, sI_day H, sF_day H, sI_seed H, sF_seed H, sR_log H, sO_state H, sI_count H, sF_count H, sI_first H, sF_first H, sR_at H, sR_worth H, sR_makes H, sR_hinders H, sO_things H, sI_rows H, sF_rows H, sR_entries H, sO_log H, sA_2 H, sW_2 H, sA_3 H, sW_3 H, sA_4 H, sW_4 H, sA_5 H, sW_5 H, sA_6 H, sW_6 H, sA_7 H, sW_7 H, sA_8 H, sW_8 H, sA_9 H, sW_9 H, sA_10 H, sW_10 H, sA_11 H, sW_11 H, sA_12 H, sW_12 H, sA_13 H, sW_13 H, sA_14 H, sW_14 H, sA_16 H, sW_16 H, wi_some, or_0, or_1, bo_or, ite_boP, true_and, and_true, kN_v, kN_n, kT_v, kT_n, kT_e, Nat.add_zero, Nat.zero_add, hg6, v_0 hV1, v_1 hV1, v_2 hV1, v_3 hV1, v_4 hV1, v_5 hV1, v_6 hV1, v_7 hV1, v_8 hV1, v_9 hV1, v_10 hV1, v_11 hV1, v_12 hV1, v_13 hV1, v_14 hV1, v_15 hV1, v_16 hV1]
        refine k45 hw H (by decide) hV1 I h1.2.1.2 hg ht ?_
        intro D2 s2
        simp only [b161_62 hw, b161_66 hw, wi_some, or_0, or_1, bo_or, ite_boP, true_and, and_true, kN_v, kN_n, kT_v, kT_n, kT_e, Nat.add_zero, Nat.zero_add]
        exact lp D2 _ _ (h1.sl s2) ((s1.tr s2).cs.fc hx) (by unfold oddD; rw [htr])
theorem m_odds {x y : Int32} (hw : WT sh) (HS : SP sh) (hv : GV G) (h : GR D G) (kk : ∀ D', Ms D D' → D' 286 0 = Int32.ofNat (th (o_odds G x y)) → Q (.inl (some (.int (rv (o_odds G x y))))) (mk sh D') c s) : Wx (tP nx xs) (d + 10) 339 0 [some (.ref 286), (some (.int (x))), (some (.int (y))), none, none, none, none] [] (mk sh D) c s Q := by
  have h1 := h.ms hv (Ms.rf.th (v := Int32.ofNat 0))
  have hng := i_ng6 hv.1
  have hnr := i_nr5 hv.1
  have v5 : 5 < 11 := by decide
  have n10 : ¬ (Int32.ofNat 1 : Int32) = Int32.ofNat 0 := by decide
  unfold o_odds at kk
  simp only [b339_0 hw, b339_5 hw, b339_11 hw, mI_thrown HS, mF_thrown HS, mR_row HS, mR_image HS, mR_earlier HS, mR_trial HS, mR_acts HS, mI_hasImage HS, mF_hasImage HS, mI_remembered HS, mF_remembered HS, mR_tape HS, mI_taped HS, mF_taped HS, mI_point HS, mF_point HS, mI_end HS, mF_end HS, mI_begin HS, mF_begin HS, mI_deep HS, mF_deep HS, mI_faultAt HS, mF_faultAt HS, mR_five HS, mI_codes HS, mF_codes HS, mR_value HS, mI_so HS, mF_so HS, mR_lines HS, mR_chosen HS, mR_best HS, mR_members HS, mR_paired HS, mO HS, mA_287 HS, mW_287 HS, mA_288 HS, mW_288 HS, mA_289 HS, mW_289 HS, mA_290 HS, mW_290 HS, mA_291 HS, mW_291 HS, mA_292 HS, mW_292 HS, mA_293 HS, mW_293 HS, mA_294 HS, mW_294 HS, mA_295 HS, mW_295 HS, mA_296 HS, mW_296 HS, mA_297 HS, mW_297 HS, mA_298 HS, mW_298 HS, mA_299 HS, mW_299 HS, wi_some, or_0, or_1, bo_or, ite_boP, true_and, and_true, kN_v, kN_n, kT_v, kT_n, kT_e, Nat.add_zero, Nat.zero_add, k211 hw HS hv h1, k187 hw HS, b339_15 hw]
  cases hi : ixO x (gg G.1) with
  | none =>
    simp only [hi, Option.isNone_none, if_true, th, rv, b339_40 hw] at kk ⊢
    exact kk _ Ms.rf.th.th (by simp [u2_at])
  | some g =>
    obtain ⟨hg, rfl⟩ := ixO_some (by omega) hi
    have hg6 : g < 6 := by omega
    simp only [hi, Option.isNone_some, Bool.false_eq_true, if_false, k188 hw, in4, wi_some, or_0, or_1, bo_or, ite_boP, true_and, and_true, kN_v, kN_n, kT_v, kT_n, kT_e, Nat.add_zero, Nat.zero_add, b339_25 hw, b339_33 hw, mI_thrown HS, mF_thrown HS, mR_row HS, mR_image HS, mR_earlier HS, mR_trial HS, mR_acts HS, mI_hasImage HS, mF_hasImage HS, mI_remembered HS, mF_remembered HS, mR_tape HS, mI_taped HS, mF_taped HS, mI_point HS, mF_point HS, mI_end HS, mF_end HS, mI_begin HS, mF_begin HS, mI_deep HS, mF_deep HS, mI_faultAt HS, mF_faultAt HS, mR_five HS, mI_codes HS, mF_codes HS, mR_value HS, mI_so HS, mF_so HS, mR_lines HS, mR_chosen HS, mR_best HS, mR_members HS, mR_paired HS, mO HS, mA_287 HS, mW_287 HS, mA_288 HS, mW_288 HS, mA_289 HS, mW_289 HS, mA_290 HS, mW_290 HS, mA_291 HS, mW_291 HS, mA_292 HS, mW_292 HS, mA_293 HS, mW_293 HS, mA_294 HS, mW_294 HS, mA_295 HS, mW_295 HS, mA_296 HS, mW_296 HS, mA_297 HS, mW_297 HS, mA_298 HS, mW_298 HS, mA_299 HS, mW_299 HS] at kk ⊢
    cases hj : ixO y 5 with
    | none =>
      simp only [hj, Option.isSome_none, Bool.false_eq_true, if_false, k187t hw HS, wi_some, or_0, or_1, bo_or, ite_boP, true_and, and_true, kN_v, kN_n, kT_v, kT_n, kT_e, Nat.add_zero, Nat.zero_add, b339_37 hw, n10, b339_40 hw, th, rv] at kk ⊢
      exact kk _ Ms.rf.th.th (by simp [u2_at])
    | some n =>
      obtain ⟨hn, rfl⟩ := ixO_some (by decide) hj
      simp only [hj, Option.isSome_some, if_true, k187f hw HS, wi_some, or_0, or_1, bo_or, ite_boP, true_and, and_true, kN_v, kN_n, kT_v, kT_n, kT_e, Nat.add_zero, Nat.zero_add, b339_37 hw, mI_thrown HS, mF_thrown HS, mR_row HS, mR_image HS, mR_earlier HS, mR_trial HS, mR_acts HS, mI_hasImage HS, mF_hasImage HS, mI_remembered HS, mF_remembered HS, mR_tape HS, mI_taped HS, mF_taped HS, mI_point HS, mF_point HS, mI_end HS, mF_end HS, mI_begin HS, mF_begin HS, mI_deep HS, mF_deep HS, mI_faultAt HS, mF_faultAt HS, mR_five HS, mI_codes HS, mF_codes HS, mR_value HS, mI_so HS, mF_so HS, mR_lines HS, mR_chosen HS, mR_best HS, mR_members HS, mR_paired HS, mO HS, mA_287 HS, mW_287 HS, mA_288 HS, mW_288 HS, mA_289 HS, mW_289 HS, mA_290 HS, mW_290 HS, mA_291 HS, mW_291 HS, mA_292 HS, mW_292 HS, mA_293 HS, mW_293 HS, mA_294 HS, mW_294 HS, mA_295 HS, mW_295 HS, mA_296 HS, mW_296 HS, mA_297 HS, mW_297 HS, mA_298 HS, mW_298 HS, mA_299 HS, mW_299 HS, th, rv] at kk ⊢
      have lp : ∀ D1 l3 dr, Ms D D1 → D1 286 0 = Int32.ofNat 0 → oddD G.1 g = dr → Wx (tP nx xs) (d + 10) 339 89 [some (.ref 286), (some (.int (Int32.ofNat g))), (some (.int (Int32.ofNat n))), (some (.int (l3))), (some (.int (dr))), (some (.int (Int32.ofNat 10000))), (some (.int (Int32.ofNat 0)))] [] (mk sh D1) c s Q := by
        intro D1 l3 dr h1 f1 hd
        have kk := kk D1 h1 f1
        rw [hd] at kk
        have e := (up_loop (W := fun i z => Wx (tP nx xs) (d + 10) 339 89 [some (.ref 286), (some (.int (Int32.ofNat g))), (some (.int (Int32.ofNat n))), (some (.int (l3))), (some (.int (dr))), (some (.int (z))), (some (.int (Int32.ofNat i)))] [] (mk sh D1) c s Q) (F := fun _ z => (z * (Int32.ofNat 100 - dr)) / Int32.ofNat 100) n (fun i z hi => by
          rw [b339_89 hw]
          simp only [oN_lt (show i < 2147483648 by omega) (show n < 2147483648 by omega), hi, if_true, oN_add]) (Int32.ofNat 10000))
        rw [e, b339_89 hw]
        simp only [oN_lt (show n < 2147483648 by omega) (show n < 2147483648 by omega), Nat.lt_irrefl, if_false]
        exact kk
      refine k258 hw HS h1.1.1 hv.1 h1.1.2 hg ?_
      intro D2 s2
      have m2 : Ms D D2 := Ms.rf.th.tr (s2.ms (by decide) (by decide))
      have h2 := h.ms hv m2
      have t2 : D2 286 0 = Int32.ofNat 0 := by rw [s2 286 (by decide)]; simp [u2_at]
      simp only [b339_47 hw, wi_some, or_0, or_1, bo_or, ite_boP, true_and, and_true, kN_v, kN_n, kT_v, kT_n, kT_e, Nat.add_zero, Nat.zero_add]
      cases htr : trainL (gw G.1) (gV G.1) (gg G.1) (gr G.1) g with
      | none =>
        simp only [opI, if_true, b339_79 hw]
        exact lp D2 _ _ m2 t2 (by unfold oddD; rw [htr])
      | some t =>
        obtain ⟨ht, _⟩ := trainL_lt htr
        simp only [opI, oN_ne1 (show t < 2147483648 by omega), if_false, mI_thrown HS, mF_thrown HS, mR_row HS, mR_image HS, mR_earlier HS, mR_trial HS, mR_acts HS, mI_hasImage HS, mF_hasImage HS, mI_remembered HS, mF_remembered HS, mR_tape HS, mI_taped HS, mF_taped HS, mI_point HS, mF_point HS, mI_end HS, mF_end HS, mI_begin HS, mF_begin HS, mI_deep HS, mF_deep HS, mI_faultAt HS, mF_faultAt HS, mR_five HS, mI_codes HS, mF_codes HS, mR_value HS, mI_so HS, mF_so HS, mR_lines HS, mR_chosen HS, mR_best HS, mR_members HS, mR_paired HS, mO HS, mA_287 HS, mW_287 HS, mA_288 HS, mW_288 HS, mA_289 HS, mW_289 HS, mA_290 HS, mW_290 HS, mA_291 HS, mW_291 HS, mA_292 HS, mW_292 HS, mA_293 HS, mW_293 HS, mA_294 HS, mW_294 HS, mA_295 HS, mW_295 HS, mA_296 HS, mW_296 HS, mA_297 HS, mW_297 HS, mA_298 HS, mW_298 HS, mA_299 HS, mW_299 HS, wi_some, or_0, or_1, bo_or, ite_boP, true_and, and_true, kN_v, kN_n, kT_v, kT_n, kT_e, Nat.add_zero, Nat.zero_add, k203 hw HS hg6 v5, r_nerve h2.1.1 hg, b339_66 hw]
        refine k254 hw HS h2.1.1 hv.1 h2.1.2 hg ht ?_
        intro D3 s3
        simp only [b339_72 hw, b339_79 hw, wi_some, or_0, or_1, bo_or, ite_boP, true_and, and_true, kN_v, kN_n, kT_v, kT_n, kT_e, Nat.add_zero, Nat.zero_add]
        refine lp D3 _ _ (m2.tr (s3.ms (by decide) (by decide))) (by rw [s3 286 (by decide)]; exact t2) ?_
        unfold oddD
        rw [htr]
        obtain ⟨n', hn', en'⟩ := i_nerve hv.1 hg
        obtain ⟨q, hq, eq⟩ := h.1.2.N (gV G.1) (gg G.1) g t (Int32.ofNat 1)
        unfold fearL
        simp only
        rw [eq, show gV G.1 10 g = Int32.ofNat n' from en', mn100 (by omega) hq]
end C65
