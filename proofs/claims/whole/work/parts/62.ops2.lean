/-! ===== calls that only look: (2) ===== -/
def wthS (V : sD) (nt : Nat) (set : Int32) : Int32 := fo (fun t x => if bt set t then x + V 3 t else x) nt 0 (Int32.ofNat 0)
theorem p2_g : ∀ g, g < 6 → jshl (Int32.ofNat 1) (Int32.ofNat g) = Int32.ofNat (2 ^ g) := by decide +kernel
section C62
variable {nx : Nat} {xs : Nat → Int32} {d c s : Nat} {sh : List sC} {D : sD} {Q : av_Q}
variable {G : GT}
theorem k79 {V : sD} {a nt ng nr nl : Nat} {x : Int32} (hw : WT sh) (H : St sh a) (hV : Vw D a V) (I : Iv V nt ng nr nl) : Wx (tP nx xs) d 79 0 [some (.ref (a + 1)), (some (.int (x))), none, none] [] (mk sh D) c s Q = Q (.inl (some (.int (wthS V nt x)))) (mk sh D) c s := by
  have hn := i_nt8 I
  simp only [b79_0 hw]
  refine (up_loop (W := fun i y => Wx (tP nx xs) d 79 4 [some (.ref (a + 1)), (some (.int (x))), (some (.int (y))), (some (.int (Int32.ofNat i)))] [] (mk sh D) c s Q) (F := fun t y => if bt x t then y + V 3 t else y) nt (fun i y hi => ?_) _).trans ?_
  · have hi8 : i < 8 := by omega
    rw [b79_4 hw]
    simp only [b79_29 hw, sR_things H, sI_goers H, sF_goers H, sR_wish H, sR_deed H, sI_makers H, sF_makers H, sR_born H, sR_money H, sR_nerve H, sR_shuns H, sR_by H, sI_trains H, sF_trains H, sR_halts H, sR_seats H, sI_texts H, sF_texts H, sI_law H, sF_law H, sI_day H, sF_day H, sI_seed H, sF_seed H, sR_log H, sO_state H, sI_count H, sF_count H, sI_first H, sF_first H, sR_at H, sR_worth H, sR_makes H, sR_hinders H, sO_things H, sI_rows H, sF_rows H, sR_entries H, sO_log H, sA_2 H, sW_2 H, sA_3 H, sW_3 H, sA_4 H, sW_4 H, sA_5 H, sW_5 H, sA_6 H, sW_6 H, sA_7 H, sW_7 H, sA_8 H, sW_8 H, sA_9 H, sW_9 H, sA_10 H, sW_10 H, sA_11 H, sW_11 H, sA_12 H, sW_12 H, sA_13 H, sW_13 H, sA_14 H, sW_14 H, sA_16 H, sW_16 H, wi_some, or_0, or_1, bo_or, ite_boP, true_and, and_true, kN_v, kN_n, kT_v, kT_n, kT_e, Nat.add_zero, Nat.zero_add, v_0 hV, v_1 hV, v_2 hV, v_3 hV, v_4 hV, v_5 hV, v_6 hV, v_7 hV, v_8 hV, v_9 hV, v_10 hV, v_11 hV, v_12 hV, v_13 hV, v_14 hV, v_15 hV, v_16 hV, i_nt I, oN_lt (show i < 2147483648 by omega) (show nt < 2147483648 by omega), hi, if_true, hi8, jshr_b (show i < 32 by omega), oN_add]
    cases bt x i <;> rfl
  · rw [b79_4 hw]
    simp only [sR_things H, sI_goers H, sF_goers H, sR_wish H, sR_deed H, sI_makers H, sF_makers H, sR_born H, sR_money H, sR_nerve H, sR_shuns H, sR_by H, sI_trains H, sF_trains H, sR_halts H, sR_seats H, sI_texts H, sF_texts H, sI_law H, sF_law H, sI_day H, sF_day H, sI_seed H, sF_seed H, sR_log H, sO_state H, sI_count H, sF_count H, sI_first H, sF_first H, sR_at H, sR_worth H, sR_makes H, sR_hinders H, sO_things H, sI_rows H, sF_rows H, sR_entries H, sO_log H, sA_2 H, sW_2 H, sA_3 H, sW_3 H, sA_4 H, sW_4 H, sA_5 H, sW_5 H, sA_6 H, sW_6 H, sA_7 H, sW_7 H, sA_8 H, sW_8 H, sA_9 H, sW_9 H, sA_10 H, sW_10 H, sA_11 H, sW_11 H, sA_12 H, sW_12 H, sA_13 H, sW_13 H, sA_14 H, sW_14 H, sA_16 H, sW_16 H, wi_some, or_0, or_1, bo_or, ite_boP, true_and, and_true, kN_v, kN_n, kT_v, kT_n, kT_e, Nat.add_zero, Nat.zero_add, v_0 hV, v_1 hV, v_2 hV, v_3 hV, v_4 hV, v_5 hV, v_6 hV, v_7 hV, v_8 hV, v_9 hV, v_10 hV, v_11 hV, v_12 hV, v_13 hV, v_14 hV, v_15 hV, v_16 hV, i_nt I, oN_lt (show nt < 2147483648 by omega) (show nt < 2147483648 by omega), Nat.lt_irrefl, if_false]
    rfl
theorem k279 {V : sD} {nt ng nr nl : Nat} {x : Int32} (hw : WT sh) (HS : SP sh) (R : Rw (D 287) V nt ng nr nl) (I : Iv V nt ng nr nl) : Wx (tP nx xs) (d + 2) 279 0 [some (.ref 286), (some (.int (x))), none, none] [] (mk sh D) c s Q = Q (.inl (some (.int (wthS V nt x)))) (mk sh D) c s := by
  have hn := i_nt8 I
  have w2 : 2 < 8 := by decide
  have z0 : ∀ y : Int32, y + Int32.ofNat 0 = y := fun y => Int32.add_zero y
  simp only [b279_0 hw]
  refine (up_loop (W := fun i y => Wx (tP nx xs) (d + 2) 279 4 [some (.ref 286), (some (.int (x))), (some (.int (y))), (some (.int (Int32.ofNat i)))] [] (mk sh D) c s Q) (F := fun t y => if bt x t then y + V 3 t else y) nt (fun i y hi => ?_) _).trans ?_
  · have hi8 : i < 8 := by omega
    rw [b279_4 hw]
    simp only [b279_9 hw, b279_18 hw, b279_27 hw, b279_31 hw, mI_thrown HS, mF_thrown HS, mR_row HS, mR_image HS, mR_earlier HS, mR_trial HS, mR_acts HS, mI_hasImage HS, mF_hasImage HS, mI_remembered HS, mF_remembered HS, mR_tape HS, mI_taped HS, mF_taped HS, mI_point HS, mF_point HS, mI_end HS, mF_end HS, mI_begin HS, mF_begin HS, mI_deep HS, mF_deep HS, mI_faultAt HS, mF_faultAt HS, mR_five HS, mI_codes HS, mF_codes HS, mR_value HS, mI_so HS, mF_so HS, mR_lines HS, mR_chosen HS, mR_best HS, mR_members HS, mR_paired HS, mO HS, mA_287 HS, mW_287 HS, mA_288 HS, mW_288 HS, mA_289 HS, mW_289 HS, mA_290 HS, mW_290 HS, mA_291 HS, mW_291 HS, mA_292 HS, mW_292 HS, mA_293 HS, mW_293 HS, mA_294 HS, mW_294 HS, mA_295 HS, mW_295 HS, mA_296 HS, mW_296 HS, mA_297 HS, mW_297 HS, mA_298 HS, mW_298 HS, mA_299 HS, mW_299 HS, wi_some, or_0, or_1, bo_or, ite_boP, true_and, and_true, kN_v, kN_n, kT_v, kT_n, kT_e, Nat.add_zero, Nat.zero_add, k197 hw HS, r_nt R, oN_lt (show i < 2147483648 by omega) (show nt < 2147483648 by omega), hi, if_true, k189 hw (show i < 32 by omega), k201 hw HS hi8 w2, r_worth R hi, oN_add, z0]
    cases bt x i <;> rfl
  · rw [b279_4 hw]
    simp only [b279_9 hw, mI_thrown HS, mF_thrown HS, mR_row HS, mR_image HS, mR_earlier HS, mR_trial HS, mR_acts HS, mI_hasImage HS, mF_hasImage HS, mI_remembered HS, mF_remembered HS, mR_tape HS, mI_taped HS, mF_taped HS, mI_point HS, mF_point HS, mI_end HS, mF_end HS, mI_begin HS, mF_begin HS, mI_deep HS, mF_deep HS, mI_faultAt HS, mF_faultAt HS, mR_five HS, mI_codes HS, mF_codes HS, mR_value HS, mI_so HS, mF_so HS, mR_lines HS, mR_chosen HS, mR_best HS, mR_members HS, mR_paired HS, mO HS, mA_287 HS, mW_287 HS, mA_288 HS, mW_288 HS, mA_289 HS, mW_289 HS, mA_290 HS, mW_290 HS, mA_291 HS, mW_291 HS, mA_292 HS, mW_292 HS, mA_293 HS, mW_293 HS, mA_294 HS, mW_294 HS, mA_295 HS, mW_295 HS, mA_296 HS, mW_296 HS, mA_297 HS, mW_297 HS, mA_298 HS, mW_298 HS, mA_299 HS, mW_299 HS, wi_some, or_0, or_1, bo_or, ite_boP, true_and, and_true, kN_v, kN_n, kT_v, kT_n, kT_e, Nat.add_zero, Nat.zero_add, k197 hw HS, r_nt R, oN_lt (show nt < 2147483648 by omega) (show nt < 2147483648 by omega), Nat.lt_irrefl, if_false]
    rfl
/-! noSuch, noTwo -/
theorem k187t {n : Int32} (hw : WT sh) (HS : SP sh) : Wx (tP nx xs) d 187 0 [some (.ref 286), (some (.int (Int32.ofNat 1))), (some (.int (n)))] [] (mk sh D) c s Q = Q (.inl (some (.int (Int32.ofNat 1)))) (mk sh (u2 D 286 0 n)) c s := k187 (p := true) hw HS
theorem k187f {n : Int32} (hw : WT sh) (HS : SP sh) : Wx (tP nx xs) d 187 0 [some (.ref 286), (some (.int (Int32.ofNat 0))), (some (.int (n)))] [] (mk sh D) c s Q = Q (.inl (some (.int (Int32.ofNat 0)))) (mk sh D) c s := k187 (p := false) hw HS
theorem k288 {x y : Int32} (hw : WT sh) (HS : SP sh) (hv : GV G) (h : GR D G) : Wx (tP nx xs) (d + 2) 288 0 [some (.ref 286), (some (.int (x))), (some (.int (y)))] [] (mk sh D) c s Q = match ixO x (gg G.1), ixO y (gr G.1) with
    | some _, some _ => Q (.inl (some (.int (Int32.ofNat 0)))) (mk sh (u2 D 286 0 (Int32.ofNat 0))) c s
    | _, _ => Q (.inl (some (.int (Int32.ofNat 1)))) (mk sh (u2 (u2 D 286 0 (Int32.ofNat 0)) 286 0 (Int32.ofNat 1))) c s := by
  have h1 := h.ms hv (Ms.rf.th (v := Int32.ofNat 0))
  simp only [b288_0 hw, b288_5 hw, b288_11 hw, mI_thrown HS, mF_thrown HS, mR_row HS, mR_image HS, mR_earlier HS, mR_trial HS, mR_acts HS, mI_hasImage HS, mF_hasImage HS, mI_remembered HS, mF_remembered HS, mR_tape HS, mI_taped HS, mF_taped HS, mI_point HS, mF_point HS, mI_end HS, mF_end HS, mI_begin HS, mF_begin HS, mI_deep HS, mF_deep HS, mI_faultAt HS, mF_faultAt HS, mR_five HS, mI_codes HS, mF_codes HS, mR_value HS, mI_so HS, mF_so HS, mR_lines HS, mR_chosen HS, mR_best HS, mR_members HS, mR_paired HS, mO HS, mA_287 HS, mW_287 HS, mA_288 HS, mW_288 HS, mA_289 HS, mW_289 HS, mA_290 HS, mW_290 HS, mA_291 HS, mW_291 HS, mA_292 HS, mW_292 HS, mA_293 HS, mW_293 HS, mA_294 HS, mW_294 HS, mA_295 HS, mW_295 HS, mA_296 HS, mW_296 HS, mA_297 HS, mW_297 HS, mA_298 HS, mW_298 HS, mA_299 HS, mW_299 HS, wi_some, or_0, or_1, bo_or, ite_boP, true_and, and_true, kN_v, kN_n, kT_v, kT_n, kT_e, Nat.add_zero, Nat.zero_add, k211 hw HS hv h1, k212 hw HS hv h1, b288_19 hw, b288_22 hw, b288_27 hw, b288_31 hw, k187t hw HS, k187f hw HS]
  cases ixO x (gg G.1) with
  | none => simp only [Option.isNone_none, if_true]
  | some g =>
    simp only [Option.isNone_some, Bool.false_eq_true, if_false]
    cases ixO y (gr G.1) with
    | none => simp only [Option.isNone_none, if_true]
    | some t => simp only [Option.isNone_some, Bool.false_eq_true, if_false]
theorem k299 {x y : Int32} (hw : WT sh) (HS : SP sh) (hv : GV G) (h : GR D G) : Wx (tP nx xs) (d + 2) 299 0 [some (.ref 286), (some (.int (x))), (some (.int (y)))] [] (mk sh D) c s Q = match ixO x (gg G.1), ixO y (gg G.1) with
    | some _, some _ => if x = y then Q (.inl (some (.int (Int32.ofNat 1)))) (mk sh (u2 (u2 D 286 0 (Int32.ofNat 0)) 286 0 (Int32.ofNat 2))) c s else Q (.inl (some (.int (Int32.ofNat 0)))) (mk sh (u2 D 286 0 (Int32.ofNat 0))) c s
    | _, _ => Q (.inl (some (.int (Int32.ofNat 1)))) (mk sh (u2 (u2 D 286 0 (Int32.ofNat 0)) 286 0 (Int32.ofNat 1))) c s := by
  have h1 := h.ms hv (Ms.rf.th (v := Int32.ofNat 0))
  have n10 : ¬ (Int32.ofNat 1 : Int32) = Int32.ofNat 0 := by decide
  simp only [b299_0 hw, b299_5 hw, b299_11 hw, mI_thrown HS, mF_thrown HS, mR_row HS, mR_image HS, mR_earlier HS, mR_trial HS, mR_acts HS, mI_hasImage HS, mF_hasImage HS, mI_remembered HS, mF_remembered HS, mR_tape HS, mI_taped HS, mF_taped HS, mI_point HS, mF_point HS, mI_end HS, mF_end HS, mI_begin HS, mF_begin HS, mI_deep HS, mF_deep HS, mI_faultAt HS, mF_faultAt HS, mR_five HS, mI_codes HS, mF_codes HS, mR_value HS, mI_so HS, mF_so HS, mR_lines HS, mR_chosen HS, mR_best HS, mR_members HS, mR_paired HS, mO HS, mA_287 HS, mW_287 HS, mA_288 HS, mW_288 HS, mA_289 HS, mW_289 HS, mA_290 HS, mW_290 HS, mA_291 HS, mW_291 HS, mA_292 HS, mW_292 HS, mA_293 HS, mW_293 HS, mA_294 HS, mW_294 HS, mA_295 HS, mW_295 HS, mA_296 HS, mW_296 HS, mA_297 HS, mW_297 HS, mA_298 HS, mW_298 HS, mA_299 HS, mW_299 HS, wi_some, or_0, or_1, bo_or, ite_boP, true_and, and_true, kN_v, kN_n, kT_v, kT_n, kT_e, Nat.add_zero, Nat.zero_add, k211 hw HS hv h1, b299_19 hw, b299_22 hw, b299_27 hw, b299_31 hw, b299_45 hw, b299_49 hw, b299_52 hw, b299_57 hw, k187t hw HS, k187f hw HS, n10, if_false, if_true]
  cases ixO x (gg G.1) with
  | none => simp only [Option.isNone_none, if_true]
  | some g =>
    simp only [Option.isNone_some, Bool.false_eq_true, if_false]
    cases ixO y (gg G.1) with
    | none => simp only [Option.isNone_none, if_true]
    | some t => simp only [Option.isNone_some, Bool.false_eq_true, if_false]
/-! cost, fear, may -/
def o_gt (G : GT) (f : Nat → Nat → Int32) (x y : Int32) : Int32 ⊕ Nat := match ixO x (gg G.1), ixO y (gr G.1) with
  | some g, some t => .inl (f g t)
  | _, _ => .inr 1
def o_cost (G : GT) : Int32 → Int32 → Int32 ⊕ Nat := o_gt G fun g t => costL (gw G.1) (gV G.1) (gg G.1) g t
def o_fear (G : GT) : Int32 → Int32 → Int32 ⊕ Nat := o_gt G fun g t => fearL (gw G.1) (gV G.1) (gg G.1) g t
def o_may (G : GT) : Int32 → Int32 → Int32 ⊕ Nat := o_gt G fun g t => bo (canL (gw G.1) (gV G.1) (gg G.1) g t)
theorem GC.sl (h : GC sh D G) {D' : sD} (s1 : Sl ((gV G.1) 0 14) D D') : GC sh D' G := by
  have hx := h.L
  exact h.cs s1.cs (by unfold frW Wf at *; rw [s1 0 (fun p hp => by have := hx p hp; omega), s1 (265 + 1) (fun p hp => by have := hx p hp; omega), s1 (265 + 2) (fun p hp => by have := hx p hp; omega), s1 282 (fun p hp => by have := hx p hp; omega)]; exact h.2.2.2.2.2.2)
theorem c_cost {x y : Int32} (hv : GV G) (h : GC sh D G) (kk : ∀ D', GC sh D' G → Fc D D' → Q (oQ (fun _ => xIO) (o_cost G x y)) (mk sh D') (c + o1 (o_cost G x y)) (s + 6 * o1 (o_cost G x y))) : Wx (tP nx xs) (d + 4) 107 0 [some (.ref 0), (some (.int (x))), (some (.int (y)))] [] (mk sh D) c s Q := by
  have hw := h.1.2
  have HS := h.1.1
  have H := St_state HS
  have I := hv.1
  have hV := h.2.1.1
  have hng := i_ng6 I
  have hnt := i_nt8 I
  have hnr := i_nr5 I
  have hnl := i_nl60 I
  have hx := h.L
  have hL := h.2.1.2
  unfold o_cost o_gt at kk
  simp only [b107_0 hw, xR_tape HS, xI_wrongAt HS, xF_wrongAt HS, xR_state HS, xR_image HS, xI_imageKept HS, xF_imageKept HS, xR_draft HS, xR_memory HS, xR_lawText HS, xR_worlds HS, xI_worldsFresh HS, xF_worldsFresh HS, xR_otherWorlds HS, xR_seating HS, xR_pairing HS, xI_toldSo HS, xF_toldSo HS, xI_toldNot HS, xF_toldNot HS, xO HS, wi_some, or_0, or_1, bo_or, ite_boP, true_and, and_true, kN_v, kN_n, kT_v, kT_n, kT_e, Nat.add_zero, Nat.zero_add, k181 hv h]
  cases hi : ixO x (gg G.1) with
  | none => simp only [hi, oQ, o1, wi_some, or_0, or_1, bo_or, ite_boP, true_and, and_true, kN_v, kN_n, kT_v, kT_n, kT_e, Nat.add_zero, Nat.zero_add] at kk ⊢; exact kk D h Fc.rf
  | some g =>
    obtain ⟨hg, rfl⟩ := ixO_some (by omega) hi
    simp only [wi_some, or_0, or_1, bo_or, ite_boP, true_and, and_true, kN_v, kN_n, kT_v, kT_n, kT_e, Nat.add_zero, Nat.zero_add, b107_5 hw, xR_tape HS, xI_wrongAt HS, xF_wrongAt HS, xR_state HS, xR_image HS, xI_imageKept HS, xF_imageKept HS, xR_draft HS, xR_memory HS, xR_lawText HS, xR_worlds HS, xI_worldsFresh HS, xF_worldsFresh HS, xR_otherWorlds HS, xR_seating HS, xR_pairing HS, xI_toldSo HS, xF_toldSo HS, xI_toldNot HS, xF_toldNot HS, xO HS, k183 hv h]
    cases hj : ixO y (gr G.1) with
    | none => simp only [hi, hj, oQ, o1, wi_some, or_0, or_1, bo_or, ite_boP, true_and, and_true, kN_v, kN_n, kT_v, kT_n, kT_e, Nat.add_zero, Nat.zero_add] at kk ⊢; exact kk D h Fc.rf
    | some t =>
      obtain ⟨ht, rfl⟩ := ixO_some (by omega) hj
      simp only [hi, hj, oQ, o1, wi_some, or_0, or_1, bo_or, ite_boP, true_and, and_true, kN_v, kN_n, kT_v, kT_n, kT_e, Nat.add_zero, Nat.zero_add, Nat.mul_zero, b107_10 hw, xR_tape HS, xI_wrongAt HS, xF_wrongAt HS, xR_state HS, xR_image HS, xI_imageKept HS, xF_imageKept HS, xR_draft HS, xR_memory HS, xR_lawText HS, xR_worlds HS, xI_worldsFresh HS, xF_worldsFresh HS, xR_otherWorlds HS, xR_seating HS, xR_pairing HS, xI_toldSo HS, xF_toldSo HS, xI_toldNot HS, xF_toldNot HS, xO HS, sR_things H, sI_goers H, sF_goers H, sR_wish H, sR_deed H, sI_makers H, sF_makers H, sR_born H, sR_money H, sR_nerve H, sR_shuns H, sR_by H, sI_trains H, sF_trains H, sR_halts H, sR_seats H, sI_texts H, sF_texts H, sI_law H, sF_law H, sI_day H, sF_day H, sI_seed H, sF_seed H, sR_log H, sO_state H, sI_count H, sF_count H, sI_first H, sF_first H, sR_at H, sR_worth H, sR_makes H, sR_hinders H, sO_things H, sI_rows H, sF_rows H, sR_entries H, sO_log H, sA_2 H, sW_2 H, sA_3 H, sW_3 H, sA_4 H, sW_4 H, sA_5 H, sW_5 H, sA_6 H, sW_6 H, sA_7 H, sW_7 H, sA_8 H, sW_8 H, sA_9 H, sW_9 H, sA_10 H, sW_10 H, sA_11 H, sW_11 H, sA_12 H, sW_12 H, sA_13 H, sW_13 H, sA_14 H, sW_14 H, sA_16 H, sW_16 H] at kk ⊢
      refine k44 hw H (by decide) hV I hL hg ht ?_
      intro D1 s1
      simp only [b107_0 hw, b107_5 hw, b107_10 hw, b107_19 hw, wi_some, or_0, or_1, bo_or, ite_boP, true_and, and_true, kN_v, kN_n, kT_v, kT_n, kT_e, Nat.add_zero, Nat.zero_add]
      exact kk D1 (h.sl s1) (s1.cs.fc hx)
theorem c_fear {x y : Int32} (hv : GV G) (h : GC sh D G) (kk : ∀ D', GC sh D' G → Fc D D' → Q (oQ (fun _ => xIO) (o_fear G x y)) (mk sh D') (c + o1 (o_fear G x y)) (s + 6 * o1 (o_fear G x y))) : Wx (tP nx xs) (d + 4) 108 0 [some (.ref 0), (some (.int (x))), (some (.int (y)))] [] (mk sh D) c s Q := by
  have hw := h.1.2
  have HS := h.1.1
  have H := St_state HS
  have I := hv.1
  have hV := h.2.1.1
  have hng := i_ng6 I
  have hnt := i_nt8 I
  have hnr := i_nr5 I
  have hnl := i_nl60 I
  have hx := h.L
  have hL := h.2.1.2
  unfold o_fear o_gt at kk
  simp only [b108_0 hw, xR_tape HS, xI_wrongAt HS, xF_wrongAt HS, xR_state HS, xR_image HS, xI_imageKept HS, xF_imageKept HS, xR_draft HS, xR_memory HS, xR_lawText HS, xR_worlds HS, xI_worldsFresh HS, xF_worldsFresh HS, xR_otherWorlds HS, xR_seating HS, xR_pairing HS, xI_toldSo HS, xF_toldSo HS, xI_toldNot HS, xF_toldNot HS, xO HS, wi_some, or_0, or_1, bo_or, ite_boP, true_and, and_true, kN_v, kN_n, kT_v, kT_n, kT_e, Nat.add_zero, Nat.zero_add, k181 hv h]
  cases hi : ixO x (gg G.1) with
  | none => simp only [hi, oQ, o1, wi_some, or_0, or_1, bo_or, ite_boP, true_and, and_true, kN_v, kN_n, kT_v, kT_n, kT_e, Nat.add_zero, Nat.zero_add] at kk ⊢; exact kk D h Fc.rf
  | some g =>
    obtain ⟨hg, rfl⟩ := ixO_some (by omega) hi
    simp only [wi_some, or_0, or_1, bo_or, ite_boP, true_and, and_true, kN_v, kN_n, kT_v, kT_n, kT_e, Nat.add_zero, Nat.zero_add, b108_5 hw, xR_tape HS, xI_wrongAt HS, xF_wrongAt HS, xR_state HS, xR_image HS, xI_imageKept HS, xF_imageKept HS, xR_draft HS, xR_memory HS, xR_lawText HS, xR_worlds HS, xI_worldsFresh HS, xF_worldsFresh HS, xR_otherWorlds HS, xR_seating HS, xR_pairing HS, xI_toldSo HS, xF_toldSo HS, xI_toldNot HS, xF_toldNot HS, xO HS, k183 hv h]
    cases hj : ixO y (gr G.1) with
    | none => simp only [hi, hj, oQ, o1, wi_some, or_0, or_1, bo_or, ite_boP, true_and, and_true, kN_v, kN_n, kT_v, kT_n, kT_e, Nat.add_zero, Nat.zero_add] at kk ⊢; exact kk D h Fc.rf
    | some t =>
      obtain ⟨ht, rfl⟩ := ixO_some (by omega) hj
      simp only [hi, hj, oQ, o1, wi_some, or_0, or_1, bo_or, ite_boP, true_and, and_true, kN_v, kN_n, kT_v, kT_n, kT_e, Nat.add_zero, Nat.zero_add, Nat.mul_zero, b108_10 hw, xR_tape HS, xI_wrongAt HS, xF_wrongAt HS, xR_state HS, xR_image HS, xI_imageKept HS, xF_imageKept HS, xR_draft HS, xR_memory HS, xR_lawText HS, xR_worlds HS, xI_worldsFresh HS, xF_worldsFresh HS, xR_otherWorlds HS, xR_seating HS, xR_pairing HS, xI_toldSo HS, xF_toldSo HS, xI_toldNot HS, xF_toldNot HS, xO HS, sR_things H, sI_goers H, sF_goers H, sR_wish H, sR_deed H, sI_makers H, sF_makers H, sR_born H, sR_money H, sR_nerve H, sR_shuns H, sR_by H, sI_trains H, sF_trains H, sR_halts H, sR_seats H, sI_texts H, sF_texts H, sI_law H, sF_law H, sI_day H, sF_day H, sI_seed H, sF_seed H, sR_log H, sO_state H, sI_count H, sF_count H, sI_first H, sF_first H, sR_at H, sR_worth H, sR_makes H, sR_hinders H, sO_things H, sI_rows H, sF_rows H, sR_entries H, sO_log H, sA_2 H, sW_2 H, sA_3 H, sW_3 H, sA_4 H, sW_4 H, sA_5 H, sW_5 H, sA_6 H, sW_6 H, sA_7 H, sW_7 H, sA_8 H, sW_8 H, sA_9 H, sW_9 H, sA_10 H, sW_10 H, sA_11 H, sW_11 H, sA_12 H, sW_12 H, sA_13 H, sW_13 H, sA_14 H, sW_14 H, sA_16 H, sW_16 H] at kk ⊢
      refine k45 hw H (by decide) hV I hL hg ht ?_
      intro D1 s1
      simp only [b108_0 hw, b108_5 hw, b108_10 hw, b108_19 hw, wi_some, or_0, or_1, bo_or, ite_boP, true_and, and_true, kN_v, kN_n, kT_v, kT_n, kT_e, Nat.add_zero, Nat.zero_add]
      exact kk D1 (h.sl s1) (s1.cs.fc hx)
theorem c_may {x y : Int32} (hv : GV G) (h : GC sh D G) (kk : ∀ D', GC sh D' G → Fc D D' → Q (oQ (fun _ => xIO) (o_may G x y)) (mk sh D') (c + o1 (o_may G x y)) (s + 6 * o1 (o_may G x y))) : Wx (tP nx xs) (d + 4) 109 0 [some (.ref 0), (some (.int (x))), (some (.int (y)))] [] (mk sh D) c s Q := by
  have hw := h.1.2
  have HS := h.1.1
  have H := St_state HS
  have I := hv.1
  have hV := h.2.1.1
  have hng := i_ng6 I
  have hnt := i_nt8 I
  have hnr := i_nr5 I
  have hnl := i_nl60 I
  have hx := h.L
  have hL := h.2.1.2
  unfold o_may o_gt at kk
  simp only [b109_0 hw, xR_tape HS, xI_wrongAt HS, xF_wrongAt HS, xR_state HS, xR_image HS, xI_imageKept HS, xF_imageKept HS, xR_draft HS, xR_memory HS, xR_lawText HS, xR_worlds HS, xI_worldsFresh HS, xF_worldsFresh HS, xR_otherWorlds HS, xR_seating HS, xR_pairing HS, xI_toldSo HS, xF_toldSo HS, xI_toldNot HS, xF_toldNot HS, xO HS, wi_some, or_0, or_1, bo_or, ite_boP, true_and, and_true, kN_v, kN_n, kT_v, kT_n, kT_e, Nat.add_zero, Nat.zero_add, k181 hv h]
  cases hi : ixO x (gg G.1) with
  | none => simp only [hi, oQ, o1, wi_some, or_0, or_1, bo_or, ite_boP, true_and, and_true, kN_v, kN_n, kT_v, kT_n, kT_e, Nat.add_zero, Nat.zero_add] at kk ⊢; exact kk D h Fc.rf
  | some g =>
    obtain ⟨hg, rfl⟩ := ixO_some (by omega) hi
    simp only [wi_some, or_0, or_1, bo_or, ite_boP, true_and, and_true, kN_v, kN_n, kT_v, kT_n, kT_e, Nat.add_zero, Nat.zero_add, b109_5 hw, xR_tape HS, xI_wrongAt HS, xF_wrongAt HS, xR_state HS, xR_image HS, xI_imageKept HS, xF_imageKept HS, xR_draft HS, xR_memory HS, xR_lawText HS, xR_worlds HS, xI_worldsFresh HS, xF_worldsFresh HS, xR_otherWorlds HS, xR_seating HS, xR_pairing HS, xI_toldSo HS, xF_toldSo HS, xI_toldNot HS, xF_toldNot HS, xO HS, k183 hv h]
    cases hj : ixO y (gr G.1) with
    | none => simp only [hi, hj, oQ, o1, wi_some, or_0, or_1, bo_or, ite_boP, true_and, and_true, kN_v, kN_n, kT_v, kT_n, kT_e, Nat.add_zero, Nat.zero_add] at kk ⊢; exact kk D h Fc.rf
    | some t =>
      obtain ⟨ht, rfl⟩ := ixO_some (by omega) hj
      simp only [hi, hj, oQ, o1, wi_some, or_0, or_1, bo_or, ite_boP, true_and, and_true, kN_v, kN_n, kT_v, kT_n, kT_e, Nat.add_zero, Nat.zero_add, Nat.mul_zero, b109_10 hw, xR_tape HS, xI_wrongAt HS, xF_wrongAt HS, xR_state HS, xR_image HS, xI_imageKept HS, xF_imageKept HS, xR_draft HS, xR_memory HS, xR_lawText HS, xR_worlds HS, xI_worldsFresh HS, xF_worldsFresh HS, xR_otherWorlds HS, xR_seating HS, xR_pairing HS, xI_toldSo HS, xF_toldSo HS, xI_toldNot HS, xF_toldNot HS, xO HS, sR_things H, sI_goers H, sF_goers H, sR_wish H, sR_deed H, sI_makers H, sF_makers H, sR_born H, sR_money H, sR_nerve H, sR_shuns H, sR_by H, sI_trains H, sF_trains H, sR_halts H, sR_seats H, sI_texts H, sF_texts H, sI_law H, sF_law H, sI_day H, sF_day H, sI_seed H, sF_seed H, sR_log H, sO_state H, sI_count H, sF_count H, sI_first H, sF_first H, sR_at H, sR_worth H, sR_makes H, sR_hinders H, sO_things H, sI_rows H, sF_rows H, sR_entries H, sO_log H, sA_2 H, sW_2 H, sA_3 H, sW_3 H, sA_4 H, sW_4 H, sA_5 H, sW_5 H, sA_6 H, sW_6 H, sA_7 H, sW_7 H, sA_8 H, sW_8 H, sA_9 H, sW_9 H, sA_10 H, sW_10 H, sA_11 H, sW_11 H, sA_12 H, sW_12 H, sA_13 H, sW_13 H, sA_14 H, sW_14 H, sA_16 H, sW_16 H] at kk ⊢
      refine k46 hw H (by decide) hV I hL hg ht ?_
      intro D1 s1
      simp only [b109_0 hw, b109_5 hw, b109_10 hw, b109_19 hw, wi_some, or_0, or_1, bo_or, ite_boP, true_and, and_true, kN_v, kN_n, kT_v, kT_n, kT_e, Nat.add_zero, Nat.zero_add]
      exact kk D1 (h.sl s1) (s1.cs.fc hx)
theorem m_cost {x y : Int32} (hw : WT sh) (HS : SP sh) (hv : GV G) (h : GR D G) (kk : ∀ D', Ms D D' → D' 286 0 = Int32.ofNat (th (o_cost G x y)) → Q (.inl (some (.int (rv (o_cost G x y))))) (mk sh D') c s) : Wx (tP nx xs) (d + 8) 289 0 [some (.ref 286), (some (.int (x))), (some (.int (y)))] [] (mk sh D) c s Q := by
  have h1 := h.ms hv (Ms.rf.th (v := Int32.ofNat 0))
  have n10 : ¬ (Int32.ofNat 1 : Int32) = Int32.ofNat 0 := by decide
  unfold o_cost o_gt at kk
  simp only [b289_0 hw, mI_thrown HS, mF_thrown HS, mR_row HS, mR_image HS, mR_earlier HS, mR_trial HS, mR_acts HS, mI_hasImage HS, mF_hasImage HS, mI_remembered HS, mF_remembered HS, mR_tape HS, mI_taped HS, mF_taped HS, mI_point HS, mF_point HS, mI_end HS, mF_end HS, mI_begin HS, mF_begin HS, mI_deep HS, mF_deep HS, mI_faultAt HS, mF_faultAt HS, mR_five HS, mI_codes HS, mF_codes HS, mR_value HS, mI_so HS, mF_so HS, mR_lines HS, mR_chosen HS, mR_best HS, mR_members HS, mR_paired HS, mO HS, mA_287 HS, mW_287 HS, mA_288 HS, mW_288 HS, mA_289 HS, mW_289 HS, mA_290 HS, mW_290 HS, mA_291 HS, mW_291 HS, mA_292 HS, mW_292 HS, mA_293 HS, mW_293 HS, mA_294 HS, mW_294 HS, mA_295 HS, mW_295 HS, mA_296 HS, mW_296 HS, mA_297 HS, mW_297 HS, mA_298 HS, mW_298 HS, mA_299 HS, mW_299 HS, wi_some, or_0, or_1, bo_or, ite_boP, true_and, and_true, kN_v, kN_n, kT_v, kT_n, kT_e, Nat.add_zero, Nat.zero_add, k288 hw HS hv h]
  cases hi : ixO x (gg G.1) with
  | none =>
    simp only [hi, th, rv, b289_0 hw, b289_6 hw, b289_19 hw, wi_some, or_0, or_1, bo_or, ite_boP, true_and, and_true, kN_v, kN_n, kT_v, kT_n, kT_e, Nat.add_zero, Nat.zero_add, n10, if_false] at kk ⊢
    exact kk _ Ms.rf.th.th (by simp [u2_at])
  | some g =>
    cases hj : ixO y (gr G.1) with
    | none =>
      simp only [hi, hj, th, rv, b289_0 hw, b289_6 hw, b289_19 hw, wi_some, or_0, or_1, bo_or, ite_boP, true_and, and_true, kN_v, kN_n, kT_v, kT_n, kT_e, Nat.add_zero, Nat.zero_add, n10, if_false] at kk ⊢
      exact kk _ Ms.rf.th.th (by simp [u2_at])
    | some t =>
      have hng := i_ng6 hv.1
      have hnr := i_nr5 hv.1
      obtain ⟨hg, rfl⟩ := ixO_some (by omega) hi
      obtain ⟨ht, rfl⟩ := ixO_some (by omega) hj
      simp only [hi, hj, th, rv, b289_6 hw, mI_thrown HS, mF_thrown HS, mR_row HS, mR_image HS, mR_earlier HS, mR_trial HS, mR_acts HS, mI_hasImage HS, mF_hasImage HS, mI_remembered HS, mF_remembered HS, mR_tape HS, mI_taped HS, mF_taped HS, mI_point HS, mF_point HS, mI_end HS, mF_end HS, mI_begin HS, mF_begin HS, mI_deep HS, mF_deep HS, mI_faultAt HS, mF_faultAt HS, mR_five HS, mI_codes HS, mF_codes HS, mR_value HS, mI_so HS, mF_so HS, mR_lines HS, mR_chosen HS, mR_best HS, mR_members HS, mR_paired HS, mO HS, mA_287 HS, mW_287 HS, mA_288 HS, mW_288 HS, mA_289 HS, mW_289 HS, mA_290 HS, mW_290 HS, mA_291 HS, mW_291 HS, mA_292 HS, mW_292 HS, mA_293 HS, mW_293 HS, mA_294 HS, mW_294 HS, mA_295 HS, mW_295 HS, mA_296 HS, mW_296 HS, mA_297 HS, mW_297 HS, mA_298 HS, mW_298 HS, mA_299 HS, mW_299 HS, wi_some, or_0, or_1, bo_or, ite_boP, true_and, and_true, kN_v, kN_n, kT_v, kT_n, kT_e, Nat.add_zero, Nat.zero_add, if_true] at kk ⊢
      refine k253 hw HS h1.1.1 hv.1 h1.1.2 hg ht ?_
      intro D2 s2
      have fin := kk D2 (Ms.rf.th.tr (s2.ms (by decide) (by decide))) (by rw [s2 286 (by decide)]; simp [u2_at])
      simp only [b289_19 hw, wi_some, or_0, or_1, bo_or, ite_boP, true_and, and_true, kN_v, kN_n, kT_v, kT_n, kT_e, Nat.add_zero, Nat.zero_add]
      exact fin
theorem m_fear {x y : Int32} (hw : WT sh) (HS : SP sh) (hv : GV G) (h : GR D G) (kk : ∀ D', Ms D D' → D' 286 0 = Int32.ofNat (th (o_fear G x y)) → Q (.inl (some (.int (rv (o_fear G x y))))) (mk sh D') c s) : Wx (tP nx xs) (d + 8) 290 0 [some (.ref 286), (some (.int (x))), (some (.int (y)))] [] (mk sh D) c s Q := by
  have h1 := h.ms hv (Ms.rf.th (v := Int32.ofNat 0))
  have n10 : ¬ (Int32.ofNat 1 : Int32) = Int32.ofNat 0 := by decide
  unfold o_fear o_gt at kk
  simp only [b290_0 hw, mI_thrown HS, mF_thrown HS, mR_row HS, mR_image HS, mR_earlier HS, mR_trial HS, mR_acts HS, mI_hasImage HS, mF_hasImage HS, mI_remembered HS, mF_remembered HS, mR_tape HS, mI_taped HS, mF_taped HS, mI_point HS, mF_point HS, mI_end HS, mF_end HS, mI_begin HS, mF_begin HS, mI_deep HS, mF_deep HS, mI_faultAt HS, mF_faultAt HS, mR_five HS, mI_codes HS, mF_codes HS, mR_value HS, mI_so HS, mF_so HS, mR_lines HS, mR_chosen HS, mR_best HS, mR_members HS, mR_paired HS, mO HS, mA_287 HS, mW_287 HS, mA_288 HS, mW_288 HS, mA_289 HS, mW_289 HS, mA_290 HS, mW_290 HS, mA_291 HS, mW_291 HS, mA_292 HS, mW_292 HS, mA_293 HS, mW_293 HS, mA_294 HS, mW_294 HS, mA_295 HS, mW_295 HS, mA_296 HS, mW_296 HS, mA_297 HS, mW_297 HS, mA_298 HS, mW_298 HS, mA_299 HS, mW_299 HS, wi_some, or_0, or_1, bo_or, ite_boP, true_and, and_true, kN_v, kN_n, kT_v, kT_n, kT_e, Nat.add_zero, Nat.zero_add, k288 hw HS hv h]
  cases hi : ixO x (gg G.1) with
  | none =>
    simp only [hi, th, rv, b290_0 hw, b290_6 hw, b290_19 hw, wi_some, or_0, or_1, bo_or, ite_boP, true_and, and_true, kN_v, kN_n, kT_v, kT_n, kT_e, Nat.add_zero, Nat.zero_add, n10, if_false] at kk ⊢
    exact kk _ Ms.rf.th.th (by simp [u2_at])
  | some g =>
    cases hj : ixO y (gr G.1) with
    | none =>
      simp only [hi, hj, th, rv, b290_0 hw, b290_6 hw, b290_19 hw, wi_some, or_0, or_1, bo_or, ite_boP, true_and, and_true, kN_v, kN_n, kT_v, kT_n, kT_e, Nat.add_zero, Nat.zero_add, n10, if_false] at kk ⊢
      exact kk _ Ms.rf.th.th (by simp [u2_at])
    | some t =>
      have hng := i_ng6 hv.1
      have hnr := i_nr5 hv.1
      obtain ⟨hg, rfl⟩ := ixO_some (by omega) hi
      obtain ⟨ht, rfl⟩ := ixO_some (by omega) hj
      simp only [hi, hj, th, rv, b290_6 hw, mI_thrown HS, mF_thrown HS, mR_row HS, mR_image HS, mR_earlier HS, mR_trial HS, mR_acts HS, mI_hasImage HS, mF_hasImage HS, mI_remembered HS, mF_remembered HS, mR_tape HS, mI_taped HS, mF_taped HS, mI_point HS, mF_point HS, mI_end HS, mF_end HS, mI_begin HS, mF_begin HS, mI_deep HS, mF_deep HS, mI_faultAt HS, mF_faultAt HS, mR_five HS, mI_codes HS, mF_codes HS, mR_value HS, mI_so HS, mF_so HS, mR_lines HS, mR_chosen HS, mR_best HS, mR_members HS, mR_paired HS, mO HS, mA_287 HS, mW_287 HS, mA_288 HS, mW_288 HS, mA_289 HS, mW_289 HS, mA_290 HS, mW_290 HS, mA_291 HS, mW_291 HS, mA_292 HS, mW_292 HS, mA_293 HS, mW_293 HS, mA_294 HS, mW_294 HS, mA_295 HS, mW_295 HS, mA_296 HS, mW_296 HS, mA_297 HS, mW_297 HS, mA_298 HS, mW_298 HS, mA_299 HS, mW_299 HS, wi_some, or_0, or_1, bo_or, ite_boP, true_and, and_true, kN_v, kN_n, kT_v, kT_n, kT_e, Nat.add_zero, Nat.zero_add, if_true] at kk ⊢
      refine k254 hw HS h1.1.1 hv.1 h1.1.2 hg ht ?_
      intro D2 s2
      have fin := kk D2 (Ms.rf.th.tr (s2.ms (by decide) (by decide))) (by rw [s2 286 (by decide)]; simp [u2_at])
      simp only [b290_19 hw, wi_some, or_0, or_1, bo_or, ite_boP, true_and, and_true, kN_v, kN_n, kT_v, kT_n, kT_e, Nat.add_zero, Nat.zero_add]
      exact fin
theorem m_may {x y : Int32} (hw : WT sh) (HS : SP sh) (hv : GV G) (h : GR D G) (kk : ∀ D', Ms D D' → D' 286 0 = Int32.ofNat (th (o_may G x y)) → Q (.inl (some (.int (rv (o_may G x y))))) (mk sh D') c s) : Wx (tP nx xs) (d + 9) 291 0 [some (.ref 286), (some (.int (x))), (some (.int (y)))] [] (mk sh D) c s Q := by
  have h1 := h.ms hv (Ms.rf.th (v := Int32.ofNat 0))
  have n10 : ¬ (Int32.ofNat 1 : Int32) = Int32.ofNat 0 := by decide
  unfold o_may o_gt at kk
  simp only [b291_0 hw, mI_thrown HS, mF_thrown HS, mR_row HS, mR_image HS, mR_earlier HS, mR_trial HS, mR_acts HS, mI_hasImage HS, mF_hasImage HS, mI_remembered HS, mF_remembered HS, mR_tape HS, mI_taped HS, mF_taped HS, mI_point HS, mF_point HS, mI_end HS, mF_end HS, mI_begin HS, mF_begin HS, mI_deep HS, mF_deep HS, mI_faultAt HS, mF_faultAt HS, mR_five HS, mI_codes HS, mF_codes HS, mR_value HS, mI_so HS, mF_so HS, mR_lines HS, mR_chosen HS, mR_best HS, mR_members HS, mR_paired HS, mO HS, mA_287 HS, mW_287 HS, mA_288 HS, mW_288 HS, mA_289 HS, mW_289 HS, mA_290 HS, mW_290 HS, mA_291 HS, mW_291 HS, mA_292 HS, mW_292 HS, mA_293 HS, mW_293 HS, mA_294 HS, mW_294 HS, mA_295 HS, mW_295 HS, mA_296 HS, mW_296 HS, mA_297 HS, mW_297 HS, mA_298 HS, mW_298 HS, mA_299 HS, mW_299 HS, wi_some, or_0, or_1, bo_or, ite_boP, true_and, and_true, kN_v, kN_n, kT_v, kT_n, kT_e, Nat.add_zero, Nat.zero_add, k288 hw HS hv h]
  cases hi : ixO x (gg G.1) with
  | none =>
    simp only [hi, th, rv, b291_0 hw, b291_6 hw, b291_15 hw, b291_22 hw, b291_23 hw, wi_some, or_0, or_1, bo_or, ite_boP, true_and, and_true, kN_v, kN_n, kT_v, kT_n, kT_e, Nat.add_zero, Nat.zero_add, n10, if_false] at kk ⊢
    exact kk _ Ms.rf.th.th (by simp [u2_at])
  | some g =>
    cases hj : ixO y (gr G.1) with
    | none =>
      simp only [hi, hj, th, rv, b291_0 hw, b291_6 hw, b291_15 hw, b291_22 hw, b291_23 hw, wi_some, or_0, or_1, bo_or, ite_boP, true_and, and_true, kN_v, kN_n, kT_v, kT_n, kT_e, Nat.add_zero, Nat.zero_add, n10, if_false] at kk ⊢
      exact kk _ Ms.rf.th.th (by simp [u2_at])
    | some t =>
      have hng := i_ng6 hv.1
      have hnr := i_nr5 hv.1
      obtain ⟨hg, rfl⟩ := ixO_some (by omega) hi
      obtain ⟨ht, rfl⟩ := ixO_some (by omega) hj
      simp only [hi, hj, th, rv, b291_6 hw, mI_thrown HS, mF_thrown HS, mR_row HS, mR_image HS, mR_earlier HS, mR_trial HS, mR_acts HS, mI_hasImage HS, mF_hasImage HS, mI_remembered HS, mF_remembered HS, mR_tape HS, mI_taped HS, mF_taped HS, mI_point HS, mF_point HS, mI_end HS, mF_end HS, mI_begin HS, mF_begin HS, mI_deep HS, mF_deep HS, mI_faultAt HS, mF_faultAt HS, mR_five HS, mI_codes HS, mF_codes HS, mR_value HS, mI_so HS, mF_so HS, mR_lines HS, mR_chosen HS, mR_best HS, mR_members HS, mR_paired HS, mO HS, mA_287 HS, mW_287 HS, mA_288 HS, mW_288 HS, mA_289 HS, mW_289 HS, mA_290 HS, mW_290 HS, mA_291 HS, mW_291 HS, mA_292 HS, mW_292 HS, mA_293 HS, mW_293 HS, mA_294 HS, mW_294 HS, mA_295 HS, mW_295 HS, mA_296 HS, mW_296 HS, mA_297 HS, mW_297 HS, mA_298 HS, mW_298 HS, mA_299 HS, mW_299 HS, wi_some, or_0, or_1, bo_or, ite_boP, true_and, and_true, kN_v, kN_n, kT_v, kT_n, kT_e, Nat.add_zero, Nat.zero_add, if_true] at kk ⊢
      refine k257 hw HS h1.1.1 hv.1 h1.1.2 hg ht ?_
      intro D2 s2
      have fin := kk D2 (Ms.rf.th.tr (s2.ms (by decide) (by decide))) (by rw [s2 286 (by decide)]; simp [u2_at])
      simp only [b291_15 hw, b291_22 hw, b291_23 hw, wi_some, or_0, or_1, bo_or, ite_boP, true_and, and_true, kN_v, kN_n, kT_v, kT_n, kT_e, Nat.add_zero, Nat.zero_add]
      cases hc : canL (gw G.1) (gV G.1) (gg G.1) g t with
      | true => simp only [hc, if_true] at fin ⊢; exact fin
      | false => simp only [hc, Bool.false_eq_true, if_false] at fin ⊢; exact fin
/-! unborn, worth, heavy -/
theorem c_unborn (hv : GV G) (h : GC sh D G) (kk : ∀ D', GC sh D' G → Fc D D' → Q (.inl (some (.int (Int32.ofNat (2 ^ (gg G.1) - 1) &&& (aliveS (gV G.1) (gg G.1) (nowS (gV G.1) (gt G.1) (gg G.1) ((gV G.1) 1 1) (gN (gV G.1) (gg G.1))) ^^^ -1))))) (mk sh D') c s) : Wx (tP nx xs) (d + 5) 164 0 [some (.ref 0)] [] (mk sh D) c s Q := by
  have hw := h.1.2
  have HS := h.1.1
  have H := St_state HS
  have I := hv.1
  have hV := h.2.1.1
  have hng := i_ng6 I
  have hnt := i_nt8 I
  have hnr := i_nr5 I
  have hnl := i_nl60 I
  have hx := h.L
  have hL := h.2.1.2
  simp only [b164_0 hw, b164_7 hw, xR_tape HS, xI_wrongAt HS, xF_wrongAt HS, xR_state HS, xR_image HS, xI_imageKept HS, xF_imageKept HS, xR_draft HS, xR_memory HS, xR_lawText HS, xR_worlds HS, xI_worldsFresh HS, xF_worldsFresh HS, xR_otherWorlds HS, xR_seating HS, xR_pairing HS, xI_toldSo HS, xF_toldSo HS, xI_toldNot HS, xF_toldNot HS, xO HS, sR_things H, sI_goers H, sF_goers H, sR_wish H, sR_deed H, sI_makers H, sF_makers H, sR_born H, sR_money H, sR_nerve H, sR_shuns H, sR_by H, sI_trains H, sF_trains H, sR_halts H, sR_seats H, sI_texts H, sF_texts H, sI_law H, sF_law H, sI_day H, sF_day H, sI_seed H, sF_seed H, sR_log H, sO_state H, sI_count H, sF_count H, sI_first H, sF_first H, sR_at H, sR_worth H, sR_makes H, sR_hinders H, sO_things H, sI_rows H, sF_rows H, sR_entries H, sO_log H, sA_2 H, sW_2 H, sA_3 H, sW_3 H, sA_4 H, sW_4 H, sA_5 H, sW_5 H, sA_6 H, sW_6 H, sA_7 H, sW_7 H, sA_8 H, sW_8 H, sA_9 H, sW_9 H, sA_10 H, sW_10 H, sA_11 H, sW_11 H, sA_12 H, sW_12 H, sA_13 H, sW_13 H, sA_14 H, sW_14 H, sA_16 H, sW_16 H, wi_some, or_0, or_1, bo_or, ite_boP, true_and, and_true, kN_v, kN_n, kT_v, kT_n, kT_e, Nat.add_zero, Nat.zero_add, k36 hw H hV I]
  refine k129 hv h ?_
  intro D1 c1 h1
  have hV1 := h1.2.1.1
  simp only [b164_15 hw, b164_18 hw, xR_tape HS, xI_wrongAt HS, xF_wrongAt HS, xR_state HS, xR_image HS, xI_imageKept HS, xF_imageKept HS, xR_draft HS, xR_memory HS, xR_lawText HS, xR_worlds HS, xI_worldsFresh HS, xF_worldsFresh HS, xR_otherWorlds HS, xR_seating HS, xR_pairing HS, xI_toldSo HS, xF_toldSo HS, xI_toldNot HS, xF_toldNot HS, xO HS, sR_things H, sI_goers H, sF_goers H, sR_wish H, sR_deed H, sI_makers H, sF_makers H, sR_born H, sR_money H, sR_nerve H, sR_shuns H, sR_by H, sI_trains H, sF_trains H, sR_halts H, sR_seats H, sI_texts H, sF_texts H, sI_law H, sF_law H, sI_day H, sF_day H, sI_seed H, sF_seed H, sR_log H, sO_state H, sI_count H, sF_count H, sI_first H, sF_first H, sR_at H, sR_worth H, sR_makes H, sR_hinders H, sO_things H, sI_rows H, sF_rows H, sR_entries H, sO_log H, sA_2 H, sW_2 H, sA_3 H, sW_3 H, sA_4 H, sW_4 H, sA_5 H, sW_5 H, sA_6 H, sW_6 H, sA_7 H, sW_7 H, sA_8 H, sW_8 H, sA_9 H, sW_9 H, sA_10 H, sW_10 H, sA_11 H, sW_11 H, sA_12 H, sW_12 H, sA_13 H, sW_13 H, sA_14 H, sW_14 H, sA_16 H, sW_16 H, wi_some, or_0, or_1, bo_or, ite_boP, true_and, and_true, kN_v, kN_n, kT_v, kT_n, kT_e, Nat.add_zero, Nat.zero_add, k43 hw H hV1 I]
  exact kk D1 h1 (c1.fc hx)
theorem m_unborn (hw : WT sh) (HS : SP sh) (hv : GV G) (h : GR D G) (kk : ∀ D', Ms D D' → D' 286 0 = Int32.ofNat 0 → Q (.inl (some (.int (Int32.ofNat (2 ^ (gg G.1) - 1) &&& (aliveS (gV G.1) (gg G.1) (nowS (gV G.1) (gt G.1) (gg G.1) ((gV G.1) 1 1) (gN (gV G.1) (gg G.1))) ^^^ -1))))) (mk sh D') c s) : Wx (tP nx xs) (d + 8) 342 0 [some (.ref 286)] [] (mk sh D) c s Q := by
  have h1 := h.ms hv (Ms.rf.th (v := Int32.ofNat 0))
  have hng := i_ng6 hv.1
  obtain ⟨g1, g2⟩ := gN_of (V := (gV G.1)) hng
  simp only [b342_0 hw, b342_5 hw, b342_9 hw, b342_14 hw, b342_19 hw, mI_thrown HS, mF_thrown HS, mR_row HS, mR_image HS, mR_earlier HS, mR_trial HS, mR_acts HS, mI_hasImage HS, mF_hasImage HS, mI_remembered HS, mF_remembered HS, mR_tape HS, mI_taped HS, mF_taped HS, mI_point HS, mF_point HS, mI_end HS, mF_end HS, mI_begin HS, mF_begin HS, mI_deep HS, mF_deep HS, mI_faultAt HS, mF_faultAt HS, mR_five HS, mI_codes HS, mF_codes HS, mR_value HS, mI_so HS, mF_so HS, mR_lines HS, mR_chosen HS, mR_best HS, mR_members HS, mR_paired HS, mO HS, mA_287 HS, mW_287 HS, mA_288 HS, mW_288 HS, mA_289 HS, mW_289 HS, mA_290 HS, mW_290 HS, mA_291 HS, mW_291 HS, mA_292 HS, mW_292 HS, mA_293 HS, mW_293 HS, mA_294 HS, mW_294 HS, mA_295 HS, mW_295 HS, mA_296 HS, mW_296 HS, mA_297 HS, mW_297 HS, mA_298 HS, mW_298 HS, mA_299 HS, mW_299 HS, wi_some, or_0, or_1, bo_or, ite_boP, true_and, and_true, kN_v, kN_n, kT_v, kT_n, kT_e, Nat.add_zero, Nat.zero_add, k206 hw HS h1.1.1 hng, k208 hw HS h1.1.1 hng, g1]
  refine k269 hw HS h1.1.1 hv.1 (gN_64 hng) ?_
  intro D2 s2
  have R2 : Rw (D2 287) (gV G.1) (gt G.1) (gg G.1) (gr G.1) (gl G.1) := by rw [s2.r7]; exact h1.1.1
  have fin := kk D2 (Ms.rf.th.tr s2.ms) (by rw [s2 286 0 (by omega)]; simp [u2_at])
  simp only [b342_22 hw, b342_25 hw, mI_thrown HS, mF_thrown HS, mR_row HS, mR_image HS, mR_earlier HS, mR_trial HS, mR_acts HS, mI_hasImage HS, mF_hasImage HS, mI_remembered HS, mF_remembered HS, mR_tape HS, mI_taped HS, mF_taped HS, mI_point HS, mF_point HS, mI_end HS, mF_end HS, mI_begin HS, mF_begin HS, mI_deep HS, mF_deep HS, mI_faultAt HS, mF_faultAt HS, mR_five HS, mI_codes HS, mF_codes HS, mR_value HS, mI_so HS, mF_so HS, mR_lines HS, mR_chosen HS, mR_best HS, mR_members HS, mR_paired HS, mO HS, mA_287 HS, mW_287 HS, mA_288 HS, mW_288 HS, mA_289 HS, mW_289 HS, mA_290 HS, mW_290 HS, mA_291 HS, mW_291 HS, mA_292 HS, mW_292 HS, mA_293 HS, mW_293 HS, mA_294 HS, mW_294 HS, mA_295 HS, mW_295 HS, mA_296 HS, mW_296 HS, mA_297 HS, mW_297 HS, mA_298 HS, mW_298 HS, mA_299 HS, mW_299 HS, wi_some, or_0, or_1, bo_or, ite_boP, true_and, and_true, kN_v, kN_n, kT_v, kT_n, kT_e, Nat.add_zero, Nat.zero_add, k266 hw HS R2 hv.1]
  have e : ∀ x y : Int32, x &&& ((x &&& y) ^^^ -1) = x &&& (y ^^^ -1) := fun x y => b_ext fun i hi => by
    simp only [b_and, b_xor, b_m1 i hi]
    cases bt x i <;> cases bt y i <;> rfl
  rw [e]
  exact fin
theorem c_worth (hv : GV G) (h : GC sh D G) (kk : ∀ D', GC sh D' G → Fc D D' → Q (.inl (some (.int (wthS (gV G.1) (gt G.1) (nowS (gV G.1) (gt G.1) (gg G.1) ((gV G.1) 1 1) (gN (gV G.1) (gg G.1))))))) (mk sh D') c s) : Wx (tP nx xs) (d + 5) 166 0 [some (.ref 0)] [] (mk sh D) c s Q := by
  have hw := h.1.2
  have HS := h.1.1
  have H := St_state HS
  have I := hv.1
  have hV := h.2.1.1
  have hng := i_ng6 I
  have hnt := i_nt8 I
  have hnr := i_nr5 I
  have hnl := i_nl60 I
  have hx := h.L
  have hL := h.2.1.2
  simp only [b166_0 hw, xR_tape HS, xI_wrongAt HS, xF_wrongAt HS, xR_state HS, xR_image HS, xI_imageKept HS, xF_imageKept HS, xR_draft HS, xR_memory HS, xR_lawText HS, xR_worlds HS, xI_worldsFresh HS, xF_worldsFresh HS, xR_otherWorlds HS, xR_seating HS, xR_pairing HS, xI_toldSo HS, xF_toldSo HS, xI_toldNot HS, xF_toldNot HS, xO HS, sR_things H, sI_goers H, sF_goers H, sR_wish H, sR_deed H, sI_makers H, sF_makers H, sR_born H, sR_money H, sR_nerve H, sR_shuns H, sR_by H, sI_trains H, sF_trains H, sR_halts H, sR_seats H, sI_texts H, sF_texts H, sI_law H, sF_law H, sI_day H, sF_day H, sI_seed H, sF_seed H, sR_log H, sO_state H, sI_count H, sF_count H, sI_first H, sF_first H, sR_at H, sR_worth H, sR_makes H, sR_hinders H, sO_things H, sI_rows H, sF_rows H, sR_entries H, sO_log H, sA_2 H, sW_2 H, sA_3 H, sW_3 H, sA_4 H, sW_4 H, sA_5 H, sW_5 H, sA_6 H, sW_6 H, sA_7 H, sW_7 H, sA_8 H, sW_8 H, sA_9 H, sW_9 H, sA_10 H, sW_10 H, sA_11 H, sW_11 H, sA_12 H, sW_12 H, sA_13 H, sW_13 H, sA_14 H, sW_14 H, sA_16 H, sW_16 H, wi_some, or_0, or_1, bo_or, ite_boP, true_and, and_true, kN_v, kN_n, kT_v, kT_n, kT_e, Nat.add_zero, Nat.zero_add]
  refine k129 hv h ?_
  intro D1 c1 h1
  have hV1 := h1.2.1.1
  simp only [b166_11 hw, b166_14 hw, xR_tape HS, xI_wrongAt HS, xF_wrongAt HS, xR_state HS, xR_image HS, xI_imageKept HS, xF_imageKept HS, xR_draft HS, xR_memory HS, xR_lawText HS, xR_worlds HS, xI_worldsFresh HS, xF_worldsFresh HS, xR_otherWorlds HS, xR_seating HS, xR_pairing HS, xI_toldSo HS, xF_toldSo HS, xI_toldNot HS, xF_toldNot HS, xO HS, sR_things H, sI_goers H, sF_goers H, sR_wish H, sR_deed H, sI_makers H, sF_makers H, sR_born H, sR_money H, sR_nerve H, sR_shuns H, sR_by H, sI_trains H, sF_trains H, sR_halts H, sR_seats H, sI_texts H, sF_texts H, sI_law H, sF_law H, sI_day H, sF_day H, sI_seed H, sF_seed H, sR_log H, sO_state H, sI_count H, sF_count H, sI_first H, sF_first H, sR_at H, sR_worth H, sR_makes H, sR_hinders H, sO_things H, sI_rows H, sF_rows H, sR_entries H, sO_log H, sA_2 H, sW_2 H, sA_3 H, sW_3 H, sA_4 H, sW_4 H, sA_5 H, sW_5 H, sA_6 H, sW_6 H, sA_7 H, sW_7 H, sA_8 H, sW_8 H, sA_9 H, sW_9 H, sA_10 H, sW_10 H, sA_11 H, sW_11 H, sA_12 H, sW_12 H, sA_13 H, sW_13 H, sA_14 H, sW_14 H, sA_16 H, sW_16 H, wi_some, or_0, or_1, bo_or, ite_boP, true_and, and_true, kN_v, kN_n, kT_v, kT_n, kT_e, Nat.add_zero, Nat.zero_add, k79 hw H hV1 I]
  exact kk D1 h1 (c1.fc hx)
theorem m_worth (hw : WT sh) (HS : SP sh) (hv : GV G) (h : GR D G) (kk : ∀ D', Ms D D' → D' 286 0 = Int32.ofNat 0 → Q (.inl (some (.int (wthS (gV G.1) (gt G.1) (nowS (gV G.1) (gt G.1) (gg G.1) ((gV G.1) 1 1) (gN (gV G.1) (gg G.1))))))) (mk sh D') c s) : Wx (tP nx xs) (d + 8) 344 0 [some (.ref 286)] [] (mk sh D) c s Q := by
  have h1 := h.ms hv (Ms.rf.th (v := Int32.ofNat 0))
  have hng := i_ng6 hv.1
  obtain ⟨g1, g2⟩ := gN_of (V := (gV G.1)) hng
  simp only [b344_0 hw, b344_5 hw, b344_11 hw, mI_thrown HS, mF_thrown HS, mR_row HS, mR_image HS, mR_earlier HS, mR_trial HS, mR_acts HS, mI_hasImage HS, mF_hasImage HS, mI_remembered HS, mF_remembered HS, mR_tape HS, mI_taped HS, mF_taped HS, mI_point HS, mF_point HS, mI_end HS, mF_end HS, mI_begin HS, mF_begin HS, mI_deep HS, mF_deep HS, mI_faultAt HS, mF_faultAt HS, mR_five HS, mI_codes HS, mF_codes HS, mR_value HS, mI_so HS, mF_so HS, mR_lines HS, mR_chosen HS, mR_best HS, mR_members HS, mR_paired HS, mO HS, mA_287 HS, mW_287 HS, mA_288 HS, mW_288 HS, mA_289 HS, mW_289 HS, mA_290 HS, mW_290 HS, mA_291 HS, mW_291 HS, mA_292 HS, mW_292 HS, mA_293 HS, mW_293 HS, mA_294 HS, mW_294 HS, mA_295 HS, mW_295 HS, mA_296 HS, mW_296 HS, mA_297 HS, mW_297 HS, mA_298 HS, mW_298 HS, mA_299 HS, mW_299 HS, wi_some, or_0, or_1, bo_or, ite_boP, true_and, and_true, kN_v, kN_n, kT_v, kT_n, kT_e, Nat.add_zero, Nat.zero_add, k208 hw HS h1.1.1 hng, g1]
  refine k269 hw HS h1.1.1 hv.1 (gN_64 hng) ?_
  intro D2 s2
  have R2 : Rw (D2 287) (gV G.1) (gt G.1) (gg G.1) (gr G.1) (gl G.1) := by rw [s2.r7]; exact h1.1.1
  simp only [b344_14 hw, b344_17 hw, mI_thrown HS, mF_thrown HS, mR_row HS, mR_image HS, mR_earlier HS, mR_trial HS, mR_acts HS, mI_hasImage HS, mF_hasImage HS, mI_remembered HS, mF_remembered HS, mR_tape HS, mI_taped HS, mF_taped HS, mI_point HS, mF_point HS, mI_end HS, mF_end HS, mI_begin HS, mF_begin HS, mI_deep HS, mF_deep HS, mI_faultAt HS, mF_faultAt HS, mR_five HS, mI_codes HS, mF_codes HS, mR_value HS, mI_so HS, mF_so HS, mR_lines HS, mR_chosen HS, mR_best HS, mR_members HS, mR_paired HS, mO HS, mA_287 HS, mW_287 HS, mA_288 HS, mW_288 HS, mA_289 HS, mW_289 HS, mA_290 HS, mW_290 HS, mA_291 HS, mW_291 HS, mA_292 HS, mW_292 HS, mA_293 HS, mW_293 HS, mA_294 HS, mW_294 HS, mA_295 HS, mW_295 HS, mA_296 HS, mW_296 HS, mA_297 HS, mW_297 HS, mA_298 HS, mW_298 HS, mA_299 HS, mW_299 HS, wi_some, or_0, or_1, bo_or, ite_boP, true_and, and_true, kN_v, kN_n, kT_v, kT_n, kT_e, Nat.add_zero, Nat.zero_add, k279 hw HS R2 hv.1]
  exact kk D2 (Ms.rf.th.tr s2.ms) (by rw [s2 286 0 (by omega)]; simp [u2_at])
def chS (S : GS) (g : Nat) : Int32 := nowS (gV S) (gt S) (gg S) (gV S 1 1) (gX (gV S) (gg S) g) ^^^ nowS (gV S) (gt S) (gg S) (gV S 1 1) (gN (gV S) (gg S))
theorem k130 {g : Nat} (hv : GV G) (h : GC sh D G) (hg : g < (gg G.1)) (kk : ∀ D', Cs ((gV G.1) 0 14) D D' → GC sh D' G → Q (.inl (some (.int (chS G.1 g)))) (mk sh D') c s) : Wx (tP nx xs) (d + 5) 130 0 [some (.ref 0), (some (.int (Int32.ofNat g)))] [] (mk sh D) c s Q := by
  have hw := h.1.2
  have HS := h.1.1
  have H := St_state HS
  have I := hv.1
  have hV := h.2.1.1
  have hng := i_ng6 I
  have hnt := i_nt8 I
  have hnr := i_nr5 I
  have hnl := i_nl60 I
  have hx := h.L
  have hL := h.2.1.2
  obtain ⟨e1, e2⟩ := gX_of (V := (gV G.1)) hng hg
  have h64 := everyN I
  simp only [b130_0 hw, xR_tape HS, xI_wrongAt HS, xF_wrongAt HS, xR_state HS, xR_image HS, xI_imageKept HS, xF_imageKept HS, xR_draft HS, xR_memory HS, xR_lawText HS, xR_worlds HS, xI_worldsFresh HS, xF_worldsFresh HS, xR_otherWorlds HS, xR_seating HS, xR_pairing HS, xI_toldSo HS, xF_toldSo HS, xI_toldNot HS, xF_toldNot HS, xO HS, wi_some, or_0, or_1, bo_or, ite_boP, true_and, and_true, kN_v, kN_n, kT_v, kT_n, kT_e, Nat.add_zero, Nat.zero_add]
  refine k128 hv h ?_
  intro D1 c1 h1 w1
  have hV1 := h1.2.1.1
  simp only [b130_4 hw, b130_11 hw, b130_18 hw, xR_tape HS, xI_wrongAt HS, xF_wrongAt HS, xR_state HS, xR_image HS, xI_imageKept HS, xF_imageKept HS, xR_draft HS, xR_memory HS, xR_lawText HS, xR_worlds HS, xI_worldsFresh HS, xF_worldsFresh HS, xR_otherWorlds HS, xR_seating HS, xR_pairing HS, xI_toldSo HS, xF_toldSo HS, xI_toldNot HS, xF_toldNot HS, xO HS, sR_things H, sI_goers H, sF_goers H, sR_wish H, sR_deed H, sI_makers H, sF_makers H, sR_born H, sR_money H, sR_nerve H, sR_shuns H, sR_by H, sI_trains H, sF_trains H, sR_halts H, sR_seats H, sI_texts H, sF_texts H, sI_law H, sF_law H, sI_day H, sF_day H, sI_seed H, sF_seed H, sR_log H, sO_state H, sI_count H, sF_count H, sI_first H, sF_first H, sR_at H, sR_worth H, sR_makes H, sR_hinders H, sO_things H, sI_rows H, sF_rows H, sR_entries H, sO_log H, sA_2 H, sW_2 H, sA_3 H, sW_3 H, sA_4 H, sW_4 H, sA_5 H, sW_5 H, sA_6 H, sW_6 H, sA_7 H, sW_7 H, sA_8 H, sW_8 H, sA_9 H, sW_9 H, sA_10 H, sW_10 H, sA_11 H, sW_11 H, sA_12 H, sW_12 H, sA_13 H, sW_13 H, sA_14 H, sW_14 H, sA_16 H, sW_16 H, wi_some, or_0, or_1, bo_or, ite_boP, true_and, and_true, kN_v, kN_n, kT_v, kT_n, kT_e, Nat.add_zero, Nat.zero_add, k37 hw H hV1 I, e1, wO HS, k93 hw (Wsh_265 HS) w1 (show gX (gV G.1) (gg G.1) g < 64 by omega) (sub_ev _ (by omega) _ (by omega) e2)]
  refine k129 hv h1 ?_
  intro D2 c2 h2
  simp only [b130_22 hw, wi_some, or_0, or_1, bo_or, ite_boP, true_and, and_true, kN_v, kN_n, kT_v, kT_n, kT_e, Nat.add_zero, Nat.zero_add]
  exact kk D2 (c1.tr c2) h2
theorem k280 {g : Nat} (hw : WT sh) (HS : SP sh) (hv : GV G) (h : GR D G) (hg : g < (gg G.1)) (kk : ∀ D', Sm D D' → Q (.inl (some (.int (chS G.1 g)))) (mk sh D') c s) : Wx (tP nx xs) (d + 9) 280 0 [some (.ref 286), (some (.int (Int32.ofNat g)))] [] (mk sh D) c s Q := by
  have R := h.1.1
  have hL := h.1.2
  have I := hv.1
  have hng := i_ng6 I
  have hnt := i_nt8 I
  have hnr := i_nr5 I
  have hnl := i_nl60 I
  obtain ⟨g1, g2⟩ := gN_of (V := (gV G.1)) hng
  simp only [b280_0 hw, mI_thrown HS, mF_thrown HS, mR_row HS, mR_image HS, mR_earlier HS, mR_trial HS, mR_acts HS, mI_hasImage HS, mF_hasImage HS, mI_remembered HS, mF_remembered HS, mR_tape HS, mI_taped HS, mF_taped HS, mI_point HS, mF_point HS, mI_end HS, mF_end HS, mI_begin HS, mF_begin HS, mI_deep HS, mF_deep HS, mI_faultAt HS, mF_faultAt HS, mR_five HS, mI_codes HS, mF_codes HS, mR_value HS, mI_so HS, mF_so HS, mR_lines HS, mR_chosen HS, mR_best HS, mR_members HS, mR_paired HS, mO HS, mA_287 HS, mW_287 HS, mA_288 HS, mW_288 HS, mA_289 HS, mW_289 HS, mA_290 HS, mW_290 HS, mA_291 HS, mW_291 HS, mA_292 HS, mW_292 HS, mA_293 HS, mW_293 HS, mA_294 HS, mW_294 HS, mA_295 HS, mW_295 HS, mA_296 HS, mW_296 HS, mA_297 HS, mW_297 HS, mA_298 HS, mW_298 HS, mA_299 HS, mW_299 HS, wi_some, or_0, or_1, bo_or, ite_boP, true_and, and_true, kN_v, kN_n, kT_v, kT_n, kT_e, Nat.add_zero, Nat.zero_add]
  refine k277 hw HS hv h hg ?_
  intro D1 s1
  have h1 : GR D1 G := h.ms hv s1.ms
  simp only [b280_5 hw, b280_10 hw, mI_thrown HS, mF_thrown HS, mR_row HS, mR_image HS, mR_earlier HS, mR_trial HS, mR_acts HS, mI_hasImage HS, mF_hasImage HS, mI_remembered HS, mF_remembered HS, mR_tape HS, mI_taped HS, mF_taped HS, mI_point HS, mF_point HS, mI_end HS, mF_end HS, mI_begin HS, mF_begin HS, mI_deep HS, mF_deep HS, mI_faultAt HS, mF_faultAt HS, mR_five HS, mI_codes HS, mF_codes HS, mR_value HS, mI_so HS, mF_so HS, mR_lines HS, mR_chosen HS, mR_best HS, mR_members HS, mR_paired HS, mO HS, mA_287 HS, mW_287 HS, mA_288 HS, mW_288 HS, mA_289 HS, mW_289 HS, mA_290 HS, mW_290 HS, mA_291 HS, mW_291 HS, mA_292 HS, mW_292 HS, mA_293 HS, mW_293 HS, mA_294 HS, mW_294 HS, mA_295 HS, mW_295 HS, mA_296 HS, mW_296 HS, mA_297 HS, mW_297 HS, mA_298 HS, mW_298 HS, mA_299 HS, mW_299 HS, wi_some, or_0, or_1, bo_or, ite_boP, true_and, and_true, kN_v, kN_n, kT_v, kT_n, kT_e, Nat.add_zero, Nat.zero_add, k208 hw HS h1.1.1 hng, g1]
  refine k269 hw HS h1.1.1 hv.1 (gN_64 hng) ?_
  intro D2 s2
  simp only [b280_13 hw, wi_some, or_0, or_1, bo_or, ite_boP, true_and, and_true, kN_v, kN_n, kT_v, kT_n, kT_e, Nat.add_zero, Nat.zero_add]
  exact kk D2 (s1.tr s2)
def heavyF (S : GS) (g : Nat) (z : Int32 × Int32) : Int32 × Int32 := if z.2 < wthS (gV S) (gt S) (chS S g) then (Int32.ofNat g, wthS (gV S) (gt S) (chS S g)) else z
def heavyS (S : GS) : Int32 := (fo (heavyF S) (gg S) 0 (-1, -1)).1
theorem c_heavy (hv : GV G) (h : GC sh D G) (kk : ∀ D', GC sh D' G → Fc D D' → Q (.inl (some (.int (heavyS G.1)))) (mk sh D') c s) : Wx (tP nx xs) (d + 6) 127 0 [some (.ref 0), none, none, none, none] [] (mk sh D) c s Q := by
  have hw := h.1.2
  have HS := h.1.1
  have H := St_state HS
  have I := hv.1
  have hV := h.2.1.1
  have hng := i_ng6 I
  have hnt := i_nt8 I
  have hnr := i_nr5 I
  have hnl := i_nl60 I
  have hx := h.L
  have hL := h.2.1.2
  simp only [b127_0 hw]
  refine up_P (W := fun i (z : Int32 × Int32) D => ∀ l4, Wx (tP nx xs) (d + 6) 127 6 [some (.ref 0), (some (.int (z.1))), (some (.int (z.2))), (some (.int (Int32.ofNat i))), l4] [] (mk sh D) c s Q) (P := fun _ _ D' => Cs ((gV G.1) 0 14) D D' ∧ GC sh D' G) (F := heavyF G.1) (gg G.1) ?_ (-1, -1) D ⟨Cs.rf, h⟩ ?_ none
  · intro i z D1 hi ⟨c1, h1⟩ k l4
    have hV1 := h1.2.1.1
    rw [b127_6 hw]
    simp only [xR_tape HS, xI_wrongAt HS, xF_wrongAt HS, xR_state HS, xR_image HS, xI_imageKept HS, xF_imageKept HS, xR_draft HS, xR_memory HS, xR_lawText HS, xR_worlds HS, xI_worldsFresh HS, xF_worldsFresh HS, xR_otherWorlds HS, xR_seating HS, xR_pairing HS, xI_toldSo HS, xF_toldSo HS, xI_toldNot HS, xF_toldNot HS, xO HS, sR_things H, sI_goers H, sF_goers H, sR_wish H, sR_deed H, sI_makers H, sF_makers H, sR_born H, sR_money H, sR_nerve H, sR_shuns H, sR_by H, sI_trains H, sF_trains H, sR_halts H, sR_seats H, sI_texts H, sF_texts H, sI_law H, sF_law H, sI_day H, sF_day H, sI_seed H, sF_seed H, sR_log H, sO_state H, sI_count H, sF_count H, sI_first H, sF_first H, sR_at H, sR_worth H, sR_makes H, sR_hinders H, sO_things H, sI_rows H, sF_rows H, sR_entries H, sO_log H, sA_2 H, sW_2 H, sA_3 H, sW_3 H, sA_4 H, sW_4 H, sA_5 H, sW_5 H, sA_6 H, sW_6 H, sA_7 H, sW_7 H, sA_8 H, sW_8 H, sA_9 H, sW_9 H, sA_10 H, sW_10 H, sA_11 H, sW_11 H, sA_12 H, sW_12 H, sA_13 H, sW_13 H, sA_14 H, sW_14 H, sA_16 H, sW_16 H, wi_some, or_0, or_1, bo_or, ite_boP, true_and, and_true, kN_v, kN_n, kT_v, kT_n, kT_e, Nat.add_zero, Nat.zero_add, v_0 hV1, v_1 hV1, v_2 hV1, v_3 hV1, v_4 hV1, v_5 hV1, v_6 hV1, v_7 hV1, v_8 hV1, v_9 hV1, v_10 hV1, v_11 hV1, v_12 hV1, v_13 hV1, v_14 hV1, v_15 hV1, v_16 hV1, i_ng I, oN_lt (show i < 2147483648 by omega) (show (gg G.1) < 2147483648 by omega), hi, if_true]
    refine k130 hv h1 hi ?_
    intro D2 c2 h2
    have hV2 := h2.2.1.1
    have k := k D2 ⟨c1.tr c2, h2⟩
    simp only [b127_29 hw, b127_32 hw, b127_45 hw, sR_things H, sI_goers H, sF_goers H, sR_wish H, sR_deed H, sI_makers H, sF_makers H, sR_born H, sR_money H, sR_nerve H, sR_shuns H, sR_by H, sI_trains H, sF_trains H, sR_halts H, sR_seats H, sI_texts H, sF_texts H, sI_law H, sF_law H, sI_day H, sF_day H, sI_seed H, sF_seed H, sR_log H, sO_state H, sI_count H, sF_count H, sI_first H, sF_first H, sR_at H, sR_worth H, sR_makes H, sR_hinders H, sO_things H, sI_rows H, sF_rows H, sR_entries H, sO_log H, sA_2 H, sW_2 H, sA_3 H, sW_3 H, sA_4 H, sW_4 H, sA_5 H, sW_5 H, sA_6 H, sW_6 H, sA_7 H, sW_7 H, sA_8 H, sW_8 H, sA_9 H, sW_9 H, sA_10 H, sW_10 H, sA_11 H, sW_11 H, sA_12 H, sW_12 H, sA_13 H, sW_13 H, sA_14 H, sW_14 H, sA_16 H, sW_16 H, wi_some, or_0, or_1, bo_or, ite_boP, true_and, and_true, kN_v, kN_n, kT_v, kT_n, kT_e, Nat.add_zero, Nat.zero_add, k79 hw H hV2 I, oN_add]
    unfold heavyF at k
    by_cases hm : z.2 < wthS (gV G.1) (gt G.1) (chS G.1 i)
    · simp only [hm, if_true] at k ⊢; exact k _
    · simp only [hm, if_false] at k ⊢; exact k _
  · intro D1 ⟨c1, h1⟩ l4
    have hV1 := h1.2.1.1
    rw [b127_6 hw]
    simp only [xR_tape HS, xI_wrongAt HS, xF_wrongAt HS, xR_state HS, xR_image HS, xI_imageKept HS, xF_imageKept HS, xR_draft HS, xR_memory HS, xR_lawText HS, xR_worlds HS, xI_worldsFresh HS, xF_worldsFresh HS, xR_otherWorlds HS, xR_seating HS, xR_pairing HS, xI_toldSo HS, xF_toldSo HS, xI_toldNot HS, xF_toldNot HS, xO HS, sR_things H, sI_goers H, sF_goers H, sR_wish H, sR_deed H, sI_makers H, sF_makers H, sR_born H, sR_money H, sR_nerve H, sR_shuns H, sR_by H, sI_trains H, sF_trains H, sR_halts H, sR_seats H, sI_texts H, sF_texts H, sI_law H, sF_law H, sI_day H, sF_day H, sI_seed H, sF_seed H, sR_log H, sO_state H, sI_count H, sF_count H, sI_first H, sF_first H, sR_at H, sR_worth H, sR_makes H, sR_hinders H, sO_things H, sI_rows H, sF_rows H, sR_entries H, sO_log H, sA_2 H, sW_2 H, sA_3 H, sW_3 H, sA_4 H, sW_4 H, sA_5 H, sW_5 H, sA_6 H, sW_6 H, sA_7 H, sW_7 H, sA_8 H, sW_8 H, sA_9 H, sW_9 H, sA_10 H, sW_10 H, sA_11 H, sW_11 H, sA_12 H, sW_12 H, sA_13 H, sW_13 H, sA_14 H, sW_14 H, sA_16 H, sW_16 H, wi_some, or_0, or_1, bo_or, ite_boP, true_and, and_true, kN_v, kN_n, kT_v, kT_n, kT_e, Nat.add_zero, Nat.zero_add, v_0 hV1, v_1 hV1, v_2 hV1, v_3 hV1, v_4 hV1, v_5 hV1, v_6 hV1, v_7 hV1, v_8 hV1, v_9 hV1, v_10 hV1, v_11 hV1, v_12 hV1, v_13 hV1, v_14 hV1, v_15 hV1, v_16 hV1, i_ng I, oN_lt (show (gg G.1) < 2147483648 by omega) (show (gg G.1) < 2147483648 by omega), Nat.lt_irrefl, if_false]
    exact kk D1 h1 (c1.fc hx)
theorem m_heavy (hw : WT sh) (HS : SP sh) (hv : GV G) (h : GR D G) (kk : ∀ D', Ms D D' → D' 286 0 = Int32.ofNat 0 → Q (.inl (some (.int (heavyS G.1)))) (mk sh D') c s) : Wx (tP nx xs) (d + 10) 281 0 [some (.ref 286), none, none, none, none] [] (mk sh D) c s Q := by
  have h0 := h.ms hv (Ms.rf.th (v := Int32.ofNat 0))
  have hng := i_ng6 hv.1
  simp only [b281_0 hw, b281_5 hw, mI_thrown HS, mF_thrown HS, mR_row HS, mR_image HS, mR_earlier HS, mR_trial HS, mR_acts HS, mI_hasImage HS, mF_hasImage HS, mI_remembered HS, mF_remembered HS, mR_tape HS, mI_taped HS, mF_taped HS, mI_point HS, mF_point HS, mI_end HS, mF_end HS, mI_begin HS, mF_begin HS, mI_deep HS, mF_deep HS, mI_faultAt HS, mF_faultAt HS, mR_five HS, mI_codes HS, mF_codes HS, mR_value HS, mI_so HS, mF_so HS, mR_lines HS, mR_chosen HS, mR_best HS, mR_members HS, mR_paired HS, mO HS, mA_287 HS, mW_287 HS, mA_288 HS, mW_288 HS, mA_289 HS, mW_289 HS, mA_290 HS, mW_290 HS, mA_291 HS, mW_291 HS, mA_292 HS, mW_292 HS, mA_293 HS, mW_293 HS, mA_294 HS, mW_294 HS, mA_295 HS, mW_295 HS, mA_296 HS, mW_296 HS, mA_297 HS, mW_297 HS, mA_298 HS, mW_298 HS, mA_299 HS, mW_299 HS, wi_some, or_0, or_1, bo_or, ite_boP, true_and, and_true, kN_v, kN_n, kT_v, kT_n, kT_e, Nat.add_zero, Nat.zero_add]
  refine up_P (W := fun i (z : Int32 × Int32) D => ∀ l4, Wx (tP nx xs) (d + 10) 281 11 [some (.ref 286), (some (.int (z.1))), (some (.int (z.2))), (some (.int (Int32.ofNat i))), l4] [] (mk sh D) c s Q) (P := fun _ _ D' => Sm (u2 D 286 0 (Int32.ofNat 0)) D') (F := heavyF G.1) (gg G.1) ?_ (-1, -1) _ Sm.rf ?_ none
  · intro i z D1 hi s1 k l4
    have h1 := h0.ms hv s1.ms
    rw [b281_11 hw]
    simp only [b281_16 hw, mI_thrown HS, mF_thrown HS, mR_row HS, mR_image HS, mR_earlier HS, mR_trial HS, mR_acts HS, mI_hasImage HS, mF_hasImage HS, mI_remembered HS, mF_remembered HS, mR_tape HS, mI_taped HS, mF_taped HS, mI_point HS, mF_point HS, mI_end HS, mF_end HS, mI_begin HS, mF_begin HS, mI_deep HS, mF_deep HS, mI_faultAt HS, mF_faultAt HS, mR_five HS, mI_codes HS, mF_codes HS, mR_value HS, mI_so HS, mF_so HS, mR_lines HS, mR_chosen HS, mR_best HS, mR_members HS, mR_paired HS, mO HS, mA_287 HS, mW_287 HS, mA_288 HS, mW_288 HS, mA_289 HS, mW_289 HS, mA_290 HS, mW_290 HS, mA_291 HS, mW_291 HS, mA_292 HS, mW_292 HS, mA_293 HS, mW_293 HS, mA_294 HS, mW_294 HS, mA_295 HS, mW_295 HS, mA_296 HS, mW_296 HS, mA_297 HS, mW_297 HS, mA_298 HS, mW_298 HS, mA_299 HS, mW_299 HS, wi_some, or_0, or_1, bo_or, ite_boP, true_and, and_true, kN_v, kN_n, kT_v, kT_n, kT_e, Nat.add_zero, Nat.zero_add, k198 hw HS, r_ng h1.1.1, oN_lt (show i < 2147483648 by omega) (show (gg G.1) < 2147483648 by omega), hi, if_true]
    refine k280 hw HS hv h1 hi ?_
    intro D2 s2
    have h2 := h1.ms hv s2.ms
    have k := k D2 (s1.tr s2)
    simp only [b281_25 hw, b281_28 hw, b281_41 hw, mI_thrown HS, mF_thrown HS, mR_row HS, mR_image HS, mR_earlier HS, mR_trial HS, mR_acts HS, mI_hasImage HS, mF_hasImage HS, mI_remembered HS, mF_remembered HS, mR_tape HS, mI_taped HS, mF_taped HS, mI_point HS, mF_point HS, mI_end HS, mF_end HS, mI_begin HS, mF_begin HS, mI_deep HS, mF_deep HS, mI_faultAt HS, mF_faultAt HS, mR_five HS, mI_codes HS, mF_codes HS, mR_value HS, mI_so HS, mF_so HS, mR_lines HS, mR_chosen HS, mR_best HS, mR_members HS, mR_paired HS, mO HS, mA_287 HS, mW_287 HS, mA_288 HS, mW_288 HS, mA_289 HS, mW_289 HS, mA_290 HS, mW_290 HS, mA_291 HS, mW_291 HS, mA_292 HS, mW_292 HS, mA_293 HS, mW_293 HS, mA_294 HS, mW_294 HS, mA_295 HS, mW_295 HS, mA_296 HS, mW_296 HS, mA_297 HS, mW_297 HS, mA_298 HS, mW_298 HS, mA_299 HS, mW_299 HS, wi_some, or_0, or_1, bo_or, ite_boP, true_and, and_true, kN_v, kN_n, kT_v, kT_n, kT_e, Nat.add_zero, Nat.zero_add, k279 hw HS h2.1.1 hv.1, oN_add, mx]
    unfold heavyF at k
    by_cases hm : z.2 < wthS (gV G.1) (gt G.1) (chS G.1 i)
    · simp only [hm, if_true] at k ⊢; exact k _
    · simp only [hm, if_false] at k ⊢; exact k _
  · intro D1 s1 l4
    have h1 := h0.ms hv s1.ms
    rw [b281_11 hw]
    simp only [b281_16 hw, mI_thrown HS, mF_thrown HS, mR_row HS, mR_image HS, mR_earlier HS, mR_trial HS, mR_acts HS, mI_hasImage HS, mF_hasImage HS, mI_remembered HS, mF_remembered HS, mR_tape HS, mI_taped HS, mF_taped HS, mI_point HS, mF_point HS, mI_end HS, mF_end HS, mI_begin HS, mF_begin HS, mI_deep HS, mF_deep HS, mI_faultAt HS, mF_faultAt HS, mR_five HS, mI_codes HS, mF_codes HS, mR_value HS, mI_so HS, mF_so HS, mR_lines HS, mR_chosen HS, mR_best HS, mR_members HS, mR_paired HS, mO HS, mA_287 HS, mW_287 HS, mA_288 HS, mW_288 HS, mA_289 HS, mW_289 HS, mA_290 HS, mW_290 HS, mA_291 HS, mW_291 HS, mA_292 HS, mW_292 HS, mA_293 HS, mW_293 HS, mA_294 HS, mW_294 HS, mA_295 HS, mW_295 HS, mA_296 HS, mW_296 HS, mA_297 HS, mW_297 HS, mA_298 HS, mW_298 HS, mA_299 HS, mW_299 HS, wi_some, or_0, or_1, bo_or, ite_boP, true_and, and_true, kN_v, kN_n, kT_v, kT_n, kT_e, Nat.add_zero, Nat.zero_add, k198 hw HS, r_ng h1.1.1, oN_lt (show (gg G.1) < 2147483648 by omega) (show (gg G.1) < 2147483648 by omega), Nat.lt_irrefl, if_false]
    exact kk D1 (Ms.rf.th.tr s1.ms) (by rw [s1 286 0 (by omega)]; simp [u2_at])
/-! kills, crowd -/
def o_kills (G : GT) (x y : Int32) : Int32 ⊕ Nat := match ixO x (gg G.1), ixO y (gg G.1) with
  | some g, some o => if x = y then .inr 2 else .inl (bo (!aliveP (gV G.1) (wS (gV G.1) (gt G.1) (gg G.1) ((gV G.1) 1 1) (jshl (Int32.ofNat 1) (Int32.ofNat g))) o))
  | _, _ => .inr 1
theorem c_kills {x y : Int32} (hv : GV G) (h : GC sh D G) (kk : ∀ D', GC sh D' G → Fc D D' → Q (oQ (e2 xIO xIA) (o_kills G x y)) (mk sh D') (c + o1 (o_kills G x y)) (s + 6 * o1 (o_kills G x y))) : Wx (tP nx xs) (d + 4) 144 0 [some (.ref 0), (some (.int (x))), (some (.int (y)))] [] (mk sh D) c s Q := by
  have hw := h.1.2
  have HS := h.1.1
  have H := St_state HS
  have I := hv.1
  have hV := h.2.1.1
  have hng := i_ng6 I
  have hnt := i_nt8 I
  have hnr := i_nr5 I
  have hnl := i_nl60 I
  have hx := h.L
  have hL := h.2.1.2
  unfold o_kills at kk
  simp only [b144_0 hw, xR_tape HS, xI_wrongAt HS, xF_wrongAt HS, xR_state HS, xR_image HS, xI_imageKept HS, xF_imageKept HS, xR_draft HS, xR_memory HS, xR_lawText HS, xR_worlds HS, xI_worldsFresh HS, xF_worldsFresh HS, xR_otherWorlds HS, xR_seating HS, xR_pairing HS, xI_toldSo HS, xF_toldSo HS, xI_toldNot HS, xF_toldNot HS, xO HS, wi_some, or_0, or_1, bo_or, ite_boP, true_and, and_true, kN_v, kN_n, kT_v, kT_n, kT_e, Nat.add_zero, Nat.zero_add, k182 hv h]
  cases hi : ixO x (gg G.1) with
  | none => simp only [hi, oQ, o1, wi_some, or_0, or_1, bo_or, ite_boP, true_and, and_true, kN_v, kN_n, kT_v, kT_n, kT_e, Nat.add_zero, Nat.zero_add] at kk ⊢; exact kk D h Fc.rf
  | some g =>
    cases hj : ixO y (gg G.1) with
    | none => simp only [hi, hj, oQ, o1, wi_some, or_0, or_1, bo_or, ite_boP, true_and, and_true, kN_v, kN_n, kT_v, kT_n, kT_e, Nat.add_zero, Nat.zero_add] at kk ⊢; exact kk D h Fc.rf
    | some o =>
      by_cases he : x = y
      · simp only [hi, hj, he, if_true, oQ, o1, wi_some, or_0, or_1, bo_or, ite_boP, true_and, and_true, kN_v, kN_n, kT_v, kT_n, kT_e, Nat.add_zero, Nat.zero_add] at kk ⊢; exact kk D h Fc.rf
      · obtain ⟨hg, rfl⟩ := ixO_some (by omega) hi
        obtain ⟨ho, rfl⟩ := ixO_some (by omega) hj
        simp only [hi, hj, he, if_false, oQ, o1, wi_some, or_0, or_1, bo_or, ite_boP, true_and, and_true, kN_v, kN_n, kT_v, kT_n, kT_e, Nat.add_zero, Nat.zero_add, Nat.mul_zero, b144_6 hw, xR_tape HS, xI_wrongAt HS, xF_wrongAt HS, xR_state HS, xR_image HS, xI_imageKept HS, xF_imageKept HS, xR_draft HS, xR_memory HS, xR_lawText HS, xR_worlds HS, xI_worldsFresh HS, xF_worldsFresh HS, xR_otherWorlds HS, xR_seating HS, xR_pairing HS, xI_toldSo HS, xF_toldSo HS, xI_toldNot HS, xF_toldNot HS, xO HS] at kk ⊢
        refine k128 hv h ?_
        intro D1 c1 h1 w1
        have p1 : 2 ^ g < 2 ^ (gg G.1) := Nat.pow_lt_pow_right (by decide) hg
        have h64 := everyN I
        have hz : 2 ^ g < 64 := by omega
        have ea : bt (aliveS (gV G.1) (gg G.1) (wS (gV G.1) (gt G.1) (gg G.1) ((gV G.1) 1 1) (Int32.ofNat (2 ^ g)))) o = aliveP (gV G.1) (wS (gV G.1) (gt G.1) (gg G.1) ((gV G.1) 1 1) (Int32.ofNat (2 ^ g))) o := by
          unfold aliveS
          rw [bs_bt _ (by omega) (by omega)]
          simp [ho]
        have fin := kk D1 h1 (c1.fc hx)
        rw [p2_g g (by omega)] at fin
        simp only [b144_10 hw, b144_29 hw, uR_al (Wsh_265 HS), wi_some, or_0, or_1, bo_or, ite_boP, true_and, and_true, kN_v, kN_n, kT_v, kT_n, kT_e, Nat.add_zero, Nat.zero_add, p2_g g (by omega), uA_2 (Wsh_265 HS) hz, (w1 _ hz (sub_ev _ (by omega) _ hz p1)).2, jshr_b (show o < 32 by omega), ea]
        cases ha : aliveP (gV G.1) (wS (gV G.1) (gt G.1) (gg G.1) ((gV G.1) 1 1) (Int32.ofNat (2 ^ g))) o
        · simp only [ha, Bool.not_false, bo_t, Bool.false_eq_true, if_false] at fin ⊢; exact fin
        · simp only [ha, Bool.not_true, bo_f, if_true] at fin ⊢; exact fin
theorem m_kills {x y : Int32} (hw : WT sh) (HS : SP sh) (hv : GV G) (h : GR D G) (kk : ∀ D', Ms D D' → D' 286 0 = Int32.ofNat (th (o_kills G x y)) → Q (.inl (some (.int (rv (o_kills G x y))))) (mk sh D') c s) : Wx (tP nx xs) (d + 5) 313 0 [some (.ref 286), (some (.int (x))), (some (.int (y)))] [] (mk sh D) c s Q := by
  have h1 := h.ms hv (Ms.rf.th (v := Int32.ofNat 0))
  have hng := i_ng6 hv.1
  have hnt := i_nt8 hv.1
  have n10 : ¬ (Int32.ofNat 1 : Int32) = Int32.ofNat 0 := by decide
  have v3 : 3 < 11 := by decide
  unfold o_kills at kk
  simp only [b313_0 hw, mI_thrown HS, mF_thrown HS, mR_row HS, mR_image HS, mR_earlier HS, mR_trial HS, mR_acts HS, mI_hasImage HS, mF_hasImage HS, mI_remembered HS, mF_remembered HS, mR_tape HS, mI_taped HS, mF_taped HS, mI_point HS, mF_point HS, mI_end HS, mF_end HS, mI_begin HS, mF_begin HS, mI_deep HS, mF_deep HS, mI_faultAt HS, mF_faultAt HS, mR_five HS, mI_codes HS, mF_codes HS, mR_value HS, mI_so HS, mF_so HS, mR_lines HS, mR_chosen HS, mR_best HS, mR_members HS, mR_paired HS, mO HS, mA_287 HS, mW_287 HS, mA_288 HS, mW_288 HS, mA_289 HS, mW_289 HS, mA_290 HS, mW_290 HS, mA_291 HS, mW_291 HS, mA_292 HS, mW_292 HS, mA_293 HS, mW_293 HS, mA_294 HS, mW_294 HS, mA_295 HS, mW_295 HS, mA_296 HS, mW_296 HS, mA_297 HS, mW_297 HS, mA_298 HS, mW_298 HS, mA_299 HS, mW_299 HS, wi_some, or_0, or_1, bo_or, ite_boP, true_and, and_true, kN_v, kN_n, kT_v, kT_n, kT_e, Nat.add_zero, Nat.zero_add, k299 hw HS hv h]
  cases hi : ixO x (gg G.1) with
  | none =>
    simp only [hi, th, rv, b313_6 hw, b313_42 hw, b313_43 hw, wi_some, or_0, or_1, bo_or, ite_boP, true_and, and_true, kN_v, kN_n, kT_v, kT_n, kT_e, Nat.add_zero, Nat.zero_add, n10, if_false] at kk ⊢
    exact kk _ Ms.rf.th.th (by simp [u2_at])
  | some g =>
    cases hj : ixO y (gg G.1) with
    | none =>
      simp only [hi, hj, th, rv, b313_6 hw, b313_42 hw, b313_43 hw, wi_some, or_0, or_1, bo_or, ite_boP, true_and, and_true, kN_v, kN_n, kT_v, kT_n, kT_e, Nat.add_zero, Nat.zero_add, n10, if_false] at kk ⊢
      exact kk _ Ms.rf.th.th (by simp [u2_at])
    | some o =>
      by_cases he : x = y
      · simp only [hi, hj, he, if_true, th, rv, b313_6 hw, b313_42 hw, b313_43 hw, wi_some, or_0, or_1, bo_or, ite_boP, true_and, and_true, kN_v, kN_n, kT_v, kT_n, kT_e, Nat.add_zero, Nat.zero_add, n10, if_false] at kk ⊢
        exact kk _ Ms.rf.th.th (by simp [u2_at])
      · obtain ⟨hg, rfl⟩ := ixO_some (by omega) hi
        obtain ⟨ho, rfl⟩ := ixO_some (by omega) hj
        have ho6 : o < 6 := by omega
        simp only [hi, hj, he, if_false, th, rv, b313_6 hw, b313_15 hw, mI_thrown HS, mF_thrown HS, mR_row HS, mR_image HS, mR_earlier HS, mR_trial HS, mR_acts HS, mI_hasImage HS, mF_hasImage HS, mI_remembered HS, mF_remembered HS, mR_tape HS, mI_taped HS, mF_taped HS, mI_point HS, mF_point HS, mI_end HS, mF_end HS, mI_begin HS, mF_begin HS, mI_deep HS, mF_deep HS, mI_faultAt HS, mF_faultAt HS, mR_five HS, mI_codes HS, mF_codes HS, mR_value HS, mI_so HS, mF_so HS, mR_lines HS, mR_chosen HS, mR_best HS, mR_members HS, mR_paired HS, mO HS, mA_287 HS, mW_287 HS, mA_288 HS, mW_288 HS, mA_289 HS, mW_289 HS, mA_290 HS, mW_290 HS, mA_291 HS, mW_291 HS, mA_292 HS, mW_292 HS, mA_293 HS, mW_293 HS, mA_294 HS, mW_294 HS, mA_295 HS, mW_295 HS, mA_296 HS, mW_296 HS, mA_297 HS, mW_297 HS, mA_298 HS, mW_298 HS, mA_299 HS, mW_299 HS, wi_some, or_0, or_1, bo_or, ite_boP, true_and, and_true, kN_v, kN_n, kT_v, kT_n, kT_e, Nat.add_zero, Nat.zero_add, if_true, k203 hw HS ho6 v3, r_born h1.1.1 ho] at kk ⊢
        rcases i_born hv.1 ho with hb | ⟨n, hn, hb⟩
        · simp only [hb, if_true, b313_42 hw, b313_43 hw, wi_some, or_0, or_1, bo_or, ite_boP, true_and, and_true, kN_v, kN_n, kT_v, kT_n, kT_e, Nat.add_zero, Nat.zero_add] at kk ⊢
          have := kk (u2 D 286 0 (Int32.ofNat 0)) Ms.rf.th (by simp [u2_at])
          simpa only [aliveP, hb, decide_true, Bool.true_or, Bool.not_true, bo_f] using this
        · have hb1 : ¬ Int32.ofNat n = -1 := by rw [oN_ne1 (by omega)]; exact id
          simp only [hb, hb1, if_false]
          refine k265 hw HS h1.1.1 hv.1 ?_
          intro D2 s2
          have R2 : Rw (D2 287) (gV G.1) (gt G.1) (gg G.1) (gr G.1) (gl G.1) := by rw [s2.r7]; exact h1.1.1
          have fin := kk D2 (Ms.rf.th.tr s2.ms) (by rw [s2 286 0 (by omega)]; simp [u2_at])
          simp only [aliveP, hb, hb1, decide_false, Bool.false_or, oN_tn (show n < 2147483648 by omega)] at fin
          simp only [b313_26 hw, b313_32 hw, b313_35 hw, b313_42 hw, b313_43 hw, mI_thrown HS, mF_thrown HS, mR_row HS, mR_image HS, mR_earlier HS, mR_trial HS, mR_acts HS, mI_hasImage HS, mF_hasImage HS, mI_remembered HS, mF_remembered HS, mR_tape HS, mI_taped HS, mF_taped HS, mI_point HS, mF_point HS, mI_end HS, mF_end HS, mI_begin HS, mF_begin HS, mI_deep HS, mF_deep HS, mI_faultAt HS, mF_faultAt HS, mR_five HS, mI_codes HS, mF_codes HS, mR_value HS, mI_so HS, mF_so HS, mR_lines HS, mR_chosen HS, mR_best HS, mR_members HS, mR_paired HS, mO HS, mA_287 HS, mW_287 HS, mA_288 HS, mW_288 HS, mA_289 HS, mW_289 HS, mA_290 HS, mW_290 HS, mA_291 HS, mW_291 HS, mA_292 HS, mW_292 HS, mA_293 HS, mW_293 HS, mA_294 HS, mW_294 HS, mA_295 HS, mW_295 HS, mA_296 HS, mW_296 HS, mA_297 HS, mW_297 HS, mA_298 HS, mW_298 HS, mA_299 HS, mW_299 HS, wi_some, or_0, or_1, bo_or, ite_boP, true_and, and_true, kN_v, kN_n, kT_v, kT_n, kT_e, Nat.add_zero, Nat.zero_add, k203 hw HS ho6 v3, r_born R2 ho, hb, k189 hw (show n < 32 by omega)]
          cases ha : bt (wS (gV G.1) (gt G.1) (gg G.1) ((gV G.1) 1 1) (jshl (Int32.ofNat 1) (Int32.ofNat g))) n
          · simp only [ha, Bool.not_false, bo_t, Bool.false_eq_true, if_false] at fin ⊢; exact fin
          · simp only [ha, Bool.not_true, bo_f, if_true] at fin ⊢; exact fin
def o_crowd (G : GT) (x : Int32) : Int32 ⊕ Nat := match ixO x 16 with
  | some _ => .inl (bs (fun g => decide ((gV G.1) 6 g = x)) (gg G.1))
  | none => .inr 1
theorem c_crowd {x : Int32} (hv : GV G) (h : GC sh D G) (kk : ∀ D', GC sh D' G → Fc D D' → Q (oQ (fun _ => xIO) (o_crowd G x)) (mk sh D') (c + o1 (o_crowd G x)) (s + 6 * o1 (o_crowd G x))) : Wx (tP nx xs) (d + 1) 151 0 [some (.ref 0), (some (.int (x))), none, none] [] (mk sh D) c s Q := by
  have hw := h.1.2
  have HS := h.1.1
  have H := St_state HS
  have I := hv.1
  have hV := h.2.1.1
  have hng := i_ng6 I
  have hnt := i_nt8 I
  have hnr := i_nr5 I
  have hnl := i_nl60 I
  have hx := h.L
  have hL := h.2.1.2
  unfold o_crowd at kk
  simp only [b151_0 hw, wi_some, or_0, or_1, bo_or, ite_boP, true_and, and_true, kN_v, kN_n, kT_v, kT_n, kT_e, Nat.add_zero, Nat.zero_add, k179 hw]
  cases hi : ixO x 16 with
  | none => simp only [hi, oQ, o1, wi_some, or_0, or_1, bo_or, ite_boP, true_and, and_true, kN_v, kN_n, kT_v, kT_n, kT_e, Nat.add_zero, Nat.zero_add] at kk ⊢; exact kk D h Fc.rf
  | some p =>
    simp only [hi, oQ, o1, wi_some, or_0, or_1, bo_or, ite_boP, true_and, and_true, kN_v, kN_n, kT_v, kT_n, kT_e, Nat.add_zero, Nat.zero_add, Nat.mul_zero, b151_4 hw] at kk ⊢
    have e := (up_loop (W := fun i y => Wx (tP nx xs) (d + 1) 151 8 [some (.ref 0), (some (.int (x))), (some (.int (y))), (some (.int (Int32.ofNat i)))] [] (mk sh D) c s Q) (F := fun g y => if decide ((gV G.1) 6 g = x) then y ||| jshl (Int32.ofNat 1) (Int32.ofNat g) else y) (gg G.1) (fun i y hi => by
      have hi6 : i < 6 := by omega
      rw [b151_8 hw]
      simp only [b151_38 hw, xR_tape HS, xI_wrongAt HS, xF_wrongAt HS, xR_state HS, xR_image HS, xI_imageKept HS, xF_imageKept HS, xR_draft HS, xR_memory HS, xR_lawText HS, xR_worlds HS, xI_worldsFresh HS, xF_worldsFresh HS, xR_otherWorlds HS, xR_seating HS, xR_pairing HS, xI_toldSo HS, xF_toldSo HS, xI_toldNot HS, xF_toldNot HS, xO HS, sR_things H, sI_goers H, sF_goers H, sR_wish H, sR_deed H, sI_makers H, sF_makers H, sR_born H, sR_money H, sR_nerve H, sR_shuns H, sR_by H, sI_trains H, sF_trains H, sR_halts H, sR_seats H, sI_texts H, sF_texts H, sI_law H, sF_law H, sI_day H, sF_day H, sI_seed H, sF_seed H, sR_log H, sO_state H, sI_count H, sF_count H, sI_first H, sF_first H, sR_at H, sR_worth H, sR_makes H, sR_hinders H, sO_things H, sI_rows H, sF_rows H, sR_entries H, sO_log H, sA_2 H, sW_2 H, sA_3 H, sW_3 H, sA_4 H, sW_4 H, sA_5 H, sW_5 H, sA_6 H, sW_6 H, sA_7 H, sW_7 H, sA_8 H, sW_8 H, sA_9 H, sW_9 H, sA_10 H, sW_10 H, sA_11 H, sW_11 H, sA_12 H, sW_12 H, sA_13 H, sW_13 H, sA_14 H, sW_14 H, sA_16 H, sW_16 H, wi_some, or_0, or_1, bo_or, ite_boP, true_and, and_true, kN_v, kN_n, kT_v, kT_n, kT_e, Nat.add_zero, Nat.zero_add, v_0 hV, v_1 hV, v_2 hV, v_3 hV, v_4 hV, v_5 hV, v_6 hV, v_7 hV, v_8 hV, v_9 hV, v_10 hV, v_11 hV, v_12 hV, v_13 hV, v_14 hV, v_15 hV, v_16 hV, i_ng I, hi6, oN_lt (show i < 2147483648 by omega) (show (gg G.1) < 2147483648 by omega), hi, if_true, oN_add]
      by_cases hh : (gV G.1) 6 i = x
      · simp only [hh, if_true, decide_true]
      · simp only [hh, if_false, decide_false, Bool.false_eq_true]) (Int32.ofNat 0))
    rw [e, b151_8 hw]
    simp only [xR_tape HS, xI_wrongAt HS, xF_wrongAt HS, xR_state HS, xR_image HS, xI_imageKept HS, xF_imageKept HS, xR_draft HS, xR_memory HS, xR_lawText HS, xR_worlds HS, xI_worldsFresh HS, xF_worldsFresh HS, xR_otherWorlds HS, xR_seating HS, xR_pairing HS, xI_toldSo HS, xF_toldSo HS, xI_toldNot HS, xF_toldNot HS, xO HS, sR_things H, sI_goers H, sF_goers H, sR_wish H, sR_deed H, sI_makers H, sF_makers H, sR_born H, sR_money H, sR_nerve H, sR_shuns H, sR_by H, sI_trains H, sF_trains H, sR_halts H, sR_seats H, sI_texts H, sF_texts H, sI_law H, sF_law H, sI_day H, sF_day H, sI_seed H, sF_seed H, sR_log H, sO_state H, sI_count H, sF_count H, sI_first H, sF_first H, sR_at H, sR_worth H, sR_makes H, sR_hinders H, sO_things H, sI_rows H, sF_rows H, sR_entries H, sO_log H, sA_2 H, sW_2 H, sA_3 H, sW_3 H, sA_4 H, sW_4 H, sA_5 H, sW_5 H, sA_6 H, sW_6 H, sA_7 H, sW_7 H, sA_8 H, sW_8 H, sA_9 H, sW_9 H, sA_10 H, sW_10 H, sA_11 H, sW_11 H, sA_12 H, sW_12 H, sA_13 H, sW_13 H, sA_14 H, sW_14 H, sA_16 H, sW_16 H, wi_some, or_0, or_1, bo_or, ite_boP, true_and, and_true, kN_v, kN_n, kT_v, kT_n, kT_e, Nat.add_zero, Nat.zero_add, v_0 hV, v_1 hV, v_2 hV, v_3 hV, v_4 hV, v_5 hV, v_6 hV, v_7 hV, v_8 hV, v_9 hV, v_10 hV, v_11 hV, v_12 hV, v_13 hV, v_14 hV, v_15 hV, v_16 hV, i_ng I, oN_lt (show (gg G.1) < 2147483648 by omega) (show (gg G.1) < 2147483648 by omega), Nat.lt_irrefl, if_false]
    exact kk D h Fc.rf
theorem m_crowd {x : Int32} (hw : WT sh) (HS : SP sh) (hv : GV G) (h : GR D G) (kk : ∀ D', Ms D D' → D' 286 0 = Int32.ofNat (th (o_crowd G x)) → Q (.inl (some (.int (rv (o_crowd G x))))) (mk sh D') c s) : Wx (tP nx xs) (d + 2) 326 0 [some (.ref 286), (some (.int (x))), none, none] [] (mk sh D) c s Q := by
  have h1 := h.ms hv (Ms.rf.th (v := Int32.ofNat 0))
  have R1 := h1.1.1
  have hng := i_ng6 hv.1
  have v0 : 0 < 11 := by decide
  have z0 : ∀ y : Int32, y ||| Int32.ofNat 0 = y := fun y => b_ext fun i hi => by rw [b_or, b_00, Bool.or_false]
  unfold o_crowd at kk
  simp only [b326_0 hw, b326_5 hw, b326_10 hw, mI_thrown HS, mF_thrown HS, mR_row HS, mR_image HS, mR_earlier HS, mR_trial HS, mR_acts HS, mI_hasImage HS, mF_hasImage HS, mI_remembered HS, mF_remembered HS, mR_tape HS, mI_taped HS, mF_taped HS, mI_point HS, mF_point HS, mI_end HS, mF_end HS, mI_begin HS, mF_begin HS, mI_deep HS, mF_deep HS, mI_faultAt HS, mF_faultAt HS, mR_five HS, mI_codes HS, mF_codes HS, mR_value HS, mI_so HS, mF_so HS, mR_lines HS, mR_chosen HS, mR_best HS, mR_members HS, mR_paired HS, mO HS, mA_287 HS, mW_287 HS, mA_288 HS, mW_288 HS, mA_289 HS, mW_289 HS, mA_290 HS, mW_290 HS, mA_291 HS, mW_291 HS, mA_292 HS, mW_292 HS, mA_293 HS, mW_293 HS, mA_294 HS, mW_294 HS, mA_295 HS, mW_295 HS, mA_296 HS, mW_296 HS, mA_297 HS, mW_297 HS, mA_298 HS, mW_298 HS, mA_299 HS, mW_299 HS, wi_some, or_0, or_1, bo_or, ite_boP, true_and, and_true, kN_v, kN_n, kT_v, kT_n, kT_e, Nat.add_zero, Nat.zero_add, k213 hw, k187 hw HS, b326_14 hw]
  cases hi : ixO x 16 with
  | none =>
    simp only [hi, Option.isNone_none, if_true, th, rv] at kk ⊢
    exact kk _ Ms.rf.th.th (by simp [u2_at])
  | some p =>
    simp only [hi, Option.isNone_some, Bool.false_eq_true, if_false, th, rv] at kk ⊢
    have e := (up_loop (W := fun i y => Wx (tP nx xs) (d + 2) 326 23 [some (.ref 286), (some (.int (x))), (some (.int (y))), (some (.int (Int32.ofNat i)))] [] (mk sh (u2 D 286 0 (Int32.ofNat 0))) c s Q) (F := fun g y => if decide ((gV G.1) 6 g = x) then y ||| jshl (Int32.ofNat 1) (Int32.ofNat g) else y) (gg G.1) (fun i y hi => by
      have hi6 : i < 6 := by omega
      rw [b326_23 hw]
      simp only [b326_28 hw, b326_38 hw, b326_49 hw, mI_thrown HS, mF_thrown HS, mR_row HS, mR_image HS, mR_earlier HS, mR_trial HS, mR_acts HS, mI_hasImage HS, mF_hasImage HS, mI_remembered HS, mF_remembered HS, mR_tape HS, mI_taped HS, mF_taped HS, mI_point HS, mF_point HS, mI_end HS, mF_end HS, mI_begin HS, mF_begin HS, mI_deep HS, mF_deep HS, mI_faultAt HS, mF_faultAt HS, mR_five HS, mI_codes HS, mF_codes HS, mR_value HS, mI_so HS, mF_so HS, mR_lines HS, mR_chosen HS, mR_best HS, mR_members HS, mR_paired HS, mO HS, mA_287 HS, mW_287 HS, mA_288 HS, mW_288 HS, mA_289 HS, mW_289 HS, mA_290 HS, mW_290 HS, mA_291 HS, mW_291 HS, mA_292 HS, mW_292 HS, mA_293 HS, mW_293 HS, mA_294 HS, mW_294 HS, mA_295 HS, mW_295 HS, mA_296 HS, mW_296 HS, mA_297 HS, mW_297 HS, mA_298 HS, mW_298 HS, mA_299 HS, mW_299 HS, wi_some, or_0, or_1, bo_or, ite_boP, true_and, and_true, kN_v, kN_n, kT_v, kT_n, kT_e, Nat.add_zero, Nat.zero_add, k198 hw HS, r_ng R1, k203 hw HS hi6 v0, r_wish0 R1 hi, oN_lt (show i < 2147483648 by omega) (show (gg G.1) < 2147483648 by omega), hi, if_true, oN_add, z0]
      by_cases hh : (gV G.1) 6 i = x
      · simp only [hh, if_true, decide_true]
      · simp only [hh, if_false, decide_false, Bool.false_eq_true]) (Int32.ofNat 0))
    rw [e, b326_23 hw]
    simp only [b326_28 hw, mI_thrown HS, mF_thrown HS, mR_row HS, mR_image HS, mR_earlier HS, mR_trial HS, mR_acts HS, mI_hasImage HS, mF_hasImage HS, mI_remembered HS, mF_remembered HS, mR_tape HS, mI_taped HS, mF_taped HS, mI_point HS, mF_point HS, mI_end HS, mF_end HS, mI_begin HS, mF_begin HS, mI_deep HS, mF_deep HS, mI_faultAt HS, mF_faultAt HS, mR_five HS, mI_codes HS, mF_codes HS, mR_value HS, mI_so HS, mF_so HS, mR_lines HS, mR_chosen HS, mR_best HS, mR_members HS, mR_paired HS, mO HS, mA_287 HS, mW_287 HS, mA_288 HS, mW_288 HS, mA_289 HS, mW_289 HS, mA_290 HS, mW_290 HS, mA_291 HS, mW_291 HS, mA_292 HS, mW_292 HS, mA_293 HS, mW_293 HS, mA_294 HS, mW_294 HS, mA_295 HS, mW_295 HS, mA_296 HS, mW_296 HS, mA_297 HS, mW_297 HS, mA_298 HS, mW_298 HS, mA_299 HS, mW_299 HS, wi_some, or_0, or_1, bo_or, ite_boP, true_and, and_true, kN_v, kN_n, kT_v, kT_n, kT_e, Nat.add_zero, Nat.zero_add, k198 hw HS, r_ng R1, oN_lt (show (gg G.1) < 2147483648 by omega) (show (gg G.1) < 2147483648 by omega), Nat.lt_irrefl, if_false]
    exact kk _ Ms.rf.th (by simp [u2_at])
end C62
