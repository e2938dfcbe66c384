/-! ===== acts (3): deed, quarrel, sell, days ===== -/
def mkX (x : Int32) (g : Nat) (m : Bool) : Int32 := if m then x ||| jshl (Int32.ofNat 1) (Int32.ofNat g) else x &&& (jshl (Int32.ofNat 1) (Int32.ofNat g) ^^^ -1)
theorem mkX_g {x : Int32} {g : Nat} {m : Bool} (hg : g < 32) : bt (mkX x g m) g = m := by
  unfold mkX
  cases m
  · simp only [Bool.false_eq_true, if_false]
    rw [b_and, b_xor, jshl_1 hg hg, b_m1 g hg]
    simp
  · simp only [if_true]
    rw [b_or, jshl_1 hg hg]
    simp
theorem mkX_o {x : Int32} {g k : Nat} {m : Bool} (hg : g < 32) (hk : k < 32) (h : k ≠ g) : bt (mkX x g m) k = bt x k := by
  unfold mkX
  cases m
  · simp only [Bool.false_eq_true, if_false]
    rw [b_and, b_xor, jshl_1 hg hk, b_m1 k hk]
    simp [h]
  · simp only [if_true]
    rw [b_or, jshl_1 hg hk]
    simp [h]
section C74
variable {nx : Nat} {xs : Nat → Int32} {d c s : Nat} {sh : List sC} {D : sD} {Q : av_Q}
variable {G : GT}
/-- State.tellDeed -/
theorem k34 {V : sD} {a nt ng nr nl g : Nat} {x : Int32} {m : Bool} (hw : WT sh) (H : St sh a) (hV : Vw D a V) (hg : g < 6) : Wx (tP nx xs) d 34 0 [some (.ref a), (some (.int (Int32.ofNat g))), (some (.int (x))), (some (.int (bo m))), none] [] (mk sh D) c s Q = Q (.inl none) (mk sh (u2 (u2 D (a + 7) g x) a 4 (mkX (V 0 4) g (decide (¬ x = -1) && m)))) c s := by
  have n0 : ¬ a = a + 7 := by omega
  simp only [b34_0 hw, b34_12 hw, b34_32 hw, b34_41 hw, b34_44 hw, sR_things H, sI_goers H, sF_goers H, sR_wish H, sR_deed H, sI_makers H, sF_makers H, sR_born H, sR_money H, sR_nerve H, sR_shuns H, sR_by H, sI_trains H, sF_trains H, sR_halts H, sR_seats H, sI_texts H, sF_texts H, sI_law H, sF_law H, sI_day H, sF_day H, sI_seed H, sF_seed H, sR_log H, sO_state H, sI_count H, sF_count H, sI_first H, sF_first H, sR_at H, sR_worth H, sR_makes H, sR_hinders H, sO_things H, sI_rows H, sF_rows H, sR_entries H, sO_log H, sA_2 H, sW_2 H, sA_3 H, sW_3 H, sA_4 H, sW_4 H, sA_5 H, sW_5 H, sA_6 H, sW_6 H, sA_7 H, sW_7 H, sA_8 H, sW_8 H, sA_9 H, sW_9 H, sA_10 H, sW_10 H, sA_11 H, sW_11 H, sA_12 H, sW_12 H, sA_13 H, sW_13 H, sA_14 H, sW_14 H, sA_16 H, sW_16 H, wi_some, or_0, or_1, bo_or, ite_boP, true_and, and_true, kN_v, kN_n, kT_v, kT_n, kT_e, Nat.add_zero, Nat.zero_add, hg, oN_tn (show g < 2147483648 by omega), u2_o, n0, not_false_eq_true, v_0 hV, v_1 hV, v_2 hV, v_3 hV, v_4 hV, v_5 hV, v_6 hV, v_7 hV, v_8 hV, v_9 hV, v_10 hV, v_11 hV, v_12 hV, v_13 hV, v_14 hV, v_15 hV, v_16 hV, mkX]
  by_cases h1 : x = -1
  · simp only [h1, if_true, not_true_eq_false, decide_false, Bool.false_and, Bool.false_eq_true, if_false]
  · cases m
    · simp only [h1, if_false, Bool.false_eq_true, Bool.and_false, if_true]
    · simp only [h1, if_false, if_true, not_false_eq_true, decide_true, Bool.and_self]
def o_deed (G : GT) (x y : Int32) : Int32 ⊕ Nat := match ixO x (gg G.1) with
  | none => .inr 1
  | some g => if y = -1 ∨ (ixO y (gt G.1)).isSome then (if (gV G.1) 12 g = -1 then .inl ((gV G.1) 7 g) else .inr 2) else .inr 1
def s_deed (G : GT) (x y : Int32) (m : Bool) : GS := repN G.1 (u2 (u2 (gV G.1) 7 x.toNatClampNeg y) 0 4 (mkX ((gV G.1) 0 4) x.toNatClampNeg (decide (¬ y = -1) && m))) (gl G.1)
theorem c_deed {x y : Int32} {m : Bool} (hv : GV G) (h : GC sh D G) (kk : ∀ D' V', VE (gV G.1) V' → GC sh D' (actG G (o_deed G x y) V' (s_deed G x y m)) → Fc D D' → Q (oQ (e2 xIO xIS) (o_deed G x y)) (mk sh D') (c + o1 (o_deed G x y)) (s + 6 * o1 (o_deed G x y))) : Wx (tP nx xs) (d + 4) 115 0 [some (.ref 0), (some (.int (x))), (some (.int (y))), (some (.int (bo m))), none] [] (mk sh D) c s Q := by
  have hw := h.1.2
  have HS := h.1.1
  have H := St_state HS
  have I := hv.1
  have hV := h.2.1.1
  have hng := i_ng6 I
  have hnt := i_nt8 I
  have hnr := i_nr5 I
  have hnl := i_nl60 I
  have hx := h.L
  have hL := h.2.1.2
  unfold o_deed s_deed at kk
  simp only [b115_0 hw, xR_tape HS, xI_wrongAt HS, xF_wrongAt HS, xR_state HS, xR_image HS, xI_imageKept HS, xF_imageKept HS, xR_draft HS, xR_memory HS, xR_lawText HS, xR_worlds HS, xI_worldsFresh HS, xF_worldsFresh HS, xR_otherWorlds HS, xR_seating HS, xR_pairing HS, xI_toldSo HS, xF_toldSo HS, xI_toldNot HS, xF_toldNot HS, xO HS, wi_some, or_0, or_1, bo_or, ite_boP, true_and, and_true, kN_v, kN_n, kT_v, kT_n, kT_e, Nat.add_zero, Nat.zero_add, k181 hv h]
  cases hi : ixO x (gg G.1) with
  | none => simp only [hi, oQ, o1, actG, wi_some, or_0, or_1, bo_or, ite_boP, true_and, and_true, kN_v, kN_n, kT_v, kT_n, kT_e, Nat.add_zero, Nat.zero_add] at kk ⊢; exact kk D _ VE.rf h Fc.rf
  | some g =>
    obtain ⟨hg, rfl⟩ := ixO_some (by omega) hi
    have hg6 : g < 6 := by omega
    simp only [hi, oN_tn (show g < 2147483648 by omega)] at kk
    simp only [wi_some, or_0, or_1, bo_or, ite_boP, true_and, and_true, kN_v, kN_n, kT_v, kT_n, kT_e, Nat.add_zero, Nat.zero_add, b115_5 hw]
    have go : (y = -1 ∨ (ixO y (gt G.1)).isSome = true) → Wx (tP nx xs) (d + 4) 115 15 [some (.ref 0), (some (.int (Int32.ofNat g))), (some (.int (y))), (some (.int (bo m))), none] [] (mk sh D) c s Q := by
      intro hy
      simp only [hy, if_true] at kk
      simp only [b115_15 hw, xR_tape HS, xI_wrongAt HS, xF_wrongAt HS, xR_state HS, xR_image HS, xI_imageKept HS, xF_imageKept HS, xR_draft HS, xR_memory HS, xR_lawText HS, xR_worlds HS, xI_worldsFresh HS, xF_worldsFresh HS, xR_otherWorlds HS, xR_seating HS, xR_pairing HS, xI_toldSo HS, xF_toldSo HS, xI_toldNot HS, xF_toldNot HS, xO HS, wi_some, or_0, or_1, bo_or, ite_boP, true_and, and_true, kN_v, kN_n, kT_v, kT_n, kT_e, Nat.add_zero, Nat.zero_add, k184 hv h hg]
      by_cases hb : (gV G.1) 12 g = -1
      rotate_left
      · simp only [hb, if_false, oQ, o1, actG, wi_some, or_0, or_1, bo_or, ite_boP, true_and, and_true, kN_v, kN_n, kT_v, kT_n, kT_e, Nat.add_zero, Nat.zero_add] at kk ⊢; exact kk D _ VE.rf h Fc.rf
      simp only [hb, if_true, oQ, o1, actG, wi_some, or_0, or_1, bo_or, ite_boP, true_and, and_true, kN_v, kN_n, kT_v, kT_n, kT_e, Nat.add_zero, Nat.zero_add, Nat.mul_zero, b115_20 hw, xR_tape HS, xI_wrongAt HS, xF_wrongAt HS, xR_state HS, xR_image HS, xI_imageKept HS, xF_imageKept HS, xR_draft HS, xR_memory HS, xR_lawText HS, xR_worlds HS, xI_worldsFresh HS, xF_worldsFresh HS, xR_otherWorlds HS, xR_seating HS, xR_pairing HS, xI_toldSo HS, xF_toldSo HS, xI_toldNot HS, xF_toldNot HS, xO HS] at kk ⊢
      refine k119 hv h ?_
      intro D1 V' e1 h1' f1 h9
      have hV1 : Vw D1 3 (gV G.1) := h1'.2.1.1
      simp only [b115_24 hw, b115_45 hw, xR_tape HS, xI_wrongAt HS, xF_wrongAt HS, xR_state HS, xR_image HS, xI_imageKept HS, xF_imageKept HS, xR_draft HS, xR_memory HS, xR_lawText HS, xR_worlds HS, xI_worldsFresh HS, xF_worldsFresh HS, xR_otherWorlds HS, xR_seating HS, xR_pairing HS, xI_toldSo HS, xF_toldSo HS, xI_toldNot HS, xF_toldNot HS, xO HS, sR_things H, sI_goers H, sF_goers H, sR_wish H, sR_deed H, sI_makers H, sF_makers H, sR_born H, sR_money H, sR_nerve H, sR_shuns H, sR_by H, sI_trains H, sF_trains H, sR_halts H, sR_seats H, sI_texts H, sF_texts H, sI_law H, sF_law H, sI_day H, sF_day H, sI_seed H, sF_seed H, sR_log H, sO_state H, sI_count H, sF_count H, sI_first H, sF_first H, sR_at H, sR_worth H, sR_makes H, sR_hinders H, sO_things H, sI_rows H, sF_rows H, sR_entries H, sO_log H, sA_2 H, sW_2 H, sA_3 H, sW_3 H, sA_4 H, sW_4 H, sA_5 H, sW_5 H, sA_6 H, sW_6 H, sA_7 H, sW_7 H, sA_8 H, sW_8 H, sA_9 H, sW_9 H, sA_10 H, sW_10 H, sA_11 H, sW_11 H, sA_12 H, sW_12 H, sA_13 H, sW_13 H, sA_14 H, sW_14 H, sA_16 H, sW_16 H, wi_some, or_0, or_1, bo_or, ite_boP, true_and, and_true, kN_v, kN_n, kT_v, kT_n, kT_e, Nat.add_zero, Nat.zero_add, hg6, v_0 hV1, v_1 hV1, v_2 hV1, v_3 hV1, v_4 hV1, v_5 hV1, v_6 hV1, v_7 hV1, v_8 hV1, v_9 hV1, v_10 hV1, v_11 hV1, v_12 hV1, v_13 hV1, v_14 hV1, v_15 hV1, v_16 hV1, k34 (nt := 0) (ng := 0) (nr := 0) (nl := 0) hw H hV1 hg6]
      refine kk _ V' e1 (h1'.act h9 (Fr.fx (Fr.st0 (Fr.st (by decide) Fr.rf))) ((hV1.st (by decide) _).st0 _) (by simp [u2_at])) ?_
      exact f1.tr fun b h1 h2 => funext fun i => by rw [u2_at, if_neg (by omega), u2_at, if_neg (by omega)]
    by_cases hy1 : y = -1
    · simp only [hy1, if_true]
      rw [hy1] at go
      exact go (Or.inl rfl)
    · simp only [hy1, if_false, xR_tape HS, xI_wrongAt HS, xF_wrongAt HS, xR_state HS, xR_image HS, xI_imageKept HS, xF_imageKept HS, xR_draft HS, xR_memory HS, xR_lawText HS, xR_worlds HS, xI_worldsFresh HS, xF_worldsFresh HS, xR_otherWorlds HS, xR_seating HS, xR_pairing HS, xI_toldSo HS, xF_toldSo HS, xI_toldNot HS, xF_toldNot HS, xO HS, wi_some, or_0, or_1, bo_or, ite_boP, true_and, and_true, kN_v, kN_n, kT_v, kT_n, kT_e, Nat.add_zero, Nat.zero_add, k180 hv h]
      cases hj : ixO y (gt G.1) with
      | none => simp only [hj, hy1, Option.isSome_none, Bool.false_eq_true, or_self, if_false, oQ, o1, actG, wi_some, or_0, or_1, bo_or, ite_boP, true_and, and_true, kN_v, kN_n, kT_v, kT_n, kT_e, Nat.add_zero, Nat.zero_add] at kk ⊢; exact kk D _ VE.rf h Fc.rf
      | some t =>
        simp only [wi_some, or_0, or_1, bo_or, ite_boP, true_and, and_true, kN_v, kN_n, kT_v, kT_n, kT_e, Nat.add_zero, Nat.zero_add]
        exact go (Or.inr (by rw [hj]; rfl))
theorem m_deed {x y : Int32} {m : Bool} {V' : sD} (hw : WT sh) (HS : SP sh) (hv : GV G) (h : GR D G) (e : VE (gV G.1) V') (kk : ∀ D', GR D' (actG G (o_deed G x y) V' (s_deed G x y m)) → Fm D D' → D' 286 0 = Int32.ofNat (th (o_deed G x y)) → Q (.inl (some (.int (rv (o_deed G x y))))) (mk sh D') c s) : Wx (tP nx xs) (d + 3) 298 0 [some (.ref 286), (some (.int (x))), (some (.int (y))), (some (.int (bo m))), none] [] (mk sh D) c s Q := by
  have m1 : Ms D (u2 D 286 0 (Int32.ofNat 0)) := Ms.rf.th
  have h1 := h.ms hv m1
  have R1 := h1.1.1
  have hng := i_ng6 hv.1
  have n10 : ¬ (Int32.ofNat 1 : Int32) = Int32.ofNat 0 := by decide
  unfold o_deed s_deed at kk
  simp only [b298_0 hw, b298_5 hw, b298_11 hw, mI_thrown HS, mF_thrown HS, mR_row HS, mR_image HS, mR_earlier HS, mR_trial HS, mR_acts HS, mI_hasImage HS, mF_hasImage HS, mI_remembered HS, mF_remembered HS, mR_tape HS, mI_taped HS, mF_taped HS, mI_point HS, mF_point HS, mI_end HS, mF_end HS, mI_begin HS, mF_begin HS, mI_deep HS, mF_deep HS, mI_faultAt HS, mF_faultAt HS, mR_five HS, mI_codes HS, mF_codes HS, mR_value HS, mI_so HS, mF_so HS, mR_lines HS, mR_chosen HS, mR_best HS, mR_members HS, mR_paired HS, mO HS, mA_287 HS, mW_287 HS, mA_288 HS, mW_288 HS, mA_289 HS, mW_289 HS, mA_290 HS, mW_290 HS, mA_291 HS, mW_291 HS, mA_292 HS, mW_292 HS, mA_293 HS, mW_293 HS, mA_294 HS, mW_294 HS, mA_295 HS, mW_295 HS, mA_296 HS, mW_296 HS, mA_297 HS, mW_297 HS, mA_298 HS, mW_298 HS, mA_299 HS, mW_299 HS, wi_some, or_0, or_1, bo_or, ite_boP, true_and, and_true, kN_v, kN_n, kT_v, kT_n, kT_e, Nat.add_zero, Nat.zero_add, k211 hw HS hv h1, k210 hw HS hv h1, b298_24 hw, b298_27 hw, b298_31 hw, b298_32 hw, k187t hw HS, k187f hw HS, b298_36 hw, n10, if_false, if_true]
  cases hi : ixO x (gg G.1) with
  | none =>
    simp only [hi, Option.isNone_none, if_true, th, rv, actG, b298_52 hw] at kk ⊢
    exact kk _ (h.ms hv Ms.rf.th.th) Ms.rf.th.th.1 (by simp [u2_at])
  | some g =>
    obtain ⟨hg, rfl⟩ := ixO_some (by omega) hi
    have hg6 : g < 6 := by omega
    simp only [hi, oN_tn (show g < 2147483648 by omega)] at kk
    simp only [Option.isNone_some, Bool.false_eq_true, if_false, mI_thrown HS, mF_thrown HS, mR_row HS, mR_image HS, mR_earlier HS, mR_trial HS, mR_acts HS, mI_hasImage HS, mF_hasImage HS, mI_remembered HS, mF_remembered HS, mR_tape HS, mI_taped HS, mF_taped HS, mI_point HS, mF_point HS, mI_end HS, mF_end HS, mI_begin HS, mF_begin HS, mI_deep HS, mF_deep HS, mI_faultAt HS, mF_faultAt HS, mR_five HS, mI_codes HS, mF_codes HS, mR_value HS, mI_so HS, mF_so HS, mR_lines HS, mR_chosen HS, mR_best HS, mR_members HS, mR_paired HS, mO HS, mA_287 HS, mW_287 HS, mA_288 HS, mW_288 HS, mA_289 HS, mW_289 HS, mA_290 HS, mW_290 HS, mA_291 HS, mW_291 HS, mA_292 HS, mW_292 HS, mA_293 HS, mW_293 HS, mA_294 HS, mW_294 HS, mA_295 HS, mW_295 HS, mA_296 HS, mW_296 HS, mA_297 HS, mW_297 HS, mA_298 HS, mW_298 HS, mA_299 HS, mW_299 HS, wi_some, or_0, or_1, bo_or, ite_boP, true_and, and_true, kN_v, kN_n, kT_v, kT_n, kT_e, Nat.add_zero, Nat.zero_add, k207 hw HS R1 hng hg, b298_45 hw, k187 hw HS, b298_49 hw, b298_52 hw]
    have go : (y = -1 ∨ (ixO y (gt G.1)).isSome = true) → (if (decide ¬ (gV G.1) 12 g = -1) = true then Q (Sum.inl (some (Value.int (Int32.ofNat 0)))) (mk sh (if (decide ¬ (gV G.1) 12 g = -1) = true then u2 (u2 D 286 0 (Int32.ofNat 0)) 286 0 (Int32.ofNat 2) else u2 D 286 0 (Int32.ofNat 0))) c s else Wx (tP nx xs) (d + 2) 202 0 [(some (.int (Int32.ofNat g))), (some (.int (Int32.ofNat 1)))] [] (mk sh (if (decide ¬ (gV G.1) 12 g = -1) = true then u2 (u2 D 286 0 (Int32.ofNat 0)) 286 0 (Int32.ofNat 2) else u2 D 286 0 (Int32.ofNat 0))) 0 0 (kN (tP nx xs) (d + 2 + 1) 298 60 [some (.ref 286), (some (.int (Int32.ofNat g))), (some (.int (y))), (some (.int (bo m))), none] [.ref 286] c s Q)) := by
      intro hy
      simp only [hy, if_true] at kk
      by_cases hb : (gV G.1) 12 g = -1
      rotate_left
      · simp only [hb, not_false_eq_true, decide_true, if_true, if_false, th, rv, actG] at kk ⊢
        exact kk _ (h.ms hv Ms.rf.th.th) Ms.rf.th.th.1 (by simp [u2_at])
      simp only [hb, not_true_eq_false, decide_false, Bool.false_eq_true, if_false, if_true, th, rv, actG, k202 hw, wi_some, or_0, or_1, bo_or, ite_boP, true_and, and_true, kN_v, kN_n, kT_v, kT_n, kT_e, Nat.add_zero, Nat.zero_add, b298_60 hw, mI_thrown HS, mF_thrown HS, mR_row HS, mR_image HS, mR_earlier HS, mR_trial HS, mR_acts HS, mI_hasImage HS, mF_hasImage HS, mI_remembered HS, mF_remembered HS, mR_tape HS, mI_taped HS, mF_taped HS, mI_point HS, mF_point HS, mI_end HS, mF_end HS, mI_begin HS, mF_begin HS, mI_deep HS, mF_deep HS, mI_faultAt HS, mF_faultAt HS, mR_five HS, mI_codes HS, mF_codes HS, mR_value HS, mI_so HS, mF_so HS, mR_lines HS, mR_chosen HS, mR_best HS, mR_members HS, mR_paired HS, mO HS, mA_287 HS, mW_287 HS, mA_288 HS, mW_288 HS, mA_289 HS, mW_289 HS, mA_290 HS, mW_290 HS, mA_291 HS, mW_291 HS, mA_292 HS, mW_292 HS, mA_293 HS, mW_293 HS, mA_294 HS, mW_294 HS, mA_295 HS, mW_295 HS, mA_296 HS, mW_296 HS, mA_297 HS, mW_297 HS, mA_298 HS, mW_298 HS, mA_299 HS, mW_299 HS] at kk ⊢
      refine k294 hw HS hv h1 e (by omega) (by omega) ?_
      intro D1 h2 f2 t2 r2
      have R2 := h2.1.1
      have c2 : 48 + 9 * g + 2 < 2050 := by omega
      have em : ∀ q : Bool, (decide (¬ y = -1) && m) = q → Q (.inl (some (.int (u2 D 286 0 (Int32.ofNat 0) 287 (48 + 9 * g + 1))))) (mk sh (u2 (u2 D1 287 (48 + 9 * g + 1) y) 287 (48 + 9 * g + 2) (bo q))) c s := by
        intro q hq
        have rx2 : Rx D1 (u2 (u2 D1 287 (48 + 9 * g + 1) y) 287 (48 + 9 * g + 2) (bo q)) := (Rx.rf.st (by omega) (by omega)).st (by omega) (by omega)
        rw [r_deed R1 hg]
        refine kk _ (h2.act rx2 ?_) (m1.1.tr (f2.tr rx2.fm)) (by rw [rx2.1 286 (by decide) (by decide), t2]; simp [u2_at])
        have Ra : Rw (u2 D1 287 (48 + 9 * g + 1) y 287) (u2 (gV G.1) 7 g y) (gt G.1) (gg G.1) (gr G.1) (gl G.1) := Rw_deed R2 (i_nt8 hv.1) hng (i_nr5 hv.1) hg (fun i hi => by rw [u2_at, if_neg (by omega)]) (by simp [u2_at])
        have e4 : u2 (gV G.1) 7 g y 0 4 = (gV G.1) 0 4 := by simp [u2_at]
        refine Rw_mk Ra (i_nt8 hv.1) hng (i_nr5 hv.1) hg (fun i hi => by rw [u2_at, if_neg (by omega)]) ?_ ?_
        · rw [mkX_g (by omega), hq]; simp [u2_at]
        · intro k hk hne
          rw [e4]
          exact mkX_o (by omega) (by omega) hne
      simp only [b298_64 hw, b298_75 hw, b298_88 hw, b298_89 hw, b298_90 hw, mI_thrown HS, mF_thrown HS, mR_row HS, mR_image HS, mR_earlier HS, mR_trial HS, mR_acts HS, mI_hasImage HS, mF_hasImage HS, mI_remembered HS, mF_remembered HS, mR_tape HS, mI_taped HS, mF_taped HS, mI_point HS, mF_point HS, mI_end HS, mF_end HS, mI_begin HS, mF_begin HS, mI_deep HS, mF_deep HS, mI_faultAt HS, mF_faultAt HS, mR_five HS, mI_codes HS, mF_codes HS, mR_value HS, mI_so HS, mF_so HS, mR_lines HS, mR_chosen HS, mR_best HS, mR_members HS, mR_paired HS, mO HS, mA_287 HS, mW_287 HS, mA_288 HS, mW_288 HS, mA_289 HS, mW_289 HS, mA_290 HS, mW_290 HS, mA_291 HS, mW_291 HS, mA_292 HS, mW_292 HS, mA_293 HS, mW_293 HS, mA_294 HS, mW_294 HS, mA_295 HS, mW_295 HS, mA_296 HS, mW_296 HS, mA_297 HS, mW_297 HS, mA_298 HS, mW_298 HS, mA_299 HS, mW_299 HS, wi_some, or_0, or_1, bo_or, ite_boP, true_and, and_true, kN_v, kN_n, kT_v, kT_n, kT_e, Nat.add_zero, Nat.zero_add, k202 hw, c2, oN_tn (show 48 + 9 * g + 2 < 2147483648 by omega)]
      by_cases hy1 : y = -1
      · have := em false (by simp [hy1])
        simp only [hy1, if_true, bo_f] at this ⊢
        exact this
      · cases m
        · have := em false (by simp)
          simp only [hy1, if_false, Bool.false_eq_true, bo_f] at this ⊢
          exact this
        · have := em true (by simp [hy1])
          simp only [hy1, if_false, if_true, bo_t] at this ⊢
          exact this
    by_cases hy1 : y = -1
    · simp only [hy1, if_true]
      rw [hy1] at go
      exact go (Or.inl rfl)
    · simp only [hy1, if_false]
      cases hj : ixO y (gt G.1) with
      | none =>
        simp only [hj, hy1, Option.isSome_none, Option.isNone_none, Bool.false_eq_true, or_self, if_false, if_true, th, rv, actG] at kk ⊢
        exact kk _ (h.ms hv Ms.rf.th.th) Ms.rf.th.th.1 (by simp [u2_at])
      | some t =>
        simp only [Option.isNone_some, Bool.false_eq_true, if_false]
        exact go (Or.inr (by rw [hj]; rfl))
/-! sell -/
def o_sell (G : GT) (x y : Int32) : Int32 ⊕ Nat := match ixO x (gg G.1), ixO y (gr G.1) with
  | some g, some t => if canL (gw G.1) (gV G.1) (gg G.1) g t then .inl (costL (gw G.1) (gV G.1) (gg G.1) g t) else .inr 2
  | _, _ => .inr 1
def s_sell (G : GT) (x y : Int32) : GS := repN G.1 (bdV (gV G.1) x.toNatClampNeg y.toNatClampNeg (costL (gw G.1) (gV G.1) (gg G.1) x.toNatClampNeg y.toNatClampNeg)) (min (gl G.1) 59 + 1)
theorem c_sell {x y : Int32} (hv : GV G) (h : GC sh D G) (kk : ∀ D' V', VE (gV G.1) V' → GC sh D' (actG G (o_sell G x y) V' (s_sell G x y)) → Fc D D' → Q (oQ (e2 xIO xIS) (o_sell G x y)) (mk sh D') (c + o1 (o_sell G x y)) (s + 6 * o1 (o_sell G x y))) : Wx (tP nx xs) (d + 4) 111 0 [some (.ref 0), (some (.int (x))), (some (.int (y)))] [] (mk sh D) c s Q := by
  have hw := h.1.2
  have HS := h.1.1
  have H := St_state HS
  have I := hv.1
  have hV := h.2.1.1
  have hng := i_ng6 I
  have hnt := i_nt8 I
  have hnr := i_nr5 I
  have hnl := i_nl60 I
  have hx := h.L
  have hL := h.2.1.2
  unfold o_sell s_sell at kk
  simp only [b111_0 hw, xR_tape HS, xI_wrongAt HS, xF_wrongAt HS, xR_state HS, xR_image HS, xI_imageKept HS, xF_imageKept HS, xR_draft HS, xR_memory HS, xR_lawText HS, xR_worlds HS, xI_worldsFresh HS, xF_worldsFresh HS, xR_otherWorlds HS, xR_seating HS, xR_pairing HS, xI_toldSo HS, xF_toldSo HS, xI_toldNot HS, xF_toldNot HS, xO HS, wi_some, or_0, or_1, bo_or, ite_boP, true_and, and_true, kN_v, kN_n, kT_v, kT_n, kT_e, Nat.add_zero, Nat.zero_add, k181 hv h]
  cases hi : ixO x (gg G.1) with
  | none => simp only [hi, oQ, o1, actG, wi_some, or_0, or_1, bo_or, ite_boP, true_and, and_true, kN_v, kN_n, kT_v, kT_n, kT_e, Nat.add_zero, Nat.zero_add] at kk ⊢; exact kk D _ VE.rf h Fc.rf
  | some g =>
    obtain ⟨hg, rfl⟩ := ixO_some (by omega) hi
    simp only [wi_some, or_0, or_1, bo_or, ite_boP, true_and, and_true, kN_v, kN_n, kT_v, kT_n, kT_e, Nat.add_zero, Nat.zero_add, b111_5 hw, xR_tape HS, xI_wrongAt HS, xF_wrongAt HS, xR_state HS, xR_image HS, xI_imageKept HS, xF_imageKept HS, xR_draft HS, xR_memory HS, xR_lawText HS, xR_worlds HS, xI_worldsFresh HS, xF_worldsFresh HS, xR_otherWorlds HS, xR_seating HS, xR_pairing HS, xI_toldSo HS, xF_toldSo HS, xI_toldNot HS, xF_toldNot HS, xO HS, k183 hv h]
    cases hj : ixO y (gr G.1) with
    | none => simp only [hi, hj, oQ, o1, actG, wi_some, or_0, or_1, bo_or, ite_boP, true_and, and_true, kN_v, kN_n, kT_v, kT_n, kT_e, Nat.add_zero, Nat.zero_add] at kk ⊢; exact kk D _ VE.rf h Fc.rf
    | some t =>
      obtain ⟨ht, rfl⟩ := ixO_some (by omega) hj
      simp only [hi, hj, oN_tn (show g < 2147483648 by omega), oN_tn (show t < 2147483648 by omega)] at kk
      simp only [wi_some, or_0, or_1, bo_or, ite_boP, true_and, and_true, kN_v, kN_n, kT_v, kT_n, kT_e, Nat.add_zero, Nat.zero_add, b111_10 hw, xR_tape HS, xI_wrongAt HS, xF_wrongAt HS, xR_state HS, xR_image HS, xI_imageKept HS, xF_imageKept HS, xR_draft HS, xR_memory HS, xR_lawText HS, xR_worlds HS, xI_worldsFresh HS, xF_worldsFresh HS, xR_otherWorlds HS, xR_seating HS, xR_pairing HS, xI_toldSo HS, xF_toldSo HS, xI_toldNot HS, xF_toldNot HS, xO HS, sR_things H, sI_goers H, sF_goers H, sR_wish H, sR_deed H, sI_makers H, sF_makers H, sR_born H, sR_money H, sR_nerve H, sR_shuns H, sR_by H, sI_trains H, sF_trains H, sR_halts H, sR_seats H, sI_texts H, sF_texts H, sI_law H, sF_law H, sI_day H, sF_day H, sI_seed H, sF_seed H, sR_log H, sO_state H, sI_count H, sF_count H, sI_first H, sF_first H, sR_at H, sR_worth H, sR_makes H, sR_hinders H, sO_things H, sI_rows H, sF_rows H, sR_entries H, sO_log H, sA_2 H, sW_2 H, sA_3 H, sW_3 H, sA_4 H, sW_4 H, sA_5 H, sW_5 H, sA_6 H, sW_6 H, sA_7 H, sW_7 H, sA_8 H, sW_8 H, sA_9 H, sW_9 H, sA_10 H, sW_10 H, sA_11 H, sW_11 H, sA_12 H, sW_12 H, sA_13 H, sW_13 H, sA_14 H, sW_14 H, sA_16 H, sW_16 H]
      refine k46 hw H (by decide) hV I hL hg ht ?_
      intro D1 s1
      have h1 := h.sl s1
      have f1 : Fc D D1 := s1.cs.fc hx
      simp only [b111_19 hw, wi_some, or_0, or_1, bo_or, ite_boP, true_and, and_true, kN_v, kN_n, kT_v, kT_n, kT_e, Nat.add_zero, Nat.zero_add]
      cases hc : canL (gw G.1) (gV G.1) (gg G.1) g t with
      | false => simp only [hc, Bool.false_eq_true, if_false, oQ, o1, actG] at kk ⊢; exact kk D1 _ VE.rf h1 f1
      | true =>
        simp only [hc, if_true, oQ, o1, actG, wi_some, or_0, or_1, bo_or, ite_boP, true_and, and_true, kN_v, kN_n, kT_v, kT_n, kT_e, Nat.add_zero, Nat.zero_add, Nat.mul_zero, xR_tape HS, xI_wrongAt HS, xF_wrongAt HS, xR_state HS, xR_image HS, xI_imageKept HS, xF_imageKept HS, xR_draft HS, xR_memory HS, xR_lawText HS, xR_worlds HS, xI_worldsFresh HS, xF_worldsFresh HS, xR_otherWorlds HS, xR_seating HS, xR_pairing HS, xI_toldSo HS, xF_toldSo HS, xI_toldNot HS, xF_toldNot HS, xO HS] at kk ⊢
        refine k119 hv h1 ?_
        intro D2 V' e2 h2 f2 h9
        have hV2 : Vw D2 3 (gV G.1) := h2.2.1.1
        simp only [b111_37 hw, xR_tape HS, xI_wrongAt HS, xF_wrongAt HS, xR_state HS, xR_image HS, xI_imageKept HS, xF_imageKept HS, xR_draft HS, xR_memory HS, xR_lawText HS, xR_worlds HS, xI_worldsFresh HS, xF_worldsFresh HS, xR_otherWorlds HS, xR_seating HS, xR_pairing HS, xI_toldSo HS, xF_toldSo HS, xI_toldNot HS, xF_toldNot HS, xO HS, sR_things H, sI_goers H, sF_goers H, sR_wish H, sR_deed H, sI_makers H, sF_makers H, sR_born H, sR_money H, sR_nerve H, sR_shuns H, sR_by H, sI_trains H, sF_trains H, sR_halts H, sR_seats H, sI_texts H, sF_texts H, sI_law H, sF_law H, sI_day H, sF_day H, sI_seed H, sF_seed H, sR_log H, sO_state H, sI_count H, sF_count H, sI_first H, sF_first H, sR_at H, sR_worth H, sR_makes H, sR_hinders H, sO_things H, sI_rows H, sF_rows H, sR_entries H, sO_log H, sA_2 H, sW_2 H, sA_3 H, sW_3 H, sA_4 H, sW_4 H, sA_5 H, sW_5 H, sA_6 H, sW_6 H, sA_7 H, sW_7 H, sA_8 H, sW_8 H, sA_9 H, sW_9 H, sA_10 H, sW_10 H, sA_11 H, sW_11 H, sA_12 H, sW_12 H, sA_13 H, sW_13 H, sA_14 H, sW_14 H, sA_16 H, sW_16 H, wi_some, or_0, or_1, bo_or, ite_boP, true_and, and_true, kN_v, kN_n, kT_v, kT_n, kT_e, Nat.add_zero, Nat.zero_add]
        refine k48 hw H (by decide) hV2 I h2.2.1.2 hg ht ?_
        intro D3 f3 hV3
        simp only [b111_46 hw, wi_some, or_0, or_1, bo_or, ite_boP, true_and, and_true, kN_v, kN_n, kT_v, kT_n, kT_e, Nat.add_zero, Nat.zero_add]
        refine kk _ V' e2 (h2.act h9 f3 hV3 bdV_14) (f1.tr (f2.tr ?_))
        intro b h1 h2
        exact f3 b (by omega) fun p hp => by have := hx p hp; omega
theorem m_sell {x y : Int32} {V' : sD} (hw : WT sh) (HS : SP sh) (hv : GV G) (h : GR D G) (e : VE (gV G.1) V') (kk : ∀ D', GR D' (actG G (o_sell G x y) V' (s_sell G x y)) → Fm D D' → D' 286 0 = Int32.ofNat (th (o_sell G x y)) → Q (.inl (some (.int (rv (o_sell G x y))))) (mk sh D') c s) : Wx (tP nx xs) (d + 9) 293 0 [some (.ref 286), (some (.int (x))), (some (.int (y)))] [] (mk sh D) c s Q := by
  have m1 : Ms D (u2 D 286 0 (Int32.ofNat 0)) := Ms.rf.th
  have h1 := h.ms hv m1
  have hng := i_ng6 hv.1
  have hnr := i_nr5 hv.1
  have n10 : ¬ (Int32.ofNat 1 : Int32) = Int32.ofNat 0 := by decide
  unfold o_sell s_sell at kk
  simp only [b293_0 hw, mI_thrown HS, mF_thrown HS, mR_row HS, mR_image HS, mR_earlier HS, mR_trial HS, mR_acts HS, mI_hasImage HS, mF_hasImage HS, mI_remembered HS, mF_remembered HS, mR_tape HS, mI_taped HS, mF_taped HS, mI_point HS, mF_point HS, mI_end HS, mF_end HS, mI_begin HS, mF_begin HS, mI_deep HS, mF_deep HS, mI_faultAt HS, mF_faultAt HS, mR_five HS, mI_codes HS, mF_codes HS, mR_value HS, mI_so HS, mF_so HS, mR_lines HS, mR_chosen HS, mR_best HS, mR_members HS, mR_paired HS, mO HS, mA_287 HS, mW_287 HS, mA_288 HS, mW_288 HS, mA_289 HS, mW_289 HS, mA_290 HS, mW_290 HS, mA_291 HS, mW_291 HS, mA_292 HS, mW_292 HS, mA_293 HS, mW_293 HS, mA_294 HS, mW_294 HS, mA_295 HS, mW_295 HS, mA_296 HS, mW_296 HS, mA_297 HS, mW_297 HS, mA_298 HS, mW_298 HS, mA_299 HS, mW_299 HS, wi_some, or_0, or_1, bo_or, ite_boP, true_and, and_true, kN_v, kN_n, kT_v, kT_n, kT_e, Nat.add_zero, Nat.zero_add, k288 hw HS hv h]
  cases hi : ixO x (gg G.1) with
  | none =>
    simp only [hi, th, rv, actG, b293_6 hw, b293_31 hw, wi_some, or_0, or_1, bo_or, ite_boP, true_and, and_true, kN_v, kN_n, kT_v, kT_n, kT_e, Nat.add_zero, Nat.zero_add, n10, if_false] at kk ⊢
    exact kk _ (h.ms hv Ms.rf.th.th) Ms.rf.th.th.1 (by simp [u2_at])
  | some g =>
    cases hj : ixO y (gr G.1) with
    | none =>
      simp only [hi, hj, th, rv, actG, b293_6 hw, b293_31 hw, wi_some, or_0, or_1, bo_or, ite_boP, true_and, and_true, kN_v, kN_n, kT_v, kT_n, kT_e, Nat.add_zero, Nat.zero_add, n10, if_false] at kk ⊢
      exact kk _ (h.ms hv Ms.rf.th.th) Ms.rf.th.th.1 (by simp [u2_at])
    | some t =>
      obtain ⟨hg, rfl⟩ := ixO_some (by omega) hi
      obtain ⟨ht, rfl⟩ := ixO_some (by omega) hj
      simp only [hi, hj, oN_tn (show g < 2147483648 by omega), oN_tn (show t < 2147483648 by omega)] at kk
      simp only [b293_6 hw, if_true, mI_thrown HS, mF_thrown HS, mR_row HS, mR_image HS, mR_earlier HS, mR_trial HS, mR_acts HS, mI_hasImage HS, mF_hasImage HS, mI_remembered HS, mF_remembered HS, mR_tape HS, mI_taped HS, mF_taped HS, mI_point HS, mF_point HS, mI_end HS, mF_end HS, mI_begin HS, mF_begin HS, mI_deep HS, mF_deep HS, mI_faultAt HS, mF_faultAt HS, mR_five HS, mI_codes HS, mF_codes HS, mR_value HS, mI_so HS, mF_so HS, mR_lines HS, mR_chosen HS, mR_best HS, mR_members HS, mR_paired HS, mO HS, mA_287 HS, mW_287 HS, mA_288 HS, mW_288 HS, mA_289 HS, mW_289 HS, mA_290 HS, mW_290 HS, mA_291 HS, mW_291 HS, mA_292 HS, mW_292 HS, mA_293 HS, mW_293 HS, mA_294 HS, mW_294 HS, mA_295 HS, mW_295 HS, mA_296 HS, mW_296 HS, mA_297 HS, mW_297 HS, mA_298 HS, mW_298 HS, mA_299 HS, mW_299 HS, wi_some, or_0, or_1, bo_or, ite_boP, true_and, and_true, kN_v, kN_n, kT_v, kT_n, kT_e, Nat.add_zero, Nat.zero_add]
      refine k257 hw HS h1.1.1 hv.1 h1.1.2 hg ht ?_
      intro D2 s2
      have m2 : Ms D D2 := m1.tr (s2.ms (by decide) (by decide))
      have h2 := h.ms hv m2
      have t2 : D2 286 0 = Int32.ofNat 0 := by rw [s2 286 (by decide)]; simp [u2_at]
      simp only [b293_16 hw, wi_some, or_0, or_1, bo_or, ite_boP, true_and, and_true, kN_v, kN_n, kT_v, kT_n, kT_e, Nat.add_zero, Nat.zero_add]
      cases hc : canL (gw G.1) (gV G.1) (gg G.1) g t with
      | false =>
        simp only [hc, Bool.false_eq_true, if_false, th, rv, actG, b293_24 hw, mI_thrown HS, mF_thrown HS, mR_row HS, mR_image HS, mR_earlier HS, mR_trial HS, mR_acts HS, mI_hasImage HS, mF_hasImage HS, mI_remembered HS, mF_remembered HS, mR_tape HS, mI_taped HS, mF_taped HS, mI_point HS, mF_point HS, mI_end HS, mF_end HS, mI_begin HS, mF_begin HS, mI_deep HS, mF_deep HS, mI_faultAt HS, mF_faultAt HS, mR_five HS, mI_codes HS, mF_codes HS, mR_value HS, mI_so HS, mF_so HS, mR_lines HS, mR_chosen HS, mR_best HS, mR_members HS, mR_paired HS, mO HS, mA_287 HS, mW_287 HS, mA_288 HS, mW_288 HS, mA_289 HS, mW_289 HS, mA_290 HS, mW_290 HS, mA_291 HS, mW_291 HS, mA_292 HS, mW_292 HS, mA_293 HS, mW_293 HS, mA_294 HS, mW_294 HS, mA_295 HS, mW_295 HS, mA_296 HS, mW_296 HS, mA_297 HS, mW_297 HS, mA_298 HS, mW_298 HS, mA_299 HS, mW_299 HS, k187t hw HS, wi_some, or_0, or_1, bo_or, ite_boP, true_and, and_true, kN_v, kN_n, kT_v, kT_n, kT_e, Nat.add_zero, Nat.zero_add, b293_28 hw, n10, b293_31 hw] at kk ⊢
        exact kk _ (h.ms hv m2.th) m2.th.1 (by simp [u2_at])
      | true =>
        simp only [hc, if_true, th, rv, actG, b293_24 hw, mI_thrown HS, mF_thrown HS, mR_row HS, mR_image HS, mR_earlier HS, mR_trial HS, mR_acts HS, mI_hasImage HS, mF_hasImage HS, mI_remembered HS, mF_remembered HS, mR_tape HS, mI_taped HS, mF_taped HS, mI_point HS, mF_point HS, mI_end HS, mF_end HS, mI_begin HS, mF_begin HS, mI_deep HS, mF_deep HS, mI_faultAt HS, mF_faultAt HS, mR_five HS, mI_codes HS, mF_codes HS, mR_value HS, mI_so HS, mF_so HS, mR_lines HS, mR_chosen HS, mR_best HS, mR_members HS, mR_paired HS, mO HS, mA_287 HS, mW_287 HS, mA_288 HS, mW_288 HS, mA_289 HS, mW_289 HS, mA_290 HS, mW_290 HS, mA_291 HS, mW_291 HS, mA_292 HS, mW_292 HS, mA_293 HS, mW_293 HS, mA_294 HS, mW_294 HS, mA_295 HS, mW_295 HS, mA_296 HS, mW_296 HS, mA_297 HS, mW_297 HS, mA_298 HS, mW_298 HS, mA_299 HS, mW_299 HS, k187f hw HS, wi_some, or_0, or_1, bo_or, ite_boP, true_and, and_true, kN_v, kN_n, kT_v, kT_n, kT_e, Nat.add_zero, Nat.zero_add, b293_28 hw] at kk ⊢
        refine k193 hw HS hv h2 e ?_
        intro D3 h3 f3 t3 r3
        simp only [b293_37 hw, mI_thrown HS, mF_thrown HS, mR_row HS, mR_image HS, mR_earlier HS, mR_trial HS, mR_acts HS, mI_hasImage HS, mF_hasImage HS, mI_remembered HS, mF_remembered HS, mR_tape HS, mI_taped HS, mF_taped HS, mI_point HS, mF_point HS, mI_end HS, mF_end HS, mI_begin HS, mF_begin HS, mI_deep HS, mF_deep HS, mI_faultAt HS, mF_faultAt HS, mR_five HS, mI_codes HS, mF_codes HS, mR_value HS, mI_so HS, mF_so HS, mR_lines HS, mR_chosen HS, mR_best HS, mR_members HS, mR_paired HS, mO HS, mA_287 HS, mW_287 HS, mA_288 HS, mW_288 HS, mA_289 HS, mW_289 HS, mA_290 HS, mW_290 HS, mA_291 HS, mW_291 HS, mA_292 HS, mW_292 HS, mA_293 HS, mW_293 HS, mA_294 HS, mW_294 HS, mA_295 HS, mW_295 HS, mA_296 HS, mW_296 HS, mA_297 HS, mW_297 HS, mA_298 HS, mW_298 HS, mA_299 HS, mW_299 HS, wi_some, or_0, or_1, bo_or, ite_boP, true_and, and_true, kN_v, kN_n, kT_v, kT_n, kT_e, Nat.add_zero, Nat.zero_add]
        refine k260 hw HS h3.1.1 hv.1 h3.1.2 hg ht hc ?_
        intro D4 r4 R4
        simp only [b293_43 hw, wi_some, or_0, or_1, bo_or, ite_boP, true_and, and_true, kN_v, kN_n, kT_v, kT_n, kT_e, Nat.add_zero, Nat.zero_add]
        refine kk D4 (h3.act r4 R4) (m2.1.tr (f3.tr r4.fm)) ?_
        rw [r4.1 286 (by decide) (by decide), t3]; exact t2
/-! days -/
def o_days (G : GT) (n : Int32) : Int32 ⊕ Nat := if inB n 1 60 then .inl (Int32.ofNat (daysL (gw G.1) (gg G.1) (gr G.1) true n.toNatClampNeg ((gV G.1), 0)).2) else .inr 1
def s_days (G : GT) (n : Int32) : GS := repN G.1 (daysL (gw G.1) (gg G.1) (gr G.1) true n.toNatClampNeg ((gV G.1), 0)).1 (nlV (daysL (gw G.1) (gg G.1) (gr G.1) true n.toNatClampNeg ((gV G.1), 0)).1)
theorem c_days {n : Int32} (hv : GV G) (h : GC sh D G) (kk : ∀ D' V', VE (gV G.1) V' → GC sh D' (actG G (o_days G n) V' (s_days G n)) → Fc D D' → Q (oQ (fun _ => xIA) (o_days G n)) (mk sh D') (c + o1 (o_days G n)) (s + 6 * o1 (o_days G n))) : Wx (tP nx xs) (d + 6) 110 0 [some (.ref 0), (some (.int (n)))] [] (mk sh D) c s Q := by
  have hw := h.1.2
  have HS := h.1.1
  have H := St_state HS
  have I := hv.1
  have hV := h.2.1.1
  have hng := i_ng6 I
  have hnt := i_nt8 I
  have hnr := i_nr5 I
  have hnl := i_nl60 I
  have hx := h.L
  have hL := h.2.1.2
  unfold o_days s_days at kk
  simp only [b110_0 hw]
  cases hb : inB n 1 60 with
  | false =>
    simp only [hb, Bool.false_eq_true, if_false, oQ, o1, actG] at kk
    unfold inB at hb
    by_cases h1 : n < Int32.ofNat 1
    · simp only [h1, if_true, b110_11 hw]; exact kk D _ VE.rf h Fc.rf
    · have h2 : Int32.ofNat 60 < n := by simp only [h1, not_false_eq_true, decide_true, Bool.true_and, decide_eq_false_iff_not, Classical.not_not] at hb; exact hb
      simp only [h1, h2, if_false, if_true, b110_11 hw]; exact kk D _ VE.rf h Fc.rf
  | true =>
    obtain ⟨m, hm1, hm2, rfl⟩ := inB_of (by decide) (by decide) hb
    have a1 : ¬ Int32.ofNat m < Int32.ofNat 1 := by rw [oN_lt (by omega) (by decide)]; omega
    have a2 : ¬ Int32.ofNat 60 < Int32.ofNat m := by rw [oN_lt (by decide) (by omega)]; omega
    simp only [hb, if_true, oQ, o1, actG, oN_tn (show m < 2147483648 by omega), Nat.mul_zero, Nat.add_zero] at kk
    simp only [a1, a2, if_false, xR_tape HS, xI_wrongAt HS, xF_wrongAt HS, xR_state HS, xR_image HS, xI_imageKept HS, xF_imageKept HS, xR_draft HS, xR_memory HS, xR_lawText HS, xR_worlds HS, xI_worldsFresh HS, xF_worldsFresh HS, xR_otherWorlds HS, xR_seating HS, xR_pairing HS, xI_toldSo HS, xF_toldSo HS, xI_toldNot HS, xF_toldNot HS, xO HS, wi_some, or_0, or_1, bo_or, ite_boP, true_and, and_true, kN_v, kN_n, kT_v, kT_n, kT_e, Nat.add_zero, Nat.zero_add]
    refine k119 hv h ?_
    intro D1 V' e1 h1 f1 h9
    have hV1 : Vw D1 3 (gV G.1) := h1.2.1.1
    simp only [b110_25 hw, xR_tape HS, xI_wrongAt HS, xF_wrongAt HS, xR_state HS, xR_image HS, xI_imageKept HS, xF_imageKept HS, xR_draft HS, xR_memory HS, xR_lawText HS, xR_worlds HS, xI_worldsFresh HS, xF_worldsFresh HS, xR_otherWorlds HS, xR_seating HS, xR_pairing HS, xI_toldSo HS, xF_toldSo HS, xI_toldNot HS, xF_toldNot HS, xO HS, sR_things H, sI_goers H, sF_goers H, sR_wish H, sR_deed H, sI_makers H, sF_makers H, sR_born H, sR_money H, sR_nerve H, sR_shuns H, sR_by H, sI_trains H, sF_trains H, sR_halts H, sR_seats H, sI_texts H, sF_texts H, sI_law H, sF_law H, sI_day H, sF_day H, sI_seed H, sF_seed H, sR_log H, sO_state H, sI_count H, sF_count H, sI_first H, sF_first H, sR_at H, sR_worth H, sR_makes H, sR_hinders H, sO_things H, sI_rows H, sF_rows H, sR_entries H, sO_log H, sA_2 H, sW_2 H, sA_3 H, sW_3 H, sA_4 H, sW_4 H, sA_5 H, sW_5 H, sA_6 H, sW_6 H, sA_7 H, sW_7 H, sA_8 H, sW_8 H, sA_9 H, sW_9 H, sA_10 H, sW_10 H, sA_11 H, sW_11 H, sA_12 H, sW_12 H, sA_13 H, sW_13 H, sA_14 H, sW_14 H, sA_16 H, sW_16 H, wi_some, or_0, or_1, bo_or, ite_boP, true_and, and_true, kN_v, kN_n, kT_v, kT_n, kT_e, Nat.add_zero, Nat.zero_add]
    refine k50 (dr := true) (n := m) hw H (by decide) hV1 I h1.2.1.2 hm2 ?_
    intro D2 f2 hV2 I2 e2
    simp only [b110_34 hw, wi_some, or_0, or_1, bo_or, ite_boP, true_and, and_true, kN_v, kN_n, kT_v, kT_n, kT_e, Nat.add_zero, Nat.zero_add]
    refine kk _ V' e1 (h1.act h9 f2 hV2 e2) (f1.tr ?_)
    intro b h1 h2
    exact f2 b (by omega) fun p hp => by have := hx p hp; omega
theorem m_days {n : Int32} {V' : sD} (hw : WT sh) (HS : SP sh) (hv : GV G) (h : GR D G) (e : VE (gV G.1) V') (kk : ∀ D', GR D' (actG G (o_days G n) V' (s_days G n)) → Fm D D' → D' 286 0 = Int32.ofNat (th (o_days G n)) → Q (.inl (some (.int (rv (o_days G n))))) (mk sh D') c s) : Wx (tP nx xs) (d + 13) 292 0 [some (.ref 286), (some (.int (n)))] [] (mk sh D) c s Q := by
  have m1 : Ms D (u2 D 286 0 (Int32.ofNat 0)) := Ms.rf.th
  have h1 := h.ms hv m1
  have n10 : ¬ (Int32.ofNat 1 : Int32) = Int32.ofNat 0 := by decide
  unfold o_days s_days at kk
  simp only [b292_0 hw, b292_5 hw, b292_13 hw, mI_thrown HS, mF_thrown HS, mR_row HS, mR_image HS, mR_earlier HS, mR_trial HS, mR_acts HS, mI_hasImage HS, mF_hasImage HS, mI_remembered HS, mF_remembered HS, mR_tape HS, mI_taped HS, mF_taped HS, mI_point HS, mF_point HS, mI_end HS, mF_end HS, mI_begin HS, mF_begin HS, mI_deep HS, mF_deep HS, mI_faultAt HS, mF_faultAt HS, mR_five HS, mI_codes HS, mF_codes HS, mR_value HS, mI_so HS, mF_so HS, mR_lines HS, mR_chosen HS, mR_best HS, mR_members HS, mR_paired HS, mO HS, mA_287 HS, mW_287 HS, mA_288 HS, mW_288 HS, mA_289 HS, mW_289 HS, mA_290 HS, mW_290 HS, mA_291 HS, mW_291 HS, mA_292 HS, mW_292 HS, mA_293 HS, mW_293 HS, mA_294 HS, mW_294 HS, mA_295 HS, mW_295 HS, mA_296 HS, mW_296 HS, mA_297 HS, mW_297 HS, mA_298 HS, mW_298 HS, mA_299 HS, mW_299 HS, wi_some, or_0, or_1, bo_or, ite_boP, true_and, and_true, kN_v, kN_n, kT_v, kT_n, kT_e, Nat.add_zero, Nat.zero_add, k188 hw, b292_21 hw]
  have eb : (decide (¬ n < Int32.ofNat 1) && decide (¬ Int32.ofNat 60 < n)) = inB n 1 60 := rfl
  rw [eb]
  cases hb : inB n 1 60 with
  | false =>
    simp only [hb, Bool.false_eq_true, if_false, th, rv, actG, k187t hw HS, wi_some, or_0, or_1, bo_or, ite_boP, true_and, and_true, kN_v, kN_n, kT_v, kT_n, kT_e, Nat.add_zero, Nat.zero_add, b292_25 hw, n10] at kk ⊢
    exact kk _ (h.ms hv Ms.rf.th.th) Ms.rf.th.th.1 (by simp [u2_at])
  | true =>
    obtain ⟨m, hm1, hm2, rfl⟩ := inB_of (by decide) (by decide) hb
    simp only [hb, if_true, th, rv, actG, oN_tn (show m < 2147483648 by omega)] at kk
    simp only [if_true, k187f hw HS, wi_some, or_0, or_1, bo_or, ite_boP, true_and, and_true, kN_v, kN_n, kT_v, kT_n, kT_e, Nat.add_zero, Nat.zero_add, b292_25 hw, mI_thrown HS, mF_thrown HS, mR_row HS, mR_image HS, mR_earlier HS, mR_trial HS, mR_acts HS, mI_hasImage HS, mF_hasImage HS, mI_remembered HS, mF_remembered HS, mR_tape HS, mI_taped HS, mF_taped HS, mI_point HS, mF_point HS, mI_end HS, mF_end HS, mI_begin HS, mF_begin HS, mI_deep HS, mF_deep HS, mI_faultAt HS, mF_faultAt HS, mR_five HS, mI_codes HS, mF_codes HS, mR_value HS, mI_so HS, mF_so HS, mR_lines HS, mR_chosen HS, mR_best HS, mR_members HS, mR_paired HS, mO HS, mA_287 HS, mW_287 HS, mA_288 HS, mW_288 HS, mA_289 HS, mW_289 HS, mA_290 HS, mW_290 HS, mA_291 HS, mW_291 HS, mA_292 HS, mW_292 HS, mA_293 HS, mW_293 HS, mA_294 HS, mW_294 HS, mA_295 HS, mW_295 HS, mA_296 HS, mW_296 HS, mA_297 HS, mW_297 HS, mA_298 HS, mW_298 HS, mA_299 HS, mW_299 HS]
    refine k193 hw HS hv h1 e ?_
    intro D3 h3 f3 t3 r3
    simp only [b292_34 hw, mI_thrown HS, mF_thrown HS, mR_row HS, mR_image HS, mR_earlier HS, mR_trial HS, mR_acts HS, mI_hasImage HS, mF_hasImage HS, mI_remembered HS, mF_remembered HS, mR_tape HS, mI_taped HS, mF_taped HS, mI_point HS, mF_point HS, mI_end HS, mF_end HS, mI_begin HS, mF_begin HS, mI_deep HS, mF_deep HS, mI_faultAt HS, mF_faultAt HS, mR_five HS, mI_codes HS, mF_codes HS, mR_value HS, mI_so HS, mF_so HS, mR_lines HS, mR_chosen HS, mR_best HS, mR_members HS, mR_paired HS, mO HS, mA_287 HS, mW_287 HS, mA_288 HS, mW_288 HS, mA_289 HS, mW_289 HS, mA_290 HS, mW_290 HS, mA_291 HS, mW_291 HS, mA_292 HS, mW_292 HS, mA_293 HS, mW_293 HS, mA_294 HS, mW_294 HS, mA_295 HS, mW_295 HS, mA_296 HS, mW_296 HS, mA_297 HS, mW_297 HS, mA_298 HS, mW_298 HS, mA_299 HS, mW_299 HS, wi_some, or_0, or_1, bo_or, ite_boP, true_and, and_true, kN_v, kN_n, kT_v, kT_n, kT_e, Nat.add_zero, Nat.zero_add]
    have := k263 (nx := nx) (xs := xs) (d := d) (c := 0) (s := 0) (D := D3) (Q := kN (tP nx xs) (d + 12 + 1) 292 40 [some (.ref 286), (some (.int (Int32.ofNat m)))] [] c s Q) (dr := true) (n := m) hw HS h3.1.1 hv.1 h3.1.2 hm2
    refine this ?_
    intro D4 r4 R4 I4
    simp only [b292_40 hw, wi_some, or_0, or_1, bo_or, ite_boP, true_and, and_true, kN_v, kN_n, kT_v, kT_n, kT_e, Nat.add_zero, Nat.zero_add]
    refine kk D4 (h3.act r4 R4) (m1.1.tr (f3.tr r4.fm)) ?_
    rw [r4.1 286 (by decide) (by decide), t3]; simp [u2_at]
end C74
