/-! ===== acts (4): quarrel, seed, undo, image, back ===== -/
theorem mkX_eq (x : Int32) (g : Nat) (m : Bool) : (x &&& (jshl (Int32.ofNat 1) (Int32.ofNat g) ^^^ -1)) ||| (if m then jshl (Int32.ofNat 1) (Int32.ofNat g) else Int32.ofNat 0) = mkX x g m := by
  unfold mkX
  apply b_ext
  intro i hi
  cases m
  · simp only [Bool.false_eq_true, if_false, b_or, b_00, Bool.or_false]
  · simp only [if_true, b_or, b_and, b_xor, b_m1 i hi]
    cases bt x i <;> cases bt (jshl (Int32.ofNat 1) (Int32.ofNat g)) i <;> rfl
theorem mkX_same {x : Int32} {g : Nat} {m : Bool} (hg : g < 32) : (x = mkX x g m) ↔ bt x g = m := by
  constructor
  · intro h
    have := mkX_g (x := x) (m := m) hg
    rw [← h] at this
    exact this
  · intro h
    apply b_ext
    intro i hi
    by_cases e : i = g
    · subst e; rw [mkX_g hi, h]
    · rw [mkX_o hg hi e]
theorem wS_seed {V : sD} {nt ng : Nat} {first set v : Int32} : wS (u2 V 0 16 v) nt ng first set = wS V nt ng first set := by
  have hd : deedP (u2 V 0 16 v) set = deedP V set := by funext t g; simp [deedP, u2_at]
  have hs : ∀ so t, soP (u2 V 0 16 v) nt ng first set so t = soP V nt ng first set so t := by
    intro so t
    unfold soP
    rw [hd]
    cases lastG (deedP V set t) ng <;> simp [u2_at]
  unfold wS wStep
  simp only [hs]
  have h2 : ∀ t, u2 V 0 16 v 2 t = V 2 t := fun t => by simp [u2_at]
  simp only [h2]
theorem alive_seed {V : sD} {ng : Nat} {x v : Int32} : aliveS (u2 V 0 16 v) ng x = aliveS V ng x := by
  have hd : aliveP (u2 V 0 16 v) x = aliveP V x := by funext g; simp [aliveP, u2_at]
  unfold aliveS
  rw [hd]
section C75
variable {nx : Nat} {xs : Nat → Int32} {d c s : Nat} {sh : List sC} {D : sD} {Q : av_Q}
variable {G : GT}
/-! quarrel -/
def o_quarrel (G : GT) (x y : Int32) (m : Bool) : Int32 ⊕ Nat := match ixO x (gg G.1), ixO y (gg G.1) with
  | some g, some o => if x = y then .inr 2 else .inl (bo (decide (¬ bt ((gV G.1) 11 g) o = m)))
  | _, _ => .inr 1
def s_quarrel (G : GT) (x y : Int32) (m : Bool) : GS := repN G.1 (u2 (u2 (gV G.1) 11 x.toNatClampNeg (mkX ((gV G.1) 11 x.toNatClampNeg) y.toNatClampNeg m)) 11 y.toNatClampNeg (mkX ((gV G.1) 11 y.toNatClampNeg) x.toNatClampNeg m)) (gl G.1)
/-- State.tellShunning -/
theorem k35 {V : sD} {a g o : Nat} {m : Bool} (hw : WT sh) (H : St sh a) (hV : Vw D a V) (hg : g < 6) (ho : o < 6) (hne : g ≠ o) : Wx (tP nx xs) d 35 0 [some (.ref a), (some (.int (Int32.ofNat g))), (some (.int (Int32.ofNat o))), (some (.int (bo m)))] [] (mk sh D) c s Q = Q (.inl none) (mk sh (u2 (u2 D (a + 11) g (mkX (V 11 g) o m)) (a + 11) o (mkX (V 11 o) g m))) c s := by
  have e1 : ∀ v, u2 D (a + 11) g v (a + 11) o = V 11 o := fun v => by rw [u2_at, if_neg (by omega)]; exact v_11 hV o
  cases m
  · simp only [b35_0 hw, b35_34 hw, b35_35 hw, b35_69 hw, b35_70 hw, sR_things H, sI_goers H, sF_goers H, sR_wish H, sR_deed H, sI_makers H, sF_makers H, sR_born H, sR_money H, sR_nerve H, sR_shuns H, sR_by H, sI_trains H, sF_trains H, sR_halts H, sR_seats H, sI_texts H, sF_texts H, sI_law H, sF_law H, sI_day H, sF_day H, sI_seed H, sF_seed H, sR_log H, sO_state H, sI_count H, sF_count H, sI_first H, sF_first H, sR_at H, sR_worth H, sR_makes H, sR_hinders H, sO_things H, sI_rows H, sF_rows H, sR_entries H, sO_log H, sA_2 H, sW_2 H, sA_3 H, sW_3 H, sA_4 H, sW_4 H, sA_5 H, sW_5 H, sA_6 H, sW_6 H, sA_7 H, sW_7 H, sA_8 H, sW_8 H, sA_9 H, sW_9 H, sA_10 H, sW_10 H, sA_11 H, sW_11 H, sA_12 H, sW_12 H, sA_13 H, sW_13 H, sA_14 H, sW_14 H, sA_16 H, sW_16 H, wi_some, or_0, or_1, bo_or, ite_boP, true_and, and_true, kN_v, kN_n, kT_v, kT_n, kT_e, Nat.add_zero, Nat.zero_add, hg, ho, oN_tn (show g < 2147483648 by omega), oN_tn (show o < 2147483648 by omega), e1, v_0 hV, v_1 hV, v_2 hV, v_3 hV, v_4 hV, v_5 hV, v_6 hV, v_7 hV, v_8 hV, v_9 hV, v_10 hV, v_11 hV, v_12 hV, v_13 hV, v_14 hV, v_15 hV, v_16 hV, mkX, Bool.false_eq_true, if_false]
  · simp only [b35_0 hw, b35_34 hw, b35_35 hw, b35_69 hw, b35_70 hw, sR_things H, sI_goers H, sF_goers H, sR_wish H, sR_deed H, sI_makers H, sF_makers H, sR_born H, sR_money H, sR_nerve H, sR_shuns H, sR_by H, sI_trains H, sF_trains H, sR_halts H, sR_seats H, sI_texts H, sF_texts H, sI_law H, sF_law H, sI_day H, sF_day H, sI_seed H, sF_seed H, sR_log H, sO_state H, sI_count H, sF_count H, sI_first H, sF_first H, sR_at H, sR_worth H, sR_makes H, sR_hinders H, sO_things H, sI_rows H, sF_rows H, sR_entries H, sO_log H, sA_2 H, sW_2 H, sA_3 H, sW_3 H, sA_4 H, sW_4 H, sA_5 H, sW_5 H, sA_6 H, sW_6 H, sA_7 H, sW_7 H, sA_8 H, sW_8 H, sA_9 H, sW_9 H, sA_10 H, sW_10 H, sA_11 H, sW_11 H, sA_12 H, sW_12 H, sA_13 H, sW_13 H, sA_14 H, sW_14 H, sA_16 H, sW_16 H, wi_some, or_0, or_1, bo_or, ite_boP, true_and, and_true, kN_v, kN_n, kT_v, kT_n, kT_e, Nat.add_zero, Nat.zero_add, hg, ho, oN_tn (show g < 2147483648 by omega), oN_tn (show o < 2147483648 by omega), e1, v_0 hV, v_1 hV, v_2 hV, v_3 hV, v_4 hV, v_5 hV, v_6 hV, v_7 hV, v_8 hV, v_9 hV, v_10 hV, v_11 hV, v_12 hV, v_13 hV, v_14 hV, v_15 hV, v_16 hV, mkX, if_true]
theorem c_quarrel {x y : Int32} {m : Bool} (hv : GV G) (h : GC sh D G) (kk : ∀ D' V', VE (gV G.1) V' → GC sh D' (actG G (o_quarrel G x y m) V' (s_quarrel G x y m)) → Fc D D' → Q (oQ (e2 xIO xIA) (o_quarrel G x y m)) (mk sh D') (c + o1 (o_quarrel G x y m)) (s + 6 * o1 (o_quarrel G x y m))) : Wx (tP nx xs) (d + 4) 116 0 [some (.ref 0), (some (.int (x))), (some (.int (y))), (some (.int (bo m))), none] [] (mk sh D) c s Q := by
  have hw := h.1.2
  have HS := h.1.1
  have H := St_state HS
  have I := hv.1
  have hV := h.2.1.1
  have hng := i_ng6 I
  have hnt := i_nt8 I
  have hnr := i_nr5 I
  have hnl := i_nl60 I
  have hx := h.L
  have hL := h.2.1.2
  unfold o_quarrel s_quarrel at kk
  simp only [b116_0 hw, xR_tape HS, xI_wrongAt HS, xF_wrongAt HS, xR_state HS, xR_image HS, xI_imageKept HS, xF_imageKept HS, xR_draft HS, xR_memory HS, xR_lawText HS, xR_worlds HS, xI_worldsFresh HS, xF_worldsFresh HS, xR_otherWorlds HS, xR_seating HS, xR_pairing HS, xI_toldSo HS, xF_toldSo HS, xI_toldNot HS, xF_toldNot HS, xO HS, wi_some, or_0, or_1, bo_or, ite_boP, true_and, and_true, kN_v, kN_n, kT_v, kT_n, kT_e, Nat.add_zero, Nat.zero_add, k182 hv h]
  cases hi : ixO x (gg G.1) with
  | none => simp only [hi, oQ, o1, actG, wi_some, or_0, or_1, bo_or, ite_boP, true_and, and_true, kN_v, kN_n, kT_v, kT_n, kT_e, Nat.add_zero, Nat.zero_add] at kk ⊢; exact kk D _ VE.rf h Fc.rf
  | some g =>
    cases hj : ixO y (gg G.1) with
    | none => simp only [hi, hj, oQ, o1, actG, wi_some, or_0, or_1, bo_or, ite_boP, true_and, and_true, kN_v, kN_n, kT_v, kT_n, kT_e, Nat.add_zero, Nat.zero_add] at kk ⊢; exact kk D _ VE.rf h Fc.rf
    | some o =>
      by_cases he : x = y
      · simp only [hi, hj, he, if_true, oQ, o1, actG, wi_some, or_0, or_1, bo_or, ite_boP, true_and, and_true, kN_v, kN_n, kT_v, kT_n, kT_e, Nat.add_zero, Nat.zero_add] at kk ⊢; exact kk D _ VE.rf h Fc.rf
      · obtain ⟨hg, rfl⟩ := ixO_some (by omega) hi
        obtain ⟨ho, rfl⟩ := ixO_some (by omega) hj
        have hne : g ≠ o := fun e => he (by rw [e])
        have hg6 : g < 6 := by omega
        have ho6 : o < 6 := by omega
        simp only [hi, hj, he, if_false, oQ, o1, actG, oN_tn (show g < 2147483648 by omega), oN_tn (show o < 2147483648 by omega), Nat.mul_zero, Nat.add_zero] at kk
        simp only [he, if_false, wi_some, or_0, or_1, bo_or, ite_boP, true_and, and_true, kN_v, kN_n, kT_v, kT_n, kT_e, Nat.add_zero, Nat.zero_add, b116_6 hw, xR_tape HS, xI_wrongAt HS, xF_wrongAt HS, xR_state HS, xR_image HS, xI_imageKept HS, xF_imageKept HS, xR_draft HS, xR_memory HS, xR_lawText HS, xR_worlds HS, xI_worldsFresh HS, xF_worldsFresh HS, xR_otherWorlds HS, xR_seating HS, xR_pairing HS, xI_toldSo HS, xF_toldSo HS, xI_toldNot HS, xF_toldNot HS, xO HS]
        refine k119 hv h ?_
        intro D1 V' e1 h1' f1 h9
        have hV1 : Vw D1 3 (gV G.1) := h1'.2.1.1
        simp only [b116_10 hw, b116_31 hw, xR_tape HS, xI_wrongAt HS, xF_wrongAt HS, xR_state HS, xR_image HS, xI_imageKept HS, xF_imageKept HS, xR_draft HS, xR_memory HS, xR_lawText HS, xR_worlds HS, xI_worldsFresh HS, xF_worldsFresh HS, xR_otherWorlds HS, xR_seating HS, xR_pairing HS, xI_toldSo HS, xF_toldSo HS, xI_toldNot HS, xF_toldNot HS, xO HS, sR_things H, sI_goers H, sF_goers H, sR_wish H, sR_deed H, sI_makers H, sF_makers H, sR_born H, sR_money H, sR_nerve H, sR_shuns H, sR_by H, sI_trains H, sF_trains H, sR_halts H, sR_seats H, sI_texts H, sF_texts H, sI_law H, sF_law H, sI_day H, sF_day H, sI_seed H, sF_seed H, sR_log H, sO_state H, sI_count H, sF_count H, sI_first H, sF_first H, sR_at H, sR_worth H, sR_makes H, sR_hinders H, sO_things H, sI_rows H, sF_rows H, sR_entries H, sO_log H, sA_2 H, sW_2 H, sA_3 H, sW_3 H, sA_4 H, sW_4 H, sA_5 H, sW_5 H, sA_6 H, sW_6 H, sA_7 H, sW_7 H, sA_8 H, sW_8 H, sA_9 H, sW_9 H, sA_10 H, sW_10 H, sA_11 H, sW_11 H, sA_12 H, sW_12 H, sA_13 H, sW_13 H, sA_14 H, sW_14 H, sA_16 H, sW_16 H, wi_some, or_0, or_1, bo_or, ite_boP, true_and, and_true, kN_v, kN_n, kT_v, kT_n, kT_e, Nat.add_zero, Nat.zero_add, hg6, v_0 hV1, v_1 hV1, v_2 hV1, v_3 hV1, v_4 hV1, v_5 hV1, v_6 hV1, v_7 hV1, v_8 hV1, v_9 hV1, v_10 hV1, v_11 hV1, v_12 hV1, v_13 hV1, v_14 hV1, v_15 hV1, v_16 hV1, jshr_b (show o < 32 by omega), k35 hw H hV1 hg6 ho6 hne, b116_43 hw, b116_54 hw]
        have fin := kk _ V' e1 (h1'.act h9 (Fr.fx (Fr.st (by decide) (Fr.st (by decide) Fr.rf))) ((hV1.st (by decide) _).st (by decide) _) (by simp [u2_at])) ((f1.s3 (by decide)).s3 (by decide))
        cases hb : bt ((gV G.1) 11 g) o <;> cases m <;> simp only [hb, Bool.false_eq_true, Bool.true_eq_false, not_true_eq_false, not_false_eq_true, decide_true, decide_false, bo_t, bo_f, if_true, if_false, show ¬ (Int32.ofNat 1 : Int32) = Int32.ofNat 0 by decide, show ¬ (Int32.ofNat 0 : Int32) = Int32.ofNat 1 by decide] at fin ⊢ <;> exact fin
theorem m_quarrel {x y : Int32} {m : Bool} {V' : sD} (hw : WT sh) (HS : SP sh) (hv : GV G) (h : GR D G) (e : VE (gV G.1) V') (kk : ∀ D', GR D' (actG G (o_quarrel G x y m) V' (s_quarrel G x y m)) → Fm D D' → D' 286 0 = Int32.ofNat (th (o_quarrel G x y m)) → Q (.inl (some (.int (rv (o_quarrel G x y m))))) (mk sh D') c s) : Wx (tP nx xs) (d + 3) 300 0 [some (.ref 286), (some (.int (x))), (some (.int (y))), (some (.int (bo m))), none, none] [] (mk sh D) c s Q := by
  have m1 : Ms D (u2 D 286 0 (Int32.ofNat 0)) := Ms.rf.th
  have h1 := h.ms hv m1
  have R1 := h1.1.1
  have hng := i_ng6 hv.1
  have n10 : ¬ (Int32.ofNat 1 : Int32) = Int32.ofNat 0 := by decide
  have v6 : 6 < 11 := by decide
  unfold o_quarrel s_quarrel at kk
  simp only [b300_0 hw, mI_thrown HS, mF_thrown HS, mR_row HS, mR_image HS, mR_earlier HS, mR_trial HS, mR_acts HS, mI_hasImage HS, mF_hasImage HS, mI_remembered HS, mF_remembered HS, mR_tape HS, mI_taped HS, mF_taped HS, mI_point HS, mF_point HS, mI_end HS, mF_end HS, mI_begin HS, mF_begin HS, mI_deep HS, mF_deep HS, mI_faultAt HS, mF_faultAt HS, mR_five HS, mI_codes HS, mF_codes HS, mR_value HS, mI_so HS, mF_so HS, mR_lines HS, mR_chosen HS, mR_best HS, mR_members HS, mR_paired HS, mO HS, mA_287 HS, mW_287 HS, mA_288 HS, mW_288 HS, mA_289 HS, mW_289 HS, mA_290 HS, mW_290 HS, mA_291 HS, mW_291 HS, mA_292 HS, mW_292 HS, mA_293 HS, mW_293 HS, mA_294 HS, mW_294 HS, mA_295 HS, mW_295 HS, mA_296 HS, mW_296 HS, mA_297 HS, mW_297 HS, mA_298 HS, mW_298 HS, mA_299 HS, mW_299 HS, wi_some, or_0, or_1, bo_or, ite_boP, true_and, and_true, kN_v, kN_n, kT_v, kT_n, kT_e, Nat.add_zero, Nat.zero_add, k299 hw HS hv h]
  cases hi : ixO x (gg G.1) with
  | none =>
    simp only [hi, th, rv, actG, b300_6 hw, wi_some, or_0, or_1, bo_or, ite_boP, true_and, and_true, kN_v, kN_n, kT_v, kT_n, kT_e, Nat.add_zero, Nat.zero_add, n10, if_false] at kk ⊢
    exact kk _ (h.ms hv Ms.rf.th.th) Ms.rf.th.th.1 (by simp [u2_at])
  | some g =>
    cases hj : ixO y (gg G.1) with
    | none =>
      simp only [hi, hj, th, rv, actG, b300_6 hw, wi_some, or_0, or_1, bo_or, ite_boP, true_and, and_true, kN_v, kN_n, kT_v, kT_n, kT_e, Nat.add_zero, Nat.zero_add, n10, if_false] at kk ⊢
      exact kk _ (h.ms hv Ms.rf.th.th) Ms.rf.th.th.1 (by simp [u2_at])
    | some o =>
      by_cases he : x = y
      · simp only [hi, hj, he, if_true, th, rv, actG, b300_6 hw, wi_some, or_0, or_1, bo_or, ite_boP, true_and, and_true, kN_v, kN_n, kT_v, kT_n, kT_e, Nat.add_zero, Nat.zero_add, n10, if_false] at kk ⊢
        exact kk _ (h.ms hv Ms.rf.th.th) Ms.rf.th.th.1 (by simp [u2_at])
      · obtain ⟨hg, rfl⟩ := ixO_some (by omega) hi
        obtain ⟨ho, rfl⟩ := ixO_some (by omega) hj
        have hne : g ≠ o := fun e => he (by rw [e])
        have hg6 : g < 6 := by omega
        have ho6 : o < 6 := by omega
        simp only [hi, hj, he, if_false, th, rv, actG, oN_tn (show g < 2147483648 by omega), oN_tn (show o < 2147483648 by omega)] at kk
        have ei : ∀ (p : Bool) (A B : Prop), (if p = true then A else B) = (if p then A else B) := fun _ _ _ => rfl
        simp only [he, if_false, b300_6 hw, if_true, mI_thrown HS, mF_thrown HS, mR_row HS, mR_image HS, mR_earlier HS, mR_trial HS, mR_acts HS, mI_hasImage HS, mF_hasImage HS, mI_remembered HS, mF_remembered HS, mR_tape HS, mI_taped HS, mF_taped HS, mI_point HS, mF_point HS, mI_end HS, mF_end HS, mI_begin HS, mF_begin HS, mI_deep HS, mF_deep HS, mI_faultAt HS, mF_faultAt HS, mR_five HS, mI_codes HS, mF_codes HS, mR_value HS, mI_so HS, mF_so HS, mR_lines HS, mR_chosen HS, mR_best HS, mR_members HS, mR_paired HS, mO HS, mA_287 HS, mW_287 HS, mA_288 HS, mW_288 HS, mA_289 HS, mW_289 HS, mA_290 HS, mW_290 HS, mA_291 HS, mW_291 HS, mA_292 HS, mW_292 HS, mA_293 HS, mW_293 HS, mA_294 HS, mW_294 HS, mA_295 HS, mW_295 HS, mA_296 HS, mW_296 HS, mA_297 HS, mW_297 HS, mA_298 HS, mW_298 HS, mA_299 HS, mW_299 HS, wi_some, or_0, or_1, bo_or, ite_boP, true_and, and_true, kN_v, kN_n, kT_v, kT_n, kT_e, Nat.add_zero, Nat.zero_add, k203 hw HS hg6 v6, r_shuns R1 hg, b300_18 hw, b300_35 hw, k202 hw, b300_45 hw]
        have go : Wx (tP nx xs) (d + 2) 294 0 [some (.ref 286), (some (.int (Int32.ofNat (48 + 9 * g + 6)))), (some (.int (mkX ((gV G.1) 11 g) o m))), none] [] (mk sh (u2 D 286 0 (Int32.ofNat 0))) 0 0 (kN (tP nx xs) (d + 3) 300 50 [some (.ref 286), (some (.int (Int32.ofNat g))), (some (.int (Int32.ofNat o))), (some (.int (bo m))), (some (.int (mkX ((gV G.1) 11 g) o m))), none] [] c s Q) := by
          refine k294 hw HS hv h1 e (by omega) (by omega) ?_
          intro D1 h2 f2 t2 r2
          have R2 := h2.1.1
          have c6 : 48 + 9 * o + 6 < 2050 := by omega
          have eo : ∀ v, u2 D1 287 (48 + 9 * g + 6) v 287 (48 + 9 * o + 6) = (gV G.1) 11 o := fun v => by rw [u2_at, if_neg (by omega)]; exact r_shuns R2 ho
          have key : ∀ v : Int32, v = bo (decide (¬ bt ((gV G.1) 11 g) o = m)) → Wx (tP nx xs) (d + 3) 300 60 [some (.ref 286), (some (.int (Int32.ofNat g))), (some (.int (Int32.ofNat o))), (some (.int (bo m))), (some (.int (mkX ((gV G.1) 11 g) o m))), none] [.int v] (mk sh (u2 D1 287 (48 + 9 * g + 6) (mkX ((gV G.1) 11 g) o m))) c s Q := by
            intro v hv'
            subst hv'
            have rx2 : Rx D1 (u2 (u2 D1 287 (48 + 9 * g + 6) (mkX ((gV G.1) 11 g) o m)) 287 (48 + 9 * o + 6) (mkX ((gV G.1) 11 o) g m)) := (Rx.rf.st (by omega) (by omega)).st (by omega) (by omega)
            have fin := kk _ (h2.act (V2 := u2 (u2 (gV G.1) 11 g (mkX ((gV G.1) 11 g) o m)) 11 o (mkX ((gV G.1) 11 o) g m)) rx2 (Rw_shuns (Rw_shuns (r' := u2 D1 287 (48 + 9 * g + 6) (mkX ((gV G.1) 11 g) o m) 287) R2 (i_nt8 hv.1) hng (i_nr5 hv.1) hg (fun i hi => by rw [u2_at, if_neg (by omega)]) (by simp [u2_at])) (i_nt8 hv.1) hng (i_nr5 hv.1) ho (fun i hi => by rw [u2_at, if_neg (by omega)]) (by simp [u2_at]))) (m1.1.tr (f2.tr rx2.fm)) (by rw [rx2.1 286 (by decide) (by decide), t2]; simp [u2_at])
            have me := mkX_eq ((gV G.1) 11 o) g m
            cases m
            · simp only [Bool.false_eq_true, if_false] at me
              simp only [b300_60 hw, b300_72 hw, b300_79 hw, b300_96 hw, b300_98 hw, mI_thrown HS, mF_thrown HS, mR_row HS, mR_image HS, mR_earlier HS, mR_trial HS, mR_acts HS, mI_hasImage HS, mF_hasImage HS, mI_remembered HS, mF_remembered HS, mR_tape HS, mI_taped HS, mF_taped HS, mI_point HS, mF_point HS, mI_end HS, mF_end HS, mI_begin HS, mF_begin HS, mI_deep HS, mF_deep HS, mI_faultAt HS, mF_faultAt HS, mR_five HS, mI_codes HS, mF_codes HS, mR_value HS, mI_so HS, mF_so HS, mR_lines HS, mR_chosen HS, mR_best HS, mR_members HS, mR_paired HS, mO HS, mA_287 HS, mW_287 HS, mA_288 HS, mW_288 HS, mA_289 HS, mW_289 HS, mA_290 HS, mW_290 HS, mA_291 HS, mW_291 HS, mA_292 HS, mW_292 HS, mA_293 HS, mW_293 HS, mA_294 HS, mW_294 HS, mA_295 HS, mW_295 HS, mA_296 HS, mW_296 HS, mA_297 HS, mW_297 HS, mA_298 HS, mW_298 HS, mA_299 HS, mW_299 HS, wi_some, or_0, or_1, bo_or, ite_boP, true_and, and_true, kN_v, kN_n, kT_v, kT_n, kT_e, Nat.add_zero, Nat.zero_add, k202 hw, k203 hw HS ho6 v6, eo, Bool.false_eq_true, if_false, if_true, c6, oN_tn (show 48 + 9 * o + 6 < 2147483648 by omega), me]
              exact fin
            · simp only [if_true] at me
              simp only [b300_60 hw, b300_72 hw, b300_79 hw, b300_96 hw, b300_98 hw, mI_thrown HS, mF_thrown HS, mR_row HS, mR_image HS, mR_earlier HS, mR_trial HS, mR_acts HS, mI_hasImage HS, mF_hasImage HS, mI_remembered HS, mF_remembered HS, mR_tape HS, mI_taped HS, mF_taped HS, mI_point HS, mF_point HS, mI_end HS, mF_end HS, mI_begin HS, mF_begin HS, mI_deep HS, mF_deep HS, mI_faultAt HS, mF_faultAt HS, mR_five HS, mI_codes HS, mF_codes HS, mR_value HS, mI_so HS, mF_so HS, mR_lines HS, mR_chosen HS, mR_best HS, mR_members HS, mR_paired HS, mO HS, mA_287 HS, mW_287 HS, mA_288 HS, mW_288 HS, mA_289 HS, mW_289 HS, mA_290 HS, mW_290 HS, mA_291 HS, mW_291 HS, mA_292 HS, mW_292 HS, mA_293 HS, mW_293 HS, mA_294 HS, mW_294 HS, mA_295 HS, mW_295 HS, mA_296 HS, mW_296 HS, mA_297 HS, mW_297 HS, mA_298 HS, mW_298 HS, mA_299 HS, mW_299 HS, wi_some, or_0, or_1, bo_or, ite_boP, true_and, and_true, kN_v, kN_n, kT_v, kT_n, kT_e, Nat.add_zero, Nat.zero_add, k202 hw, k203 hw HS ho6 v6, eo, if_true, n10, if_false, c6, oN_tn (show 48 + 9 * o + 6 < 2147483648 by omega), me]
              exact fin
          simp only [b300_50 hw, wi_some, or_0, or_1, bo_or, ite_boP, true_and, and_true, kN_v, kN_n, kT_v, kT_n, kT_e, Nat.add_zero, Nat.zero_add, r_shuns R1 hg]
          by_cases hs : (gV G.1) 11 g = mkX ((gV G.1) 11 g) o m
          · have hb := (mkX_same (by omega)).mp hs
            rw [if_pos hs]
            exact key _ (by simp [hb, bo])
          · have hb : ¬ bt ((gV G.1) 11 g) o = m := fun h => hs ((mkX_same (by omega)).mpr h)
            rw [if_neg hs]
            exact key _ (by simp [hb, bo])
        have me := mkX_eq ((gV G.1) 11 g) o m
        cases m
        · simp only [Bool.false_eq_true, if_false] at me
          simp only [Bool.false_eq_true, if_false, me]
          exact go
        · simp only [if_true] at me
          simp only [if_true, me]
          exact go
/-! seed -/
def s_seed (G : GT) (n : Int32) : GS := repN G.1 (u2 (gV G.1) 0 16 n) (gl G.1)
theorem c_seed {n : Int32} (hv : GV G) (h : GC sh D G) (kk : ∀ D', GC sh D' (setG G (s_seed G n)) → Fc D D' → Q (.inl (some (.int ((gV G.1) 0 16)))) (mk sh D') c s) : Wx (tP nx xs) d 174 0 [some (.ref 0), (some (.int (n))), none] [] (mk sh D) c s Q := by
  have hw := h.1.2
  have HS := h.1.1
  have H := St_state HS
  have I := hv.1
  have hV := h.2.1.1
  have hng := i_ng6 I
  have hnt := i_nt8 I
  have hnr := i_nr5 I
  have hnl := i_nl60 I
  have hx := h.L
  have hL := h.2.1.2
  simp only [b174_0 hw, b174_16 hw, xR_tape HS, xI_wrongAt HS, xF_wrongAt HS, xR_state HS, xR_image HS, xI_imageKept HS, xF_imageKept HS, xR_draft HS, xR_memory HS, xR_lawText HS, xR_worlds HS, xI_worldsFresh HS, xF_worldsFresh HS, xR_otherWorlds HS, xR_seating HS, xR_pairing HS, xI_toldSo HS, xF_toldSo HS, xI_toldNot HS, xF_toldNot HS, xO HS, sR_things H, sI_goers H, sF_goers H, sR_wish H, sR_deed H, sI_makers H, sF_makers H, sR_born H, sR_money H, sR_nerve H, sR_shuns H, sR_by H, sI_trains H, sF_trains H, sR_halts H, sR_seats H, sI_texts H, sF_texts H, sI_law H, sF_law H, sI_day H, sF_day H, sI_seed H, sF_seed H, sR_log H, sO_state H, sI_count H, sF_count H, sI_first H, sF_first H, sR_at H, sR_worth H, sR_makes H, sR_hinders H, sO_things H, sI_rows H, sF_rows H, sR_entries H, sO_log H, sA_2 H, sW_2 H, sA_3 H, sW_3 H, sA_4 H, sW_4 H, sA_5 H, sW_5 H, sA_6 H, sW_6 H, sA_7 H, sW_7 H, sA_8 H, sW_8 H, sA_9 H, sW_9 H, sA_10 H, sW_10 H, sA_11 H, sW_11 H, sA_12 H, sW_12 H, sA_13 H, sW_13 H, sA_14 H, sW_14 H, sA_16 H, sW_16 H, wi_some, or_0, or_1, bo_or, ite_boP, true_and, and_true, kN_v, kN_n, kT_v, kT_n, kT_e, Nat.add_zero, Nat.zero_add, v_0 hV, v_1 hV, v_2 hV, v_3 hV, v_4 hV, v_5 hV, v_6 hV, v_7 hV, v_8 hV, v_9 hV, v_10 hV, v_11 hV, v_12 hV, v_13 hV, v_14 hV, v_15 hV, v_16 hV]
  refine kk _ ?_ (fun b h1 h2 => funext fun i => by rw [u2_at, if_neg (by omega)])
  obtain ⟨h0, ⟨h1, h2⟩, ⟨h3, h4⟩, ⟨h5, h6, q, hq, h7, h8⟩, ⟨h9', h10⟩, h11, hf⟩ := h
  have lo : ∀ b, b ≠ 3 → u2 D 3 16 n b = D b := fun b hb => funext fun i => by rw [u2_at, if_neg (by omega)]
  have vw : ∀ {a V}, Vw D a V → 20 ≤ a → Vw (u2 D 3 16 n) a V := fun {a V} hv h1 k i hk => by rw [lo (a + k) (by omega)]; exact hv k i hk
  have lc : ∀ {x lw}, Lc sh D x lw → Lc sh (u2 D 3 16 n) x lw := fun {x lw} hl => hl.of fun p hp k hk => lo _ (by have := Lc_301 hl p hp; omega)
  have e14 : gV (s_seed G n) 0 14 = (gV G.1) 0 14 := by show u2 (gV G.1) 0 16 n 0 14 = _; simp [u2_at]
  refine ⟨h0, ⟨h1.st0 _, ?_⟩, ⟨?_, ?_⟩, ⟨?_, ?_, q, hq, ?_, ?_⟩, ⟨?_, ?_⟩, ?_, ?_⟩
  · show Lc sh _ (gV (s_seed G n) 0 14) _
    rw [e14]; exact lc h2
  · rw [lo 0 (by decide)]; exact h3
  · intro Si hSi
    obtain ⟨a1, a2, a3⟩ := h4 Si hSi
    refine ⟨vw a1 (by decide), lc a2, ?_⟩
    show Sep (gV (s_seed G n) 0 14) _
    rw [e14]; exact a3
  · rw [lo 54 (by decide)]; exact h5
  · rw [lo 55 (by decide)]; exact h6
  · rw [lo 54 (by decide)]; exact h7
  · intro j Sj hj; exact vw (h8 j Sj hj) (by omega)
  · rw [lo 1 (by decide)]; exact h9'
  · rw [lo 2 (by decide)]; exact h10
  · rw [lo 0 (by decide)]; exact h11
  · refine ⟨fun t ht => by rw [lo 282 (by decide)]; exact hf.1 t ht, ?_⟩
    rcases hf.2 with hf | ⟨hf, hwf⟩
    · left; rw [lo 0 (by decide)]; exact hf
    · right
      refine ⟨by rw [lo 0 (by decide)]; exact hf, ?_⟩
      have e11 : u2 (gV G.1) 0 16 n 1 1 = (gV G.1) 1 1 := by simp [u2_at]
      show Wf _ 265 (u2 (gV G.1) 0 16 n) (gt G.1) (gg G.1) (u2 (gV G.1) 0 16 n 1 1) (Int32.ofNat (2 ^ (gg G.1) - 1))
      rw [e11]
      intro z hz hs
      rw [lo (265 + 1) (by decide), lo (265 + 2) (by decide), wS_seed, alive_seed]
      exact hwf z hz hs
theorem m_seed {n : Int32} (hw : WT sh) (HS : SP sh) (hv : GV G) (h : GR D G) (kk : ∀ D', GR D' (setG G (s_seed G n)) → Fm D D' → D' 286 0 = Int32.ofNat 0 → Q (.inl (some (.int ((gV G.1) 0 16)))) (mk sh D') c s) : Wx (tP nx xs) d 354 0 [some (.ref 286), (some (.int (n))), none] [] (mk sh D) c s Q := by
  have m1 : Ms D (u2 D 286 0 (Int32.ofNat 0)) := Ms.rf.th
  have h1 := h.ms hv m1
  have R1 := h1.1.1
  have b7 : 7 < 2050 := by decide
  simp only [b354_0 hw, b354_5 hw, b354_21 hw, mI_thrown HS, mF_thrown HS, mR_row HS, mR_image HS, mR_earlier HS, mR_trial HS, mR_acts HS, mI_hasImage HS, mF_hasImage HS, mI_remembered HS, mF_remembered HS, mR_tape HS, mI_taped HS, mF_taped HS, mI_point HS, mF_point HS, mI_end HS, mF_end HS, mI_begin HS, mF_begin HS, mI_deep HS, mF_deep HS, mI_faultAt HS, mF_faultAt HS, mR_five HS, mI_codes HS, mF_codes HS, mR_value HS, mI_so HS, mF_so HS, mR_lines HS, mR_chosen HS, mR_best HS, mR_members HS, mR_paired HS, mO HS, mA_287 HS, mW_287 HS, mA_288 HS, mW_288 HS, mA_289 HS, mW_289 HS, mA_290 HS, mW_290 HS, mA_291 HS, mW_291 HS, mA_292 HS, mW_292 HS, mA_293 HS, mW_293 HS, mA_294 HS, mW_294 HS, mA_295 HS, mW_295 HS, mA_296 HS, mW_296 HS, mA_297 HS, mW_297 HS, mA_298 HS, mW_298 HS, mA_299 HS, mW_299 HS, wi_some, or_0, or_1, bo_or, ite_boP, true_and, and_true, kN_v, kN_n, kT_v, kT_n, kT_e, Nat.add_zero, Nat.zero_add, b7, tn7, r_seed R1]
  have rx2 : Rx (u2 D 286 0 (Int32.ofNat 0)) (u2 (u2 D 286 0 (Int32.ofNat 0)) 287 7 n) := Rx.rf.st (by decide) (by decide)
  refine kk _ (h1.set rx2 ?_ rfl) (m1.1.tr rx2.fm) (by simp [u2_at])
  exact Rw_seed R1 (fun i hi => by rw [u2_at, if_neg (by omega)]) (by simp [u2_at])
end C75
