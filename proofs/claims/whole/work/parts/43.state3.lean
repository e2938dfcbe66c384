/-! ===== State's days: boarding, calling back, draws ===== -/
def nlV (V : sD) : Nat := (V 15 0).toNatClampNeg
/-- THE LOG with one more row -/
def logV (V : sD) (nl : Nat) (x0 x1 x2 x3 : Int32) : sD := fun k i =>
  if k = 16 then (if i = 4 * min nl 59 then x0 else if i = 4 * min nl 59 + 1 then x1 else if i = 4 * min nl 59 + 2 then x2 else if i = 4 * min nl 59 + 3 then x3 else if nl < 60 then V 16 i else if i < 236 then V 16 (i + 4) else V 16 i)
  else if k = 15 ∧ i = 0 then Int32.ofNat (min nl 59 + 1) else V k i
def bdV (V : sD) (g t : Nat) (cost : Int32) : sD := logV (u2 (u2 V 12 g (Int32.ofNat t)) 9 g (V 9 g - cost)) (nlV V) (V 0 15) (Int32.ofNat g) (Int32.ofNat t) cost
def cbV (V : sD) (g : Nat) : sD := logV (u2 V 12 g (-1)) (nlV V) (V 0 15) (Int32.ofNat g) (V 12 g) (-1)
theorem cp2_at (D : sD) (a sp b dp n e i : Nat) : cp2 D a sp b dp n e i = if e = b ∧ dp ≤ i ∧ i < dp + n then D a (sp + (i - dp)) else D e i := rfl
section C43
variable {nx : Nat} {xs : Nat → Int32} {d c s : Nat} {sh : List sC} {D : sD} {Q : av_Q}
variable {V : sD} {a nt ng nr nl g t : Nat} {lw : LW}
theorem k14 {x0 x1 x2 x3 : Int32} (hw : WT sh) (H : St sh a) (hV : Vw D a V) (hnl : V 15 0 = Int32.ofNat nl) (hn : nl ≤ 60)
    (kk : ∀ D', Fr a D D' → Vw D' a (logV V nl x0 x1 x2 x3) → Q (.inl none) (mk sh D') c s) :
    Wx (tP nx xs) d 14 0 [some (.ref (a + 15)), (some (.int (x0))), (some (.int (x1))), (some (.int (x2))), (some (.int (x3))), none] [] (mk sh D) c s Q := by
  have fin : ∀ (D1 : sD) (m : Nat) (l5 : Option Value), m < 60 → m = min nl 59 → Fr a D D1 → (∀ k i, k < 17 → D1 (a + k) i = if k = 15 ∧ i = 0 then Int32.ofNat m else if k = 16 then (if nl < 60 then V 16 i else if i < 236 then V 16 (i + 4) else V 16 i) else V k i) → Wx (tP nx xs) d 14 35 [some (.ref (a + 15)), (some (.int (x0))), (some (.int (x1))), (some (.int (x2))), (some (.int (x3))), l5] [] (mk sh D1) c s Q := by
    intro D1 m l5 hm hmm hfr hD1
    have e15 : D1 (a + 15) 0 = Int32.ofNat m := by rw [hD1 15 0 (by decide)]; simp
    have h0 : m * 4 < 240 := by omega
    have h1 : m * 4 + 1 < 240 := by omega
    have h2 : m * 4 + 2 < 240 := by omega
    have h3 : m * 4 + 3 < 240 := by omega
    have n15 : ¬ a + 15 = a + 16 := by omega
    simp only [b14_35 hw, b14_51 hw, b14_61 hw, b14_71 hw, b14_82 hw, b14_92 hw, sR_things H, sI_goers H, sF_goers H, sR_wish H, sR_deed H, sI_makers H, sF_makers H, sR_born H, sR_money H, sR_nerve H, sR_shuns H, sR_by H, sI_trains H, sF_trains H, sR_halts H, sR_seats H, sI_texts H, sF_texts H, sI_law H, sF_law H, sI_day H, sF_day H, sI_seed H, sF_seed H, sR_log H, sO_state H, sI_count H, sF_count H, sI_first H, sF_first H, sR_at H, sR_worth H, sR_makes H, sR_hinders H, sO_things H, sI_rows H, sF_rows H, sR_entries H, sO_log H, sA_2 H, sW_2 H, sA_3 H, sW_3 H, sA_4 H, sW_4 H, sA_5 H, sW_5 H, sA_6 H, sW_6 H, sA_7 H, sW_7 H, sA_8 H, sW_8 H, sA_9 H, sW_9 H, sA_10 H, sW_10 H, sA_11 H, sW_11 H, sA_12 H, sW_12 H, sA_13 H, sW_13 H, sA_14 H, sW_14 H, sA_16 H, sW_16 H, wi_some, or_0, or_1, bo_or, ite_boP, true_and, and_true, kN_v, kN_n, kT_v, kT_n, kT_e, Nat.add_zero, Nat.zero_add, e15, oN_mul, oN_add, h0, h1, h2, h3, oN_tn (show m * 4 < 2147483648 by omega), oN_tn (show m * 4 + 1 < 2147483648 by omega), oN_tn (show m * 4 + 2 < 2147483648 by omega), oN_tn (show m * 4 + 3 < 2147483648 by omega), u2_o, n15, not_false_eq_true]
    refine kk _ (Fr.st (by decide) (Fr.st (by decide) (Fr.st (by decide) (Fr.st (by decide) (Fr.st (by decide) hfr))))) ?_
    intro k i hk
    simp only [u2_at]
    rw [hD1 k i hk]
    unfold logV
    rw [← hmm]
    by_cases hk16 : k = 16
    · subst hk16
      have n16 : ¬ a + 16 = a + 15 := by omega
      simp only [n16, false_and, if_false, true_and, if_true, show ¬ (16 = 15) by decide, Nat.mul_comm m 4]
      by_cases e3 : i = 4 * m + 3
      · simp [e3]
      · by_cases e2 : i = 4 * m + 2
        · simp [e2]
        · by_cases e1 : i = 4 * m + 1
          · simp [e1]
          · simp only [e1, e2, e3, if_false]
    · have n16 : ¬ a + k = a + 16 := by omega
      simp only [n16, false_and, if_false, hk16]
      by_cases h15 : k = 15
      · subst h15
        simp only [true_and]
        by_cases e : i = 0
        · simp only [e, if_true]
        · simp only [e, if_false]
      · have n15 : ¬ a + k = a + 15 := by omega
        simp only [n15, h15, false_and, if_false]
  rw [b14_0 hw]
  simp only [sR_things H, sI_goers H, sF_goers H, sR_wish H, sR_deed H, sI_makers H, sF_makers H, sR_born H, sR_money H, sR_nerve H, sR_shuns H, sR_by H, sI_trains H, sF_trains H, sR_halts H, sR_seats H, sI_texts H, sF_texts H, sI_law H, sF_law H, sI_day H, sF_day H, sI_seed H, sF_seed H, sR_log H, sO_state H, sI_count H, sF_count H, sI_first H, sF_first H, sR_at H, sR_worth H, sR_makes H, sR_hinders H, sO_things H, sI_rows H, sF_rows H, sR_entries H, sO_log H, sA_2 H, sW_2 H, sA_3 H, sW_3 H, sA_4 H, sW_4 H, sA_5 H, sW_5 H, sA_6 H, sW_6 H, sA_7 H, sW_7 H, sA_8 H, sW_8 H, sA_9 H, sW_9 H, sA_10 H, sW_10 H, sA_11 H, sW_11 H, sA_12 H, sW_12 H, sA_13 H, sW_13 H, sA_14 H, sW_14 H, sA_16 H, sW_16 H, sN_2 H, sL_2 H, sN_3 H, sL_3 H, sN_4 H, sL_4 H, sN_5 H, sL_5 H, sN_6 H, sL_6 H, sN_7 H, sL_7 H, sN_8 H, sL_8 H, sN_9 H, sL_9 H, sN_10 H, sL_10 H, sN_11 H, sL_11 H, sN_12 H, sL_12 H, sN_13 H, sL_13 H, sN_14 H, sL_14 H, sN_16 H, sL_16 H, wi_some, or_0, or_1, bo_or, ite_boP, true_and, and_true, kN_v, kN_n, kT_v, kT_n, kT_e, Nat.add_zero, Nat.zero_add, v_0 hV, v_1 hV, v_2 hV, v_3 hV, v_4 hV, v_5 hV, v_6 hV, v_7 hV, v_8 hV, v_9 hV, v_10 hV, v_11 hV, v_12 hV, v_13 hV, v_14 hV, v_15 hV, v_16 hV, hnl, oN_lt (show nl < 2147483648 by omega) (show 60 < 2147483648 by omega)]
  by_cases h : nl < 60
  · simp only [h, if_true]
    refine fin D nl none h (by omega) Fr.rf ?_
    intro k i hk
    rw [hV k i hk]
    by_cases h16 : k = 16
    · subst h16; simp [h]
    · by_cases h15 : k = 15 ∧ i = 0
      · rw [if_pos h15, h15.1, h15.2, hnl]
      · simp [h15, h16]
  · have e : nl = 60 := by omega
    subst e
    simp only [h, if_false]
    have c1 : oC sh (a + 16) (Int32.ofNat 4) (a + 16) (Int32.ofNat 0) (Int32.ofNat 236) = true := oC_of (sN_16 H) (sN_16 H) (by decide) (by decide) (by decide) (by decide)
    have c2 : Int32.ofNat 240 - Int32.ofNat 4 = Int32.ofNat 236 := oN_sub (by decide)
    have c3 : Int32.toNatClampNeg (Int32.ofNat 236) = 236 := by decide
    simp only [c2, c1, c3, tn0, tn4, true_and, b14_29 hw, sR_things H, sI_goers H, sF_goers H, sR_wish H, sR_deed H, sI_makers H, sF_makers H, sR_born H, sR_money H, sR_nerve H, sR_shuns H, sR_by H, sI_trains H, sF_trains H, sR_halts H, sR_seats H, sI_texts H, sF_texts H, sI_law H, sF_law H, sI_day H, sF_day H, sI_seed H, sF_seed H, sR_log H, sO_state H, sI_count H, sF_count H, sI_first H, sF_first H, sR_at H, sR_worth H, sR_makes H, sR_hinders H, sO_things H, sI_rows H, sF_rows H, sR_entries H, sO_log H, sA_2 H, sW_2 H, sA_3 H, sW_3 H, sA_4 H, sW_4 H, sA_5 H, sW_5 H, sA_6 H, sW_6 H, sA_7 H, sW_7 H, sA_8 H, sW_8 H, sA_9 H, sW_9 H, sA_10 H, sW_10 H, sA_11 H, sW_11 H, sA_12 H, sW_12 H, sA_13 H, sW_13 H, sA_14 H, sW_14 H, sA_16 H, sW_16 H, wi_some, or_0, or_1, bo_or, ite_boP, true_and, and_true, kN_v, kN_n, kT_v, kT_n, kT_e, Nat.add_zero, Nat.zero_add]
    refine fin _ 59 none (by decide) (by decide) (Fr.st (by decide) ?_) ?_
    · intro b hb
      funext i
      rw [cp2_at, if_neg (by omega)]
    · intro k i hk
      rw [u2_at]
      by_cases h15 : k = 15 ∧ i = 0
      · rw [if_pos (by omega), if_pos h15]
      · rw [if_neg (by omega), if_neg h15, cp2_at]
        by_cases h16 : k = 16
        · subst h16
          simp only [true_and, if_true, show ¬ 60 < 60 by decide, if_false]
          by_cases hi : i < 236
          · rw [if_pos (by omega), if_pos hi, hV 16 _ (by decide), show 4 + (i - 0) = i + 4 by omega]
          · rw [if_neg (by omega), if_neg hi, hV 16 _ (by decide)]
        · rw [if_neg (by omega), if_neg h16, hV k i hk]
theorem k48 (hw : WT sh) (H : St sh a) (ha : a + 17 ≤ 301) (hV : Vw D a V) (I : Iv V nt ng nr nl) (hL : Lc sh D (V 0 14) lw) (hg : g < ng) (ht : t < nr)
    (kk : ∀ D', Fx a (V 0 14) D D' → Vw D' a (bdV V g t (costL lw V ng g t)) → Q (.inl (some (.int (costL lw V ng g t)))) (mk sh D') c s) :
    Wx (tP nx xs) (d + 3) 48 0 [some (.ref a), (some (.int (Int32.ofNat g))), (some (.int (Int32.ofNat t))), none] [] (mk sh D) c s Q := by
  have hg6 : g < 6 := by have := i_ng6 I; omega
  have hx : ∀ p', sRf (V 0 14) = some p' → a + 17 ≤ p' := fun p' hp' => by have := Lc_301 hL p' hp'; omega
  simp only [b48_0 hw, sR_things H, sI_goers H, sF_goers H, sR_wish H, sR_deed H, sI_makers H, sF_makers H, sR_born H, sR_money H, sR_nerve H, sR_shuns H, sR_by H, sI_trains H, sF_trains H, sR_halts H, sR_seats H, sI_texts H, sF_texts H, sI_law H, sF_law H, sI_day H, sF_day H, sI_seed H, sF_seed H, sR_log H, sO_state H, sI_count H, sF_count H, sI_first H, sF_first H, sR_at H, sR_worth H, sR_makes H, sR_hinders H, sO_things H, sI_rows H, sF_rows H, sR_entries H, sO_log H, sA_2 H, sW_2 H, sA_3 H, sW_3 H, sA_4 H, sW_4 H, sA_5 H, sW_5 H, sA_6 H, sW_6 H, sA_7 H, sW_7 H, sA_8 H, sW_8 H, sA_9 H, sW_9 H, sA_10 H, sW_10 H, sA_11 H, sW_11 H, sA_12 H, sW_12 H, sA_13 H, sW_13 H, sA_14 H, sW_14 H, sA_16 H, sW_16 H, wi_some, or_0, or_1, bo_or, ite_boP, true_and, and_true, kN_v, kN_n, kT_v, kT_n, kT_e, Nat.add_zero, Nat.zero_add]
  refine k44 hw H ha hV I hL hg ht ?_
  intro D1 s1
  have hV1 := hV.sl s1 hx
  generalize costL lw V ng g t = x at *
  have n9 : ¬ a + 9 = a + 12 := by omega
  have n0 : ¬ a = a + 9 := by omega
  have n0' : ¬ a = a + 12 := by omega
  simp only [b48_6 hw, b48_14 hw, b48_24 hw, sR_things H, sI_goers H, sF_goers H, sR_wish H, sR_deed H, sI_makers H, sF_makers H, sR_born H, sR_money H, sR_nerve H, sR_shuns H, sR_by H, sI_trains H, sF_trains H, sR_halts H, sR_seats H, sI_texts H, sF_texts H, sI_law H, sF_law H, sI_day H, sF_day H, sI_seed H, sF_seed H, sR_log H, sO_state H, sI_count H, sF_count H, sI_first H, sF_first H, sR_at H, sR_worth H, sR_makes H, sR_hinders H, sO_things H, sI_rows H, sF_rows H, sR_entries H, sO_log H, sA_2 H, sW_2 H, sA_3 H, sW_3 H, sA_4 H, sW_4 H, sA_5 H, sW_5 H, sA_6 H, sW_6 H, sA_7 H, sW_7 H, sA_8 H, sW_8 H, sA_9 H, sW_9 H, sA_10 H, sW_10 H, sA_11 H, sW_11 H, sA_12 H, sW_12 H, sA_13 H, sW_13 H, sA_14 H, sW_14 H, sA_16 H, sW_16 H, wi_some, or_0, or_1, bo_or, ite_boP, true_and, and_true, kN_v, kN_n, kT_v, kT_n, kT_e, Nat.add_zero, Nat.zero_add, hg6, oN_tn (show g < 2147483648 by omega), u2_o, n9, n0, n0', not_false_eq_true, v_0 hV1, v_1 hV1, v_2 hV1, v_3 hV1, v_4 hV1, v_5 hV1, v_6 hV1, v_7 hV1, v_8 hV1, v_9 hV1, v_10 hV1, v_11 hV1, v_12 hV1, v_13 hV1, v_14 hV1, v_15 hV1, v_16 hV1]
  have hV2 : Vw (u2 (u2 D1 (a + 12) g (Int32.ofNat t)) (a + 9) g (V 9 g - x)) a (u2 (u2 V 12 g (Int32.ofNat t)) 9 g (V 9 g - x)) := (hV1.st (by decide) _).st (by decide) _
  refine k14 (nl := nl) hw H hV2 (by simp only [u2_at]; simpa using i_nl I) (i_nl60 I) ?_
  intro D3 f3 hV3
  simp only [b48_38 hw, wi_some, or_0, or_1, bo_or, ite_boP, true_and, and_true, kN_v, kN_n, kT_v, kT_n, kT_e, Nat.add_zero, Nat.zero_add]
  refine kk D3 (Fx.tr s1.fx (Fr.fx (Fr.tr (Fr.st (by decide) (Fr.st (by decide) Fr.rf)) f3))) ?_
  unfold bdV
  rw [show nlV V = nl by unfold nlV; rw [i_nl I, oN_tn (by have := i_nl60 I; omega)]]
  exact hV3
theorem k49 (hw : WT sh) (H : St sh a) (hV : Vw D a V) (I : Iv V nt ng nr nl) (hg : g < ng)
    (kk : ∀ D', Fr a D D' → Vw D' a (cbV V g) → Q (.inl (some (.int (V 12 g)))) (mk sh D') c s) :
    Wx (tP nx xs) (d + 1) 49 0 [some (.ref a), (some (.int (Int32.ofNat g))), none] [] (mk sh D) c s Q := by
  have hg6 : g < 6 := by have := i_ng6 I; omega
  have n0' : ¬ a = a + 12 := by omega
  simp only [b49_0 hw, b49_14 hw, sR_things H, sI_goers H, sF_goers H, sR_wish H, sR_deed H, sI_makers H, sF_makers H, sR_born H, sR_money H, sR_nerve H, sR_shuns H, sR_by H, sI_trains H, sF_trains H, sR_halts H, sR_seats H, sI_texts H, sF_texts H, sI_law H, sF_law H, sI_day H, sF_day H, sI_seed H, sF_seed H, sR_log H, sO_state H, sI_count H, sF_count H, sI_first H, sF_first H, sR_at H, sR_worth H, sR_makes H, sR_hinders H, sO_things H, sI_rows H, sF_rows H, sR_entries H, sO_log H, sA_2 H, sW_2 H, sA_3 H, sW_3 H, sA_4 H, sW_4 H, sA_5 H, sW_5 H, sA_6 H, sW_6 H, sA_7 H, sW_7 H, sA_8 H, sW_8 H, sA_9 H, sW_9 H, sA_10 H, sW_10 H, sA_11 H, sW_11 H, sA_12 H, sW_12 H, sA_13 H, sW_13 H, sA_14 H, sW_14 H, sA_16 H, sW_16 H, wi_some, or_0, or_1, bo_or, ite_boP, true_and, and_true, kN_v, kN_n, kT_v, kT_n, kT_e, Nat.add_zero, Nat.zero_add, hg6, oN_tn (show g < 2147483648 by omega), u2_o, n0', not_false_eq_true, v_0 hV, v_1 hV, v_2 hV, v_3 hV, v_4 hV, v_5 hV, v_6 hV, v_7 hV, v_8 hV, v_9 hV, v_10 hV, v_11 hV, v_12 hV, v_13 hV, v_14 hV, v_15 hV, v_16 hV]
  have hV2 : Vw (u2 D (a + 12) g (-1)) a (u2 V 12 g (-1)) := hV.st (by decide) _
  refine k14 (nl := nl) hw H hV2 (by simp only [u2_at]; simpa using i_nl I) (i_nl60 I) ?_
  intro D3 f3 hV3
  simp only [b49_28 hw, wi_some, or_0, or_1, bo_or, ite_boP, true_and, and_true, kN_v, kN_n, kT_v, kT_n, kT_e, Nat.add_zero, Nat.zero_add]
  refine kk D3 (Fr.tr (Fr.st (by decide) Fr.rf) f3) ?_
  unfold cbV
  rw [show nlV V = nl by unfold nlV; rw [i_nl I, oN_tn (by have := i_nl60 I; omega)]]
  exact hV3
def seedN (x : Int32) : Int32 := (Int32.ofNat 1103515245) * x + Int32.ofNat 12345
def drawN (x : Int32) : Int32 := (jushr (seedN x) (Int32.ofNat 16)) &&& (Int32.ofNat 32767)
theorem k52 (hw : WT sh) (H : St sh a) (hV : Vw D a V) : Wx (tP nx xs) d 52 0 [some (.ref a)] [] (mk sh D) c s Q = Q (.inl (some (.int (drawN (V 0 16))))) (mk sh (u2 D a 16 (seedN (V 0 16)))) c s := by
  have e : u2 D a 16 (seedN (V 0 16)) a 16 = seedN (V 0 16) := by simp [u2_self]
  simp only [b52_0 hw, b52_15 hw, sR_things H, sI_goers H, sF_goers H, sR_wish H, sR_deed H, sI_makers H, sF_makers H, sR_born H, sR_money H, sR_nerve H, sR_shuns H, sR_by H, sI_trains H, sF_trains H, sR_halts H, sR_seats H, sI_texts H, sF_texts H, sI_law H, sF_law H, sI_day H, sF_day H, sI_seed H, sF_seed H, sR_log H, sO_state H, sI_count H, sF_count H, sI_first H, sF_first H, sR_at H, sR_worth H, sR_makes H, sR_hinders H, sO_things H, sI_rows H, sF_rows H, sR_entries H, sO_log H, sA_2 H, sW_2 H, sA_3 H, sW_3 H, sA_4 H, sW_4 H, sA_5 H, sW_5 H, sA_6 H, sW_6 H, sA_7 H, sW_7 H, sA_8 H, sW_8 H, sA_9 H, sW_9 H, sA_10 H, sW_10 H, sA_11 H, sW_11 H, sA_12 H, sW_12 H, sA_13 H, sW_13 H, sA_14 H, sW_14 H, sA_16 H, sW_16 H, wi_some, or_0, or_1, bo_or, ite_boP, true_and, and_true, kN_v, kN_n, kT_v, kT_n, kT_e, Nat.add_zero, Nat.zero_add, v_0 hV, v_1 hV, v_2 hV, v_3 hV, v_4 hV, v_5 hV, v_6 hV, v_7 hV, v_8 hV, v_9 hV, v_10 hV, v_11 hV, v_12 hV, v_13 hV, v_14 hV, v_15 hV, v_16 hV]
  rw [show (Int32.ofNat 1103515245) * V 0 16 + Int32.ofNat 12345 = seedN (V 0 16) from rfl, e]
  rfl
/-- by which train he makes up his mind to go -/
def drawnL (lw : LW) (V : sD) (ng nr g : Nat) : Option Nat :=
  if jrem (drawN (V 0 16)) (Int32.ofNat 100) < V 10 g then (match trainL lw (u2 V 0 16 (seedN (V 0 16))) ng nr g with
    | none => none
    | some t => if jrem (drawN (V 0 16)) (Int32.ofNat 100) < V 10 g - fearL lw (u2 V 0 16 (seedN (V 0 16))) ng g t then some t else none)
  else none
theorem Iv_seed {v : Int32} (I : Iv V nt ng nr nl) : Iv (u2 V 0 16 v) nt ng nr nl := by
  unfold Iv at *
  simpa [u2_at] using I
theorem fst?_lt {p : Nat → Bool} {t : Nat} : ∀ (k i : Nat), fst? p k i = some t → i ≤ t ∧ t < i + k ∧ p t = true
  | 0, _, h => by cases h
  | k + 1, i, h => by
    unfold fst? at h
    by_cases hp : p i = true
    · rw [if_pos hp] at h; cases h; exact ⟨Nat.le_refl _, by omega, hp⟩
    · rw [if_neg hp] at h
      obtain ⟨h1, h2, h3⟩ := fst?_lt k (i + 1) h
      exact ⟨by omega, by omega, h3⟩
theorem trainL_lt (h : trainL lw V ng nr g = some t) : t < nr ∧ canL lw V ng g t = true := by
  obtain ⟨_, h2, h3⟩ := fst?_lt _ _ h
  exact ⟨by omega, h3⟩
theorem k51 (hw : WT sh) (H : St sh a) (ha : a + 17 ≤ 301) (hV : Vw D a V) (I : Iv V nt ng nr nl) (hL : Lc sh D (V 0 14) lw) (hg : g < ng)
    (kk : ∀ D', Fx a (V 0 14) D D' → Vw D' a (u2 V 0 16 (seedN (V 0 16))) → Q (.inl (some (.int (opI (drawnL lw V ng nr g))))) (mk sh D') c s) :
    Wx (tP nx xs) (d + 4) 51 0 [some (.ref a), (some (.int (Int32.ofNat g))), none, none] [] (mk sh D) c s Q := by
  have hg6 : g < 6 := by have := i_ng6 I; omega
  have n10 : ¬ a + 10 = a := by omega
  simp only [b51_0 hw, sR_things H, sI_goers H, sF_goers H, sR_wish H, sR_deed H, sI_makers H, sF_makers H, sR_born H, sR_money H, sR_nerve H, sR_shuns H, sR_by H, sI_trains H, sF_trains H, sR_halts H, sR_seats H, sI_texts H, sF_texts H, sI_law H, sF_law H, sI_day H, sF_day H, sI_seed H, sF_seed H, sR_log H, sO_state H, sI_count H, sF_count H, sI_first H, sF_first H, sR_at H, sR_worth H, sR_makes H, sR_hinders H, sO_things H, sI_rows H, sF_rows H, sR_entries H, sO_log H, sA_2 H, sW_2 H, sA_3 H, sW_3 H, sA_4 H, sW_4 H, sA_5 H, sW_5 H, sA_6 H, sW_6 H, sA_7 H, sW_7 H, sA_8 H, sW_8 H, sA_9 H, sW_9 H, sA_10 H, sW_10 H, sA_11 H, sW_11 H, sA_12 H, sW_12 H, sA_13 H, sW_13 H, sA_14 H, sW_14 H, sA_16 H, sW_16 H, wi_some, or_0, or_1, bo_or, ite_boP, true_and, and_true, kN_v, kN_n, kT_v, kT_n, kT_e, Nat.add_zero, Nat.zero_add, k52 hw H hV, b51_4 hw, hg6, u2_o, n10, not_false_eq_true, v_0 hV, v_1 hV, v_2 hV, v_3 hV, v_4 hV, v_5 hV, v_6 hV, v_7 hV, v_8 hV, v_9 hV, v_10 hV, v_11 hV, v_12 hV, v_13 hV, v_14 hV, v_15 hV, v_16 hV]
  have hV1 : Vw (u2 D a 16 (seedN (V 0 16))) a (u2 V 0 16 (seedN (V 0 16))) := hV.st0 _
  have f1 : Fr a D (u2 D a 16 (seedN (V 0 16))) := Fr.st0 Fr.rf
  have e14 : u2 V 0 16 (seedN (V 0 16)) 0 14 = V 0 14 := by simp [u2_at]
  have e10 : u2 V 0 16 (seedN (V 0 16)) 10 g = V 10 g := by simp [u2_at]
  unfold drawnL at kk
  generalize hW : u2 V 0 16 (seedN (V 0 16)) = W at *
  generalize hD1 : u2 D a 16 (seedN (V 0 16)) = D1 at *
  have I1 : Iv W nt ng nr nl := by rw [← hW]; exact Iv_seed I
  have hL1 : Lc sh D1 (W 0 14) lw := by rw [e14]; exact hL.fx ha (Fr.fx f1)
  have hx : ∀ p', sRf (W 0 14) = some p' → a + 17 ≤ p' := fun p' hp' => by have := Lc_301 hL1 p' hp'; omega
  by_cases h1 : jrem (drawN (V 0 16)) (Int32.ofNat 100) < V 10 g
  rotate_left
  · simp only [h1, if_false] at kk ⊢
    exact kk D1 (Fr.fx f1) hV1
  simp only [h1, if_true] at kk ⊢
  refine k47 hw H ha hV1 I1 hL1 hg ?_
  intro D2 s2
  have hV2 := hV1.sl s2 hx
  have f2 : Fx a (V 0 14) D D2 := by rw [← e14]; exact (Fr.fx f1).tr s2.fx
  simp only [b51_25 hw, wi_some, or_0, or_1, bo_or, ite_boP, true_and, and_true, kN_v, kN_n, kT_v, kT_n, kT_e, Nat.add_zero, Nat.zero_add]
  cases htr : trainL lw W ng nr g with
  | none =>
    rw [htr] at kk
    simp only [opI, if_true, b51_52 hw, b51_53 hw] at kk ⊢
    exact kk D2 f2 hV2
  | some t =>
    rw [htr] at kk
    obtain ⟨htn, _⟩ := trainL_lt htr
    have := i_nr5 I
    simp only [opI, oN_ne1 (show t < 2147483648 by omega), if_false, sR_things H, sI_goers H, sF_goers H, sR_wish H, sR_deed H, sI_makers H, sF_makers H, sR_born H, sR_money H, sR_nerve H, sR_shuns H, sR_by H, sI_trains H, sF_trains H, sR_halts H, sR_seats H, sI_texts H, sF_texts H, sI_law H, sF_law H, sI_day H, sF_day H, sI_seed H, sF_seed H, sR_log H, sO_state H, sI_count H, sF_count H, sI_first H, sF_first H, sR_at H, sR_worth H, sR_makes H, sR_hinders H, sO_things H, sI_rows H, sF_rows H, sR_entries H, sO_log H, sA_2 H, sW_2 H, sA_3 H, sW_3 H, sA_4 H, sW_4 H, sA_5 H, sW_5 H, sA_6 H, sW_6 H, sA_7 H, sW_7 H, sA_8 H, sW_8 H, sA_9 H, sW_9 H, sA_10 H, sW_10 H, sA_11 H, sW_11 H, sA_12 H, sW_12 H, sA_13 H, sW_13 H, sA_14 H, sW_14 H, sA_16 H, sW_16 H, wi_some, or_0, or_1, bo_or, ite_boP, true_and, and_true, kN_v, kN_n, kT_v, kT_n, kT_e, Nat.add_zero, Nat.zero_add, hg6, v_0 hV2, v_1 hV2, v_2 hV2, v_3 hV2, v_4 hV2, v_5 hV2, v_6 hV2, v_7 hV2, v_8 hV2, v_9 hV2, v_10 hV2, v_11 hV2, v_12 hV2, v_13 hV2, v_14 hV2, v_15 hV2, v_16 hV2, e10]
    refine k45 hw H ha hV2 I1 (hL1.sl s2) hg htn ?_
    intro D3 s3
    have f3 : Fx a (V 0 14) D D3 := f2.tr (by rw [← e14]; exact s3.fx)
    have kk := kk D3 f3 (hV2.sl s3 hx)
    simp only [b51_44 hw, b51_52 hw, b51_53 hw, wi_some, or_0, or_1, bo_or, ite_boP, true_and, and_true, kN_v, kN_n, kT_v, kT_n, kT_e, Nat.add_zero, Nat.zero_add]
    by_cases h2 : jrem (drawN (V 0 16)) (Int32.ofNat 100) < V 10 g - fearL lw W ng g t
    · simp only [h2, if_true, opI] at kk ⊢
      exact kk
    · simp only [h2, if_false, opI] at kk ⊢
      exact kk
end C43
