/-! ===== texts of THE STATION: the class reads (2) ===== -/
section CB5
variable {nx : Nat} {xs : Nat → Int32} {d c s : Nat} {sh : List sC} {D : sD} {Q : av_Q}
variable {b : Nat → Nat} {n p a nl : Nat} {S : sT} {V : sD} {nt ng nr : Nat}
theorem k32 {stop mon : Nat} (hw : WT sh) (H : St sh a) (hV : Vw D a V) (hc : V 0 1 = Int32.ofNat ng) (h6 : ng < 6) (kk : ∀ D', Fr a D D' → Vw D' a (gaV V ng stop mon) → Q (.inl (some (.int (Int32.ofNat ng)))) (mk sh D') c s) : Wx (tP nx xs) (d + 1) 32 0 [some (.ref a), (some (.int (Int32.ofNat stop))), (some (.int (Int32.ofNat mon))), none] [] (mk sh D) c s Q := by
  have tn := oN_tn (show ng < 2147483648 by omega)
  have c0 : D a 1 = Int32.ofNat ng := by rw [v_0 hV]; exact hc
  simp only [b32_0 hw, b32_26 hw, b32_33 hw, b32_40 hw, b32_48 hw, b32_55 hw, b32_62 hw, b32_69 hw, sR_things H, sI_goers H, sF_goers H, sR_wish H, sR_deed H, sI_makers H, sF_makers H, sR_born H, sR_money H, sR_nerve H, sR_shuns H, sR_by H, sI_trains H, sF_trains H, sR_halts H, sR_seats H, sI_texts H, sF_texts H, sI_law H, sF_law H, sI_day H, sF_day H, sI_seed H, sF_seed H, sR_log H, sO_state H, sI_count H, sF_count H, sI_first H, sF_first H, sR_at H, sR_worth H, sR_makes H, sR_hinders H, sO_things H, sI_rows H, sF_rows H, sR_entries H, sO_log H, sA_2 H, sW_2 H, sA_3 H, sW_3 H, sA_4 H, sW_4 H, sA_5 H, sW_5 H, sA_6 H, sW_6 H, sA_7 H, sW_7 H, sA_8 H, sW_8 H, sA_9 H, sW_9 H, sA_10 H, sW_10 H, sA_11 H, sW_11 H, sA_12 H, sW_12 H, sA_13 H, sW_13 H, sA_14 H, sW_14 H, sA_16 H, sW_16 H, wi_some, or_0, or_1, bo_or, ite_boP, true_and, and_true, kN_v, kN_n, kT_v, kT_n, kT_e, Nat.add_zero, Nat.zero_add, c0, oN_lt (show ng < 2147483648 by omega) (show 6 < 2147483648 by omega), h6, if_true, tn, oN_add]
  have hV8 := (((((((hV.st0 (i := 1) (Int32.ofNat (ng + 1))).st (k := 6) (i := ng) (by decide) (Int32.ofNat stop)).st (k := 9) (i := ng) (by decide) (Int32.ofNat mon)).st (k := 10) (i := ng) (by decide) (Int32.ofNat 50)).st (k := 8) (i := ng) (by decide) (-1)).st (k := 11) (i := ng) (by decide) (Int32.ofNat 0)).st (k := 12) (i := ng) (by decide) (-1))
  have f8 : Fr a D _ := Fr.st (k := 12) (i := ng) (v := -1) (by decide) (Fr.st (k := 11) (i := ng) (v := Int32.ofNat 0) (by decide) (Fr.st (k := 8) (i := ng) (v := -1) (by decide) (Fr.st (k := 10) (i := ng) (v := Int32.ofNat 50) (by decide) (Fr.st (k := 9) (i := ng) (v := Int32.ofNat mon) (by decide) (Fr.st (k := 6) (i := ng) (v := Int32.ofNat stop) (by decide) (Fr.st0 (i := 1) (v := Int32.ofNat (ng + 1)) Fr.rf))))))
  have e4 : u2 (u2 (u2 (u2 (u2 (u2 (u2 V 0 1 (Int32.ofNat (ng + 1))) 6 ng (Int32.ofNat stop)) 9 ng (Int32.ofNat mon)) 10 ng (Int32.ofNat 50)) 8 ng (-1)) 11 ng (Int32.ofNat 0)) 12 ng (-1) 0 4 = V 0 4 := by rw [u2_at, if_neg (by omega), u2_at, if_neg (by omega), u2_at, if_neg (by omega), u2_at, if_neg (by omega), u2_at, if_neg (by omega), u2_at, if_neg (by omega), u2_at, if_neg (by omega)]
  have k := k34 (nx := nx) (xs := xs) (d := d) (c := 0) (s := 0) (Q := kN (tP nx xs) (d + 1) 32 76 [some (.ref a), (some (.int (Int32.ofNat stop))), (some (.int (Int32.ofNat mon))), (some (.int (Int32.ofNat ng)))] [] c s Q) (nt := 0) (ng := 0) (nr := 0) (nl := 0) (x := -1) (m := false) hw H hV8 h6
  rw [e4] at k
  refine Eq.mpr k ?_
  simp only [wi_some, or_0, or_1, bo_or, ite_boP, true_and, and_true, kN_v, kN_n, kT_v, kT_n, kT_e, Nat.add_zero, Nat.zero_add, b32_76 hw, Bool.and_false]
  refine kk _ (Fr.st0 (Fr.st (k := 7) (by decide) f8)) ?_
  have := (hV8.st (k := 7) (i := ng) (by decide) (-1)).st0 (i := 4) (mkX (V 0 4) ng false)
  exact this
theorem k58 (hw : WT sh) (HS : SP sh) (H : St sh a) (ha : 20 ≤ a) (tb : TB b n) (tc : TpC b n D p) (hV : Vw D a V) (hc : V 1 0 = Int32.ofNat nt) (hnt : nt ≤ 8) (h6 : ng < 6) (hp : p ≤ n)
    (kf : ∀ f D', ddL b n nt p = .inl f → FS a D D' → D' 1 2 = Int32.ofNat f → Q (.inl (some (.int (Int32.ofNat 0)))) (mk sh D') c s)
    (ky : ∀ o p' D', ddL b n nt p = .inr (o, p') → FS a D D' → TpC b n D' p' → Vw D' a (gdV V ng o) → p' ≤ n → (∀ x m, o = some (x, m) → x < nt) → Q (.inl (some (.int (Int32.ofNat 1)))) (mk sh D') c s) :
    Wx (tP nx xs) (d + 2) 58 0 [some (.ref 1), some (.ref a), (some (.int (Int32.ofNat ng))), none] [] (mk sh D) c s Q := by
  have n10 : ¬ (Int32.ofNat 1 : Int32) = Int32.ofNat 0 := by decide
  have ent : ∀ {D1 : sD}, Vw D1 a V → D1 (a + 1) 0 = Int32.ofNat nt := fun {D1} h => by rw [v_1 h]; exact hc
  have emo : Int32.ofNat nt - Int32.ofNat 1 = mo nt := rfl
  have tail : ∀ (m : Bool) q D1, F1 D D1 → TpC b n D1 q → q ≤ n → (num b n 0 nt q = none → Q (.inl (some (.int (Int32.ofNat 0)))) (mk sh D1) c s) → (∀ v p' D', num b n 0 nt q = some (v, p') → FS a D D' → TpC b n D' p' → Vw D' a (gdV V ng (some (v, m))) → p' ≤ n → v < nt → Q (.inl (some (.int (Int32.ofNat 1)))) (mk sh D') c s) → Wx (tP nx xs) (d + 2) 58 22 [some (.ref 1), some (.ref a), (some (.int (Int32.ofNat ng))), (some (.int (bo m)))] [] (mk sh D1) c s Q := by
    intro m q D1 f1 t1 hq kn kv
    have hV1 := hV.f1 f1 ha
    simp only [b58_22 hw, sR_things H, sI_goers H, sF_goers H, sR_wish H, sR_deed H, sI_makers H, sF_makers H, sR_born H, sR_money H, sR_nerve H, sR_shuns H, sR_by H, sI_trains H, sF_trains H, sR_halts H, sR_seats H, sI_texts H, sF_texts H, sI_law H, sF_law H, sI_day H, sF_day H, sI_seed H, sF_seed H, sR_log H, sO_state H, sI_count H, sF_count H, sI_first H, sF_first H, sR_at H, sR_worth H, sR_makes H, sR_hinders H, sO_things H, sI_rows H, sF_rows H, sR_entries H, sO_log H, sA_2 H, sW_2 H, sA_3 H, sW_3 H, sA_4 H, sW_4 H, sA_5 H, sW_5 H, sA_6 H, sW_6 H, sA_7 H, sW_7 H, sA_8 H, sW_8 H, sA_9 H, sW_9 H, sA_10 H, sW_10 H, sA_11 H, sW_11 H, sA_12 H, sW_12 H, sA_13 H, sW_13 H, sA_14 H, sW_14 H, sA_16 H, sW_16 H, pR_bytes HS, pI_length HS, pF_length HS, pI_place HS, pF_place HS, pI_number HS, pF_number HS, pI_textLength HS, pF_textLength HS, pI_begin HS, pF_begin HS, pO HS, pA_2 HS, pW_2 HS, wi_some, or_0, or_1, bo_or, ite_boP, true_and, and_true, kN_v, kN_n, kT_v, kT_n, kT_e, Nat.add_zero, Nat.zero_add, ent hV1, emo]
    refine k73 hw HS tb t1 hq (by decide) (by omega) ?_ ?_
    · intro v p' D2 hN f2 t2 e23 e25
      obtain ⟨_, w6, _, _, w7, _⟩ := num_some hN hq
      have hV2 := hV1.f1 f2 ha
      have nm : ¬ Int32.ofNat v = (-1 : Int32) := by rw [oN_ne1 (by omega)]; exact id
      simp only [wi_some, or_0, or_1, bo_or, ite_boP, true_and, and_true, kN_v, kN_n, kT_v, kT_n, kT_e, Nat.add_zero, Nat.zero_add, b58_36 hw, n10, if_false, pR_bytes HS, pI_length HS, pF_length HS, pI_place HS, pF_place HS, pI_number HS, pF_number HS, pI_textLength HS, pF_textLength HS, pI_begin HS, pF_begin HS, pO HS, pA_2 HS, pW_2 HS, sR_things H, sI_goers H, sF_goers H, sR_wish H, sR_deed H, sI_makers H, sF_makers H, sR_born H, sR_money H, sR_nerve H, sR_shuns H, sR_by H, sI_trains H, sF_trains H, sR_halts H, sR_seats H, sI_texts H, sF_texts H, sI_law H, sF_law H, sI_day H, sF_day H, sI_seed H, sF_seed H, sR_log H, sO_state H, sI_count H, sF_count H, sI_first H, sF_first H, sR_at H, sR_worth H, sR_makes H, sR_hinders H, sO_things H, sI_rows H, sF_rows H, sR_entries H, sO_log H, sA_2 H, sW_2 H, sA_3 H, sW_3 H, sA_4 H, sW_4 H, sA_5 H, sW_5 H, sA_6 H, sW_6 H, sA_7 H, sW_7 H, sA_8 H, sW_8 H, sA_9 H, sW_9 H, sA_10 H, sW_10 H, sA_11 H, sW_11 H, sA_12 H, sW_12 H, sA_13 H, sW_13 H, sA_14 H, sW_14 H, sA_16 H, sW_16 H, e23]
      have k := k34 (nx := nx) (xs := xs) (d := d + 1) (c := 0) (s := 0) (Q := kN (tP nx xs) (d + 1 + 1) 58 51 [some (.ref 1), some (.ref a), (some (.int (Int32.ofNat ng))), (some (.int (bo m)))] [] c s Q) (nt := 0) (ng := 0) (nr := 0) (nl := 0) (x := Int32.ofNat v) (m := m) hw H hV2 h6
      refine Eq.mpr k ?_
      simp only [wi_some, or_0, or_1, bo_or, ite_boP, true_and, and_true, kN_v, kN_n, kT_v, kT_n, kT_e, Nat.add_zero, Nat.zero_add, b58_51 hw, nm, not_false_eq_true, decide_true, Bool.true_and]
      have f3 : Fr a D2 (u2 (u2 D2 (a + 7) ng (Int32.ofNat v)) a 4 (mkX (V 0 4) ng m)) := Fr.st0 (Fr.st (k := 7) (by decide) Fr.rf)
      exact kv v p' _ hN ((f1.tr f2).fs.tr f3.fs) (t2.fr ha f3) ((hV2.st (k := 7) (i := ng) (by decide) (Int32.ofNat v)).st0 (i := 4) (mkX (V 0 4) ng m)) w6 w7
    · intro hN
      simp only [wi_some, or_0, or_1, bo_or, ite_boP, true_and, and_true, kN_v, kN_n, kT_v, kT_n, kT_e, Nat.add_zero, Nat.zero_add, b58_36 hw, if_true]
      exact kn hN
  unfold ddL tld at kf ky
  simp only [b58_0 hw, pR_bytes HS, pI_length HS, pF_length HS, pI_place HS, pF_place HS, pI_number HS, pF_number HS, pI_textLength HS, pF_textLength HS, pI_begin HS, pF_begin HS, pO HS, pA_2 HS, pW_2 HS, wi_some, or_0, or_1, bo_or, ite_boP, true_and, and_true, kN_v, kN_n, kT_v, kT_n, kT_e, Nat.add_zero, Nat.zero_add]
  refine k70 (i := 7) (w := wDoes) hw HS tb tc hp (by decide) (by decide +kernel) (by decide +kernel) ?_ ?_
  · intro p1 D1 hW f1 t1 e3 e5
    obtain ⟨_, _, _, w4, _⟩ := wrd_some hW hp
    simp only [hW] at kf ky
    simp only [wi_some, or_0, or_1, bo_or, ite_boP, true_and, and_true, kN_v, kN_n, kT_v, kT_n, kT_e, Nat.add_zero, Nat.zero_add, b58_6 hw, n10, if_false]
    refine tail true p1 D1 f1 t1 w4 (fun hN => ?_) (fun v p' D' hN g1 g2 g3 g4 g5 => ?_)
    · simp only [hN] at kf
      exact kf _ D1 rfl f1.fs t1.1
    · simp only [hN] at ky
      exact ky _ p' D' rfl g1 g2 g3 g4 (fun x m h => by cases h; exact g5)
  · intro hW
    simp only [hW] at kf ky
    simp only [wi_some, or_0, or_1, bo_or, ite_boP, true_and, and_true, kN_v, kN_n, kT_v, kT_n, kT_e, Nat.add_zero, Nat.zero_add, b58_6 hw, if_true, pR_bytes HS, pI_length HS, pF_length HS, pI_place HS, pF_place HS, pI_number HS, pF_number HS, pI_textLength HS, pF_textLength HS, pI_begin HS, pF_begin HS, pO HS, pA_2 HS, pW_2 HS]
    refine k70 (i := 8) (w := wUndoes) hw HS tb tc hp (by decide) (by decide +kernel) (by decide +kernel) ?_ ?_
    · intro p1 D1 hW2 f1 t1 e3 e5
      obtain ⟨_, _, _, w4, _⟩ := wrd_some hW2 hp
      simp only [hW2] at kf ky
      simp only [wi_some, or_0, or_1, bo_or, ite_boP, true_and, and_true, kN_v, kN_n, kT_v, kT_n, kT_e, Nat.add_zero, Nat.zero_add, b58_17 hw, n10, if_false]
      refine tail false p1 D1 f1 t1 w4 (fun hN => ?_) (fun v p' D' hN g1 g2 g3 g4 g5 => ?_)
      · simp only [hN] at kf
        exact kf _ D1 rfl f1.fs t1.1
      · simp only [hN] at ky
        exact ky _ p' D' rfl g1 g2 g3 g4 (fun x m h => by cases h; exact g5)
    · intro hW2
      simp only [hW2] at ky
      simp only [wi_some, or_0, or_1, bo_or, ite_boP, true_and, and_true, kN_v, kN_n, kT_v, kT_n, kT_e, Nat.add_zero, Nat.zero_add, b58_17 hw, if_true]
      exact ky _ p D rfl FS.rf tc hV hp (fun x m h => by cases h)
theorem k59 (hw : WT sh) (HS : SP sh) (H : St sh a) (ha : 20 ≤ a) (tb : TB b n) (tc : TpC b n D p) (hV : Vw D a V) (hc : V 1 0 = Int32.ofNat nt) (hnt : nt ≤ 8) (h6 : ng < 6) (hp : p ≤ n)
    (kf : ∀ f D', tld b n wBorn nt p = .inl f → FS a D D' → D' 1 2 = Int32.ofNat f → Q (.inl (some (.int (Int32.ofNat 0)))) (mk sh D') c s)
    (ky : ∀ o p' D', tld b n wBorn nt p = .inr (o, p') → FS a D D' → TpC b n D' p' → Vw D' a (gbV V ng o) → p' ≤ n → (∀ x, o = some x → x < nt) → Q (.inl (some (.int (Int32.ofNat 1)))) (mk sh D') c s) :
    Wx (tP nx xs) (d + 2) 59 0 [some (.ref 1), some (.ref a), (some (.int (Int32.ofNat ng)))] [] (mk sh D) c s Q := by
  have n10 : ¬ (Int32.ofNat 1 : Int32) = Int32.ofNat 0 := by decide
  have ent : ∀ {D1 : sD}, Vw D1 a V → D1 (a + 1) 0 = Int32.ofNat nt := fun {D1} h => by rw [v_1 h]; exact hc
  have emo : Int32.ofNat nt - Int32.ofNat 1 = mo nt := rfl
  have tng := oN_tn (show ng < 2147483648 by omega)
  unfold tld at kf ky
  simp only [b59_0 hw, pR_bytes HS, pI_length HS, pF_length HS, pI_place HS, pF_place HS, pI_number HS, pF_number HS, pI_textLength HS, pF_textLength HS, pI_begin HS, pF_begin HS, pO HS, pA_2 HS, pW_2 HS, wi_some, or_0, or_1, bo_or, ite_boP, true_and, and_true, kN_v, kN_n, kT_v, kT_n, kT_e, Nat.add_zero, Nat.zero_add]
  refine k70 (i := 9) (w := wBorn) hw HS tb tc hp (by decide) (by decide +kernel) (by decide +kernel) ?_ ?_
  · intro p1 D1 hW f1 t1 e3 e5
    obtain ⟨_, _, _, w4, _⟩ := wrd_some hW hp
    have hV1 := hV.f1 f1 ha
    simp only [hW] at kf ky
    simp only [wi_some, or_0, or_1, bo_or, ite_boP, true_and, and_true, kN_v, kN_n, kT_v, kT_n, kT_e, Nat.add_zero, Nat.zero_add, b59_6 hw, n10, if_false, pR_bytes HS, pI_length HS, pF_length HS, pI_place HS, pF_place HS, pI_number HS, pF_number HS, pI_textLength HS, pF_textLength HS, pI_begin HS, pF_begin HS, pO HS, pA_2 HS, pW_2 HS, sR_things H, sI_goers H, sF_goers H, sR_wish H, sR_deed H, sI_makers H, sF_makers H, sR_born H, sR_money H, sR_nerve H, sR_shuns H, sR_by H, sI_trains H, sF_trains H, sR_halts H, sR_seats H, sI_texts H, sF_texts H, sI_law H, sF_law H, sI_day H, sF_day H, sI_seed H, sF_seed H, sR_log H, sO_state H, sI_count H, sF_count H, sI_first H, sF_first H, sR_at H, sR_worth H, sR_makes H, sR_hinders H, sO_things H, sI_rows H, sF_rows H, sR_entries H, sO_log H, sA_2 H, sW_2 H, sA_3 H, sW_3 H, sA_4 H, sW_4 H, sA_5 H, sW_5 H, sA_6 H, sW_6 H, sA_7 H, sW_7 H, sA_8 H, sW_8 H, sA_9 H, sW_9 H, sA_10 H, sW_10 H, sA_11 H, sW_11 H, sA_12 H, sW_12 H, sA_13 H, sW_13 H, sA_14 H, sW_14 H, sA_16 H, sW_16 H, ent hV1, emo]
    refine k73 hw HS tb t1 w4 (by decide) (by omega) ?_ ?_
    · intro v p' D2 hN f2 t2 e23 e25
      obtain ⟨_, w6, _, _, w7, _⟩ := num_some hN w4
      have hV2 := hV1.f1 f2 ha
      simp only [hN] at ky
      simp only [wi_some, or_0, or_1, bo_or, ite_boP, true_and, and_true, kN_v, kN_n, kT_v, kT_n, kT_e, Nat.add_zero, Nat.zero_add, b59_25 hw, n10, if_false, pR_bytes HS, pI_length HS, pF_length HS, pI_place HS, pF_place HS, pI_number HS, pF_number HS, pI_textLength HS, pF_textLength HS, pI_begin HS, pF_begin HS, pO HS, pA_2 HS, pW_2 HS, sR_things H, sI_goers H, sF_goers H, sR_wish H, sR_deed H, sI_makers H, sF_makers H, sR_born H, sR_money H, sR_nerve H, sR_shuns H, sR_by H, sI_trains H, sF_trains H, sR_halts H, sR_seats H, sI_texts H, sF_texts H, sI_law H, sF_law H, sI_day H, sF_day H, sI_seed H, sF_seed H, sR_log H, sO_state H, sI_count H, sF_count H, sI_first H, sF_first H, sR_at H, sR_worth H, sR_makes H, sR_hinders H, sO_things H, sI_rows H, sF_rows H, sR_entries H, sO_log H, sA_2 H, sW_2 H, sA_3 H, sW_3 H, sA_4 H, sW_4 H, sA_5 H, sW_5 H, sA_6 H, sW_6 H, sA_7 H, sW_7 H, sA_8 H, sW_8 H, sA_9 H, sW_9 H, sA_10 H, sW_10 H, sA_11 H, sW_11 H, sA_12 H, sW_12 H, sA_13 H, sW_13 H, sA_14 H, sW_14 H, sA_16 H, sW_16 H, e23, h6, tng, b59_40 hw]
      have f3 : Fr a D2 (u2 D2 (a + 8) ng (Int32.ofNat v)) := Fr.st (k := 8) (by decide) Fr.rf
      exact ky _ p' _ rfl ((f1.tr f2).fs.tr f3.fs) (t2.fr ha f3) (hV2.st (k := 8) (i := ng) (by decide) (Int32.ofNat v)) w6 (fun x h => by cases h; exact w7)
    · intro hN
      simp only [hN] at kf
      simp only [wi_some, or_0, or_1, bo_or, ite_boP, true_and, and_true, kN_v, kN_n, kT_v, kT_n, kT_e, Nat.add_zero, Nat.zero_add, b59_25 hw, if_true]
      exact kf _ D1 rfl f1.fs t1.1
  · intro hW
    simp only [hW] at ky
    simp only [wi_some, or_0, or_1, bo_or, ite_boP, true_and, and_true, kN_v, kN_n, kT_v, kT_n, kT_e, Nat.add_zero, Nat.zero_add, b59_6 hw, if_true]
    exact ky _ p D rfl FS.rf tc hV hp (fun x h => by cases h)
theorem gdV_1 {o : Option (Nat × Bool)} {i : Nat} : gdV V ng o 1 i = V 1 i := by
  cases o with
  | none => rfl
  | some x => show u2 (u2 V 7 ng _) 0 4 _ 1 i = _; rw [u2_at, if_neg (by omega), u2_at, if_neg (by omega)]
theorem gnV_1 {o : Option Nat} {i : Nat} : gnV V ng o 1 i = V 1 i := by
  cases o with
  | none => rfl
  | some x => show u2 V 10 ng _ 1 i = _; rw [u2_at, if_neg (by omega)]
theorem gaV_1 {stop mon i : Nat} : gaV V ng stop mon 1 i = V 1 i := by
  unfold gaV
  rw [u2_at, if_neg (by omega), u2_at, if_neg (by omega), u2_at, if_neg (by omega), u2_at, if_neg (by omega), u2_at, if_neg (by omega), u2_at, if_neg (by omega), u2_at, if_neg (by omega), u2_at, if_neg (by omega), u2_at, if_neg (by omega)]
theorem Iv_gall {stop mon : Nat} {nv ob : Option Nat} {dd : Option (Nat × Bool)} (I : Iv V nt ng nr nl) (hg : ng < 6) (h1 : stop < 16) (h2 : mon < 1000) (h3 : ∀ v, nv = some v → v < 101) (h4 : ∀ x m, dd = some (x, m) → x < nt) (h5 : ∀ x, ob = some x → x < nt) : Iv (gbV (gdV (gnV (gaV V ng stop mon) ng nv) ng dd) ng ob) nt (ng + 1) nr nl := by
  refine Iv_go I ((((GoP_a hg).n nv).d hg dd).b ob) hg h1 h2 ?_ ?_ ?_
  · cases nv with
    | none => decide
    | some v => exact h3 v rfl
  · cases dd with
    | none => exact Or.inl rfl
    | some x => exact Or.inr ⟨x.1, h4 x.1 x.2 rfl, rfl⟩
  · cases ob with
    | none => exact Or.inl rfl
    | some x => exact Or.inr ⟨x, h5 x rfl, rfl⟩
theorem k57 (hw : WT sh) (HS : SP sh) (H : St sh a) (ha : 20 ≤ a) (tb : TB b n) (sc : SC a b n S nl D p) (hp : p ≤ n) (h6 : S.2.2.1 < 6)
    (kf : ∀ f D', goL2 b n S p = .inl f → FS a D D' → D' 1 2 = Int32.ofNat f → Q (.inl (some (.int (Int32.ofNat 0)))) (mk sh D') c s)
    (ky : ∀ S' p' D', goL2 b n S p = .inr (S', p') → FS a D D' → SC a b n S' nl D' p' → p' ≤ n → Q (.inl (some (.int (Int32.ofNat 1)))) (mk sh D') c s) :
    Wx (tP nx xs) (d + 3) 57 0 [some (.ref 1), some (.ref a), none, none] [] (mk sh D) c s Q := by
  have n10 : ¬ (Int32.ofNat 1 : Int32) = Int32.ofNat 0 := by decide
  have I := sc.2.2
  have hnt := i_nt8 I
  have tng := oN_tn (show S.2.2.1 < 2147483648 by omega)
  have tail : ∀ (stop mon : Nat) (nv : Option Nat) q D1, stop < 16 → mon < 1000 → (∀ v, nv = some v → v < 101) → FS a D D1 → TpC b n D1 q → Vw D1 a (gnV (gaV S.1 S.2.2.1 stop mon) S.2.2.1 nv) → q ≤ n →
      (∀ f D', (∃ f', ddL b n S.2.1 q = .inl f' ∧ f = f') ∨ (∃ dd p4, ddL b n S.2.1 q = .inr (dd, p4) ∧ tld b n wBorn S.2.1 p4 = .inl f) → FS a D D' → D' 1 2 = Int32.ofNat f → Q (.inl (some (.int (Int32.ofNat 0)))) (mk sh D') c s) →
      (∀ dd p4 ob p5 D', ddL b n S.2.1 q = .inr (dd, p4) → tld b n wBorn S.2.1 p4 = .inr (ob, p5) → FS a D D' → SC a b n (gbV (gdV (gnV (gaV S.1 S.2.2.1 stop mon) S.2.2.1 nv) S.2.2.1 dd) S.2.2.1 ob, S.2.1, S.2.2.1 + 1, S.2.2.2) nl D' p5 → p5 ≤ n → Q (.inl (some (.int (Int32.ofNat 1)))) (mk sh D') c s) →
      Wx (tP nx xs) (d + 3) 57 89 [some (.ref 1), some (.ref a), (some (.int (Int32.ofNat stop))), (some (.int (Int32.ofNat S.2.2.1)))] [] (mk sh D1) c s Q := by
    intro stop mon nv q D1 hs hm hnv f1 t1 hV1 hq kf ky
    simp only [b57_89 hw]
    refine k58 (nt := S.2.1) hw HS H ha tb t1 hV1 (by rw [gnV_1, gaV_1]; exact i_nt I) hnt h6 hq ?_ ?_
    · intro f D2 hD g1 g2
      simp only [wi_some, or_0, or_1, bo_or, ite_boP, true_and, and_true, kN_v, kN_n, kT_v, kT_n, kT_e, Nat.add_zero, Nat.zero_add, b57_95 hw, if_true, b57_111 hw, b57_112 hw]
      exact kf f D2 (Or.inl ⟨f, hD, rfl⟩) (f1.tr g1) g2
    · intro dd p4 D2 hD g1 g2 g3 g4 g5
      simp only [wi_some, or_0, or_1, bo_or, ite_boP, true_and, and_true, kN_v, kN_n, kT_v, kT_n, kT_e, Nat.add_zero, Nat.zero_add, b57_95 hw, n10, if_false]
      refine k59 (nt := S.2.1) hw HS H ha tb g2 g3 (by rw [gdV_1, gnV_1, gaV_1]; exact i_nt I) hnt h6 g4 ?_ ?_
      · intro f D3 hB q1 q2
        simp only [wi_some, or_0, or_1, bo_or, ite_boP, true_and, and_true, kN_v, kN_n, kT_v, kT_n, kT_e, Nat.add_zero, Nat.zero_add, b57_104 hw, if_true, b57_111 hw, b57_112 hw]
        exact kf f D3 (Or.inr ⟨dd, p4, hD, hB⟩) ((f1.tr g1).tr q1) q2
      · intro ob p5 D3 hB q1 q2 q3 q4 q5
        simp only [wi_some, or_0, or_1, bo_or, ite_boP, true_and, and_true, kN_v, kN_n, kT_v, kT_n, kT_e, Nat.add_zero, Nat.zero_add, b57_104 hw, n10, if_false, b57_112 hw]
        exact ky dd p4 ob p5 D3 hD hB ((f1.tr g1).tr q1) ⟨q2, q3, Iv_gall I h6 hs hm hnv g5 q5⟩ q4
  unfold goL2 bhd at kf ky
  simp only [b57_0 hw, pR_bytes HS, pI_length HS, pF_length HS, pI_place HS, pF_place HS, pI_number HS, pF_number HS, pI_textLength HS, pF_textLength HS, pI_begin HS, pF_begin HS, pO HS, pA_2 HS, pW_2 HS, wi_some, or_0, or_1, bo_or, ite_boP, true_and, and_true, kN_v, kN_n, kT_v, kT_n, kT_e, Nat.add_zero, Nat.zero_add]
  refine k70 (i := 4) (w := wTo) hw HS tb sc.1 hp (by decide) (by decide +kernel) (by decide +kernel) ?_ ?_
  rotate_left
  · intro hW
    simp only [hW] at kf
    simp only [wi_some, or_0, or_1, bo_or, ite_boP, true_and, and_true, kN_v, kN_n, kT_v, kT_n, kT_e, Nat.add_zero, Nat.zero_add, b57_6 hw, if_true, b57_19 hw]
    exact kf _ D rfl FS.rf sc.1.1
  intro p1 D1 hW f1 t1 e3 e5
  obtain ⟨_, _, _, w4, _⟩ := wrd_some hW hp
  simp only [hW] at kf ky
  simp only [wi_some, or_0, or_1, bo_or, ite_boP, true_and, and_true, kN_v, kN_n, kT_v, kT_n, kT_e, Nat.add_zero, Nat.zero_add, b57_6 hw, n10, if_false, pR_bytes HS, pI_length HS, pF_length HS, pI_place HS, pF_place HS, pI_number HS, pF_number HS, pI_textLength HS, pF_textLength HS, pI_begin HS, pF_begin HS, pO HS, pA_2 HS, pW_2 HS]
  refine k73c hw HS tb t1 w4 (by decide) (by decide) ?_ ?_
  rotate_left
  · intro hN
    simp only [hN] at kf
    simp only [wi_some, or_0, or_1, bo_or, ite_boP, true_and, and_true, kN_v, kN_n, kT_v, kT_n, kT_e, Nat.add_zero, Nat.zero_add, b57_16 hw, if_true, b57_19 hw]
    exact kf _ D1 rfl f1.fs t1.1
  intro stop p2 D2 hN f2 t2 e23 e25
  obtain ⟨_, w6, _, _, ws, _⟩ := num_some hN w4
  simp only [hN] at kf ky
  simp only [wi_some, or_0, or_1, bo_or, ite_boP, true_and, and_true, kN_v, kN_n, kT_v, kT_n, kT_e, Nat.add_zero, Nat.zero_add, b57_16 hw, n10, if_false, pR_bytes HS, pI_length HS, pF_length HS, pI_place HS, pF_place HS, pI_number HS, pF_number HS, pI_textLength HS, pF_textLength HS, pI_begin HS, pF_begin HS, pO HS, pA_2 HS, pW_2 HS, e23]
  refine k70 (i := 5) (w := wMoney) hw HS tb t2 w6 (by decide) (by decide +kernel) (by decide +kernel) ?_ ?_
  rotate_left
  · intro hW2
    simp only [hW2] at kf
    simp only [wi_some, or_0, or_1, bo_or, ite_boP, true_and, and_true, kN_v, kN_n, kT_v, kT_n, kT_e, Nat.add_zero, Nat.zero_add, b57_32 hw, if_true, b57_46 hw]
    exact kf _ D2 rfl (f1.tr f2).fs t2.1
  intro p3 D3 hW2 f3 t3 e33 e35
  obtain ⟨_, _, _, w8, _⟩ := wrd_some hW2 w6
  simp only [hW2] at kf ky
  simp only [wi_some, or_0, or_1, bo_or, ite_boP, true_and, and_true, kN_v, kN_n, kT_v, kT_n, kT_e, Nat.add_zero, Nat.zero_add, b57_32 hw, n10, if_false, pR_bytes HS, pI_length HS, pF_length HS, pI_place HS, pF_place HS, pI_number HS, pF_number HS, pI_textLength HS, pF_textLength HS, pI_begin HS, pF_begin HS, pO HS, pA_2 HS, pW_2 HS]
  refine k73c hw HS tb t3 w8 (by decide) (by decide) ?_ ?_
  rotate_left
  · intro hN2
    simp only [hN2] at kf
    simp only [wi_some, or_0, or_1, bo_or, ite_boP, true_and, and_true, kN_v, kN_n, kT_v, kT_n, kT_e, Nat.add_zero, Nat.zero_add, b57_43 hw, if_true, b57_46 hw]
    exact kf _ D3 rfl ((f1.tr f2).tr f3).fs t3.1
  intro mon p4 D4 hN2 f4 t4 e43 e45
  obtain ⟨_, w10, _, _, wm, _⟩ := num_some hN2 w8
  simp only [hN2] at kf ky
  have f14 := (((f1.tr f2).tr f3).tr f4)
  have hV4 := sc.2.1.f1 f14 ha
  simp only [wi_some, or_0, or_1, bo_or, ite_boP, true_and, and_true, kN_v, kN_n, kT_v, kT_n, kT_e, Nat.add_zero, Nat.zero_add, b57_43 hw, n10, if_false, pR_bytes HS, pI_length HS, pF_length HS, pI_place HS, pF_place HS, pI_number HS, pF_number HS, pI_textLength HS, pF_textLength HS, pI_begin HS, pF_begin HS, pO HS, pA_2 HS, pW_2 HS, sR_things H, sI_goers H, sF_goers H, sR_wish H, sR_deed H, sI_makers H, sF_makers H, sR_born H, sR_money H, sR_nerve H, sR_shuns H, sR_by H, sI_trains H, sF_trains H, sR_halts H, sR_seats H, sI_texts H, sF_texts H, sI_law H, sF_law H, sI_day H, sF_day H, sI_seed H, sF_seed H, sR_log H, sO_state H, sI_count H, sF_count H, sI_first H, sF_first H, sR_at H, sR_worth H, sR_makes H, sR_hinders H, sO_things H, sI_rows H, sF_rows H, sR_entries H, sO_log H, sA_2 H, sW_2 H, sA_3 H, sW_3 H, sA_4 H, sW_4 H, sA_5 H, sW_5 H, sA_6 H, sW_6 H, sA_7 H, sW_7 H, sA_8 H, sW_8 H, sA_9 H, sW_9 H, sA_10 H, sW_10 H, sA_11 H, sW_11 H, sA_12 H, sW_12 H, sA_13 H, sW_13 H, sA_14 H, sW_14 H, sA_16 H, sW_16 H, e43]
  refine k32 hw H hV4 (i_ng I) h6 ?_
  intro D5 f5 v5
  have t5 := t4.fr ha f5
  have f15 := f14.fs.tr (f5.fs (a := a))
  simp only [wi_some, or_0, or_1, bo_or, ite_boP, true_and, and_true, kN_v, kN_n, kT_v, kT_n, kT_e, Nat.add_zero, Nat.zero_add, b57_57 hw, pR_bytes HS, pI_length HS, pF_length HS, pI_place HS, pF_place HS, pI_number HS, pF_number HS, pI_textLength HS, pF_textLength HS, pI_begin HS, pF_begin HS, pO HS, pA_2 HS, pW_2 HS]
  unfold tld at kf ky
  refine k70 (i := 6) (w := wNerve) hw HS tb t5 w10 (by decide) (by decide +kernel) (by decide +kernel) ?_ ?_
  · intro p5 D6 hW3 f6 t6 e63 e65
    obtain ⟨_, _, _, w12, _⟩ := wrd_some hW3 w10
    simp only [hW3] at kf ky
    simp only [wi_some, or_0, or_1, bo_or, ite_boP, true_and, and_true, kN_v, kN_n, kT_v, kT_n, kT_e, Nat.add_zero, Nat.zero_add, b57_64 hw, n10, if_false, pR_bytes HS, pI_length HS, pF_length HS, pI_place HS, pF_place HS, pI_number HS, pF_number HS, pI_textLength HS, pF_textLength HS, pI_begin HS, pF_begin HS, pO HS, pA_2 HS, pW_2 HS]
    refine k73c hw HS tb t6 w12 (by decide) (by decide) ?_ ?_
    · intro nv p6 D7 hN3 f7 t7 e73 e75
      obtain ⟨_, w14, _, _, wn, _⟩ := num_some hN3 w12
      simp only [hN3] at kf ky
      have v7 := v5.f1 (f6.tr f7) ha
      have f8 : Fr a D7 (u2 D7 (a + 10) S.2.2.1 (Int32.ofNat nv)) := Fr.st (k := 10) (by decide) Fr.rf
      simp only [wi_some, or_0, or_1, bo_or, ite_boP, true_and, and_true, kN_v, kN_n, kT_v, kT_n, kT_e, Nat.add_zero, Nat.zero_add, b57_74 hw, n10, if_false, pR_bytes HS, pI_length HS, pF_length HS, pI_place HS, pF_place HS, pI_number HS, pF_number HS, pI_textLength HS, pF_textLength HS, pI_begin HS, pF_begin HS, pO HS, pA_2 HS, pW_2 HS, sR_things H, sI_goers H, sF_goers H, sR_wish H, sR_deed H, sI_makers H, sF_makers H, sR_born H, sR_money H, sR_nerve H, sR_shuns H, sR_by H, sI_trains H, sF_trains H, sR_halts H, sR_seats H, sI_texts H, sF_texts H, sI_law H, sF_law H, sI_day H, sF_day H, sI_seed H, sF_seed H, sR_log H, sO_state H, sI_count H, sF_count H, sI_first H, sF_first H, sR_at H, sR_worth H, sR_makes H, sR_hinders H, sO_things H, sI_rows H, sF_rows H, sR_entries H, sO_log H, sA_2 H, sW_2 H, sA_3 H, sW_3 H, sA_4 H, sW_4 H, sA_5 H, sW_5 H, sA_6 H, sW_6 H, sA_7 H, sW_7 H, sA_8 H, sW_8 H, sA_9 H, sW_9 H, sA_10 H, sW_10 H, sA_11 H, sW_11 H, sA_12 H, sW_12 H, sA_13 H, sW_13 H, sA_14 H, sW_14 H, sA_16 H, sW_16 H, e73, h6, tng]
      refine tail stop mon (some nv) p6 _ ws wm (fun v h => by cases h; exact wn) ((f15.tr (f6.tr f7).fs).tr f8.fs) (t7.fr ha f8) (v7.st (k := 10) (i := S.2.2.1) (by decide) (Int32.ofNat nv)) w14 (fun f D' h g1 g2 => ?_) (fun dd p4 ob p5 D' h1 h2 g1 g2 g3 => ?_)
      · rcases h with ⟨f', h, rfl⟩ | ⟨dd, p4, h1, h2⟩
        · exact kf f D' (by rw [h]) g1 g2
        · exact kf f D' (by rw [h1]; unfold tld at h2; simp only [h2]) g1 g2
      · exact ky _ p5 D' (by rw [h1]; unfold tld at h2; simp only [h2]) g1 g2 g3
    · intro hN3
      simp only [hN3] at kf
      simp only [wi_some, or_0, or_1, bo_or, ite_boP, true_and, and_true, kN_v, kN_n, kT_v, kT_n, kT_e, Nat.add_zero, Nat.zero_add, b57_74 hw, if_true]
      exact kf _ D6 rfl (f15.tr f6.fs) t6.1
  · intro hW3
    simp only [hW3] at kf ky
    simp only [wi_some, or_0, or_1, bo_or, ite_boP, true_and, and_true, kN_v, kN_n, kT_v, kT_n, kT_e, Nat.add_zero, Nat.zero_add, b57_64 hw, if_true]
    refine tail stop mon none p4 D5 ws wm (fun v h => by cases h) f15 t5 v5 w10 (fun f D' h g1 g2 => ?_) (fun dd p4 ob p5 D' h1 h2 g1 g2 g3 => ?_)
    · rcases h with ⟨f', h, rfl⟩ | ⟨dd, p4, h1, h2⟩
      · exact kf f D' (by rw [h]) g1 g2
      · exact kf f D' (by rw [h1]; unfold tld at h2; simp only [h2]) g1 g2
    · exact ky _ p5 D' (by rw [h1]; unfold tld at h2; simp only [h2]) g1 g2 g3
end CB5
