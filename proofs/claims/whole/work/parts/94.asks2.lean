/-! ===== asks (2) ===== -/
theorem op_iff {m : Int32} {n y i : Nat} (hn : n ≤ 16) (e : bc m = Int32.ofNat n) (hy : y ≤ 4) (hy1 : 1 ≤ y) : (mx (Int32.ofNat (aqF (bc (m &&& mkI i)) 6 0)) (Int32.ofNat (aqF (bc m - bc (m &&& mkI i)) 6 0)) < Int32.ofNat y) ↔ opP m y i = true := by
  obtain ⟨z, hz, ez⟩ := bc_63 (m &&& mkI i)
  have h1 := aq_c1 y (by omega) hy1 z hz
  have h2 := aq_c2 y (by omega) hy1 n (by omega) z hz
  have l1 := aqF_le (Int32.ofNat z) 6 0
  have l2 := aqF_le (Int32.ofNat n - Int32.ofNat z) 6 0
  unfold opP
  rw [ez, e, oN_mx (by omega) (by omega), oN_lt (by omega) (by omega)]
  simp only [Bool.and_eq_true, decide_eq_true_eq]
  rw [← h1, ← h2]
  omega
section C94
variable {nx : Nat} {xs : Nat → Int32} {d c s : Nat} {sh : List sC} {D : sD} {Q : av_Q}
theorem k154 {m : Int32} {y : Nat} (hw : WT sh) : Wx (tP nx xs) (d + 1) 154 0 [(some (.int (m))), (some (.int (Int32.ofNat (2 ^ (y - 1))))), none, none, none] [] (mk sh D) c s Q = Q (.inl (some (.int (fst1 (opP m y) 15 0)))) (mk sh D) c s := by
  simp only [b154_0 hw, k357 hw, wi_some, or_0, or_1, bo_or, ite_boP, true_and, and_true, kN_v, kN_n, kT_v, kT_n, kT_e, Nat.add_zero, Nat.zero_add, b154_4 hw]
  suffices hl : ∀ r i l4, i + r = 15 → Wx (tP nx xs) (d + 1) 154 7 [(some (.int (m))), (some (.int (Int32.ofNat (2 ^ (y - 1))))), (some (.int (bc m))), (some (.int (Int32.ofNat i))), l4] [] (mk sh D) c s Q = Q (.inl (some (.int (fst1 (opP m y) r i)))) (mk sh D) c s from hl 15 0 none rfl
  intro r
  induction r with
  | zero =>
    intro i l4 hi
    have hi' : i = 15 := by omega
    subst hi'
    rw [b154_7 hw]
    simp only [show ¬ (Int32.ofNat 15) < Int32.ofNat 15 by decide, if_false]
    rfl
  | succ r ih =>
    intro i l4 hi
    have ih := fun l => ih (i + 1) l (by omega)
    have em : jshl (Int32.ofNat 2) (Int32.ofNat i) - Int32.ofNat 1 = mkI i := rfl
    have eo : opP m y i = (decide (¬ Int32.ofNat (2 ^ (y - 1)) < bc (m &&& mkI i)) && decide (¬ Int32.ofNat (2 ^ (y - 1)) < bc m - bc (m &&& mkI i))) := rfl
    rw [b154_7 hw, show fst1 (opP m y) (r + 1) i = if opP m y i then Int32.ofNat i else fst1 (opP m y) r (i + 1) from rfl]
    simp only [oN_lt (show i < 2147483648 by omega) (show 15 < 2147483648 by omega), show i < 15 by omega, if_true, em, k357 hw, wi_some, or_0, or_1, bo_or, ite_boP, true_and, and_true, kN_v, kN_n, kT_v, kT_n, kT_e, Nat.add_zero, Nat.zero_add, b154_23 hw, b154_41 hw, oN_add]
    by_cases h1 : Int32.ofNat (2 ^ (y - 1)) < bc (m &&& mkI i)
    · have e : opP m y i = false := by rw [eo, decide_eq_false (fun h => h h1), Bool.false_and]
      simp only [h1, if_true, e, Bool.false_eq_true, if_false]; exact ih _
    · by_cases h2 : Int32.ofNat (2 ^ (y - 1)) < bc m - bc (m &&& mkI i)
      · have e : opP m y i = false := by rw [eo, decide_eq_false (p := ¬ Int32.ofNat (2 ^ (y - 1)) < bc m - bc (m &&& mkI i)) (fun h => h h2), Bool.and_false]
        simp only [h1, h2, if_true, e, Bool.false_eq_true, if_false]; exact ih _
      · have e : opP m y i = true := by rw [eo, decide_eq_true h1, decide_eq_true h2]; rfl
        simp only [h1, h2, if_true, e, if_false]
theorem c_asks {x : Int32} {b : Bool} (hw : WT sh) (kk : Q (.inl (some (.int (o_asks x b)))) (mk sh D) c s) : Wx (tP nx xs) (d + 2) 152 0 [some (.ref 0), (some (.int (x))), (some (.int (bo b))), none, none] [] (mk sh D) c s Q := by
  have n10 : ¬ (Int32.ofNat 1 : Int32) = Int32.ofNat 0 := by decide
  obtain ⟨n, hn, en⟩ := bc_16 x
  have hy := (aq_46 n (by omega)).2
  have sl : ∀ y, y < 5 → 1 ≤ y → jshl (Int32.ofNat 1) (Int32.ofNat y - Int32.ofNat 1) = Int32.ofNat (2 ^ (y - 1)) := by decide +kernel
  unfold o_asks at kk
  simp only [b152_0 hw, k357 hw, wi_some, or_0, or_1, bo_or, ite_boP, true_and, and_true, kN_v, kN_n, kT_v, kT_n, kT_e, Nat.add_zero, Nat.zero_add, b152_10 hw]
  rw [en] at kk ⊢
  simp only [k153 hw hn, wi_some, or_0, or_1, bo_or, ite_boP, true_and, and_true, kN_v, kN_n, kT_v, kT_n, kT_e, Nat.add_zero, Nat.zero_add, b152_13 hw, b152_41 hw]
  generalize aqF (Int32.ofNat n) 4 0 = y at *
  cases b with
  | false => simp only [bo_f, if_true, Bool.false_eq_true, if_false] at kk ⊢; exact kk
  | true =>
    simp only [bo_t, n10, if_false, if_true, oN_eq (show y < 2147483648 by omega) (show 0 < 2147483648 by omega)] at kk ⊢
    by_cases h0 : y = 0
    · simp only [h0, if_true] at kk ⊢; exact kk
    · simp only [h0, if_false, sl y (by omega) (by omega), k154 hw, wi_some, or_0, or_1, bo_or, ite_boP, true_and, and_true, kN_v, kN_n, kT_v, kT_n, kT_e, Nat.add_zero, Nat.zero_add, b152_41 hw] at kk ⊢; exact kk
theorem m_asks {x : Int32} {b : Bool} (hw : WT sh) (HS : SP sh) (kk : ∀ D', Ms D D' → D' 286 0 = Int32.ofNat 0 → Q (.inl (some (.int (o_asks x b)))) (mk sh D') c s) : Wx (tP nx xs) (d + 1) 328 0 [some (.ref 286), (some (.int (x))), (some (.int (bo b))), none, none, none, none, none, none] [] (mk sh D) c s Q := by
  have n10 : ¬ (Int32.ofNat 1 : Int32) = Int32.ofNat 0 := by decide
  obtain ⟨n, hn, en⟩ := bc_16 x
  have h64 : ¬ Int32.ofNat 64 < Int32.ofNat n := aq_lt1 n (by omega)
  have e64 := (aq_46 n (by omega)).1
  have hy := (aq_46 n (by omega)).2
  have kk := kk _ (Ms.rf.th (v := Int32.ofNat 0)) (by simp [u2_at])
  unfold o_asks at kk
  simp only [b328_0 hw, b328_5 hw, mI_thrown HS, mF_thrown HS, mR_row HS, mR_image HS, mR_earlier HS, mR_trial HS, mR_acts HS, mI_hasImage HS, mF_hasImage HS, mI_remembered HS, mF_remembered HS, mR_tape HS, mI_taped HS, mF_taped HS, mI_point HS, mF_point HS, mI_end HS, mF_end HS, mI_begin HS, mF_begin HS, mI_deep HS, mF_deep HS, mI_faultAt HS, mF_faultAt HS, mR_five HS, mI_codes HS, mF_codes HS, mR_value HS, mI_so HS, mF_so HS, mR_lines HS, mR_chosen HS, mR_best HS, mR_members HS, mR_paired HS, mO HS, mA_287 HS, mW_287 HS, mA_288 HS, mW_288 HS, mA_289 HS, mW_289 HS, mA_290 HS, mW_290 HS, mA_291 HS, mW_291 HS, mA_292 HS, mW_292 HS, mA_293 HS, mW_293 HS, mA_294 HS, mW_294 HS, mA_295 HS, mW_295 HS, mA_296 HS, mW_296 HS, mA_297 HS, mW_297 HS, mA_298 HS, mW_298 HS, mA_299 HS, mW_299 HS, wi_some, or_0, or_1, bo_or, ite_boP, true_and, and_true, kN_v, kN_n, kT_v, kT_n, kT_e, Nat.add_zero, Nat.zero_add, k357 hw, b328_15 hw]
  generalize u2 D 286 0 (Int32.ofNat 0) = D1 at *
  generalize hm : x &&& Int32.ofNat 65535 = m at *
  rw [en] at kk
  rw [en]
  simp only [k327 hw h64, wi_some, or_0, or_1, bo_or, ite_boP, true_and, and_true, kN_v, kN_n, kT_v, kT_n, kT_e, Nat.add_zero, Nat.zero_add, b328_18 hw, e64]
  generalize aqF (Int32.ofNat n) 4 0 = y at *
  cases b with
  | false => simp only [bo_f, if_true, Bool.false_eq_true, if_false] at kk ⊢; exact kk
  | true =>
    simp only [bo_t, n10, if_false, if_true] at kk ⊢
    by_cases h0 : y = 0
    · subst h0
      simp only [if_true] at kk
      rw [b328_34 hw]
      simp only [show ¬ (Int32.ofNat 14 : Int32) < Int32.ofNat 0 by decide, show ¬ (Int32.ofNat 0 : Int32) < Int32.ofNat 0 by decide, if_false, b328_99 hw]
      exact kk
    · simp only [h0, if_false] at kk
      have hl : ∀ j l7 l8, j ≤ 15 → Wx (tP nx xs) (d + 1) 328 34 [some (.ref 286), (some (.int (x))), (some (.int (Int32.ofNat 1))), (some (.int (m))), (some (.int (Int32.ofNat y))), (some (.int (fst1 (opP m y) (15 - j) j))), (some (.int (Int32.ofNat j + (-1)))), l7, l8] [] (mk sh D1) c s Q := by
        intro j
        induction j with
        | zero =>
          intro l7 l8 _
          rw [b328_34 hw, if_pos (by decide)]
          simp only [b328_99 hw]
          exact kk
        | succ j ih =>
          intro l7 l8 hj
          have ih := fun l l' => ih l l' (by omega)
          obtain ⟨z, hz, ez⟩ := bc_63 (m &&& mkI j)
          have q1 : ¬ Int32.ofNat 64 < bc (m &&& mkI j) := by rw [ez]; exact aq_lt1 z hz
          have q2 : ¬ Int32.ofNat 64 < Int32.ofNat n - bc (m &&& mkI j) := by rw [ez]; exact aq_lt n (by omega) z hz
          have em : jshl (Int32.ofNat 2) (Int32.ofNat j) - Int32.ofNat 1 = mkI j := rfl
          have oi := op_iff (m := m) (i := j) hn en hy (show 1 ≤ y by omega)
          rw [en] at oi
          rw [show fst1 (opP m y) (15 - j) j = if opP m y j then Int32.ofNat j else fst1 (opP m y) (15 - (j + 1)) (j + 1) by rw [show 15 - j = 15 - (j + 1) + 1 by omega]; rfl] at ih
          rw [b328_34 hw]
          simp only [oN_m1, oN_lt (show j < 2147483648 by omega) (show 0 < 2147483648 by omega), Nat.not_lt_zero, if_false, oN_lt (show 0 < 2147483648 by omega) (show y < 2147483648 by omega), show 0 < y by omega, if_true, em, k357 hw, wi_some, or_0, or_1, bo_or, ite_boP, true_and, and_true, kN_v, kN_n, kT_v, kT_n, kT_e, Nat.add_zero, Nat.zero_add, b328_55 hw, b328_61 hw, en, k327 hw q1, b328_71 hw, k327 hw q2, b328_76 hw, b328_91 hw, oi]
          cases ho : opP m y j with
          | true => simp only [ho, if_true] at ih ⊢; exact ih _ _
          | false => simp only [ho, Bool.false_eq_true, if_false] at ih ⊢; exact ih _ _
      have := hl 15 none none (Nat.le_refl _)
      rw [show Int32.ofNat 15 + (-1) = Int32.ofNat 14 by decide] at this
      exact this
end C94
