/-! ===== pick ===== -/
def pkF (n : Nat) : Int32 := fo (fun i x => x * Int32.ofNat i) (n - 2) 2 (Int32.ofNat 1)
def pk (n k : Nat) : Int32 := if k = 0 then pkF n else fo (fun p x => x + pkF n / Int32.ofNat p * Int32.ofNat k) (n - k) k (Int32.ofNat 0)
def pkB (n i : Nat) : Nat := fo (fun k b => if pk n b < pk n k then k else b) i 1 0
def o_pick (x : Int32) (b : Bool) : Int32 ⊕ Nat := if inB x 1 10 then .inl (if b then pk x.toNatClampNeg (pkB x.toNatClampNeg (x.toNatClampNeg - 1)) else Int32.ofNat (pkB x.toNatClampNeg (x.toNatClampNeg - 1))) else .inr 1
theorem pk_pos : ∀ n, n < 11 → 1 ≤ n → (-1 : Int32) < pk n 0 := by decide +kernel
theorem pkB_lt {n : Nat} : ∀ i, pkB n i ≤ i
  | 0 => Nat.le_refl _
  | i + 1 => by
    have ih := pkB_lt (n := n) i
    have e : pkB n (i + 1) = if pk n (pkB n i) < pk n (1 + i) then 1 + i else pkB n i := by unfold pkB; rw [fo_snoc]
    rw [e]
    split <;> omega
section C87
variable {nx : Nat} {xs : Nat → Int32} {d c s : Nat} {sh : List sC} {D : sD} {Q : av_Q}
variable {G : GT}
theorem oN_ne0 {p : Nat} (h1 : 1 ≤ p) (h2 : p < 2147483648) : (Int32.ofNat p ≠ 0) = True := by
  have : ¬ Int32.ofNat p = Int32.ofNat 0 := by rw [oN_eq h2 (by decide)]; omega
  simpa using this
theorem k156 {n k : Nat} (hw : WT sh) (hn : n ≤ 10) (hn1 : 1 ≤ n) (hk : k < n) : Wx (tP nx xs) d 156 0 [(some (.int (Int32.ofNat n))), (some (.int (Int32.ofNat k))), none, none, none] [] (mk sh D) c s Q = Q (.inl (some (.int (pk n k)))) (mk sh D) c s := by
  simp only [b156_0 hw]
  refine (up_loopA (W := fun i (x : Int32) => Wx (tP nx xs) d 156 4 [(some (.int (Int32.ofNat n))), (some (.int (Int32.ofNat k))), (some (.int (x))), (some (.int (Int32.ofNat i))), none] [] (mk sh D) c s Q) (F := fun i x => x * Int32.ofNat i) 2 (n - 2) (fun i x h1 h2 => ?_) (Int32.ofNat 1)).trans ?_
  · rw [b156_4 hw]
    simp only [oN_lt (show i < 2147483648 by omega) (show n < 2147483648 by omega), show i < n by omega, if_true, oN_add]
  · rw [b156_4 hw]
    have e : fo (fun i x => x * Int32.ofNat i) (n - 2) 2 (Int32.ofNat 1) = pkF n := rfl
    rw [e]
    simp only [oN_lt (show 2 + (n - 2) < 2147483648 by omega) (show n < 2147483648 by omega), show ¬ 2 + (n - 2) < n by omega, if_false, oN_eq (show k < 2147483648 by omega) (show 0 < 2147483648 by omega)]
    unfold pk
    by_cases h0 : k = 0
    · simp only [h0, if_true]
    · have em : mx (Int32.ofNat 1) (Int32.ofNat k) = Int32.ofNat k := by rw [oN_mx (by omega) (by omega)]; congr 1; omega
      simp only [h0, if_false, em]
      refine (up_loopA (W := fun i (x : Int32) => Wx (tP nx xs) d 156 34 [(some (.int (Int32.ofNat n))), (some (.int (Int32.ofNat k))), (some (.int (pkF n))), (some (.int (x))), (some (.int (Int32.ofNat i)))] [] (mk sh D) c s Q) (F := fun p x => x + pkF n / Int32.ofNat p * Int32.ofNat k) k (n - k) (fun i x h1 h2 => ?_) (Int32.ofNat 0)).trans ?_
      · rw [b156_34 hw]
        simp only [oN_lt (show i < 2147483648 by omega) (show n < 2147483648 by omega), show i < n by omega, if_true, oN_add, oN_ne0 (show 1 ≤ i by omega) (show i < 2147483648 by omega), true_and]
      · rw [b156_34 hw]
        simp only [oN_lt (show k + (n - k) < 2147483648 by omega) (show n < 2147483648 by omega), show ¬ k + (n - k) < n by omega, if_false]
theorem k329 {n k : Nat} (hw : WT sh) (hn : n ≤ 10) (hn1 : 1 ≤ n) (hk : k < n) : Wx (tP nx xs) d 329 0 [(some (.int (Int32.ofNat n))), (some (.int (Int32.ofNat k))), none, none, none] [] (mk sh D) c s Q = Q (.inl (some (.int (pk n k)))) (mk sh D) c s := by
  simp only [b329_0 hw]
  refine (up_loopA (W := fun i (x : Int32) => Wx (tP nx xs) d 329 4 [(some (.int (Int32.ofNat n))), (some (.int (Int32.ofNat k))), (some (.int (x))), (some (.int (Int32.ofNat i))), none] [] (mk sh D) c s Q) (F := fun i x => x * Int32.ofNat i) 2 (n - 2) (fun i x h1 h2 => ?_) (Int32.ofNat 1)).trans ?_
  · rw [b329_4 hw]
    simp only [oN_lt (show i < 2147483648 by omega) (show n < 2147483648 by omega), show i < n by omega, if_true, oN_add]
  · rw [b329_4 hw]
    have e : fo (fun i x => x * Int32.ofNat i) (n - 2) 2 (Int32.ofNat 1) = pkF n := rfl
    rw [e]
    simp only [oN_lt (show 2 + (n - 2) < 2147483648 by omega) (show n < 2147483648 by omega), show ¬ 2 + (n - 2) < n by omega, if_false, oN_eq (show k < 2147483648 by omega) (show 0 < 2147483648 by omega), b329_28 hw, oN_add]
    unfold pk
    by_cases h0 : k = 0
    · subst h0
      simp only [if_true]
      rw [b329_34 hw]
      simp only [oN_lt (show n < 2147483648 by omega) (show 0 + 1 < 2147483648 by omega), show ¬ n < 0 + 1 by omega, if_false, oN_lt (show 0 < 2147483648 by omega) (show 0 < 2147483648 by omega), Nat.lt_irrefl, b329_61 hw]
    · simp only [h0, if_false]
      refine (up_loopA (W := fun i (x : Int32) => Wx (tP nx xs) d 329 34 [(some (.int (Int32.ofNat n))), (some (.int (Int32.ofNat k))), (some (.int (pkF n))), (some (.int (x))), (some (.int (Int32.ofNat (i + 1))))] [] (mk sh D) c s Q) (F := fun p x => x + pkF n / Int32.ofNat p * Int32.ofNat k) k (n - k) (fun i x h1 h2 => ?_) (Int32.ofNat 0)).trans ?_
      · rw [b329_34 hw]
        simp only [oN_lt (show n < 2147483648 by omega) (show i + 1 < 2147483648 by omega), show ¬ n < i + 1 by omega, if_false, oN_lt (show 0 < 2147483648 by omega) (show k < 2147483648 by omega), show 0 < k by omega, if_true, oN_m1', oN_add, oN_ne0 (show 1 ≤ i by omega) (show i < 2147483648 by omega), true_and]
      · rw [b329_34 hw]
        simp only [oN_lt (show n < 2147483648 by omega) (show k + (n - k) + 1 < 2147483648 by omega), show n < k + (n - k) + 1 by omega, if_true, b329_61 hw]
theorem c_pick {x : Int32} {b : Bool} (hw : WT sh) (kk : Q (oQ (fun _ => xIA) (o_pick x b)) (mk sh D) (c + o1 (o_pick x b)) (s + 6 * o1 (o_pick x b))) : Wx (tP nx xs) (d + 1) 155 0 [some (.ref 0), (some (.int (x))), (some (.int (bo b))), none, none, none, none] [] (mk sh D) c s Q := by
  have n10 : ¬ (Int32.ofNat 1 : Int32) = Int32.ofNat 0 := by decide
  unfold o_pick at kk
  simp only [b155_0 hw, b155_11 hw]
  cases hb : inB x 1 10 with
  | false =>
    simp only [hb, Bool.false_eq_true, if_false, oQ, o1] at kk
    unfold inB at hb
    by_cases h1 : x < Int32.ofNat 1
    · simp only [h1, if_true]; exact kk
    · have h2 : Int32.ofNat 10 < x := by simp only [h1, not_false_eq_true, decide_true, Bool.true_and, decide_eq_false_iff_not, Classical.not_not] at hb; exact hb
      simp only [h1, h2, if_false, if_true]; exact kk
  | true =>
    obtain ⟨n, hn1, hn2, rfl⟩ := inB_of (by decide) (by decide) hb
    have a1 : ¬ Int32.ofNat n < Int32.ofNat 1 := by rw [oN_lt (by omega) (by decide)]; omega
    have a2 : ¬ Int32.ofNat 10 < Int32.ofNat n := by rw [oN_lt (by decide) (by omega)]; omega
    simp only [hb, if_true, oQ, o1, oN_tn (show n < 2147483648 by omega), Nat.mul_zero, Nat.add_zero] at kk
    simp only [a1, a2, if_false]
    have pp := pk_pos n (by omega) hn1
    suffices hl : ∀ l6, Wx (tP nx xs) (d + 1) 155 30 [some (.ref 0), (some (.int (Int32.ofNat n))), (some (.int (bo b))), (some (.int (Int32.ofNat 0))), (some (.int (-1))), (some (.int (Int32.ofNat 0))), l6] [] (mk sh D) c s Q by exact hl none
    intro l6
    rw [b155_30 hw]
    simp only [oN_lt (show 0 < 2147483648 by omega) (show n < 2147483648 by omega), show 0 < n by omega, if_true, k156 hw hn2 hn1 (show 0 < n by omega), wi_some, or_0, or_1, bo_or, ite_boP, true_and, and_true, kN_v, kN_n, kT_v, kT_n, kT_e, Nat.add_zero, Nat.zero_add, b155_42 hw, pp, b155_58 hw, oN_add]
    have hl : ∀ r i l6, i + r = n - 1 → Wx (tP nx xs) (d + 1) 155 30 [some (.ref 0), (some (.int (Int32.ofNat n))), (some (.int (bo b))), (some (.int (Int32.ofNat (pkB n i)))), (some (.int (pk n (pkB n i)))), (some (.int (Int32.ofNat (1 + i)))), l6] [] (mk sh D) c s Q := by
      intro r
      induction r with
      | zero =>
        intro i l6 hi
        have hi' : i = n - 1 := by omega
        subst hi'
        rw [b155_30 hw]
        simp only [oN_lt (show 1 + (n - 1) < 2147483648 by omega) (show n < 2147483648 by omega), show ¬ 1 + (n - 1) < n by omega, if_false, b155_74 hw]
        cases b <;> simp only [bo_f, bo_t, n10, if_true, if_false, Bool.false_eq_true] at kk ⊢ <;> exact kk
      | succ r ih =>
        intro i l6 hi
        have ih := fun l => ih (i + 1) l (by omega)
        have e : pkB n (i + 1) = if pk n (pkB n i) < pk n (1 + i) then 1 + i else pkB n i := by unfold pkB; rw [fo_snoc]
        rw [e] at ih
        rw [b155_30 hw]
        simp only [oN_lt (show 1 + i < 2147483648 by omega) (show n < 2147483648 by omega), show 1 + i < n by omega, if_true, k156 hw hn2 hn1 (show 1 + i < n by omega), wi_some, or_0, or_1, bo_or, ite_boP, true_and, and_true, kN_v, kN_n, kT_v, kT_n, kT_e, Nat.add_zero, Nat.zero_add, b155_42 hw, b155_58 hw, oN_add]
        by_cases h : pk n (pkB n i) < pk n (1 + i)
        · simp only [h, if_true] at ih ⊢; exact ih _
        · simp only [h, if_false] at ih ⊢; exact ih _
    exact hl (n - 1) 0 _ (by omega)
theorem m_pick {x : Int32} {b : Bool} (hw : WT sh) (HS : SP sh) (kk : ∀ D', Ms D D' → D' 286 0 = Int32.ofNat (th (o_pick x b)) → Q (.inl (some (.int (rv (o_pick x b))))) (mk sh D') c s) : Wx (tP nx xs) (d + 1) 330 0 [some (.ref 286), (some (.int (x))), (some (.int (bo b))), none, none] [] (mk sh D) c s Q := by
  have n10 : ¬ (Int32.ofNat 1 : Int32) = Int32.ofNat 0 := by decide
  unfold o_pick at kk
  simp only [b330_0 hw, b330_5 hw, mI_thrown HS, mF_thrown HS, mR_row HS, mR_image HS, mR_earlier HS, mR_trial HS, mR_acts HS, mI_hasImage HS, mF_hasImage HS, mI_remembered HS, mF_remembered HS, mR_tape HS, mI_taped HS, mF_taped HS, mI_point HS, mF_point HS, mI_end HS, mF_end HS, mI_begin HS, mF_begin HS, mI_deep HS, mF_deep HS, mI_faultAt HS, mF_faultAt HS, mR_five HS, mI_codes HS, mF_codes HS, mR_value HS, mI_so HS, mF_so HS, mR_lines HS, mR_chosen HS, mR_best HS, mR_members HS, mR_paired HS, mO HS, mA_287 HS, mW_287 HS, mA_288 HS, mW_288 HS, mA_289 HS, mW_289 HS, mA_290 HS, mW_290 HS, mA_291 HS, mW_291 HS, mA_292 HS, mW_292 HS, mA_293 HS, mW_293 HS, mA_294 HS, mW_294 HS, mA_295 HS, mW_295 HS, mA_296 HS, mW_296 HS, mA_297 HS, mW_297 HS, mA_298 HS, mW_298 HS, mA_299 HS, mW_299 HS, wi_some, or_0, or_1, bo_or, ite_boP, true_and, and_true, kN_v, kN_n, kT_v, kT_n, kT_e, Nat.add_zero, Nat.zero_add, k188 hw, b330_13 hw]
  have eb : (decide (¬ x < Int32.ofNat 1) && decide (¬ Int32.ofNat 10 < x)) = inB x 1 10 := rfl
  rw [eb]
  cases hb : inB x 1 10 with
  | false =>
    simp only [hb, Bool.false_eq_true, if_false, th, rv, b330_21 hw, mI_thrown HS, mF_thrown HS, mR_row HS, mR_image HS, mR_earlier HS, mR_trial HS, mR_acts HS, mI_hasImage HS, mF_hasImage HS, mI_remembered HS, mF_remembered HS, mR_tape HS, mI_taped HS, mF_taped HS, mI_point HS, mF_point HS, mI_end HS, mF_end HS, mI_begin HS, mF_begin HS, mI_deep HS, mF_deep HS, mI_faultAt HS, mF_faultAt HS, mR_five HS, mI_codes HS, mF_codes HS, mR_value HS, mI_so HS, mF_so HS, mR_lines HS, mR_chosen HS, mR_best HS, mR_members HS, mR_paired HS, mO HS, mA_287 HS, mW_287 HS, mA_288 HS, mW_288 HS, mA_289 HS, mW_289 HS, mA_290 HS, mW_290 HS, mA_291 HS, mW_291 HS, mA_292 HS, mW_292 HS, mA_293 HS, mW_293 HS, mA_294 HS, mW_294 HS, mA_295 HS, mW_295 HS, mA_296 HS, mW_296 HS, mA_297 HS, mW_297 HS, mA_298 HS, mW_298 HS, mA_299 HS, mW_299 HS, wi_some, or_0, or_1, bo_or, ite_boP, true_and, and_true, kN_v, kN_n, kT_v, kT_n, kT_e, Nat.add_zero, Nat.zero_add, k187t hw HS, b330_25 hw, n10] at kk ⊢
    exact kk _ Ms.rf.th.th (by simp [u2_at])
  | true =>
    obtain ⟨n, hn1, hn2, rfl⟩ := inB_of (by decide) (by decide) hb
    have fin := kk _ (Ms.rf.th (v := Int32.ofNat 0)) (by simp [u2_at, hb, th])
    simp only [hb, if_true, rv, oN_tn (show n < 2147483648 by omega)] at fin
    simp only [if_true, b330_21 hw, mI_thrown HS, mF_thrown HS, mR_row HS, mR_image HS, mR_earlier HS, mR_trial HS, mR_acts HS, mI_hasImage HS, mF_hasImage HS, mI_remembered HS, mF_remembered HS, mR_tape HS, mI_taped HS, mF_taped HS, mI_point HS, mF_point HS, mI_end HS, mF_end HS, mI_begin HS, mF_begin HS, mI_deep HS, mF_deep HS, mI_faultAt HS, mF_faultAt HS, mR_five HS, mI_codes HS, mF_codes HS, mR_value HS, mI_so HS, mF_so HS, mR_lines HS, mR_chosen HS, mR_best HS, mR_members HS, mR_paired HS, mO HS, mA_287 HS, mW_287 HS, mA_288 HS, mW_288 HS, mA_289 HS, mW_289 HS, mA_290 HS, mW_290 HS, mA_291 HS, mW_291 HS, mA_292 HS, mW_292 HS, mA_293 HS, mW_293 HS, mA_294 HS, mW_294 HS, mA_295 HS, mW_295 HS, mA_296 HS, mW_296 HS, mA_297 HS, mW_297 HS, mA_298 HS, mW_298 HS, mA_299 HS, mW_299 HS, wi_some, or_0, or_1, bo_or, ite_boP, true_and, and_true, kN_v, kN_n, kT_v, kT_n, kT_e, Nat.add_zero, Nat.zero_add, k187f hw HS, b330_25 hw]
    have hl : ∀ r i, i + r = n - 1 → Wx (tP nx xs) (d + 1) 330 35 [some (.ref 286), (some (.int (Int32.ofNat n))), (some (.int (bo b))), (some (.int (Int32.ofNat (pkB n i)))), (some (.int (Int32.ofNat (1 + i))))] [] (mk sh (u2 D 286 0 (Int32.ofNat 0))) c s Q := by
      intro r
      induction r with
      | zero =>
        intro i hi
        have hi' : i = n - 1 := by omega
        subst hi'
        have hp := pkB_lt (n := n) (n - 1)
        rw [b330_35 hw]
        simp only [oN_lt (show 1 + (n - 1) < 2147483648 by omega) (show n < 2147483648 by omega), show ¬ 1 + (n - 1) < n by omega, if_false, b330_81 hw, k329 hw hn2 hn1 (show pkB n (n - 1) < n by omega), wi_some, or_0, or_1, bo_or, ite_boP, true_and, and_true, kN_v, kN_n, kT_v, kT_n, kT_e, Nat.add_zero, Nat.zero_add, b330_77 hw]
        cases b <;> simp only [bo_f, bo_t, n10, if_true, if_false, Bool.false_eq_true] at fin ⊢ <;> exact fin
      | succ r ih =>
        intro i hi
        have ih := ih (i + 1) (by omega)
        have hp := pkB_lt (n := n) i
        have e : pkB n (i + 1) = if pk n (pkB n i) < pk n (1 + i) then 1 + i else pkB n i := by unfold pkB; rw [fo_snoc]
        rw [e] at ih
        rw [b330_35 hw]
        simp only [oN_lt (show 1 + i < 2147483648 by omega) (show n < 2147483648 by omega), show 1 + i < n by omega, if_true, k329 hw hn2 hn1 (show 1 + i < n by omega), wi_some, or_0, or_1, bo_or, ite_boP, true_and, and_true, kN_v, kN_n, kT_v, kT_n, kT_e, Nat.add_zero, Nat.zero_add, b330_47 hw, k329 hw hn2 hn1 (show pkB n i < n by omega), b330_52 hw, b330_61 hw, oN_add]
        by_cases h : pk n (pkB n i) < pk n (1 + i)
        · simp only [h, if_true] at ih ⊢; exact ih
        · simp only [h, if_false] at ih ⊢; exact ih
    exact hl (n - 1) 0 (by omega)
end C87
