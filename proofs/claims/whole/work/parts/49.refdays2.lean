/-! ===== the reference: oneDay, goesOn ===== -/
theorem goL_le {lw : LW} {ng nr g : Nat} {dr : Bool} {V : sD} : (goL lw ng nr dr g (V, 0)).2 ≤ 1 := by
  unfold goL
  split
  · split <;> simp
  · simp
section C49
variable {nx : Nat} {xs : Nat → Int32} {d c s : Nat} {sh : List sC} {D : sD} {Q : av_Q}
variable {V : sD} {nt ng nr nl g t : Nat} {lw : LW}
theorem k262 {dr : Bool} (hw : WT sh) (HS : SP sh) (R : Rw (D 287) V nt ng nr nl) (I : Iv V nt ng nr nl) (hL : Rl (D 287) lw)
    (kk : ∀ D', Rx D D' → Rw (D' 287) (dayL lw ng nr dr (V, 0)).1 nt ng nr (nlV (dayL lw ng nr dr (V, 0)).1) → Iv (dayL lw ng nr dr (V, 0)).1 nt ng nr (nlV (dayL lw ng nr dr (V, 0)).1) → Q (.inl (some (.int (Int32.ofNat (dayL lw ng nr dr (V, 0)).2)))) (mk sh D') c s) :
    Wx (tP nx xs) (d + 11) 262 0 [some (.ref 286), (some (.int (bo (!dr)))), none, none] [] (mk sh D) c s Q := by
  have hng := i_ng6 I
  have h5 : 5 < 2050 := by decide
  simp only [b262_0 hw]
  refine up_P (W := fun i (z : sD × Nat) D => Wx (tP nx xs) (d + 11) 262 4 [some (.ref 286), (some (.int (bo (!dr)))), (some (.int (Int32.ofNat z.2))), (some (.int (Int32.ofNat i)))] [] (mk sh D) c s Q) (P := fun _ z D' => Rx D D' ∧ Rw (D' 287) z.1 nt ng nr (nlV z.1) ∧ Iv z.1 nt ng nr (nlV z.1)) (F := goL lw ng nr dr) ng ?_ (V, 0) D ⟨Rx.rf, by rw [nlV_of I]; exact R, I.nl⟩ ?_
  · intro i z D1 hi ⟨r1, R1, I1⟩ k
    have hL1 := r1.rl hL
    rw [b262_4 hw]
    simp only [b262_9 hw, b262_18 hw, mI_thrown HS, mF_thrown HS, mR_row HS, mR_image HS, mR_earlier HS, mR_trial HS, mR_acts HS, mI_hasImage HS, mF_hasImage HS, mI_remembered HS, mF_remembered HS, mR_tape HS, mI_taped HS, mF_taped HS, mI_point HS, mF_point HS, mI_end HS, mF_end HS, mI_begin HS, mF_begin HS, mI_deep HS, mF_deep HS, mI_faultAt HS, mF_faultAt HS, mR_five HS, mI_codes HS, mF_codes HS, mR_value HS, mI_so HS, mF_so HS, mR_lines HS, mR_chosen HS, mR_best HS, mR_members HS, mR_paired HS, mO HS, mA_287 HS, mW_287 HS, mA_288 HS, mW_288 HS, mA_289 HS, mW_289 HS, mA_290 HS, mW_290 HS, mA_291 HS, mW_291 HS, mA_292 HS, mW_292 HS, mA_293 HS, mW_293 HS, mA_294 HS, mW_294 HS, mA_295 HS, mW_295 HS, mA_296 HS, mW_296 HS, mA_297 HS, mW_297 HS, mA_298 HS, mW_298 HS, mA_299 HS, mW_299 HS, wi_some, or_0, or_1, bo_or, ite_boP, true_and, and_true, kN_v, kN_n, kT_v, kT_n, kT_e, Nat.add_zero, Nat.zero_add, k198 hw HS, r_ng R1, oN_lt (show i < 2147483648 by omega) (show ng < 2147483648 by omega), hi, if_true, k207 hw HS R1 hng hi]
    obtain ⟨V1, w⟩ := z
    simp only at *
    by_cases hb : V1 12 i = -1
    · simp only [hb, not_true_eq_false, decide_false, Bool.false_eq_true, if_false]
      refine k261 hw HS R1 I1 hL1 hi hb ?_ goL_le
      intro D2 r2 R2
      have I2 := (goL_ok (dr := dr) (z := (V1, 0)) hL1.N I1 hi).1
      have k := fun h => k D2 ⟨r1.tr r2, h⟩
      rw [goL_sh] at k
      have k := k ⟨R2, I2⟩
      have hle := goL_le (lw := lw) (ng := ng) (nr := nr) (g := i) (dr := dr) (V := V1)
      simp only [b262_27 hw, b262_34 hw, b262_35 hw, wi_some, or_0, or_1, bo_or, ite_boP, true_and, and_true, kN_v, kN_n, kT_v, kT_n, kT_e, Nat.add_zero, Nat.zero_add]
      generalize goL lw ng nr dr i (V1, 0) = z2 at *
      obtain ⟨V2, w2⟩ := z2
      simp only at *
      rcases (show w2 = 0 ∨ w2 = 1 by omega) with e | e <;> subst e
      · simp only [if_true, oN_add] at k ⊢; exact k
      · simp only [show ¬ (Int32.ofNat 1 : Int32) = Int32.ofNat 0 by decide, if_false, oN_add] at k ⊢; exact k
    · have e : goL lw ng nr dr i (V1, w) = (V1, w) := by unfold goL; rw [if_neg hb]
      rw [e] at k
      simp only [hb, not_false_eq_true, decide_true, if_true, b262_34 hw, b262_35 hw, oN_add, Nat.add_zero]
      exact k D1 ⟨r1, R1, I1⟩
  · intro D1 ⟨r1, R1, I1⟩
    rw [b262_4 hw]
    simp only [b262_9 hw, b262_63 hw, mI_thrown HS, mF_thrown HS, mR_row HS, mR_image HS, mR_earlier HS, mR_trial HS, mR_acts HS, mI_hasImage HS, mF_hasImage HS, mI_remembered HS, mF_remembered HS, mR_tape HS, mI_taped HS, mF_taped HS, mI_point HS, mF_point HS, mI_end HS, mF_end HS, mI_begin HS, mF_begin HS, mI_deep HS, mF_deep HS, mI_faultAt HS, mF_faultAt HS, mR_five HS, mI_codes HS, mF_codes HS, mR_value HS, mI_so HS, mF_so HS, mR_lines HS, mR_chosen HS, mR_best HS, mR_members HS, mR_paired HS, mO HS, mA_287 HS, mW_287 HS, mA_288 HS, mW_288 HS, mA_289 HS, mW_289 HS, mA_290 HS, mW_290 HS, mA_291 HS, mW_291 HS, mA_292 HS, mW_292 HS, mA_293 HS, mW_293 HS, mA_294 HS, mW_294 HS, mA_295 HS, mW_295 HS, mA_296 HS, mW_296 HS, mA_297 HS, mW_297 HS, mA_298 HS, mW_298 HS, mA_299 HS, mW_299 HS, wi_some, or_0, or_1, bo_or, ite_boP, true_and, and_true, kN_v, kN_n, kT_v, kT_n, kT_e, Nat.add_zero, Nat.zero_add, k198 hw HS, r_ng R1, oN_lt (show ng < 2147483648 by omega) (show ng < 2147483648 by omega), Nat.lt_irrefl, if_false, h5, tn5, r_day R1]
    have I2 := Iv_0 (x := mn (Int32.ofNat 9999) ((fo (goL lw ng nr dr) ng 0 (V, 0)).1 0 15 + Int32.ofNat 1)) (k := 15) I1 (by decide) (by decide) (by decide)
    refine kk _ (r1.st (by decide) (by decide)) ?_ I2.nl
    have R2 : Rw (u2 D1 287 5 (mn (Int32.ofNat 9999) ((fo (goL lw ng nr dr) ng 0 (V, 0)).1 0 15 + Int32.ofNat 1)) 287) (u2 (fo (goL lw ng nr dr) ng 0 (V, 0)).1 0 15 (mn (Int32.ofNat 9999) ((fo (goL lw ng nr dr) ng 0 (V, 0)).1 0 15 + Int32.ofNat 1))) nt ng nr (nlV (fo (goL lw ng nr dr) ng 0 (V, 0)).1) := Rw_day R1 (fun i hi => by simp [u2_at, hi]) (by simp [u2_at])
    have e : nlV (dayL lw ng nr dr (V, 0)).1 = nlV (fo (goL lw ng nr dr) ng 0 (V, 0)).1 := by simp [dayL, nlV, u2_at]
    rw [e]
    exact R2
theorem k263 {dr : Bool} {n : Nat} (hw : WT sh) (HS : SP sh) (R : Rw (D 287) V nt ng nr nl) (I : Iv V nt ng nr nl) (hL : Rl (D 287) lw) (hn : n ≤ 60)
    (kk : ∀ D', Rx D D' → Rw (D' 287) (daysL lw ng nr dr n (V, 0)).1 nt ng nr (nlV (daysL lw ng nr dr n (V, 0)).1) → Iv (daysL lw ng nr dr n (V, 0)).1 nt ng nr (nlV (daysL lw ng nr dr n (V, 0)).1) → Q (.inl (some (.int (Int32.ofNat (daysL lw ng nr dr n (V, 0)).2)))) (mk sh D') c s) :
    Wx (tP nx xs) (d + 12) 263 0 [some (.ref 286), (some (.int (Int32.ofNat n))), (some (.int (bo (!dr)))), none, none] [] (mk sh D) c s Q := by
  simp only [b263_0 hw]
  refine up_P (W := fun i (z : sD × Nat) D => Wx (tP nx xs) (d + 12) 263 5 [some (.ref 286), (some (.int (Int32.ofNat n))), (some (.int (bo (!dr)))), (some (.int (Int32.ofNat z.2))), (some (.int (Int32.ofNat i)))] [] (mk sh D) c s Q) (P := fun _ z D' => Rx D D' ∧ Rw (D' 287) z.1 nt ng nr (nlV z.1) ∧ Iv z.1 nt ng nr (nlV z.1)) (F := fun _ => dayL lw ng nr dr) n ?_ (V, 0) D ⟨Rx.rf, by rw [nlV_of I]; exact R, I.nl⟩ ?_
  · intro i z D1 hi ⟨r1, R1, I1⟩ k
    obtain ⟨V1, w⟩ := z
    simp only at *
    rw [b263_5 hw]
    simp only [mI_thrown HS, mF_thrown HS, mR_row HS, mR_image HS, mR_earlier HS, mR_trial HS, mR_acts HS, mI_hasImage HS, mF_hasImage HS, mI_remembered HS, mF_remembered HS, mR_tape HS, mI_taped HS, mF_taped HS, mI_point HS, mF_point HS, mI_end HS, mF_end HS, mI_begin HS, mF_begin HS, mI_deep HS, mF_deep HS, mI_faultAt HS, mF_faultAt HS, mR_five HS, mI_codes HS, mF_codes HS, mR_value HS, mI_so HS, mF_so HS, mR_lines HS, mR_chosen HS, mR_best HS, mR_members HS, mR_paired HS, mO HS, mA_287 HS, mW_287 HS, mA_288 HS, mW_288 HS, mA_289 HS, mW_289 HS, mA_290 HS, mW_290 HS, mA_291 HS, mW_291 HS, mA_292 HS, mW_292 HS, mA_293 HS, mW_293 HS, mA_294 HS, mW_294 HS, mA_295 HS, mW_295 HS, mA_296 HS, mW_296 HS, mA_297 HS, mW_297 HS, mA_298 HS, mW_298 HS, mA_299 HS, mW_299 HS, wi_some, or_0, or_1, bo_or, ite_boP, true_and, and_true, kN_v, kN_n, kT_v, kT_n, kT_e, Nat.add_zero, Nat.zero_add, oN_lt (show i < 2147483648 by omega) (show n < 2147483648 by omega), hi, if_true]
    refine k262 hw HS R1 I1 (r1.rl hL) ?_
    intro D2 r2 R2 I2
    have k := fun h => k D2 ⟨r1.tr r2, h⟩
    rw [dayL_sh] at k
    have k := k ⟨R2, I2⟩
    simp only [b263_17 hw, wi_some, or_0, or_1, bo_or, ite_boP, true_and, and_true, kN_v, kN_n, kT_v, kT_n, kT_e, Nat.add_zero, Nat.zero_add, oN_add]
    exact k
  · intro D1 ⟨r1, R1, I1⟩
    rw [b263_5 hw]
    simp only [oN_lt (show n < 2147483648 by omega) (show n < 2147483648 by omega), Nat.lt_irrefl, if_false]
    exact kk D1 r1 R1 I1
end C49
