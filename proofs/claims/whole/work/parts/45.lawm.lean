/-! ===== THE LAW in the reference ===== -/
def rcS (x : Int32) : Int32 := if x < Int32.ofNat 1000 then Int32.ofNat 10 else if x < Int32.ofNat 1010 then x - Int32.ofNat 1000 else x - Int32.ofNat 999
def Rl (r : Nat → Int32) (lw : LW) : Prop := match lw with
  | none => r 4 = Int32.ofNat 0
  | some (n, K, A, C, e) => r 4 = Int32.ofNat 1 ∧ r 352 = Int32.ofNat n ∧ n ≤ 12 ∧ e 0 = 0 ∧ (∀ j, j < n → r (353 + 4 * j) = K j ∧ (K j = Int32.ofNat 2 → A j = Int32.ofNat 1) ∧ (¬ K j = Int32.ofNat 2 → r (353 + 4 * j + 1) = A j) ∧ r (353 + 4 * j + 2) = Int32.ofNat (e j) ∧ r (353 + 4 * j + 3) = Int32.ofNat (e (j + 1)) ∧ WfL C (e j) (e (j + 1))) ∧ (∀ j i, j < n → e j ≤ i → i < e (j + 1) → r (401 + 2 * i) = rcS (C i) ∧ (C i < Int32.ofNat 1000 → r (401 + 2 * i + 1) = C i)) ∧ ∀ j, j < n → ∃ q, q ≤ 200 ∧ A j = Int32.ofNat q
section C45
variable {nx : Nat} {xs : Nat → Int32} {d c s : Nat} {sh : List sC} {D : sD} {Q : av_Q}
variable {V : sD} {nt ng nr nl g t : Nat} {lw : LW}
theorem r_wish0 {r : Nat → Int32} (h : Rw r V nt ng nr nl) {t : Nat} (ht : t < ng) : r (48 + 9 * t) = V 6 t := r_wish h ht
theorem r_at0 {r : Nat → Int32} (h : Rw r V nt ng nr nl) {t : Nat} (ht : t < nt) : r (8 + 5 * t) = V 2 t := r_at h ht
theorem r_halts0 {r : Nat → Int32} (h : Rw r V nt ng nr nl) {t : Nat} (ht : t < nr) : r (102 + 2 * t) = V 13 t := r_halts h ht
theorem rid_n (hn : ng ≤ 6) (t : Int32) : bc (ridS V ng t) = Int32.ofNat (nS (fun g => decide (V 12 g = t)) ng) := bc_bs _ (by omega)
theorem k209 {t : Int32} (hw : WT sh) (HS : SP sh) (R : Rw (D 287) V nt ng nr nl) (hn : ng ≤ 6) (ht : ¬ t = -1) : Wx (tP nx xs) (d + 3) 209 0 [some (.ref 286), (some (.int (t))), none, none] [] (mk sh D) c s Q = Q (.inl (some (.int (bc (ridS V ng t))))) (mk sh D) c s := by
  rw [rid_n hn]
  simp only [b209_0 hw]
  refine (up_loop (W := fun i (x : Nat) => Wx (tP nx xs) (d + 3) 209 4 [some (.ref 286), (some (.int (t))), (some (.int (Int32.ofNat x))), (some (.int (Int32.ofNat i)))] [] (mk sh D) c s Q) (F := fun g x => if decide (V 12 g = t) then x + 1 else x) ng (fun i x hi => ?_) 0).trans ?_
  · have hi6 : i < 6 := by omega
    have h8 : 8 < 11 := by decide
    rw [b209_4 hw]
    simp only [b209_0 hw, b209_9 hw, b209_18 hw, b209_28 hw, b209_36 hw, b209_37 hw, wi_some, or_0, or_1, bo_or, ite_boP, true_and, and_true, kN_v, kN_n, kT_v, kT_n, kT_e, Nat.add_zero, Nat.zero_add, mI_thrown HS, mF_thrown HS, mR_row HS, mR_image HS, mR_earlier HS, mR_trial HS, mR_acts HS, mI_hasImage HS, mF_hasImage HS, mI_remembered HS, mF_remembered HS, mR_tape HS, mI_taped HS, mF_taped HS, mI_point HS, mF_point HS, mI_end HS, mF_end HS, mI_begin HS, mF_begin HS, mI_deep HS, mF_deep HS, mI_faultAt HS, mF_faultAt HS, mR_five HS, mI_codes HS, mF_codes HS, mR_value HS, mI_so HS, mF_so HS, mR_lines HS, mR_chosen HS, mR_best HS, mR_members HS, mR_paired HS, mO HS, mA_287 HS, mW_287 HS, mA_288 HS, mW_288 HS, mA_289 HS, mW_289 HS, mA_290 HS, mW_290 HS, mA_291 HS, mW_291 HS, mA_292 HS, mW_292 HS, mA_293 HS, mW_293 HS, mA_294 HS, mW_294 HS, mA_295 HS, mW_295 HS, mA_296 HS, mW_296 HS, mA_297 HS, mW_297 HS, mA_298 HS, mW_298 HS, mA_299 HS, mW_299 HS, k198 hw HS, k207 hw HS R hn hi, k203 hw HS hi6 h8, r_ng R, r_by R hi, oN_lt (show i < 2147483648 by omega) (show ng < 2147483648 by omega), hi, if_true, oN_add]
    by_cases h : V 12 i = t
    · have h2 : ¬ V 12 i = -1 := fun e => ht (h.symm.trans e)
      simp only [h, ht, decide_true, not_false_eq_true, if_true, oN_add]
    · by_cases h2 : V 12 i = -1
      · have h3 : ¬ (-1 : Int32) = t := fun e => ht e.symm
        simp only [h2, h3, decide_true, decide_false, not_true_eq_false, Bool.false_eq_true, if_false, oN_add, Nat.add_zero]
      · simp only [h, h2, decide_true, decide_false, not_false_eq_true, if_true, Bool.false_eq_true, if_false, oN_add, Nat.add_zero]
  · rw [b209_4 hw]
    simp only [b209_0 hw, b209_9 hw, b209_18 hw, b209_28 hw, b209_36 hw, b209_37 hw, wi_some, or_0, or_1, bo_or, ite_boP, true_and, and_true, kN_v, kN_n, kT_v, kT_n, kT_e, Nat.add_zero, Nat.zero_add, mI_thrown HS, mF_thrown HS, mR_row HS, mR_image HS, mR_earlier HS, mR_trial HS, mR_acts HS, mI_hasImage HS, mF_hasImage HS, mI_remembered HS, mF_remembered HS, mR_tape HS, mI_taped HS, mF_taped HS, mI_point HS, mF_point HS, mI_end HS, mF_end HS, mI_begin HS, mF_begin HS, mI_deep HS, mF_deep HS, mI_faultAt HS, mF_faultAt HS, mR_five HS, mI_codes HS, mF_codes HS, mR_value HS, mI_so HS, mF_so HS, mR_lines HS, mR_chosen HS, mR_best HS, mR_members HS, mR_paired HS, mO HS, mA_287 HS, mW_287 HS, mA_288 HS, mW_288 HS, mA_289 HS, mW_289 HS, mA_290 HS, mW_290 HS, mA_291 HS, mW_291 HS, mA_292 HS, mW_292 HS, mA_293 HS, mW_293 HS, mA_294 HS, mW_294 HS, mA_295 HS, mW_295 HS, mA_296 HS, mW_296 HS, mA_297 HS, mW_297 HS, mA_298 HS, mW_298 HS, mA_299 HS, mW_299 HS, k198 hw HS, r_ng R, oN_lt (show ng < 2147483648 by omega) (show ng < 2147483648 by omega), Nat.lt_irrefl, if_false]
    rfl
theorem k249 {x n' : Int32} (hw : WT sh) (HS : SP sh) (R : Rw (D 287) V nt ng nr nl) (I : Iv V nt ng nr nl) (hg : g < ng) (ht : t < nr) (hx : x < Int32.ofNat 1010) (hn' : x < Int32.ofNat 1000 → n' = x) : Wx (tP nx xs) (d + 4) 249 0 [some (.ref 286), (some (.int (rcS x))), (some (.int (n'))), (some (.int (Int32.ofNat g))), (some (.int (Int32.ofNat t)))] [] (mk sh D) c s Q = Q (.inl (some (.int (if x < Int32.ofNat 1000 then x else facV V ng g t (x - Int32.ofNat 1000).toNatClampNeg)))) (mk sh D) c s := by
  have hng := i_ng6 I
  have hnr := i_nr5 I
  have hg6 : g < 6 := by omega
  have ht5 : t < 5 := by omega
  have ht1 : ¬ Int32.ofNat t = -1 := by rw [oN_ne1 (by omega)]; exact id
  unfold rcS
  by_cases h : x < Int32.ofNat 1000
  · simp only [h, if_true, b249_0 hw]
    have e1 : Int32.toInt (Int32.ofNat 10) < 0 ∨ 9 < Int32.toInt (Int32.ofNat 10) := by decide
    simp only [e1, if_true, b249_153 hw, hn' h]
  · simp only [h, if_false, hx, if_true]
    obtain ⟨k, hk, _, e1, e2⟩ := fact_ix hx h
    rw [e2, e1, b249_0 hw]
    have h0 : 0 < 11 := by decide
    have h1 : 1 < 11 := by decide
    have h3 : 3 < 11 := by decide
    have h4 : 4 < 11 := by decide
    have h5 : 5 < 11 := by decide
    have h1' : 1 < 4 := by decide
    have h5r : 5 < 2050 := by decide
    rcases (show k = 0 ∨ k = 1 ∨ k = 2 ∨ k = 3 ∨ k = 4 ∨ k = 5 ∨ k = 6 ∨ k = 7 ∨ k = 8 ∨ k = 9 by omega) with e | e | e | e | e | e | e | e | e | e <;> subst e
    · have e3 : ¬ (Int32.toInt (Int32.ofNat 0) < 0 ∨ 9 < Int32.toInt (Int32.ofNat 0)) := by decide
      simp only [e3, if_false]
      show Wx (tP nx xs) (d + 4) 249 56 _ _ _ _ _ _ = _
      simp only [b249_56 hw, b249_58 hw, b249_64 hw, b249_65 hw, b249_71 hw, b249_72 hw, b249_78 hw, b249_79 hw, b249_82 hw, b249_88 hw, b249_89 hw, b249_99 hw, b249_105 hw, b249_114 hw, b249_115 hw, b249_121 hw, b249_130 hw, b249_131 hw, b249_137 hw, b249_144 hw, b249_152 hw, b249_153 hw, wi_some, or_0, or_1, bo_or, ite_boP, true_and, and_true, kN_v, kN_n, kT_v, kT_n, kT_e, Nat.add_zero, Nat.zero_add, mI_thrown HS, mF_thrown HS, mR_row HS, mR_image HS, mR_earlier HS, mR_trial HS, mR_acts HS, mI_hasImage HS, mF_hasImage HS, mI_remembered HS, mF_remembered HS, mR_tape HS, mI_taped HS, mF_taped HS, mI_point HS, mF_point HS, mI_end HS, mF_end HS, mI_begin HS, mF_begin HS, mI_deep HS, mF_deep HS, mI_faultAt HS, mF_faultAt HS, mR_five HS, mI_codes HS, mF_codes HS, mR_value HS, mI_so HS, mF_so HS, mR_lines HS, mR_chosen HS, mR_best HS, mR_members HS, mR_paired HS, mO HS, mA_287 HS, mW_287 HS, mA_288 HS, mW_288 HS, mA_289 HS, mW_289 HS, mA_290 HS, mW_290 HS, mA_291 HS, mW_291 HS, mA_292 HS, mW_292 HS, mA_293 HS, mW_293 HS, mA_294 HS, mW_294 HS, mA_295 HS, mW_295 HS, mA_296 HS, mW_296 HS, mA_297 HS, mW_297 HS, mA_298 HS, mW_298 HS, mA_299 HS, mW_299 HS, k203 hw HS hg6 h0, k203 hw HS hg6 h1, k203 hw HS hg6 h3, k203 hw HS hg6 h4, k203 hw HS hg6 h5, k205 hw HS ht5 h1', k209 hw HS R hng ht1, h5r, r_wish0 R hg, r_money R hg, r_nerve R hg, r_born R hg, r_deed R hg, r_seats R ht, r_day R]
      rfl
    · have e3 : ¬ (Int32.toInt (Int32.ofNat 1) < 0 ∨ 9 < Int32.toInt (Int32.ofNat 1)) := by decide
      simp only [e3, if_false]
      show Wx (tP nx xs) (d + 4) 249 58 _ _ _ _ _ _ = _
      simp only [b249_56 hw, b249_58 hw, b249_64 hw, b249_65 hw, b249_71 hw, b249_72 hw, b249_78 hw, b249_79 hw, b249_82 hw, b249_88 hw, b249_89 hw, b249_99 hw, b249_105 hw, b249_114 hw, b249_115 hw, b249_121 hw, b249_130 hw, b249_131 hw, b249_137 hw, b249_144 hw, b249_152 hw, b249_153 hw, wi_some, or_0, or_1, bo_or, ite_boP, true_and, and_true, kN_v, kN_n, kT_v, kT_n, kT_e, Nat.add_zero, Nat.zero_add, mI_thrown HS, mF_thrown HS, mR_row HS, mR_image HS, mR_earlier HS, mR_trial HS, mR_acts HS, mI_hasImage HS, mF_hasImage HS, mI_remembered HS, mF_remembered HS, mR_tape HS, mI_taped HS, mF_taped HS, mI_point HS, mF_point HS, mI_end HS, mF_end HS, mI_begin HS, mF_begin HS, mI_deep HS, mF_deep HS, mI_faultAt HS, mF_faultAt HS, mR_five HS, mI_codes HS, mF_codes HS, mR_value HS, mI_so HS, mF_so HS, mR_lines HS, mR_chosen HS, mR_best HS, mR_members HS, mR_paired HS, mO HS, mA_287 HS, mW_287 HS, mA_288 HS, mW_288 HS, mA_289 HS, mW_289 HS, mA_290 HS, mW_290 HS, mA_291 HS, mW_291 HS, mA_292 HS, mW_292 HS, mA_293 HS, mW_293 HS, mA_294 HS, mW_294 HS, mA_295 HS, mW_295 HS, mA_296 HS, mW_296 HS, mA_297 HS, mW_297 HS, mA_298 HS, mW_298 HS, mA_299 HS, mW_299 HS, k203 hw HS hg6 h0, k203 hw HS hg6 h1, k203 hw HS hg6 h3, k203 hw HS hg6 h4, k203 hw HS hg6 h5, k205 hw HS ht5 h1', k209 hw HS R hng ht1, h5r, r_wish0 R hg, r_money R hg, r_nerve R hg, r_born R hg, r_deed R hg, r_seats R ht, r_day R]
      rfl
    · have e3 : ¬ (Int32.toInt (Int32.ofNat 2) < 0 ∨ 9 < Int32.toInt (Int32.ofNat 2)) := by decide
      simp only [e3, if_false]
      show Wx (tP nx xs) (d + 4) 249 65 _ _ _ _ _ _ = _
      simp only [b249_56 hw, b249_58 hw, b249_64 hw, b249_65 hw, b249_71 hw, b249_72 hw, b249_78 hw, b249_79 hw, b249_82 hw, b249_88 hw, b249_89 hw, b249_99 hw, b249_105 hw, b249_114 hw, b249_115 hw, b249_121 hw, b249_130 hw, b249_131 hw, b249_137 hw, b249_144 hw, b249_152 hw, b249_153 hw, wi_some, or_0, or_1, bo_or, ite_boP, true_and, and_true, kN_v, kN_n, kT_v, kT_n, kT_e, Nat.add_zero, Nat.zero_add, mI_thrown HS, mF_thrown HS, mR_row HS, mR_image HS, mR_earlier HS, mR_trial HS, mR_acts HS, mI_hasImage HS, mF_hasImage HS, mI_remembered HS, mF_remembered HS, mR_tape HS, mI_taped HS, mF_taped HS, mI_point HS, mF_point HS, mI_end HS, mF_end HS, mI_begin HS, mF_begin HS, mI_deep HS, mF_deep HS, mI_faultAt HS, mF_faultAt HS, mR_five HS, mI_codes HS, mF_codes HS, mR_value HS, mI_so HS, mF_so HS, mR_lines HS, mR_chosen HS, mR_best HS, mR_members HS, mR_paired HS, mO HS, mA_287 HS, mW_287 HS, mA_288 HS, mW_288 HS, mA_289 HS, mW_289 HS, mA_290 HS, mW_290 HS, mA_291 HS, mW_291 HS, mA_292 HS, mW_292 HS, mA_293 HS, mW_293 HS, mA_294 HS, mW_294 HS, mA_295 HS, mW_295 HS, mA_296 HS, mW_296 HS, mA_297 HS, mW_297 HS, mA_298 HS, mW_298 HS, mA_299 HS, mW_299 HS, k203 hw HS hg6 h0, k203 hw HS hg6 h1, k203 hw HS hg6 h3, k203 hw HS hg6 h4, k203 hw HS hg6 h5, k205 hw HS ht5 h1', k209 hw HS R hng ht1, h5r, r_wish0 R hg, r_money R hg, r_nerve R hg, r_born R hg, r_deed R hg, r_seats R ht, r_day R]
      rfl
    · have e3 : ¬ (Int32.toInt (Int32.ofNat 3) < 0 ∨ 9 < Int32.toInt (Int32.ofNat 3)) := by decide
      simp only [e3, if_false]
      show Wx (tP nx xs) (d + 4) 249 72 _ _ _ _ _ _ = _
      simp only [b249_56 hw, b249_58 hw, b249_64 hw, b249_65 hw, b249_71 hw, b249_72 hw, b249_78 hw, b249_79 hw, b249_82 hw, b249_88 hw, b249_89 hw, b249_99 hw, b249_105 hw, b249_114 hw, b249_115 hw, b249_121 hw, b249_130 hw, b249_131 hw, b249_137 hw, b249_144 hw, b249_152 hw, b249_153 hw, wi_some, or_0, or_1, bo_or, ite_boP, true_and, and_true, kN_v, kN_n, kT_v, kT_n, kT_e, Nat.add_zero, Nat.zero_add, mI_thrown HS, mF_thrown HS, mR_row HS, mR_image HS, mR_earlier HS, mR_trial HS, mR_acts HS, mI_hasImage HS, mF_hasImage HS, mI_remembered HS, mF_remembered HS, mR_tape HS, mI_taped HS, mF_taped HS, mI_point HS, mF_point HS, mI_end HS, mF_end HS, mI_begin HS, mF_begin HS, mI_deep HS, mF_deep HS, mI_faultAt HS, mF_faultAt HS, mR_five HS, mI_codes HS, mF_codes HS, mR_value HS, mI_so HS, mF_so HS, mR_lines HS, mR_chosen HS, mR_best HS, mR_members HS, mR_paired HS, mO HS, mA_287 HS, mW_287 HS, mA_288 HS, mW_288 HS, mA_289 HS, mW_289 HS, mA_290 HS, mW_290 HS, mA_291 HS, mW_291 HS, mA_292 HS, mW_292 HS, mA_293 HS, mW_293 HS, mA_294 HS, mW_294 HS, mA_295 HS, mW_295 HS, mA_296 HS, mW_296 HS, mA_297 HS, mW_297 HS, mA_298 HS, mW_298 HS, mA_299 HS, mW_299 HS, k203 hw HS hg6 h0, k203 hw HS hg6 h1, k203 hw HS hg6 h3, k203 hw HS hg6 h4, k203 hw HS hg6 h5, k205 hw HS ht5 h1', k209 hw HS R hng ht1, h5r, r_wish0 R hg, r_money R hg, r_nerve R hg, r_born R hg, r_deed R hg, r_seats R ht, r_day R]
      rfl
    · have e3 : ¬ (Int32.toInt (Int32.ofNat 4) < 0 ∨ 9 < Int32.toInt (Int32.ofNat 4)) := by decide
      simp only [e3, if_false]
      show Wx (tP nx xs) (d + 4) 249 79 _ _ _ _ _ _ = _
      simp only [b249_56 hw, b249_58 hw, b249_64 hw, b249_65 hw, b249_71 hw, b249_72 hw, b249_78 hw, b249_79 hw, b249_82 hw, b249_88 hw, b249_89 hw, b249_99 hw, b249_105 hw, b249_114 hw, b249_115 hw, b249_121 hw, b249_130 hw, b249_131 hw, b249_137 hw, b249_144 hw, b249_152 hw, b249_153 hw, wi_some, or_0, or_1, bo_or, ite_boP, true_and, and_true, kN_v, kN_n, kT_v, kT_n, kT_e, Nat.add_zero, Nat.zero_add, mI_thrown HS, mF_thrown HS, mR_row HS, mR_image HS, mR_earlier HS, mR_trial HS, mR_acts HS, mI_hasImage HS, mF_hasImage HS, mI_remembered HS, mF_remembered HS, mR_tape HS, mI_taped HS, mF_taped HS, mI_point HS, mF_point HS, mI_end HS, mF_end HS, mI_begin HS, mF_begin HS, mI_deep HS, mF_deep HS, mI_faultAt HS, mF_faultAt HS, mR_five HS, mI_codes HS, mF_codes HS, mR_value HS, mI_so HS, mF_so HS, mR_lines HS, mR_chosen HS, mR_best HS, mR_members HS, mR_paired HS, mO HS, mA_287 HS, mW_287 HS, mA_288 HS, mW_288 HS, mA_289 HS, mW_289 HS, mA_290 HS, mW_290 HS, mA_291 HS, mW_291 HS, mA_292 HS, mW_292 HS, mA_293 HS, mW_293 HS, mA_294 HS, mW_294 HS, mA_295 HS, mW_295 HS, mA_296 HS, mW_296 HS, mA_297 HS, mW_297 HS, mA_298 HS, mW_298 HS, mA_299 HS, mW_299 HS, k203 hw HS hg6 h0, k203 hw HS hg6 h1, k203 hw HS hg6 h3, k203 hw HS hg6 h4, k203 hw HS hg6 h5, k205 hw HS ht5 h1', k209 hw HS R hng ht1, h5r, r_wish0 R hg, r_money R hg, r_nerve R hg, r_born R hg, r_deed R hg, r_seats R ht, r_day R]
      rfl
    · have e3 : ¬ (Int32.toInt (Int32.ofNat 5) < 0 ∨ 9 < Int32.toInt (Int32.ofNat 5)) := by decide
      simp only [e3, if_false]
      show Wx (tP nx xs) (d + 4) 249 82 _ _ _ _ _ _ = _
      simp only [b249_56 hw, b249_58 hw, b249_64 hw, b249_65 hw, b249_71 hw, b249_72 hw, b249_78 hw, b249_79 hw, b249_82 hw, b249_88 hw, b249_89 hw, b249_99 hw, b249_105 hw, b249_114 hw, b249_115 hw, b249_121 hw, b249_130 hw, b249_131 hw, b249_137 hw, b249_144 hw, b249_152 hw, b249_153 hw, wi_some, or_0, or_1, bo_or, ite_boP, true_and, and_true, kN_v, kN_n, kT_v, kT_n, kT_e, Nat.add_zero, Nat.zero_add, mI_thrown HS, mF_thrown HS, mR_row HS, mR_image HS, mR_earlier HS, mR_trial HS, mR_acts HS, mI_hasImage HS, mF_hasImage HS, mI_remembered HS, mF_remembered HS, mR_tape HS, mI_taped HS, mF_taped HS, mI_point HS, mF_point HS, mI_end HS, mF_end HS, mI_begin HS, mF_begin HS, mI_deep HS, mF_deep HS, mI_faultAt HS, mF_faultAt HS, mR_five HS, mI_codes HS, mF_codes HS, mR_value HS, mI_so HS, mF_so HS, mR_lines HS, mR_chosen HS, mR_best HS, mR_members HS, mR_paired HS, mO HS, mA_287 HS, mW_287 HS, mA_288 HS, mW_288 HS, mA_289 HS, mW_289 HS, mA_290 HS, mW_290 HS, mA_291 HS, mW_291 HS, mA_292 HS, mW_292 HS, mA_293 HS, mW_293 HS, mA_294 HS, mW_294 HS, mA_295 HS, mW_295 HS, mA_296 HS, mW_296 HS, mA_297 HS, mW_297 HS, mA_298 HS, mW_298 HS, mA_299 HS, mW_299 HS, k203 hw HS hg6 h0, k203 hw HS hg6 h1, k203 hw HS hg6 h3, k203 hw HS hg6 h4, k203 hw HS hg6 h5, k205 hw HS ht5 h1', k209 hw HS R hng ht1, h5r, r_wish0 R hg, r_money R hg, r_nerve R hg, r_born R hg, r_deed R hg, r_seats R ht, r_day R]
      rfl
    · have e3 : ¬ (Int32.toInt (Int32.ofNat 6) < 0 ∨ 9 < Int32.toInt (Int32.ofNat 6)) := by decide
      simp only [e3, if_false]
      show Wx (tP nx xs) (d + 4) 249 89 _ _ _ _ _ _ = _
      simp only [b249_56 hw, b249_58 hw, b249_64 hw, b249_65 hw, b249_71 hw, b249_72 hw, b249_78 hw, b249_79 hw, b249_82 hw, b249_88 hw, b249_89 hw, b249_99 hw, b249_105 hw, b249_114 hw, b249_115 hw, b249_121 hw, b249_130 hw, b249_131 hw, b249_137 hw, b249_144 hw, b249_152 hw, b249_153 hw, wi_some, or_0, or_1, bo_or, ite_boP, true_and, and_true, kN_v, kN_n, kT_v, kT_n, kT_e, Nat.add_zero, Nat.zero_add, mI_thrown HS, mF_thrown HS, mR_row HS, mR_image HS, mR_earlier HS, mR_trial HS, mR_acts HS, mI_hasImage HS, mF_hasImage HS, mI_remembered HS, mF_remembered HS, mR_tape HS, mI_taped HS, mF_taped HS, mI_point HS, mF_point HS, mI_end HS, mF_end HS, mI_begin HS, mF_begin HS, mI_deep HS, mF_deep HS, mI_faultAt HS, mF_faultAt HS, mR_five HS, mI_codes HS, mF_codes HS, mR_value HS, mI_so HS, mF_so HS, mR_lines HS, mR_chosen HS, mR_best HS, mR_members HS, mR_paired HS, mO HS, mA_287 HS, mW_287 HS, mA_288 HS, mW_288 HS, mA_289 HS, mW_289 HS, mA_290 HS, mW_290 HS, mA_291 HS, mW_291 HS, mA_292 HS, mW_292 HS, mA_293 HS, mW_293 HS, mA_294 HS, mW_294 HS, mA_295 HS, mW_295 HS, mA_296 HS, mW_296 HS, mA_297 HS, mW_297 HS, mA_298 HS, mW_298 HS, mA_299 HS, mW_299 HS, k203 hw HS hg6 h0, k203 hw HS hg6 h1, k203 hw HS hg6 h3, k203 hw HS hg6 h4, k203 hw HS hg6 h5, k205 hw HS ht5 h1', k209 hw HS R hng ht1, h5r, r_wish0 R hg, r_money R hg, r_nerve R hg, r_born R hg, r_deed R hg, r_seats R ht, r_day R]
      rfl
    · have e3 : ¬ (Int32.toInt (Int32.ofNat 7) < 0 ∨ 9 < Int32.toInt (Int32.ofNat 7)) := by decide
      simp only [e3, if_false]
      show Wx (tP nx xs) (d + 4) 249 99 _ _ _ _ _ _ = _
      simp only [b249_56 hw, b249_58 hw, b249_64 hw, b249_65 hw, b249_71 hw, b249_72 hw, b249_78 hw, b249_79 hw, b249_82 hw, b249_88 hw, b249_89 hw, b249_99 hw, b249_105 hw, b249_114 hw, b249_115 hw, b249_121 hw, b249_130 hw, b249_131 hw, b249_137 hw, b249_144 hw, b249_152 hw, b249_153 hw, wi_some, or_0, or_1, bo_or, ite_boP, true_and, and_true, kN_v, kN_n, kT_v, kT_n, kT_e, Nat.add_zero, Nat.zero_add, mI_thrown HS, mF_thrown HS, mR_row HS, mR_image HS, mR_earlier HS, mR_trial HS, mR_acts HS, mI_hasImage HS, mF_hasImage HS, mI_remembered HS, mF_remembered HS, mR_tape HS, mI_taped HS, mF_taped HS, mI_point HS, mF_point HS, mI_end HS, mF_end HS, mI_begin HS, mF_begin HS, mI_deep HS, mF_deep HS, mI_faultAt HS, mF_faultAt HS, mR_five HS, mI_codes HS, mF_codes HS, mR_value HS, mI_so HS, mF_so HS, mR_lines HS, mR_chosen HS, mR_best HS, mR_members HS, mR_paired HS, mO HS, mA_287 HS, mW_287 HS, mA_288 HS, mW_288 HS, mA_289 HS, mW_289 HS, mA_290 HS, mW_290 HS, mA_291 HS, mW_291 HS, mA_292 HS, mW_292 HS, mA_293 HS, mW_293 HS, mA_294 HS, mW_294 HS, mA_295 HS, mW_295 HS, mA_296 HS, mW_296 HS, mA_297 HS, mW_297 HS, mA_298 HS, mW_298 HS, mA_299 HS, mW_299 HS, k203 hw HS hg6 h0, k203 hw HS hg6 h1, k203 hw HS hg6 h3, k203 hw HS hg6 h4, k203 hw HS hg6 h5, k205 hw HS ht5 h1', k209 hw HS R hng ht1, h5r, r_wish0 R hg, r_money R hg, r_nerve R hg, r_born R hg, r_deed R hg, r_seats R ht, r_day R]
      show _ = Q (.inl (some (.int (bo (decide (¬ V 8 g = -1)))))) _ _ _
      by_cases h : V 8 g = -1
      · simp only [h, if_true, not_true_eq_false, decide_false, bo_f]
      · simp only [h, if_false, not_false_eq_true, decide_true, bo_t]
    · have e3 : ¬ (Int32.toInt (Int32.ofNat 8) < 0 ∨ 9 < Int32.toInt (Int32.ofNat 8)) := by decide
      simp only [e3, if_false]
      show Wx (tP nx xs) (d + 4) 249 115 _ _ _ _ _ _ = _
      simp only [b249_56 hw, b249_58 hw, b249_64 hw, b249_65 hw, b249_71 hw, b249_72 hw, b249_78 hw, b249_79 hw, b249_82 hw, b249_88 hw, b249_89 hw, b249_99 hw, b249_105 hw, b249_114 hw, b249_115 hw, b249_121 hw, b249_130 hw, b249_131 hw, b249_137 hw, b249_144 hw, b249_152 hw, b249_153 hw, wi_some, or_0, or_1, bo_or, ite_boP, true_and, and_true, kN_v, kN_n, kT_v, kT_n, kT_e, Nat.add_zero, Nat.zero_add, mI_thrown HS, mF_thrown HS, mR_row HS, mR_image HS, mR_earlier HS, mR_trial HS, mR_acts HS, mI_hasImage HS, mF_hasImage HS, mI_remembered HS, mF_remembered HS, mR_tape HS, mI_taped HS, mF_taped HS, mI_point HS, mF_point HS, mI_end HS, mF_end HS, mI_begin HS, mF_begin HS, mI_deep HS, mF_deep HS, mI_faultAt HS, mF_faultAt HS, mR_five HS, mI_codes HS, mF_codes HS, mR_value HS, mI_so HS, mF_so HS, mR_lines HS, mR_chosen HS, mR_best HS, mR_members HS, mR_paired HS, mO HS, mA_287 HS, mW_287 HS, mA_288 HS, mW_288 HS, mA_289 HS, mW_289 HS, mA_290 HS, mW_290 HS, mA_291 HS, mW_291 HS, mA_292 HS, mW_292 HS, mA_293 HS, mW_293 HS, mA_294 HS, mW_294 HS, mA_295 HS, mW_295 HS, mA_296 HS, mW_296 HS, mA_297 HS, mW_297 HS, mA_298 HS, mW_298 HS, mA_299 HS, mW_299 HS, k203 hw HS hg6 h0, k203 hw HS hg6 h1, k203 hw HS hg6 h3, k203 hw HS hg6 h4, k203 hw HS hg6 h5, k205 hw HS ht5 h1', k209 hw HS R hng ht1, h5r, r_wish0 R hg, r_money R hg, r_nerve R hg, r_born R hg, r_deed R hg, r_seats R ht, r_day R]
      show _ = Q (.inl (some (.int (bo (decide (¬ V 7 g = -1)))))) _ _ _
      by_cases h : V 7 g = -1
      · simp only [h, if_true, not_true_eq_false, decide_false, bo_f]
      · simp only [h, if_false, not_false_eq_true, decide_true, bo_t]
    · have e3 : ¬ (Int32.toInt (Int32.ofNat 9) < 0 ∨ 9 < Int32.toInt (Int32.ofNat 9)) := by decide
      simp only [e3, if_false]
      show Wx (tP nx xs) (d + 4) 249 131 _ _ _ _ _ _ = _
      simp only [b249_56 hw, b249_58 hw, b249_64 hw, b249_65 hw, b249_71 hw, b249_72 hw, b249_78 hw, b249_79 hw, b249_82 hw, b249_88 hw, b249_89 hw, b249_99 hw, b249_105 hw, b249_114 hw, b249_115 hw, b249_121 hw, b249_130 hw, b249_131 hw, b249_137 hw, b249_144 hw, b249_152 hw, b249_153 hw, wi_some, or_0, or_1, bo_or, ite_boP, true_and, and_true, kN_v, kN_n, kT_v, kT_n, kT_e, Nat.add_zero, Nat.zero_add, mI_thrown HS, mF_thrown HS, mR_row HS, mR_image HS, mR_earlier HS, mR_trial HS, mR_acts HS, mI_hasImage HS, mF_hasImage HS, mI_remembered HS, mF_remembered HS, mR_tape HS, mI_taped HS, mF_taped HS, mI_point HS, mF_point HS, mI_end HS, mF_end HS, mI_begin HS, mF_begin HS, mI_deep HS, mF_deep HS, mI_faultAt HS, mF_faultAt HS, mR_five HS, mI_codes HS, mF_codes HS, mR_value HS, mI_so HS, mF_so HS, mR_lines HS, mR_chosen HS, mR_best HS, mR_members HS, mR_paired HS, mO HS, mA_287 HS, mW_287 HS, mA_288 HS, mW_288 HS, mA_289 HS, mW_289 HS, mA_290 HS, mW_290 HS, mA_291 HS, mW_291 HS, mA_292 HS, mW_292 HS, mA_293 HS, mW_293 HS, mA_294 HS, mW_294 HS, mA_295 HS, mW_295 HS, mA_296 HS, mW_296 HS, mA_297 HS, mW_297 HS, mA_298 HS, mW_298 HS, mA_299 HS, mW_299 HS, k203 hw HS hg6 h0, k203 hw HS hg6 h1, k203 hw HS hg6 h3, k203 hw HS hg6 h4, k203 hw HS hg6 h5, k205 hw HS ht5 h1', k209 hw HS R hng ht1, h5r, r_wish0 R hg, r_money R hg, r_nerve R hg, r_born R hg, r_deed R hg, r_seats R ht, r_day R]
      show _ = Q (.inl (some (.int (bo (decide (¬ bc (ridS V ng (Int32.ofNat t)) < V 14 t)))))) _ _ _
      by_cases h : bc (ridS V ng (Int32.ofNat t)) < V 14 t
      · simp only [h, if_true, not_true_eq_false, decide_false, bo_f]
      · simp only [h, if_false, not_false_eq_true, decide_true, bo_t]
set_option maxRecDepth 4000 in
theorem k250_loop {j e0 e1 : Nat} {C : Nat → Int32} {D0 : sD} (hw : WT sh) (HS : SP sh) (R : Rw (D0 287) V nt ng nr nl) (I : Iv V nt ng nr nl) (hg : g < ng) (ht : t < nr) (hj : j < 12) (he : e1 ≤ 400) (hend : D0 287 (353 + 4 * j + 3) = Int32.ofNat e1) (hC : ∀ i, e0 ≤ i → i < e1 → D0 287 (401 + 2 * i) = rcS (C i) ∧ (C i < Int32.ofNat 1000 → D0 287 (401 + 2 * i + 1) = C i)) :
    ∀ (k i : Nat) (l : List Int32) (ts ts' : List Bool) (D : sD) (l7 l8 l9 l10 : Option Value), i + k = e1 → e0 ≤ i → tyR C k i ts = some ts' → tyOk l ts → ts.length ≤ 32 → stR (D 294) l → Ex 294 D0 D →
    (∀ D' l7 l8 l9 l10, Ex 294 D0 D' → stR (D' 294) (evR C (facV V ng g t) k i l) → tyOk (evR C (facV V ng g t) k i l) ts' → Wx (tP nx xs) (d + 5) 250 23 [some (.ref 286), (some (.int (Int32.ofNat j))), (some (.int (Int32.ofNat g))), (some (.int (Int32.ofNat t))), (some (.int (Int32.ofNat (evR C (facV V ng g t) k i l).length))), (some (.int (Int32.ofNat (353 + 4 * j)))), (some (.int (Int32.ofNat e1))), l7, l8, l9, l10] [] (mk sh D') c s Q) →
    Wx (tP nx xs) (d + 5) 250 23 [some (.ref 286), (some (.int (Int32.ofNat j))), (some (.int (Int32.ofNat g))), (some (.int (Int32.ofNat t))), (some (.int (Int32.ofNat l.length))), (some (.int (Int32.ofNat (353 + 4 * j)))), (some (.int (Int32.ofNat i))), l7, l8, l9, l10] [] (mk sh D) c s Q := by
  intro k
  induction k with
  | zero =>
    intro i l ts ts' D l7 l8 l9 l10 hik _ hty hok hlen hst hex kk
    have e : i = e1 := by omega
    subst e
    simp only [tyR, Option.some.injEq] at hty
    subst hty
    exact kk D l7 l8 l9 l10 hex hst hok
  | succ k ih =>
    intro i l ts ts' D l7 l8 l9 l10 hik hi0 hty hok hlen hst hex kk
    have hit : i < e1 := by omega
    simp only [tyR] at hty
    split at hty
    · next ts1 h1 =>
      have hok1 := ty1_ok (facV_B (V := V) (ng := ng) (g := g) (t := t)) h1 hok
      have hl := tyOk_len _ _ hok
      have hl1 : ts1.length ≤ 32 := by rcases ty1_len h1 with h | h <;> omega
      have ih := fun D l7 l8 l9 l10 hst hex => ih (i + 1) (stk1 (facV V ng g t) (C i) l) ts1 ts' D l7 l8 l9 l10 (by omega) (by omega) hty hok1 hl1 hst hex kk
      have e7 : D 287 = D0 287 := hex _ (by decide)
      obtain ⟨c1', c2'⟩ := hC i hi0 hit
      have b1 : 353 + 4 * j + 3 < 2050 := by omega
      have b2 : 401 + 2 * i < 2050 := by omega
      have b3 : 401 + 2 * i + 1 < 2050 := by omega
      rw [b250_23 hw]
      simp only [mI_thrown HS, mF_thrown HS, mR_row HS, mR_image HS, mR_earlier HS, mR_trial HS, mR_acts HS, mI_hasImage HS, mF_hasImage HS, mI_remembered HS, mF_remembered HS, mR_tape HS, mI_taped HS, mF_taped HS, mI_point HS, mF_point HS, mI_end HS, mF_end HS, mI_begin HS, mF_begin HS, mI_deep HS, mF_deep HS, mI_faultAt HS, mF_faultAt HS, mR_five HS, mI_codes HS, mF_codes HS, mR_value HS, mI_so HS, mF_so HS, mR_lines HS, mR_chosen HS, mR_best HS, mR_members HS, mR_paired HS, mO HS, mA_287 HS, mW_287 HS, mA_288 HS, mW_288 HS, mA_289 HS, mW_289 HS, mA_290 HS, mW_290 HS, mA_291 HS, mW_291 HS, mA_292 HS, mW_292 HS, mA_293 HS, mW_293 HS, mA_294 HS, mW_294 HS, mA_295 HS, mW_295 HS, mA_296 HS, mW_296 HS, mA_297 HS, mW_297 HS, mA_298 HS, mW_298 HS, mA_299 HS, mW_299 HS, wi_some, or_0, or_1, bo_or, ite_boP, true_and, and_true, kN_v, kN_n, kT_v, kT_n, kT_e, Nat.add_zero, Nat.zero_add, oN_add, oN_mul, b1, b2, b3, e7, hend, oN_lt (show i < 2147483648 by omega) (show e1 < 2147483648 by omega), hit, if_true, c1']
      generalize hx : C i = x at *
      by_cases c1 : x < Int32.ofNat 1010
      · have hn : l.length < 32 := by
          unfold ty1 at h1
          simp only [c1, if_true] at h1
          by_cases hq : ts.length < 32
          · omega
          · simp only [hq, if_false] at h1; cases h1
        have hn4 : l.length < 400 := by omega
        have hc : ¬ Int32.ofNat 10 < rcS x := by
          unfold rcS
          by_cases h : x < Int32.ofNat 1000
          · rw [if_pos h]; decide
          · obtain ⟨k', hk', _, e1', _⟩ := fact_ix c1 h
            rw [if_neg h, if_pos c1, e1', oN_lt (by decide) (by omega)]
            omega
        simp only [hc, if_false]
        rw [k249 hw HS (by rw [e7]; exact R) I hg ht c1 c2']
        simp only [b250_88 hw, b250_89 hw, b250_265 hw, mI_thrown HS, mF_thrown HS, mR_row HS, mR_image HS, mR_earlier HS, mR_trial HS, mR_acts HS, mI_hasImage HS, mF_hasImage HS, mI_remembered HS, mF_remembered HS, mR_tape HS, mI_taped HS, mF_taped HS, mI_point HS, mF_point HS, mI_end HS, mF_end HS, mI_begin HS, mF_begin HS, mI_deep HS, mF_deep HS, mI_faultAt HS, mF_faultAt HS, mR_five HS, mI_codes HS, mF_codes HS, mR_value HS, mI_so HS, mF_so HS, mR_lines HS, mR_chosen HS, mR_best HS, mR_members HS, mR_paired HS, mO HS, mA_287 HS, mW_287 HS, mA_288 HS, mW_288 HS, mA_289 HS, mW_289 HS, mA_290 HS, mW_290 HS, mA_291 HS, mW_291 HS, mA_292 HS, mW_292 HS, mA_293 HS, mW_293 HS, mA_294 HS, mW_294 HS, mA_295 HS, mW_295 HS, mA_296 HS, mW_296 HS, mA_297 HS, mW_297 HS, mA_298 HS, mW_298 HS, mA_299 HS, mW_299 HS, wi_some, or_0, or_1, bo_or, ite_boP, true_and, and_true, kN_v, kN_n, kT_v, kT_n, kT_e, Nat.add_zero, Nat.zero_add, hn4, oN_tn (show l.length < 2147483648 by omega), oN_add]
        have e : stk1 (facV V ng g t) x l = (if x < Int32.ofNat 1000 then x else facV V ng g t (x - Int32.ofNat 1000).toNatClampNeg) :: l := by unfold stk1; rw [if_pos c1]
        rw [e] at ih
        exact ih _ _ l8 l9 l10 ⟨by simp [u2_self], stR_of l hst fun j hj => by rw [u2_self, if_neg (by omega)]⟩ hex.st
      · rcases sgn_cases h1 with h | ⟨q, hq1, hq2, hq3⟩
        · exact absurd h c1
        have hrc : rcS x = Int32.ofNat (q - 999) := by
          have h2 : ¬ x < Int32.ofNat 1000 := by rw [hq3, oN_lt (by omega) (by decide)]; omega
          unfold rcS
          rw [if_neg h2, if_neg c1, hq3]
          exact oN_sub (by omega)
        rw [hrc]
        have c10 : Int32.ofNat 10 < Int32.ofNat (q - 999) := by rw [oN_lt (by decide) (by omega)]; omega
        simp only [c10, if_true]
        have hq13 : q = 1013 ∨ ¬ q = 1013 := by omega
        cases hq13 with
        | inl hq13 =>
          have c2 : x = Int32.ofNat 1013 := by rw [hq3, hq13]
          have e14 : q - 999 = 14 := by omega
          simp only [e14, if_true]
          rcases l with _ | ⟨b, l⟩
          · exfalso
            rcases ts with _ | ⟨a, ts⟩
            · unfold ty1 at h1; rw [if_neg c1, if_pos c2] at h1; cases h1
            · exact hok.elim
          · have hn : l.length < 400 := by simp at hl; omega
            have hS : D 294 l.length = b := hst.1
            simp only [List.length_cons, oN_m1', hn, mI_thrown HS, mF_thrown HS, mR_row HS, mR_image HS, mR_earlier HS, mR_trial HS, mR_acts HS, mI_hasImage HS, mF_hasImage HS, mI_remembered HS, mF_remembered HS, mR_tape HS, mI_taped HS, mF_taped HS, mI_point HS, mF_point HS, mI_end HS, mF_end HS, mI_begin HS, mF_begin HS, mI_deep HS, mF_deep HS, mI_faultAt HS, mF_faultAt HS, mR_five HS, mI_codes HS, mF_codes HS, mR_value HS, mI_so HS, mF_so HS, mR_lines HS, mR_chosen HS, mR_best HS, mR_members HS, mR_paired HS, mO HS, mA_287 HS, mW_287 HS, mA_288 HS, mW_288 HS, mA_289 HS, mW_289 HS, mA_290 HS, mW_290 HS, mA_291 HS, mW_291 HS, mA_292 HS, mW_292 HS, mA_293 HS, mW_293 HS, mA_294 HS, mW_294 HS, mA_295 HS, mW_295 HS, mA_296 HS, mW_296 HS, mA_297 HS, mW_297 HS, mA_298 HS, mW_298 HS, mA_299 HS, mW_299 HS, wi_some, or_0, or_1, bo_or, ite_boP, true_and, and_true, kN_v, kN_n, kT_v, kT_n, kT_e, Nat.add_zero, Nat.zero_add, hS, b250_122 hw, b250_265 hw, oN_tn (show l.length < 2147483648 by omega), oN_add]
            have e : stk1 (facV V ng g t) x (b :: l) = (Int32.ofNat 1 - b) :: l := by unfold stk1; rw [if_neg c1, if_pos c2]
            rw [e] at ih
            exact ih _ _ l8 l9 l10 ⟨by simp [u2_self], stR_of l hst.2 fun j hj => by rw [u2_self, if_neg (by omega)]⟩ hex.st
        | inr hq13 =>
          have q13 : q ≠ 1013 := hq13
          have c2 : ¬ x = Int32.ofNat 1013 := by rw [hq3, oN_eq (by omega) (by decide)]; exact hq13
          have n14 : ¬ Int32.ofNat (q - 999) = Int32.ofNat 14 := by rw [oN_eq (by omega) (by decide)]; omega
          simp only [n14, if_false]
          rcases l with _ | ⟨b, _ | ⟨a, l⟩⟩
          · exfalso
            unfold ty1 at h1
            simp only [c1, c2, if_false] at h1
            rcases ts with _ | ⟨t1, ts⟩
            · by_cases a1 : x = Int32.ofNat 1010 <;> by_cases a2 : x = Int32.ofNat 1011 ∨ x = Int32.ofNat 1012 <;> by_cases a3 : x = Int32.ofNat 1014 ∨ x = Int32.ofNat 1015 <;> simp only [a1, a2, a3, if_true, if_false] at h1 <;> cases h1
            · exact hok.elim
          · exfalso
            unfold ty1 at h1
            simp only [c1, c2, if_false] at h1
            rcases ts with _ | ⟨t1, _ | ⟨t2, ts⟩⟩
            · exact hok.elim
            · by_cases a1 : x = Int32.ofNat 1010 <;> by_cases a2 : x = Int32.ofNat 1011 ∨ x = Int32.ofNat 1012 <;> by_cases a3 : x = Int32.ofNat 1014 ∨ x = Int32.ofNat 1015 <;> cases t1 <;> simp only [a1, a2, a3, if_true, if_false] at h1 <;> cases h1
            · exact hok.2.elim
          · have hn1 : l.length + 1 < 400 := by simp at hl; omega
            have hn : l.length < 400 := by omega
            have hS : D 294 (l.length + 1) = b := by simpa using hst.1
            have hS2 : D 294 l.length = a := hst.2.1
            have e : stk1 (facV V ng g t) x (b :: a :: l) = bop x a b :: l := by unfold stk1; rw [if_neg c1, if_neg c2]
            rw [e] at ih
            have key : ∀ v x6 x8 x9 x10, bop x a b = v → Wx (tP nx xs) (d + 5) 250 264 [some (.ref 286), (some (.int (Int32.ofNat j))), (some (.int (Int32.ofNat g))), (some (.int (Int32.ofNat t))), (some (.int (Int32.ofNat (l.length + 1)))), (some (.int (Int32.ofNat (353 + 4 * j)))), (some (.int (Int32.ofNat i))), (some (.int (x6))), (some (.int (x8))), (some (.int (x9))), (some (.int (x10)))] [.int v, .int (Int32.ofNat l.length), .ref 294] (mk sh D) c s Q := by
              intro v x6 x8 x9 x10 hv
              simp only [b250_264 hw, b250_265 hw, mI_thrown HS, mF_thrown HS, mR_row HS, mR_image HS, mR_earlier HS, mR_trial HS, mR_acts HS, mI_hasImage HS, mF_hasImage HS, mI_remembered HS, mF_remembered HS, mR_tape HS, mI_taped HS, mF_taped HS, mI_point HS, mF_point HS, mI_end HS, mF_end HS, mI_begin HS, mF_begin HS, mI_deep HS, mF_deep HS, mI_faultAt HS, mF_faultAt HS, mR_five HS, mI_codes HS, mF_codes HS, mR_value HS, mI_so HS, mF_so HS, mR_lines HS, mR_chosen HS, mR_best HS, mR_members HS, mR_paired HS, mO HS, mA_287 HS, mW_287 HS, mA_288 HS, mW_288 HS, mA_289 HS, mW_289 HS, mA_290 HS, mW_290 HS, mA_291 HS, mW_291 HS, mA_292 HS, mW_292 HS, mA_293 HS, mW_293 HS, mA_294 HS, mW_294 HS, mA_295 HS, mW_295 HS, mA_296 HS, mW_296 HS, mA_297 HS, mW_297 HS, mA_298 HS, mW_298 HS, mA_299 HS, mW_299 HS, wi_some, or_0, or_1, bo_or, ite_boP, true_and, and_true, kN_v, kN_n, kT_v, kT_n, kT_e, Nat.add_zero, Nat.zero_add, hn, oN_tn (show l.length < 2147483648 by omega), oN_add]
              rw [hv] at ih
              exact ih _ _ _ _ _ ⟨by simp [u2_self], stR_of l hst.2.2 fun j hj => by rw [u2_self, if_neg (by omega)]⟩ hex.st
            simp only [List.length_cons, oN_m1', oN_m1, hn, hn1, mI_thrown HS, mF_thrown HS, mR_row HS, mR_image HS, mR_earlier HS, mR_trial HS, mR_acts HS, mI_hasImage HS, mF_hasImage HS, mI_remembered HS, mF_remembered HS, mR_tape HS, mI_taped HS, mF_taped HS, mI_point HS, mF_point HS, mI_end HS, mF_end HS, mI_begin HS, mF_begin HS, mI_deep HS, mF_deep HS, mI_faultAt HS, mF_faultAt HS, mR_five HS, mI_codes HS, mF_codes HS, mR_value HS, mI_so HS, mF_so HS, mR_lines HS, mR_chosen HS, mR_best HS, mR_members HS, mR_paired HS, mO HS, mA_287 HS, mW_287 HS, mA_288 HS, mW_288 HS, mA_289 HS, mW_289 HS, mA_290 HS, mW_290 HS, mA_291 HS, mW_291 HS, mA_292 HS, mW_292 HS, mA_293 HS, mW_293 HS, mA_294 HS, mW_294 HS, mA_295 HS, mW_295 HS, mA_296 HS, mW_296 HS, mA_297 HS, mW_297 HS, mA_298 HS, mW_298 HS, mA_299 HS, mW_299 HS, wi_some, or_0, or_1, bo_or, ite_boP, true_and, and_true, kN_v, kN_n, kT_v, kT_n, kT_e, Nat.add_zero, Nat.zero_add, hS, hS2]
            have hb01 : (x = Int32.ofNat 1014 ∨ x = Int32.ofNat 1015) → (a = Int32.ofNat 0 ∨ a = Int32.ofNat 1) ∧ (b = Int32.ofNat 0 ∨ b = Int32.ofNat 1) := by
              intro h3
              have a1 : ¬ x = Int32.ofNat 1010 := by intro h; rcases h3 with h3 | h3 <;> rw [h3] at h <;> revert h <;> decide
              have a2 : ¬ (x = Int32.ofNat 1011 ∨ x = Int32.ofNat 1012) := by intro h; rcases h3 with h3 | h3 <;> rw [h3] at h <;> revert h <;> decide
              unfold ty1 at h1
              rcases ts with _ | ⟨t1, _ | ⟨t2, ts⟩⟩
              · exact hok.elim
              · exact hok.2.elim
              · simp only [c1, c2, a1, a2, h3, if_false, if_true] at h1
                cases t1 <;> cases t2 <;> simp at h1
                exact ⟨hok.2.1 rfl, hok.1 rfl⟩
            have hq : q = 1010 ∨ q = 1011 ∨ q = 1012 ∨ q = 1014 ∨ q = 1015 := by omega
            cases hq with
            | inl e =>
              rw [e] at hq3 ⊢; subst hq3
              simp only [show (1010 - 999) = 11 from rfl, show ¬ (Int32.ofNat 11 : Int32) = Int32.ofNat 12 by decide, show ¬ (Int32.ofNat 11 : Int32) = Int32.ofNat 13 by decide, show ¬ (Int32.ofNat 11 : Int32) = Int32.ofNat 15 by decide, show ¬ (Int32.ofNat 11 : Int32) = Int32.ofNat 14 by decide, if_true, if_false, b250_229 hw, mI_thrown HS, mF_thrown HS, mR_row HS, mR_image HS, mR_earlier HS, mR_trial HS, mR_acts HS, mI_hasImage HS, mF_hasImage HS, mI_remembered HS, mF_remembered HS, mR_tape HS, mI_taped HS, mF_taped HS, mI_point HS, mF_point HS, mI_end HS, mF_end HS, mI_begin HS, mF_begin HS, mI_deep HS, mF_deep HS, mI_faultAt HS, mF_faultAt HS, mR_five HS, mI_codes HS, mF_codes HS, mR_value HS, mI_so HS, mF_so HS, mR_lines HS, mR_chosen HS, mR_best HS, mR_members HS, mR_paired HS, mO HS, mA_287 HS, mW_287 HS, mA_288 HS, mW_288 HS, mA_289 HS, mW_289 HS, mA_290 HS, mW_290 HS, mA_291 HS, mW_291 HS, mA_292 HS, mW_292 HS, mA_293 HS, mW_293 HS, mA_294 HS, mW_294 HS, mA_295 HS, mW_295 HS, mA_296 HS, mW_296 HS, mA_297 HS, mW_297 HS, mA_298 HS, mW_298 HS, mA_299 HS, mW_299 HS, wi_some, or_0, or_1, bo_or, ite_boP, true_and, and_true, kN_v, kN_n, kT_v, kT_n, kT_e, Nat.add_zero, Nat.zero_add, oN_m1']
              by_cases h : Int32.ofNat 0 < a + b
              · simp only [h, if_true]; exact key _ _ _ _ _ rfl
              · simp only [h, if_false]; exact key _ _ _ _ _ rfl
            | inr hq =>
            cases hq with
            | inl e =>
              rw [e] at hq3 ⊢; subst hq3
              simp only [show (1011 - 999) = 12 from rfl, show ¬ (Int32.ofNat 12 : Int32) = Int32.ofNat 11 by decide, show ¬ (Int32.ofNat 12 : Int32) = Int32.ofNat 13 by decide, show ¬ (Int32.ofNat 12 : Int32) = Int32.ofNat 15 by decide, show ¬ (Int32.ofNat 12 : Int32) = Int32.ofNat 14 by decide, if_true, if_false, b250_229 hw, mI_thrown HS, mF_thrown HS, mR_row HS, mR_image HS, mR_earlier HS, mR_trial HS, mR_acts HS, mI_hasImage HS, mF_hasImage HS, mI_remembered HS, mF_remembered HS, mR_tape HS, mI_taped HS, mF_taped HS, mI_point HS, mF_point HS, mI_end HS, mF_end HS, mI_begin HS, mF_begin HS, mI_deep HS, mF_deep HS, mI_faultAt HS, mF_faultAt HS, mR_five HS, mI_codes HS, mF_codes HS, mR_value HS, mI_so HS, mF_so HS, mR_lines HS, mR_chosen HS, mR_best HS, mR_members HS, mR_paired HS, mO HS, mA_287 HS, mW_287 HS, mA_288 HS, mW_288 HS, mA_289 HS, mW_289 HS, mA_290 HS, mW_290 HS, mA_291 HS, mW_291 HS, mA_292 HS, mW_292 HS, mA_293 HS, mW_293 HS, mA_294 HS, mW_294 HS, mA_295 HS, mW_295 HS, mA_296 HS, mW_296 HS, mA_297 HS, mW_297 HS, mA_298 HS, mW_298 HS, mA_299 HS, mW_299 HS, wi_some, or_0, or_1, bo_or, ite_boP, true_and, and_true, kN_v, kN_n, kT_v, kT_n, kT_e, Nat.add_zero, Nat.zero_add, oN_m1']
              by_cases h : a < b
              · simp only [h, if_true, show ¬ (Int32.ofNat 1 : Int32) = Int32.ofNat 0 by decide, if_false]; exact key _ _ _ _ _ (show bo (decide (a < b)) = _ by simp only [h, decide_true, bo_t])
              · simp only [h, if_false, if_true]; exact key _ _ _ _ _ (show bo (decide (a < b)) = _ by simp only [h, decide_false, bo_f])
            | inr hq =>
            cases hq with
            | inl e =>
              rw [e] at hq3 ⊢; subst hq3
              simp only [show (1012 - 999) = 13 from rfl, show ¬ (Int32.ofNat 13 : Int32) = Int32.ofNat 11 by decide, show ¬ (Int32.ofNat 13 : Int32) = Int32.ofNat 12 by decide, show ¬ (Int32.ofNat 13 : Int32) = Int32.ofNat 15 by decide, show ¬ (Int32.ofNat 13 : Int32) = Int32.ofNat 14 by decide, if_true, if_false, b250_229 hw, mI_thrown HS, mF_thrown HS, mR_row HS, mR_image HS, mR_earlier HS, mR_trial HS, mR_acts HS, mI_hasImage HS, mF_hasImage HS, mI_remembered HS, mF_remembered HS, mR_tape HS, mI_taped HS, mF_taped HS, mI_point HS, mF_point HS, mI_end HS, mF_end HS, mI_begin HS, mF_begin HS, mI_deep HS, mF_deep HS, mI_faultAt HS, mF_faultAt HS, mR_five HS, mI_codes HS, mF_codes HS, mR_value HS, mI_so HS, mF_so HS, mR_lines HS, mR_chosen HS, mR_best HS, mR_members HS, mR_paired HS, mO HS, mA_287 HS, mW_287 HS, mA_288 HS, mW_288 HS, mA_289 HS, mW_289 HS, mA_290 HS, mW_290 HS, mA_291 HS, mW_291 HS, mA_292 HS, mW_292 HS, mA_293 HS, mW_293 HS, mA_294 HS, mW_294 HS, mA_295 HS, mW_295 HS, mA_296 HS, mW_296 HS, mA_297 HS, mW_297 HS, mA_298 HS, mW_298 HS, mA_299 HS, mW_299 HS, wi_some, or_0, or_1, bo_or, ite_boP, true_and, and_true, kN_v, kN_n, kT_v, kT_n, kT_e, Nat.add_zero, Nat.zero_add, oN_m1']
              by_cases h : b < a
              · simp only [h, if_true, show ¬ (Int32.ofNat 1 : Int32) = Int32.ofNat 0 by decide, if_false]; exact key _ _ _ _ _ (show bo (decide (b < a)) = _ by simp only [h, decide_true, bo_t])
              · simp only [h, if_false, if_true]; exact key _ _ _ _ _ (show bo (decide (b < a)) = _ by simp only [h, decide_false, bo_f])
            | inr hq =>
            cases hq with
            | inl e =>
              rw [e] at hq3 ⊢; subst hq3
              obtain ⟨ha, hb⟩ := hb01 (Or.inl rfl)
              simp only [show (1014 - 999) = 15 from rfl, show ¬ (Int32.ofNat 15 : Int32) = Int32.ofNat 11 by decide, show ¬ (Int32.ofNat 15 : Int32) = Int32.ofNat 12 by decide, show ¬ (Int32.ofNat 15 : Int32) = Int32.ofNat 13 by decide, show ¬ (Int32.ofNat 15 : Int32) = Int32.ofNat 14 by decide, if_true, if_false, b250_229 hw, mI_thrown HS, mF_thrown HS, mR_row HS, mR_image HS, mR_earlier HS, mR_trial HS, mR_acts HS, mI_hasImage HS, mF_hasImage HS, mI_remembered HS, mF_remembered HS, mR_tape HS, mI_taped HS, mF_taped HS, mI_point HS, mF_point HS, mI_end HS, mF_end HS, mI_begin HS, mF_begin HS, mI_deep HS, mF_deep HS, mI_faultAt HS, mF_faultAt HS, mR_five HS, mI_codes HS, mF_codes HS, mR_value HS, mI_so HS, mF_so HS, mR_lines HS, mR_chosen HS, mR_best HS, mR_members HS, mR_paired HS, mO HS, mA_287 HS, mW_287 HS, mA_288 HS, mW_288 HS, mA_289 HS, mW_289 HS, mA_290 HS, mW_290 HS, mA_291 HS, mW_291 HS, mA_292 HS, mW_292 HS, mA_293 HS, mW_293 HS, mA_294 HS, mW_294 HS, mA_295 HS, mW_295 HS, mA_296 HS, mW_296 HS, mA_297 HS, mW_297 HS, mA_298 HS, mW_298 HS, mA_299 HS, mW_299 HS, wi_some, or_0, or_1, bo_or, ite_boP, true_and, and_true, kN_v, kN_n, kT_v, kT_n, kT_e, Nat.add_zero, Nat.zero_add, oN_m1']
              rcases ha with ha | ha <;> rcases hb with hb | hb <;> subst ha <;> subst hb
              · exact key _ _ _ _ _ (by decide)
              · exact key _ _ _ _ _ (by decide)
              · exact key _ _ _ _ _ (by decide)
              · exact key _ _ _ _ _ (by decide)
            | inr e =>
              rw [e] at hq3 ⊢; subst hq3
              obtain ⟨ha, hb⟩ := hb01 (Or.inr rfl)
              simp only [show (1015 - 999) = 16 from rfl, show ¬ (Int32.ofNat 16 : Int32) = Int32.ofNat 11 by decide, show ¬ (Int32.ofNat 16 : Int32) = Int32.ofNat 12 by decide, show ¬ (Int32.ofNat 16 : Int32) = Int32.ofNat 13 by decide, show ¬ (Int32.ofNat 16 : Int32) = Int32.ofNat 15 by decide, show ¬ (Int32.ofNat 16 : Int32) = Int32.ofNat 14 by decide, if_true, if_false, b250_229 hw, mI_thrown HS, mF_thrown HS, mR_row HS, mR_image HS, mR_earlier HS, mR_trial HS, mR_acts HS, mI_hasImage HS, mF_hasImage HS, mI_remembered HS, mF_remembered HS, mR_tape HS, mI_taped HS, mF_taped HS, mI_point HS, mF_point HS, mI_end HS, mF_end HS, mI_begin HS, mF_begin HS, mI_deep HS, mF_deep HS, mI_faultAt HS, mF_faultAt HS, mR_five HS, mI_codes HS, mF_codes HS, mR_value HS, mI_so HS, mF_so HS, mR_lines HS, mR_chosen HS, mR_best HS, mR_members HS, mR_paired HS, mO HS, mA_287 HS, mW_287 HS, mA_288 HS, mW_288 HS, mA_289 HS, mW_289 HS, mA_290 HS, mW_290 HS, mA_291 HS, mW_291 HS, mA_292 HS, mW_292 HS, mA_293 HS, mW_293 HS, mA_294 HS, mW_294 HS, mA_295 HS, mW_295 HS, mA_296 HS, mW_296 HS, mA_297 HS, mW_297 HS, mA_298 HS, mW_298 HS, mA_299 HS, mW_299 HS, wi_some, or_0, or_1, bo_or, ite_boP, true_and, and_true, kN_v, kN_n, kT_v, kT_n, kT_e, Nat.add_zero, Nat.zero_add, oN_m1']
              rcases ha with ha | ha <;> rcases hb with hb | hb <;> subst ha <;> subst hb
              · exact key _ _ _ _ _ (by decide)
              · exact key _ _ _ _ _ (by decide)
              · exact key _ _ _ _ _ (by decide)
              · exact key _ _ _ _ _ (by decide)
    · cases hty
end C45
