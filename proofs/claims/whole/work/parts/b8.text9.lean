/-! ===== texts of THE STATION: the reference reads (2) ===== -/
theorem mx_1m {x : Nat} (hx : x < 2147483648) : mx (-1) (Int32.ofNat x) = Int32.ofNat x := by
  unfold mx
  rw [if_pos]
  apply Int32.lt_iff_toInt_lt.mpr
  rw [oN_ti hx]
  have h2 : Int32.toInt (-1) = -1 := by decide
  omega
def oV (wo : Int32) (o : Option Nat) : Int32 := match o with
  | none => wo
  | some v => Int32.ofNat v
def dM (o : Option (Nat × Bool)) : Bool := match o with
  | none => false
  | some (_, m) => m
section CB8
variable {nx : Nat} {xs : Nat → Int32} {d c s : Nat} {sh : List sC} {D : sD} {Q : av_Q}
variable {b : Nat → Nat} {n p p0 nl : Nat} {S : sT}
theorem k231 (hw : WT sh) (HS : SP sh) (tb : TB b n) (rc : RC b n S nl D p) (h12 : D 286 12 = Int32.ofNat p0)
    (kf : ∀ f D', (if S.2.2.1 < 6 then goL2 b n S p else .inl p0) = .inl f → MS D D' → D' 286 12 = Int32.ofNat f → Q (.inl (some (.int (Int32.ofNat 0)))) (mk sh D') c s)
    (ky : ∀ S' p' D', (if S.2.2.1 < 6 then goL2 b n S p else .inl p0) = .inr (S', p') → MS D D' → RC b n S' nl D' p' → Q (.inl (some (.int (Int32.ofNat 1)))) (mk sh D') c s) :
    Wx (tP nx xs) (d + 5) 231 0 [some (.ref 286), none, none, none, none, none, none, none] [] (mk sh D) c s Q := by
  have I := rc.2.2
  have hnt := i_nt8 I
  have hng := i_ng6 I
  have hnr := i_nr5 I
  have hnl := i_nl60 I
  have m1lt : (-1 : Int32) < Int32.ofNat 0 := by decide
  have emo : Int32.ofNat S.2.1 - Int32.ofNat 1 = mo S.2.1 := rfl
  simp only [b231_0 hw, mI_thrown HS, mF_thrown HS, mR_row HS, mR_image HS, mR_earlier HS, mR_trial HS, mR_acts HS, mI_hasImage HS, mF_hasImage HS, mI_remembered HS, mF_remembered HS, mR_tape HS, mI_taped HS, mF_taped HS, mI_point HS, mF_point HS, mI_end HS, mF_end HS, mI_begin HS, mF_begin HS, mI_deep HS, mF_deep HS, mI_faultAt HS, mF_faultAt HS, mR_five HS, mI_codes HS, mF_codes HS, mR_value HS, mI_so HS, mF_so HS, mR_lines HS, mR_chosen HS, mR_best HS, mR_members HS, mR_paired HS, mO HS, mA_287 HS, mW_287 HS, mA_288 HS, mW_288 HS, mA_289 HS, mW_289 HS, mA_290 HS, mW_290 HS, mA_291 HS, mW_291 HS, mA_292 HS, mW_292 HS, mA_293 HS, mW_293 HS, mA_294 HS, mW_294 HS, mA_295 HS, mW_295 HS, mA_296 HS, mW_296 HS, mA_297 HS, mW_297 HS, mA_298 HS, mW_298 HS, mA_299 HS, mW_299 HS, wi_some, or_0, or_1, bo_or, ite_boP, true_and, and_true, kN_v, kN_n, kT_v, kT_n, kT_e, Nat.add_zero, Nat.zero_add, k198 hw HS, r_ng rc.2.1, b231_4 hw, oN_eq (show S.2.2.1 < 2147483648 by omega) (show 6 < 2147483648 by omega)]
  by_cases h6 : S.2.2.1 < 6
  rotate_left
  · simp only [h6, if_false] at kf
    simp only [show S.2.2.1 = 6 by omega, if_true]
    exact kf _ D rfl MS.rf h12
  simp only [h6, if_true] at kf ky
  simp only [show ¬ S.2.2.1 = 6 by omega, if_false]
  unfold goL2 at kf ky
  refine k224c (w := wTo) hw HS tb rc.1 (by decide) (by decide +kernel) (by decide +kernel) (by decide) (by decide) ?_ ?_
  · intro f D1 h g1 e1
    simp only [h] at kf
    simp only [wi_some, or_0, or_1, bo_or, ite_boP, true_and, and_true, kN_v, kN_n, kT_v, kT_n, kT_e, Nat.add_zero, Nat.zero_add, b231_22 hw, m1lt, if_true, b231_41 hw]
    exact kf f D1 rfl g1.ms e1
  intro stop p1 D1 h1 g1 t1
  have vs := bhd_v h1 rc.1.le.1
  simp only [h1] at kf ky
  simp only [wi_some, or_0, or_1, bo_or, ite_boP, true_and, and_true, kN_v, kN_n, kT_v, kT_n, kT_e, Nat.add_zero, Nat.zero_add, b231_22 hw, oN_nn (show stop < 2147483648 by omega), if_false, mI_thrown HS, mF_thrown HS, mR_row HS, mR_image HS, mR_earlier HS, mR_trial HS, mR_acts HS, mI_hasImage HS, mF_hasImage HS, mI_remembered HS, mF_remembered HS, mR_tape HS, mI_taped HS, mF_taped HS, mI_point HS, mF_point HS, mI_end HS, mF_end HS, mI_begin HS, mF_begin HS, mI_deep HS, mF_deep HS, mI_faultAt HS, mF_faultAt HS, mR_five HS, mI_codes HS, mF_codes HS, mR_value HS, mI_so HS, mF_so HS, mR_lines HS, mR_chosen HS, mR_best HS, mR_members HS, mR_paired HS, mO HS, mA_287 HS, mW_287 HS, mA_288 HS, mW_288 HS, mA_289 HS, mW_289 HS, mA_290 HS, mW_290 HS, mA_291 HS, mW_291 HS, mA_292 HS, mW_292 HS, mA_293 HS, mW_293 HS, mA_294 HS, mW_294 HS, mA_295 HS, mW_295 HS, mA_296 HS, mW_296 HS, mA_297 HS, mW_297 HS, mA_298 HS, mW_298 HS, mA_299 HS, mW_299 HS]
  refine k224c (w := wMoney) hw HS tb t1 (by decide) (by decide +kernel) (by decide +kernel) (by decide) (by decide) ?_ ?_
  · intro f D2 h g2 e2
    simp only [h] at kf
    simp only [wi_some, or_0, or_1, bo_or, ite_boP, true_and, and_true, kN_v, kN_n, kT_v, kT_n, kT_e, Nat.add_zero, Nat.zero_add, b231_41 hw, m1lt, if_true]
    exact kf f D2 rfl (g1.tr g2).ms e2
  intro mon p2 D2 h2 g2 t2
  have vm := bhd_v h2 t1.le.1
  simp only [h2] at kf ky
  simp only [wi_some, or_0, or_1, bo_or, ite_boP, true_and, and_true, kN_v, kN_n, kT_v, kT_n, kT_e, Nat.add_zero, Nat.zero_add, b231_41 hw, oN_nn (show mon < 2147483648 by omega), if_false, mI_thrown HS, mF_thrown HS, mR_row HS, mR_image HS, mR_earlier HS, mR_trial HS, mR_acts HS, mI_hasImage HS, mF_hasImage HS, mI_remembered HS, mF_remembered HS, mR_tape HS, mI_taped HS, mF_taped HS, mI_point HS, mF_point HS, mI_end HS, mF_end HS, mI_begin HS, mF_begin HS, mI_deep HS, mF_deep HS, mI_faultAt HS, mF_faultAt HS, mR_five HS, mI_codes HS, mF_codes HS, mR_value HS, mI_so HS, mF_so HS, mR_lines HS, mR_chosen HS, mR_best HS, mR_members HS, mR_paired HS, mO HS, mA_287 HS, mW_287 HS, mA_288 HS, mW_288 HS, mA_289 HS, mW_289 HS, mA_290 HS, mW_290 HS, mA_291 HS, mW_291 HS, mA_292 HS, mW_292 HS, mA_293 HS, mW_293 HS, mA_294 HS, mW_294 HS, mA_295 HS, mW_295 HS, mA_296 HS, mW_296 HS, mA_297 HS, mW_297 HS, mA_298 HS, mW_298 HS, mA_299 HS, mW_299 HS]
  refine k225c (w := wNerve) (wo := Int32.ofNat 50) hw HS tb t2 (by decide) (by decide +kernel) (by decide +kernel) (by decide) ?_ ?_
  · intro f D3 h g3 e3
    simp only [h] at kf
    simp only [wi_some, or_0, or_1, bo_or, ite_boP, true_and, and_true, kN_v, kN_n, kT_v, kT_n, kT_e, Nat.add_zero, Nat.zero_add, b231_58 hw, if_true]
    exact kf f D3 rfl ((g1.tr g2).tr g3).ms e3
  intro nv p3 D3 h3 g3 t3
  simp only [h3] at kf ky
  have env : ∃ v, v < 101 ∧ oV (Int32.ofNat 50) nv = Int32.ofNat v ∧ nv.getD 50 = v := by
    cases nv with
    | none => exact ⟨50, by decide, rfl, rfl⟩
    | some v => exact ⟨v, tld_v h3 t2.le.1, rfl, rfl⟩
  obtain ⟨nw, n1, n2, n3⟩ := env
  change kN (tP nx xs) (d + 4 + 1) 231 58 _ [] c s Q (Sum.inl (some (Value.int (oV (Int32.ofNat 50) nv)))) (mk sh D3) 0 0
  rw [n2]
  have G3 := (g1.tr g2).tr g3
  have R3 : Rw (D3 287) S.1 S.2.1 S.2.2.1 S.2.2.2 nl := by rw [G3.r7]; exact rc.2.1
  simp only [wi_some, or_0, or_1, bo_or, ite_boP, true_and, and_true, kN_v, kN_n, kT_v, kT_n, kT_e, Nat.add_zero, Nat.zero_add, b231_58 hw, ne_far (show nw < 1000 by omega), if_false, mI_thrown HS, mF_thrown HS, mR_row HS, mR_image HS, mR_earlier HS, mR_trial HS, mR_acts HS, mI_hasImage HS, mF_hasImage HS, mI_remembered HS, mF_remembered HS, mR_tape HS, mI_taped HS, mF_taped HS, mI_point HS, mF_point HS, mI_end HS, mF_end HS, mI_begin HS, mF_begin HS, mI_deep HS, mF_deep HS, mI_faultAt HS, mF_faultAt HS, mR_five HS, mI_codes HS, mF_codes HS, mR_value HS, mI_so HS, mF_so HS, mR_lines HS, mR_chosen HS, mR_best HS, mR_members HS, mR_paired HS, mO HS, mA_287 HS, mW_287 HS, mA_288 HS, mW_288 HS, mA_289 HS, mW_289 HS, mA_290 HS, mW_290 HS, mA_291 HS, mW_291 HS, mA_292 HS, mW_292 HS, mA_293 HS, mW_293 HS, mA_294 HS, mW_294 HS, mA_295 HS, mW_295 HS, mA_296 HS, mW_296 HS, mA_297 HS, mW_297 HS, mA_298 HS, mW_298 HS, mA_299 HS, mW_299 HS, k197 hw HS, r_nt R3, b231_76 hw, emo]
  -- behind the deed: birth, and all is told
  have tail : ∀ (dd : Option (Nat × Bool)) (l5 l6 : Int32) q D4, M1 D D4 → TpR b n D4 q → ddL b n S.2.1 p3 = .inr (dd, q) → (∀ x m, dd = some (x, m) → x < S.2.1) → ¬ l5 = Int32.ofNat 1000000 → ¬ l6 = Int32.ofNat 1000000 → mx l5 l6 = (match dd with
      | none => -1
      | some (x, _) => Int32.ofNat x) → (if l5 = -1 then Int32.ofNat 0 else Int32.ofNat 1 : Int32) = bo (match dd with
      | none => false
      | some (_, m) => m) → Wx (tP nx xs) (d + 5) 231 107 [some (.ref 286), (some (.int (Int32.ofNat S.2.2.1))), (some (.int (Int32.ofNat stop))), (some (.int (Int32.ofNat mon))), (some (.int (Int32.ofNat nw))), (some (.int (l5))), none, none] [.int l6] (mk sh D4) c s Q := by
    intro dd l5 l6 q D4 G4 t4 hd hdx n5 n6 em eb
    have R4 : Rw (D4 287) S.1 S.2.1 S.2.2.1 S.2.2.2 nl := by rw [G4.r7]; exact rc.2.1
    simp only [hd] at kf ky
    simp only [b231_107 hw, n5, n6, if_false, mI_thrown HS, mF_thrown HS, mR_row HS, mR_image HS, mR_earlier HS, mR_trial HS, mR_acts HS, mI_hasImage HS, mF_hasImage HS, mI_remembered HS, mF_remembered HS, mR_tape HS, mI_taped HS, mF_taped HS, mI_point HS, mF_point HS, mI_end HS, mF_end HS, mI_begin HS, mF_begin HS, mI_deep HS, mF_deep HS, mI_faultAt HS, mF_faultAt HS, mR_five HS, mI_codes HS, mF_codes HS, mR_value HS, mI_so HS, mF_so HS, mR_lines HS, mR_chosen HS, mR_best HS, mR_members HS, mR_paired HS, mO HS, mA_287 HS, mW_287 HS, mA_288 HS, mW_288 HS, mA_289 HS, mW_289 HS, mA_290 HS, mW_290 HS, mA_291 HS, mW_291 HS, mA_292 HS, mW_292 HS, mA_293 HS, mW_293 HS, mA_294 HS, mW_294 HS, mA_295 HS, mW_295 HS, mA_296 HS, mW_296 HS, mA_297 HS, mW_297 HS, mA_298 HS, mW_298 HS, mA_299 HS, mW_299 HS, wi_some, or_0, or_1, bo_or, ite_boP, true_and, and_true, kN_v, kN_n, kT_v, kT_n, kT_e, Nat.add_zero, Nat.zero_add, k197 hw HS, r_nt R4, b231_132 hw, emo]
    refine k225 (w := wBorn) (wo := -1) hw HS tb t4 (by decide) (by decide +kernel) (by decide +kernel) (by omega) ?_ ?_
    · intro f D5 h g5 e5
      simp only [h] at kf
      simp only [wi_some, or_0, or_1, bo_or, ite_boP, true_and, and_true, kN_v, kN_n, kT_v, kT_n, kT_e, Nat.add_zero, Nat.zero_add, b231_138 hw, if_true]
      exact kf f D5 rfl (G4.tr g5).ms e5
    intro ob p5 D5 h5 g5 t5
    simp only [h5] at ky
    have G5 := G4.tr g5
    have R5 : Rw (D5 287) S.1 S.2.1 S.2.2.1 S.2.2.2 nl := by rw [G5.r7]; exact rc.2.1
    have hbx : ∀ x, ob = some x → x < S.2.1 := fun x h => by rw [h] at h5; exact tld_v h5 t4.le.1
    have nb : ¬ oV (-1) ob = Int32.ofNat 1000000 := by
      cases ob with
      | none => decide
      | some v => exact ne_far (by have := hbx v rfl; omega)
    change kN (tP nx xs) (d + 4 + 1) 231 138 _ [] c s Q (Sum.inl (some (Value.int (oV (-1) ob)))) (mk sh D5) 0 0
    generalize hB : oV (-1) ob = bb at *
    have P := (((GoP_a (V := S.1) (stop := stop) (mon := mon) h6).n nv).d h6 dd).b ob
    rw [n3] at P
    have b0 : 48 + 9 * S.2.2.1 < 2050 := by omega
    have b1 : 48 + 9 * S.2.2.1 + 1 < 2050 := by omega
    have b2 : 48 + 9 * S.2.2.1 + 2 < 2050 := by omega
    have b3 : 48 + 9 * S.2.2.1 + 3 < 2050 := by omega
    have b4 : 48 + 9 * S.2.2.1 + 4 < 2050 := by omega
    have b5 : 48 + 9 * S.2.2.1 + 5 < 2050 := by omega
    have b6 : 48 + 9 * S.2.2.1 + 6 < 2050 := by omega
    have b7 : 48 + 9 * S.2.2.1 + 7 < 2050 := by omega
    have b8 : 48 + 9 * S.2.2.1 + 8 < 2050 := by omega
    have bz : 1 < 2050 := by decide
    have t1z : Int32.toNatClampNeg (Int32.ofNat 1) = 1 := by decide
    have fin : ∀ mk' : Int32, mk' = bo (dM dd) → Wx (tP nx xs) (d + 5) 231 269 [some (.ref 286), (some (.int (Int32.ofNat S.2.2.1))), (some (.int (Int32.ofNat stop))), (some (.int (Int32.ofNat mon))), (some (.int (Int32.ofNat nw))), (some (.int (l5))), (some (.int (l6))), (some (.int (bb)))] [] (mk sh (u2 (u2 (u2 (u2 (u2 (u2 (u2 (u2 (u2 D5 287 (48 + 9 * S.2.2.1) (Int32.ofNat stop)) 287 (48 + 9 * S.2.2.1 + 1) (mx l5 l6)) 287 (48 + 9 * S.2.2.1 + 2) mk') 287 (48 + 9 * S.2.2.1 + 3) bb) 287 (48 + 9 * S.2.2.1 + 4) (Int32.ofNat mon)) 287 (48 + 9 * S.2.2.1 + 5) (Int32.ofNat nw)) 287 (48 + 9 * S.2.2.1 + 6) (Int32.ofNat 0)) 287 (48 + 9 * S.2.2.1 + 7) (Int32.ofNat 0)) 287 (48 + 9 * S.2.2.1 + 8) (-1))) c s Q := by
      intro mk' hmk
      have e1 : u2 (u2 (u2 (u2 (u2 (u2 (u2 (u2 (u2 D5 287 (48 + 9 * S.2.2.1) (Int32.ofNat stop)) 287 (48 + 9 * S.2.2.1 + 1) (mx l5 l6)) 287 (48 + 9 * S.2.2.1 + 2) mk') 287 (48 + 9 * S.2.2.1 + 3) bb) 287 (48 + 9 * S.2.2.1 + 4) (Int32.ofNat mon)) 287 (48 + 9 * S.2.2.1 + 5) (Int32.ofNat nw)) 287 (48 + 9 * S.2.2.1 + 6) (Int32.ofNat 0)) 287 (48 + 9 * S.2.2.1 + 7) (Int32.ofNat 0)) 287 (48 + 9 * S.2.2.1 + 8) (-1) 287 1 = Int32.ofNat S.2.2.1 := by
        rw [u2_at, if_neg (by omega), u2_at, if_neg (by omega), u2_at, if_neg (by omega), u2_at, if_neg (by omega), u2_at, if_neg (by omega), u2_at, if_neg (by omega), u2_at, if_neg (by omega), u2_at, if_neg (by omega), u2_at, if_neg (by omega)]; exact r_ng R5
      rw [b231_269 hw]
      simp only [mI_thrown HS, mF_thrown HS, mR_row HS, mR_image HS, mR_earlier HS, mR_trial HS, mR_acts HS, mI_hasImage HS, mF_hasImage HS, mI_remembered HS, mF_remembered HS, mR_tape HS, mI_taped HS, mF_taped HS, mI_point HS, mF_point HS, mI_end HS, mF_end HS, mI_begin HS, mF_begin HS, mI_deep HS, mF_deep HS, mI_faultAt HS, mF_faultAt HS, mR_five HS, mI_codes HS, mF_codes HS, mR_value HS, mI_so HS, mF_so HS, mR_lines HS, mR_chosen HS, mR_best HS, mR_members HS, mR_paired HS, mO HS, mA_287 HS, mW_287 HS, mA_288 HS, mW_288 HS, mA_289 HS, mW_289 HS, mA_290 HS, mW_290 HS, mA_291 HS, mW_291 HS, mA_292 HS, mW_292 HS, mA_293 HS, mW_293 HS, mA_294 HS, mW_294 HS, mA_295 HS, mW_295 HS, mA_296 HS, mW_296 HS, mA_297 HS, mW_297 HS, mA_298 HS, mW_298 HS, mA_299 HS, mW_299 HS, wi_some, or_0, or_1, bo_or, ite_boP, true_and, and_true, kN_v, kN_n, kT_v, kT_n, kT_e, Nat.add_zero, Nat.zero_add, bz, e1, t1z, oN_add, b231_279 hw]
      refine ky _ p5 _ rfl ((((((((((MS.st G5.ms (by omega) (by omega)).st (by omega) (by omega)).st (by omega) (by omega)).st (by omega) (by omega)).st (by omega) (by omega)).st (by omega) (by omega)).st (by omega) (by omega)).st (by omega) (by omega)).st (by omega) (by omega)).st (by omega) (by omega)) ⟨t5.st.st.st.st.st.st.st.st.st.st, ?_, ?_⟩
      · refine Rw_go R5 P hnt h6 hnr hnl (fun i a1 a2 => ?_) ?_ ?_ ?_ ?_ ?_ ?_ ?_ ?_ ?_ ?_
        · rw [u2_at, if_neg (by omega), u2_at, if_neg (by omega), u2_at, if_neg (by omega), u2_at, if_neg (by omega), u2_at, if_neg (by omega), u2_at, if_neg (by omega), u2_at, if_neg (by omega), u2_at, if_neg (by omega), u2_at, if_neg (by omega), u2_at, if_neg (by omega)]
        · rw [u2_at, if_pos ⟨rfl, rfl⟩]
        · rw [u2_at, if_neg (by omega), u2_at, if_neg (by omega), u2_at, if_neg (by omega), u2_at, if_neg (by omega), u2_at, if_neg (by omega), u2_at, if_neg (by omega), u2_at, if_neg (by omega), u2_at, if_neg (by omega), u2_at, if_neg (by omega), u2_at, if_pos ⟨rfl, rfl⟩]
        · rw [u2_at, if_neg (by omega), u2_at, if_neg (by omega), u2_at, if_neg (by omega), u2_at, if_neg (by omega), u2_at, if_neg (by omega), u2_at, if_neg (by omega), u2_at, if_neg (by omega), u2_at, if_neg (by omega), u2_at, if_pos ⟨rfl, rfl⟩]; exact em
        · rw [u2_at, if_neg (by omega), u2_at, if_neg (by omega), u2_at, if_neg (by omega), u2_at, if_neg (by omega), u2_at, if_neg (by omega), u2_at, if_neg (by omega), u2_at, if_neg (by omega), u2_at, if_pos ⟨rfl, rfl⟩]; exact hmk
        · rw [u2_at, if_neg (by omega), u2_at, if_neg (by omega), u2_at, if_neg (by omega), u2_at, if_neg (by omega), u2_at, if_neg (by omega), u2_at, if_neg (by omega), u2_at, if_pos ⟨rfl, rfl⟩]; rw [← hB]; rfl
        · rw [u2_at, if_neg (by omega), u2_at, if_neg (by omega), u2_at, if_neg (by omega), u2_at, if_neg (by omega), u2_at, if_neg (by omega), u2_at, if_pos ⟨rfl, rfl⟩]
        · rw [u2_at, if_neg (by omega), u2_at, if_neg (by omega), u2_at, if_neg (by omega), u2_at, if_neg (by omega), u2_at, if_pos ⟨rfl, rfl⟩]
        · rw [u2_at, if_neg (by omega), u2_at, if_neg (by omega), u2_at, if_neg (by omega), u2_at, if_pos ⟨rfl, rfl⟩]
        · rw [u2_at, if_neg (by omega), u2_at, if_neg (by omega), u2_at, if_pos ⟨rfl, rfl⟩]
        · rw [u2_at, if_neg (by omega), u2_at, if_pos ⟨rfl, rfl⟩]
      · exact Iv_gall I h6 vs.2.1 (by omega) (fun v h => by rw [h] at h3; exact tld_v h3 t2.le.1) hdx hbx
    simp only [wi_some, or_0, or_1, bo_or, ite_boP, true_and, and_true, kN_v, kN_n, kT_v, kT_n, kT_e, Nat.add_zero, Nat.zero_add, b231_138 hw, nb, if_false, mI_thrown HS, mF_thrown HS, mR_row HS, mR_image HS, mR_earlier HS, mR_trial HS, mR_acts HS, mI_hasImage HS, mF_hasImage HS, mI_remembered HS, mF_remembered HS, mR_tape HS, mI_taped HS, mF_taped HS, mI_point HS, mF_point HS, mI_end HS, mF_end HS, mI_begin HS, mF_begin HS, mI_deep HS, mF_deep HS, mI_faultAt HS, mF_faultAt HS, mR_five HS, mI_codes HS, mF_codes HS, mR_value HS, mI_so HS, mF_so HS, mR_lines HS, mR_chosen HS, mR_best HS, mR_members HS, mR_paired HS, mO HS, mA_287 HS, mW_287 HS, mA_288 HS, mW_288 HS, mA_289 HS, mW_289 HS, mA_290 HS, mW_290 HS, mA_291 HS, mW_291 HS, mA_292 HS, mW_292 HS, mA_293 HS, mW_293 HS, mA_294 HS, mW_294 HS, mA_295 HS, mW_295 HS, mA_296 HS, mW_296 HS, mA_297 HS, mW_297 HS, mA_298 HS, mW_298 HS, mA_299 HS, mW_299 HS, k202 hw, b231_158 hw, b231_160 hw, b231_169 hw, b231_177 hw, b0, b1, oN_tn (show 48 + 9 * S.2.2.1 < 2147483648 by omega), oN_tn (show 48 + 9 * S.2.2.1 + 1 < 2147483648 by omega), b231_186 hw]
    by_cases h51 : l5 = -1
    · rw [if_pos h51] at eb
      simp only [h51, if_true] at fin ⊢
      simp only [b231_197 hw, b231_198 hw, b231_207 hw, b231_210 hw, b231_219 hw, b231_221 hw, b231_230 hw, b231_233 hw, b231_243 hw, b231_245 hw, b231_255 hw, b231_257 hw, b231_267 hw, k202 hw, mI_thrown HS, mF_thrown HS, mR_row HS, mR_image HS, mR_earlier HS, mR_trial HS, mR_acts HS, mI_hasImage HS, mF_hasImage HS, mI_remembered HS, mF_remembered HS, mR_tape HS, mI_taped HS, mF_taped HS, mI_point HS, mF_point HS, mI_end HS, mF_end HS, mI_begin HS, mF_begin HS, mI_deep HS, mF_deep HS, mI_faultAt HS, mF_faultAt HS, mR_five HS, mI_codes HS, mF_codes HS, mR_value HS, mI_so HS, mF_so HS, mR_lines HS, mR_chosen HS, mR_best HS, mR_members HS, mR_paired HS, mO HS, mA_287 HS, mW_287 HS, mA_288 HS, mW_288 HS, mA_289 HS, mW_289 HS, mA_290 HS, mW_290 HS, mA_291 HS, mW_291 HS, mA_292 HS, mW_292 HS, mA_293 HS, mW_293 HS, mA_294 HS, mW_294 HS, mA_295 HS, mW_295 HS, mA_296 HS, mW_296 HS, mA_297 HS, mW_297 HS, mA_298 HS, mW_298 HS, mA_299 HS, mW_299 HS, wi_some, or_0, or_1, bo_or, ite_boP, true_and, and_true, kN_v, kN_n, kT_v, kT_n, kT_e, Nat.add_zero, Nat.zero_add, b2, b3, b4, b5, b6, b7, b8, oN_tn (show 48 + 9 * S.2.2.1 + 2 < 2147483648 by omega), oN_tn (show 48 + 9 * S.2.2.1 + 3 < 2147483648 by omega), oN_tn (show 48 + 9 * S.2.2.1 + 4 < 2147483648 by omega), oN_tn (show 48 + 9 * S.2.2.1 + 5 < 2147483648 by omega), oN_tn (show 48 + 9 * S.2.2.1 + 6 < 2147483648 by omega), oN_tn (show 48 + 9 * S.2.2.1 + 7 < 2147483648 by omega), oN_tn (show 48 + 9 * S.2.2.1 + 8 < 2147483648 by omega)]
      exact fin _ eb
    · rw [if_neg h51] at eb
      simp only [h51, if_false]
      simp only [b231_197 hw, b231_198 hw, b231_207 hw, b231_210 hw, b231_219 hw, b231_221 hw, b231_230 hw, b231_233 hw, b231_243 hw, b231_245 hw, b231_255 hw, b231_257 hw, b231_267 hw, k202 hw, mI_thrown HS, mF_thrown HS, mR_row HS, mR_image HS, mR_earlier HS, mR_trial HS, mR_acts HS, mI_hasImage HS, mF_hasImage HS, mI_remembered HS, mF_remembered HS, mR_tape HS, mI_taped HS, mF_taped HS, mI_point HS, mF_point HS, mI_end HS, mF_end HS, mI_begin HS, mF_begin HS, mI_deep HS, mF_deep HS, mI_faultAt HS, mF_faultAt HS, mR_five HS, mI_codes HS, mF_codes HS, mR_value HS, mI_so HS, mF_so HS, mR_lines HS, mR_chosen HS, mR_best HS, mR_members HS, mR_paired HS, mO HS, mA_287 HS, mW_287 HS, mA_288 HS, mW_288 HS, mA_289 HS, mW_289 HS, mA_290 HS, mW_290 HS, mA_291 HS, mW_291 HS, mA_292 HS, mW_292 HS, mA_293 HS, mW_293 HS, mA_294 HS, mW_294 HS, mA_295 HS, mW_295 HS, mA_296 HS, mW_296 HS, mA_297 HS, mW_297 HS, mA_298 HS, mW_298 HS, mA_299 HS, mW_299 HS, wi_some, or_0, or_1, bo_or, ite_boP, true_and, and_true, kN_v, kN_n, kT_v, kT_n, kT_e, Nat.add_zero, Nat.zero_add, b2, b3, b4, b5, b6, b7, b8, oN_tn (show 48 + 9 * S.2.2.1 + 2 < 2147483648 by omega), oN_tn (show 48 + 9 * S.2.2.1 + 3 < 2147483648 by omega), oN_tn (show 48 + 9 * S.2.2.1 + 4 < 2147483648 by omega), oN_tn (show 48 + 9 * S.2.2.1 + 5 < 2147483648 by omega), oN_tn (show 48 + 9 * S.2.2.1 + 6 < 2147483648 by omega), oN_tn (show 48 + 9 * S.2.2.1 + 7 < 2147483648 by omega), oN_tn (show 48 + 9 * S.2.2.1 + 8 < 2147483648 by omega)]
      exact fin _ eb
  refine k225 (w := wDoes) (wo := -1) hw HS tb t3 (by decide) (by decide +kernel) (by decide +kernel) (by omega) ?_ ?_
  · intro f D4 h g4 e4
    have hd : ddL b n S.2.1 p3 = .inl f := by unfold ddL; rw [h]
    simp only [hd] at kf
    simp only [wi_some, or_0, or_1, bo_or, ite_boP, true_and, and_true, kN_v, kN_n, kT_v, kT_n, kT_e, Nat.add_zero, Nat.zero_add, b231_82 hw, show ¬ (Int32.ofNat 1000000 : Int32) = -1 by decide, if_false, b231_107 hw, if_true, b231_123 hw]
    exact kf f D4 rfl (G3.tr g4).ms e4
  intro od p4 D4 h4 g4 t4
  cases od with
  | some v =>
    have vx := tld_v h4 t3.le.1
    have nm : ¬ Int32.ofNat v = (-1 : Int32) := by rw [oN_ne1 (by omega)]; exact id
    have hd : ddL b n S.2.1 p3 = .inr (some (v, true), p4) := by unfold ddL; rw [h4]
    simp only [wi_some, or_0, or_1, bo_or, ite_boP, true_and, and_true, kN_v, kN_n, kT_v, kT_n, kT_e, Nat.add_zero, Nat.zero_add, b231_82 hw, nm, if_false]
    exact tail (some (v, true)) (Int32.ofNat v) (-1) p4 D4 (G3.tr g4) t4 hd (fun x m h => by cases h; exact vx) (ne_far (by omega)) (by decide) (mx_m1 (by omega)) (by rw [if_neg nm]; rfl)
  | none =>
    have R4 : Rw (D4 287) S.1 S.2.1 S.2.2.1 S.2.2.2 nl := by rw [(G3.tr g4).r7]; exact rc.2.1
    simp only [wi_some, or_0, or_1, bo_or, ite_boP, true_and, and_true, kN_v, kN_n, kT_v, kT_n, kT_e, Nat.add_zero, Nat.zero_add, b231_82 hw, if_true, mI_thrown HS, mF_thrown HS, mR_row HS, mR_image HS, mR_earlier HS, mR_trial HS, mR_acts HS, mI_hasImage HS, mF_hasImage HS, mI_remembered HS, mF_remembered HS, mR_tape HS, mI_taped HS, mF_taped HS, mI_point HS, mF_point HS, mI_end HS, mF_end HS, mI_begin HS, mF_begin HS, mI_deep HS, mF_deep HS, mI_faultAt HS, mF_faultAt HS, mR_five HS, mI_codes HS, mF_codes HS, mR_value HS, mI_so HS, mF_so HS, mR_lines HS, mR_chosen HS, mR_best HS, mR_members HS, mR_paired HS, mO HS, mA_287 HS, mW_287 HS, mA_288 HS, mW_288 HS, mA_289 HS, mW_289 HS, mA_290 HS, mW_290 HS, mA_291 HS, mW_291 HS, mA_292 HS, mW_292 HS, mA_293 HS, mW_293 HS, mA_294 HS, mW_294 HS, mA_295 HS, mW_295 HS, mA_296 HS, mW_296 HS, mA_297 HS, mW_297 HS, mA_298 HS, mW_298 HS, mA_299 HS, mW_299 HS, k197 hw HS, r_nt R4, b231_97 hw, emo]
    refine k225 (w := wUndoes) (wo := -1) hw HS tb t4 (by decide) (by decide +kernel) (by decide +kernel) (by omega) ?_ ?_
    · intro f D5 h g5 e5
      have hd : ddL b n S.2.1 p3 = .inl f := by unfold ddL; rw [h4]; simp only; rw [h]
      simp only [hd] at kf
      simp only [wi_some, or_0, or_1, bo_or, ite_boP, true_and, and_true, kN_v, kN_n, kT_v, kT_n, kT_e, Nat.add_zero, Nat.zero_add, b231_103 hw, b231_107 hw, show ¬ (-1 : Int32) = Int32.ofNat 1000000 by decide, if_false, if_true, b231_123 hw]
      exact kf f D5 rfl ((G3.tr g4).tr g5).ms e5
    intro od p5 D5 h5 g5 t5
    cases od with
    | some v =>
      have vx := tld_v h5 t4.le.1
      have hd : ddL b n S.2.1 p3 = .inr (some (v, false), p5) := by unfold ddL; rw [h4]; simp only; rw [h5]
      simp only [wi_some, or_0, or_1, bo_or, ite_boP, true_and, and_true, kN_v, kN_n, kT_v, kT_n, kT_e, Nat.add_zero, Nat.zero_add, b231_103 hw]
      exact tail (some (v, false)) (-1) (Int32.ofNat v) p5 D5 ((G3.tr g4).tr g5) t5 hd (fun x m h => by cases h; exact vx) (by decide) (ne_far (by omega)) (mx_1m (by omega)) (by rw [if_pos rfl]; rfl)
    | none =>
      have hd : ddL b n S.2.1 p3 = .inr (none, p5) := by unfold ddL; rw [h4]; simp only; rw [h5]
      simp only [wi_some, or_0, or_1, bo_or, ite_boP, true_and, and_true, kN_v, kN_n, kT_v, kT_n, kT_e, Nat.add_zero, Nat.zero_add, b231_103 hw]
      exact tail none (-1) (-1) p5 D5 ((G3.tr g4).tr g5) t5 hd (fun x m h => by cases h) (by decide) (by decide) (by decide) (by rw [if_pos rfl]; rfl)
theorem k233 (hw : WT sh) (HS : SP sh) (tb : TB b n) (tr : TpR b n D p)
    (kk : ∀ D', M1 D D' → TpR b n D' (sk b n (le b n p)) → D' 286 12 = Int32.ofNat p → Q (.inl (some (.int (stL b n p)))) (mk sh D') c s) :
    Wx (tP nx xs) (d + 3) 233 0 [some (.ref 286), none, none, none, none] [] (mk sh D) c s Q := by
  have n10 : ¬ (Int32.ofNat 1 : Int32) = Int32.ofNat 0 := by decide
  have hn := tb.1
  have hp := tr.le
  have l1 : p ≤ le b n p := ru_ge
  have l2 : le b n p ≤ n := ru_le hp.1
  have lin : ∀ k, k < le b n p - p → p + k < n ∧ 97 ≤ b (p + k) ∧ b (p + k) ≤ 122 := fun k hk => isB_iff.mp (ru_in (b := b) (n := n) (lo := 97) (hi := 122) (p := p) (i := p + k) (by omega) (by show _ < le b n p; omega))
  obtain ⟨L, eL⟩ : ∃ L, le b n p = p + L := ⟨le b n p - p, by omega⟩
  have eL' : le b n p - p = L := by omega
  simp only [b233_0 hw, mI_thrown HS, mF_thrown HS, mR_row HS, mR_image HS, mR_earlier HS, mR_trial HS, mR_acts HS, mI_hasImage HS, mF_hasImage HS, mI_remembered HS, mF_remembered HS, mR_tape HS, mI_taped HS, mF_taped HS, mI_point HS, mF_point HS, mI_end HS, mF_end HS, mI_begin HS, mF_begin HS, mI_deep HS, mF_deep HS, mI_faultAt HS, mF_faultAt HS, mR_five HS, mI_codes HS, mF_codes HS, mR_value HS, mI_so HS, mF_so HS, mR_lines HS, mR_chosen HS, mR_best HS, mR_members HS, mR_paired HS, mO HS, mA_287 HS, mW_287 HS, mA_288 HS, mW_288 HS, mA_289 HS, mW_289 HS, mA_290 HS, mW_290 HS, mA_291 HS, mW_291 HS, mA_292 HS, mW_292 HS, mA_293 HS, mW_293 HS, mA_294 HS, mW_294 HS, mA_295 HS, mW_295 HS, mA_296 HS, mW_296 HS, mA_297 HS, mW_297 HS, mA_298 HS, mW_298 HS, mA_299 HS, mW_299 HS, wi_some, or_0, or_1, bo_or, ite_boP, true_and, and_true, kN_v, kN_n, kT_v, kT_n, kT_e, Nat.add_zero, Nat.zero_add]
  refine k219 hw HS tb tr ?_
  intro D1 m1 rb1 e1 f1
  have fin := kk D1 m1 (TpR.of rb1 M1.rf l2 rfl e1) f1
  unfold stL at fin
  rw [eL'] at fin lin
  rw [eL] at e1 l2
  simp only [wi_some, or_0, or_1, bo_or, ite_boP, true_and, and_true, kN_v, kN_n, kT_v, kT_n, kT_e, Nat.add_zero, Nat.zero_add, b233_4 hw, mI_thrown HS, mF_thrown HS, mR_row HS, mR_image HS, mR_earlier HS, mR_trial HS, mR_acts HS, mI_hasImage HS, mF_hasImage HS, mI_remembered HS, mF_remembered HS, mR_tape HS, mI_taped HS, mF_taped HS, mI_point HS, mF_point HS, mI_end HS, mF_end HS, mI_begin HS, mF_begin HS, mI_deep HS, mF_deep HS, mI_faultAt HS, mF_faultAt HS, mR_five HS, mI_codes HS, mF_codes HS, mR_value HS, mI_so HS, mF_so HS, mR_lines HS, mR_chosen HS, mR_best HS, mR_members HS, mR_paired HS, mO HS, mA_287 HS, mW_287 HS, mA_288 HS, mW_288 HS, mA_289 HS, mW_289 HS, mA_290 HS, mW_290 HS, mA_291 HS, mW_291 HS, mA_292 HS, mW_292 HS, mA_293 HS, mW_293 HS, mA_294 HS, mW_294 HS, mA_295 HS, mW_295 HS, mA_296 HS, mW_296 HS, mA_297 HS, mW_297 HS, mA_298 HS, mW_298 HS, mA_299 HS, mW_299 HS, e1, f1, oN_lt (show p < 2147483648 by omega) (show p + L < 2147483648 by omega)]
  have lp : ∀ r k x (l4 : Option Value), k + r = L → slN b p k = some x → Wx (tP nx xs) (d + 3) 233 28 [some (.ref 286), (some (.int (x))), (some (.int (Int32.ofNat 1))), (some (.int (Int32.ofNat (p + k)))), l4] [] (mk sh D1) c s Q := by
    intro r
    induction r with
    | zero =>
      intro k x l4 hk hx
      have ek : k = L := by omega
      subst ek
      rw [hx] at fin
      rw [b233_28 hw]
      simp only [mI_thrown HS, mF_thrown HS, mR_row HS, mR_image HS, mR_earlier HS, mR_trial HS, mR_acts HS, mI_hasImage HS, mF_hasImage HS, mI_remembered HS, mF_remembered HS, mR_tape HS, mI_taped HS, mF_taped HS, mI_point HS, mF_point HS, mI_end HS, mF_end HS, mI_begin HS, mF_begin HS, mI_deep HS, mF_deep HS, mI_faultAt HS, mF_faultAt HS, mR_five HS, mI_codes HS, mF_codes HS, mR_value HS, mI_so HS, mF_so HS, mR_lines HS, mR_chosen HS, mR_best HS, mR_members HS, mR_paired HS, mO HS, mA_287 HS, mW_287 HS, mA_288 HS, mW_288 HS, mA_289 HS, mW_289 HS, mA_290 HS, mW_290 HS, mA_291 HS, mW_291 HS, mA_292 HS, mW_292 HS, mA_293 HS, mW_293 HS, mA_294 HS, mW_294 HS, mA_295 HS, mW_295 HS, mA_296 HS, mW_296 HS, mA_297 HS, mW_297 HS, mA_298 HS, mW_298 HS, mA_299 HS, mW_299 HS, wi_some, or_0, or_1, bo_or, ite_boP, true_and, and_true, kN_v, kN_n, kT_v, kT_n, kT_e, Nat.add_zero, Nat.zero_add, e1, oN_lt (show p + k < 2147483648 by omega) (show p + k < 2147483648 by omega), Nat.lt_irrefl, if_false, b233_94 hw, n10, b233_103 hw]
      exact fin
    | succ r ih =>
      intro k x l4 hk hx
      obtain ⟨d1, d2, d3⟩ := lin k (by omega)
      have hp4 : p + k < 400 := by omega
      have es : slN b p (k + 1) = if b (p + k) - 97 < 16 ∧ bt x (b (p + k) - 97) = false then some (x ||| jshl (Int32.ofNat 1) (Int32.ofNat (b (p + k) - 97))) else none := by
        show (match slN b p k with
          | none => none
          | some x => _) = _
        rw [hx]
      have bad : slN b p (k + 1) = none → ∀ (y : Int32), Wx (tP nx xs) (d + 3) 233 28 [some (.ref 286), (some (.int (y))), (some (.int (Int32.ofNat 0))), (some (.int (Int32.ofNat (p + k + 1)))), (some (.int (Int32.ofNat (b (p + k) - 97))))] [] (mk sh D1) c s Q := by
        intro h y
        have hL := slN_none h r
        rw [show k + 1 + r = L by omega] at hL
        rw [hL] at fin
        rw [b233_28 hw]
        simp only [mI_thrown HS, mF_thrown HS, mR_row HS, mR_image HS, mR_earlier HS, mR_trial HS, mR_acts HS, mI_hasImage HS, mF_hasImage HS, mI_remembered HS, mF_remembered HS, mR_tape HS, mI_taped HS, mF_taped HS, mI_point HS, mF_point HS, mI_end HS, mF_end HS, mI_begin HS, mF_begin HS, mI_deep HS, mF_deep HS, mI_faultAt HS, mF_faultAt HS, mR_five HS, mI_codes HS, mF_codes HS, mR_value HS, mI_so HS, mF_so HS, mR_lines HS, mR_chosen HS, mR_best HS, mR_members HS, mR_paired HS, mO HS, mA_287 HS, mW_287 HS, mA_288 HS, mW_288 HS, mA_289 HS, mW_289 HS, mA_290 HS, mW_290 HS, mA_291 HS, mW_291 HS, mA_292 HS, mW_292 HS, mA_293 HS, mW_293 HS, mA_294 HS, mW_294 HS, mA_295 HS, mW_295 HS, mA_296 HS, mW_296 HS, mA_297 HS, mW_297 HS, mA_298 HS, mW_298 HS, mA_299 HS, mW_299 HS, wi_some, or_0, or_1, bo_or, ite_boP, true_and, and_true, kN_v, kN_n, kT_v, kT_n, kT_e, Nat.add_zero, Nat.zero_add, e1, if_true, b233_94 hw, b233_103 hw]
        split
        · exact fin
        · exact fin
      rw [b233_28 hw]
      simp only [mI_thrown HS, mF_thrown HS, mR_row HS, mR_image HS, mR_earlier HS, mR_trial HS, mR_acts HS, mI_hasImage HS, mF_hasImage HS, mI_remembered HS, mF_remembered HS, mR_tape HS, mI_taped HS, mF_taped HS, mI_point HS, mF_point HS, mI_end HS, mF_end HS, mI_begin HS, mF_begin HS, mI_deep HS, mF_deep HS, mI_faultAt HS, mF_faultAt HS, mR_five HS, mI_codes HS, mF_codes HS, mR_value HS, mI_so HS, mF_so HS, mR_lines HS, mR_chosen HS, mR_best HS, mR_members HS, mR_paired HS, mO HS, mA_287 HS, mW_287 HS, mA_288 HS, mW_288 HS, mA_289 HS, mW_289 HS, mA_290 HS, mW_290 HS, mA_291 HS, mW_291 HS, mA_292 HS, mW_292 HS, mA_293 HS, mW_293 HS, mA_294 HS, mW_294 HS, mA_295 HS, mW_295 HS, mA_296 HS, mW_296 HS, mA_297 HS, mW_297 HS, mA_298 HS, mW_298 HS, mA_299 HS, mW_299 HS, wi_some, or_0, or_1, bo_or, ite_boP, true_and, and_true, kN_v, kN_n, kT_v, kT_n, kT_e, Nat.add_zero, Nat.zero_add, e1, oN_lt (show p + k < 2147483648 by omega) (show p + L < 2147483648 by omega), show p + k < p + L by omega, if_true, n10, if_false, hp4, rb1.2 _ d1, by_lt (b (p + k)) (by omega), oN_sub (show 97 ≤ b (p + k) by omega), oN_lt (show b (p + k) - 97 < 2147483648 by omega) (show 16 < 2147483648 by omega), k189 hw (show b (p + k) - 97 < 32 by omega), b233_64 hw]
      by_cases h16 : b (p + k) - 97 < 16
      · simp only [h16, if_true, true_and] at es ⊢
        cases hbt : bt x (b (p + k) - 97) with
        | false =>
          simp only [hbt, if_true, Bool.false_eq_true, if_false, b233_72 hw, n10, b233_86 hw, oN_add] at es ⊢
          exact ih (k + 1) _ _ (by omega) es
        | true =>
          simp only [hbt, Bool.true_eq_false, if_false, if_true, b233_71 hw, b233_72 hw, b233_86 hw, oN_add] at es ⊢
          exact bad es _
      · simp only [h16, if_false, false_and, b233_71 hw, b233_72 hw, if_true, b233_86 hw, oN_add] at es ⊢
        exact bad es _
  by_cases hL : 0 < L
  · simp only [show p < p + L by omega, if_true, b233_22 hw, mI_thrown HS, mF_thrown HS, mR_row HS, mR_image HS, mR_earlier HS, mR_trial HS, mR_acts HS, mI_hasImage HS, mF_hasImage HS, mI_remembered HS, mF_remembered HS, mR_tape HS, mI_taped HS, mF_taped HS, mI_point HS, mF_point HS, mI_end HS, mF_end HS, mI_begin HS, mF_begin HS, mI_deep HS, mF_deep HS, mI_faultAt HS, mF_faultAt HS, mR_five HS, mI_codes HS, mF_codes HS, mR_value HS, mI_so HS, mF_so HS, mR_lines HS, mR_chosen HS, mR_best HS, mR_members HS, mR_paired HS, mO HS, mA_287 HS, mW_287 HS, mA_288 HS, mW_288 HS, mA_289 HS, mW_289 HS, mA_290 HS, mW_290 HS, mA_291 HS, mW_291 HS, mA_292 HS, mW_292 HS, mA_293 HS, mW_293 HS, mA_294 HS, mW_294 HS, mA_295 HS, mW_295 HS, mA_296 HS, mW_296 HS, mA_297 HS, mW_297 HS, mA_298 HS, mW_298 HS, mA_299 HS, mW_299 HS, wi_some, or_0, or_1, bo_or, ite_boP, true_and, and_true, kN_v, kN_n, kT_v, kT_n, kT_e, Nat.add_zero, Nat.zero_add, f1]
    exact lp L 0 (Int32.ofNat 0) none (by omega) rfl
  · have hL0 : L = 0 := by omega
    subst hL0
    simp only [Nat.add_zero, Nat.lt_irrefl, if_false, b233_22 hw, mI_thrown HS, mF_thrown HS, mR_row HS, mR_image HS, mR_earlier HS, mR_trial HS, mR_acts HS, mI_hasImage HS, mF_hasImage HS, mI_remembered HS, mF_remembered HS, mR_tape HS, mI_taped HS, mF_taped HS, mI_point HS, mF_point HS, mI_end HS, mF_end HS, mI_begin HS, mF_begin HS, mI_deep HS, mF_deep HS, mI_faultAt HS, mF_faultAt HS, mR_five HS, mI_codes HS, mF_codes HS, mR_value HS, mI_so HS, mF_so HS, mR_lines HS, mR_chosen HS, mR_best HS, mR_members HS, mR_paired HS, mO HS, mA_287 HS, mW_287 HS, mA_288 HS, mW_288 HS, mA_289 HS, mW_289 HS, mA_290 HS, mW_290 HS, mA_291 HS, mW_291 HS, mA_292 HS, mW_292 HS, mA_293 HS, mW_293 HS, mA_294 HS, mW_294 HS, mA_295 HS, mW_295 HS, mA_296 HS, mW_296 HS, mA_297 HS, mW_297 HS, mA_298 HS, mW_298 HS, mA_299 HS, mW_299 HS, wi_some, or_0, or_1, bo_or, ite_boP, true_and, and_true, kN_v, kN_n, kT_v, kT_n, kT_e, Nat.add_zero, Nat.zero_add, f1]
    rw [b233_28 hw]
    simp only [mI_thrown HS, mF_thrown HS, mR_row HS, mR_image HS, mR_earlier HS, mR_trial HS, mR_acts HS, mI_hasImage HS, mF_hasImage HS, mI_remembered HS, mF_remembered HS, mR_tape HS, mI_taped HS, mF_taped HS, mI_point HS, mF_point HS, mI_end HS, mF_end HS, mI_begin HS, mF_begin HS, mI_deep HS, mF_deep HS, mI_faultAt HS, mF_faultAt HS, mR_five HS, mI_codes HS, mF_codes HS, mR_value HS, mI_so HS, mF_so HS, mR_lines HS, mR_chosen HS, mR_best HS, mR_members HS, mR_paired HS, mO HS, mA_287 HS, mW_287 HS, mA_288 HS, mW_288 HS, mA_289 HS, mW_289 HS, mA_290 HS, mW_290 HS, mA_291 HS, mW_291 HS, mA_292 HS, mW_292 HS, mA_293 HS, mW_293 HS, mA_294 HS, mW_294 HS, mA_295 HS, mW_295 HS, mA_296 HS, mW_296 HS, mA_297 HS, mW_297 HS, mA_298 HS, mW_298 HS, mA_299 HS, mW_299 HS, wi_some, or_0, or_1, bo_or, ite_boP, true_and, and_true, kN_v, kN_n, kT_v, kT_n, kT_e, Nat.add_zero, Nat.zero_add, e1, oN_lt (show p < 2147483648 by omega) (show p < 2147483648 by omega), Nat.lt_irrefl, if_false, b233_94 hw, if_true, b233_103 hw]
    exact fin
theorem k234 (hw : WT sh) (HS : SP sh) (tb : TB b n) (rc : RC b n S nl D p) (h12 : D 286 12 = Int32.ofNat p0)
    (kf : ∀ f D', (if S.2.2.2 < 5 then trL b n S p else .inl p0) = .inl f → MS D D' → D' 286 12 = Int32.ofNat f → Q (.inl (some (.int (Int32.ofNat 0)))) (mk sh D') c s)
    (ky : ∀ S' p' D', (if S.2.2.2 < 5 then trL b n S p else .inl p0) = .inr (S', p') → MS D D' → RC b n S' nl D' p' → Q (.inl (some (.int (Int32.ofNat 1)))) (mk sh D') c s) :
    Wx (tP nx xs) (d + 4) 234 0 [some (.ref 286), none, none, none] [] (mk sh D) c s Q := by
  have n10 : ¬ (Int32.ofNat 1 : Int32) = Int32.ofNat 0 := by decide
  have I := rc.2.2
  have hnt := i_nt8 I
  have hng := i_ng6 I
  have hnr := i_nr5 I
  simp only [b234_0 hw, mI_thrown HS, mF_thrown HS, mR_row HS, mR_image HS, mR_earlier HS, mR_trial HS, mR_acts HS, mI_hasImage HS, mF_hasImage HS, mI_remembered HS, mF_remembered HS, mR_tape HS, mI_taped HS, mF_taped HS, mI_point HS, mF_point HS, mI_end HS, mF_end HS, mI_begin HS, mF_begin HS, mI_deep HS, mF_deep HS, mI_faultAt HS, mF_faultAt HS, mR_five HS, mI_codes HS, mF_codes HS, mR_value HS, mI_so HS, mF_so HS, mR_lines HS, mR_chosen HS, mR_best HS, mR_members HS, mR_paired HS, mO HS, mA_287 HS, mW_287 HS, mA_288 HS, mW_288 HS, mA_289 HS, mW_289 HS, mA_290 HS, mW_290 HS, mA_291 HS, mW_291 HS, mA_292 HS, mW_292 HS, mA_293 HS, mW_293 HS, mA_294 HS, mW_294 HS, mA_295 HS, mW_295 HS, mA_296 HS, mW_296 HS, mA_297 HS, mW_297 HS, mA_298 HS, mW_298 HS, mA_299 HS, mW_299 HS, wi_some, or_0, or_1, bo_or, ite_boP, true_and, and_true, kN_v, kN_n, kT_v, kT_n, kT_e, Nat.add_zero, Nat.zero_add, k199 hw HS, r_nr rc.2.1, b234_4 hw, oN_eq (show S.2.2.2 < 2147483648 by omega) (show 5 < 2147483648 by omega)]
  by_cases h5 : S.2.2.2 < 5
  rotate_left
  · simp only [h5, if_false] at kf
    simp only [show S.2.2.2 = 5 by omega, if_true]
    exact kf _ D rfl MS.rf h12
  simp only [h5, if_true] at kf ky
  simp only [show ¬ S.2.2.2 = 5 by omega, if_false]
  unfold trL at kf ky
  refine k224c (w := wSeats) hw HS tb rc.1 (by decide) (by decide +kernel) (by decide +kernel) (by decide) (by decide) ?_ ?_
  · intro f D1 h g1 e1
    simp only [h] at kf
    simp only [wi_some, or_0, or_1, bo_or, ite_boP, true_and, and_true, kN_v, kN_n, kT_v, kT_n, kT_e, Nat.add_zero, Nat.zero_add, b234_21 hw, show (-1 : Int32) < Int32.ofNat 0 by decide, if_true]
    exact kf f D1 rfl g1.ms e1
  intro se p1 D1 h1 g1 t1
  have vs := bhd_v h1 rc.1.le.1
  have hp1 := t1.le
  simp only [h1] at kf ky
  simp only [wi_some, or_0, or_1, bo_or, ite_boP, true_and, and_true, kN_v, kN_n, kT_v, kT_n, kT_e, Nat.add_zero, Nat.zero_add, b234_21 hw, oN_nn (show se < 2147483648 by omega), if_false, mI_thrown HS, mF_thrown HS, mR_row HS, mR_image HS, mR_earlier HS, mR_trial HS, mR_acts HS, mI_hasImage HS, mF_hasImage HS, mI_remembered HS, mF_remembered HS, mR_tape HS, mI_taped HS, mF_taped HS, mI_point HS, mF_point HS, mI_end HS, mF_end HS, mI_begin HS, mF_begin HS, mI_deep HS, mF_deep HS, mI_faultAt HS, mF_faultAt HS, mR_five HS, mI_codes HS, mF_codes HS, mR_value HS, mI_so HS, mF_so HS, mR_lines HS, mR_chosen HS, mR_best HS, mR_members HS, mR_paired HS, mO HS, mA_287 HS, mW_287 HS, mA_288 HS, mW_288 HS, mA_289 HS, mW_289 HS, mA_290 HS, mW_290 HS, mA_291 HS, mW_291 HS, mA_292 HS, mW_292 HS, mA_293 HS, mW_293 HS, mA_294 HS, mW_294 HS, mA_295 HS, mW_295 HS, mA_296 HS, mW_296 HS, mA_297 HS, mW_297 HS, mA_298 HS, mW_298 HS, mA_299 HS, mW_299 HS]
  refine k219 hw HS tb t1 ?_
  intro D2 g2 rb2 e2 f2
  simp only [wi_some, or_0, or_1, bo_or, ite_boP, true_and, and_true, kN_v, kN_n, kT_v, kT_n, kT_e, Nat.add_zero, Nat.zero_add, b234_32 hw, mI_thrown HS, mF_thrown HS, mR_row HS, mR_image HS, mR_earlier HS, mR_trial HS, mR_acts HS, mI_hasImage HS, mF_hasImage HS, mI_remembered HS, mF_remembered HS, mR_tape HS, mI_taped HS, mF_taped HS, mI_point HS, mF_point HS, mI_end HS, mF_end HS, mI_begin HS, mF_begin HS, mI_deep HS, mF_deep HS, mI_faultAt HS, mF_faultAt HS, mR_five HS, mI_codes HS, mF_codes HS, mR_value HS, mI_so HS, mF_so HS, mR_lines HS, mR_chosen HS, mR_best HS, mR_members HS, mR_paired HS, mO HS, mA_287 HS, mW_287 HS, mA_288 HS, mW_288 HS, mA_289 HS, mW_289 HS, mA_290 HS, mW_290 HS, mA_291 HS, mW_291 HS, mA_292 HS, mW_292 HS, mA_293 HS, mW_293 HS, mA_294 HS, mW_294 HS, mA_295 HS, mW_295 HS, mA_296 HS, mW_296 HS, mA_297 HS, mW_297 HS, mA_298 HS, mW_298 HS, mA_299 HS, mW_299 HS]
  rw [k220 (w := wStops) hw HS tb rb2 hp1.1 e2 f2 (by decide) (by decide +kernel) (by decide +kernel)]
  simp only [wi_some, or_0, or_1, bo_or, ite_boP, true_and, and_true, kN_v, kN_n, kT_v, kT_n, kT_e, Nat.add_zero, Nat.zero_add, b234_38 hw, mI_thrown HS, mF_thrown HS, mR_row HS, mR_image HS, mR_earlier HS, mR_trial HS, mR_acts HS, mI_hasImage HS, mF_hasImage HS, mI_remembered HS, mF_remembered HS, mR_tape HS, mI_taped HS, mF_taped HS, mI_point HS, mF_point HS, mI_end HS, mF_end HS, mI_begin HS, mF_begin HS, mI_deep HS, mF_deep HS, mI_faultAt HS, mF_faultAt HS, mR_five HS, mI_codes HS, mF_codes HS, mR_value HS, mI_so HS, mF_so HS, mR_lines HS, mR_chosen HS, mR_best HS, mR_members HS, mR_paired HS, mO HS, mA_287 HS, mW_287 HS, mA_288 HS, mW_288 HS, mA_289 HS, mW_289 HS, mA_290 HS, mW_290 HS, mA_291 HS, mW_291 HS, mA_292 HS, mW_292 HS, mA_293 HS, mW_293 HS, mA_294 HS, mW_294 HS, mA_295 HS, mW_295 HS, mA_296 HS, mW_296 HS, mA_297 HS, mW_297 HS, mA_298 HS, mW_298 HS, mA_299 HS, mW_299 HS]
  cases hW : wrd b n wStops p1 with
  | none =>
    simp only [hW] at kf
    simp only [wrd_no hW, Bool.false_eq_true, if_false, b234_49 hw, if_true]
    exact kf _ D2 rfl (g1.tr g2).ms f2
  | some p2 =>
    simp only [hW] at kf ky
    simp only [wrd_yes hW, if_true]
    refine k233 hw HS tb (TpR.of rb2 M1.rf (ru_le hp1.1) (wrd_le hW) e2) ?_
    intro D3 g3 t3 f3
    simp only [wi_some, or_0, or_1, bo_or, ite_boP, true_and, and_true, kN_v, kN_n, kT_v, kT_n, kT_e, Nat.add_zero, Nat.zero_add, b234_45 hw, b234_49 hw]
    by_cases hx : stL b n p2 = Int32.ofNat 0
    · simp only [hx, if_true] at kf ⊢
      exact kf _ D3 rfl ((g1.tr g2).tr g3).ms f3
    · have G3 := (g1.tr g2).tr g3
      have R3 : Rw (D3 287) S.1 S.2.1 S.2.2.1 S.2.2.2 nl := by rw [G3.r7]; exact rc.2.1
      have b0 : 102 + 2 * S.2.2.2 < 2050 := by omega
      have b1 : 102 + 2 * S.2.2.2 + 1 < 2050 := by omega
      have bz : 2 < 2050 := by decide
      have t2z : Int32.toNatClampNeg (Int32.ofNat 2) = 2 := by decide
      simp only [hx, if_false] at ky ⊢
      simp only [mI_thrown HS, mF_thrown HS, mR_row HS, mR_image HS, mR_earlier HS, mR_trial HS, mR_acts HS, mI_hasImage HS, mF_hasImage HS, mI_remembered HS, mF_remembered HS, mR_tape HS, mI_taped HS, mF_taped HS, mI_point HS, mF_point HS, mI_end HS, mF_end HS, mI_begin HS, mF_begin HS, mI_deep HS, mF_deep HS, mI_faultAt HS, mF_faultAt HS, mR_five HS, mI_codes HS, mF_codes HS, mR_value HS, mI_so HS, mF_so HS, mR_lines HS, mR_chosen HS, mR_best HS, mR_members HS, mR_paired HS, mO HS, mA_287 HS, mW_287 HS, mA_288 HS, mW_288 HS, mA_289 HS, mW_289 HS, mA_290 HS, mW_290 HS, mA_291 HS, mW_291 HS, mA_292 HS, mW_292 HS, mA_293 HS, mW_293 HS, mA_294 HS, mW_294 HS, mA_295 HS, mW_295 HS, mA_296 HS, mW_296 HS, mA_297 HS, mW_297 HS, mA_298 HS, mW_298 HS, mA_299 HS, mW_299 HS, wi_some, or_0, or_1, bo_or, ite_boP, true_and, and_true, kN_v, kN_n, kT_v, kT_n, kT_e, Nat.add_zero, Nat.zero_add, k204 hw, b234_65 hw, b234_67 hw, b234_76 hw, b0, b1, oN_tn (show 102 + 2 * S.2.2.2 < 2147483648 by omega), oN_tn (show 102 + 2 * S.2.2.2 + 1 < 2147483648 by omega)]
      have e1 : u2 (u2 D3 287 (102 + 2 * S.2.2.2) (stL b n p2)) 287 (102 + 2 * S.2.2.2 + 1) (Int32.ofNat se) 287 2 = Int32.ofNat S.2.2.2 := by rw [u2_at, if_neg (by omega), u2_at, if_neg (by omega)]; exact r_nr R3
      rw [b234_78 hw]
      simp only [mI_thrown HS, mF_thrown HS, mR_row HS, mR_image HS, mR_earlier HS, mR_trial HS, mR_acts HS, mI_hasImage HS, mF_hasImage HS, mI_remembered HS, mF_remembered HS, mR_tape HS, mI_taped HS, mF_taped HS, mI_point HS, mF_point HS, mI_end HS, mF_end HS, mI_begin HS, mF_begin HS, mI_deep HS, mF_deep HS, mI_faultAt HS, mF_faultAt HS, mR_five HS, mI_codes HS, mF_codes HS, mR_value HS, mI_so HS, mF_so HS, mR_lines HS, mR_chosen HS, mR_best HS, mR_members HS, mR_paired HS, mO HS, mA_287 HS, mW_287 HS, mA_288 HS, mW_288 HS, mA_289 HS, mW_289 HS, mA_290 HS, mW_290 HS, mA_291 HS, mW_291 HS, mA_292 HS, mW_292 HS, mA_293 HS, mW_293 HS, mA_294 HS, mW_294 HS, mA_295 HS, mW_295 HS, mA_296 HS, mW_296 HS, mA_297 HS, mW_297 HS, mA_298 HS, mW_298 HS, mA_299 HS, mW_299 HS, wi_some, or_0, or_1, bo_or, ite_boP, true_and, and_true, kN_v, kN_n, kT_v, kT_n, kT_e, Nat.add_zero, Nat.zero_add, bz, e1, t2z, oN_add, b234_88 hw]
      refine ky _ _ _ rfl (((MS.st G3.ms (by omega) (by omega)).st (by omega) (by omega)).st (by omega) (by omega)) ⟨t3.st.st.st, ?_, Iv_tr I h5⟩
      refine Rw_tr R3 hnt hng h5 (fun i a1 a2 a3 => ?_) ?_ ?_ ?_
      · rw [u2_at, if_neg (by omega), u2_at, if_neg (by omega), u2_at, if_neg (by omega)]
      · rw [u2_at, if_pos ⟨rfl, rfl⟩]
      · rw [u2_at, if_neg (by omega), u2_at, if_neg (by omega), u2_at, if_pos ⟨rfl, rfl⟩]
      · rw [u2_at, if_neg (by omega), u2_at, if_pos ⟨rfl, rfl⟩]
end CB8
