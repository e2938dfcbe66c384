/-! ===== texts of THE STATION: the reference reads (3) ===== -/
section CB9
variable {nx : Nat} {xs : Nat → Int32} {d c s : Nat} {sh : List sC} {D : sD} {Q : av_Q}
variable {b : Nat → Nat} {n p nl : Nat} {S : sT}
theorem k235 (hw : WT sh) (HS : SP sh) (tb : TB b n) (rb : RB b n D) (R : Rw (D 287) S.1 S.2.1 S.2.2.1 S.2.2.2 nl) (I : Iv S.1 S.2.1 S.2.2.1 S.2.2.2 nl) (hp : p ≤ n) (e10 : D 286 10 = Int32.ofNat (le b n p)) (e12 : D 286 12 = Int32.ofNat p)
    (kf : ∀ f D', lnL b n S p = .inl f → MS D D' → D' 286 12 = Int32.ofNat f → Q (.inl (some (.int (Int32.ofNat 0)))) (mk sh D') c s)
    (ky : ∀ S' p' D', lnL b n S p = .inr (S', p') → MS D D' → RC b n S' nl D' p' → Q (.inl (some (.int (Int32.ofNat 1)))) (mk sh D') c s) :
    Wx (tP nx xs) (d + 6) 235 0 [some (.ref 286)] [] (mk sh D) c s Q := by
  have n10 : ¬ (Int32.ofNat 1 : Int32) = Int32.ofNat 0 := by decide
  have rc : ∀ {w : List Nat}, isW b n w p = true → RC b n S nl D (sk b n (p + w.length)) := fun {w} h => ⟨TpR.of rb M1.rf (ru_le hp) (by rw [show ru b n 97 122 p = le b n p from rfl, (isW_iff.mp h).1]) e10, R, I⟩
  have kw := fun (i : Nat) (w : List Nat) (hi : i < 80) (hx : isTx i 0 w = true) (hl : (tTx.getD i []).length = w.length) (e c s : Nat) (Q : av_Q) => k220 (nx := nx) (xs := xs) (d := e) (c := c) (s := s) (Q := Q) hw HS tb rb hp e10 e12 hi hx hl
  unfold lnL at kf ky
  simp only [stWs, oneF] at kf ky
  rw [b235_0 hw]
  simp only [mI_thrown HS, mF_thrown HS, mR_row HS, mR_image HS, mR_earlier HS, mR_trial HS, mR_acts HS, mI_hasImage HS, mF_hasImage HS, mI_remembered HS, mF_remembered HS, mR_tape HS, mI_taped HS, mF_taped HS, mI_point HS, mF_point HS, mI_end HS, mF_end HS, mI_begin HS, mF_begin HS, mI_deep HS, mF_deep HS, mI_faultAt HS, mF_faultAt HS, mR_five HS, mI_codes HS, mF_codes HS, mR_value HS, mI_so HS, mF_so HS, mR_lines HS, mR_chosen HS, mR_best HS, mR_members HS, mR_paired HS, mO HS, mA_287 HS, mW_287 HS, mA_288 HS, mW_288 HS, mA_289 HS, mW_289 HS, mA_290 HS, mW_290 HS, mA_291 HS, mW_291 HS, mA_292 HS, mW_292 HS, mA_293 HS, mW_293 HS, mA_294 HS, mW_294 HS, mA_295 HS, mW_295 HS, mA_296 HS, mW_296 HS, mA_297 HS, mW_297 HS, mA_298 HS, mW_298 HS, mA_299 HS, mW_299 HS, wi_some, or_0, or_1, bo_or, ite_boP, true_and, and_true, kN_v, kN_n, kT_v, kT_n, kT_e, Nat.add_zero, Nat.zero_add]
  rw [kw 41 wThing (by decide) (by decide +kernel) (by decide +kernel)]
  simp only [wi_some, or_0, or_1, bo_or, ite_boP, true_and, and_true, kN_v, kN_n, kT_v, kT_n, kT_e, Nat.add_zero, Nat.zero_add, b235_6 hw, mI_thrown HS, mF_thrown HS, mR_row HS, mR_image HS, mR_earlier HS, mR_trial HS, mR_acts HS, mI_hasImage HS, mF_hasImage HS, mI_remembered HS, mF_remembered HS, mR_tape HS, mI_taped HS, mF_taped HS, mI_point HS, mF_point HS, mI_end HS, mF_end HS, mI_begin HS, mF_begin HS, mI_deep HS, mF_deep HS, mI_faultAt HS, mF_faultAt HS, mR_five HS, mI_codes HS, mF_codes HS, mR_value HS, mI_so HS, mF_so HS, mR_lines HS, mR_chosen HS, mR_best HS, mR_members HS, mR_paired HS, mO HS, mA_287 HS, mW_287 HS, mA_288 HS, mW_288 HS, mA_289 HS, mW_289 HS, mA_290 HS, mW_290 HS, mA_291 HS, mW_291 HS, mA_292 HS, mW_292 HS, mA_293 HS, mW_293 HS, mA_294 HS, mW_294 HS, mA_295 HS, mW_295 HS, mA_296 HS, mW_296 HS, mA_297 HS, mW_297 HS, mA_298 HS, mW_298 HS, mA_299 HS, mW_299 HS]
  cases h0 : isW b n wThing p with
  | true =>
    simp only [h0, if_true] at kf ky ⊢
    refine k229 (p0 := p) hw HS tb (rc h0) e12 ?_ ?_
    · intro f D' h g1 g2
      simp only [wi_some, or_0, or_1, bo_or, ite_boP, true_and, and_true, kN_v, kN_n, kT_v, kT_n, kT_e, Nat.add_zero, Nat.zero_add, b235_13 hw]
      exact kf f D' h g1 g2
    · intro S' p' D' h g1 g2
      simp only [wi_some, or_0, or_1, bo_or, ite_boP, true_and, and_true, kN_v, kN_n, kT_v, kT_n, kT_e, Nat.add_zero, Nat.zero_add, b235_13 hw]
      exact ky S' p' D' h g1 g2
  | false =>
  simp only [h0, Bool.false_eq_true, if_false] at kf ky ⊢
  rw [kw 45 wMakes (by decide) (by decide +kernel) (by decide +kernel)]
  simp only [wi_some, or_0, or_1, bo_or, ite_boP, true_and, and_true, kN_v, kN_n, kT_v, kT_n, kT_e, Nat.add_zero, Nat.zero_add, b235_20 hw, mI_thrown HS, mF_thrown HS, mR_row HS, mR_image HS, mR_earlier HS, mR_trial HS, mR_acts HS, mI_hasImage HS, mF_hasImage HS, mI_remembered HS, mF_remembered HS, mR_tape HS, mI_taped HS, mF_taped HS, mI_point HS, mF_point HS, mI_end HS, mF_end HS, mI_begin HS, mF_begin HS, mI_deep HS, mF_deep HS, mI_faultAt HS, mF_faultAt HS, mR_five HS, mI_codes HS, mF_codes HS, mR_value HS, mI_so HS, mF_so HS, mR_lines HS, mR_chosen HS, mR_best HS, mR_members HS, mR_paired HS, mO HS, mA_287 HS, mW_287 HS, mA_288 HS, mW_288 HS, mA_289 HS, mW_289 HS, mA_290 HS, mW_290 HS, mA_291 HS, mW_291 HS, mA_292 HS, mW_292 HS, mA_293 HS, mW_293 HS, mA_294 HS, mW_294 HS, mA_295 HS, mW_295 HS, mA_296 HS, mW_296 HS, mA_297 HS, mW_297 HS, mA_298 HS, mW_298 HS, mA_299 HS, mW_299 HS]
  cases h1 : isW b n wMakes p with
  | true =>
    simp only [h1, if_true] at kf ky ⊢
    refine k230 (m := true) hw HS tb (rc h1) ?_ ?_
    · intro f D' h g1 g2
      simp only [wi_some, or_0, or_1, bo_or, ite_boP, true_and, and_true, kN_v, kN_n, kT_v, kT_n, kT_e, Nat.add_zero, Nat.zero_add, b235_29 hw]
      exact kf f D' h g1 g2
    · intro S' p' D' h g1 g2
      simp only [wi_some, or_0, or_1, bo_or, ite_boP, true_and, and_true, kN_v, kN_n, kT_v, kT_n, kT_e, Nat.add_zero, Nat.zero_add, b235_29 hw]
      exact ky S' p' D' h g1 g2
  | false =>
  simp only [h1, Bool.false_eq_true, if_false] at kf ky ⊢
  rw [kw 46 wHinders (by decide) (by decide +kernel) (by decide +kernel)]
  simp only [wi_some, or_0, or_1, bo_or, ite_boP, true_and, and_true, kN_v, kN_n, kT_v, kT_n, kT_e, Nat.add_zero, Nat.zero_add, b235_36 hw, mI_thrown HS, mF_thrown HS, mR_row HS, mR_image HS, mR_earlier HS, mR_trial HS, mR_acts HS, mI_hasImage HS, mF_hasImage HS, mI_remembered HS, mF_remembered HS, mR_tape HS, mI_taped HS, mF_taped HS, mI_point HS, mF_point HS, mI_end HS, mF_end HS, mI_begin HS, mF_begin HS, mI_deep HS, mF_deep HS, mI_faultAt HS, mF_faultAt HS, mR_five HS, mI_codes HS, mF_codes HS, mR_value HS, mI_so HS, mF_so HS, mR_lines HS, mR_chosen HS, mR_best HS, mR_members HS, mR_paired HS, mO HS, mA_287 HS, mW_287 HS, mA_288 HS, mW_288 HS, mA_289 HS, mW_289 HS, mA_290 HS, mW_290 HS, mA_291 HS, mW_291 HS, mA_292 HS, mW_292 HS, mA_293 HS, mW_293 HS, mA_294 HS, mW_294 HS, mA_295 HS, mW_295 HS, mA_296 HS, mW_296 HS, mA_297 HS, mW_297 HS, mA_298 HS, mW_298 HS, mA_299 HS, mW_299 HS]
  cases h2 : isW b n wHinders p with
  | true =>
    simp only [h2, if_true] at kf ky ⊢
    refine k230 (m := false) hw HS tb (rc h2) ?_ ?_
    · intro f D' h g1 g2
      simp only [wi_some, or_0, or_1, bo_or, ite_boP, true_and, and_true, kN_v, kN_n, kT_v, kT_n, kT_e, Nat.add_zero, Nat.zero_add, b235_45 hw]
      exact kf f D' h g1 g2
    · intro S' p' D' h g1 g2
      simp only [wi_some, or_0, or_1, bo_or, ite_boP, true_and, and_true, kN_v, kN_n, kT_v, kT_n, kT_e, Nat.add_zero, Nat.zero_add, b235_45 hw]
      exact ky S' p' D' h g1 g2
  | false =>
  simp only [h2, Bool.false_eq_true, if_false] at kf ky ⊢
  rw [kw 47 wGoer (by decide) (by decide +kernel) (by decide +kernel)]
  simp only [wi_some, or_0, or_1, bo_or, ite_boP, true_and, and_true, kN_v, kN_n, kT_v, kT_n, kT_e, Nat.add_zero, Nat.zero_add, b235_52 hw, mI_thrown HS, mF_thrown HS, mR_row HS, mR_image HS, mR_earlier HS, mR_trial HS, mR_acts HS, mI_hasImage HS, mF_hasImage HS, mI_remembered HS, mF_remembered HS, mR_tape HS, mI_taped HS, mF_taped HS, mI_point HS, mF_point HS, mI_end HS, mF_end HS, mI_begin HS, mF_begin HS, mI_deep HS, mF_deep HS, mI_faultAt HS, mF_faultAt HS, mR_five HS, mI_codes HS, mF_codes HS, mR_value HS, mI_so HS, mF_so HS, mR_lines HS, mR_chosen HS, mR_best HS, mR_members HS, mR_paired HS, mO HS, mA_287 HS, mW_287 HS, mA_288 HS, mW_288 HS, mA_289 HS, mW_289 HS, mA_290 HS, mW_290 HS, mA_291 HS, mW_291 HS, mA_292 HS, mW_292 HS, mA_293 HS, mW_293 HS, mA_294 HS, mW_294 HS, mA_295 HS, mW_295 HS, mA_296 HS, mW_296 HS, mA_297 HS, mW_297 HS, mA_298 HS, mW_298 HS, mA_299 HS, mW_299 HS]
  cases h3 : isW b n wGoer p with
  | true =>
    simp only [h3, if_true] at kf ky ⊢
    refine k231 (p0 := p) hw HS tb (rc h3) e12 ?_ ?_
    · intro f D' h g1 g2
      simp only [wi_some, or_0, or_1, bo_or, ite_boP, true_and, and_true, kN_v, kN_n, kT_v, kT_n, kT_e, Nat.add_zero, Nat.zero_add, b235_59 hw]
      exact kf f D' h g1 g2
    · intro S' p' D' h g1 g2
      simp only [wi_some, or_0, or_1, bo_or, ite_boP, true_and, and_true, kN_v, kN_n, kT_v, kT_n, kT_e, Nat.add_zero, Nat.zero_add, b235_59 hw]
      exact ky S' p' D' h g1 g2
  | false =>
  simp only [h3, Bool.false_eq_true, if_false] at kf ky ⊢
  rw [kw 54 wShuns (by decide) (by decide +kernel) (by decide +kernel)]
  simp only [wi_some, or_0, or_1, bo_or, ite_boP, true_and, and_true, kN_v, kN_n, kT_v, kT_n, kT_e, Nat.add_zero, Nat.zero_add, b235_66 hw, mI_thrown HS, mF_thrown HS, mR_row HS, mR_image HS, mR_earlier HS, mR_trial HS, mR_acts HS, mI_hasImage HS, mF_hasImage HS, mI_remembered HS, mF_remembered HS, mR_tape HS, mI_taped HS, mF_taped HS, mI_point HS, mF_point HS, mI_end HS, mF_end HS, mI_begin HS, mF_begin HS, mI_deep HS, mF_deep HS, mI_faultAt HS, mF_faultAt HS, mR_five HS, mI_codes HS, mF_codes HS, mR_value HS, mI_so HS, mF_so HS, mR_lines HS, mR_chosen HS, mR_best HS, mR_members HS, mR_paired HS, mO HS, mA_287 HS, mW_287 HS, mA_288 HS, mW_288 HS, mA_289 HS, mW_289 HS, mA_290 HS, mW_290 HS, mA_291 HS, mW_291 HS, mA_292 HS, mW_292 HS, mA_293 HS, mW_293 HS, mA_294 HS, mW_294 HS, mA_295 HS, mW_295 HS, mA_296 HS, mW_296 HS, mA_297 HS, mW_297 HS, mA_298 HS, mW_298 HS, mA_299 HS, mW_299 HS]
  cases h4 : isW b n wShuns p with
  | true =>
    simp only [h4, if_true] at kf ky ⊢
    refine k232 hw HS tb (rc h4) ?_ ?_
    · intro f D' h g1 g2
      simp only [wi_some, or_0, or_1, bo_or, ite_boP, true_and, and_true, kN_v, kN_n, kT_v, kT_n, kT_e, Nat.add_zero, Nat.zero_add, b235_73 hw]
      exact kf f D' h g1 g2
    · intro S' p' D' h g1 g2
      simp only [wi_some, or_0, or_1, bo_or, ite_boP, true_and, and_true, kN_v, kN_n, kT_v, kT_n, kT_e, Nat.add_zero, Nat.zero_add, b235_73 hw]
      exact ky S' p' D' h g1 g2
  | false =>
  simp only [h4, Bool.false_eq_true, if_false] at kf ky ⊢
  rw [kw 55 wTrain (by decide) (by decide +kernel) (by decide +kernel)]
  simp only [wi_some, or_0, or_1, bo_or, ite_boP, true_and, and_true, kN_v, kN_n, kT_v, kT_n, kT_e, Nat.add_zero, Nat.zero_add, b235_80 hw, mI_thrown HS, mF_thrown HS, mR_row HS, mR_image HS, mR_earlier HS, mR_trial HS, mR_acts HS, mI_hasImage HS, mF_hasImage HS, mI_remembered HS, mF_remembered HS, mR_tape HS, mI_taped HS, mF_taped HS, mI_point HS, mF_point HS, mI_end HS, mF_end HS, mI_begin HS, mF_begin HS, mI_deep HS, mF_deep HS, mI_faultAt HS, mF_faultAt HS, mR_five HS, mI_codes HS, mF_codes HS, mR_value HS, mI_so HS, mF_so HS, mR_lines HS, mR_chosen HS, mR_best HS, mR_members HS, mR_paired HS, mO HS, mA_287 HS, mW_287 HS, mA_288 HS, mW_288 HS, mA_289 HS, mW_289 HS, mA_290 HS, mW_290 HS, mA_291 HS, mW_291 HS, mA_292 HS, mW_292 HS, mA_293 HS, mW_293 HS, mA_294 HS, mW_294 HS, mA_295 HS, mW_295 HS, mA_296 HS, mW_296 HS, mA_297 HS, mW_297 HS, mA_298 HS, mW_298 HS, mA_299 HS, mW_299 HS]
  cases h5 : isW b n wTrain p with
  | true =>
    simp only [h5, if_true] at kf ky ⊢
    refine k234 (p0 := p) hw HS tb (rc h5) e12 ?_ ?_
    · intro f D' h g1 g2
      simp only [wi_some, or_0, or_1, bo_or, ite_boP, true_and, and_true, kN_v, kN_n, kT_v, kT_n, kT_e, Nat.add_zero, Nat.zero_add, b235_87 hw]
      exact kf f D' h g1 g2
    · intro S' p' D' h g1 g2
      simp only [wi_some, or_0, or_1, bo_or, ite_boP, true_and, and_true, kN_v, kN_n, kT_v, kT_n, kT_e, Nat.add_zero, Nat.zero_add, b235_87 hw]
      exact ky S' p' D' h g1 g2
  | false =>
  simp only [h5, Bool.false_eq_true, if_false] at kf ky ⊢
  rw [kw 58 wDay (by decide) (by decide +kernel) (by decide +kernel)]
  simp only [wi_some, or_0, or_1, bo_or, ite_boP, true_and, and_true, kN_v, kN_n, kT_v, kT_n, kT_e, Nat.add_zero, Nat.zero_add, b235_94 hw, mI_thrown HS, mF_thrown HS, mR_row HS, mR_image HS, mR_earlier HS, mR_trial HS, mR_acts HS, mI_hasImage HS, mF_hasImage HS, mI_remembered HS, mF_remembered HS, mR_tape HS, mI_taped HS, mF_taped HS, mI_point HS, mF_point HS, mI_end HS, mF_end HS, mI_begin HS, mF_begin HS, mI_deep HS, mF_deep HS, mI_faultAt HS, mF_faultAt HS, mR_five HS, mI_codes HS, mF_codes HS, mR_value HS, mI_so HS, mF_so HS, mR_lines HS, mR_chosen HS, mR_best HS, mR_members HS, mR_paired HS, mO HS, mA_287 HS, mW_287 HS, mA_288 HS, mW_288 HS, mA_289 HS, mW_289 HS, mA_290 HS, mW_290 HS, mA_291 HS, mW_291 HS, mA_292 HS, mW_292 HS, mA_293 HS, mW_293 HS, mA_294 HS, mW_294 HS, mA_295 HS, mW_295 HS, mA_296 HS, mW_296 HS, mA_297 HS, mW_297 HS, mA_298 HS, mW_298 HS, mA_299 HS, mW_299 HS]
  cases h6 : isW b n wDay p with
  | true =>
    simp only [h6, if_true] at kf ky ⊢
    refine k228 hw HS tb (rc h6) ?_ ?_
    · intro f D' h g1 g2
      simp only [wi_some, or_0, or_1, bo_or, ite_boP, true_and, and_true, kN_v, kN_n, kT_v, kT_n, kT_e, Nat.add_zero, Nat.zero_add, b235_106 hw, if_true, b235_113 hw, b235_114 hw]
      exact kf f D' h g1 g2
    · intro S' p' D' h g1 g2
      simp only [wi_some, or_0, or_1, bo_or, ite_boP, true_and, and_true, kN_v, kN_n, kT_v, kT_n, kT_e, Nat.add_zero, Nat.zero_add, b235_106 hw, n10, if_false, b235_114 hw]
      exact ky S' p' D' h g1 g2
  | false =>
    simp only [h6, Bool.false_eq_true, if_false, b235_113 hw, b235_114 hw, or_0, true_and] at kf ⊢
    exact kf p D rfl MS.rf e12
theorem k245s {k : Nat} (hw : WT sh) (HS : SP sh) (tb : TB b n) (rc : RC b n S nl D p) (hk : k < 100)
    (kf : ∀ f D', (if k < 14 then lnL b n S p else .inl p) = .inl f → MS D D' → D' 286 12 = Int32.ofNat f → Q (.inl (some (.int (Int32.ofNat 0)))) (mk sh D') c s)
    (ky : ∀ S' p' D', (if k < 14 then lnL b n S p else .inl p) = .inr (S', p') → MS D D' → RC b n S' nl D' p' → Q (.inl (some (.int (Int32.ofNat 1)))) (mk sh D') c s) :
    Wx (tP nx xs) (d + 7) 245 0 [some (.ref 286), (some (.int (Int32.ofNat 1))), (some (.int (Int32.ofNat k)))] [] (mk sh D) c s Q := by
  have n10 : ¬ (Int32.ofNat 1 : Int32) = Int32.ofNat 0 := by decide
  have hp := rc.1.le
  simp only [b245_0 hw, mI_thrown HS, mF_thrown HS, mR_row HS, mR_image HS, mR_earlier HS, mR_trial HS, mR_acts HS, mI_hasImage HS, mF_hasImage HS, mI_remembered HS, mF_remembered HS, mR_tape HS, mI_taped HS, mF_taped HS, mI_point HS, mF_point HS, mI_end HS, mF_end HS, mI_begin HS, mF_begin HS, mI_deep HS, mF_deep HS, mI_faultAt HS, mF_faultAt HS, mR_five HS, mI_codes HS, mF_codes HS, mR_value HS, mI_so HS, mF_so HS, mR_lines HS, mR_chosen HS, mR_best HS, mR_members HS, mR_paired HS, mO HS, mA_287 HS, mW_287 HS, mA_288 HS, mW_288 HS, mA_289 HS, mW_289 HS, mA_290 HS, mW_290 HS, mA_291 HS, mW_291 HS, mA_292 HS, mW_292 HS, mA_293 HS, mW_293 HS, mA_294 HS, mW_294 HS, mA_295 HS, mW_295 HS, mA_296 HS, mW_296 HS, mA_297 HS, mW_297 HS, mA_298 HS, mW_298 HS, mA_299 HS, mW_299 HS, wi_some, or_0, or_1, bo_or, ite_boP, true_and, and_true, kN_v, kN_n, kT_v, kT_n, kT_e, Nat.add_zero, Nat.zero_add]
  refine k219 hw HS tb rc.1 ?_
  intro D1 m1 rb1 e1 f1
  have R1 : Rw (D1 287) S.1 S.2.1 S.2.2.1 S.2.2.2 nl := by rw [m1.r7]; exact rc.2.1
  simp only [wi_some, or_0, or_1, bo_or, ite_boP, true_and, and_true, kN_v, kN_n, kT_v, kT_n, kT_e, Nat.add_zero, Nat.zero_add, b245_4 hw, n10, if_false, b245_16 hw, oN_lt (show k < 2147483648 by omega) (show 14 < 2147483648 by omega), mI_thrown HS, mF_thrown HS, mR_row HS, mR_image HS, mR_earlier HS, mR_trial HS, mR_acts HS, mI_hasImage HS, mF_hasImage HS, mI_remembered HS, mF_remembered HS, mR_tape HS, mI_taped HS, mF_taped HS, mI_point HS, mF_point HS, mI_end HS, mF_end HS, mI_begin HS, mF_begin HS, mI_deep HS, mF_deep HS, mI_faultAt HS, mF_faultAt HS, mR_five HS, mI_codes HS, mF_codes HS, mR_value HS, mI_so HS, mF_so HS, mR_lines HS, mR_chosen HS, mR_best HS, mR_members HS, mR_paired HS, mO HS, mA_287 HS, mW_287 HS, mA_288 HS, mW_288 HS, mA_289 HS, mW_289 HS, mA_290 HS, mW_290 HS, mA_291 HS, mW_291 HS, mA_292 HS, mW_292 HS, mA_293 HS, mW_293 HS, mA_294 HS, mW_294 HS, mA_295 HS, mW_295 HS, mA_296 HS, mW_296 HS, mA_297 HS, mW_297 HS, mA_298 HS, mW_298 HS, mA_299 HS, mW_299 HS]
  by_cases h : k < 14
  · simp only [h, if_true] at kf ky ⊢
    refine k235 hw HS tb rb1 R1 rc.2.2 hp.1 e1 f1 ?_ ?_
    · intro f D' h g1 g2
      simp only [wi_some, or_0, or_1, bo_or, ite_boP, true_and, and_true, kN_v, kN_n, kT_v, kT_n, kT_e, Nat.add_zero, Nat.zero_add, b245_27 hw, if_true, b245_45 hw, b245_46 hw]
      exact kf f D' h (m1.ms.tr g1) g2
    · intro S' p' D' h g1 g2
      simp only [wi_some, or_0, or_1, bo_or, ite_boP, true_and, and_true, kN_v, kN_n, kT_v, kT_n, kT_e, Nat.add_zero, Nat.zero_add, b245_27 hw, n10, if_false, b245_41 hw, b245_46 hw]
      exact ky S' p' D' h (m1.ms.tr g1) g2
  · simp only [h, if_false, b245_45 hw, b245_46 hw, or_0, true_and] at kf ⊢
    exact kf p D1 rfl m1.ms f1
/-- what reading a text may change besides -/
def MU (D D' : sD) : Prop := ∀ e i, ¬ (e = 286 ∧ (i = 0 ∨ i = 9 ∨ i = 10 ∨ i = 11 ∨ i = 12 ∨ i = 13 ∨ i = 16)) → ¬ (e = 287 ∧ i < 112 ∧ i ≠ 4) → ¬ (e = 287 ∧ 1201 ≤ i) → D' e i = D e i
theorem MS.mu {D D' : sD} (h : MS D D') : MU D D' := fun e i h1 h2 _ => h e i (by omega) h2
theorem MU.tr {D D' D'' : sD} (h : MU D D') (h' : MU D' D'') : MU D D'' := fun e i h1 h2 h3 => (h' e i h1 h2 h3).trans (h e i h1 h2 h3)
theorem k227u (hw : WT sh) (HS : SP sh) : Wx (tP nx xs) d 227 0 [some (.ref 286)] [] (mk sh D) c s Q = Q (.inl none) (mk sh (u2 (u2 (u2 (u2 D 286 0 (Int32.ofNat 0)) 286 11 (D 286 9)) 286 9 (Int32.ofNat 0)) 286 10 (Int32.ofNat 0))) c s := by
  have e : u2 D 286 0 (Int32.ofNat 0) 286 9 = D 286 9 := by rw [u2_at, if_neg (by omega)]
  simp only [b227_0 hw, b227_5 hw, b227_13 hw, b227_18 hw, b227_23 hw, mI_thrown HS, mF_thrown HS, mR_row HS, mR_image HS, mR_earlier HS, mR_trial HS, mR_acts HS, mI_hasImage HS, mF_hasImage HS, mI_remembered HS, mF_remembered HS, mR_tape HS, mI_taped HS, mF_taped HS, mI_point HS, mF_point HS, mI_end HS, mF_end HS, mI_begin HS, mF_begin HS, mI_deep HS, mF_deep HS, mI_faultAt HS, mF_faultAt HS, mR_five HS, mI_codes HS, mF_codes HS, mR_value HS, mI_so HS, mF_so HS, mR_lines HS, mR_chosen HS, mR_best HS, mR_members HS, mR_paired HS, mO HS, mA_287 HS, mW_287 HS, mA_288 HS, mW_288 HS, mA_289 HS, mW_289 HS, mA_290 HS, mW_290 HS, mA_291 HS, mW_291 HS, mA_292 HS, mW_292 HS, mA_293 HS, mW_293 HS, mA_294 HS, mW_294 HS, mA_295 HS, mW_295 HS, mA_296 HS, mW_296 HS, mA_297 HS, mW_297 HS, mA_298 HS, mW_298 HS, mA_299 HS, mW_299 HS, wi_some, or_0, or_1, bo_or, ite_boP, true_and, and_true, kN_v, kN_n, kT_v, kT_n, kT_e, Nat.add_zero, Nat.zero_add, e]
theorem k246s (hw : WT sh) (HS : SP sh) (tb : TB b n) (h9 : D 286 9 = Int32.ofNat n) (hb : ∀ i, i < n → D 292 i = by8 (Int32.ofNat (b i))) (R : Rw (D 287) S.1 S.2.1 S.2.2.1 S.2.2.2 nl) (I : Iv S.1 S.2.1 S.2.2.1 S.2.2.2 nl)
    (kf : ∀ f D', txL b n S = .inl f → MU D D' → D' 286 12 = Int32.ofNat f → D' 286 9 = Int32.ofNat 0 → D' 286 0 = Int32.ofNat 0 → Q (.inl (some (.int (-1)))) (mk sh D') c s)
    (ky : ∀ S' m D', txL b n S = .inr S' → m < 100 → MU D D' → Rw (D' 287) S'.1 S'.2.1 S'.2.2.1 S'.2.2.2 nl → Iv S'.1 S'.2.1 S'.2.2.1 S'.2.2.2 nl → D' 286 9 = Int32.ofNat 0 → D' 286 0 = Int32.ofNat 0 → Q (.inl (some (.int (Int32.ofNat m)))) (mk sh D') c s) :
    Wx (tP nx xs) (d + 8) 246 0 [some (.ref 286), (some (.int (Int32.ofNat 1))), none] [] (mk sh D) c s Q := by
  have n10 : ¬ (Int32.ofNat 1 : Int32) = Int32.ofNat 0 := by decide
  have hn := tb.1
  have h0 : sk b n 0 ≤ n := sk_le (Nat.zero_le _)
  simp only [b246_0 hw, mI_thrown HS, mF_thrown HS, mR_row HS, mR_image HS, mR_earlier HS, mR_trial HS, mR_acts HS, mI_hasImage HS, mF_hasImage HS, mI_remembered HS, mF_remembered HS, mR_tape HS, mI_taped HS, mF_taped HS, mI_point HS, mF_point HS, mI_end HS, mF_end HS, mI_begin HS, mF_begin HS, mI_deep HS, mF_deep HS, mI_faultAt HS, mF_faultAt HS, mR_five HS, mI_codes HS, mF_codes HS, mR_value HS, mI_so HS, mF_so HS, mR_lines HS, mR_chosen HS, mR_best HS, mR_members HS, mR_paired HS, mO HS, mA_287 HS, mW_287 HS, mA_288 HS, mW_288 HS, mA_289 HS, mW_289 HS, mA_290 HS, mW_290 HS, mA_291 HS, mW_291 HS, mA_292 HS, mW_292 HS, mA_293 HS, mW_293 HS, mA_294 HS, mW_294 HS, mA_295 HS, mW_295 HS, mA_296 HS, mW_296 HS, mA_297 HS, mW_297 HS, mA_298 HS, mW_298 HS, mA_299 HS, mW_299 HS, wi_some, or_0, or_1, bo_or, ite_boP, true_and, and_true, kN_v, kN_n, kT_v, kT_n, kT_e, Nat.add_zero, Nat.zero_add, k227u hw HS, b246_4 hw, b246_9 hw, h9]
  generalize hD0 : u2 (u2 (u2 (u2 (u2 D 286 0 (Int32.ofNat 0)) 286 11 (Int32.ofNat n)) 286 9 (Int32.ofNat 0)) 286 10 (Int32.ofNat 0)) 286 16 (Int32.ofNat 0) = D0
  have u0 : MU D D0 := fun e i h1 h2 h3 => by rw [← hD0, u2_at, if_neg (by omega), u2_at, if_neg (by omega), u2_at, if_neg (by omega), u2_at, if_neg (by omega), u2_at, if_neg (by omega)]
  have e9 : D0 286 9 = Int32.ofNat 0 := by rw [← hD0, u2_at, if_neg (by omega), u2_at, if_neg (by omega), u2_at, if_pos ⟨rfl, rfl⟩]
  have e0 : D0 286 0 = Int32.ofNat 0 := by rw [← hD0, u2_at, if_neg (by omega), u2_at, if_neg (by omega), u2_at, if_neg (by omega), u2_at, if_neg (by omega), u2_at, if_pos ⟨rfl, rfl⟩]
  have r0 : D0 287 = D 287 := funext fun i => by rw [← hD0, u2_at, if_neg (by omega), u2_at, if_neg (by omega), u2_at, if_neg (by omega), u2_at, if_neg (by omega), u2_at, if_neg (by omega)]
  have rb0 : RB b n D0 := ⟨by rw [← hD0, u2_at, if_neg (by omega), u2_at, if_neg (by omega), u2_at, if_neg (by omega), u2_at, if_pos ⟨rfl, rfl⟩], fun i hi => by rw [u0 292 i (by omega) (by omega) (by omega)]; exact hb i hi⟩
  have e10 : D0 286 10 = Int32.ofNat 0 := by rw [← hD0, u2_at, if_neg (by omega), u2_at, if_pos ⟨rfl, rfl⟩]
  refine k218 hw HS tb rb0 e10 (Nat.zero_le _) ?_
  intro D1 m1 a10 a12
  have R1 : Rw (D1 287) S.1 S.2.1 S.2.2.1 S.2.2.2 nl := by rw [m1.r7, r0]; exact R
  have e11 := (rb0.m1 m1).1
  have q9 : ∀ {D' : sD}, MS D1 D' → D' 286 9 = Int32.ofNat 0 ∧ D' 286 0 = Int32.ofNat 0 := fun {D'} h => ⟨by rw [h 286 9 (by omega) (by omega), m1 286 9 (by omega)]; exact e9, by rw [h 286 0 (by omega) (by omega), m1 286 0 (by omega)]; exact e0⟩
  unfold txL at kf ky
  simp only [wi_some, or_0, or_1, bo_or, ite_boP, true_and, and_true, kN_v, kN_n, kT_v, kT_n, kT_e, Nat.add_zero, Nat.zero_add, b246_13 hw, mI_thrown HS, mF_thrown HS, mR_row HS, mR_image HS, mR_earlier HS, mR_trial HS, mR_acts HS, mI_hasImage HS, mF_hasImage HS, mI_remembered HS, mF_remembered HS, mR_tape HS, mI_taped HS, mF_taped HS, mI_point HS, mF_point HS, mI_end HS, mF_end HS, mI_begin HS, mF_begin HS, mI_deep HS, mF_deep HS, mI_faultAt HS, mF_faultAt HS, mR_five HS, mI_codes HS, mF_codes HS, mR_value HS, mI_so HS, mF_so HS, mR_lines HS, mR_chosen HS, mR_best HS, mR_members HS, mR_paired HS, mO HS, mA_287 HS, mW_287 HS, mA_288 HS, mW_288 HS, mA_289 HS, mW_289 HS, mA_290 HS, mW_290 HS, mA_291 HS, mW_291 HS, mA_292 HS, mW_292 HS, mA_293 HS, mW_293 HS, mA_294 HS, mW_294 HS, mA_295 HS, mW_295 HS, mA_296 HS, mW_296 HS, mA_297 HS, mW_297 HS, mA_298 HS, mW_298 HS, mA_299 HS, mW_299 HS, a10, e11, oN_eq (show sk b n 0 < 2147483648 by omega) (show n < 2147483648 by omega)]
  by_cases he : sk b n 0 = n
  · simp only [he, if_true] at ky ⊢
    exact ky S 0 D1 rfl (by decide) (u0.tr m1.ms.mu) R1 I (q9 MS.rf).1 (q9 MS.rf).2
  · simp only [he, if_false] at kf ky ⊢
    have lp : ∀ k S p D2, k ≤ 14 → MS D1 D2 → RC b n S nl D2 p → (∀ f D', lnsL b n k S p = .inl f → MS D1 D' → D' 286 12 = Int32.ofNat f → Q (.inl (some (.int (-1)))) (mk sh D') c s) → (∀ S' m D', lnsL b n k S p = .inr S' → m < 100 → MS D1 D' → Rw (D' 287) S'.1 S'.2.1 S'.2.2.1 S'.2.2.2 nl → Iv S'.1 S'.2.1 S'.2.2.1 S'.2.2.2 nl → Q (.inl (some (.int (Int32.ofNat m)))) (mk sh D') c s) → Wx (tP nx xs) (d + 8) 246 28 [some (.ref 286), (some (.int (Int32.ofNat 1))), (some (.int (Int32.ofNat (14 - k))))] [] (mk sh D2) c s Q := by
      intro k
      induction k with
      | zero =>
        intro S p D2 _ g2 rc2 kf ky
        rw [b246_28 hw]
        simp only [mI_thrown HS, mF_thrown HS, mR_row HS, mR_image HS, mR_earlier HS, mR_trial HS, mR_acts HS, mI_hasImage HS, mF_hasImage HS, mI_remembered HS, mF_remembered HS, mR_tape HS, mI_taped HS, mF_taped HS, mI_point HS, mF_point HS, mI_end HS, mF_end HS, mI_begin HS, mF_begin HS, mI_deep HS, mF_deep HS, mI_faultAt HS, mF_faultAt HS, mR_five HS, mI_codes HS, mF_codes HS, mR_value HS, mI_so HS, mF_so HS, mR_lines HS, mR_chosen HS, mR_best HS, mR_members HS, mR_paired HS, mO HS, mA_287 HS, mW_287 HS, mA_288 HS, mW_288 HS, mA_289 HS, mW_289 HS, mA_290 HS, mW_290 HS, mA_291 HS, mW_291 HS, mA_292 HS, mW_292 HS, mA_293 HS, mW_293 HS, mA_294 HS, mW_294 HS, mA_295 HS, mW_295 HS, mA_296 HS, mW_296 HS, mA_297 HS, mW_297 HS, mA_298 HS, mW_298 HS, mA_299 HS, mW_299 HS, wi_some, or_0, or_1, bo_or, ite_boP, true_and, and_true, kN_v, kN_n, kT_v, kT_n, kT_e, Nat.add_zero, Nat.zero_add]
        refine k245s hw HS tb rc2 (by decide) ?_ ?_
        · intro f D3 h g3 e3
          simp only [show ¬ 14 - 0 < 14 by decide, if_false] at h
          cases h
          simp only [wi_some, or_0, or_1, bo_or, ite_boP, true_and, and_true, kN_v, kN_n, kT_v, kT_n, kT_e, Nat.add_zero, Nat.zero_add, b246_34 hw, if_true]
          exact kf _ D3 rfl (g2.tr g3) e3
        · intro S' p' D3 h
          simp only [show ¬ 14 - 0 < 14 by decide, if_false] at h
          cases h
      | succ k ih =>
        intro S p D2 hk g2 rc2 kf ky
        unfold lnsL at kf ky
        rw [b246_28 hw]
        simp only [mI_thrown HS, mF_thrown HS, mR_row HS, mR_image HS, mR_earlier HS, mR_trial HS, mR_acts HS, mI_hasImage HS, mF_hasImage HS, mI_remembered HS, mF_remembered HS, mR_tape HS, mI_taped HS, mF_taped HS, mI_point HS, mF_point HS, mI_end HS, mF_end HS, mI_begin HS, mF_begin HS, mI_deep HS, mF_deep HS, mI_faultAt HS, mF_faultAt HS, mR_five HS, mI_codes HS, mF_codes HS, mR_value HS, mI_so HS, mF_so HS, mR_lines HS, mR_chosen HS, mR_best HS, mR_members HS, mR_paired HS, mO HS, mA_287 HS, mW_287 HS, mA_288 HS, mW_288 HS, mA_289 HS, mW_289 HS, mA_290 HS, mW_290 HS, mA_291 HS, mW_291 HS, mA_292 HS, mW_292 HS, mA_293 HS, mW_293 HS, mA_294 HS, mW_294 HS, mA_295 HS, mW_295 HS, mA_296 HS, mW_296 HS, mA_297 HS, mW_297 HS, mA_298 HS, mW_298 HS, mA_299 HS, mW_299 HS, wi_some, or_0, or_1, bo_or, ite_boP, true_and, and_true, kN_v, kN_n, kT_v, kT_n, kT_e, Nat.add_zero, Nat.zero_add]
        refine k245s hw HS tb rc2 (by omega) ?_ ?_
        · intro f D3 h g3 e3
          rw [if_pos (by omega)] at h
          simp only [h] at kf
          simp only [wi_some, or_0, or_1, bo_or, ite_boP, true_and, and_true, kN_v, kN_n, kT_v, kT_n, kT_e, Nat.add_zero, Nat.zero_add, b246_34 hw, if_true]
          exact kf f D3 rfl (g2.tr g3) e3
        · intro S' p' D3 h g3 rc3
          rw [if_pos (by omega)] at h
          simp only [h] at kf ky
          simp only [wi_some, or_0, or_1, bo_or, ite_boP, true_and, and_true, kN_v, kN_n, kT_v, kT_n, kT_e, Nat.add_zero, Nat.zero_add, b246_34 hw, n10, if_false, mI_thrown HS, mF_thrown HS, mR_row HS, mR_image HS, mR_earlier HS, mR_trial HS, mR_acts HS, mI_hasImage HS, mF_hasImage HS, mI_remembered HS, mF_remembered HS, mR_tape HS, mI_taped HS, mF_taped HS, mI_point HS, mF_point HS, mI_end HS, mF_end HS, mI_begin HS, mF_begin HS, mI_deep HS, mF_deep HS, mI_faultAt HS, mF_faultAt HS, mR_five HS, mI_codes HS, mF_codes HS, mR_value HS, mI_so HS, mF_so HS, mR_lines HS, mR_chosen HS, mR_best HS, mR_members HS, mR_paired HS, mO HS, mA_287 HS, mW_287 HS, mA_288 HS, mW_288 HS, mA_289 HS, mW_289 HS, mA_290 HS, mW_290 HS, mA_291 HS, mW_291 HS, mA_292 HS, mW_292 HS, mA_293 HS, mW_293 HS, mA_294 HS, mW_294 HS, mA_295 HS, mW_295 HS, mA_296 HS, mW_296 HS, mA_297 HS, mW_297 HS, mA_298 HS, mW_298 HS, mA_299 HS, mW_299 HS]
          refine k218t hw HS tb rc3.1 ?_
          intro D4 m4 rb4 f10 f12
          have hp3 := rc3.1.le
          have g4 := (g2.tr g3).tr m4.ms
          have R4 : Rw (D4 287) S'.1 S'.2.1 S'.2.2.1 S'.2.2.2 nl := by rw [m4.r7]; exact rc3.2.1
          simp only [wi_some, or_0, or_1, bo_or, ite_boP, true_and, and_true, kN_v, kN_n, kT_v, kT_n, kT_e, Nat.add_zero, Nat.zero_add, b246_43 hw, mI_thrown HS, mF_thrown HS, mR_row HS, mR_image HS, mR_earlier HS, mR_trial HS, mR_acts HS, mI_hasImage HS, mF_hasImage HS, mI_remembered HS, mF_remembered HS, mR_tape HS, mI_taped HS, mF_taped HS, mI_point HS, mF_point HS, mI_end HS, mF_end HS, mI_begin HS, mF_begin HS, mI_deep HS, mF_deep HS, mI_faultAt HS, mF_faultAt HS, mR_five HS, mI_codes HS, mF_codes HS, mR_value HS, mI_so HS, mF_so HS, mR_lines HS, mR_chosen HS, mR_best HS, mR_members HS, mR_paired HS, mO HS, mA_287 HS, mW_287 HS, mA_288 HS, mW_288 HS, mA_289 HS, mW_289 HS, mA_290 HS, mW_290 HS, mA_291 HS, mW_291 HS, mA_292 HS, mW_292 HS, mA_293 HS, mW_293 HS, mA_294 HS, mW_294 HS, mA_295 HS, mW_295 HS, mA_296 HS, mW_296 HS, mA_297 HS, mW_297 HS, mA_298 HS, mW_298 HS, mA_299 HS, mW_299 HS, f10, rb4.1, oN_eq (show p' < 2147483648 by omega) (show n < 2147483648 by omega), oN_add]
          by_cases hpn : p' = n
          · have hs : sgq b n 59 p' = none := by
              unfold sgq
              cases hB : isB b n 59 59 p' with
              | false => rfl
              | true => have := isB_lt hB; omega
            simp only [hs, if_pos hpn] at ky
            simp only [hpn, if_true]
            exact ky S' _ D4 rfl (by omega) g4 R4 rc3.2.2
          · simp only [hpn, if_false, k217 hw HS tb rb4 f10 hp3.1 (show 59 < 128 by decide) (show 59 < 128 by decide), wi_some, or_0, or_1, bo_or, ite_boP, true_and, and_true, kN_v, kN_n, kT_v, kT_n, kT_e, Nat.add_zero, Nat.zero_add, b246_66 hw, mI_thrown HS, mF_thrown HS, mR_row HS, mR_image HS, mR_earlier HS, mR_trial HS, mR_acts HS, mI_hasImage HS, mF_hasImage HS, mI_remembered HS, mF_remembered HS, mR_tape HS, mI_taped HS, mF_taped HS, mI_point HS, mF_point HS, mI_end HS, mF_end HS, mI_begin HS, mF_begin HS, mI_deep HS, mF_deep HS, mI_faultAt HS, mF_faultAt HS, mR_five HS, mI_codes HS, mF_codes HS, mR_value HS, mI_so HS, mF_so HS, mR_lines HS, mR_chosen HS, mR_best HS, mR_members HS, mR_paired HS, mO HS, mA_287 HS, mW_287 HS, mA_288 HS, mW_288 HS, mA_289 HS, mW_289 HS, mA_290 HS, mW_290 HS, mA_291 HS, mW_291 HS, mA_292 HS, mW_292 HS, mA_293 HS, mW_293 HS, mA_294 HS, mW_294 HS, mA_295 HS, mW_295 HS, mA_296 HS, mW_296 HS, mA_297 HS, mW_297 HS, mA_298 HS, mW_298 HS, mA_299 HS, mW_299 HS, f10, b246_81 hw, oN_add]
            cases hB : isB b n 59 59 p' with
            | false =>
              have hs : sgq b n 59 p' = none := by unfold sgq; rw [hB]; rfl
              simp only [hs, hpn, if_false] at kf
              simp only [Bool.false_eq_true, if_false]
              exact kf p' D4 rfl g4 f12
            | true =>
              have hs : sgq b n 59 p' = some (sk b n (p' + 1)) := by unfold sgq; rw [hB]; rfl
              have hlt := isB_lt hB
              simp only [hs] at kf ky
              simp only [if_true, show 14 - (k + 1) + 1 = 14 - k by omega]
              have m5 : M1 D4 (u2 D4 286 10 (Int32.ofNat (p' + 1))) := fun e i h => by rw [u2_at, if_neg (by omega)]
              exact ih S' _ _ (by omega) (g4.tr m5.ms) ⟨TpR.of rb4 m5 (by omega) rfl (by rw [u2_at, if_pos ⟨rfl, rfl⟩]), by rw [m5.r7]; exact R4, rc3.2.2⟩ kf ky
    refine lp 14 S (sk b n 0) D1 (Nat.le_refl _) MS.rf ⟨TpR.of rb0 m1 h0 sk_sk a10, R1, I⟩ (fun f D' h g e => kf f D' h (u0.tr (m1.ms.tr g).mu) e (q9 g).1 (q9 g).2) (fun S' m D' h hm g r i => ky S' m D' h hm (u0.tr (m1.ms.tr g).mu) r i (q9 g).1 (q9 g).2)
end CB9
