/-! ===== send, who, look in the reference ===== -/
theorem UsR.sm {G : GT} {D D' : sD} (u : UsR G D) (s : Sm D D') : UsR G D' := ⟨by rw [s 286 11 (by omega)]; exact u.1, fun i hi => by rw [s 292 i (by omega)]; exact u.2 i hi⟩
theorem GR.sm {G : GT} {D D' : sD} (hv : GV G) (h : GR D (tkG G)) (s : Sm D D') : GR D' (tkG G) := h.ms hv.tk s.ms
theorem bo_eq {b : Bool} {v : Nat} (hv : v ≤ 1) : (bo b = Int32.ofNat v) = (b = decide (v = 1)) := by
  have cs : v = 0 ∨ v = 1 := by omega
  cases cs with
  | inl e => subst e; cases b <;> decide
  | inr e => subst e; cases b <;> decide
section C85
variable {nx : Nat} {xs : Nat → Int32} {d c s : Nat} {sh : List sC} {D : sD} {Q : av_Q}
variable {G : GT}
theorem k227 (hw : WT sh) (HS : SP sh) (hv : GV G) (h : GR D G) (kk : ∀ D', GR D' (tkG G) → Fm D D' → UsR G D' → D' 286 0 = Int32.ofNat 0 → Q (.inl none) (mk sh D') c s) : Wx (tP nx xs) d 227 0 [some (.ref 286)] [] (mk sh D) c s Q := by
  simp only [b227_0 hw, b227_5 hw, b227_13 hw, b227_18 hw, b227_23 hw, mI_thrown HS, mF_thrown HS, mR_row HS, mR_image HS, mR_earlier HS, mR_trial HS, mR_acts HS, mI_hasImage HS, mF_hasImage HS, mI_remembered HS, mF_remembered HS, mR_tape HS, mI_taped HS, mF_taped HS, mI_point HS, mF_point HS, mI_end HS, mF_end HS, mI_begin HS, mF_begin HS, mI_deep HS, mF_deep HS, mI_faultAt HS, mF_faultAt HS, mR_five HS, mI_codes HS, mF_codes HS, mR_value HS, mI_so HS, mF_so HS, mR_lines HS, mR_chosen HS, mR_best HS, mR_members HS, mR_paired HS, mO HS, mA_287 HS, mW_287 HS, mA_288 HS, mW_288 HS, mA_289 HS, mW_289 HS, mA_290 HS, mW_290 HS, mA_291 HS, mW_291 HS, mA_292 HS, mW_292 HS, mA_293 HS, mW_293 HS, mA_294 HS, mW_294 HS, mA_295 HS, mW_295 HS, mA_296 HS, mW_296 HS, mA_297 HS, mW_297 HS, mA_298 HS, mW_298 HS, mA_299 HS, mW_299 HS, wi_some, or_0, or_1, bo_or, ite_boP, true_and, and_true, kN_v, kN_n, kT_v, kT_n, kT_e, Nat.add_zero, Nat.zero_add]
  have e9 : u2 D 286 0 (Int32.ofNat 0) 286 9 = D 286 9 := by rw [u2_at, if_neg (by omega)]
  have rd : ∀ b i, ¬ (b = 286 ∧ (i = 0 ∨ i = 9 ∨ i = 10 ∨ i = 11)) → u2 (u2 (u2 (u2 D 286 0 (Int32.ofNat 0)) 286 11 (D 286 9)) 286 9 (Int32.ofNat 0)) 286 10 (Int32.ofNat 0) b i = D b i := fun b i h => by
    rw [u2_at, if_neg (by omega), u2_at, if_neg (by omega), u2_at, if_neg (by omega), u2_at, if_neg (by omega)]
  have k0 : u2 (u2 (u2 (u2 D 286 0 (Int32.ofNat 0)) 286 11 (D 286 9)) 286 9 (Int32.ofNat 0)) 286 10 (Int32.ofNat 0) 286 0 = Int32.ofNat 0 := by simp [u2_at]
  have k9 : u2 (u2 (u2 (u2 D 286 0 (Int32.ofNat 0)) 286 11 (D 286 9)) 286 9 (Int32.ofNat 0)) 286 10 (Int32.ofNat 0) 286 9 = Int32.ofNat 0 := by simp [u2_at]
  have k11 : u2 (u2 (u2 (u2 D 286 0 (Int32.ofNat 0)) 286 11 (D 286 9)) 286 9 (Int32.ofNat 0)) 286 10 (Int32.ofNat 0) 286 11 = D 286 9 := by simp [u2_at]
  simp only [e9]
  generalize u2 (u2 (u2 (u2 D 286 0 (Int32.ofNat 0)) 286 11 (D 286 9)) 286 9 (Int32.ofNat 0)) 286 10 (Int32.ofNat 0) = D1 at *
  obtain ⟨⟨h1, h2⟩, ⟨h3, h4⟩, ⟨h5, h6⟩, ⟨h7, h8⟩, h9⟩ := h
  have r : ∀ b, b ≠ 286 → D1 b = D b := fun b hb => funext fun i => rd b i (by omega)
  refine kk D1 ⟨⟨by rw [r 287 (by decide)]; exact h1, by rw [r 287 (by decide)]; exact h2⟩, ⟨?_, ?_⟩, ⟨?_, ?_⟩, ⟨k9, fun i hi => absurd hi (Nat.not_lt_zero _)⟩, ?_⟩ (fun b hb => r b (by omega)) ⟨by rw [k11]; exact h7, fun i hi => ?_⟩ k0
  · rw [rd 286 6 (by omega)]; exact h3
  · rw [r 288 (by decide)]; exact h4
  · rw [rd 286 7 (by omega)]; exact h5
  · rw [r 291 (by decide), r 287 (by decide)]; exact h6
  · rw [rd 286 14 (by omega)]; exact h9
  · rw [r 292 (by decide), h8 i hi, (tv_of hv hi).2]
theorem k303 (hw : WT sh) (HS : SP sh) (hv : GV G) (h : GR D (tkG G)) (u : UsR G D) : Wx (tP nx xs) (d + 2) 303 0 [some (.ref 286), none, none] [] (mk sh D) c s Q = Q (.inl (some (.int (bo (tlOk G))))) (mk sh D) c s := by
  have hnt := i_nt8 hv.1
  have h400 : tl G ≤ 400 := hv.2.2.2.2.1
  obtain ⟨u1, u2'⟩ := u
  have n10 : ¬ (Int32.ofNat 1 : Int32) = Int32.ofNat 0 := by decide
  have jr : ∀ n, n < 401 → (jrem (Int32.ofNat n) (Int32.ofNat 2) = Int32.ofNat 0 ↔ n % 2 = 0) := by decide +kernel
  have stop : ∀ l2, Wx (tP nx xs) (d + 2) 303 26 [some (.ref 286), (some (.int (Int32.ofNat 0))), (some (.int (l2)))] [] (mk sh D) c s Q = Q (.inl (some (.int (Int32.ofNat 0)))) (mk sh D) c s := by
    intro l2
    rw [b303_26 hw]
    simp only [mI_thrown HS, mF_thrown HS, mR_row HS, mR_image HS, mR_earlier HS, mR_trial HS, mR_acts HS, mI_hasImage HS, mF_hasImage HS, mI_remembered HS, mF_remembered HS, mR_tape HS, mI_taped HS, mF_taped HS, mI_point HS, mF_point HS, mI_end HS, mF_end HS, mI_begin HS, mF_begin HS, mI_deep HS, mF_deep HS, mI_faultAt HS, mF_faultAt HS, mR_five HS, mI_codes HS, mF_codes HS, mR_value HS, mI_so HS, mF_so HS, mR_lines HS, mR_chosen HS, mR_best HS, mR_members HS, mR_paired HS, mO HS, mA_287 HS, mW_287 HS, mA_288 HS, mW_288 HS, mA_289 HS, mW_289 HS, mA_290 HS, mW_290 HS, mA_291 HS, mW_291 HS, mA_292 HS, mW_292 HS, mA_293 HS, mW_293 HS, mA_294 HS, mW_294 HS, mA_295 HS, mW_295 HS, mA_296 HS, mW_296 HS, mA_297 HS, mW_297 HS, mA_298 HS, mW_298 HS, mA_299 HS, mW_299 HS, wi_some, or_0, or_1, bo_or, ite_boP, true_and, and_true, kN_v, kN_n, kT_v, kT_n, kT_e, Nat.add_zero, Nat.zero_add, if_true, b303_79 hw, true_or, or_true, ite_self]
  simp only [b303_0 hw, mI_thrown HS, mF_thrown HS, mR_row HS, mR_image HS, mR_earlier HS, mR_trial HS, mR_acts HS, mI_hasImage HS, mF_hasImage HS, mI_remembered HS, mF_remembered HS, mR_tape HS, mI_taped HS, mF_taped HS, mI_point HS, mF_point HS, mI_end HS, mF_end HS, mI_begin HS, mF_begin HS, mI_deep HS, mF_deep HS, mI_faultAt HS, mF_faultAt HS, mR_five HS, mI_codes HS, mF_codes HS, mR_value HS, mI_so HS, mF_so HS, mR_lines HS, mR_chosen HS, mR_best HS, mR_members HS, mR_paired HS, mO HS, mA_287 HS, mW_287 HS, mA_288 HS, mW_288 HS, mA_289 HS, mW_289 HS, mA_290 HS, mW_290 HS, mA_291 HS, mW_291 HS, mA_292 HS, mW_292 HS, mA_293 HS, mW_293 HS, mA_294 HS, mW_294 HS, mA_295 HS, mW_295 HS, mA_296 HS, mW_296 HS, mA_297 HS, mW_297 HS, mA_298 HS, mW_298 HS, mA_299 HS, mW_299 HS, wi_some, or_0, or_1, bo_or, ite_boP, true_and, and_true, kN_v, kN_n, kT_v, kT_n, kT_e, Nat.add_zero, Nat.zero_add, u1, jr _ (show tl G < 401 by omega), oN_lt (show 40 < 2147483648 by omega) (show tl G < 2147483648 by omega), b303_22 hw, b303_23 hw]
  by_cases hev : tl G % 2 = 0
  rotate_left
  · have hb : tlOk G = false := by unfold tlOk; rw [decide_eq_false (fun h => hev h.2), Bool.false_and]
    simp only [hev, if_false, stop, hb, bo_f]
  by_cases h40 : tl G ≤ 40
  rotate_left
  · have hb : tlOk G = false := by unfold tlOk; rw [decide_eq_false (fun h => h40 h.1), Bool.false_and]
    simp only [hev, if_true, show 40 < tl G by omega, stop, hb, bo_f]
  have ok : tlOk G = okN G (tl G / 2) := by unfold tlOk; rw [decide_eq_true ⟨h40, hev⟩, Bool.true_and]
  simp only [hev, if_true, show ¬ 40 < tl G by omega, if_false]
  suffices hl : ∀ r k, k + r = tl G / 2 → okN G k = true → Wx (tP nx xs) (d + 2) 303 26 [some (.ref 286), (some (.int (Int32.ofNat 1))), (some (.int (Int32.ofNat (2 * k))))] [] (mk sh D) c s Q = Q (.inl (some (.int (bo (tlOk G))))) (mk sh D) c s from hl (tl G / 2) 0 (by omega) rfl
  intro r
  induction r with
  | zero =>
    intro k hk o1
    have hk' : k = tl G / 2 := by omega
    rw [b303_26 hw]
    simp only [mI_thrown HS, mF_thrown HS, mR_row HS, mR_image HS, mR_earlier HS, mR_trial HS, mR_acts HS, mI_hasImage HS, mF_hasImage HS, mI_remembered HS, mF_remembered HS, mR_tape HS, mI_taped HS, mF_taped HS, mI_point HS, mF_point HS, mI_end HS, mF_end HS, mI_begin HS, mF_begin HS, mI_deep HS, mF_deep HS, mI_faultAt HS, mF_faultAt HS, mR_five HS, mI_codes HS, mF_codes HS, mR_value HS, mI_so HS, mF_so HS, mR_lines HS, mR_chosen HS, mR_best HS, mR_members HS, mR_paired HS, mO HS, mA_287 HS, mW_287 HS, mA_288 HS, mW_288 HS, mA_289 HS, mW_289 HS, mA_290 HS, mW_290 HS, mA_291 HS, mW_291 HS, mA_292 HS, mW_292 HS, mA_293 HS, mW_293 HS, mA_294 HS, mW_294 HS, mA_295 HS, mW_295 HS, mA_296 HS, mW_296 HS, mA_297 HS, mW_297 HS, mA_298 HS, mW_298 HS, mA_299 HS, mW_299 HS, wi_some, or_0, or_1, bo_or, ite_boP, true_and, and_true, kN_v, kN_n, kT_v, kT_n, kT_e, Nat.add_zero, Nat.zero_add, u1, oN_lt (show 2 * k < 2147483648 by omega) (show tl G < 2147483648 by omega), show ¬ 2 * k < tl G by omega, if_false, b303_79 hw, true_or, or_true]
    rw [ok, ← hk', o1]
    simp [bo]
  | succ r ih =>
    intro k hk o1
    have b1 : 2 * k < 400 := by omega
    have b2 : 2 * k + 1 < 400 := by omega
    obtain ⟨v1, _⟩ := tv_of hv (show 2 * k < tl G by omega)
    obtain ⟨v2, _⟩ := tv_of hv (show 2 * k + 1 < tl G by omega)
    have e210 := fun Q' => k210 (nx := nx) (xs := xs) (d := d) (c := 0) (s := 0) (Q := Q') (x := by8 (Int32.ofNat (tv G (2 * k)))) hw HS hv.tk h
    have eix : (ixO (by8 (Int32.ofNat (tv G (2 * k)))) (gt (tkG G).1)).isNone = decide (¬ tv G (2 * k) < (gt G.1)) := by_ix (gt G.1) (by omega) _ v1
    rw [eix] at e210
    have okv : okP G k = (decide (tv G (2 * k) < (gt G.1)) && decide (tv G (2 * k + 1) ≤ 1)) := rfl
    have ih := ih (k + 1) (by omega)
    rw [show okN G (k + 1) = (okN G k && okP G k) from rfl, o1, Bool.true_and] at ih
    have bad : okP G k = false → tlOk G = false := fun hb => by
      rw [ok]
      exact okN_mono (show k + 1 ≤ tl G / 2 by omega) (by show (okN G k && okP G k) = false; rw [hb, Bool.and_false])
    rw [b303_26 hw]
    simp only [mI_thrown HS, mF_thrown HS, mR_row HS, mR_image HS, mR_earlier HS, mR_trial HS, mR_acts HS, mI_hasImage HS, mF_hasImage HS, mI_remembered HS, mF_remembered HS, mR_tape HS, mI_taped HS, mF_taped HS, mI_point HS, mF_point HS, mI_end HS, mF_end HS, mI_begin HS, mF_begin HS, mI_deep HS, mF_deep HS, mI_faultAt HS, mF_faultAt HS, mR_five HS, mI_codes HS, mF_codes HS, mR_value HS, mI_so HS, mF_so HS, mR_lines HS, mR_chosen HS, mR_best HS, mR_members HS, mR_paired HS, mO HS, mA_287 HS, mW_287 HS, mA_288 HS, mW_288 HS, mA_289 HS, mW_289 HS, mA_290 HS, mW_290 HS, mA_291 HS, mW_291 HS, mA_292 HS, mW_292 HS, mA_293 HS, mW_293 HS, mA_294 HS, mW_294 HS, mA_295 HS, mW_295 HS, mA_296 HS, mW_296 HS, mA_297 HS, mW_297 HS, mA_298 HS, mW_298 HS, mA_299 HS, mW_299 HS, wi_some, or_0, or_1, bo_or, ite_boP, true_and, and_true, kN_v, kN_n, kT_v, kT_n, kT_e, Nat.add_zero, Nat.zero_add, u1, oN_lt (show 2 * k < 2147483648 by omega) (show tl G < 2147483648 by omega), show 2 * k < tl G by omega, if_true, n10, if_false, b1, u2' _ (show 2 * k < tl G by omega)]
    rw [e210]
    simp only [wi_some, or_0, or_1, bo_or, ite_boP, true_and, and_true, kN_v, kN_n, kT_v, kT_n, kT_e, Nat.add_zero, Nat.zero_add, b303_48 hw, mI_thrown HS, mF_thrown HS, mR_row HS, mR_image HS, mR_earlier HS, mR_trial HS, mR_acts HS, mI_hasImage HS, mF_hasImage HS, mI_remembered HS, mF_remembered HS, mR_tape HS, mI_taped HS, mF_taped HS, mI_point HS, mF_point HS, mI_end HS, mF_end HS, mI_begin HS, mF_begin HS, mI_deep HS, mF_deep HS, mI_faultAt HS, mF_faultAt HS, mR_five HS, mI_codes HS, mF_codes HS, mR_value HS, mI_so HS, mF_so HS, mR_lines HS, mR_chosen HS, mR_best HS, mR_members HS, mR_paired HS, mO HS, mA_287 HS, mW_287 HS, mA_288 HS, mW_288 HS, mA_289 HS, mW_289 HS, mA_290 HS, mW_290 HS, mA_291 HS, mW_291 HS, mA_292 HS, mW_292 HS, mA_293 HS, mW_293 HS, mA_294 HS, mW_294 HS, mA_295 HS, mW_295 HS, mA_296 HS, mW_296 HS, mA_297 HS, mW_297 HS, mA_298 HS, mW_298 HS, mA_299 HS, mW_299 HS, oN_add, b2, u2' _ (show 2 * k + 1 < tl G by omega), k188 hw, by_01 _ v2, b303_64 hw, b303_71 hw, b303_72 hw]
    by_cases h1 : tv G (2 * k) < (gt G.1)
    · by_cases h2 : tv G (2 * k + 1) ≤ 1
      · have e : okP G k = true := by rw [okv, decide_eq_true h1, decide_eq_true h2]; rfl
        simp only [h1, h2, not_true_eq_false, decide_false, decide_true, bo_f, bo_t, if_true, if_false, n10, Bool.false_eq_true]
        exact ih e
      · have e : okP G k = false := by rw [okv, decide_eq_false h2, Bool.and_false]
        simp only [h1, h2, not_true_eq_false, decide_false, bo_f, if_true, if_false, Bool.false_eq_true]
        rw [stop, bad e]; rfl
    · have e : okP G k = false := by rw [okv, decide_eq_false h1, Bool.false_and]
      simp only [h1, not_false_eq_true, decide_true, bo_t, if_true, if_false, n10]
      rw [stop, bad e]; rfl
theorem k304 {x : Int32} (hw : WT sh) (HS : SP sh) (hv : GV G) (hok : tlOk G = true) (u : UsR G D) : Wx (tP nx xs) d 304 0 [some (.ref 286), (some (.int (x))), none, none] [] (mk sh D) c s Q = Q (.inl (some (.int (bo (toldP G x))))) (mk sh D) c s := by
  have hnt := i_nt8 hv.1
  obtain ⟨u1, u2'⟩ := u
  have n10 : ¬ (Int32.ofNat 1 : Int32) = Int32.ofNat 0 := by decide
  unfold tlOk at hok
  simp only [Bool.and_eq_true, decide_eq_true_eq] at hok
  obtain ⟨⟨h40, hev⟩, hall⟩ := hok
  simp only [b304_0 hw]
  unfold toldP
  refine (up_loop (W := fun k (_ : Nat) => Wx (tP nx xs) d 304 4 [some (.ref 286), (some (.int (x))), (some (.int (bo (tdP G x k)))), (some (.int (Int32.ofNat (2 * k))))] [] (mk sh D) c s Q) (F := fun _ x => x) (tl G / 2) (fun k _ hk => ?_) 0).trans ?_
  · have hp := okN_all hall k hk
    unfold okP at hp
    simp only [Bool.and_eq_true, decide_eq_true_eq] at hp
    obtain ⟨p1, p2⟩ := hp
    have b1 : 2 * k < 400 := by omega
    have b2 : 2 * k + 1 < 400 := by omega
    have e1 : by8 (Int32.ofNat (tv G (2 * k))) = Int32.ofNat (tv G (2 * k)) := by_lt _ (by omega)
    have e2 : by8 (Int32.ofNat (tv G (2 * k + 1))) = Int32.ofNat (tv G (2 * k + 1)) := by_lt _ (by omega)
    have ed : tdP G x (k + 1) = (tdP G x k && decide (bt x (tv G (2 * k)) = decide (tv G (2 * k + 1) = 1))) := rfl
    rw [b304_4 hw, ed]
    simp only [mI_thrown HS, mF_thrown HS, mR_row HS, mR_image HS, mR_earlier HS, mR_trial HS, mR_acts HS, mI_hasImage HS, mF_hasImage HS, mI_remembered HS, mF_remembered HS, mR_tape HS, mI_taped HS, mF_taped HS, mI_point HS, mF_point HS, mI_end HS, mF_end HS, mI_begin HS, mF_begin HS, mI_deep HS, mF_deep HS, mI_faultAt HS, mF_faultAt HS, mR_five HS, mI_codes HS, mF_codes HS, mR_value HS, mI_so HS, mF_so HS, mR_lines HS, mR_chosen HS, mR_best HS, mR_members HS, mR_paired HS, mO HS, mA_287 HS, mW_287 HS, mA_288 HS, mW_288 HS, mA_289 HS, mW_289 HS, mA_290 HS, mW_290 HS, mA_291 HS, mW_291 HS, mA_292 HS, mW_292 HS, mA_293 HS, mW_293 HS, mA_294 HS, mW_294 HS, mA_295 HS, mW_295 HS, mA_296 HS, mW_296 HS, mA_297 HS, mW_297 HS, mA_298 HS, mW_298 HS, mA_299 HS, mW_299 HS, wi_some, or_0, or_1, bo_or, ite_boP, true_and, and_true, kN_v, kN_n, kT_v, kT_n, kT_e, Nat.add_zero, Nat.zero_add, u1, oN_lt (show 2 * k < 2147483648 by omega) (show tl G < 2147483648 by omega), show 2 * k < tl G by omega, if_true, b1, b2, oN_add, u2' _ (show 2 * k < tl G by omega), u2' _ (show 2 * k + 1 < tl G by omega), e1, e2, jshr_b (show tv G (2 * k) < 32 by omega), b304_41 hw, b304_42 hw]
    cases tdP G x k with
    | false => simp only [bo_f, if_true, Bool.false_and, Bool.false_eq_true, if_false]; rfl
    | true =>
      simp only [bo_t, n10, if_false, Bool.true_and, if_true]
      simp only [bo_eq p2]
      by_cases hh : bt x (tv G (2 * k)) = decide (tv G (2 * k + 1) = 1)
      · simp only [hh, if_true, decide_true, bo_t]; rfl
      · simp only [hh, if_false, decide_false, bo_f]; rfl
  · rw [b304_4 hw]
    simp only [mI_thrown HS, mF_thrown HS, mR_row HS, mR_image HS, mR_earlier HS, mR_trial HS, mR_acts HS, mI_hasImage HS, mF_hasImage HS, mI_remembered HS, mF_remembered HS, mR_tape HS, mI_taped HS, mF_taped HS, mI_point HS, mF_point HS, mI_end HS, mF_end HS, mI_begin HS, mF_begin HS, mI_deep HS, mF_deep HS, mI_faultAt HS, mF_faultAt HS, mR_five HS, mI_codes HS, mF_codes HS, mR_value HS, mI_so HS, mF_so HS, mR_lines HS, mR_chosen HS, mR_best HS, mR_members HS, mR_paired HS, mO HS, mA_287 HS, mW_287 HS, mA_288 HS, mW_288 HS, mA_289 HS, mW_289 HS, mA_290 HS, mW_290 HS, mA_291 HS, mW_291 HS, mA_292 HS, mW_292 HS, mA_293 HS, mW_293 HS, mA_294 HS, mW_294 HS, mA_295 HS, mW_295 HS, mA_296 HS, mW_296 HS, mA_297 HS, mW_297 HS, mA_298 HS, mW_298 HS, mA_299 HS, mW_299 HS, wi_some, or_0, or_1, bo_or, ite_boP, true_and, and_true, kN_v, kN_n, kT_v, kT_n, kT_e, Nat.add_zero, Nat.zero_add, u1, oN_lt (show 2 * (tl G / 2) < 2147483648 by omega) (show tl G < 2147483648 by omega), show ¬ 2 * (tl G / 2) < tl G by omega, if_false]
theorem k306 {z : Nat} (hw : WT sh) (HS : SP sh) (hv : GV G) (h : GR D (tkG G)) (hok : tlOk G = true) (u : UsR G D) (kk : ∀ D', Sm D D' → Q (.inl (some (.int (bo (ftP G z))))) (mk sh D') c s) : Wx (tP nx xs) (d + 5) 306 0 [some (.ref 286), (some (.int (Int32.ofNat z))), none] [] (mk sh D) c s Q := by
  have R : Rw (D 287) (gV G.1) (gt G.1) (gg G.1) (gr G.1) (gl G.1) := h.1.1
  have I : Iv (gV G.1) (gt G.1) (gg G.1) (gr G.1) (gl G.1) := hv.1
  simp only [b306_0 hw, mI_thrown HS, mF_thrown HS, mR_row HS, mR_image HS, mR_earlier HS, mR_trial HS, mR_acts HS, mI_hasImage HS, mF_hasImage HS, mI_remembered HS, mF_remembered HS, mR_tape HS, mI_taped HS, mF_taped HS, mI_point HS, mF_point HS, mI_end HS, mF_end HS, mI_begin HS, mF_begin HS, mI_deep HS, mF_deep HS, mI_faultAt HS, mF_faultAt HS, mR_five HS, mI_codes HS, mF_codes HS, mR_value HS, mI_so HS, mF_so HS, mR_lines HS, mR_chosen HS, mR_best HS, mR_members HS, mR_paired HS, mO HS, mA_287 HS, mW_287 HS, mA_288 HS, mW_288 HS, mA_289 HS, mW_289 HS, mA_290 HS, mW_290 HS, mA_291 HS, mW_291 HS, mA_292 HS, mW_292 HS, mA_293 HS, mW_293 HS, mA_294 HS, mW_294 HS, mA_295 HS, mW_295 HS, mA_296 HS, mW_296 HS, mA_297 HS, mW_297 HS, mA_298 HS, mW_298 HS, mA_299 HS, mW_299 HS, wi_some, or_0, or_1, bo_or, ite_boP, true_and, and_true, kN_v, kN_n, kT_v, kT_n, kT_e, Nat.add_zero, Nat.zero_add]
  refine k265 hw HS R I ?_
  intro D1 s1
  have R1 : Rw (D1 287) (gV G.1) (gt G.1) (gg G.1) (gr G.1) (gl G.1) := (h.sm hv s1).1.1
  simp only [b306_5 hw, mI_thrown HS, mF_thrown HS, mR_row HS, mR_image HS, mR_earlier HS, mR_trial HS, mR_acts HS, mI_hasImage HS, mF_hasImage HS, mI_remembered HS, mF_remembered HS, mR_tape HS, mI_taped HS, mF_taped HS, mI_point HS, mF_point HS, mI_end HS, mF_end HS, mI_begin HS, mF_begin HS, mI_deep HS, mF_deep HS, mI_faultAt HS, mF_faultAt HS, mR_five HS, mI_codes HS, mF_codes HS, mR_value HS, mI_so HS, mF_so HS, mR_lines HS, mR_chosen HS, mR_best HS, mR_members HS, mR_paired HS, mO HS, mA_287 HS, mW_287 HS, mA_288 HS, mW_288 HS, mA_289 HS, mW_289 HS, mA_290 HS, mW_290 HS, mA_291 HS, mW_291 HS, mA_292 HS, mW_292 HS, mA_293 HS, mW_293 HS, mA_294 HS, mW_294 HS, mA_295 HS, mW_295 HS, mA_296 HS, mW_296 HS, mA_297 HS, mW_297 HS, mA_298 HS, mW_298 HS, mA_299 HS, mW_299 HS, wi_some, or_0, or_1, bo_or, ite_boP, true_and, and_true, kN_v, kN_n, kT_v, kT_n, kT_e, Nat.add_zero, Nat.zero_add, k304 hw HS hv hok (u.sm s1), b306_11 hw, b306_28 hw, b306_29 hw, k266 hw HS R1 I, b306_20 hw, true_or, or_true]
  have fin := kk D1 s1
  unfold ftP at fin
  cases htd : toldP G (wS (gV G.1) (gt G.1) (gg G.1) ((gV G.1) 1 1) (Int32.ofNat z)) with
  | false =>
    rw [htd, Bool.and_false] at fin
    simp only [Bool.false_eq_true, if_false, bo_f] at fin ⊢
    simpa using fin
  | true =>
    rw [htd, Bool.and_true] at fin
    simp only [if_true]
    by_cases e : Int32.ofNat z &&& aliveS (gV G.1) (gg G.1) (wS (gV G.1) (gt G.1) (gg G.1) ((gV G.1) 1 1) (Int32.ofNat z)) = Int32.ofNat z
    · rw [decide_eq_true e] at fin
      simp only [bo_t] at fin
      simp only [e, if_true, b306_29 hw, true_or, or_true, true_and]
      exact fin
    · rw [decide_eq_false e] at fin
      simp only [bo_f] at fin
      simp only [e, if_false, b306_29 hw, true_or, or_true, true_and]
      exact fin
end C85
