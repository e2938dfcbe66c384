/-! ===== the reference's days ===== -/
theorem Rl.N {r : Nat → Int32} {lw : LW} (h : Rl r lw) : LwN lw := by
  intro V ng g t kind
  cases lw with
  | none => exact ⟨0, by omega, rfl⟩
  | some L =>
    obtain ⟨n, K, A, C, e⟩ := L
    obtain ⟨h4, h352, hn, h0, hl, hc, hA⟩ := h
    obtain ⟨q, hq, h⟩ := lawSum_nat (K := K) (C := C) (F := facV V ng g t) (e := e) (kind := kind) hA
    exact ⟨q, by omega, h⟩
theorem b_32767 (i : Nat) : bt (Int32.ofNat 32767) i = decide (i < 15) := by
  rcases Nat.lt_or_ge i 32 with h | h
  · exact (by decide +kernel : ∀ i, i < 32 → bt (Int32.ofNat 32767) i = decide (i < 15)) i h
  · rw [b_big h, decide_eq_false (by omega)]
theorem shr_draw (x : Int32) : jshr x (Int32.ofNat 16) &&& Int32.ofNat 32767 = jushr x (Int32.ofNat 16) &&& Int32.ofNat 32767 := by
  apply b_ext
  intro i hi
  rw [b_and, b_and, b_32767]
  by_cases h : i < 15
  · have h1 := b_sshr 16 (by decide) x hi
    have h2 := b_ushr 16 (by decide) x i
    unfold jshr jushr
    rw [show (Int32.ofNat 16 : Int32) = nI 16 from rfl, h1, h2, if_pos (by omega)]
  · simp [h]
theorem oN_sublt {d : Int32} {n q : Nat} (hn : n < 1000000) (hq : q < 1000000) (h : d < Int32.ofNat n - Int32.ofNat q) : d < Int32.ofNat n := by
  rw [Int32.lt_iff_toInt_lt] at *
  rw [Int32.toInt_sub, oN_ti (by omega), oN_ti (by omega)] at h
  rw [oN_ti (by omega)]
  have e : ((n : Int) - (q : Int)).bmod (2 ^ 32) = (n : Int) - q := by
    rw [Int.bmod_def]
    split <;> omega
  omega
theorem ridS_seed {V : sD} {ng : Nat} {v t : Int32} : ridS (u2 V 0 16 v) ng t = ridS V ng t := by
  unfold ridS
  apply bs_congr
  intro g _
  simp [u2_at]
theorem facV_seed {V : sD} {ng g t : Nat} {v : Int32} : facV (u2 V 0 16 v) ng g t = facV V ng g t := by
  funext k
  unfold facV
  simp only [ridS_seed]
  simp [u2_at]
theorem sumL_seed {lw : LW} {V : sD} {ng g t : Nat} {v kind : Int32} : sumL lw (u2 V 0 16 v) ng g t kind = sumL lw V ng g t kind := by
  unfold sumL
  rw [facV_seed]
theorem canL_seed {lw : LW} {V : sD} {ng g t : Nat} {v : Int32} : canL lw (u2 V 0 16 v) ng g t = canL lw V ng g t := by
  unfold canL costL stopB
  rw [ridS_seed, sumL_seed, sumL_seed]
  simp [u2_at]
theorem trainL_seed {lw : LW} {V : sD} {ng nr g : Nat} {v : Int32} : trainL lw (u2 V 0 16 v) ng nr g = trainL lw V ng nr g := by
  unfold trainL
  have : canL lw (u2 V 0 16 v) ng g = canL lw V ng g := funext fun t => canL_seed
  rw [this]
theorem goL_sh {lw : LW} {ng nr g : Nat} {dr : Bool} {V : sD} {w : Nat} : goL lw ng nr dr g (V, w) = ((goL lw ng nr dr g (V, 0)).1, w + (goL lw ng nr dr g (V, 0)).2) := by
  unfold goL
  by_cases h : V 12 g = -1
  · simp only [h, if_true]
    split <;> simp
  · simp only [h, if_false, Nat.add_zero]
theorem fo_goL {lw : LW} {ng nr : Nat} {dr : Bool} : ∀ (k i : Nat) (V : sD) (w : Nat), fo (goL lw ng nr dr) k i (V, w) = ((fo (goL lw ng nr dr) k i (V, 0)).1, w + (fo (goL lw ng nr dr) k i (V, 0)).2)
  | 0, _, _, _ => rfl
  | k + 1, i, V, w => by
    show fo (goL lw ng nr dr) k (i + 1) (goL lw ng nr dr i (V, w)) = _
    rw [goL_sh, fo_goL k (i + 1) _ (w + _)]
    show _ = ((fo (goL lw ng nr dr) k (i + 1) (goL lw ng nr dr i (V, 0))).1, w + (fo (goL lw ng nr dr) k (i + 1) (goL lw ng nr dr i (V, 0))).2)
    rw [show goL lw ng nr dr i (V, 0) = ((goL lw ng nr dr i (V, 0)).1, (goL lw ng nr dr i (V, 0)).2) from rfl, fo_goL k (i + 1) (goL lw ng nr dr i (V, 0)).1 (goL lw ng nr dr i (V, 0)).2, Nat.add_assoc]
theorem dayL_sh {lw : LW} {ng nr : Nat} {dr : Bool} {V : sD} {w : Nat} : dayL lw ng nr dr (V, w) = ((dayL lw ng nr dr (V, 0)).1, w + (dayL lw ng nr dr (V, 0)).2) := by
  unfold dayL
  rw [fo_goL]
section C48
variable {nx : Nat} {xs : Nat → Int32} {d c s : Nat} {sh : List sC} {D : sD} {Q : av_Q}
variable {V : sD} {nt ng nr nl g t : Nat} {lw : LW}
theorem k214 (hw : WT sh) (HS : SP sh) : Wx (tP nx xs) d 214 0 [some (.ref 286), (some (.int (Int32.ofNat 100)))] [] (mk sh D) c s Q = Q (.inl (some (.int (jrem (drawN (D 287 7)) (Int32.ofNat 100))))) (mk sh (u2 D 287 7 (seedN (D 287 7)))) c s := by
  have h7 : 7 < 2050 := by decide
  have e : u2 D 287 7 (seedN (D 287 7)) 287 7 = seedN (D 287 7) := by simp [u2_self]
  have hne : ((Int32.ofNat 100 : Int32) ≠ 0) = True := by decide
  simp only [b214_0 hw, b214_21 hw, mI_thrown HS, mF_thrown HS, mR_row HS, mR_image HS, mR_earlier HS, mR_trial HS, mR_acts HS, mI_hasImage HS, mF_hasImage HS, mI_remembered HS, mF_remembered HS, mR_tape HS, mI_taped HS, mF_taped HS, mI_point HS, mF_point HS, mI_end HS, mF_end HS, mI_begin HS, mF_begin HS, mI_deep HS, mF_deep HS, mI_faultAt HS, mF_faultAt HS, mR_five HS, mI_codes HS, mF_codes HS, mR_value HS, mI_so HS, mF_so HS, mR_lines HS, mR_chosen HS, mR_best HS, mR_members HS, mR_paired HS, mO HS, mA_287 HS, mW_287 HS, mA_288 HS, mW_288 HS, mA_289 HS, mW_289 HS, mA_290 HS, mW_290 HS, mA_291 HS, mW_291 HS, mA_292 HS, mW_292 HS, mA_293 HS, mW_293 HS, mA_294 HS, mW_294 HS, mA_295 HS, mW_295 HS, mA_296 HS, mW_296 HS, mA_297 HS, mW_297 HS, mA_298 HS, mW_298 HS, mA_299 HS, mW_299 HS, wi_some, or_0, or_1, bo_or, ite_boP, true_and, and_true, kN_v, kN_n, kT_v, kT_n, kT_e, Nat.add_zero, Nat.zero_add, h7, tn7, hne]
  rw [show (Int32.ofNat 1103515245) * D 287 7 + Int32.ofNat 12345 = seedN (D 287 7) from rfl, e, shr_draw]
  rfl
theorem k259 {x1 x2 x3 : Int32} (hw : WT sh) (HS : SP sh) (R : Rw (D 287) V nt ng nr nl) (I : Iv V nt ng nr nl)
    (kk : ∀ D', Rx D D' → Rw (D' 287) (logV V nl (V 0 15) x1 x2 x3) nt ng nr (min nl 59 + 1) → Q (.inl none) (mk sh D') c s) :
    Wx (tP nx xs) d 259 0 [some (.ref 286), (some (.int (x1))), (some (.int (x2))), (some (.int (x3))), none] [] (mk sh D) c s Q := by
  have h5 : 5 < 2050 := by decide
  have h6 : 6 < 2050 := by decide
  have h112 : 112 < 2050 := by decide
  have h113 : 113 < 2050 := by decide
  have h114 : 114 < 2050 := by decide
  have h115 : 115 < 2050 := by decide
  have t112 : Int32.toNatClampNeg (Int32.ofNat 112) = 112 := by decide
  have t113 : Int32.toNatClampNeg (Int32.ofNat 113) = 113 := by decide
  have t114 : Int32.toNatClampNeg (Int32.ofNat 114) = 114 := by decide
  have t115 : Int32.toNatClampNeg (Int32.ofNat 115) = 115 := by decide
  simp only [b259_0 hw]
  have lp : ∀ m, m ≤ 236 → ∀ D1, (∀ b, b ≠ 287 → D1 b = D b) → (∀ i, D1 287 i = if 115 + m < i ∧ i < 352 then D 287 (i - 4) else D 287 i) → Wx (tP nx xs) d 259 5 [some (.ref 286), (some (.int (x1))), (some (.int (x2))), (some (.int (x3))), (some (.int (Int32.ofNat (m + 3))))] [] (mk sh D1) c s Q := by
    intro m
    induction m with
    | zero =>
      intro _ D1 hb hr
      have e5 : D1 287 5 = V 0 15 := by rw [hr 5, if_neg (by omega)]; exact r_day R
      have e6 : D1 287 6 = Int32.ofNat nl := by rw [hr 6, if_neg (by omega)]; exact r_nl R
      have h34 : Int32.ofNat 3 < Int32.ofNat 4 := by decide
      have hnl := i_nl60 I
      have emn : mn (Int32.ofNat 60) (Int32.ofNat (nl + 1)) = Int32.ofNat (min nl 59 + 1) := by
        unfold mn
        simp only [oN_lt (show nl + 1 < 2147483648 by omega) (show 60 < 2147483648 by omega)]
        by_cases h : nl + 1 < 60
        · rw [if_pos h]; congr 1; omega
        · rw [if_neg h]; congr 1; omega
      have n1 : ∀ v, u2 D1 287 112 v 287 6 = D1 287 6 := fun v => by simp [u2_at]
      rw [b259_5 hw]
      simp only [Nat.zero_add, h34, if_true, b259_52 hw, b259_60 hw, b259_68 hw, b259_76 hw, b259_97 hw, mI_thrown HS, mF_thrown HS, mR_row HS, mR_image HS, mR_earlier HS, mR_trial HS, mR_acts HS, mI_hasImage HS, mF_hasImage HS, mI_remembered HS, mF_remembered HS, mR_tape HS, mI_taped HS, mF_taped HS, mI_point HS, mF_point HS, mI_end HS, mF_end HS, mI_begin HS, mF_begin HS, mI_deep HS, mF_deep HS, mI_faultAt HS, mF_faultAt HS, mR_five HS, mI_codes HS, mF_codes HS, mR_value HS, mI_so HS, mF_so HS, mR_lines HS, mR_chosen HS, mR_best HS, mR_members HS, mR_paired HS, mO HS, mA_287 HS, mW_287 HS, mA_288 HS, mW_288 HS, mA_289 HS, mW_289 HS, mA_290 HS, mW_290 HS, mA_291 HS, mW_291 HS, mA_292 HS, mW_292 HS, mA_293 HS, mW_293 HS, mA_294 HS, mW_294 HS, mA_295 HS, mW_295 HS, mA_296 HS, mW_296 HS, mA_297 HS, mW_297 HS, mA_298 HS, mW_298 HS, mA_299 HS, mW_299 HS, wi_some, or_0, or_1, bo_or, ite_boP, true_and, and_true, kN_v, kN_n, kT_v, kT_n, kT_e, Nat.add_zero, Nat.zero_add, h5, h6, h112, h113, h114, h115, t112, t113, t114, t115, tn6, e5]
      have e6' : u2 (u2 (u2 (u2 D1 287 112 (V 0 15)) 287 113 x1) 287 114 x2) 287 115 x3 287 6 = Int32.ofNat nl := by simp only [u2_at]; simpa using e6
      rw [e6', oN_add, emn]
      refine kk _ ⟨?_, ?_⟩ ?_
      · intro b h1 h2
        rw [← hb b h1]
        funext j
        simp only [u2_at]
        simp [h1]
      · intro i hi
        simp only [u2_at]
        rw [if_neg (by omega), if_neg (by omega), if_neg (by omega), if_neg (by omega), if_neg (by omega), hr i, if_neg (by omega)]
      · refine Rw_log R (i_nt8 I) (i_ng6 I) (i_nr5 I) hnl ?_ ?_ ?_ ?_ ?_ ?_ ?_
        · intro i h1 h2
          simp only [u2_at]
          rw [if_neg (by omega), if_neg (by omega), if_neg (by omega), if_neg (by omega), if_neg (by omega), hr i, if_neg (by omega)]
        · simp [u2_at]
        · simp [u2_at]
        · simp [u2_at]
        · simp [u2_at]
        · simp [u2_at]
        · intro i h1 h2
          simp only [u2_at]
          rw [if_neg (by omega), if_neg (by omega), if_neg (by omega), if_neg (by omega), if_neg (by omega), hr i, if_pos (by omega)]
    | succ m ih =>
      intro hm D1 hb hr
      have h4 : ¬ Int32.ofNat (m + 1 + 3) < Int32.ofNat 4 := by rw [oN_lt (by omega) (by decide)]; omega
      have c1 : 112 + (m + 1 + 3) < 2050 := by omega
      have c2 : 112 + (m + 1 + 3) - 4 < 2050 := by omega
      have cs : Int32.ofNat (112 + (m + 1 + 3)) - Int32.ofNat 4 = Int32.ofNat (112 + (m + 1 + 3) - 4) := oN_sub (by omega)
      have cm : Int32.ofNat (m + 1 + 3) + (-1) = Int32.ofNat (m + 3) := by
        rw [show m + 1 + 3 = (m + 3) + 1 by omega]; exact oN_m1 _
      rw [b259_5 hw]
      simp only [h4, if_false, b259_33 hw, mI_thrown HS, mF_thrown HS, mR_row HS, mR_image HS, mR_earlier HS, mR_trial HS, mR_acts HS, mI_hasImage HS, mF_hasImage HS, mI_remembered HS, mF_remembered HS, mR_tape HS, mI_taped HS, mF_taped HS, mI_point HS, mF_point HS, mI_end HS, mF_end HS, mI_begin HS, mF_begin HS, mI_deep HS, mF_deep HS, mI_faultAt HS, mF_faultAt HS, mR_five HS, mI_codes HS, mF_codes HS, mR_value HS, mI_so HS, mF_so HS, mR_lines HS, mR_chosen HS, mR_best HS, mR_members HS, mR_paired HS, mO HS, mA_287 HS, mW_287 HS, mA_288 HS, mW_288 HS, mA_289 HS, mW_289 HS, mA_290 HS, mW_290 HS, mA_291 HS, mW_291 HS, mA_292 HS, mW_292 HS, mA_293 HS, mW_293 HS, mA_294 HS, mW_294 HS, mA_295 HS, mW_295 HS, mA_296 HS, mW_296 HS, mA_297 HS, mW_297 HS, mA_298 HS, mW_298 HS, mA_299 HS, mW_299 HS, wi_some, or_0, or_1, bo_or, ite_boP, true_and, and_true, kN_v, kN_n, kT_v, kT_n, kT_e, Nat.add_zero, Nat.zero_add, oN_add, cs, c1, c2, oN_tn (show 112 + (m + 1 + 3) < 2147483648 by omega), cm]
      refine ih (by omega) _ ?_ ?_
      · intro b hb'
        rw [← hb b hb']
        funext j
        simp only [u2_at]
        simp [hb']
      · intro i
        simp only [u2_at, true_and]
        by_cases e : i = 112 + (m + 1 + 3)
        · rw [if_pos e, if_pos (by omega), hr, if_neg (by omega), e]
        · rw [if_neg e, hr i]
          by_cases h : 115 + (m + 1) < i ∧ i < 352
          · rw [if_pos h, if_pos (by omega)]
          · rw [if_neg h, if_neg (by omega)]
  exact lp 236 (by decide) D (fun _ _ => rfl) (fun i => by rw [if_neg (by omega)])
theorem k260 (hw : WT sh) (HS : SP sh) (R : Rw (D 287) V nt ng nr nl) (I : Iv V nt ng nr nl) (hL : Rl (D 287) lw) (hg : g < ng) (ht : t < nr) (hc : canL lw V ng g t = true)
    (kk : ∀ D', Rx D D' → Rw (D' 287) (bdV V g t (costL lw V ng g t)) nt ng nr (min nl 59 + 1) → Q (.inl (some (.int (costL lw V ng g t)))) (mk sh D') c s) :
    Wx (tP nx xs) (d + 8) 260 0 [some (.ref 286), (some (.int (Int32.ofNat g))), (some (.int (Int32.ofNat t))), none] [] (mk sh D) c s Q := by
  have hng := i_ng6 I
  have hnr := i_nr5 I
  have hg6 : g < 6 := by omega
  simp only [b260_0 hw, mI_thrown HS, mF_thrown HS, mR_row HS, mR_image HS, mR_earlier HS, mR_trial HS, mR_acts HS, mI_hasImage HS, mF_hasImage HS, mI_remembered HS, mF_remembered HS, mR_tape HS, mI_taped HS, mF_taped HS, mI_point HS, mF_point HS, mI_end HS, mF_end HS, mI_begin HS, mF_begin HS, mI_deep HS, mF_deep HS, mI_faultAt HS, mF_faultAt HS, mR_five HS, mI_codes HS, mF_codes HS, mR_value HS, mI_so HS, mF_so HS, mR_lines HS, mR_chosen HS, mR_best HS, mR_members HS, mR_paired HS, mO HS, mA_287 HS, mW_287 HS, mA_288 HS, mW_288 HS, mA_289 HS, mW_289 HS, mA_290 HS, mW_290 HS, mA_291 HS, mW_291 HS, mA_292 HS, mW_292 HS, mA_293 HS, mW_293 HS, mA_294 HS, mW_294 HS, mA_295 HS, mW_295 HS, mA_296 HS, mW_296 HS, mA_297 HS, mW_297 HS, mA_298 HS, mW_298 HS, mA_299 HS, mW_299 HS, wi_some, or_0, or_1, bo_or, ite_boP, true_and, and_true, kN_v, kN_n, kT_v, kT_n, kT_e, Nat.add_zero, Nat.zero_add]
  refine k253 hw HS R I hL hg ht ?_
  intro D1 hex
  have e7 : D1 287 = D 287 := hex _ (by decide)
  have R1 : Rw (D1 287) V nt ng nr nl := by rw [e7]; exact R
  have c4 : 48 + 9 * g + 4 < 2050 := by omega
  have c7 : 48 + 9 * g + 7 < 2050 := by omega
  have c8 : 48 + 9 * g + 8 < 2050 := by omega
  have n4 : u2 (u2 (u2 D1 287 (48 + 9 * g + 4) (V 9 g - costL lw V ng g t)) 287 (48 + 9 * g + 7) (Int32.ofNat 1)) 287 (48 + 9 * g + 8) (Int32.ofNat t) = u2 (u2 (u2 D1 287 (48 + 9 * g + 4) (V 9 g - costL lw V ng g t)) 287 (48 + 9 * g + 7) (Int32.ofNat 1)) 287 (48 + 9 * g + 8) (Int32.ofNat t) := rfl
  simp only [b260_6 hw, b260_16 hw, b260_21 hw, b260_31 hw, b260_33 hw, b260_43 hw, b260_45 hw, mI_thrown HS, mF_thrown HS, mR_row HS, mR_image HS, mR_earlier HS, mR_trial HS, mR_acts HS, mI_hasImage HS, mF_hasImage HS, mI_remembered HS, mF_remembered HS, mR_tape HS, mI_taped HS, mF_taped HS, mI_point HS, mF_point HS, mI_end HS, mF_end HS, mI_begin HS, mF_begin HS, mI_deep HS, mF_deep HS, mI_faultAt HS, mF_faultAt HS, mR_five HS, mI_codes HS, mF_codes HS, mR_value HS, mI_so HS, mF_so HS, mR_lines HS, mR_chosen HS, mR_best HS, mR_members HS, mR_paired HS, mO HS, mA_287 HS, mW_287 HS, mA_288 HS, mW_288 HS, mA_289 HS, mW_289 HS, mA_290 HS, mW_290 HS, mA_291 HS, mW_291 HS, mA_292 HS, mW_292 HS, mA_293 HS, mW_293 HS, mA_294 HS, mW_294 HS, mA_295 HS, mW_295 HS, mA_296 HS, mW_296 HS, mA_297 HS, mW_297 HS, mA_298 HS, mW_298 HS, mA_299 HS, mW_299 HS, wi_some, or_0, or_1, bo_or, ite_boP, true_and, and_true, kN_v, kN_n, kT_v, kT_n, kT_e, Nat.add_zero, Nat.zero_add, k202 hw, c4, c7, c8, oN_tn (show 48 + 9 * g + 4 < 2147483648 by omega), oN_tn (show 48 + 9 * g + 7 < 2147483648 by omega), oN_tn (show 48 + 9 * g + 8 < 2147483648 by omega), r_money R1 hg]
  generalize hx : costL lw V ng g t = x at *
  generalize hD2 : u2 (u2 (u2 D1 287 (48 + 9 * g + 4) (V 9 g - x)) 287 (48 + 9 * g + 7) (Int32.ofNat 1)) 287 (48 + 9 * g + 8) (Int32.ofNat t) = D2 at *
  have r2 : Rx D D2 := by rw [← hD2]; exact (((Ex.rx hex).st (by omega) (by omega)).st (by omega) (by omega)).st (by omega) (by omega)
  have hby : Rw (D2 287) (u2 (u2 V 12 g (Int32.ofNat t)) 9 g (V 9 g - x)) nt ng nr nl := by
    have ha : Rw (fun i => if i = 48 + 9 * g + 4 then D1 287 i else D2 287 i) (u2 V 12 g (Int32.ofNat t)) nt ng nr nl := by
      refine Rw_by R1 (i_nt8 I) hng hnr hg ?_ ?_ ?_
      · intro i h1 h2
        by_cases h3 : i = 48 + 9 * g + 4
        · rw [if_pos h3]
        · rw [if_neg h3, ← hD2]; simp [u2_at, h1, h2, h3]
      · rw [if_neg (by omega), ← hD2]
        have : ¬ Int32.ofNat t = -1 := by rw [oN_ne1 (by omega)]; exact id
        simp [u2_at, this, bo]
      · rw [if_neg (by omega), ← hD2]; simp [u2_at]
    refine Rw_money ha (i_nt8 I) hng hnr hg ?_ ?_
    · intro i hi
      rw [if_neg hi]
    · rw [← hD2]; simp [u2_at]
  have hIv : Iv (u2 (u2 V 12 g (Int32.ofNat t)) 9 g (V 9 g - x)) nt ng nr nl := by
    apply Iv_money (Iv_by I (Or.inr ⟨t, ht, rfl⟩))
    obtain ⟨m, hm, em⟩ := i_money I hg
    obtain ⟨q, hq, eq⟩ := hL.N V ng g t (Int32.ofNat 0)
    have h := canL_cost hc
    rw [hx, em] at h
    rw [← hx] at h ⊢
    unfold costL at *
    rw [eq, oN_add, oN_lt (by omega) (by omega)] at h
    exact ⟨m - (10 + q), by omega, by rw [em, eq, oN_add, oN_sub (by omega)]⟩
  refine k259 hw HS hby hIv ?_
  intro D3 r3 R3
  simp only [b260_52 hw, wi_some, or_0, or_1, bo_or, ite_boP, true_and, and_true, kN_v, kN_n, kT_v, kT_n, kT_e, Nat.add_zero, Nat.zero_add]
  refine kk D3 (r2.tr r3) ?_
  unfold bdV
  rw [nlV_of I]
  have e15 : u2 (u2 V 12 g (Int32.ofNat t)) 9 g (V 9 g - x) 0 15 = V 0 15 := by simp [u2_at]
  rw [e15] at R3
  exact R3
theorem k261 {dr : Bool} (hw : WT sh) (HS : SP sh) (R : Rw (D 287) V nt ng nr nl) (I : Iv V nt ng nr nl) (hL : Rl (D 287) lw) (hg : g < ng) (hb : V 12 g = -1)
    (kk : ∀ D', Rx D D' → Rw (D' 287) (goL lw ng nr dr g (V, 0)).1 nt ng nr (nlV (goL lw ng nr dr g (V, 0)).1) → Q (.inl (some (.int (Int32.ofNat (goL lw ng nr dr g (V, 0)).2)))) (mk sh D') c s) (k1 : (goL lw ng nr dr g (V, 0)).2 ≤ 1) :
    Wx (tP nx xs) (d + 10) 261 0 [some (.ref 286), (some (.int (Int32.ofNat g))), (some (.int (bo (!dr)))), none, none] [] (mk sh D) c s Q := by
  have hng := i_ng6 I
  have hnr := i_nr5 I
  have hg6 : g < 6 := by omega
  have h5 : 5 < 11 := by decide
  simp only [b261_0 hw, mI_thrown HS, mF_thrown HS, mR_row HS, mR_image HS, mR_earlier HS, mR_trial HS, mR_acts HS, mI_hasImage HS, mF_hasImage HS, mI_remembered HS, mF_remembered HS, mR_tape HS, mI_taped HS, mF_taped HS, mI_point HS, mF_point HS, mI_end HS, mF_end HS, mI_begin HS, mF_begin HS, mI_deep HS, mF_deep HS, mI_faultAt HS, mF_faultAt HS, mR_five HS, mI_codes HS, mF_codes HS, mR_value HS, mI_so HS, mF_so HS, mR_lines HS, mR_chosen HS, mR_best HS, mR_members HS, mR_paired HS, mO HS, mA_287 HS, mW_287 HS, mA_288 HS, mW_288 HS, mA_289 HS, mW_289 HS, mA_290 HS, mW_290 HS, mA_291 HS, mW_291 HS, mA_292 HS, mW_292 HS, mA_293 HS, mW_293 HS, mA_294 HS, mW_294 HS, mA_295 HS, mW_295 HS, mA_296 HS, mW_296 HS, mA_297 HS, mW_297 HS, mA_298 HS, mW_298 HS, mA_299 HS, mW_299 HS, wi_some, or_0, or_1, bo_or, ite_boP, true_and, and_true, kN_v, kN_n, kT_v, kT_n, kT_e, Nat.add_zero, Nat.zero_add]
  refine k258 hw HS R I hL hg ?_
  intro D1 hex
  have e7 : D1 287 = D 287 := hex _ (by decide)
  have R1 : Rw (D1 287) V nt ng nr nl := by rw [e7]; exact R
  have hL1 : Rl (D1 287) lw := by rw [e7]; exact hL
  simp only [b261_5 hw, wi_some, or_0, or_1, bo_or, ite_boP, true_and, and_true, kN_v, kN_n, kT_v, kT_n, kT_e, Nat.add_zero, Nat.zero_add]
  unfold goL at kk
  simp only [hb, if_true] at kk
  cases dr with
  | false =>
    simp only [Bool.not_false, if_true, Bool.false_eq_true, if_false, b261_41 hw, b261_46 hw, show ¬ (Int32.ofNat 1 : Int32) = Int32.ofNat 0 by decide] at kk ⊢
    cases htr : trainL lw V ng nr g with
    | none =>
      rw [htr] at kk
      simp only [opI, if_true, b261_58 hw] at kk ⊢
      exact kk D1 (Ex.rx hex) (by rw [nlV_of I]; exact R1)
    | some t =>
      rw [htr] at kk
      obtain ⟨ht, hc⟩ := trainL_lt htr
      simp only [opI, oN_ne1 (show t < 2147483648 by omega), if_false, mI_thrown HS, mF_thrown HS, mR_row HS, mR_image HS, mR_earlier HS, mR_trial HS, mR_acts HS, mI_hasImage HS, mF_hasImage HS, mI_remembered HS, mF_remembered HS, mR_tape HS, mI_taped HS, mF_taped HS, mI_point HS, mF_point HS, mI_end HS, mF_end HS, mI_begin HS, mF_begin HS, mI_deep HS, mF_deep HS, mI_faultAt HS, mF_faultAt HS, mR_five HS, mI_codes HS, mF_codes HS, mR_value HS, mI_so HS, mF_so HS, mR_lines HS, mR_chosen HS, mR_best HS, mR_members HS, mR_paired HS, mO HS, mA_287 HS, mW_287 HS, mA_288 HS, mW_288 HS, mA_289 HS, mW_289 HS, mA_290 HS, mW_290 HS, mA_291 HS, mW_291 HS, mA_292 HS, mW_292 HS, mA_293 HS, mW_293 HS, mA_294 HS, mW_294 HS, mA_295 HS, mW_295 HS, mA_296 HS, mW_296 HS, mA_297 HS, mW_297 HS, mA_298 HS, mW_298 HS, mA_299 HS, mW_299 HS, wi_some, or_0, or_1, bo_or, ite_boP, true_and, and_true, kN_v, kN_n, kT_v, kT_n, kT_e, Nat.add_zero, Nat.zero_add] at kk ⊢
      refine k260 hw HS R1 I hL1 hg ht hc ?_
      intro D2 r2 R2
      simp only [b261_66 hw, wi_some, or_0, or_1, bo_or, ite_boP, true_and, and_true, kN_v, kN_n, kT_v, kT_n, kT_e, Nat.add_zero, Nat.zero_add]
      exact kk D2 ((Ex.rx hex).tr r2) (by rw [nlV_of (Iv_bd hL.N I hg ht hc)]; exact R2)
  | true =>
    simp only [Bool.not_true, Bool.false_eq_true, if_false, if_true, mI_thrown HS, mF_thrown HS, mR_row HS, mR_image HS, mR_earlier HS, mR_trial HS, mR_acts HS, mI_hasImage HS, mF_hasImage HS, mI_remembered HS, mF_remembered HS, mR_tape HS, mI_taped HS, mF_taped HS, mI_point HS, mF_point HS, mI_end HS, mF_end HS, mI_begin HS, mF_begin HS, mI_deep HS, mF_deep HS, mI_faultAt HS, mF_faultAt HS, mR_five HS, mI_codes HS, mF_codes HS, mR_value HS, mI_so HS, mF_so HS, mR_lines HS, mR_chosen HS, mR_best HS, mR_members HS, mR_paired HS, mO HS, mA_287 HS, mW_287 HS, mA_288 HS, mW_288 HS, mA_289 HS, mW_289 HS, mA_290 HS, mW_290 HS, mA_291 HS, mW_291 HS, mA_292 HS, mW_292 HS, mA_293 HS, mW_293 HS, mA_294 HS, mW_294 HS, mA_295 HS, mW_295 HS, mA_296 HS, mW_296 HS, mA_297 HS, mW_297 HS, mA_298 HS, mW_298 HS, mA_299 HS, mW_299 HS, wi_some, or_0, or_1, bo_or, ite_boP, true_and, and_true, kN_v, kN_n, kT_v, kT_n, kT_e, Nat.add_zero, Nat.zero_add, k214 hw HS, r_seed R1] at kk ⊢
    have hs0 : D1 287 7 = V 0 16 := r_seed R1
    have RW : Rw (u2 D1 287 7 (seedN (V 0 16)) 287) (u2 V 0 16 (seedN (V 0 16))) nt ng nr nl := Rw_seed R1 (fun i hi => by simp [u2_at, hi]) (by simp [u2_at])
    have IW : Iv (u2 V 0 16 (seedN (V 0 16))) nt ng nr nl := Iv_seed I
    have rW : Rx D (u2 D1 287 7 (seedN (V 0 16))) := (Ex.rx hex).st (by decide) (by decide)
    have hLW : Rl (u2 D1 287 7 (seedN (V 0 16)) 287) lw := rW.rl hL
    have en : u2 V 0 16 (seedN (V 0 16)) 10 g = V 10 g := by simp [u2_at]
    unfold drawnL at kk
    rw [trainL_seed] at kk
    generalize hWW : u2 V 0 16 (seedN (V 0 16)) = W at *
    generalize hDD : u2 D1 287 7 (seedN (V 0 16)) = D2 at *
    have fin : ∀ D3 l4, Rx D D3 → Rw (D3 287) W nt ng nr nl → (Q (.inl (some (.int (Int32.ofNat 0)))) (mk sh D3) c s) → ∀ y0 x3, (x3 = -1 ∨ y0 = Int32.ofNat 0) → Wx (tP nx xs) (d + 10) 261 46 [some (.ref 286), (some (.int (Int32.ofNat g))), (some (.int (bo false))), (some (.int (x3))), l4] [.int y0] (mk sh D3) c s Q := by
      intro D3 l4 r3 R3 q3 y0 x3 hor
      rw [b261_46 hw]
      by_cases h1 : x3 = -1
      · simp only [h1, if_true, b261_58 hw]; exact q3
      · cases hor with
        | inl h => exact absurd h h1
        | inr h => simp only [h1, h, if_true, if_false, b261_58 hw]; exact q3
    have nlW : nlV W = nl := nlV_of IW
    cases htr : trainL lw V ng nr g with
    | none =>
      rw [htr] at kk
      simp only [opI, if_true, b261_16 hw, b261_38 hw, b261_41 hw] at kk ⊢
      have hm : (if jrem (drawN (V 0 16)) (Int32.ofNat 100) < V 10 g then (none : Option Nat) else none) = none := by split <;> rfl
      rw [hm] at kk
      have q := kk D2 rW (by rw [nlW]; exact RW)
      split
      · exact fin D2 _ rW RW q _ _ (Or.inl rfl)
      · exact fin D2 _ rW RW q _ _ (Or.inl rfl)
    | some t =>
      rw [htr] at kk
      obtain ⟨ht, hc⟩ := trainL_lt htr
      have hcW : canL lw W ng g t = true := by rw [← hWW, canL_seed]; exact hc
      simp only [opI, oN_ne1 (show t < 2147483648 by omega), if_false, b261_16 hw, b261_31 hw, mI_thrown HS, mF_thrown HS, mR_row HS, mR_image HS, mR_earlier HS, mR_trial HS, mR_acts HS, mI_hasImage HS, mF_hasImage HS, mI_remembered HS, mF_remembered HS, mR_tape HS, mI_taped HS, mF_taped HS, mI_point HS, mF_point HS, mI_end HS, mF_end HS, mI_begin HS, mF_begin HS, mI_deep HS, mF_deep HS, mI_faultAt HS, mF_faultAt HS, mR_five HS, mI_codes HS, mF_codes HS, mR_value HS, mI_so HS, mF_so HS, mR_lines HS, mR_chosen HS, mR_best HS, mR_members HS, mR_paired HS, mO HS, mA_287 HS, mW_287 HS, mA_288 HS, mW_288 HS, mA_289 HS, mW_289 HS, mA_290 HS, mW_290 HS, mA_291 HS, mW_291 HS, mA_292 HS, mW_292 HS, mA_293 HS, mW_293 HS, mA_294 HS, mW_294 HS, mA_295 HS, mW_295 HS, mA_296 HS, mW_296 HS, mA_297 HS, mW_297 HS, mA_298 HS, mW_298 HS, mA_299 HS, mW_299 HS, wi_some, or_0, or_1, bo_or, ite_boP, true_and, and_true, kN_v, kN_n, kT_v, kT_n, kT_e, Nat.add_zero, Nat.zero_add, k203 hw HS hg6 h5, r_nerve RW hg, en] at kk ⊢
      refine k254 hw HS RW IW hLW hg ht ?_
      intro D3 hex3
      have e7' : D3 287 = D2 287 := hex3 _ (by decide)
      have R3 : Rw (D3 287) W nt ng nr nl := by rw [e7']; exact RW
      have r3 : Rx D D3 := rW.tr (Ex.rx hex3)
      simp only [b261_37 hw, b261_38 hw, b261_41 hw, wi_some, or_0, or_1, bo_or, ite_boP, true_and, and_true, kN_v, kN_n, kT_v, kT_n, kT_e, Nat.add_zero, Nat.zero_add]
      obtain ⟨n10, hn10, en10⟩ := i_nerve I hg
      obtain ⟨q, hq, eq⟩ := hL.N W ng g t (Int32.ofNat 1)
      by_cases h2 : jrem (drawN (V 0 16)) (Int32.ofNat 100) < V 10 g - fearL lw W ng g t
      · have h1 : jrem (drawN (V 0 16)) (Int32.ofNat 100) < V 10 g := by
          rw [en10] at h2 ⊢
          unfold fearL at h2
          rw [eq] at h2
          exact oN_sublt (by omega) (by omega) h2
        simp only [h1, h2, if_true] at kk ⊢
        rw [b261_46 hw]
        simp only [oN_ne1 (show t < 2147483648 by omega), show ¬ (Int32.ofNat 1 : Int32) = Int32.ofNat 0 by decide, if_false, mI_thrown HS, mF_thrown HS, mR_row HS, mR_image HS, mR_earlier HS, mR_trial HS, mR_acts HS, mI_hasImage HS, mF_hasImage HS, mI_remembered HS, mF_remembered HS, mR_tape HS, mI_taped HS, mF_taped HS, mI_point HS, mF_point HS, mI_end HS, mF_end HS, mI_begin HS, mF_begin HS, mI_deep HS, mF_deep HS, mI_faultAt HS, mF_faultAt HS, mR_five HS, mI_codes HS, mF_codes HS, mR_value HS, mI_so HS, mF_so HS, mR_lines HS, mR_chosen HS, mR_best HS, mR_members HS, mR_paired HS, mO HS, mA_287 HS, mW_287 HS, mA_288 HS, mW_288 HS, mA_289 HS, mW_289 HS, mA_290 HS, mW_290 HS, mA_291 HS, mW_291 HS, mA_292 HS, mW_292 HS, mA_293 HS, mW_293 HS, mA_294 HS, mW_294 HS, mA_295 HS, mW_295 HS, mA_296 HS, mW_296 HS, mA_297 HS, mW_297 HS, mA_298 HS, mW_298 HS, mA_299 HS, mW_299 HS, wi_some, or_0, or_1, bo_or, ite_boP, true_and, and_true, kN_v, kN_n, kT_v, kT_n, kT_e, Nat.add_zero, Nat.zero_add]
        refine k260 hw HS R3 IW (r3.rl hL) hg ht hcW ?_
        intro D4 r4 R4
        simp only [b261_66 hw, wi_some, or_0, or_1, bo_or, ite_boP, true_and, and_true, kN_v, kN_n, kT_v, kT_n, kT_e, Nat.add_zero, Nat.zero_add]
        exact kk D4 (r3.tr r4) (by rw [nlV_of (Iv_bd hL.N IW hg ht hcW)]; exact R4)
      · have hm : (if jrem (drawN (V 0 16)) (Int32.ofNat 100) < V 10 g then (if jrem (drawN (V 0 16)) (Int32.ofNat 100) < V 10 g - fearL lw W ng g t then some t else none) else none) = none := by
          rw [if_neg h2]; split <;> rfl
        rw [hm] at kk
        simp only [h2, if_false] at kk ⊢
        exact fin D3 _ r3 R3 (kk D3 r3 (by rw [nlW]; exact R3)) _ _ (Or.inr rfl)
end C48
