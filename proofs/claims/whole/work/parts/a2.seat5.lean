/-! ===== seating, the reference's ways ===== -/
theorem oN_div {a b : Nat} (ha : a < 2147483648) (hb : b < 2147483648) : Int32.ofNat a / Int32.ofNat b = Int32.ofNat (a / b) := (Int32.ofNat_div (by simpa using ha) (by simpa using hb)).symm
theorem oN_rem {a b : Nat} (ha : a < 2147483648) (hb : b < 2147483648) : jrem (Int32.ofNat a) (Int32.ofNat b) = Int32.ofNat (a % b) := by
  unfold jrem
  have h1 : a / b * b ≤ a := Nat.div_mul_le_self a b
  rw [oN_div ha hb, oN_mul, oN_sub h1]
  congr 1
  have := Nat.div_add_mod a b
  rw [Nat.mul_comm] at this
  omega
theorem mo_m (k : Nat) : mo (k + 1) + -1 = mo k := by
  rw [mo_s]
  unfold mo
  rw [Int32.sub_eq_add_neg]
  rfl
theorem mo_p (x : Nat) : mo x + Int32.ofNat 1 = mo (x + 1) := by
  rw [mo_s]
  unfold mo
  rw [Int32.sub_add_cancel]
theorem mo_m1 : ∀ m, m < 16 → ((mo m = (-1 : Int32)) ↔ m = 0) := by decide +kernel
theorem pw_le {nr ng : Nat} (hnr : nr ≤ 5) (hng : ng ≤ 6) : (nr + 1) ^ ng ≤ 46656 := Nat.le_trans (Nat.pow_le_pow_left (show nr + 1 ≤ 6 by omega) ng) (Nat.pow_le_pow_right (by decide) hng)
section CA2
variable {nx : Nat} {xs : Nat → Int32} {d c s : Nat} {sh : List sC} {D : sD} {Q : av_Q}
variable {V : sD} {nt ng nr nl : Nat}
theorem k315 {z f : Nat} (hw : WT sh) (HS : SP sh) (R : Rw (D 287) V nt ng nr nl) (I : Iv V nt ng nr nl) (hz : z < 64) (hf : f < (nr + 1) ^ ng)
    (kk : ∀ D', Ex 296 D D' → (0 < cnW V z ng (fgW nr ng 0 w0 f) → ∀ i, i < ng → D' 296 i = fgW nr ng 0 w0 f i) → Q (.inl (some (.int (mo (cnW V z ng (fgW nr ng 0 w0 f)))))) (mk sh D') c s) :
    Wx (tP nx xs) (d + 4) 315 0 [some (.ref 286), (some (.int (Int32.ofNat f))), (some (.int (Int32.ofNat z))), none, none, none] [] (mk sh D) c s Q := by
  have hng := i_ng6 I
  have hnr := i_nr5 I
  have hpw := pw_le hnr hng
  have n10 : ¬ (Int32.ofNat 1 : Int32) = Int32.ofNat 0 := by decide
  have r7 : ∀ {D1 : sD}, Ex 296 D D1 → D1 287 = D 287 := fun {D1} e => e 287 (by decide)
  generalize hW : fgW nr ng 0 w0 f = w at *
  have hwt : ∀ j, j < ng → w j = dg nr (f / (nr + 1) ^ (ng - 1 - j) % (nr + 1)) := fun j hj => by
    have := fgW_at (nr := nr) ng 0 w0 f hf j hj
    rw [Nat.zero_add, hW] at this
    exact this
  -- the second loop
  have lp2 : ∀ r i (l3 : Int32) (D1 : sD), i + r = ng → Ex 296 D D1 → (0 < fo (stpW V z w) i 0 1 → ∀ j, j < i → D1 296 j = w j) → (∀ j, i ≤ j → j < ng → D1 296 j = Int32.ofNat (f / (nr + 1) ^ (ng - 1 - j) % (nr + 1))) → Wx (tP nx xs) (d + 4) 315 51 [some (.ref 286), (some (.int (Int32.ofNat f))), (some (.int (Int32.ofNat z))), (some (.int (l3))), (some (.int (mo (fo (stpW V z w) i 0 1)))), (some (.int (Int32.ofNat i)))] [] (mk sh D1) c s Q := by
    intro r
    induction r with
    | zero =>
      intro i l3 D1 hi e1 h1 h2
      have hi' : i = ng := by omega
      subst hi'
      rw [b315_51 hw]
      simp only [mI_thrown HS, mF_thrown HS, mR_row HS, mR_image HS, mR_earlier HS, mR_trial HS, mR_acts HS, mI_hasImage HS, mF_hasImage HS, mI_remembered HS, mF_remembered HS, mR_tape HS, mI_taped HS, mF_taped HS, mI_point HS, mF_point HS, mI_end HS, mF_end HS, mI_begin HS, mF_begin HS, mI_deep HS, mF_deep HS, mI_faultAt HS, mF_faultAt HS, mR_five HS, mI_codes HS, mF_codes HS, mR_value HS, mI_so HS, mF_so HS, mR_lines HS, mR_chosen HS, mR_best HS, mR_members HS, mR_paired HS, mO HS, mA_287 HS, mW_287 HS, mA_288 HS, mW_288 HS, mA_289 HS, mW_289 HS, mA_290 HS, mW_290 HS, mA_291 HS, mW_291 HS, mA_292 HS, mW_292 HS, mA_293 HS, mW_293 HS, mA_294 HS, mW_294 HS, mA_295 HS, mW_295 HS, mA_296 HS, mW_296 HS, mA_297 HS, mW_297 HS, mA_298 HS, mW_298 HS, mA_299 HS, mW_299 HS, wi_some, or_0, or_1, bo_or, ite_boP, true_and, and_true, kN_v, kN_n, kT_v, kT_n, kT_e, Nat.add_zero, Nat.zero_add, k198 hw HS, r7 e1, r_ng R, b315_57 hw, oN_lt (show i < 2147483648 by omega) (show i < 2147483648 by omega), Nat.lt_irrefl, if_false, b315_132 hw]
      exact kk D1 e1 h1
    | succ r ih =>
      intro i l3 D1 hi e1 h1 h2
      have hi6 : i < 6 := by omega
      have him : i < ng := by omega
      have R1 : Rw (D1 287) V nt ng nr nl := by rw [r7 e1]; exact R
      have x7 : fo (stpW V z w) i 0 1 ≤ 7 := by
        have a := cn_le (V := V) (w := w) (x := 1) hz (show 0 + i ≤ 6 by omega)
        have b := lft_6 0 (by decide) z hz
        omega
      have em := mo_m1 (fo (stpW V z w) i 0 1) (by omega)
      have td : f / (nr + 1) ^ (ng - 1 - i) % (nr + 1) < nr + 1 := Nat.mod_lt _ (by omega)
      have hc := h2 i (Nat.le_refl _) him
      have hwi := hwt i him
      have ih := fun D2 a b c => ih (i + 1) l3 D2 (by omega) a b c
      rw [pre_s] at ih
      generalize hX : fo (stpW V z w) i 0 1 = X at *
      generalize f / (nr + 1) ^ (ng - 1 - i) % (nr + 1) = t at *
      rw [b315_51 hw]
      simp only [mI_thrown HS, mF_thrown HS, mR_row HS, mR_image HS, mR_earlier HS, mR_trial HS, mR_acts HS, mI_hasImage HS, mF_hasImage HS, mI_remembered HS, mF_remembered HS, mR_tape HS, mI_taped HS, mF_taped HS, mI_point HS, mF_point HS, mI_end HS, mF_end HS, mI_begin HS, mF_begin HS, mI_deep HS, mF_deep HS, mI_faultAt HS, mF_faultAt HS, mR_five HS, mI_codes HS, mF_codes HS, mR_value HS, mI_so HS, mF_so HS, mR_lines HS, mR_chosen HS, mR_best HS, mR_members HS, mR_paired HS, mO HS, mA_287 HS, mW_287 HS, mA_288 HS, mW_288 HS, mA_289 HS, mW_289 HS, mA_290 HS, mW_290 HS, mA_291 HS, mW_291 HS, mA_292 HS, mW_292 HS, mA_293 HS, mW_293 HS, mA_294 HS, mW_294 HS, mA_295 HS, mW_295 HS, mA_296 HS, mW_296 HS, mA_297 HS, mW_297 HS, mA_298 HS, mW_298 HS, mA_299 HS, mW_299 HS, wi_some, or_0, or_1, bo_or, ite_boP, true_and, and_true, kN_v, kN_n, kT_v, kT_n, kT_e, Nat.add_zero, Nat.zero_add, k198 hw HS, r_ng R1, b315_57 hw, oN_lt (show i < 2147483648 by omega) (show ng < 2147483648 by omega), him, if_true, em]
      by_cases h0 : X = 0
      · simp only [h0, if_true, b315_132 hw]
        have e0 : cnW V z ng w = 0 := by
          unfold cnW
          rw [show ng = i + (r + 1) by omega, fo_app, hX, h0]
          exact cn_0 _
        rw [e0] at kk
        exact kk D1 e1 (fun h => absurd h (Nat.lt_irrefl 0))
      · have hpos : 0 < X := by omega
        simp only [h0, if_false, mI_thrown HS, mF_thrown HS, mR_row HS, mR_image HS, mR_earlier HS, mR_trial HS, mR_acts HS, mI_hasImage HS, mF_hasImage HS, mI_remembered HS, mF_remembered HS, mR_tape HS, mI_taped HS, mF_taped HS, mI_point HS, mF_point HS, mI_end HS, mF_end HS, mI_begin HS, mF_begin HS, mI_deep HS, mF_deep HS, mI_faultAt HS, mF_faultAt HS, mR_five HS, mI_codes HS, mF_codes HS, mR_value HS, mI_so HS, mF_so HS, mR_lines HS, mR_chosen HS, mR_best HS, mR_members HS, mR_paired HS, mO HS, mA_287 HS, mW_287 HS, mA_288 HS, mW_288 HS, mA_289 HS, mW_289 HS, mA_290 HS, mW_290 HS, mA_291 HS, mW_291 HS, mA_292 HS, mW_292 HS, mA_293 HS, mW_293 HS, mA_294 HS, mW_294 HS, mA_295 HS, mW_295 HS, mA_296 HS, mW_296 HS, mA_297 HS, mW_297 HS, mA_298 HS, mW_298 HS, mA_299 HS, mW_299 HS, wi_some, or_0, or_1, bo_or, ite_boP, true_and, and_true, kN_v, kN_n, kT_v, kT_n, kT_e, Nat.add_zero, Nat.zero_add, hi6, hc, k199 hw HS, r_nr R1, b315_77 hw, oN_eq (show t < 2147483648 by omega) (show nr < 2147483648 by omega)]
        by_cases ht : t = nr
        · have ew : w i = -1 := by rw [hwi, ht]; exact if_pos rfl
          have es : stpW V z w i X = X := by unfold stpW; rw [if_neg h0, if_pos ew]
          rw [es] at ih
          simp only [ht, if_true, mI_thrown HS, mF_thrown HS, mR_row HS, mR_image HS, mR_earlier HS, mR_trial HS, mR_acts HS, mI_hasImage HS, mF_hasImage HS, mI_remembered HS, mF_remembered HS, mR_tape HS, mI_taped HS, mF_taped HS, mI_point HS, mF_point HS, mI_end HS, mF_end HS, mI_begin HS, mF_begin HS, mI_deep HS, mF_deep HS, mI_faultAt HS, mF_faultAt HS, mR_five HS, mI_codes HS, mF_codes HS, mR_value HS, mI_so HS, mF_so HS, mR_lines HS, mR_chosen HS, mR_best HS, mR_members HS, mR_paired HS, mO HS, mA_287 HS, mW_287 HS, mA_288 HS, mW_288 HS, mA_289 HS, mW_289 HS, mA_290 HS, mW_290 HS, mA_291 HS, mW_291 HS, mA_292 HS, mW_292 HS, mA_293 HS, mW_293 HS, mA_294 HS, mW_294 HS, mA_295 HS, mW_295 HS, mA_296 HS, mW_296 HS, mA_297 HS, mW_297 HS, mA_298 HS, mW_298 HS, mA_299 HS, mW_299 HS, wi_some, or_0, or_1, bo_or, ite_boP, true_and, and_true, kN_v, kN_n, kT_v, kT_n, kT_e, Nat.add_zero, Nat.zero_add, hi6, oN_tn (show i < 2147483648 by omega), b315_88 hw, b315_126 hw, oN_add]
          refine ih _ (fun a ha => funext fun j => by rw [u2_at, if_neg (by omega), e1 a ha]) (fun _ j hj => ?_) (fun j hj1 hj2 => ?_)
          · rw [u2_at]
            by_cases e : j = i
            · rw [if_pos ⟨rfl, e⟩, e, ew]
            · rw [if_neg (by omega)]; exact h1 hpos j (by omega)
          · rw [u2_at, if_neg (by omega)]; exact h2 j (by omega) hj2
        · have htn : t < nr := by omega
          have ew : w i = Int32.ofNat t := by rw [hwi]; exact if_neg ht
          have ne : ¬ Int32.ofNat t = (-1 : Int32) := by rw [oN_ne1 (by omega)]; exact id
          have er : rmP V (bs (fun o => decide (D1 296 o = Int32.ofNat t)) i) i t = rmW V w i t := by
            unfold rmW
            rw [bs_congr fun o ho => by rw [h1 hpos o ho]]
          have es : stpW V z w i X = if bt (Int32.ofNat z) i && rmW V w i t then X + 1 else 0 := by unfold stpW; rw [if_neg h0, ew, if_neg ne, oN_tn (by omega)]
          rw [es] at ih
          have up : ∀ D2, D2 = D1 → ∀ j, j < i + 1 → D2 296 j = w j := fun D2 e2 j hj => by
            rw [e2]
            by_cases e : j = i
            · rw [e, hc, ew]
            · exact h1 hpos j (by omega)
          have ih := ih D1 e1 (fun _ => up D1 rfl) (fun j hj1 hj2 => h2 j (by omega) hj2)
          simp only [ht, if_false, k189 hw (show i < 32 by omega), wi_some, or_0, or_1, bo_or, ite_boP, true_and, and_true, kN_v, kN_n, kT_v, kT_n, kT_e, Nat.add_zero, Nat.zero_add, b315_97 hw]
          cases hb : bt (Int32.ofNat z) i with
          | false =>
            simp only [hb, bo_f, if_true, Bool.false_and, Bool.false_eq_true, if_false, b315_123 hw, b315_124 hw, b315_126 hw, oN_add, mo_0] at ih ⊢
            exact ih
          | true =>
            simp only [bo_t, n10, if_false, mI_thrown HS, mF_thrown HS, mR_row HS, mR_image HS, mR_earlier HS, mR_trial HS, mR_acts HS, mI_hasImage HS, mF_hasImage HS, mI_remembered HS, mF_remembered HS, mR_tape HS, mI_taped HS, mF_taped HS, mI_point HS, mF_point HS, mI_end HS, mF_end HS, mI_begin HS, mF_begin HS, mI_deep HS, mF_deep HS, mI_faultAt HS, mF_faultAt HS, mR_five HS, mI_codes HS, mF_codes HS, mR_value HS, mI_so HS, mF_so HS, mR_lines HS, mR_chosen HS, mR_best HS, mR_members HS, mR_paired HS, mO HS, mA_287 HS, mW_287 HS, mA_288 HS, mW_288 HS, mA_289 HS, mW_289 HS, mA_290 HS, mW_290 HS, mA_291 HS, mW_291 HS, mA_292 HS, mW_292 HS, mA_293 HS, mW_293 HS, mA_294 HS, mW_294 HS, mA_295 HS, mW_295 HS, mA_296 HS, mW_296 HS, mA_297 HS, mW_297 HS, mA_298 HS, mW_298 HS, mA_299 HS, mW_299 HS, wi_some, or_0, or_1, bo_or, ite_boP, true_and, and_true, kN_v, kN_n, kT_v, kT_n, kT_e, Nat.add_zero, Nat.zero_add, hi6, hc]
            rw [k314 (d := d) hw HS R1 I him htn]
            simp only [wi_some, or_0, or_1, bo_or, ite_boP, true_and, and_true, kN_v, kN_n, kT_v, kT_n, kT_e, Nat.add_zero, Nat.zero_add, b315_113 hw, er, hb, Bool.true_and] at ih ⊢
            cases hr : rmW V w i t with
            | false =>
              simp only [hr, bo_f, if_true, Bool.false_eq_true, if_false, b315_123 hw, b315_124 hw, b315_126 hw, oN_add, mo_0] at ih ⊢
              exact ih
            | true =>
              simp only [hr, bo_t, n10, if_true, if_false, b315_124 hw, b315_126 hw, oN_add, mo_p] at ih ⊢
              exact ih
  -- the first loop
  have lp1 : ∀ k (D1 : sD), k ≤ ng → Ex 296 D D1 → (∀ j, k ≤ j → j < ng → D1 296 j = Int32.ofNat (f / (nr + 1) ^ (ng - 1 - j) % (nr + 1))) → Wx (tP nx xs) (d + 4) 315 10 [some (.ref 286), (some (.int (Int32.ofNat f))), (some (.int (Int32.ofNat z))), (some (.int (Int32.ofNat (f / (nr + 1) ^ (ng - k))))), (some (.int (mo k))), none] [] (mk sh D1) c s Q := by
    intro k
    induction k with
    | zero =>
      intro D1 _ e1 h1
      rw [b315_10 hw]
      simp only [mo_0, show (-1 : Int32) < Int32.ofNat 0 by decide, if_true]
      have := lp2 ng 0 (Int32.ofNat (f / (nr + 1) ^ (ng - 0))) D1 (by omega) e1 (fun _ j hj => absurd hj (Nat.not_lt_zero _)) h1
      rw [show mo (fo (stpW V z w) 0 0 1) = Int32.ofNat 0 from mo_s 0] at this
      exact this
    | succ k ih =>
      intro D1 hk e1 h1
      have hk6 : k < 6 := by omega
      have hl : f / (nr + 1) ^ (ng - (k + 1)) ≤ f := Nat.div_le_self _ _
      have nz : ¬ Int32.ofNat (nr + 1) = 0 := by
        have := oN_eq (show nr + 1 < 2147483648 by omega) (show 0 < 2147483648 by decide)
        intro h
        have h2 : nr + 1 = 0 := this ▸ h
        omega
      have e199 : ∀ D2, Ex 296 D D2 → D2 287 2 = Int32.ofNat nr := fun D2 e2 => by rw [r7 e2]; exact r_nr R
      have e2 : Ex 296 D (u2 D1 296 k (Int32.ofNat (f / (nr + 1) ^ (ng - (k + 1)) % (nr + 1)))) := fun a ha => funext fun j => by rw [u2_at, if_neg (by omega), e1 a ha]
      rw [b315_10 hw]
      simp only [mo_s, oN_nn (show k < 2147483648 by omega), if_false, mI_thrown HS, mF_thrown HS, mR_row HS, mR_image HS, mR_earlier HS, mR_trial HS, mR_acts HS, mI_hasImage HS, mF_hasImage HS, mI_remembered HS, mF_remembered HS, mR_tape HS, mI_taped HS, mF_taped HS, mI_point HS, mF_point HS, mI_end HS, mF_end HS, mI_begin HS, mF_begin HS, mI_deep HS, mF_deep HS, mI_faultAt HS, mF_faultAt HS, mR_five HS, mI_codes HS, mF_codes HS, mR_value HS, mI_so HS, mF_so HS, mR_lines HS, mR_chosen HS, mR_best HS, mR_members HS, mR_paired HS, mO HS, mA_287 HS, mW_287 HS, mA_288 HS, mW_288 HS, mA_289 HS, mW_289 HS, mA_290 HS, mW_290 HS, mA_291 HS, mW_291 HS, mA_292 HS, mW_292 HS, mA_293 HS, mW_293 HS, mA_294 HS, mW_294 HS, mA_295 HS, mW_295 HS, mA_296 HS, mW_296 HS, mA_297 HS, mW_297 HS, mA_298 HS, mW_298 HS, mA_299 HS, mW_299 HS, wi_some, or_0, or_1, bo_or, ite_boP, true_and, and_true, kN_v, kN_n, kT_v, kT_n, kT_e, Nat.add_zero, Nat.zero_add, k199 hw HS, e199 D1 e1, b315_26 hw, oN_add, nz, ne_eq, not_false_eq_true, hk6, oN_rem (show f / (nr + 1) ^ (ng - (k + 1)) < 2147483648 by omega) (show nr + 1 < 2147483648 by omega), oN_tn (show k < 2147483648 by omega), b315_30 hw, e199 _ e2, b315_35 hw, oN_div (show f / (nr + 1) ^ (ng - (k + 1)) < 2147483648 by omega) (show nr + 1 < 2147483648 by omega)]
      have em : Int32.ofNat k + -1 = mo k := by rw [← mo_s]; exact mo_m k
      have ed : f / (nr + 1) ^ (ng - (k + 1)) / (nr + 1) = f / (nr + 1) ^ (ng - k) := by
        rw [Nat.div_div_eq_div_mul, ← Nat.pow_succ, show (ng - (k + 1)).succ = ng - k by omega]
      rw [em, ed]
      refine ih _ (by omega) e2 (fun j hj1 hj2 => ?_)
      rw [u2_at]
      by_cases e : j = k
      · rw [if_pos ⟨rfl, e⟩, e, show ng - 1 - k = ng - (k + 1) by omega]
      · rw [if_neg (by omega)]; exact h1 j (by omega) hj2
  simp only [b315_0 hw, mI_thrown HS, mF_thrown HS, mR_row HS, mR_image HS, mR_earlier HS, mR_trial HS, mR_acts HS, mI_hasImage HS, mF_hasImage HS, mI_remembered HS, mF_remembered HS, mR_tape HS, mI_taped HS, mF_taped HS, mI_point HS, mF_point HS, mI_end HS, mF_end HS, mI_begin HS, mF_begin HS, mI_deep HS, mF_deep HS, mI_faultAt HS, mF_faultAt HS, mR_five HS, mI_codes HS, mF_codes HS, mR_value HS, mI_so HS, mF_so HS, mR_lines HS, mR_chosen HS, mR_best HS, mR_members HS, mR_paired HS, mO HS, mA_287 HS, mW_287 HS, mA_288 HS, mW_288 HS, mA_289 HS, mW_289 HS, mA_290 HS, mW_290 HS, mA_291 HS, mW_291 HS, mA_292 HS, mW_292 HS, mA_293 HS, mW_293 HS, mA_294 HS, mW_294 HS, mA_295 HS, mW_295 HS, mA_296 HS, mW_296 HS, mA_297 HS, mW_297 HS, mA_298 HS, mW_298 HS, mA_299 HS, mW_299 HS, wi_some, or_0, or_1, bo_or, ite_boP, true_and, and_true, kN_v, kN_n, kT_v, kT_n, kT_e, Nat.add_zero, Nat.zero_add, k198 hw HS, r_ng R, b315_6 hw]
  have := lp1 ng D (Nat.le_refl _) (fun _ _ => rfl) (fun j h1 h2 => by omega)
  rw [Nat.sub_self, Nat.pow_zero, Nat.div_one] at this
  exact this
def Se2 (D D' : sD) : Prop := ∀ a, a ≠ 296 → a ≠ 297 → D' a = D a
theorem cnW_7 {z : Nat} {w : Nat → Int32} (hz : z < 64) (hng : ng ≤ 6) : cnW V z ng w ≤ 7 := by
  have a := cn_le (V := V) (w := w) (x := 1) hz (show 0 + ng ≤ 6 by omega)
  have b := lft_6 0 (by decide) z hz
  unfold cnW
  omega
theorem k316 {z : Nat} (hw : WT sh) (HS : SP sh) (R : Rw (D 287) V nt ng nr nl) (I : Iv V nt ng nr nl) (hz : z < 64) (hzn : z < 2 ^ ng)
    (kk : ∀ D', Se2 D D' → (∀ i, i < ng → D' 297 i = (seX V ng nr z).2 i) → Q (.inl (some (.int (mo (seX V ng nr z).1)))) (mk sh D') c s) :
    Wx (tP nx xs) (d + 5) 316 0 [some (.ref 286), (some (.int (Int32.ofNat z))), none, none, none, none, none] [] (mk sh D) c s Q := by
  have hng := i_ng6 I
  have hnr := i_nr5 I
  have hpw := pw_le hnr hng
  obtain ⟨x1, x2⟩ := seX_en (V := V) hz hng hnr hzn (D 297)
  simp only [b316_0 hw]
  refine Eq.mpr (up_loop (W := fun i (_ : Nat) => Wx (tP nx xs) (d + 5) 316 4 [some (.ref 286), (some (.int (Int32.ofNat z))), (some (.int (Int32.ofNat ((nr + 1) ^ i)))), (some (.int (Int32.ofNat i))), none, none, none] [] (mk sh D) c s Q) (F := fun _ x => x) ng (fun i _ hi => ?_) 0) ?_
  · rw [b316_4 hw]
    simp only [mI_thrown HS, mF_thrown HS, mR_row HS, mR_image HS, mR_earlier HS, mR_trial HS, mR_acts HS, mI_hasImage HS, mF_hasImage HS, mI_remembered HS, mF_remembered HS, mR_tape HS, mI_taped HS, mF_taped HS, mI_point HS, mF_point HS, mI_end HS, mF_end HS, mI_begin HS, mF_begin HS, mI_deep HS, mF_deep HS, mI_faultAt HS, mF_faultAt HS, mR_five HS, mI_codes HS, mF_codes HS, mR_value HS, mI_so HS, mF_so HS, mR_lines HS, mR_chosen HS, mR_best HS, mR_members HS, mR_paired HS, mO HS, mA_287 HS, mW_287 HS, mA_288 HS, mW_288 HS, mA_289 HS, mW_289 HS, mA_290 HS, mW_290 HS, mA_291 HS, mW_291 HS, mA_292 HS, mW_292 HS, mA_293 HS, mW_293 HS, mA_294 HS, mW_294 HS, mA_295 HS, mW_295 HS, mA_296 HS, mW_296 HS, mA_297 HS, mW_297 HS, mA_298 HS, mW_298 HS, mA_299 HS, mW_299 HS, wi_some, or_0, or_1, bo_or, ite_boP, true_and, and_true, kN_v, kN_n, kT_v, kT_n, kT_e, Nat.add_zero, Nat.zero_add, k198 hw HS, k199 hw HS, r_ng R, r_nr R, b316_9 hw, b316_17 hw, oN_lt (show i < 2147483648 by omega) (show ng < 2147483648 by omega), hi, if_true, oN_add, oN_mul, Nat.pow_succ]
  · rw [b316_4 hw]
    simp only [mI_thrown HS, mF_thrown HS, mR_row HS, mR_image HS, mR_earlier HS, mR_trial HS, mR_acts HS, mI_hasImage HS, mF_hasImage HS, mI_remembered HS, mF_remembered HS, mR_tape HS, mI_taped HS, mF_taped HS, mI_point HS, mF_point HS, mI_end HS, mF_end HS, mI_begin HS, mF_begin HS, mI_deep HS, mF_deep HS, mI_faultAt HS, mF_faultAt HS, mR_five HS, mI_codes HS, mF_codes HS, mR_value HS, mI_so HS, mF_so HS, mR_lines HS, mR_chosen HS, mR_best HS, mR_members HS, mR_paired HS, mO HS, mA_287 HS, mW_287 HS, mA_288 HS, mW_288 HS, mA_289 HS, mW_289 HS, mA_290 HS, mW_290 HS, mA_291 HS, mW_291 HS, mA_292 HS, mW_292 HS, mA_293 HS, mW_293 HS, mA_294 HS, mW_294 HS, mA_295 HS, mW_295 HS, mA_296 HS, mW_296 HS, mA_297 HS, mW_297 HS, mA_298 HS, mW_298 HS, mA_299 HS, mW_299 HS, wi_some, or_0, or_1, bo_or, ite_boP, true_and, and_true, kN_v, kN_n, kT_v, kT_n, kT_e, Nat.add_zero, Nat.zero_add, k198 hw HS, r_ng R, b316_9 hw, oN_lt (show ng < 2147483648 by omega) (show ng < 2147483648 by omega), Nat.lt_irrefl, if_false]
    suffices hh : ∀ l5 l6 : Option Value, Wx (tP nx xs) (d + 5) 316 32 [some (.ref 286), (some (.int (Int32.ofNat z))), (some (.int (Int32.ofNat ((nr + 1) ^ ng)))), (some (.int (mo ((0, D 297) : seS).1))), (some (.int (Int32.ofNat 0))), l5, l6] [] (mk sh D) c s Q by
      exact hh none none
    refine up_P (W := fun f (x : seS) D => ∀ l5 l6 : Option Value, Wx (tP nx xs) (d + 5) 316 32 [some (.ref 286), (some (.int (Int32.ofNat z))), (some (.int (Int32.ofNat ((nr + 1) ^ ng)))), (some (.int (mo x.1))), (some (.int (Int32.ofNat f))), l5, l6] [] (mk sh D) c s Q) (P := fun _ x D' => x.1 ≤ 7 ∧ Se2 D D' ∧ ∀ i, i < ng → D' 297 i = x.2 i) (F := fun f st => lfW V z ng (fgW nr ng 0 w0 f) st) ((nr + 1) ^ ng) ?_ (0, D 297) D ⟨Nat.zero_le _, fun _ _ _ => rfl, fun _ _ => rfl⟩ ?_
    · intro f x D1 hf ⟨hx, s1, h1⟩ k l5 l6
      have R1 : Rw (D1 287) V nt ng nr nl := by rw [s1 287 (by decide) (by decide)]; exact R
      have c7 := cnW_7 (V := V) (w := fgW nr ng 0 w0 f) hz hng
      have ec := mo_lt2 x.1 (by omega) (cnW V z ng (fgW nr ng 0 w0 f)) (by omega)
      unfold lfW at k
      rw [b316_32 hw]
      simp only [oN_lt (show f < 2147483648 by omega) (show (nr + 1) ^ ng < 2147483648 by omega), hf, if_true, mI_thrown HS, mF_thrown HS, mR_row HS, mR_image HS, mR_earlier HS, mR_trial HS, mR_acts HS, mI_hasImage HS, mF_hasImage HS, mI_remembered HS, mF_remembered HS, mR_tape HS, mI_taped HS, mF_taped HS, mI_point HS, mF_point HS, mI_end HS, mF_end HS, mI_begin HS, mF_begin HS, mI_deep HS, mF_deep HS, mI_faultAt HS, mF_faultAt HS, mR_five HS, mI_codes HS, mF_codes HS, mR_value HS, mI_so HS, mF_so HS, mR_lines HS, mR_chosen HS, mR_best HS, mR_members HS, mR_paired HS, mO HS, mA_287 HS, mW_287 HS, mA_288 HS, mW_288 HS, mA_289 HS, mW_289 HS, mA_290 HS, mW_290 HS, mA_291 HS, mW_291 HS, mA_292 HS, mW_292 HS, mA_293 HS, mW_293 HS, mA_294 HS, mW_294 HS, mA_295 HS, mW_295 HS, mA_296 HS, mW_296 HS, mA_297 HS, mW_297 HS, mA_298 HS, mW_298 HS, mA_299 HS, mW_299 HS, wi_some, or_0, or_1, bo_or, ite_boP, true_and, and_true, kN_v, kN_n, kT_v, kT_n, kT_e, Nat.add_zero, Nat.zero_add]
      refine k315 hw HS R1 I hz hf ?_
      intro D2 e2 h2
      have R2 : Rw (D2 287) V nt ng nr nl := by rw [e2 287 (by decide)]; exact R1
      have s2 : Se2 D D2 := fun a ha hb => (e2 a ha).trans (s1 a ha hb)
      simp only [wi_some, or_0, or_1, bo_or, ite_boP, true_and, and_true, kN_v, kN_n, kT_v, kT_n, kT_e, Nat.add_zero, Nat.zero_add, b316_45 hw, ec]
      by_cases hc : x.1 < cnW V z ng (fgW nr ng 0 w0 f)
      · simp only [hc, if_true] at k ⊢
        have h2 := h2 (by omega)
        refine up_P (W := fun i (_ : Nat) D => Wx (tP nx xs) (d + 5) 316 62 [some (.ref 286), (some (.int (Int32.ofNat z))), (some (.int (Int32.ofNat ((nr + 1) ^ ng)))), (some (.int (mo (cnW V z ng (fgW nr ng 0 w0 f))))), (some (.int (Int32.ofNat f))), (some (.int (mo (cnW V z ng (fgW nr ng 0 w0 f))))), (some (.int (Int32.ofNat i)))] [] (mk sh D) c s Q) (P := fun i _ D' => (∀ a, a ≠ 297 → D' a = D2 a) ∧ ∀ j, j < i → D' 297 j = fgW nr ng 0 w0 f j) (F := fun _ x => x) ng ?_ 0 D2 ⟨fun _ _ => rfl, fun j hj => absurd hj (Nat.not_lt_zero _)⟩ ?_
        · intro i _ D3 hi ⟨e3, h3⟩ k3
          have hi6 : i < 6 := by omega
          have ei : D3 296 i = fgW nr ng 0 w0 f i := by rw [e3 296 (by decide)]; exact h2 i hi
          rw [b316_62 hw]
          simp only [mI_thrown HS, mF_thrown HS, mR_row HS, mR_image HS, mR_earlier HS, mR_trial HS, mR_acts HS, mI_hasImage HS, mF_hasImage HS, mI_remembered HS, mF_remembered HS, mR_tape HS, mI_taped HS, mF_taped HS, mI_point HS, mF_point HS, mI_end HS, mF_end HS, mI_begin HS, mF_begin HS, mI_deep HS, mF_deep HS, mI_faultAt HS, mF_faultAt HS, mR_five HS, mI_codes HS, mF_codes HS, mR_value HS, mI_so HS, mF_so HS, mR_lines HS, mR_chosen HS, mR_best HS, mR_members HS, mR_paired HS, mO HS, mA_287 HS, mW_287 HS, mA_288 HS, mW_288 HS, mA_289 HS, mW_289 HS, mA_290 HS, mW_290 HS, mA_291 HS, mW_291 HS, mA_292 HS, mW_292 HS, mA_293 HS, mW_293 HS, mA_294 HS, mW_294 HS, mA_295 HS, mW_295 HS, mA_296 HS, mW_296 HS, mA_297 HS, mW_297 HS, mA_298 HS, mW_298 HS, mA_299 HS, mW_299 HS, wi_some, or_0, or_1, bo_or, ite_boP, true_and, and_true, kN_v, kN_n, kT_v, kT_n, kT_e, Nat.add_zero, Nat.zero_add, k198 hw HS, e3 287 (by decide), r_ng R2, b316_68 hw, oN_lt (show i < 2147483648 by omega) (show ng < 2147483648 by omega), hi, if_true, hi6, oN_tn (show i < 2147483648 by omega), ei, b316_85 hw, oN_add]
          refine k3 _ ⟨fun a ha => funext fun j => by rw [u2_at, if_neg (by omega), e3 a ha], fun j hj => ?_⟩
          rw [u2_at]
          by_cases e : j = i
          · rw [if_pos ⟨rfl, e⟩, e]
          · rw [if_neg (by omega)]; exact h3 j (by omega)
        · intro D3 ⟨e3, h3⟩
          rw [b316_62 hw]
          simp only [mI_thrown HS, mF_thrown HS, mR_row HS, mR_image HS, mR_earlier HS, mR_trial HS, mR_acts HS, mI_hasImage HS, mF_hasImage HS, mI_remembered HS, mF_remembered HS, mR_tape HS, mI_taped HS, mF_taped HS, mI_point HS, mF_point HS, mI_end HS, mF_end HS, mI_begin HS, mF_begin HS, mI_deep HS, mF_deep HS, mI_faultAt HS, mF_faultAt HS, mR_five HS, mI_codes HS, mF_codes HS, mR_value HS, mI_so HS, mF_so HS, mR_lines HS, mR_chosen HS, mR_best HS, mR_members HS, mR_paired HS, mO HS, mA_287 HS, mW_287 HS, mA_288 HS, mW_288 HS, mA_289 HS, mW_289 HS, mA_290 HS, mW_290 HS, mA_291 HS, mW_291 HS, mA_292 HS, mW_292 HS, mA_293 HS, mW_293 HS, mA_294 HS, mW_294 HS, mA_295 HS, mW_295 HS, mA_296 HS, mW_296 HS, mA_297 HS, mW_297 HS, mA_298 HS, mW_298 HS, mA_299 HS, mW_299 HS, wi_some, or_0, or_1, bo_or, ite_boP, true_and, and_true, kN_v, kN_n, kT_v, kT_n, kT_e, Nat.add_zero, Nat.zero_add, k198 hw HS, e3 287 (by decide), r_ng R2, b316_68 hw, oN_lt (show ng < 2147483648 by omega) (show ng < 2147483648 by omega), Nat.lt_irrefl, if_false, b316_91 hw, oN_add]
          exact k D3 ⟨c7, fun a ha hb => (e3 a hb).trans (s2 a ha hb), h3⟩ _ _
      · simp only [hc, if_false, b316_91 hw, oN_add] at k ⊢
        exact k D2 ⟨hx, s2, fun i hi => by rw [e2 297 (by decide)]; exact h1 i hi⟩ _ _
    · intro D1 ⟨hx, s1, h1⟩ l5 l6
      rw [b316_32 hw]
      simp only [oN_lt (show (nr + 1) ^ ng < 2147483648 by omega) (show (nr + 1) ^ ng < 2147483648 by omega), Nat.lt_irrefl, if_false, x1]
      exact kk D1 s1 (by rw [← x2]; exact h1)
end CA2
