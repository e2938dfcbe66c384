/-! ===== the reference: sums of the law, who can go ===== -/
theorem bnot_d (p : Prop) [Decidable p] : (!decide p) = decide (¬ p) := by by_cases h : p <;> simp [h]
theorem barS {K A C F : Nat → Int32} {e : Nat → Nat} {n : Nat} (hA : ∀ j, j < n → K j = Int32.ofNat 2 → A j = Int32.ofNat 1) (hn : n ≤ 12) : decide (¬ lawSum K A C F e n (Int32.ofNat 2) = Int32.ofNat 0) = fo (fun j (x : Bool) => x || (decide (K j = Int32.ofNat 2) && holdsS C F (e j) (e (j + 1)))) n 0 false := by
  have h := fo_rel (F := fun j x => if decide (K j = Int32.ofNat 2) && holdsS C F (e j) (e (j + 1)) then x + A j else x) (G := fun j (x : Bool) => x || (decide (K j = Int32.ofNat 2) && holdsS C F (e j) (e (j + 1)))) (fun i x y => ∃ q, q ≤ i ∧ x = Int32.ofNat q ∧ y = decide (0 < q)) n 0 (Int32.ofNat 0) false ⟨0, by omega, rfl, rfl⟩ (fun j x y _ hj ⟨q, hq, hx, hy⟩ => by
    by_cases hk : K j = Int32.ofNat 2
    · have ha := hA j (by omega) hk
      cases hh : holdsS C F (e j) (e (j + 1))
      · exact ⟨q, by omega, by simp [hx], by simp [hy]⟩
      · refine ⟨q + 1, by omega, ?_, by simp [hk]⟩
        simp only [hk, decide_true, Bool.and_self, if_true, hx, ha, oN_add]
    · exact ⟨q, by omega, by simp only [hk, decide_false, Bool.false_and, Bool.false_eq_true, if_false, hx], by simp only [hk, decide_false, Bool.false_and, Bool.or_false, hy]⟩)
  obtain ⟨q, hq, hx, hy⟩ := h
  rw [hy]
  unfold lawSum
  rw [hx]
  by_cases h0 : 0 < q
  · have : ¬ Int32.ofNat q = Int32.ofNat 0 := by rw [oN_eq (by omega) (by decide)]; omega
    simp only [this, h0, not_false_eq_true, decide_true]
  · have : q = 0 := by omega
    subst this
    decide
section C46
variable {nx : Nat} {xs : Nat → Int32} {d c s : Nat} {sh : List sC} {D : sD} {Q : av_Q}
variable {V : sD} {nt ng nr nl g t : Nat} {lw : LW}
theorem k250 {j n : Nat} {K A C : Nat → Int32} {e : Nat → Nat} (hw : WT sh) (HS : SP sh) (R : Rw (D 287) V nt ng nr nl) (I : Iv V nt ng nr nl) (hL : Rl (D 287) (some (n, K, A, C, e))) (hg : g < ng) (ht : t < nr) (hj : j < n)
    (kk : ∀ D', Ex 294 D D' → Q (.inl (some (.int (bo (holdsS C (facV V ng g t) (e j) (e (j + 1))))))) (mk sh D') c s) :
    Wx (tP nx xs) (d + 5) 250 0 [some (.ref 286), (some (.int (Int32.ofNat j))), (some (.int (Int32.ofNat g))), (some (.int (Int32.ofNat t))), none, none, none, none, none, none, none] [] (mk sh D) c s Q := by
  obtain ⟨_, _, hn, _, hl, hc, _⟩ := hL
  obtain ⟨_, _, _, h2, h3, hwf⟩ := hl j hj
  obtain ⟨w1, w2, w3⟩ := hwf
  have b1 : 353 + 4 * j + 2 < 2050 := by omega
  have b3 : 353 + 4 * j + 3 < 2050 := by omega
  simp only [b250_0 hw, mI_thrown HS, mF_thrown HS, mR_row HS, mR_image HS, mR_earlier HS, mR_trial HS, mR_acts HS, mI_hasImage HS, mF_hasImage HS, mI_remembered HS, mF_remembered HS, mR_tape HS, mI_taped HS, mF_taped HS, mI_point HS, mF_point HS, mI_end HS, mF_end HS, mI_begin HS, mF_begin HS, mI_deep HS, mF_deep HS, mI_faultAt HS, mF_faultAt HS, mR_five HS, mI_codes HS, mF_codes HS, mR_value HS, mI_so HS, mF_so HS, mR_lines HS, mR_chosen HS, mR_best HS, mR_members HS, mR_paired HS, mO HS, mA_287 HS, mW_287 HS, mA_288 HS, mW_288 HS, mA_289 HS, mW_289 HS, mA_290 HS, mW_290 HS, mA_291 HS, mW_291 HS, mA_292 HS, mW_292 HS, mA_293 HS, mW_293 HS, mA_294 HS, mW_294 HS, mA_295 HS, mW_295 HS, mA_296 HS, mW_296 HS, mA_297 HS, mW_297 HS, mA_298 HS, mW_298 HS, mA_299 HS, mW_299 HS, wi_some, or_0, or_1, bo_or, ite_boP, true_and, and_true, kN_v, kN_n, kT_v, kT_n, kT_e, Nat.add_zero, Nat.zero_add, oN_add, oN_mul, b1, h2]
  have fin : ∀ ts', tyR C (e (j + 1) - e j) (e j) [] = some ts' → (ts' = [] ∨ ts' = [true]) → Wx (tP nx xs) (d + 5) 250 23 [some (.ref 286), (some (.int (Int32.ofNat j))), (some (.int (Int32.ofNat g))), (some (.int (Int32.ofNat t))), (some (.int (Int32.ofNat 0))), (some (.int (Int32.ofNat (353 + 4 * j)))), (some (.int (Int32.ofNat (e j)))), none, none, none, none] [] (mk sh D) c s Q := by
    intro ts' hty hts
    refine k250_loop (D0 := D) (e0 := e j) (e1 := e (j + 1)) (C := C) hw HS R I hg ht (by omega) w2 h3 (fun i h1 h2 => hc j i hj h1 h2) (e (j + 1) - e j) (e j) [] [] ts' D none none none none (by omega) (Nat.le_refl _) hty trivial (by simp) trivial Ex.rf ?_
    intro D' l7 l8 l9 l10 hex hst hok
    have kk := kk D' hex
    have e7 : D' 287 = D 287 := hex _ (by decide)
    have hl := tyOk_len _ _ hok
    rw [b250_23 hw]
    simp only [mI_thrown HS, mF_thrown HS, mR_row HS, mR_image HS, mR_earlier HS, mR_trial HS, mR_acts HS, mI_hasImage HS, mF_hasImage HS, mI_remembered HS, mF_remembered HS, mR_tape HS, mI_taped HS, mF_taped HS, mI_point HS, mF_point HS, mI_end HS, mF_end HS, mI_begin HS, mF_begin HS, mI_deep HS, mF_deep HS, mI_faultAt HS, mF_faultAt HS, mR_five HS, mI_codes HS, mF_codes HS, mR_value HS, mI_so HS, mF_so HS, mR_lines HS, mR_chosen HS, mR_best HS, mR_members HS, mR_paired HS, mO HS, mA_287 HS, mW_287 HS, mA_288 HS, mW_288 HS, mA_289 HS, mW_289 HS, mA_290 HS, mW_290 HS, mA_291 HS, mW_291 HS, mA_292 HS, mW_292 HS, mA_293 HS, mW_293 HS, mA_294 HS, mW_294 HS, mA_295 HS, mW_295 HS, mA_296 HS, mW_296 HS, mA_297 HS, mW_297 HS, mA_298 HS, mW_298 HS, mA_299 HS, mW_299 HS, wi_some, or_0, or_1, bo_or, ite_boP, true_and, and_true, kN_v, kN_n, kT_v, kT_n, kT_e, Nat.add_zero, Nat.zero_add, oN_add, b3, e7, h3, oN_lt (show e (j + 1) < 2147483648 by omega) (show e (j + 1) < 2147483648 by omega), Nat.lt_irrefl, if_false]
    unfold holdsS at kk
    cases hev : evR C (facV V ng g t) (e (j + 1) - e j) (e j) [] with
    | nil =>
      rw [hev] at kk
      simp only [List.length_nil, if_true, b250_286 hw, b250_291 hw, or_1, true_and]
      exact kk
    | cons b l =>
      rw [hev] at kk hst hl hok
      cases l with
      | cons a l => exfalso; cases hts with
        | inl h => rw [h] at hl; simp at hl
        | inr h => rw [h] at hl; simp at hl
      | nil =>
        have hS : D' 294 0 = b := hst.1
        have h400 : 0 < 400 := by decide
        have e1 : ¬ Int32.ofNat [b].length = Int32.ofNat 0 := by show ¬ Int32.ofNat 1 = Int32.ofNat 0; decide
        simp only [e1, if_false, mI_thrown HS, mF_thrown HS, mR_row HS, mR_image HS, mR_earlier HS, mR_trial HS, mR_acts HS, mI_hasImage HS, mF_hasImage HS, mI_remembered HS, mF_remembered HS, mR_tape HS, mI_taped HS, mF_taped HS, mI_point HS, mF_point HS, mI_end HS, mF_end HS, mI_begin HS, mF_begin HS, mI_deep HS, mF_deep HS, mI_faultAt HS, mF_faultAt HS, mR_five HS, mI_codes HS, mF_codes HS, mR_value HS, mI_so HS, mF_so HS, mR_lines HS, mR_chosen HS, mR_best HS, mR_members HS, mR_paired HS, mO HS, mA_287 HS, mW_287 HS, mA_288 HS, mW_288 HS, mA_289 HS, mW_289 HS, mA_290 HS, mW_290 HS, mA_291 HS, mW_291 HS, mA_292 HS, mW_292 HS, mA_293 HS, mW_293 HS, mA_294 HS, mW_294 HS, mA_295 HS, mW_295 HS, mA_296 HS, mW_296 HS, mA_297 HS, mW_297 HS, mA_298 HS, mW_298 HS, mA_299 HS, mW_299 HS, wi_some, or_0, or_1, bo_or, ite_boP, true_and, and_true, kN_v, kN_n, kT_v, kT_n, kT_e, Nat.add_zero, Nat.zero_add, h400, hS, b250_286 hw, b250_291 hw]
        have hb : b = Int32.ofNat 0 ∨ b = Int32.ofNat 1 := by
          cases hts with
          | inl h => rw [h] at hl; simp at hl
          | inr h => rw [h] at hok; exact hok.1 rfl
        cases hb with
        | inl hb =>
          simp only [hb, show ¬ (Int32.ofNat 0 : Int32) = Int32.ofNat 1 by decide, if_false, not_true_eq_false, decide_false, bo_f] at kk ⊢
          exact kk
        | inr hb =>
          simp only [hb, show ¬ (Int32.ofNat 1 : Int32) = Int32.ofNat 0 by decide, if_true, not_false_eq_true, decide_true, bo_t] at kk ⊢
          exact kk
  cases w3 with
  | inl h => exact fin [] (by rw [h, Nat.sub_self]; rfl) (Or.inl rfl)
  | inr h => exact fin [true] h (Or.inr rfl)
theorem k251 {kind : Int32} (hw : WT sh) (HS : SP sh) (R : Rw (D 287) V nt ng nr nl) (I : Iv V nt ng nr nl) (hL : Rl (D 287) lw) (hg : g < ng) (ht : t < nr) (hk2 : ¬ kind = Int32.ofNat 2)
    (kk : ∀ D', Ex 294 D D' → Q (.inl (some (.int (sumL lw V ng g t kind)))) (mk sh D') c s) :
    Wx (tP nx xs) (d + 6) 251 0 [some (.ref 286), (some (.int (kind))), (some (.int (Int32.ofNat g))), (some (.int (Int32.ofNat t))), none, none] [] (mk sh D) c s Q := by
  have b4 : 4 < 2050 := by decide
  have b352 : 352 < 2050 := by decide
  simp only [b251_0 hw]
  cases lw with
  | none =>
    have h4 : D 287 4 = Int32.ofNat 0 := hL
    simp only [b251_6 hw, b251_83 hw, mI_thrown HS, mF_thrown HS, mR_row HS, mR_image HS, mR_earlier HS, mR_trial HS, mR_acts HS, mI_hasImage HS, mF_hasImage HS, mI_remembered HS, mF_remembered HS, mR_tape HS, mI_taped HS, mF_taped HS, mI_point HS, mF_point HS, mI_end HS, mF_end HS, mI_begin HS, mF_begin HS, mI_deep HS, mF_deep HS, mI_faultAt HS, mF_faultAt HS, mR_five HS, mI_codes HS, mF_codes HS, mR_value HS, mI_so HS, mF_so HS, mR_lines HS, mR_chosen HS, mR_best HS, mR_members HS, mR_paired HS, mO HS, mA_287 HS, mW_287 HS, mA_288 HS, mW_288 HS, mA_289 HS, mW_289 HS, mA_290 HS, mW_290 HS, mA_291 HS, mW_291 HS, mA_292 HS, mW_292 HS, mA_293 HS, mW_293 HS, mA_294 HS, mW_294 HS, mA_295 HS, mW_295 HS, mA_296 HS, mW_296 HS, mA_297 HS, mW_297 HS, mA_298 HS, mW_298 HS, mA_299 HS, mW_299 HS, wi_some, or_0, or_1, bo_or, ite_boP, true_and, and_true, kN_v, kN_n, kT_v, kT_n, kT_e, Nat.add_zero, Nat.zero_add, b4, h4, show ¬ (Int32.ofNat 0 : Int32) = Int32.ofNat 1 by decide, if_false]
    exact kk D Ex.rf
  | some L =>
    obtain ⟨n, K, A, C, e⟩ := L
    have hL' := hL
    obtain ⟨h4, h352, hn, _, hl, hc, _⟩ := hL
    refine up_P (W := fun i x D => Wx (tP nx xs) (d + 6) 251 6 [some (.ref 286), (some (.int (kind))), (some (.int (Int32.ofNat g))), (some (.int (Int32.ofNat t))), (some (.int (x))), (some (.int (Int32.ofNat i)))] [] (mk sh D) c s Q) (P := fun _ _ D' => Ex 294 D D') (F := fun j x => if decide (K j = kind) && holdsS C (facV V ng g t) (e j) (e (j + 1)) then x + A j else x) n ?_ _ D Ex.rf ?_
    · intro i x D1 hi hex k
      have e7 : D1 287 = D 287 := hex _ (by decide)
      obtain ⟨h1, h2, h3, _⟩ := hl i hi
      have b1 : 353 + 4 * i < 2050 := by omega
      have b2 : 353 + 4 * i + 1 < 2050 := by omega
      rw [b251_6 hw]
      simp only [mI_thrown HS, mF_thrown HS, mR_row HS, mR_image HS, mR_earlier HS, mR_trial HS, mR_acts HS, mI_hasImage HS, mF_hasImage HS, mI_remembered HS, mF_remembered HS, mR_tape HS, mI_taped HS, mF_taped HS, mI_point HS, mF_point HS, mI_end HS, mF_end HS, mI_begin HS, mF_begin HS, mI_deep HS, mF_deep HS, mI_faultAt HS, mF_faultAt HS, mR_five HS, mI_codes HS, mF_codes HS, mR_value HS, mI_so HS, mF_so HS, mR_lines HS, mR_chosen HS, mR_best HS, mR_members HS, mR_paired HS, mO HS, mA_287 HS, mW_287 HS, mA_288 HS, mW_288 HS, mA_289 HS, mW_289 HS, mA_290 HS, mW_290 HS, mA_291 HS, mW_291 HS, mA_292 HS, mW_292 HS, mA_293 HS, mW_293 HS, mA_294 HS, mW_294 HS, mA_295 HS, mW_295 HS, mA_296 HS, mW_296 HS, mA_297 HS, mW_297 HS, mA_298 HS, mW_298 HS, mA_299 HS, mW_299 HS, wi_some, or_0, or_1, bo_or, ite_boP, true_and, and_true, kN_v, kN_n, kT_v, kT_n, kT_e, Nat.add_zero, Nat.zero_add, b4, b352, e7, h4, h352, if_true, oN_lt (show i < 2147483648 by omega) (show n < 2147483648 by omega), hi, oN_add, oN_mul, b1, h1]
      have nxt : ∀ D2 x', Ex 294 D D2 → (if decide (K i = kind) && holdsS C (facV V ng g t) (e i) (e (i + 1)) then x + A i else x) = x' → Wx (tP nx xs) (d + 6) 251 77 [some (.ref 286), (some (.int (kind))), (some (.int (Int32.ofNat g))), (some (.int (Int32.ofNat t))), (some (.int (x'))), (some (.int (Int32.ofNat i)))] [] (mk sh D2) c s Q := by
        intro D2 x' hex2 hx
        simp only [b251_77 hw, oN_add]
        have := k D2 hex2
        rw [hx] at this
        exact this
      by_cases hk : K i = kind
      · simp only [hk, if_true]
        refine k250 hw HS (by rw [e7]; exact R) I (by rw [e7]; exact hL') hg ht hi ?_
        intro D2 hex2
        have e7' : D2 287 = D 287 := (hex2 _ (by decide)).trans e7
        have ex2 : Ex 294 D D2 := fun a ha => (hex2 a ha).trans (hex a ha)
        have h3 := h3 (by rw [hk]; exact hk2)
        simp only [b251_54 hw, wi_some, or_0, or_1, bo_or, ite_boP, true_and, and_true, kN_v, kN_n, kT_v, kT_n, kT_e, Nat.add_zero, Nat.zero_add]
        by_cases hh : holdsS C (facV V ng g t) (e i) (e (i + 1)) = true
        · simp only [hh, if_true, mI_thrown HS, mF_thrown HS, mR_row HS, mR_image HS, mR_earlier HS, mR_trial HS, mR_acts HS, mI_hasImage HS, mF_hasImage HS, mI_remembered HS, mF_remembered HS, mR_tape HS, mI_taped HS, mF_taped HS, mI_point HS, mF_point HS, mI_end HS, mF_end HS, mI_begin HS, mF_begin HS, mI_deep HS, mF_deep HS, mI_faultAt HS, mF_faultAt HS, mR_five HS, mI_codes HS, mF_codes HS, mR_value HS, mI_so HS, mF_so HS, mR_lines HS, mR_chosen HS, mR_best HS, mR_members HS, mR_paired HS, mO HS, mA_287 HS, mW_287 HS, mA_288 HS, mW_288 HS, mA_289 HS, mW_289 HS, mA_290 HS, mW_290 HS, mA_291 HS, mW_291 HS, mA_292 HS, mW_292 HS, mA_293 HS, mW_293 HS, mA_294 HS, mW_294 HS, mA_295 HS, mW_295 HS, mA_296 HS, mW_296 HS, mA_297 HS, mW_297 HS, mA_298 HS, mW_298 HS, mA_299 HS, mW_299 HS, wi_some, or_0, or_1, bo_or, ite_boP, true_and, and_true, kN_v, kN_n, kT_v, kT_n, kT_e, Nat.add_zero, Nat.zero_add, oN_add, oN_mul, b2, e7', h3]
          exact nxt D2 _ ex2 (by simp only [hk, hh, decide_true, Bool.and_self, if_true])
        · have hh : holdsS C (facV V ng g t) (e i) (e (i + 1)) = false := by simpa using hh
          simp only [hh, Bool.false_eq_true, if_false]
          exact nxt D2 _ ex2 (by simp only [hh, Bool.and_false, Bool.false_eq_true, if_false])
      · simp only [hk, if_false]
        exact nxt D1 _ hex (by simp only [hk, decide_false, Bool.false_and, Bool.false_eq_true, if_false])
    · intro D' hex
      have e7 : D' 287 = D 287 := hex _ (by decide)
      rw [b251_6 hw]
      simp only [mI_thrown HS, mF_thrown HS, mR_row HS, mR_image HS, mR_earlier HS, mR_trial HS, mR_acts HS, mI_hasImage HS, mF_hasImage HS, mI_remembered HS, mF_remembered HS, mR_tape HS, mI_taped HS, mF_taped HS, mI_point HS, mF_point HS, mI_end HS, mF_end HS, mI_begin HS, mF_begin HS, mI_deep HS, mF_deep HS, mI_faultAt HS, mF_faultAt HS, mR_five HS, mI_codes HS, mF_codes HS, mR_value HS, mI_so HS, mF_so HS, mR_lines HS, mR_chosen HS, mR_best HS, mR_members HS, mR_paired HS, mO HS, mA_287 HS, mW_287 HS, mA_288 HS, mW_288 HS, mA_289 HS, mW_289 HS, mA_290 HS, mW_290 HS, mA_291 HS, mW_291 HS, mA_292 HS, mW_292 HS, mA_293 HS, mW_293 HS, mA_294 HS, mW_294 HS, mA_295 HS, mW_295 HS, mA_296 HS, mW_296 HS, mA_297 HS, mW_297 HS, mA_298 HS, mW_298 HS, mA_299 HS, mW_299 HS, wi_some, or_0, or_1, bo_or, ite_boP, true_and, and_true, kN_v, kN_n, kT_v, kT_n, kT_e, Nat.add_zero, Nat.zero_add, b4, b352, e7, h4, h352, if_true, oN_lt (show n < 2147483648 by omega) (show n < 2147483648 by omega), Nat.lt_irrefl, if_false, b251_83 hw]
      exact kk D' hex
theorem k252 (hw : WT sh) (HS : SP sh) (R : Rw (D 287) V nt ng nr nl) (I : Iv V nt ng nr nl) (hL : Rl (D 287) lw) (hg : g < ng) (ht : t < nr)
    (kk : ∀ D', Ex 294 D D' → Q (.inl (some (.int (bo (decide (¬ sumL lw V ng g t (Int32.ofNat 2) = Int32.ofNat 0)))))) (mk sh D') c s) :
    Wx (tP nx xs) (d + 6) 252 0 [some (.ref 286), (some (.int (Int32.ofNat g))), (some (.int (Int32.ofNat t))), none, none] [] (mk sh D) c s Q := by
  have b4 : 4 < 2050 := by decide
  have b352 : 352 < 2050 := by decide
  simp only [b252_0 hw]
  cases lw with
  | none =>
    have h4 : D 287 4 = Int32.ofNat 0 := hL
    simp only [b252_5 hw, b252_72 hw, mI_thrown HS, mF_thrown HS, mR_row HS, mR_image HS, mR_earlier HS, mR_trial HS, mR_acts HS, mI_hasImage HS, mF_hasImage HS, mI_remembered HS, mF_remembered HS, mR_tape HS, mI_taped HS, mF_taped HS, mI_point HS, mF_point HS, mI_end HS, mF_end HS, mI_begin HS, mF_begin HS, mI_deep HS, mF_deep HS, mI_faultAt HS, mF_faultAt HS, mR_five HS, mI_codes HS, mF_codes HS, mR_value HS, mI_so HS, mF_so HS, mR_lines HS, mR_chosen HS, mR_best HS, mR_members HS, mR_paired HS, mO HS, mA_287 HS, mW_287 HS, mA_288 HS, mW_288 HS, mA_289 HS, mW_289 HS, mA_290 HS, mW_290 HS, mA_291 HS, mW_291 HS, mA_292 HS, mW_292 HS, mA_293 HS, mW_293 HS, mA_294 HS, mW_294 HS, mA_295 HS, mW_295 HS, mA_296 HS, mW_296 HS, mA_297 HS, mW_297 HS, mA_298 HS, mW_298 HS, mA_299 HS, mW_299 HS, wi_some, or_0, or_1, bo_or, ite_boP, true_and, and_true, kN_v, kN_n, kT_v, kT_n, kT_e, Nat.add_zero, Nat.zero_add, b4, h4, show ¬ (Int32.ofNat 0 : Int32) = Int32.ofNat 1 by decide, if_false]
    exact kk D Ex.rf
  | some L =>
    obtain ⟨n, K, A, C, e⟩ := L
    have hL' := hL
    obtain ⟨h4, h352, hn, _, hl, hc, _⟩ := hL
    have kk : ∀ D', Ex 294 D D' → Q (.inl (some (.int (bo (fo (fun j (x : Bool) => x || (decide (K j = Int32.ofNat 2) && holdsS C (facV V ng g t) (e j) (e (j + 1)))) n 0 false))))) (mk sh D') c s := by
      intro D' h
      rw [← barS (A := A) (fun j hj hk => (hl j hj).2.1 hk) hn]
      exact kk D' h
    rw [show (Int32.ofNat 0 : Int32) = bo false from rfl]
    refine up_P (W := fun i (x : Bool) D => Wx (tP nx xs) (d + 6) 252 5 [some (.ref 286), (some (.int (Int32.ofNat g))), (some (.int (Int32.ofNat t))), (some (.int (bo x))), (some (.int (Int32.ofNat i)))] [] (mk sh D) c s Q) (P := fun _ _ D' => Ex 294 D D') (F := fun j (x : Bool) => x || (decide (K j = Int32.ofNat 2) && holdsS C (facV V ng g t) (e j) (e (j + 1)))) n ?_ _ D Ex.rf ?_
    · intro i x D1 hi hex k
      have e7 : D1 287 = D 287 := hex _ (by decide)
      obtain ⟨h1, h2, h3, _⟩ := hl i hi
      have b1 : 353 + 4 * i < 2050 := by omega
      rw [b252_5 hw]
      simp only [mI_thrown HS, mF_thrown HS, mR_row HS, mR_image HS, mR_earlier HS, mR_trial HS, mR_acts HS, mI_hasImage HS, mF_hasImage HS, mI_remembered HS, mF_remembered HS, mR_tape HS, mI_taped HS, mF_taped HS, mI_point HS, mF_point HS, mI_end HS, mF_end HS, mI_begin HS, mF_begin HS, mI_deep HS, mF_deep HS, mI_faultAt HS, mF_faultAt HS, mR_five HS, mI_codes HS, mF_codes HS, mR_value HS, mI_so HS, mF_so HS, mR_lines HS, mR_chosen HS, mR_best HS, mR_members HS, mR_paired HS, mO HS, mA_287 HS, mW_287 HS, mA_288 HS, mW_288 HS, mA_289 HS, mW_289 HS, mA_290 HS, mW_290 HS, mA_291 HS, mW_291 HS, mA_292 HS, mW_292 HS, mA_293 HS, mW_293 HS, mA_294 HS, mW_294 HS, mA_295 HS, mW_295 HS, mA_296 HS, mW_296 HS, mA_297 HS, mW_297 HS, mA_298 HS, mW_298 HS, mA_299 HS, mW_299 HS, wi_some, or_0, or_1, bo_or, ite_boP, true_and, and_true, kN_v, kN_n, kT_v, kT_n, kT_e, Nat.add_zero, Nat.zero_add, b4, b352, e7, h4, h352, if_true, oN_lt (show i < 2147483648 by omega) (show n < 2147483648 by omega), hi, oN_add, oN_mul, b1, h1]
      cases x with
      | true =>
        simp only [if_true, b252_60 hw, b252_65 hw, oN_add]
        exact k D1 hex
      | false =>
        simp only [Bool.false_eq_true, if_false, Bool.false_or] at k ⊢
        by_cases hk : K i = Int32.ofNat 2
        · simp only [hk, if_true]
          refine k250 hw HS (by rw [e7]; exact R) I (by rw [e7]; exact hL') hg ht hi ?_
          intro D2 hex2
          have k := k D2 (fun a ha => (hex2 a ha).trans (hex a ha))
          simp only [b252_57 hw, wi_some, or_0, or_1, bo_or, ite_boP, true_and, and_true, kN_v, kN_n, kT_v, kT_n, kT_e, Nat.add_zero, Nat.zero_add]
          by_cases hh : holdsS C (facV V ng g t) (e i) (e (i + 1)) = true
          · simp only [hh, hk, decide_true, Bool.and_self, if_true, b252_60 hw, b252_65 hw, oN_add] at k ⊢
            exact k
          · have hh : holdsS C (facV V ng g t) (e i) (e (i + 1)) = false := by simpa using hh
            simp only [hh, Bool.and_false, Bool.false_eq_true, if_false, b252_64 hw, b252_65 hw, oN_add] at k ⊢
            exact k
        · simp only [hk, if_false, decide_false, Bool.false_and, b252_64 hw, b252_65 hw, oN_add] at k ⊢
          exact k D1 hex
    · intro D' hex
      have e7 : D' 287 = D 287 := hex _ (by decide)
      rw [b252_5 hw]
      simp only [mI_thrown HS, mF_thrown HS, mR_row HS, mR_image HS, mR_earlier HS, mR_trial HS, mR_acts HS, mI_hasImage HS, mF_hasImage HS, mI_remembered HS, mF_remembered HS, mR_tape HS, mI_taped HS, mF_taped HS, mI_point HS, mF_point HS, mI_end HS, mF_end HS, mI_begin HS, mF_begin HS, mI_deep HS, mF_deep HS, mI_faultAt HS, mF_faultAt HS, mR_five HS, mI_codes HS, mF_codes HS, mR_value HS, mI_so HS, mF_so HS, mR_lines HS, mR_chosen HS, mR_best HS, mR_members HS, mR_paired HS, mO HS, mA_287 HS, mW_287 HS, mA_288 HS, mW_288 HS, mA_289 HS, mW_289 HS, mA_290 HS, mW_290 HS, mA_291 HS, mW_291 HS, mA_292 HS, mW_292 HS, mA_293 HS, mW_293 HS, mA_294 HS, mW_294 HS, mA_295 HS, mW_295 HS, mA_296 HS, mW_296 HS, mA_297 HS, mW_297 HS, mA_298 HS, mW_298 HS, mA_299 HS, mW_299 HS, wi_some, or_0, or_1, bo_or, ite_boP, true_and, and_true, kN_v, kN_n, kT_v, kT_n, kT_e, Nat.add_zero, Nat.zero_add, b4, b352, e7, h4, h352, if_true, oN_lt (show n < 2147483648 by omega) (show n < 2147483648 by omega), Nat.lt_irrefl, if_false, b252_72 hw]
      exact kk D' hex
theorem k253 (hw : WT sh) (HS : SP sh) (R : Rw (D 287) V nt ng nr nl) (I : Iv V nt ng nr nl) (hL : Rl (D 287) lw) (hg : g < ng) (ht : t < nr)
    (kk : ∀ D', Ex 294 D D' → Q (.inl (some (.int (costL lw V ng g t)))) (mk sh D') c s) :
    Wx (tP nx xs) (d + 7) 253 0 [some (.ref 286), (some (.int (Int32.ofNat g))), (some (.int (Int32.ofNat t)))] [] (mk sh D) c s Q := by
  simp only [b253_0 hw, mI_thrown HS, mF_thrown HS, mR_row HS, mR_image HS, mR_earlier HS, mR_trial HS, mR_acts HS, mI_hasImage HS, mF_hasImage HS, mI_remembered HS, mF_remembered HS, mR_tape HS, mI_taped HS, mF_taped HS, mI_point HS, mF_point HS, mI_end HS, mF_end HS, mI_begin HS, mF_begin HS, mI_deep HS, mF_deep HS, mI_faultAt HS, mF_faultAt HS, mR_five HS, mI_codes HS, mF_codes HS, mR_value HS, mI_so HS, mF_so HS, mR_lines HS, mR_chosen HS, mR_best HS, mR_members HS, mR_paired HS, mO HS, mA_287 HS, mW_287 HS, mA_288 HS, mW_288 HS, mA_289 HS, mW_289 HS, mA_290 HS, mW_290 HS, mA_291 HS, mW_291 HS, mA_292 HS, mW_292 HS, mA_293 HS, mW_293 HS, mA_294 HS, mW_294 HS, mA_295 HS, mW_295 HS, mA_296 HS, mW_296 HS, mA_297 HS, mW_297 HS, mA_298 HS, mW_298 HS, mA_299 HS, mW_299 HS, wi_some, or_0, or_1, bo_or, ite_boP, true_and, and_true, kN_v, kN_n, kT_v, kT_n, kT_e, Nat.add_zero, Nat.zero_add]
  refine k251 hw HS R I hL hg ht (by decide) ?_
  intro D' hex
  simp only [b253_9 hw, wi_some, or_0, or_1, bo_or, ite_boP, true_and, and_true, kN_v, kN_n, kT_v, kT_n, kT_e, Nat.add_zero, Nat.zero_add]
  exact kk D' hex
theorem k254 (hw : WT sh) (HS : SP sh) (R : Rw (D 287) V nt ng nr nl) (I : Iv V nt ng nr nl) (hL : Rl (D 287) lw) (hg : g < ng) (ht : t < nr)
    (kk : ∀ D', Ex 294 D D' → Q (.inl (some (.int (fearL lw V ng g t)))) (mk sh D') c s) :
    Wx (tP nx xs) (d + 7) 254 0 [some (.ref 286), (some (.int (Int32.ofNat g))), (some (.int (Int32.ofNat t)))] [] (mk sh D) c s Q := by
  simp only [b254_0 hw, mI_thrown HS, mF_thrown HS, mR_row HS, mR_image HS, mR_earlier HS, mR_trial HS, mR_acts HS, mI_hasImage HS, mF_hasImage HS, mI_remembered HS, mF_remembered HS, mR_tape HS, mI_taped HS, mF_taped HS, mI_point HS, mF_point HS, mI_end HS, mF_end HS, mI_begin HS, mF_begin HS, mI_deep HS, mF_deep HS, mI_faultAt HS, mF_faultAt HS, mR_five HS, mI_codes HS, mF_codes HS, mR_value HS, mI_so HS, mF_so HS, mR_lines HS, mR_chosen HS, mR_best HS, mR_members HS, mR_paired HS, mO HS, mA_287 HS, mW_287 HS, mA_288 HS, mW_288 HS, mA_289 HS, mW_289 HS, mA_290 HS, mW_290 HS, mA_291 HS, mW_291 HS, mA_292 HS, mW_292 HS, mA_293 HS, mW_293 HS, mA_294 HS, mW_294 HS, mA_295 HS, mW_295 HS, mA_296 HS, mW_296 HS, mA_297 HS, mW_297 HS, mA_298 HS, mW_298 HS, mA_299 HS, mW_299 HS, wi_some, or_0, or_1, bo_or, ite_boP, true_and, and_true, kN_v, kN_n, kT_v, kT_n, kT_e, Nat.add_zero, Nat.zero_add]
  refine k251 hw HS R I hL hg ht (by decide) ?_
  intro D' hex
  simp only [b254_7 hw, wi_some, or_0, or_1, bo_or, ite_boP, true_and, and_true, kN_v, kN_n, kT_v, kT_n, kT_e, Nat.add_zero, Nat.zero_add]
  exact kk D' hex
theorem k255 (hw : WT sh) (HS : SP sh) (R : Rw (D 287) V nt ng nr nl) (I : Iv V nt ng nr nl) (hg : g < ng) (ht : t < nr) : Wx (tP nx xs) (d + 2) 255 0 [some (.ref 286), (some (.int (Int32.ofNat g))), (some (.int (Int32.ofNat t)))] [] (mk sh D) c s Q = Q (.inl (some (.int (bo (stopB V g t))))) (mk sh D) c s := by
  have hg6 : g < 6 := by have := i_ng6 I; omega
  have ht5 : t < 5 := by have := i_nr5 I; omega
  have h0 : 0 < 11 := by decide
  have h0' : 0 < 4 := by decide
  obtain ⟨w, hw16, hwe⟩ := i_wish I hg
  simp only [b255_0 hw, b255_6 hw, b255_12 hw, b255_15 hw, mI_thrown HS, mF_thrown HS, mR_row HS, mR_image HS, mR_earlier HS, mR_trial HS, mR_acts HS, mI_hasImage HS, mF_hasImage HS, mI_remembered HS, mF_remembered HS, mR_tape HS, mI_taped HS, mF_taped HS, mI_point HS, mF_point HS, mI_end HS, mF_end HS, mI_begin HS, mF_begin HS, mI_deep HS, mF_deep HS, mI_faultAt HS, mF_faultAt HS, mR_five HS, mI_codes HS, mF_codes HS, mR_value HS, mI_so HS, mF_so HS, mR_lines HS, mR_chosen HS, mR_best HS, mR_members HS, mR_paired HS, mO HS, mA_287 HS, mW_287 HS, mA_288 HS, mW_288 HS, mA_289 HS, mW_289 HS, mA_290 HS, mW_290 HS, mA_291 HS, mW_291 HS, mA_292 HS, mW_292 HS, mA_293 HS, mW_293 HS, mA_294 HS, mW_294 HS, mA_295 HS, mW_295 HS, mA_296 HS, mW_296 HS, mA_297 HS, mW_297 HS, mA_298 HS, mW_298 HS, mA_299 HS, mW_299 HS, wi_some, or_0, or_1, bo_or, ite_boP, true_and, and_true, kN_v, kN_n, kT_v, kT_n, kT_e, Nat.add_zero, Nat.zero_add, k203 hw HS hg6 h0, k205 hw HS ht5 h0', r_wish0 R hg, r_halts0 R ht, hwe, k189 hw (show w < 32 by omega), stopB, oN_tn (show w < 2147483648 by omega)]
/-- none of those who go by it is shunned -/
theorem rid_and {g : Nat} {t : Int32} (hn : ng ≤ 6) : decide (ridS V ng t &&& V 11 g = Int32.ofNat 0) = fo (fun o (x : Bool) => x && !(bt (V 11 g) o && decide (V 12 o = t))) ng 0 true := by
  have h := fo_inv (F := fun o (x : Bool) => x && !(bt (V 11 g) o && decide (V 12 o = t))) (fun i x => x = true ↔ ∀ o, o < i → ¬ (bt (V 11 g) o = true ∧ V 12 o = t)) ng 0 true (by simp) (fun j x _ _ ih => by
    constructor
    · intro hx o ho
      simp only [Bool.and_eq_true, Bool.not_eq_true', Bool.and_eq_false_iff, decide_eq_false_iff_not] at hx
      by_cases e : o = j
      · subst e; rintro ⟨h1, h2⟩; rcases hx.2 with h | h
        · rw [h1] at h; cases h
        · exact h h2
      · exact ih.mp hx.1 o (by omega)
    · intro hx
      have h1 := ih.mpr fun o ho => hx o (by omega)
      have h2 := hx j (by omega)
      simp only [h1, Bool.true_and, Bool.not_eq_true', Bool.and_eq_false_iff, decide_eq_false_iff_not]
      by_cases hb : bt (V 11 g) j = true
      · right; exact fun e => h2 ⟨hb, e⟩
      · left; simpa using hb)
  rw [Nat.zero_add] at h
  rw [Bool.eq_iff_iff, h, decide_eq_true_eq]
  constructor
  · intro e o ho ⟨h1, h2⟩
    have hb : bt (ridS V ng t &&& V 11 g) o = true := by
      rw [b_and, ridS, bs_bt _ (by omega) (by omega)]
      simp [ho, h1, h2]
    rw [e, b_00] at hb
    cases hb
  · intro h
    apply b_ext
    intro i hi
    rw [b_and, ridS, bs_bt _ (by omega) hi, b_00]
    by_cases h1 : i < ng
    · by_cases h2 : V 12 i = t
      · have h3 := h i h1
        have : bt (V 11 g) i = false := by
          cases hb : bt (V 11 g) i
          · rfl
          · exact absurd ⟨hb, h2⟩ h3
        simp [this]
      · simp [h2]
    · simp [h1]
theorem k256 {t : Int32} (hw : WT sh) (HS : SP sh) (R : Rw (D 287) V nt ng nr nl) (hn : ng ≤ 6) (hg : g < ng) (ht : ¬ t = -1) : Wx (tP nx xs) (d + 3) 256 0 [some (.ref 286), (some (.int (Int32.ofNat g))), (some (.int (t))), none, none] [] (mk sh D) c s Q = Q (.inl (some (.int (bo (decide (ridS V ng t &&& V 11 g = Int32.ofNat 0)))))) (mk sh D) c s := by
  have hg6 : g < 6 := by omega
  have h6 : 6 < 11 := by decide
  have h8 : 8 < 11 := by decide
  rw [rid_and hn]
  simp only [b256_0 hw]
  refine (up_loop (W := fun i (x : Bool) => Wx (tP nx xs) (d + 3) 256 5 [some (.ref 286), (some (.int (Int32.ofNat g))), (some (.int (t))), (some (.int (bo x))), (some (.int (Int32.ofNat i)))] [] (mk sh D) c s Q) (F := fun o (x : Bool) => x && !(bt (V 11 g) o && decide (V 12 o = t))) ng (fun i x hi => ?_) true).trans ?_
  · have hi6 : i < 6 := by omega
    rw [b256_5 hw]
    simp only [b256_0 hw, b256_11 hw, b256_25 hw, b256_30 hw, b256_39 hw, b256_50 hw, b256_54 hw, b256_58 hw, b256_59 hw, wi_some, or_0, or_1, bo_or, ite_boP, true_and, and_true, kN_v, kN_n, kT_v, kT_n, kT_e, Nat.add_zero, Nat.zero_add, mI_thrown HS, mF_thrown HS, mR_row HS, mR_image HS, mR_earlier HS, mR_trial HS, mR_acts HS, mI_hasImage HS, mF_hasImage HS, mI_remembered HS, mF_remembered HS, mR_tape HS, mI_taped HS, mF_taped HS, mI_point HS, mF_point HS, mI_end HS, mF_end HS, mI_begin HS, mF_begin HS, mI_deep HS, mF_deep HS, mI_faultAt HS, mF_faultAt HS, mR_five HS, mI_codes HS, mF_codes HS, mR_value HS, mI_so HS, mF_so HS, mR_lines HS, mR_chosen HS, mR_best HS, mR_members HS, mR_paired HS, mO HS, mA_287 HS, mW_287 HS, mA_288 HS, mW_288 HS, mA_289 HS, mW_289 HS, mA_290 HS, mW_290 HS, mA_291 HS, mW_291 HS, mA_292 HS, mW_292 HS, mA_293 HS, mW_293 HS, mA_294 HS, mW_294 HS, mA_295 HS, mW_295 HS, mA_296 HS, mW_296 HS, mA_297 HS, mW_297 HS, mA_298 HS, mW_298 HS, mA_299 HS, mW_299 HS, k198 hw HS, k207 hw HS R hn hi, k203 hw HS hi6 h8, k203 hw HS hg6 h6, r_ng R, r_by R hi, r_shuns R hg, oN_lt (show i < 2147483648 by omega) (show ng < 2147483648 by omega), hi, if_true, oN_add, k189 hw (show i < 32 by omega)]
    cases x with
    | false => simp only [Bool.false_eq_true, if_false, Bool.false_and, bo_f]
    | true =>
      simp only [if_true, Bool.true_and]
      by_cases h1 : bt (V 11 g) i = true
      · simp only [h1, if_true, Bool.true_and]
        by_cases h2 : V 12 i = t
        · have h3 : ¬ V 12 i = -1 := fun e => ht (h2.symm.trans e)
          simp only [h2, ht, not_false_eq_true, decide_true, if_true, Bool.not_true, bo_f]
        · by_cases h3 : V 12 i = -1
          · simp only [h3, not_true_eq_false, decide_false, Bool.false_eq_true, if_false]
            rw [h3] at h2
            simp only [h2, decide_false, Bool.not_false, bo_t]
          · simp only [h2, h3, not_false_eq_true, decide_true, decide_false, if_true, if_false, Bool.not_false, bo_t]
      · have h1 : bt (V 11 g) i = false := by simpa using h1
        simp only [h1, Bool.false_eq_true, if_false, Bool.false_and, Bool.not_false, bo_t]
  · rw [b256_5 hw]
    simp only [b256_0 hw, b256_11 hw, b256_25 hw, b256_30 hw, b256_39 hw, b256_50 hw, b256_54 hw, b256_58 hw, b256_59 hw, wi_some, or_0, or_1, bo_or, ite_boP, true_and, and_true, kN_v, kN_n, kT_v, kT_n, kT_e, Nat.add_zero, Nat.zero_add, mI_thrown HS, mF_thrown HS, mR_row HS, mR_image HS, mR_earlier HS, mR_trial HS, mR_acts HS, mI_hasImage HS, mF_hasImage HS, mI_remembered HS, mF_remembered HS, mR_tape HS, mI_taped HS, mF_taped HS, mI_point HS, mF_point HS, mI_end HS, mF_end HS, mI_begin HS, mF_begin HS, mI_deep HS, mF_deep HS, mI_faultAt HS, mF_faultAt HS, mR_five HS, mI_codes HS, mF_codes HS, mR_value HS, mI_so HS, mF_so HS, mR_lines HS, mR_chosen HS, mR_best HS, mR_members HS, mR_paired HS, mO HS, mA_287 HS, mW_287 HS, mA_288 HS, mW_288 HS, mA_289 HS, mW_289 HS, mA_290 HS, mW_290 HS, mA_291 HS, mW_291 HS, mA_292 HS, mW_292 HS, mA_293 HS, mW_293 HS, mA_294 HS, mW_294 HS, mA_295 HS, mW_295 HS, mA_296 HS, mW_296 HS, mA_297 HS, mW_297 HS, mA_298 HS, mW_298 HS, mA_299 HS, mW_299 HS, k198 hw HS, r_ng R, oN_lt (show ng < 2147483648 by omega) (show ng < 2147483648 by omega), Nat.lt_irrefl, if_false]
theorem k257 (hw : WT sh) (HS : SP sh) (R : Rw (D 287) V nt ng nr nl) (I : Iv V nt ng nr nl) (hL : Rl (D 287) lw) (hg : g < ng) (ht : t < nr)
    (kk : ∀ D', Ex 294 D D' → Q (.inl (some (.int (bo (canL lw V ng g t))))) (mk sh D') c s) :
    Wx (tP nx xs) (d + 8) 257 0 [some (.ref 286), (some (.int (Int32.ofNat g))), (some (.int (Int32.ofNat t)))] [] (mk sh D) c s Q := by
  have hng := i_ng6 I
  have hnr := i_nr5 I
  have hg6 : g < 6 := by omega
  have ht5 : t < 5 := by omega
  have ht1 : ¬ Int32.ofNat t = -1 := by rw [oN_ne1 (by omega)]; exact id
  have h4 : 4 < 11 := by decide
  have h1' : 1 < 4 := by decide
  simp only [b257_0 hw, b257_5 hw, b257_14 hw, b257_22 hw, b257_28 hw, mI_thrown HS, mF_thrown HS, mR_row HS, mR_image HS, mR_earlier HS, mR_trial HS, mR_acts HS, mI_hasImage HS, mF_hasImage HS, mI_remembered HS, mF_remembered HS, mR_tape HS, mI_taped HS, mF_taped HS, mI_point HS, mF_point HS, mI_end HS, mF_end HS, mI_begin HS, mF_begin HS, mI_deep HS, mF_deep HS, mI_faultAt HS, mF_faultAt HS, mR_five HS, mI_codes HS, mF_codes HS, mR_value HS, mI_so HS, mF_so HS, mR_lines HS, mR_chosen HS, mR_best HS, mR_members HS, mR_paired HS, mO HS, mA_287 HS, mW_287 HS, mA_288 HS, mW_288 HS, mA_289 HS, mW_289 HS, mA_290 HS, mW_290 HS, mA_291 HS, mW_291 HS, mA_292 HS, mW_292 HS, mA_293 HS, mW_293 HS, mA_294 HS, mW_294 HS, mA_295 HS, mW_295 HS, mA_296 HS, mW_296 HS, mA_297 HS, mW_297 HS, mA_298 HS, mW_298 HS, mA_299 HS, mW_299 HS, wi_some, or_0, or_1, bo_or, ite_boP, true_and, and_true, kN_v, kN_n, kT_v, kT_n, kT_e, Nat.add_zero, Nat.zero_add, k207 hw HS R hng hg, k255 hw HS R I hg ht, k209 hw HS R hng ht1, k205 hw HS ht5 h1', r_seats R ht]
  have bad : ∀ D', Ex 294 D D' → canL lw V ng g t = false → Wx (tP nx xs) (d + 8) 257 68 [some (.ref 286), (some (.int (Int32.ofNat g))), (some (.int (Int32.ofNat t)))] [] (mk sh D') c s Q := by
    intro D' hex h
    simp only [b257_68 hw, b257_69 hw, wi_some, or_0, or_1, bo_or, ite_boP, true_and, and_true, kN_v, kN_n, kT_v, kT_n, kT_e, Nat.add_zero, Nat.zero_add]
    have := kk D' hex
    rwa [h, bo_f] at this
  by_cases h1 : V 12 g = -1
  rotate_left
  · simp only [h1, not_false_eq_true, decide_true, if_true]
    exact bad D Ex.rf (by simp only [canL, h1, decide_false, Bool.false_and])
  simp only [h1, not_true_eq_false, decide_false, Bool.false_eq_true, if_false]
  by_cases h2 : stopB V g t = true
  rotate_left
  · have h2 : stopB V g t = false := by simpa using h2
    simp only [h2, Bool.false_eq_true, if_false]
    exact bad D Ex.rf (by simp only [canL, h2, Bool.false_and, Bool.and_false])
  simp only [h2, if_true]
  by_cases h3 : bc (ridS V ng (Int32.ofNat t)) < V 14 t
  rotate_left
  · simp only [h3, if_false]
    exact bad D Ex.rf (by simp only [canL, h3, decide_false, Bool.false_and, Bool.and_false])
  simp only [h3, if_true]
  refine k253 hw HS R I hL hg ht ?_
  intro D1 hex1
  have e7 : D1 287 = D 287 := hex1 _ (by decide)
  have R1 : Rw (D1 287) V nt ng nr nl := by rw [e7]; exact R
  simp only [b257_37 hw, b257_43 hw, mI_thrown HS, mF_thrown HS, mR_row HS, mR_image HS, mR_earlier HS, mR_trial HS, mR_acts HS, mI_hasImage HS, mF_hasImage HS, mI_remembered HS, mF_remembered HS, mR_tape HS, mI_taped HS, mF_taped HS, mI_point HS, mF_point HS, mI_end HS, mF_end HS, mI_begin HS, mF_begin HS, mI_deep HS, mF_deep HS, mI_faultAt HS, mF_faultAt HS, mR_five HS, mI_codes HS, mF_codes HS, mR_value HS, mI_so HS, mF_so HS, mR_lines HS, mR_chosen HS, mR_best HS, mR_members HS, mR_paired HS, mO HS, mA_287 HS, mW_287 HS, mA_288 HS, mW_288 HS, mA_289 HS, mW_289 HS, mA_290 HS, mW_290 HS, mA_291 HS, mW_291 HS, mA_292 HS, mW_292 HS, mA_293 HS, mW_293 HS, mA_294 HS, mW_294 HS, mA_295 HS, mW_295 HS, mA_296 HS, mW_296 HS, mA_297 HS, mW_297 HS, mA_298 HS, mW_298 HS, mA_299 HS, mW_299 HS, wi_some, or_0, or_1, bo_or, ite_boP, true_and, and_true, kN_v, kN_n, kT_v, kT_n, kT_e, Nat.add_zero, Nat.zero_add, k203 hw HS hg6 h4, r_money R1 hg]
  by_cases h5 : V 9 g < costL lw V ng g t
  · simp only [h5, if_true]
    exact bad D1 hex1 (by simp only [canL, h5, not_true_eq_false, decide_false, Bool.and_false])
  simp only [h5, if_false]
  refine k252 hw HS R1 I (by rw [e7]; exact hL) hg ht ?_
  intro D2 hex2
  have ex2 : Ex 294 D D2 := fun a ha => (hex2 a ha).trans (hex1 a ha)
  have e7' : D2 287 = D 287 := ex2 _ (by decide)
  have R2 : Rw (D2 287) V nt ng nr nl := by rw [e7']; exact R
  simp only [b257_52 hw, wi_some, or_0, or_1, bo_or, ite_boP, true_and, and_true, kN_v, kN_n, kT_v, kT_n, kT_e, Nat.add_zero, Nat.zero_add]
  by_cases h6 : sumL lw V ng g t (Int32.ofNat 2) = Int32.ofNat 0
  rotate_left
  · simp only [h6, not_false_eq_true, decide_true, if_true]
    exact bad D2 ex2 (by simp only [canL, h6, decide_false, Bool.false_and, Bool.and_false])
  simp only [h6, not_true_eq_false, decide_false, Bool.false_eq_true, if_false, mI_thrown HS, mF_thrown HS, mR_row HS, mR_image HS, mR_earlier HS, mR_trial HS, mR_acts HS, mI_hasImage HS, mF_hasImage HS, mI_remembered HS, mF_remembered HS, mR_tape HS, mI_taped HS, mF_taped HS, mI_point HS, mF_point HS, mI_end HS, mF_end HS, mI_begin HS, mF_begin HS, mI_deep HS, mF_deep HS, mI_faultAt HS, mF_faultAt HS, mR_five HS, mI_codes HS, mF_codes HS, mR_value HS, mI_so HS, mF_so HS, mR_lines HS, mR_chosen HS, mR_best HS, mR_members HS, mR_paired HS, mO HS, mA_287 HS, mW_287 HS, mA_288 HS, mW_288 HS, mA_289 HS, mW_289 HS, mA_290 HS, mW_290 HS, mA_291 HS, mW_291 HS, mA_292 HS, mW_292 HS, mA_293 HS, mW_293 HS, mA_294 HS, mW_294 HS, mA_295 HS, mW_295 HS, mA_296 HS, mW_296 HS, mA_297 HS, mW_297 HS, mA_298 HS, mW_298 HS, mA_299 HS, mW_299 HS, wi_some, or_0, or_1, bo_or, ite_boP, true_and, and_true, kN_v, kN_n, kT_v, kT_n, kT_e, Nat.add_zero, Nat.zero_add, k256 hw HS R2 hng hg ht1, b257_61 hw]
  by_cases h7 : ridS V ng (Int32.ofNat t) &&& V 11 g = Int32.ofNat 0
  · simp only [h7, decide_true, if_true, b257_69 hw, wi_some, or_0, or_1, bo_or, ite_boP, true_and, and_true, kN_v, kN_n, kT_v, kT_n, kT_e, Nat.add_zero, Nat.zero_add]
    have := kk D2 ex2
    simpa only [canL, h1, h2, h3, h5, h6, h7, not_false_eq_true, decide_true, Bool.and_self, bo_t] using this
  · simp only [h7, decide_false, Bool.false_eq_true, if_false]
    exact bad D2 ex2 (by simp only [canL, h7, decide_false, Bool.false_and, Bool.and_false])
theorem k258 (hw : WT sh) (HS : SP sh) (R : Rw (D 287) V nt ng nr nl) (I : Iv V nt ng nr nl) (hL : Rl (D 287) lw) (hg : g < ng)
    (kk : ∀ D', Ex 294 D D' → Q (.inl (some (.int (opI (trainL lw V ng nr g))))) (mk sh D') c s) :
    Wx (tP nx xs) (d + 9) 258 0 [some (.ref 286), (some (.int (Int32.ofNat g))), none, none] [] (mk sh D) c s Q := by
  have hnr := i_nr5 I
  simp only [b258_0 hw, b258_6 hw, mI_thrown HS, mF_thrown HS, mR_row HS, mR_image HS, mR_earlier HS, mR_trial HS, mR_acts HS, mI_hasImage HS, mF_hasImage HS, mI_remembered HS, mF_remembered HS, mR_tape HS, mI_taped HS, mF_taped HS, mI_point HS, mF_point HS, mI_end HS, mF_end HS, mI_begin HS, mF_begin HS, mI_deep HS, mF_deep HS, mI_faultAt HS, mF_faultAt HS, mR_five HS, mI_codes HS, mF_codes HS, mR_value HS, mI_so HS, mF_so HS, mR_lines HS, mR_chosen HS, mR_best HS, mR_members HS, mR_paired HS, mO HS, mA_287 HS, mW_287 HS, mA_288 HS, mW_288 HS, mA_289 HS, mW_289 HS, mA_290 HS, mW_290 HS, mA_291 HS, mW_291 HS, mA_292 HS, mW_292 HS, mA_293 HS, mW_293 HS, mA_294 HS, mW_294 HS, mA_295 HS, mW_295 HS, mA_296 HS, mW_296 HS, mA_297 HS, mW_297 HS, mA_298 HS, mW_298 HS, mA_299 HS, mW_299 HS, wi_some, or_0, or_1, bo_or, ite_boP, true_and, and_true, kN_v, kN_n, kT_v, kT_n, kT_e, Nat.add_zero, Nat.zero_add, k199 hw HS, r_nr R]
  have lp : ∀ i, i ≤ nr → ∀ D1, Ex 294 D D1 → Wx (tP nx xs) (d + 9) 258 9 [some (.ref 286), (some (.int (Int32.ofNat g))), (some (.int (opI (fst? (canL lw V ng g) (nr - i) i)))), (some (.int (tpn i)))] [] (mk sh D1) c s Q := by
    intro i
    induction i with
    | zero =>
      intro _ D1 hex
      simp only [b258_9 hw, (tpn_lt0 0 (by decide)).mpr rfl, if_true]
      exact kk D1 hex
    | succ i ih =>
      intro hi D1 hex
      have e7 : D1 287 = D 287 := hex _ (by decide)
      have h0 : ¬ Int32.ofNat i < Int32.ofNat 0 := oN_nn (by omega)
      simp only [b258_9 hw, tpn_1, h0, if_false, mI_thrown HS, mF_thrown HS, mR_row HS, mR_image HS, mR_earlier HS, mR_trial HS, mR_acts HS, mI_hasImage HS, mF_hasImage HS, mI_remembered HS, mF_remembered HS, mR_tape HS, mI_taped HS, mF_taped HS, mI_point HS, mF_point HS, mI_end HS, mF_end HS, mI_begin HS, mF_begin HS, mI_deep HS, mF_deep HS, mI_faultAt HS, mF_faultAt HS, mR_five HS, mI_codes HS, mF_codes HS, mR_value HS, mI_so HS, mF_so HS, mR_lines HS, mR_chosen HS, mR_best HS, mR_members HS, mR_paired HS, mO HS, mA_287 HS, mW_287 HS, mA_288 HS, mW_288 HS, mA_289 HS, mW_289 HS, mA_290 HS, mW_290 HS, mA_291 HS, mW_291 HS, mA_292 HS, mW_292 HS, mA_293 HS, mW_293 HS, mA_294 HS, mW_294 HS, mA_295 HS, mW_295 HS, mA_296 HS, mW_296 HS, mA_297 HS, mW_297 HS, mA_298 HS, mW_298 HS, mA_299 HS, mW_299 HS, wi_some, or_0, or_1, bo_or, ite_boP, true_and, and_true, kN_v, kN_n, kT_v, kT_n, kT_e, Nat.add_zero, Nat.zero_add]
      refine k257 hw HS (by rw [e7]; exact R) I (by rw [e7]; exact hL) hg (by omega) ?_
      intro D2 hex2
      have ih := ih (by omega) D2 fun a ha => (hex2 a ha).trans (hex a ha)
      rw [show nr - i = (nr - (i + 1)) + 1 by omega, fst?] at ih
      simp only [b258_19 hw, b258_27 hw, wi_some, or_0, or_1, bo_or, ite_boP, true_and, and_true, kN_v, kN_n, kT_v, kT_n, kT_e, Nat.add_zero, Nat.zero_add]
      by_cases hc : canL lw V ng g i = true
      · simp only [hc, if_true] at ih ⊢
        exact ih
      · simp only [hc, if_false] at ih ⊢
        exact ih
  have := lp nr (Nat.le_refl _) D Ex.rf
  rw [Nat.sub_self] at this
  have e : Int32.ofNat nr - Int32.ofNat 1 = tpn nr := by
    unfold tpn
    rw [Int32.sub_eq_add_neg]
    rfl
  rw [e]
  exact this
end C46
