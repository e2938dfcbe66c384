/-! ===== texts: the reference's tape ===== -/
/-- point and begin alone have changed -/
def M1 (D D' : sD) : Prop := ∀ a i, ¬ (a = 286 ∧ (i = 10 ∨ i = 12)) → D' a i = D a i
theorem M1.rf {D : sD} : M1 D D := fun _ _ _ => rfl
theorem M1.tr {D D' D'' : sD} (h : M1 D D') (h' : M1 D' D'') : M1 D D'' := fun a i h1 => (h' a i h1).trans (h a i h1)
/-- end and bytes -/
def RB (b : Nat → Nat) (n : Nat) (D : sD) : Prop := D 286 11 = Int32.ofNat n ∧ ∀ i, i < n → D 292 i = by8 (Int32.ofNat (b i))
/-- the next thing stands at p -/
def TpR (b : Nat → Nat) (n : Nat) (D : sD) (p : Nat) : Prop := RB b n D ∧ ∃ q, q ≤ n ∧ sk b n q = p ∧ D 286 10 = Int32.ofNat q
theorem RB.m1 {b : Nat → Nat} {n : Nat} {D D' : sD} (h : RB b n D) (f : M1 D D') : RB b n D' := ⟨by rw [f 286 11 (by omega)]; exact h.1, fun i hi => by rw [f 292 i (by omega)]; exact h.2 i hi⟩
theorem TpR.of {b : Nat → Nat} {n p q : Nat} {D D' : sD} (h : RB b n D) (f : M1 D D') (hq : q ≤ n) (hs : sk b n q = p) (e : D' 286 10 = Int32.ofNat q) : TpR b n D' p := ⟨h.m1 f, q, hq, hs, e⟩
theorem TpR.le {b : Nat → Nat} {n p : Nat} {D : sD} (h : TpR b n D p) : p ≤ n ∧ sk b n p = p := by
  obtain ⟨_, q, hq, hs, _⟩ := h
  rw [← hs]
  exact ⟨sk_le hq, sk_sk⟩
theorem by_neg : ∀ b, b < 256 → 128 ≤ b → by8 (Int32.ofNat b) < Int32.ofNat 0 := by decide +kernel
theorem by_ltN {v lo : Nat} (hv : v < 256) (hl : lo < 128) : (by8 (Int32.ofNat v) < Int32.ofNat lo) = (v < lo ∨ 128 ≤ v) := by
  by_cases h : v < 128
  · rw [by_lt v h, oN_lt (by omega) (by omega)]
    exact propext ⟨fun h => Or.inl h, fun h => by omega⟩
  · have h0 := by_neg v hv (by omega)
    apply propext
    constructor
    · intro _; omega
    · intro _
      have h1 := Int32.lt_iff_toInt_lt.mp h0
      rw [oN_ti (by decide)] at h1
      apply Int32.lt_iff_toInt_lt.mpr
      rw [oN_ti (by omega)]
      omega
theorem by_gtN {v hi : Nat} (hv : v < 256) (hl : hi < 128) : (Int32.ofNat hi < by8 (Int32.ofNat v)) = (hi < v ∧ v < 128) := by
  by_cases h : v < 128
  · rw [by_lt v h, oN_lt (by omega) (by omega)]
    exact propext ⟨fun h1 => ⟨h1, h⟩, fun h => h.1⟩
  · have h0 := by_neg v hv (by omega)
    apply propext
    constructor
    · intro h2
      have h1 := Int32.lt_iff_toInt_lt.mp h0
      have h3 := Int32.lt_iff_toInt_lt.mp h2
      rw [oN_ti (by decide)] at h1
      rw [oN_ti (by omega)] at h3
      omega
    · intro _; omega
theorem by_eqN {v ch : Nat} (hv : v < 256) (hc : ch < 128) : (by8 (Int32.ofNat v) = Int32.ofNat ch) = (v = ch) := by
  by_cases h : v < 128
  · rw [by_lt v h, oN_eq (by omega) (by omega)]
  · have h0 := by_neg v hv (by omega)
    apply propext
    constructor
    · intro h2
      rw [h2, oN_lt (by omega) (by decide)] at h0
      omega
    · intro _; omega
section CB2
variable {nx : Nat} {xs : Nat → Int32} {d c s : Nat} {sh : List sC} {D : sD} {Q : av_Q}
variable {b : Nat → Nat} {n p : Nat}
theorem k217 {lo hi q : Nat} (hw : WT sh) (HS : SP sh) (tb : TB b n) (rb : RB b n D) (hq : D 286 10 = Int32.ofNat q) (hqn : q ≤ n) (hlo : lo < 128) (hhi : hi < 128) : Wx (tP nx xs) d 217 0 [some (.ref 286), (some (.int (Int32.ofNat lo))), (some (.int (Int32.ofNat hi)))] [] (mk sh D) c s Q = Q (.inl (some (.int (bo (isB b n lo hi q))))) (mk sh D) c s := by
  have hn := tb.1
  rw [b217_0 hw]
  simp only [mI_thrown HS, mF_thrown HS, mR_row HS, mR_image HS, mR_earlier HS, mR_trial HS, mR_acts HS, mI_hasImage HS, mF_hasImage HS, mI_remembered HS, mF_remembered HS, mR_tape HS, mI_taped HS, mF_taped HS, mI_point HS, mF_point HS, mI_end HS, mF_end HS, mI_begin HS, mF_begin HS, mI_deep HS, mF_deep HS, mI_faultAt HS, mF_faultAt HS, mR_five HS, mI_codes HS, mF_codes HS, mR_value HS, mI_so HS, mF_so HS, mR_lines HS, mR_chosen HS, mR_best HS, mR_members HS, mR_paired HS, mO HS, mA_287 HS, mW_287 HS, mA_288 HS, mW_288 HS, mA_289 HS, mW_289 HS, mA_290 HS, mW_290 HS, mA_291 HS, mW_291 HS, mA_292 HS, mW_292 HS, mA_293 HS, mW_293 HS, mA_294 HS, mW_294 HS, mA_295 HS, mW_295 HS, mA_296 HS, mW_296 HS, mA_297 HS, mW_297 HS, mA_298 HS, mW_298 HS, mA_299 HS, mW_299 HS, wi_some, or_0, or_1, bo_or, ite_boP, true_and, and_true, kN_v, kN_n, kT_v, kT_n, kT_e, Nat.add_zero, Nat.zero_add, hq, rb.1, oN_lt (show q < 2147483648 by omega) (show n < 2147483648 by omega)]
  unfold isB
  by_cases h : q < n
  · have hb := tb.2 q h
    have h4 : q < 400 := by omega
    simp only [h, if_true, mI_thrown HS, mF_thrown HS, mR_row HS, mR_image HS, mR_earlier HS, mR_trial HS, mR_acts HS, mI_hasImage HS, mF_hasImage HS, mI_remembered HS, mF_remembered HS, mR_tape HS, mI_taped HS, mF_taped HS, mI_point HS, mF_point HS, mI_end HS, mF_end HS, mI_begin HS, mF_begin HS, mI_deep HS, mF_deep HS, mI_faultAt HS, mF_faultAt HS, mR_five HS, mI_codes HS, mF_codes HS, mR_value HS, mI_so HS, mF_so HS, mR_lines HS, mR_chosen HS, mR_best HS, mR_members HS, mR_paired HS, mO HS, mA_287 HS, mW_287 HS, mA_288 HS, mW_288 HS, mA_289 HS, mW_289 HS, mA_290 HS, mW_290 HS, mA_291 HS, mW_291 HS, mA_292 HS, mW_292 HS, mA_293 HS, mW_293 HS, mA_294 HS, mW_294 HS, mA_295 HS, mW_295 HS, mA_296 HS, mW_296 HS, mA_297 HS, mW_297 HS, mA_298 HS, mW_298 HS, mA_299 HS, mW_299 HS, wi_some, or_0, or_1, bo_or, ite_boP, true_and, and_true, kN_v, kN_n, kT_v, kT_n, kT_e, Nat.add_zero, Nat.zero_add, h4, rb.2 q h, by_ltN hb hlo, by_gtN hb hhi, b217_41 hw, b217_42 hw, decide_true, Bool.true_and]
    by_cases h1 : b q < lo ∨ 128 ≤ b q
    · have : (decide (lo ≤ b q) && decide (b q ≤ hi)) = false := by
        rcases h1 with h1 | h1
        · rw [decide_eq_false (show ¬ lo ≤ b q by omega)]; rfl
        · rw [decide_eq_false (show ¬ b q ≤ hi by omega), Bool.and_false]
      simp only [h1, if_true, this, bo_f, or_0, true_and]
    · by_cases h2 : hi < b q ∧ b q < 128
      · simp only [h1, h2, if_true, if_false, and_self, show ¬ b q ≤ hi by omega, decide_false, Bool.and_false, bo_f, or_0, true_and]
      · simp only [h1, h2, if_false, show lo ≤ b q by omega, show b q ≤ hi by omega, decide_true, Bool.and_true, bo_t, or_1, true_and]
  · simp only [h, if_false, b217_41 hw, b217_42 hw, decide_false, Bool.false_and, bo_f, or_0, true_and]
theorem k218 {q : Nat} (hw : WT sh) (HS : SP sh) (tb : TB b n) (rb : RB b n D) (hq : D 286 10 = Int32.ofNat q) (hqn : q ≤ n)
    (kk : ∀ D', M1 D D' → D' 286 10 = Int32.ofNat (sk b n q) → D' 286 12 = Int32.ofNat (sk b n q) → Q (.inl none) (mk sh D') c s) :
    Wx (tP nx xs) (d + 1) 218 0 [some (.ref 286)] [] (mk sh D) c s Q := by
  have lp : ∀ r q' (D1 : sD), n - q' = r → q' ≤ n → sk b n q' = sk b n q → M1 D D1 → D1 286 10 = Int32.ofNat q' → Wx (tP nx xs) (d + 1) 218 0 [some (.ref 286)] [] (mk sh D1) c s Q := by
    intro r
    induction r with
    | zero =>
      intro q' D1 hr hq' hs m e
      have hB : isB b n 32 32 q' = false := by
        cases hb : isB b n 32 32 q' with
        | false => rfl
        | true => have := isB_lt hb; omega
      rw [b218_0 hw]
      simp only [mI_thrown HS, mF_thrown HS, mR_row HS, mR_image HS, mR_earlier HS, mR_trial HS, mR_acts HS, mI_hasImage HS, mF_hasImage HS, mI_remembered HS, mF_remembered HS, mR_tape HS, mI_taped HS, mF_taped HS, mI_point HS, mF_point HS, mI_end HS, mF_end HS, mI_begin HS, mF_begin HS, mI_deep HS, mF_deep HS, mI_faultAt HS, mF_faultAt HS, mR_five HS, mI_codes HS, mF_codes HS, mR_value HS, mI_so HS, mF_so HS, mR_lines HS, mR_chosen HS, mR_best HS, mR_members HS, mR_paired HS, mO HS, mA_287 HS, mW_287 HS, mA_288 HS, mW_288 HS, mA_289 HS, mW_289 HS, mA_290 HS, mW_290 HS, mA_291 HS, mW_291 HS, mA_292 HS, mW_292 HS, mA_293 HS, mW_293 HS, mA_294 HS, mW_294 HS, mA_295 HS, mW_295 HS, mA_296 HS, mW_296 HS, mA_297 HS, mW_297 HS, mA_298 HS, mW_298 HS, mA_299 HS, mW_299 HS, wi_some, or_0, or_1, bo_or, ite_boP, true_and, and_true, kN_v, kN_n, kT_v, kT_n, kT_e, Nat.add_zero, Nat.zero_add, k217 hw HS tb (rb.m1 m) e hq' (show 32 < 128 by decide) (show 32 < 128 by decide), b218_8 hw, hB, Bool.false_eq_true, if_false, e, b218_32 hw]
      rw [← hs, show sk b n q' = q' from ru_self hB] at kk
      exact kk _ (fun a i h => by rw [u2_at, if_neg (by omega)]; exact m a i h) (by rw [u2_at, if_neg (by omega)]; exact e) (by rw [u2_at, if_pos ⟨rfl, rfl⟩])
    | succ r ih =>
      intro q' D1 hr hq' hs m e
      rw [b218_0 hw]
      simp only [mI_thrown HS, mF_thrown HS, mR_row HS, mR_image HS, mR_earlier HS, mR_trial HS, mR_acts HS, mI_hasImage HS, mF_hasImage HS, mI_remembered HS, mF_remembered HS, mR_tape HS, mI_taped HS, mF_taped HS, mI_point HS, mF_point HS, mI_end HS, mF_end HS, mI_begin HS, mF_begin HS, mI_deep HS, mF_deep HS, mI_faultAt HS, mF_faultAt HS, mR_five HS, mI_codes HS, mF_codes HS, mR_value HS, mI_so HS, mF_so HS, mR_lines HS, mR_chosen HS, mR_best HS, mR_members HS, mR_paired HS, mO HS, mA_287 HS, mW_287 HS, mA_288 HS, mW_288 HS, mA_289 HS, mW_289 HS, mA_290 HS, mW_290 HS, mA_291 HS, mW_291 HS, mA_292 HS, mW_292 HS, mA_293 HS, mW_293 HS, mA_294 HS, mW_294 HS, mA_295 HS, mW_295 HS, mA_296 HS, mW_296 HS, mA_297 HS, mW_297 HS, mA_298 HS, mW_298 HS, mA_299 HS, mW_299 HS, wi_some, or_0, or_1, bo_or, ite_boP, true_and, and_true, kN_v, kN_n, kT_v, kT_n, kT_e, Nat.add_zero, Nat.zero_add, k217 hw HS tb (rb.m1 m) e hq' (show 32 < 128 by decide) (show 32 < 128 by decide), b218_8 hw, e]
      cases hB : isB b n 32 32 q' with
      | false =>
        simp only [Bool.false_eq_true, if_false, b218_32 hw]
        rw [← hs, show sk b n q' = q' from ru_self hB] at kk
        exact kk _ (fun a i h => by rw [u2_at, if_neg (by omega)]; exact m a i h) (by rw [u2_at, if_neg (by omega)]; exact e) (by rw [u2_at, if_pos ⟨rfl, rfl⟩])
      | true =>
        simp only [if_true, b218_21 hw, oN_add]
        exact ih (q' + 1) _ (by omega) (by have := isB_lt hB; omega) (by rw [← hs]; exact (ru_step hB).symm) (fun a i h => by rw [u2_at, if_neg (by omega)]; exact m a i h) (by rw [u2_at, if_pos ⟨rfl, rfl⟩])
  exact lp (n - q) q D rfl hqn rfl M1.rf hq
theorem k218t (hw : WT sh) (HS : SP sh) (tb : TB b n) (tr : TpR b n D p) (kk : ∀ D', M1 D D' → RB b n D' → D' 286 10 = Int32.ofNat p → D' 286 12 = Int32.ofNat p → Q (.inl none) (mk sh D') c s) : Wx (tP nx xs) (d + 1) 218 0 [some (.ref 286)] [] (mk sh D) c s Q := by
  obtain ⟨rb, q, hq, hs, e⟩ := tr
  refine k218 hw HS tb rb e hq ?_
  rw [hs]
  exact fun D' m e1 e2 => kk D' m (rb.m1 m) e1 e2
theorem k219 (hw : WT sh) (HS : SP sh) (tb : TB b n) (tr : TpR b n D p) (kk : ∀ D', M1 D D' → RB b n D' → D' 286 10 = Int32.ofNat (le b n p) → D' 286 12 = Int32.ofNat p → Q (.inl none) (mk sh D') c s) : Wx (tP nx xs) (d + 2) 219 0 [some (.ref 286)] [] (mk sh D) c s Q := by
  have hp := tr.le
  simp only [b219_0 hw, mI_thrown HS, mF_thrown HS, mR_row HS, mR_image HS, mR_earlier HS, mR_trial HS, mR_acts HS, mI_hasImage HS, mF_hasImage HS, mI_remembered HS, mF_remembered HS, mR_tape HS, mI_taped HS, mF_taped HS, mI_point HS, mF_point HS, mI_end HS, mF_end HS, mI_begin HS, mF_begin HS, mI_deep HS, mF_deep HS, mI_faultAt HS, mF_faultAt HS, mR_five HS, mI_codes HS, mF_codes HS, mR_value HS, mI_so HS, mF_so HS, mR_lines HS, mR_chosen HS, mR_best HS, mR_members HS, mR_paired HS, mO HS, mA_287 HS, mW_287 HS, mA_288 HS, mW_288 HS, mA_289 HS, mW_289 HS, mA_290 HS, mW_290 HS, mA_291 HS, mW_291 HS, mA_292 HS, mW_292 HS, mA_293 HS, mW_293 HS, mA_294 HS, mW_294 HS, mA_295 HS, mW_295 HS, mA_296 HS, mW_296 HS, mA_297 HS, mW_297 HS, mA_298 HS, mW_298 HS, mA_299 HS, mW_299 HS, wi_some, or_0, or_1, bo_or, ite_boP, true_and, and_true, kN_v, kN_n, kT_v, kT_n, kT_e, Nat.add_zero, Nat.zero_add]
  refine k218t hw HS tb tr ?_
  intro D0 m0 rb0 e0 f0
  simp only [wi_some, or_0, or_1, bo_or, ite_boP, true_and, and_true, kN_v, kN_n, kT_v, kT_n, kT_e, Nat.add_zero, Nat.zero_add]
  have lp : ∀ r q (D1 : sD), n - q = r → q ≤ n → le b n q = le b n p → M1 D0 D1 → D1 286 10 = Int32.ofNat q → D1 286 12 = Int32.ofNat p → Wx (tP nx xs) (d + 2) 219 4 [some (.ref 286)] [] (mk sh D1) c s Q := by
    intro r
    induction r with
    | zero =>
      intro q D1 hr hq' hs m e f
      have hB : isB b n 97 122 q = false := by
        cases hb : isB b n 97 122 q with
        | false => rfl
        | true => have := isB_lt hb; omega
      rw [b219_4 hw]
      simp only [mI_thrown HS, mF_thrown HS, mR_row HS, mR_image HS, mR_earlier HS, mR_trial HS, mR_acts HS, mI_hasImage HS, mF_hasImage HS, mI_remembered HS, mF_remembered HS, mR_tape HS, mI_taped HS, mF_taped HS, mI_point HS, mF_point HS, mI_end HS, mF_end HS, mI_begin HS, mF_begin HS, mI_deep HS, mF_deep HS, mI_faultAt HS, mF_faultAt HS, mR_five HS, mI_codes HS, mF_codes HS, mR_value HS, mI_so HS, mF_so HS, mR_lines HS, mR_chosen HS, mR_best HS, mR_members HS, mR_paired HS, mO HS, mA_287 HS, mW_287 HS, mA_288 HS, mW_288 HS, mA_289 HS, mW_289 HS, mA_290 HS, mW_290 HS, mA_291 HS, mW_291 HS, mA_292 HS, mW_292 HS, mA_293 HS, mW_293 HS, mA_294 HS, mW_294 HS, mA_295 HS, mW_295 HS, mA_296 HS, mW_296 HS, mA_297 HS, mW_297 HS, mA_298 HS, mW_298 HS, mA_299 HS, mW_299 HS, wi_some, or_0, or_1, bo_or, ite_boP, true_and, and_true, kN_v, kN_n, kT_v, kT_n, kT_e, Nat.add_zero, Nat.zero_add, k217 hw HS tb (rb0.m1 m) e hq' (show 97 < 128 by decide) (show 122 < 128 by decide), b219_12 hw, hB, Bool.false_eq_true, if_false]
      rw [← hs, show le b n q = q from ru_self hB] at kk
      exact kk _ (m0.tr m) (rb0.m1 m) e f
    | succ r ih =>
      intro q D1 hr hq' hs m e f
      rw [b219_4 hw]
      simp only [mI_thrown HS, mF_thrown HS, mR_row HS, mR_image HS, mR_earlier HS, mR_trial HS, mR_acts HS, mI_hasImage HS, mF_hasImage HS, mI_remembered HS, mF_remembered HS, mR_tape HS, mI_taped HS, mF_taped HS, mI_point HS, mF_point HS, mI_end HS, mF_end HS, mI_begin HS, mF_begin HS, mI_deep HS, mF_deep HS, mI_faultAt HS, mF_faultAt HS, mR_five HS, mI_codes HS, mF_codes HS, mR_value HS, mI_so HS, mF_so HS, mR_lines HS, mR_chosen HS, mR_best HS, mR_members HS, mR_paired HS, mO HS, mA_287 HS, mW_287 HS, mA_288 HS, mW_288 HS, mA_289 HS, mW_289 HS, mA_290 HS, mW_290 HS, mA_291 HS, mW_291 HS, mA_292 HS, mW_292 HS, mA_293 HS, mW_293 HS, mA_294 HS, mW_294 HS, mA_295 HS, mW_295 HS, mA_296 HS, mW_296 HS, mA_297 HS, mW_297 HS, mA_298 HS, mW_298 HS, mA_299 HS, mW_299 HS, wi_some, or_0, or_1, bo_or, ite_boP, true_and, and_true, kN_v, kN_n, kT_v, kT_n, kT_e, Nat.add_zero, Nat.zero_add, k217 hw HS tb (rb0.m1 m) e hq' (show 97 < 128 by decide) (show 122 < 128 by decide), b219_12 hw, e]
      cases hB : isB b n 97 122 q with
      | false =>
        simp only [Bool.false_eq_true, if_false]
        rw [← hs, show le b n q = q from ru_self hB] at kk
        exact kk _ (m0.tr m) (rb0.m1 m) e f
      | true =>
        simp only [if_true, b219_25 hw, oN_add]
        exact ih (q + 1) _ (by omega) (by have := isB_lt hB; omega) (by rw [← hs]; exact (ru_step hB).symm) (fun a i h => by rw [u2_at, if_neg (by omega)]; exact m a i h) (by rw [u2_at, if_pos ⟨rfl, rfl⟩]) (by rw [u2_at, if_neg (by omega)]; exact f)
  exact lp (n - p) p D0 rfl hp.1 rfl M1.rf e0 f0
theorem k220 {i : Nat} {w : List Nat} (hw : WT sh) (HS : SP sh) (tb : TB b n) (rb : RB b n D) (hp : p ≤ n) (e10 : D 286 10 = Int32.ofNat (le b n p)) (e12 : D 286 12 = Int32.ofNat p) (hi : i < 80) (hx : isTx i 0 w = true) (hl : (tTx.getD i []).length = w.length) : Wx (tP nx xs) d 220 0 [some (.ref 286), some (.retAddr (i + 1)), none, none] [] (mk sh D) c s Q = Q (.inl (some (.int (bo (isW b n w p))))) (mk sh D) c s := by
  have hn := tb.1
  obtain ⟨x1, x2, x3⟩ := isTx_of hx
  have x4 := tx_len i hi
  have l1 : p ≤ le b n p := ru_ge
  have l2 : le b n p ≤ n := ru_le hp
  have es : Int32.ofNat (le b n p) - Int32.ofNat p = Int32.ofNat (le b n p - p) := oN_sub l1
  rw [b220_0 hw]
  simp only [mI_thrown HS, mF_thrown HS, mR_row HS, mR_image HS, mR_earlier HS, mR_trial HS, mR_acts HS, mI_hasImage HS, mF_hasImage HS, mI_remembered HS, mF_remembered HS, mR_tape HS, mI_taped HS, mF_taped HS, mI_point HS, mF_point HS, mI_end HS, mF_end HS, mI_begin HS, mF_begin HS, mI_deep HS, mF_deep HS, mI_faultAt HS, mF_faultAt HS, mR_five HS, mI_codes HS, mF_codes HS, mR_value HS, mI_so HS, mF_so HS, mR_lines HS, mR_chosen HS, mR_best HS, mR_members HS, mR_paired HS, mO HS, mA_287 HS, mW_287 HS, mA_288 HS, mW_288 HS, mA_289 HS, mW_289 HS, mA_290 HS, mW_290 HS, mA_291 HS, mW_291 HS, mA_292 HS, mW_292 HS, mA_293 HS, mW_293 HS, mA_294 HS, mW_294 HS, mA_295 HS, mW_295 HS, mA_296 HS, mW_296 HS, mA_297 HS, mW_297 HS, mA_298 HS, mW_298 HS, mA_299 HS, mW_299 HS, wi_some, or_0, or_1, bo_or, ite_boP, true_and, and_true, kN_v, kN_n, kT_v, kT_n, kT_e, Nat.add_zero, Nat.zero_add, e10, e12, hl, show 0 < w.length by omega, true_and, es, oN_eq (show le b n p - p < 2147483648 by omega) (show w.length < 2147483648 by omega), b220_21 hw]
  by_cases h : le b n p - p = w.length
  · simp only [h, if_true]
    have lp : ∀ r k, k + r = w.length → (∀ m, m < k → b (p + m) = w.getD m 0) → Wx (tP nx xs) d 220 24 [some (.ref 286), some (.retAddr (i + 1)), (some (.int (Int32.ofNat 1))), (some (.int (Int32.ofNat k)))] [] (mk sh D) c s Q = Q (.inl (some (.int (bo (isW b n w p))))) (mk sh D) c s := by
      intro r
      induction r with
      | zero =>
        intro k hk hm
        have ek : k = w.length := by omega
        subst ek
        have : isW b n w p = true := isW_iff.mpr ⟨by omega, hm⟩
        rw [b220_24 hw]
        simp only [show ¬ (Int32.ofNat 1 : Int32) = Int32.ofNat 0 by decide, if_false, hl, show 0 < w.length by omega, true_and, oN_lt (show w.length < 2147483648 by omega) (show w.length < 2147483648 by omega), Nat.lt_irrefl, b220_67 hw, this, bo_t, or_1]
      | succ r ih =>
        intro k hk hm
        obtain ⟨c1, c2, c3⟩ := x3 k (by omega)
        rw [Nat.zero_add] at c1
        have hpn : p + k < n := by omega
        have hp4 : p + k < 400 := by omega
        have hb := tb.2 _ hpn
        have hin := oN_in (show k < w.length by omega) (by omega)
        rw [b220_24 hw]
        simp only [show ¬ (Int32.ofNat 1 : Int32) = Int32.ofNat 0 by decide, if_false, hl, show 0 < w.length by omega, true_and, oN_lt (show k < 2147483648 by omega) (show w.length < 2147483648 by omega), show k < w.length by omega, if_true, mI_thrown HS, mF_thrown HS, mR_row HS, mR_image HS, mR_earlier HS, mR_trial HS, mR_acts HS, mI_hasImage HS, mF_hasImage HS, mI_remembered HS, mF_remembered HS, mR_tape HS, mI_taped HS, mF_taped HS, mI_point HS, mF_point HS, mI_end HS, mF_end HS, mI_begin HS, mF_begin HS, mI_deep HS, mF_deep HS, mI_faultAt HS, mF_faultAt HS, mR_five HS, mI_codes HS, mF_codes HS, mR_value HS, mI_so HS, mF_so HS, mR_lines HS, mR_chosen HS, mR_best HS, mR_members HS, mR_paired HS, mO HS, mA_287 HS, mW_287 HS, mA_288 HS, mW_288 HS, mA_289 HS, mW_289 HS, mA_290 HS, mW_290 HS, mA_291 HS, mW_291 HS, mA_292 HS, mW_292 HS, mA_293 HS, mW_293 HS, mA_294 HS, mW_294 HS, mA_295 HS, mW_295 HS, mA_296 HS, mW_296 HS, mA_297 HS, mW_297 HS, mA_298 HS, mW_298 HS, mA_299 HS, mW_299 HS, wi_some, or_0, or_1, bo_or, ite_boP, true_and, and_true, kN_v, kN_n, kT_v, kT_n, kT_e, Nat.add_zero, Nat.zero_add, e12, oN_add, hp4, rb.2 _ hpn, hin, oN_tn (show k < 2147483648 by omega), c1, by_eqN hb (show w.getD k 0 < 128 by omega), b220_60 hw]
        by_cases e : b (p + k) = w.getD k 0
        · simp only [e, if_true]
          exact ih (k + 1) (by omega) fun m hm' => by
            by_cases e2 : m = k
            · rw [e2]; exact e
            · exact hm m (by omega)
        · have : isW b n w p = false := by
            cases hW : isW b n w p with
            | false => rfl
            | true => exact absurd ((isW_iff.mp hW).2 k (by omega)) e
          simp only [e, if_false]
          rw [b220_24 hw]
          simp only [if_true, b220_67 hw, this, bo_f, or_0, true_and]
    exact lp w.length 0 (by omega) fun m hm => absurd hm (Nat.not_lt_zero _)
  · have : isW b n w p = false := by
      cases hW : isW b n w p with
      | false => rfl
      | true => have := (isW_iff.mp hW).1; omega
    simp only [h, if_false]
    rw [b220_24 hw]
    simp only [if_true, b220_67 hw, this, bo_f, or_0, true_and]
theorem wrd_le {w : List Nat} {p' : Nat} (h : wrd b n w p = some p') : sk b n (le b n p) = p' := by
  unfold wrd at h
  split at h
  · next hW => cases h; rw [(isW_iff.mp hW).1]
  · cases h
theorem wrd_no {w : List Nat} (h : wrd b n w p = none) : isW b n w p = false := by
  unfold wrd at h
  cases hW : isW b n w p with
  | false => rfl
  | true => rw [hW, if_pos rfl] at h; cases h
theorem wrd_yes {w : List Nat} {p' : Nat} (h : wrd b n w p = some p') : isW b n w p = true := by
  unfold wrd at h
  split at h
  · next hW => exact hW
  · cases h
theorem k221 {i : Nat} {w : List Nat} (hw : WT sh) (HS : SP sh) (tb : TB b n) (tr : TpR b n D p) (hi : i < 80) (hx : isTx i 0 w = true) (hl : (tTx.getD i []).length = w.length)
    (ky : ∀ p' D', wrd b n w p = some p' → M1 D D' → TpR b n D' p' → D' 286 12 = Int32.ofNat p → Q (.inl (some (.int (Int32.ofNat 1)))) (mk sh D') c s)
    (kn : ∀ D', wrd b n w p = none → M1 D D' → TpR b n D' p → D' 286 12 = Int32.ofNat p → Q (.inl (some (.int (Int32.ofNat 0)))) (mk sh D') c s) :
    Wx (tP nx xs) (d + 3) 221 0 [some (.ref 286), some (.retAddr (i + 1))] [] (mk sh D) c s Q := by
  have hp := tr.le
  simp only [b221_0 hw, mI_thrown HS, mF_thrown HS, mR_row HS, mR_image HS, mR_earlier HS, mR_trial HS, mR_acts HS, mI_hasImage HS, mF_hasImage HS, mI_remembered HS, mF_remembered HS, mR_tape HS, mI_taped HS, mF_taped HS, mI_point HS, mF_point HS, mI_end HS, mF_end HS, mI_begin HS, mF_begin HS, mI_deep HS, mF_deep HS, mI_faultAt HS, mF_faultAt HS, mR_five HS, mI_codes HS, mF_codes HS, mR_value HS, mI_so HS, mF_so HS, mR_lines HS, mR_chosen HS, mR_best HS, mR_members HS, mR_paired HS, mO HS, mA_287 HS, mW_287 HS, mA_288 HS, mW_288 HS, mA_289 HS, mW_289 HS, mA_290 HS, mW_290 HS, mA_291 HS, mW_291 HS, mA_292 HS, mW_292 HS, mA_293 HS, mW_293 HS, mA_294 HS, mW_294 HS, mA_295 HS, mW_295 HS, mA_296 HS, mW_296 HS, mA_297 HS, mW_297 HS, mA_298 HS, mW_298 HS, mA_299 HS, mW_299 HS, wi_some, or_0, or_1, bo_or, ite_boP, true_and, and_true, kN_v, kN_n, kT_v, kT_n, kT_e, Nat.add_zero, Nat.zero_add]
  refine k219 hw HS tb tr ?_
  intro D1 m1 rb1 e1 f1
  simp only [wi_some, or_0, or_1, bo_or, ite_boP, true_and, and_true, kN_v, kN_n, kT_v, kT_n, kT_e, Nat.add_zero, Nat.zero_add, b221_4 hw, mI_thrown HS, mF_thrown HS, mR_row HS, mR_image HS, mR_earlier HS, mR_trial HS, mR_acts HS, mI_hasImage HS, mF_hasImage HS, mI_remembered HS, mF_remembered HS, mR_tape HS, mI_taped HS, mF_taped HS, mI_point HS, mF_point HS, mI_end HS, mF_end HS, mI_begin HS, mF_begin HS, mI_deep HS, mF_deep HS, mI_faultAt HS, mF_faultAt HS, mR_five HS, mI_codes HS, mF_codes HS, mR_value HS, mI_so HS, mF_so HS, mR_lines HS, mR_chosen HS, mR_best HS, mR_members HS, mR_paired HS, mO HS, mA_287 HS, mW_287 HS, mA_288 HS, mW_288 HS, mA_289 HS, mW_289 HS, mA_290 HS, mW_290 HS, mA_291 HS, mW_291 HS, mA_292 HS, mW_292 HS, mA_293 HS, mW_293 HS, mA_294 HS, mW_294 HS, mA_295 HS, mW_295 HS, mA_296 HS, mW_296 HS, mA_297 HS, mW_297 HS, mA_298 HS, mW_298 HS, mA_299 HS, mW_299 HS]
  rw [k220 hw HS tb rb1 hp.1 e1 f1 hi hx hl]
  simp only [wi_some, or_0, or_1, bo_or, ite_boP, true_and, and_true, kN_v, kN_n, kT_v, kT_n, kT_e, Nat.add_zero, Nat.zero_add, b221_9 hw, mI_thrown HS, mF_thrown HS, mR_row HS, mR_image HS, mR_earlier HS, mR_trial HS, mR_acts HS, mI_hasImage HS, mF_hasImage HS, mI_remembered HS, mF_remembered HS, mR_tape HS, mI_taped HS, mF_taped HS, mI_point HS, mF_point HS, mI_end HS, mF_end HS, mI_begin HS, mF_begin HS, mI_deep HS, mF_deep HS, mI_faultAt HS, mF_faultAt HS, mR_five HS, mI_codes HS, mF_codes HS, mR_value HS, mI_so HS, mF_so HS, mR_lines HS, mR_chosen HS, mR_best HS, mR_members HS, mR_paired HS, mO HS, mA_287 HS, mW_287 HS, mA_288 HS, mW_288 HS, mA_289 HS, mW_289 HS, mA_290 HS, mW_290 HS, mA_291 HS, mW_291 HS, mA_292 HS, mW_292 HS, mA_293 HS, mW_293 HS, mA_294 HS, mW_294 HS, mA_295 HS, mW_295 HS, mA_296 HS, mW_296 HS, mA_297 HS, mW_297 HS, mA_298 HS, mW_298 HS, mA_299 HS, mW_299 HS, f1, b221_22 hw]
  cases hW : wrd b n w p with
  | none =>
    simp only [wrd_no hW, Bool.false_eq_true, if_false]
    have m2 : M1 D1 (u2 D1 286 10 (Int32.ofNat p)) := fun a j h => by rw [u2_at, if_neg (by omega)]
    exact kn _ hW (m1.tr m2) (TpR.of rb1 m2 hp.1 hp.2 (by rw [u2_at, if_pos ⟨rfl, rfl⟩])) (by rw [u2_at, if_neg (by omega)]; exact f1)
  | some p' =>
    simp only [wrd_yes hW, if_true]
    exact ky p' D1 hW m1 (TpR.of rb1 M1.rf (ru_le hp.1) (wrd_le hW) e1) f1
theorem k222 {ch : Nat} (hw : WT sh) (HS : SP sh) (tb : TB b n) (tr : TpR b n D p) (hch : ch < 128)
    (ky : ∀ p' D', sgq b n ch p = some p' → M1 D D' → TpR b n D' p' → D' 286 12 = Int32.ofNat p → Q (.inl (some (.int (Int32.ofNat 1)))) (mk sh D') c s)
    (kn : ∀ D', sgq b n ch p = none → M1 D D' → TpR b n D' p → D' 286 12 = Int32.ofNat p → Q (.inl (some (.int (Int32.ofNat 0)))) (mk sh D') c s) :
    Wx (tP nx xs) (d + 2) 222 0 [some (.ref 286), (some (.int (Int32.ofNat ch)))] [] (mk sh D) c s Q := by
  have hp := tr.le
  unfold sgq at ky kn
  simp only [b222_0 hw, mI_thrown HS, mF_thrown HS, mR_row HS, mR_image HS, mR_earlier HS, mR_trial HS, mR_acts HS, mI_hasImage HS, mF_hasImage HS, mI_remembered HS, mF_remembered HS, mR_tape HS, mI_taped HS, mF_taped HS, mI_point HS, mF_point HS, mI_end HS, mF_end HS, mI_begin HS, mF_begin HS, mI_deep HS, mF_deep HS, mI_faultAt HS, mF_faultAt HS, mR_five HS, mI_codes HS, mF_codes HS, mR_value HS, mI_so HS, mF_so HS, mR_lines HS, mR_chosen HS, mR_best HS, mR_members HS, mR_paired HS, mO HS, mA_287 HS, mW_287 HS, mA_288 HS, mW_288 HS, mA_289 HS, mW_289 HS, mA_290 HS, mW_290 HS, mA_291 HS, mW_291 HS, mA_292 HS, mW_292 HS, mA_293 HS, mW_293 HS, mA_294 HS, mW_294 HS, mA_295 HS, mW_295 HS, mA_296 HS, mW_296 HS, mA_297 HS, mW_297 HS, mA_298 HS, mW_298 HS, mA_299 HS, mW_299 HS, wi_some, or_0, or_1, bo_or, ite_boP, true_and, and_true, kN_v, kN_n, kT_v, kT_n, kT_e, Nat.add_zero, Nat.zero_add]
  refine k218t hw HS tb tr ?_
  intro D1 m1 rb1 e1 f1
  simp only [wi_some, or_0, or_1, bo_or, ite_boP, true_and, and_true, kN_v, kN_n, kT_v, kT_n, kT_e, Nat.add_zero, Nat.zero_add, b222_4 hw, mI_thrown HS, mF_thrown HS, mR_row HS, mR_image HS, mR_earlier HS, mR_trial HS, mR_acts HS, mI_hasImage HS, mF_hasImage HS, mI_remembered HS, mF_remembered HS, mR_tape HS, mI_taped HS, mF_taped HS, mI_point HS, mF_point HS, mI_end HS, mF_end HS, mI_begin HS, mF_begin HS, mI_deep HS, mF_deep HS, mI_faultAt HS, mF_faultAt HS, mR_five HS, mI_codes HS, mF_codes HS, mR_value HS, mI_so HS, mF_so HS, mR_lines HS, mR_chosen HS, mR_best HS, mR_members HS, mR_paired HS, mO HS, mA_287 HS, mW_287 HS, mA_288 HS, mW_288 HS, mA_289 HS, mW_289 HS, mA_290 HS, mW_290 HS, mA_291 HS, mW_291 HS, mA_292 HS, mW_292 HS, mA_293 HS, mW_293 HS, mA_294 HS, mW_294 HS, mA_295 HS, mW_295 HS, mA_296 HS, mW_296 HS, mA_297 HS, mW_297 HS, mA_298 HS, mW_298 HS, mA_299 HS, mW_299 HS, k217 hw HS tb rb1 e1 hp.1 hch hch, b222_10 hw, e1]
  cases hB : isB b n ch ch p with
  | false =>
    simp only [hB, Bool.false_eq_true, if_false] at kn ⊢
    exact kn D1 trivial m1 (TpR.of rb1 M1.rf hp.1 hp.2 e1) f1
  | true =>
    simp only [hB, if_true, b222_25 hw, oN_add] at ky ⊢
    have m2 : M1 D1 (u2 D1 286 10 (Int32.ofNat (p + 1))) := fun a j h => by rw [u2_at, if_neg (by omega)]
    exact ky _ _ rfl (m1.tr m2) (TpR.of rb1 m2 (by have := isB_lt hB; omega) rfl (by rw [u2_at, if_pos ⟨rfl, rfl⟩])) (by rw [u2_at, if_neg (by omega)]; exact f1)
theorem mo_gt {hb v : Nat} (hhb : hb < 10000) (hv : v < 10000) : (mo hb < Int32.ofNat v) = (hb ≤ v) := by
  unfold mo
  by_cases h0 : hb = 0
  · subst h0
    rw [show (Int32.ofNat 0 - Int32.ofNat 1 : Int32) = -1 by decide]
    apply propext
    constructor
    · intro _; omega
    · intro _
      apply Int32.lt_iff_toInt_lt.mpr
      rw [oN_ti (by omega)]
      have : Int32.toInt (-1) = -1 := by decide
      omega
  · rw [oN_sub (show 1 ≤ hb by omega), oN_lt (by omega) (by omega)]
    exact propext ⟨fun h => by omega, fun h => by omega⟩
theorem k223 {lo hb : Nat} (hw : WT sh) (HS : SP sh) (tb : TB b n) (tr : TpR b n D p) (hlo : lo < 1000) (hhb : hb < 10000)
    (ky : ∀ v p' D', num b n lo hb p = some (v, p') → M1 D D' → TpR b n D' p' → D' 286 12 = Int32.ofNat p → Q (.inl (some (.int (Int32.ofNat v)))) (mk sh D') c s)
    (kn : ∀ D', num b n lo hb p = none → M1 D D' → RB b n D' → D' 286 12 = Int32.ofNat p → Q (.inl (some (.int (-1)))) (mk sh D') c s) :
    Wx (tP nx xs) (d + 2) 223 0 [some (.ref 286), (some (.int (Int32.ofNat lo))), (some (.int (mo hb))), none] [] (mk sh D) c s Q := by
  have hn := tb.1
  have hp := tr.le
  have e0 : p ≤ de b n p := ru_ge
  have e1 : de b n p ≤ n := ru_le hp.1
  have edig : ∀ k, k < de b n p - p → p + k < n ∧ 48 ≤ b (p + k) ∧ b (p + k) ≤ 57 := fun k hk => isB_iff.mp (ru_in (b := b) (n := n) (lo := 48) (hi := 57) (p := p) (i := p + k) (by omega) (by show _ < de b n p; omega))
  have eend : isB b n 48 57 (de b n p) = false := ru_no
  unfold num at ky kn
  generalize hE : de b n p - p = e at *
  have hde : de b n p = p + e := by omega
  rw [hde] at ky kn eend
  have pe : (p + e = p) = (e = 0) := propext ⟨fun h => by omega, fun h => by omega⟩
  simp only [pe] at ky kn
  simp only [b223_0 hw, mI_thrown HS, mF_thrown HS, mR_row HS, mR_image HS, mR_earlier HS, mR_trial HS, mR_acts HS, mI_hasImage HS, mF_hasImage HS, mI_remembered HS, mF_remembered HS, mR_tape HS, mI_taped HS, mF_taped HS, mI_point HS, mF_point HS, mI_end HS, mF_end HS, mI_begin HS, mF_begin HS, mI_deep HS, mF_deep HS, mI_faultAt HS, mF_faultAt HS, mR_five HS, mI_codes HS, mF_codes HS, mR_value HS, mI_so HS, mF_so HS, mR_lines HS, mR_chosen HS, mR_best HS, mR_members HS, mR_paired HS, mO HS, mA_287 HS, mW_287 HS, mA_288 HS, mW_288 HS, mA_289 HS, mW_289 HS, mA_290 HS, mW_290 HS, mA_291 HS, mW_291 HS, mA_292 HS, mW_292 HS, mA_293 HS, mW_293 HS, mA_294 HS, mW_294 HS, mA_295 HS, mW_295 HS, mA_296 HS, mW_296 HS, mA_297 HS, mW_297 HS, mA_298 HS, mW_298 HS, mA_299 HS, mW_299 HS, wi_some, or_0, or_1, bo_or, ite_boP, true_and, and_true, kN_v, kN_n, kT_v, kT_n, kT_e, Nat.add_zero, Nat.zero_add]
  refine k218t hw HS tb tr ?_
  intro D0 m0 rb0 e10 e12
  simp only [wi_some, or_0, or_1, bo_or, ite_boP, true_and, and_true, kN_v, kN_n, kT_v, kT_n, kT_e, Nat.add_zero, Nat.zero_add, b223_4 hw]
  have lp : ∀ r k (D1 : sD), k + r = e → M1 D0 D1 → D1 286 10 = Int32.ofNat (p + k) → D1 286 12 = Int32.ofNat p → Wx (tP nx xs) (d + 2) 223 6 [some (.ref 286), (some (.int (Int32.ofNat lo))), (some (.int (mo hb))), (some (.int (Int32.ofNat (vlN b p (min k 3)))))] [] (mk sh D1) c s Q := by
    intro r
    induction r with
    | zero =>
      intro k D1 hk m a10 a12
      have ek : k = e := by omega
      subst ek
      have vl := vlN_lt (b := b) (p := p) (min k 3) fun i hi => (edig i (by omega)).2.2
      have p10 : 10 ^ (min k 3) ≤ 10 ^ 3 := Nat.pow_le_pow_right (by decide) (by omega)
      have kn := kn D1
      rw [b223_6 hw]
      simp only [mI_thrown HS, mF_thrown HS, mR_row HS, mR_image HS, mR_earlier HS, mR_trial HS, mR_acts HS, mI_hasImage HS, mF_hasImage HS, mI_remembered HS, mF_remembered HS, mR_tape HS, mI_taped HS, mF_taped HS, mI_point HS, mF_point HS, mI_end HS, mF_end HS, mI_begin HS, mF_begin HS, mI_deep HS, mF_deep HS, mI_faultAt HS, mF_faultAt HS, mR_five HS, mI_codes HS, mF_codes HS, mR_value HS, mI_so HS, mF_so HS, mR_lines HS, mR_chosen HS, mR_best HS, mR_members HS, mR_paired HS, mO HS, mA_287 HS, mW_287 HS, mA_288 HS, mW_288 HS, mA_289 HS, mW_289 HS, mA_290 HS, mW_290 HS, mA_291 HS, mW_291 HS, mA_292 HS, mW_292 HS, mA_293 HS, mW_293 HS, mA_294 HS, mW_294 HS, mA_295 HS, mW_295 HS, mA_296 HS, mW_296 HS, mA_297 HS, mW_297 HS, mA_298 HS, mW_298 HS, mA_299 HS, mW_299 HS, wi_some, or_0, or_1, bo_or, ite_boP, true_and, and_true, kN_v, kN_n, kT_v, kT_n, kT_e, Nat.add_zero, Nat.zero_add, k217 hw HS tb (rb0.m1 m) a10 (by omega) (show 48 < 128 by decide) (show 57 < 128 by decide), eend, b223_14 hw, Bool.false_eq_true, if_false, a10, a12, oN_eq (show p + k < 2147483648 by omega) (show p < 2147483648 by omega), pe, oN_sub (show p ≤ p + k by omega), show p + k - p = k by omega, oN_lt (show 3 < 2147483648 by omega) (show k < 2147483648 by omega), oN_lt (show vlN b p (min k 3) < 2147483648 by omega) (show lo < 2147483648 by omega), mo_gt hhb (show vlN b p (min k 3) < 10000 by omega), b223_99 hw, b223_104 hw]
      by_cases h1 : k = 0
      · simp only [h1, if_true]; exact kn (if_pos (Or.inl h1)) (m0.tr m) (rb0.m1 m) a12
      · by_cases h2 : 3 < k
        · simp only [h1, h2, if_true, if_false]; exact kn (if_pos (Or.inr (Or.inl h2))) (m0.tr m) (rb0.m1 m) a12
        · rw [show min k 3 = k by omega]
          simp only [h1, h2, if_false]
          by_cases h3 : vlN b p k < lo
          · simp only [h3, if_true]; exact kn (if_pos (Or.inr (Or.inr (Or.inl h3)))) (m0.tr m) (rb0.m1 m) a12
          · by_cases h4 : hb ≤ vlN b p k
            · simp only [h3, h4, if_true, if_false]; exact kn (if_pos (Or.inr (Or.inr (Or.inr h4)))) (m0.tr m) (rb0.m1 m) a12
            · have hno : ¬ (k = 0 ∨ 3 < k ∨ vlN b p k < lo ∨ hb ≤ vlN b p k) := by omega
              simp only [h3, h4, if_false]
              exact ky _ _ D1 (if_neg hno) (m0.tr m) (TpR.of rb0 m (by omega) rfl a10) a12
    | succ r ih =>
      intro k D1 hk m a10 a12
      obtain ⟨d1, d2, d3⟩ := edig k (by omega)
      have hp4 : p + k < 400 := by omega
      have hB : isB b n 48 57 (p + k) = true := isB_iff.mpr ⟨d1, d2, d3⟩
      have ih := ih (k + 1) (u2 D1 286 10 (Int32.ofNat (p + k + 1))) (by omega) (fun a j h => by rw [u2_at, if_neg (by omega)]; exact m a j h) (by rw [u2_at, if_pos ⟨rfl, rfl⟩]; rfl) (by rw [u2_at, if_neg (by omega)]; exact a12)
      rw [b223_6 hw]
      simp only [mI_thrown HS, mF_thrown HS, mR_row HS, mR_image HS, mR_earlier HS, mR_trial HS, mR_acts HS, mI_hasImage HS, mF_hasImage HS, mI_remembered HS, mF_remembered HS, mR_tape HS, mI_taped HS, mF_taped HS, mI_point HS, mF_point HS, mI_end HS, mF_end HS, mI_begin HS, mF_begin HS, mI_deep HS, mF_deep HS, mI_faultAt HS, mF_faultAt HS, mR_five HS, mI_codes HS, mF_codes HS, mR_value HS, mI_so HS, mF_so HS, mR_lines HS, mR_chosen HS, mR_best HS, mR_members HS, mR_paired HS, mO HS, mA_287 HS, mW_287 HS, mA_288 HS, mW_288 HS, mA_289 HS, mW_289 HS, mA_290 HS, mW_290 HS, mA_291 HS, mW_291 HS, mA_292 HS, mW_292 HS, mA_293 HS, mW_293 HS, mA_294 HS, mW_294 HS, mA_295 HS, mW_295 HS, mA_296 HS, mW_296 HS, mA_297 HS, mW_297 HS, mA_298 HS, mW_298 HS, mA_299 HS, mW_299 HS, wi_some, or_0, or_1, bo_or, ite_boP, true_and, and_true, kN_v, kN_n, kT_v, kT_n, kT_e, Nat.add_zero, Nat.zero_add, k217 hw HS tb (rb0.m1 m) a10 (by omega) (show 48 < 128 by decide) (show 57 < 128 by decide), hB, b223_14 hw, if_true, a10, a12, oN_sub (show p ≤ p + k by omega), show p + k - p = k by omega, oN_lt (show k < 2147483648 by omega) (show 3 < 2147483648 by omega)]
      by_cases h3 : k < 3
      · have vl := vlN_lt (b := b) (p := p) k fun i hi => (edig i (by omega)).2.2
        have p10 : 10 ^ k ≤ 10 ^ 3 := Nat.pow_le_pow_right (by decide) (by omega)
        rw [show min (k + 1) 3 = k + 1 by omega, show vlN b p (k + 1) = 10 * vlN b p k + (b (p + k) - 48) from rfl] at ih
        rw [show min k 3 = k by omega]
        simp only [h3, if_true, mI_thrown HS, mF_thrown HS, mR_row HS, mR_image HS, mR_earlier HS, mR_trial HS, mR_acts HS, mI_hasImage HS, mF_hasImage HS, mI_remembered HS, mF_remembered HS, mR_tape HS, mI_taped HS, mF_taped HS, mI_point HS, mF_point HS, mI_end HS, mF_end HS, mI_begin HS, mF_begin HS, mI_deep HS, mF_deep HS, mI_faultAt HS, mF_faultAt HS, mR_five HS, mI_codes HS, mF_codes HS, mR_value HS, mI_so HS, mF_so HS, mR_lines HS, mR_chosen HS, mR_best HS, mR_members HS, mR_paired HS, mO HS, mA_287 HS, mW_287 HS, mA_288 HS, mW_288 HS, mA_289 HS, mW_289 HS, mA_290 HS, mW_290 HS, mA_291 HS, mW_291 HS, mA_292 HS, mW_292 HS, mA_293 HS, mW_293 HS, mA_294 HS, mW_294 HS, mA_295 HS, mW_295 HS, mA_296 HS, mW_296 HS, mA_297 HS, mW_297 HS, mA_298 HS, mW_298 HS, mA_299 HS, mW_299 HS, wi_some, or_0, or_1, bo_or, ite_boP, true_and, and_true, kN_v, kN_n, kT_v, kT_n, kT_e, Nat.add_zero, Nat.zero_add, hp4, (rb0.m1 m).2 _ d1, by_lt (b (p + k)) (by omega), oN_mul, oN_add, oN_sub (show 48 ≤ 10 * vlN b p k + b (p + k) by omega), b223_51 hw, a10, b223_62 hw]
        rw [show 10 * vlN b p k + b (p + k) - 48 = 10 * vlN b p k + (b (p + k) - 48) by omega]
        exact ih
      · rw [show min (k + 1) 3 = 3 by omega] at ih
        rw [show min k 3 = 3 by omega]
        simp only [h3, if_false, mI_thrown HS, mF_thrown HS, mR_row HS, mR_image HS, mR_earlier HS, mR_trial HS, mR_acts HS, mI_hasImage HS, mF_hasImage HS, mI_remembered HS, mF_remembered HS, mR_tape HS, mI_taped HS, mF_taped HS, mI_point HS, mF_point HS, mI_end HS, mF_end HS, mI_begin HS, mF_begin HS, mI_deep HS, mF_deep HS, mI_faultAt HS, mF_faultAt HS, mR_five HS, mI_codes HS, mF_codes HS, mR_value HS, mI_so HS, mF_so HS, mR_lines HS, mR_chosen HS, mR_best HS, mR_members HS, mR_paired HS, mO HS, mA_287 HS, mW_287 HS, mA_288 HS, mW_288 HS, mA_289 HS, mW_289 HS, mA_290 HS, mW_290 HS, mA_291 HS, mW_291 HS, mA_292 HS, mW_292 HS, mA_293 HS, mW_293 HS, mA_294 HS, mW_294 HS, mA_295 HS, mW_295 HS, mA_296 HS, mW_296 HS, mA_297 HS, mW_297 HS, mA_298 HS, mW_298 HS, mA_299 HS, mW_299 HS, wi_some, or_0, or_1, bo_or, ite_boP, true_and, and_true, kN_v, kN_n, kT_v, kT_n, kT_e, Nat.add_zero, Nat.zero_add, b223_51 hw, a10, oN_add, b223_62 hw]
        exact ih
  exact lp e 0 D0 (by omega) M1.rf e10 e12
def bhd (b : Nat → Nat) (n : Nat) (w : List Nat) (lo hb p : Nat) : Nat ⊕ (Nat × Nat) := match wrd b n w p with
  | none => .inl p
  | some p1 => match num b n lo hb p1 with
    | none => .inl p1
    | some x => .inr x
theorem k224 {i lo hb : Nat} {w : List Nat} (hw : WT sh) (HS : SP sh) (tb : TB b n) (tr : TpR b n D p) (hi : i < 80) (hx : isTx i 0 w = true) (hl : (tTx.getD i []).length = w.length) (hlo : lo < 1000) (hhb : hb < 10000)
    (kf : ∀ f D', bhd b n w lo hb p = .inl f → M1 D D' → D' 286 12 = Int32.ofNat f → Q (.inl (some (.int (-1)))) (mk sh D') c s)
    (ky : ∀ v p' D', bhd b n w lo hb p = .inr (v, p') → M1 D D' → TpR b n D' p' → Q (.inl (some (.int (Int32.ofNat v)))) (mk sh D') c s) :
    Wx (tP nx xs) (d + 3) 224 0 [some (.ref 286), some (.retAddr (i + 1)), (some (.int (Int32.ofNat lo))), (some (.int (mo hb)))] [] (mk sh D) c s Q := by
  have hp := tr.le
  unfold bhd at kf ky
  simp only [b224_0 hw, mI_thrown HS, mF_thrown HS, mR_row HS, mR_image HS, mR_earlier HS, mR_trial HS, mR_acts HS, mI_hasImage HS, mF_hasImage HS, mI_remembered HS, mF_remembered HS, mR_tape HS, mI_taped HS, mF_taped HS, mI_point HS, mF_point HS, mI_end HS, mF_end HS, mI_begin HS, mF_begin HS, mI_deep HS, mF_deep HS, mI_faultAt HS, mF_faultAt HS, mR_five HS, mI_codes HS, mF_codes HS, mR_value HS, mI_so HS, mF_so HS, mR_lines HS, mR_chosen HS, mR_best HS, mR_members HS, mR_paired HS, mO HS, mA_287 HS, mW_287 HS, mA_288 HS, mW_288 HS, mA_289 HS, mW_289 HS, mA_290 HS, mW_290 HS, mA_291 HS, mW_291 HS, mA_292 HS, mW_292 HS, mA_293 HS, mW_293 HS, mA_294 HS, mW_294 HS, mA_295 HS, mW_295 HS, mA_296 HS, mW_296 HS, mA_297 HS, mW_297 HS, mA_298 HS, mW_298 HS, mA_299 HS, mW_299 HS, wi_some, or_0, or_1, bo_or, ite_boP, true_and, and_true, kN_v, kN_n, kT_v, kT_n, kT_e, Nat.add_zero, Nat.zero_add]
  refine k219 hw HS tb tr ?_
  intro D1 m1 rb1 e1 f1
  simp only [wi_some, or_0, or_1, bo_or, ite_boP, true_and, and_true, kN_v, kN_n, kT_v, kT_n, kT_e, Nat.add_zero, Nat.zero_add, b224_4 hw, mI_thrown HS, mF_thrown HS, mR_row HS, mR_image HS, mR_earlier HS, mR_trial HS, mR_acts HS, mI_hasImage HS, mF_hasImage HS, mI_remembered HS, mF_remembered HS, mR_tape HS, mI_taped HS, mF_taped HS, mI_point HS, mF_point HS, mI_end HS, mF_end HS, mI_begin HS, mF_begin HS, mI_deep HS, mF_deep HS, mI_faultAt HS, mF_faultAt HS, mR_five HS, mI_codes HS, mF_codes HS, mR_value HS, mI_so HS, mF_so HS, mR_lines HS, mR_chosen HS, mR_best HS, mR_members HS, mR_paired HS, mO HS, mA_287 HS, mW_287 HS, mA_288 HS, mW_288 HS, mA_289 HS, mW_289 HS, mA_290 HS, mW_290 HS, mA_291 HS, mW_291 HS, mA_292 HS, mW_292 HS, mA_293 HS, mW_293 HS, mA_294 HS, mW_294 HS, mA_295 HS, mW_295 HS, mA_296 HS, mW_296 HS, mA_297 HS, mW_297 HS, mA_298 HS, mW_298 HS, mA_299 HS, mW_299 HS]
  rw [k220 hw HS tb rb1 hp.1 e1 f1 hi hx hl]
  simp only [wi_some, or_0, or_1, bo_or, ite_boP, true_and, and_true, kN_v, kN_n, kT_v, kT_n, kT_e, Nat.add_zero, Nat.zero_add, b224_9 hw, mI_thrown HS, mF_thrown HS, mR_row HS, mR_image HS, mR_earlier HS, mR_trial HS, mR_acts HS, mI_hasImage HS, mF_hasImage HS, mI_remembered HS, mF_remembered HS, mR_tape HS, mI_taped HS, mF_taped HS, mI_point HS, mF_point HS, mI_end HS, mF_end HS, mI_begin HS, mF_begin HS, mI_deep HS, mF_deep HS, mI_faultAt HS, mF_faultAt HS, mR_five HS, mI_codes HS, mF_codes HS, mR_value HS, mI_so HS, mF_so HS, mR_lines HS, mR_chosen HS, mR_best HS, mR_members HS, mR_paired HS, mO HS, mA_287 HS, mW_287 HS, mA_288 HS, mW_288 HS, mA_289 HS, mW_289 HS, mA_290 HS, mW_290 HS, mA_291 HS, mW_291 HS, mA_292 HS, mW_292 HS, mA_293 HS, mW_293 HS, mA_294 HS, mW_294 HS, mA_295 HS, mW_295 HS, mA_296 HS, mW_296 HS, mA_297 HS, mW_297 HS, mA_298 HS, mW_298 HS, mA_299 HS, mW_299 HS]
  cases hW : wrd b n w p with
  | none =>
    simp only [hW] at kf
    simp only [wrd_no hW, Bool.false_eq_true, if_false, b224_22 hw]
    exact kf _ D1 rfl m1 f1
  | some p1 =>
    simp only [hW] at kf ky
    simp only [wrd_yes hW, if_true]
    refine k223 hw HS tb (TpR.of rb1 M1.rf (ru_le hp.1) (wrd_le hW) e1) hlo hhb ?_ ?_
    · intro v p' D2 hN m2 tr2 f2
      simp only [hN] at ky
      simp only [wi_some, or_0, or_1, bo_or, ite_boP, true_and, and_true, kN_v, kN_n, kT_v, kT_n, kT_e, Nat.add_zero, Nat.zero_add, b224_18 hw, b224_22 hw]
      exact ky v p' D2 rfl (m1.tr m2) tr2
    · intro D2 hN m2 rb2 f2
      simp only [hN] at kf
      simp only [wi_some, or_0, or_1, bo_or, ite_boP, true_and, and_true, kN_v, kN_n, kT_v, kT_n, kT_e, Nat.add_zero, Nat.zero_add, b224_18 hw, b224_22 hw]
      exact kf _ D2 rfl (m1.tr m2) f2
def tld (b : Nat → Nat) (n : Nat) (w : List Nat) (hb p : Nat) : Nat ⊕ (Option Nat × Nat) := match wrd b n w p with
  | none => .inr (none, p)
  | some p1 => match num b n 0 hb p1 with
    | none => .inl p1
    | some (v, p2) => .inr (some v, p2)
theorem k225 {i hb : Nat} {w : List Nat} {wo : Int32} (hw : WT sh) (HS : SP sh) (tb : TB b n) (tr : TpR b n D p) (hi : i < 80) (hx : isTx i 0 w = true) (hl : (tTx.getD i []).length = w.length) (hhb : hb < 10000)
    (kf : ∀ f D', tld b n w hb p = .inl f → M1 D D' → D' 286 12 = Int32.ofNat f → Q (.inl (some (.int (Int32.ofNat 1000000)))) (mk sh D') c s)
    (ky : ∀ o p' D', tld b n w hb p = .inr (o, p') → M1 D D' → TpR b n D' p' → Q (.inl (some (.int (match o with
      | none => wo
      | some v => Int32.ofNat v)))) (mk sh D') c s) :
    Wx (tP nx xs) (d + 4) 225 0 [some (.ref 286), some (.retAddr (i + 1)), (some (.int (mo hb))), (some (.int (wo))), none] [] (mk sh D) c s Q := by
  unfold tld at kf ky
  simp only [b225_0 hw, mI_thrown HS, mF_thrown HS, mR_row HS, mR_image HS, mR_earlier HS, mR_trial HS, mR_acts HS, mI_hasImage HS, mF_hasImage HS, mI_remembered HS, mF_remembered HS, mR_tape HS, mI_taped HS, mF_taped HS, mI_point HS, mF_point HS, mI_end HS, mF_end HS, mI_begin HS, mF_begin HS, mI_deep HS, mF_deep HS, mI_faultAt HS, mF_faultAt HS, mR_five HS, mI_codes HS, mF_codes HS, mR_value HS, mI_so HS, mF_so HS, mR_lines HS, mR_chosen HS, mR_best HS, mR_members HS, mR_paired HS, mO HS, mA_287 HS, mW_287 HS, mA_288 HS, mW_288 HS, mA_289 HS, mW_289 HS, mA_290 HS, mW_290 HS, mA_291 HS, mW_291 HS, mA_292 HS, mW_292 HS, mA_293 HS, mW_293 HS, mA_294 HS, mW_294 HS, mA_295 HS, mW_295 HS, mA_296 HS, mW_296 HS, mA_297 HS, mW_297 HS, mA_298 HS, mW_298 HS, mA_299 HS, mW_299 HS, wi_some, or_0, or_1, bo_or, ite_boP, true_and, and_true, kN_v, kN_n, kT_v, kT_n, kT_e, Nat.add_zero, Nat.zero_add]
  refine k221 hw HS tb tr hi hx hl ?_ ?_
  · intro p1 D1 hW m1 tr1 f1
    simp only [hW] at kf ky
    simp only [wi_some, or_0, or_1, bo_or, ite_boP, true_and, and_true, kN_v, kN_n, kT_v, kT_n, kT_e, Nat.add_zero, Nat.zero_add, b225_5 hw, show ¬ (Int32.ofNat 1 : Int32) = Int32.ofNat 0 by decide, if_false, mI_thrown HS, mF_thrown HS, mR_row HS, mR_image HS, mR_earlier HS, mR_trial HS, mR_acts HS, mI_hasImage HS, mF_hasImage HS, mI_remembered HS, mF_remembered HS, mR_tape HS, mI_taped HS, mF_taped HS, mI_point HS, mF_point HS, mI_end HS, mF_end HS, mI_begin HS, mF_begin HS, mI_deep HS, mF_deep HS, mI_faultAt HS, mF_faultAt HS, mR_five HS, mI_codes HS, mF_codes HS, mR_value HS, mI_so HS, mF_so HS, mR_lines HS, mR_chosen HS, mR_best HS, mR_members HS, mR_paired HS, mO HS, mA_287 HS, mW_287 HS, mA_288 HS, mW_288 HS, mA_289 HS, mW_289 HS, mA_290 HS, mW_290 HS, mA_291 HS, mW_291 HS, mA_292 HS, mW_292 HS, mA_293 HS, mW_293 HS, mA_294 HS, mW_294 HS, mA_295 HS, mW_295 HS, mA_296 HS, mW_296 HS, mA_297 HS, mW_297 HS, mA_298 HS, mW_298 HS, mA_299 HS, mW_299 HS]
    refine k223 hw HS tb tr1 (by decide) hhb ?_ ?_
    · intro v p' D2 hN m2 tr2 f2
      have vb := num_some hN tr1.le.1
      simp only [hN] at ky
      simp only [wi_some, or_0, or_1, bo_or, ite_boP, true_and, and_true, kN_v, kN_n, kT_v, kT_n, kT_e, Nat.add_zero, Nat.zero_add, b225_16 hw, oN_nn (show v < 2147483648 by omega), if_false, b225_30 hw]
      exact ky (some v) p' D2 rfl (m1.tr m2) tr2
    · intro D2 hN m2 rb2 f2
      simp only [hN] at kf
      simp only [wi_some, or_0, or_1, bo_or, ite_boP, true_and, and_true, kN_v, kN_n, kT_v, kT_n, kT_e, Nat.add_zero, Nat.zero_add, b225_16 hw, show (-1 : Int32) < Int32.ofNat 0 by decide, if_true, b225_30 hw]
      exact kf _ D2 rfl (m1.tr m2) f2
  · intro D1 hW m1 tr1 f1
    simp only [hW] at ky
    simp only [wi_some, or_0, or_1, bo_or, ite_boP, true_and, and_true, kN_v, kN_n, kT_v, kT_n, kT_e, Nat.add_zero, Nat.zero_add, b225_5 hw, if_true]
    exact ky none p D1 rfl m1 tr1
end CB2
