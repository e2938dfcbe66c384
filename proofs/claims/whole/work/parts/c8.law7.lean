/-! ===== texts of THE LAW: the reference reads ===== -/
def LQr (D : sD) (cs : List Int32) : Prop := D 286 16 = Int32.ofNat cs.length ∧ ∀ i, i < cs.length → D 287 (1250 + 2 * i) = rcS (cs.getD i 0) ∧ (cs.getD i 0 < Int32.ofNat 1000 → D 287 (1250 + 2 * i + 1) = cs.getD i 0)
def ML (D D' : sD) : Prop := ∀ e i, ¬ (e = 286 ∧ (i = 10 ∨ i = 12 ∨ i = 13 ∨ i = 16)) → ¬ (e = 287 ∧ 1250 ≤ i) → D' e i = D e i
theorem ML.rf {D : sD} : ML D D := fun _ _ _ _ => rfl
theorem ML.tr {D D' D'' : sD} (h : ML D D') (h' : ML D' D'') : ML D D'' := fun e i h1 h2 => (h' e i h1 h2).trans (h e i h1 h2)
theorem M1.ml {D D' : sD} (h : M1 D D') : ML D D' := fun e i h1 _ => h e i (by omega)
theorem ML.u6 {D : sD} {i : Nat} {v : Int32} (h : i = 10 ∨ i = 12 ∨ i = 13 ∨ i = 16) : ML D (u2 D 286 i v) := fun e j h1 _ => by rw [u2_at, if_neg (by omega)]
theorem LQr.m1 {D D' : sD} {cs : List Int32} (h : LQr D cs) (f : M1 D D') : LQr D' cs := ⟨by rw [f 286 16 (by omega)]; exact h.1, fun i hi => by rw [f 287 _ (by omega), f 287 _ (by omega)]; exact h.2 i hi⟩
/-- where the reference stands: the tape, what is told, how deep -/
def XR (b : Nat → Nat) (n e : Nat) (D : sD) (p : Nat) (cs : List Int32) : Prop := TpR b n D p ∧ LQr D cs ∧ D 286 13 = Int32.ofNat e
theorem XR.m1 {b : Nat → Nat} {n e p p' : Nat} {cs : List Int32} {D D' : sD} (h : XR b n e D p cs) (f : M1 D D') (t : TpR b n D' p') : XR b n e D' p' cs := ⟨t, h.2.1.m1 f, by rw [f 286 13 (by omega)]; exact h.2.2⟩
def pt (D : sD) (m : Nat) (x y : Int32) : sD := u2 (u2 (u2 D 287 (1250 + 2 * m) x) 287 (1250 + 2 * m + 1) y) 286 16 (Int32.ofNat (m + 1))
theorem pt_ml {D : sD} {m : Nat} {x y : Int32} : ML D (pt D m x y) := fun e j h1 h2 => by
  unfold pt
  rw [u2_at, if_neg (by omega), u2_at, if_neg (by omega), u2_at, if_neg (by omega)]
theorem pt_12 {D : sD} {m i : Nat} {x y : Int32} (hi : i ≠ 16) : pt D m x y 286 i = D 286 i := by
  unfold pt
  rw [u2_at, if_neg (by omega), u2_at, if_neg (by omega), u2_at, if_neg (by omega)]
theorem TpR.pt {b : Nat → Nat} {n p m : Nat} {x y : Int32} {D : sD} (h : TpR b n D p) : TpR b n (pt D m x y) p := by
  obtain ⟨⟨h1, h2⟩, q, h3, h4, h5⟩ := h
  exact ⟨⟨by rw [pt_12 (by decide)]; exact h1, fun i hi => by rw [pt_ml 292 i (by omega) (by omega)]; exact h2 i hi⟩, q, h3, h4, by rw [pt_12 (by decide)]; exact h5⟩
theorem TpR.u6 {b : Nat → Nat} {n p i : Nat} {v : Int32} {D : sD} (h : TpR b n D p) (hi : i ≠ 10) (hi' : i ≠ 11) : TpR b n (u2 D 286 i v) p := by
  obtain ⟨⟨h1, h2⟩, q, h3, h4, h5⟩ := h
  exact ⟨⟨by rw [u2_at, if_neg (by omega)]; exact h1, fun i hi => by rw [u2_at, if_neg (by omega)]; exact h2 i hi⟩, q, h3, h4, by rw [u2_at, if_neg (by omega)]; exact h5⟩
theorem XR.pt {b : Nat → Nat} {n e p : Nat} {cs : List Int32} {D : sD} {v x y : Int32} (h : XR b n e D p cs) (hx : x = rcS v) (hy : v < Int32.ofNat 1000 → y = v) : XR b n e (pt D cs.length x y) p (cs ++ [v]) := by
  refine ⟨h.1.pt, ⟨?_, fun i hi => ?_⟩, by rw [pt_12 (by decide)]; exact h.2.2⟩
  · unfold Jvm.Pilot.CSinglesPastLaw_law_r9690_1255d5.pt
    rw [u2_at, if_pos ⟨rfl, rfl⟩, List.length_append, List.length_singleton]
  · rw [List.length_append, List.length_singleton] at hi
    rw [getD_app]
    by_cases e' : i = cs.length
    · subst e'
      rw [if_neg (by omega), if_pos rfl]
      unfold Jvm.Pilot.CSinglesPastLaw_law_r9690_1255d5.pt
      refine ⟨?_, fun hv => ?_⟩
      · rw [u2_at, if_neg (by omega), u2_at, if_neg (by omega), u2_at, if_pos ⟨rfl, rfl⟩]; exact hx
      · rw [u2_at, if_neg (by omega), u2_at, if_pos ⟨rfl, rfl⟩]; exact hy hv
    · rw [if_pos (by omega)]
      have := h.2.1.2 i (by omega)
      unfold Jvm.Pilot.CSinglesPastLaw_law_r9690_1255d5.pt
      refine ⟨?_, fun hv => ?_⟩
      · rw [u2_at, if_neg (by omega), u2_at, if_neg (by omega), u2_at, if_neg (by omega)]; exact this.1
      · rw [u2_at, if_neg (by omega), u2_at, if_neg (by omega), u2_at, if_neg (by omega)]; exact this.2 hv
section RW0
variable {b : Nat → Nat} {n p : Nat}
theorem oneF_hit {w : List Nat} {ws : List (List Nat)} {k : Nat} (h : isW b n w p = true) : oneF b n (w :: ws) k p = some (k, sk b n (le b n p)) := by
  unfold oneF; rw [if_pos h, (isW_iff.mp h).1]
theorem oneF_miss {w : List Nat} {ws : List (List Nat)} {k : Nat} (h : isW b n w p = false) : oneF b n (w :: ws) k p = oneF b n ws (k + 1) p := by
  conv => lhs; unfold oneF
  rw [h]; rfl
theorem oneF_le : ∀ (ws : List (List Nat)) (k : Nat), (∀ w, w ∈ ws → 1 ≤ w.length) → le b n p = p → oneF b n ws k p = none
  | [], _, _, _ => rfl
  | w :: ws, k, h, e => by
    have hW : isW b n w p = false := by
      cases hW : isW b n w p with
      | false => rfl
      | true =>
        have := (isW_iff.mp hW).1
        have := h w (List.mem_cons_self ..)
        omega
    rw [oneF_miss hW]
    exact oneF_le ws (k + 1) (fun w hw => h w (List.mem_cons_of_mem _ hw)) e
theorem num_le {lo hb : Nat} (h : le b n p ≠ p) : num b n lo hb p = none := by
  have hl : isB b n 97 122 p = true := by
    cases e : isB b n 97 122 p with
    | true => rfl
    | false => exact absurd (ru_self e) h
  have hd : de b n p = p := by
    apply ru_self
    cases e : isB b n 48 57 p with
    | false => rfl
    | true => have := isB_iff.mp e; have := isB_iff.mp hl; omega
  unfold num
  rw [if_pos (Or.inl hd)]
end RW0
theorem rcS_num {v : Nat} (hv : v < 1000) : (Int32.ofNat 10 : Int32) = rcS (Int32.ofNat v) := by
  unfold rcS; rw [if_pos (by rw [oN_lt (by omega) (by decide)]; exact hv)]
theorem rcS_nam {k : Nat} (hk : k < 10) : Int32.ofNat k = rcS (Int32.ofNat (1000 + k)) := by
  unfold rcS
  rw [if_neg (by rw [oN_lt (by omega) (by decide)]; omega), if_pos (by rw [oN_lt (by omega) (by decide)]; omega), oN_sub (by omega), show 1000 + k - 1000 = k by omega]
theorem nam_nn {k : Nat} (hk : k < 10) : ¬ Int32.ofNat (1000 + k) < Int32.ofNat 1000 := by rw [oN_lt (by omega) (by decide)]; omega
section CC8
variable {nx : Nat} {xs : Nat → Int32} {d c s : Nat} {sh : List sC} {D : sD} {Q : av_Q}
variable {b : Nat → Nat} {n p e : Nat} {cs : List Int32}
theorem k236 {x y : Int32} {m : Nat} (hw : WT sh) (HS : SP sh) (hm : m < 400) (e16 : D 286 16 = Int32.ofNat m) : Wx (tP nx xs) d 236 0 [some (.ref 286), (some (.int (x))), (some (.int (y)))] [] (mk sh D) c s Q = Q (.inl none) (mk sh (pt D m x y)) c s := by
  have b1 : 1250 + 2 * m < 2050 := by omega
  have b2 : 1250 + 2 * m + 1 < 2050 := by omega
  have t1 := oN_tn (show 1250 + 2 * m < 2147483648 by omega)
  have t2 := oN_tn (show 1250 + 2 * m + 1 < 2147483648 by omega)
  have e2 : ∀ v, u2 D 287 (1250 + 2 * m) v 286 16 = Int32.ofNat m := fun v => by rw [u2_at, if_neg (by omega)]; exact e16
  have e3 : ∀ v v', u2 (u2 D 287 (1250 + 2 * m) v) 287 (1250 + 2 * m + 1) v' 286 16 = Int32.ofNat m := fun v v' => by rw [u2_at, if_neg (by omega)]; exact e2 v
  simp only [b236_0 hw, mI_thrown HS, mF_thrown HS, mR_row HS, mR_image HS, mR_earlier HS, mR_trial HS, mR_acts HS, mI_hasImage HS, mF_hasImage HS, mI_remembered HS, mF_remembered HS, mR_tape HS, mI_taped HS, mF_taped HS, mI_point HS, mF_point HS, mI_end HS, mF_end HS, mI_begin HS, mF_begin HS, mI_deep HS, mF_deep HS, mI_faultAt HS, mF_faultAt HS, mR_five HS, mI_codes HS, mF_codes HS, mR_value HS, mI_so HS, mF_so HS, mR_lines HS, mR_chosen HS, mR_best HS, mR_members HS, mR_paired HS, mO HS, mA_287 HS, mW_287 HS, mA_288 HS, mW_288 HS, mA_289 HS, mW_289 HS, mA_290 HS, mW_290 HS, mA_291 HS, mW_291 HS, mA_292 HS, mW_292 HS, mA_293 HS, mW_293 HS, mA_294 HS, mW_294 HS, mA_295 HS, mW_295 HS, mA_296 HS, mW_296 HS, mA_297 HS, mW_297 HS, mA_298 HS, mW_298 HS, mA_299 HS, mW_299 HS, wi_some, or_0, or_1, bo_or, ite_boP, true_and, and_true, kN_v, kN_n, kT_v, kT_n, kT_e, Nat.add_zero, Nat.zero_add, e16, oN_add, oN_mul, b1, t1, b236_16 hw, e2, b2, t2, b236_34 hw, e3, b236_44 hw]
  rfl
theorem k237 (hw : WT sh) (HS : SP sh) (tb : TB b n) (rb : RB b n D) (hp : p ≤ n) (e10 : D 286 10 = Int32.ofNat (le b n p)) (e12 : D 286 12 = Int32.ofNat p)
    (ky : ∀ k p', oneF b n nmWs 0 p = some (k, p') → sk b n (le b n p) = p' → Q (.inl (some (.int (Int32.ofNat k)))) (mk sh D) c s)
    (kn : oneF b n nmWs 0 p = none → Q (.inl (some (.int (-1)))) (mk sh D) c s) :
    Wx (tP nx xs) (d + 1) 237 0 [some (.ref 286)] [] (mk sh D) c s Q := by
  have n10 : ¬ (Int32.ofNat 1 : Int32) = Int32.ofNat 0 := by decide
  have w1 := fun (nx : Nat) (xs : Nat → Int32) (c s : Nat) (Q : av_Q) => k220 (nx := nx) (xs := xs) (d := d) (c := c) (s := s) (Q := Q) (i := 47) (w := wGoer) hw HS tb rb hp e10 e12 (by decide) (by decide +kernel) (by decide +kernel)
  have w2 := fun (nx : Nat) (xs : Nat → Int32) (c s : Nat) (Q : av_Q) => k220 (nx := nx) (xs := xs) (d := d) (c := c) (s := s) (Q := Q) (i := 65) (w := wWish) hw HS tb rb hp e10 e12 (by decide) (by decide +kernel) (by decide +kernel)
  have w3 := fun (nx : Nat) (xs : Nat → Int32) (c s : Nat) (Q : av_Q) => k220 (nx := nx) (xs := xs) (d := d) (c := c) (s := s) (Q := Q) (i := 49) (w := wMoney) hw HS tb rb hp e10 e12 (by decide) (by decide +kernel) (by decide +kernel)
  have w4 := fun (nx : Nat) (xs : Nat → Int32) (c s : Nat) (Q : av_Q) => k220 (nx := nx) (xs := xs) (d := d) (c := c) (s := s) (Q := Q) (i := 50) (w := wNerve) hw HS tb rb hp e10 e12 (by decide) (by decide +kernel) (by decide +kernel)
  have w5 := fun (nx : Nat) (xs : Nat → Int32) (c s : Nat) (Q : av_Q) => k220 (nx := nx) (xs := xs) (d := d) (c := c) (s := s) (Q := Q) (i := 55) (w := wTrain) hw HS tb rb hp e10 e12 (by decide) (by decide +kernel) (by decide +kernel)
  have w6 := fun (nx : Nat) (xs : Nat → Int32) (c s : Nat) (Q : av_Q) => k220 (nx := nx) (xs := xs) (d := d) (c := c) (s := s) (Q := Q) (i := 66) (w := wGone) hw HS tb rb hp e10 e12 (by decide) (by decide +kernel) (by decide +kernel)
  have w7 := fun (nx : Nat) (xs : Nat → Int32) (c s : Nat) (Q : av_Q) => k220 (nx := nx) (xs := xs) (d := d) (c := c) (s := s) (Q := Q) (i := 58) (w := wDay) hw HS tb rb hp e10 e12 (by decide) (by decide +kernel) (by decide +kernel)
  unfold nmWs at ky kn
  simp only [b237_0 hw, mI_thrown HS, mF_thrown HS, mR_row HS, mR_image HS, mR_earlier HS, mR_trial HS, mR_acts HS, mI_hasImage HS, mF_hasImage HS, mI_remembered HS, mF_remembered HS, mR_tape HS, mI_taped HS, mF_taped HS, mI_point HS, mF_point HS, mI_end HS, mF_end HS, mI_begin HS, mF_begin HS, mI_deep HS, mF_deep HS, mI_faultAt HS, mF_faultAt HS, mR_five HS, mI_codes HS, mF_codes HS, mR_value HS, mI_so HS, mF_so HS, mR_lines HS, mR_chosen HS, mR_best HS, mR_members HS, mR_paired HS, mO HS, mA_287 HS, mW_287 HS, mA_288 HS, mW_288 HS, mA_289 HS, mW_289 HS, mA_290 HS, mW_290 HS, mA_291 HS, mW_291 HS, mA_292 HS, mW_292 HS, mA_293 HS, mW_293 HS, mA_294 HS, mW_294 HS, mA_295 HS, mW_295 HS, mA_296 HS, mW_296 HS, mA_297 HS, mW_297 HS, mA_298 HS, mW_298 HS, mA_299 HS, mW_299 HS, wi_some, or_0, or_1, bo_or, ite_boP, true_and, and_true, kN_v, kN_n, kT_v, kT_n, kT_e, Nat.add_zero, Nat.zero_add]
  rw [w1]
  simp only [wi_some, or_0, or_1, bo_or, ite_boP, true_and, and_true, kN_v, kN_n, kT_v, kT_n, kT_e, Nat.add_zero, Nat.zero_add, b237_6 hw]
  cases h1 : isW b n wGoer p with
  | true => simp only [bo_t, n10, if_false]; exact ky 0 _ (oneF_hit h1) rfl
  | false =>
    rw [oneF_miss h1] at ky kn
    simp only [bo_f, if_true, mI_thrown HS, mF_thrown HS, mR_row HS, mR_image HS, mR_earlier HS, mR_trial HS, mR_acts HS, mI_hasImage HS, mF_hasImage HS, mI_remembered HS, mF_remembered HS, mR_tape HS, mI_taped HS, mF_taped HS, mI_point HS, mF_point HS, mI_end HS, mF_end HS, mI_begin HS, mF_begin HS, mI_deep HS, mF_deep HS, mI_faultAt HS, mF_faultAt HS, mR_five HS, mI_codes HS, mF_codes HS, mR_value HS, mI_so HS, mF_so HS, mR_lines HS, mR_chosen HS, mR_best HS, mR_members HS, mR_paired HS, mO HS, mA_287 HS, mW_287 HS, mA_288 HS, mW_288 HS, mA_289 HS, mW_289 HS, mA_290 HS, mW_290 HS, mA_291 HS, mW_291 HS, mA_292 HS, mW_292 HS, mA_293 HS, mW_293 HS, mA_294 HS, mW_294 HS, mA_295 HS, mW_295 HS, mA_296 HS, mW_296 HS, mA_297 HS, mW_297 HS, mA_298 HS, mW_298 HS, mA_299 HS, mW_299 HS, wi_some, or_0, or_1, bo_or, ite_boP, true_and, and_true, kN_v, kN_n, kT_v, kT_n, kT_e, Nat.add_zero, Nat.zero_add]
    rw [w2]
    simp only [wi_some, or_0, or_1, bo_or, ite_boP, true_and, and_true, kN_v, kN_n, kT_v, kT_n, kT_e, Nat.add_zero, Nat.zero_add, b237_17 hw]
    cases h2 : isW b n wWish p with
    | true => simp only [bo_t, n10, if_false]; exact ky 1 _ (oneF_hit h2) rfl
    | false =>
      rw [oneF_miss h2] at ky kn
      simp only [bo_f, if_true, mI_thrown HS, mF_thrown HS, mR_row HS, mR_image HS, mR_earlier HS, mR_trial HS, mR_acts HS, mI_hasImage HS, mF_hasImage HS, mI_remembered HS, mF_remembered HS, mR_tape HS, mI_taped HS, mF_taped HS, mI_point HS, mF_point HS, mI_end HS, mF_end HS, mI_begin HS, mF_begin HS, mI_deep HS, mF_deep HS, mI_faultAt HS, mF_faultAt HS, mR_five HS, mI_codes HS, mF_codes HS, mR_value HS, mI_so HS, mF_so HS, mR_lines HS, mR_chosen HS, mR_best HS, mR_members HS, mR_paired HS, mO HS, mA_287 HS, mW_287 HS, mA_288 HS, mW_288 HS, mA_289 HS, mW_289 HS, mA_290 HS, mW_290 HS, mA_291 HS, mW_291 HS, mA_292 HS, mW_292 HS, mA_293 HS, mW_293 HS, mA_294 HS, mW_294 HS, mA_295 HS, mW_295 HS, mA_296 HS, mW_296 HS, mA_297 HS, mW_297 HS, mA_298 HS, mW_298 HS, mA_299 HS, mW_299 HS, wi_some, or_0, or_1, bo_or, ite_boP, true_and, and_true, kN_v, kN_n, kT_v, kT_n, kT_e, Nat.add_zero, Nat.zero_add]
      rw [w3]
      simp only [wi_some, or_0, or_1, bo_or, ite_boP, true_and, and_true, kN_v, kN_n, kT_v, kT_n, kT_e, Nat.add_zero, Nat.zero_add, b237_28 hw]
      cases h3 : isW b n wMoney p with
      | true => simp only [bo_t, n10, if_false]; exact ky 2 _ (oneF_hit h3) rfl
      | false =>
        rw [oneF_miss h3] at ky kn
        simp only [bo_f, if_true, mI_thrown HS, mF_thrown HS, mR_row HS, mR_image HS, mR_earlier HS, mR_trial HS, mR_acts HS, mI_hasImage HS, mF_hasImage HS, mI_remembered HS, mF_remembered HS, mR_tape HS, mI_taped HS, mF_taped HS, mI_point HS, mF_point HS, mI_end HS, mF_end HS, mI_begin HS, mF_begin HS, mI_deep HS, mF_deep HS, mI_faultAt HS, mF_faultAt HS, mR_five HS, mI_codes HS, mF_codes HS, mR_value HS, mI_so HS, mF_so HS, mR_lines HS, mR_chosen HS, mR_best HS, mR_members HS, mR_paired HS, mO HS, mA_287 HS, mW_287 HS, mA_288 HS, mW_288 HS, mA_289 HS, mW_289 HS, mA_290 HS, mW_290 HS, mA_291 HS, mW_291 HS, mA_292 HS, mW_292 HS, mA_293 HS, mW_293 HS, mA_294 HS, mW_294 HS, mA_295 HS, mW_295 HS, mA_296 HS, mW_296 HS, mA_297 HS, mW_297 HS, mA_298 HS, mW_298 HS, mA_299 HS, mW_299 HS, wi_some, or_0, or_1, bo_or, ite_boP, true_and, and_true, kN_v, kN_n, kT_v, kT_n, kT_e, Nat.add_zero, Nat.zero_add]
        rw [w4]
        simp only [wi_some, or_0, or_1, bo_or, ite_boP, true_and, and_true, kN_v, kN_n, kT_v, kT_n, kT_e, Nat.add_zero, Nat.zero_add, b237_39 hw]
        cases h4 : isW b n wNerve p with
        | true => simp only [bo_t, n10, if_false]; exact ky 3 _ (oneF_hit h4) rfl
        | false =>
          rw [oneF_miss h4] at ky kn
          simp only [bo_f, if_true, mI_thrown HS, mF_thrown HS, mR_row HS, mR_image HS, mR_earlier HS, mR_trial HS, mR_acts HS, mI_hasImage HS, mF_hasImage HS, mI_remembered HS, mF_remembered HS, mR_tape HS, mI_taped HS, mF_taped HS, mI_point HS, mF_point HS, mI_end HS, mF_end HS, mI_begin HS, mF_begin HS, mI_deep HS, mF_deep HS, mI_faultAt HS, mF_faultAt HS, mR_five HS, mI_codes HS, mF_codes HS, mR_value HS, mI_so HS, mF_so HS, mR_lines HS, mR_chosen HS, mR_best HS, mR_members HS, mR_paired HS, mO HS, mA_287 HS, mW_287 HS, mA_288 HS, mW_288 HS, mA_289 HS, mW_289 HS, mA_290 HS, mW_290 HS, mA_291 HS, mW_291 HS, mA_292 HS, mW_292 HS, mA_293 HS, mW_293 HS, mA_294 HS, mW_294 HS, mA_295 HS, mW_295 HS, mA_296 HS, mW_296 HS, mA_297 HS, mW_297 HS, mA_298 HS, mW_298 HS, mA_299 HS, mW_299 HS, wi_some, or_0, or_1, bo_or, ite_boP, true_and, and_true, kN_v, kN_n, kT_v, kT_n, kT_e, Nat.add_zero, Nat.zero_add]
          rw [w5]
          simp only [wi_some, or_0, or_1, bo_or, ite_boP, true_and, and_true, kN_v, kN_n, kT_v, kT_n, kT_e, Nat.add_zero, Nat.zero_add, b237_50 hw]
          cases h5 : isW b n wTrain p with
          | true => simp only [bo_t, n10, if_false]; exact ky 4 _ (oneF_hit h5) rfl
          | false =>
            rw [oneF_miss h5] at ky kn
            simp only [bo_f, if_true, mI_thrown HS, mF_thrown HS, mR_row HS, mR_image HS, mR_earlier HS, mR_trial HS, mR_acts HS, mI_hasImage HS, mF_hasImage HS, mI_remembered HS, mF_remembered HS, mR_tape HS, mI_taped HS, mF_taped HS, mI_point HS, mF_point HS, mI_end HS, mF_end HS, mI_begin HS, mF_begin HS, mI_deep HS, mF_deep HS, mI_faultAt HS, mF_faultAt HS, mR_five HS, mI_codes HS, mF_codes HS, mR_value HS, mI_so HS, mF_so HS, mR_lines HS, mR_chosen HS, mR_best HS, mR_members HS, mR_paired HS, mO HS, mA_287 HS, mW_287 HS, mA_288 HS, mW_288 HS, mA_289 HS, mW_289 HS, mA_290 HS, mW_290 HS, mA_291 HS, mW_291 HS, mA_292 HS, mW_292 HS, mA_293 HS, mW_293 HS, mA_294 HS, mW_294 HS, mA_295 HS, mW_295 HS, mA_296 HS, mW_296 HS, mA_297 HS, mW_297 HS, mA_298 HS, mW_298 HS, mA_299 HS, mW_299 HS, wi_some, or_0, or_1, bo_or, ite_boP, true_and, and_true, kN_v, kN_n, kT_v, kT_n, kT_e, Nat.add_zero, Nat.zero_add]
            rw [w6]
            simp only [wi_some, or_0, or_1, bo_or, ite_boP, true_and, and_true, kN_v, kN_n, kT_v, kT_n, kT_e, Nat.add_zero, Nat.zero_add, b237_61 hw]
            cases h6 : isW b n wGone p with
            | true => simp only [bo_t, n10, if_false]; exact ky 5 _ (oneF_hit h6) rfl
            | false =>
              rw [oneF_miss h6] at ky kn
              simp only [bo_f, if_true, mI_thrown HS, mF_thrown HS, mR_row HS, mR_image HS, mR_earlier HS, mR_trial HS, mR_acts HS, mI_hasImage HS, mF_hasImage HS, mI_remembered HS, mF_remembered HS, mR_tape HS, mI_taped HS, mF_taped HS, mI_point HS, mF_point HS, mI_end HS, mF_end HS, mI_begin HS, mF_begin HS, mI_deep HS, mF_deep HS, mI_faultAt HS, mF_faultAt HS, mR_five HS, mI_codes HS, mF_codes HS, mR_value HS, mI_so HS, mF_so HS, mR_lines HS, mR_chosen HS, mR_best HS, mR_members HS, mR_paired HS, mO HS, mA_287 HS, mW_287 HS, mA_288 HS, mW_288 HS, mA_289 HS, mW_289 HS, mA_290 HS, mW_290 HS, mA_291 HS, mW_291 HS, mA_292 HS, mW_292 HS, mA_293 HS, mW_293 HS, mA_294 HS, mW_294 HS, mA_295 HS, mW_295 HS, mA_296 HS, mW_296 HS, mA_297 HS, mW_297 HS, mA_298 HS, mW_298 HS, mA_299 HS, mW_299 HS, wi_some, or_0, or_1, bo_or, ite_boP, true_and, and_true, kN_v, kN_n, kT_v, kT_n, kT_e, Nat.add_zero, Nat.zero_add]
              rw [w7]
              simp only [wi_some, or_0, or_1, bo_or, ite_boP, true_and, and_true, kN_v, kN_n, kT_v, kT_n, kT_e, Nat.add_zero, Nat.zero_add, b237_72 hw, b237_81 hw]
              cases h7 : isW b n wDay p with
              | true => simp only [bo_t, n10, if_false]; exact ky 6 _ (oneF_hit h7) rfl
              | false =>
                rw [oneF_miss h7] at kn
                trace_state
                exact kn rfl
theorem k238 (hw : WT sh) (HS : SP sh) (tb : TB b n) (x0 : XR b n e D p cs) (hl : cs.length < 400)
    (kf : ∀ f D', paS b n p cs = .inl f → ML D D' → D' 286 12 = Int32.ofNat f → Q (.inl (some (.int (Int32.ofNat 0)))) (mk sh D') c s)
    (ky : ∀ p' c' D', paS b n p cs = .inr (p', c') → ML D D' → XR b n e D' p' c' → Q (.inl (some (.int (Int32.ofNat 1)))) (mk sh D') c s) :
    Wx (tP nx xs) (d + 3) 238 0 [some (.ref 286), none, none] [] (mk sh D) c s Q := by
  have n10 : ¬ (Int32.ofNat 1 : Int32) = Int32.ofNat 0 := by decide
  have nm1 : (-1 : Int32) < Int32.ofNat 0 := by decide
  have hn := tb.1
  have hp := x0.1.le
  have l1 : le b n p ≤ n := ru_le hp.1
  unfold paS at kf ky
  simp only [b238_0 hw, mI_thrown HS, mF_thrown HS, mR_row HS, mR_image HS, mR_earlier HS, mR_trial HS, mR_acts HS, mI_hasImage HS, mF_hasImage HS, mI_remembered HS, mF_remembered HS, mR_tape HS, mI_taped HS, mF_taped HS, mI_point HS, mF_point HS, mI_end HS, mF_end HS, mI_begin HS, mF_begin HS, mI_deep HS, mF_deep HS, mI_faultAt HS, mF_faultAt HS, mR_five HS, mI_codes HS, mF_codes HS, mR_value HS, mI_so HS, mF_so HS, mR_lines HS, mR_chosen HS, mR_best HS, mR_members HS, mR_paired HS, mO HS, mA_287 HS, mW_287 HS, mA_288 HS, mW_288 HS, mA_289 HS, mW_289 HS, mA_290 HS, mW_290 HS, mA_291 HS, mW_291 HS, mA_292 HS, mW_292 HS, mA_293 HS, mW_293 HS, mA_294 HS, mW_294 HS, mA_295 HS, mW_295 HS, mA_296 HS, mW_296 HS, mA_297 HS, mW_297 HS, mA_298 HS, mW_298 HS, mA_299 HS, mW_299 HS, wi_some, or_0, or_1, bo_or, ite_boP, true_and, and_true, kN_v, kN_n, kT_v, kT_n, kT_e, Nat.add_zero, Nat.zero_add]
  refine k219 hw HS tb x0.1 ?_
  intro D1 m1 rb1 e10 e12
  have q1 := x0.2.1.m1 m1
  have y1 : D1 286 13 = Int32.ofNat e := by rw [m1 286 13 (by omega)]; exact x0.2.2
  simp only [wi_some, or_0, or_1, bo_or, ite_boP, true_and, and_true, kN_v, kN_n, kT_v, kT_n, kT_e, Nat.add_zero, Nat.zero_add, b238_4 hw, mI_thrown HS, mF_thrown HS, mR_row HS, mR_image HS, mR_earlier HS, mR_trial HS, mR_acts HS, mI_hasImage HS, mF_hasImage HS, mI_remembered HS, mF_remembered HS, mR_tape HS, mI_taped HS, mF_taped HS, mI_point HS, mF_point HS, mI_end HS, mF_end HS, mI_begin HS, mF_begin HS, mI_deep HS, mF_deep HS, mI_faultAt HS, mF_faultAt HS, mR_five HS, mI_codes HS, mF_codes HS, mR_value HS, mI_so HS, mF_so HS, mR_lines HS, mR_chosen HS, mR_best HS, mR_members HS, mR_paired HS, mO HS, mA_287 HS, mW_287 HS, mA_288 HS, mW_288 HS, mA_289 HS, mW_289 HS, mA_290 HS, mW_290 HS, mA_291 HS, mW_291 HS, mA_292 HS, mW_292 HS, mA_293 HS, mW_293 HS, mA_294 HS, mW_294 HS, mA_295 HS, mW_295 HS, mA_296 HS, mW_296 HS, mA_297 HS, mW_297 HS, mA_298 HS, mW_298 HS, mA_299 HS, mW_299 HS, e10, e12, oN_eq (show le b n p < 2147483648 by omega) (show p < 2147483648 by omega)]
  by_cases hle : le b n p = p
  · have t1 : TpR b n D1 p := TpR.of rb1 M1.rf hp.1 hp.2 (by rw [e10, hle])
    simp only [hle, if_true, b238_20 hw, n10, if_false, mI_thrown HS, mF_thrown HS, mR_row HS, mR_image HS, mR_earlier HS, mR_trial HS, mR_acts HS, mI_hasImage HS, mF_hasImage HS, mI_remembered HS, mF_remembered HS, mR_tape HS, mI_taped HS, mF_taped HS, mI_point HS, mF_point HS, mI_end HS, mF_end HS, mI_begin HS, mF_begin HS, mI_deep HS, mF_deep HS, mI_faultAt HS, mF_faultAt HS, mR_five HS, mI_codes HS, mF_codes HS, mR_value HS, mI_so HS, mF_so HS, mR_lines HS, mR_chosen HS, mR_best HS, mR_members HS, mR_paired HS, mO HS, mA_287 HS, mW_287 HS, mA_288 HS, mW_288 HS, mA_289 HS, mW_289 HS, mA_290 HS, mW_290 HS, mA_291 HS, mW_291 HS, mA_292 HS, mW_292 HS, mA_293 HS, mW_293 HS, mA_294 HS, mW_294 HS, mA_295 HS, mW_295 HS, mA_296 HS, mW_296 HS, mA_297 HS, mW_297 HS, mA_298 HS, mW_298 HS, mA_299 HS, mW_299 HS, wi_some, or_0, or_1, bo_or, ite_boP, true_and, and_true, kN_v, kN_n, kT_v, kT_n, kT_e, Nat.add_zero, Nat.zero_add]
    refine k223c hw HS tb t1 (by decide) (by decide) ?_ ?_
    · intro v p2 D2 hN m2 t2 e22
      obtain ⟨_, _, _, _, w5, _⟩ := num_some hN hp.1
      simp only [hN] at ky
      have x2 : XR b n e D2 p2 cs := ⟨t2, q1.m1 m2, by rw [m2 286 13 (by omega)]; exact y1⟩
      simp only [wi_some, or_0, or_1, bo_or, ite_boP, true_and, and_true, kN_v, kN_n, kT_v, kT_n, kT_e, Nat.add_zero, Nat.zero_add, b238_33 hw, b238_40 hw, n10, if_false, b238_52 hw, b238_61 hw, mI_thrown HS, mF_thrown HS, mR_row HS, mR_image HS, mR_earlier HS, mR_trial HS, mR_acts HS, mI_hasImage HS, mF_hasImage HS, mI_remembered HS, mF_remembered HS, mR_tape HS, mI_taped HS, mF_taped HS, mI_point HS, mF_point HS, mI_end HS, mF_end HS, mI_begin HS, mF_begin HS, mI_deep HS, mF_deep HS, mI_faultAt HS, mF_faultAt HS, mR_five HS, mI_codes HS, mF_codes HS, mR_value HS, mI_so HS, mF_so HS, mR_lines HS, mR_chosen HS, mR_best HS, mR_members HS, mR_paired HS, mO HS, mA_287 HS, mW_287 HS, mA_288 HS, mW_288 HS, mA_289 HS, mW_289 HS, mA_290 HS, mW_290 HS, mA_291 HS, mW_291 HS, mA_292 HS, mW_292 HS, mA_293 HS, mW_293 HS, mA_294 HS, mW_294 HS, mA_295 HS, mW_295 HS, mA_296 HS, mW_296 HS, mA_297 HS, mW_297 HS, mA_298 HS, mW_298 HS, mA_299 HS, mW_299 HS, k236 hw HS hl x2.2.1.1, b238_64 hw, oN_nn (show v < 2147483648 by omega), b238_73 hw]
      exact ky p2 _ _ rfl ((m1.tr m2).ml.tr pt_ml) (x2.pt (rcS_num w5) (fun _ => rfl))
    · intro D2 hN m2 rb2 e22
      simp only [hN, oneF_le nmWs 0 nm_1 hle] at kf
      have x2 := q1.m1 m2
      simp only [wi_some, or_0, or_1, bo_or, ite_boP, true_and, and_true, kN_v, kN_n, kT_v, kT_n, kT_e, Nat.add_zero, Nat.zero_add, b238_33 hw, b238_40 hw, n10, if_false, b238_52 hw, b238_61 hw, mI_thrown HS, mF_thrown HS, mR_row HS, mR_image HS, mR_earlier HS, mR_trial HS, mR_acts HS, mI_hasImage HS, mF_hasImage HS, mI_remembered HS, mF_remembered HS, mR_tape HS, mI_taped HS, mF_taped HS, mI_point HS, mF_point HS, mI_end HS, mF_end HS, mI_begin HS, mF_begin HS, mI_deep HS, mF_deep HS, mI_faultAt HS, mF_faultAt HS, mR_five HS, mI_codes HS, mF_codes HS, mR_value HS, mI_so HS, mF_so HS, mR_lines HS, mR_chosen HS, mR_best HS, mR_members HS, mR_paired HS, mO HS, mA_287 HS, mW_287 HS, mA_288 HS, mW_288 HS, mA_289 HS, mW_289 HS, mA_290 HS, mW_290 HS, mA_291 HS, mW_291 HS, mA_292 HS, mW_292 HS, mA_293 HS, mW_293 HS, mA_294 HS, mW_294 HS, mA_295 HS, mW_295 HS, mA_296 HS, mW_296 HS, mA_297 HS, mW_297 HS, mA_298 HS, mW_298 HS, mA_299 HS, mW_299 HS, k236 hw HS hl x2.1, b238_64 hw, nm1, if_true, b238_73 hw]
      exact kf p _ rfl ((m1.tr m2).ml.tr pt_ml) (by rw [pt_12 (by decide)]; exact e22)
  · simp only [num_le hle] at kf ky
    simp only [hle, if_false, b238_20 hw, if_true, mI_thrown HS, mF_thrown HS, mR_row HS, mR_image HS, mR_earlier HS, mR_trial HS, mR_acts HS, mI_hasImage HS, mF_hasImage HS, mI_remembered HS, mF_remembered HS, mR_tape HS, mI_taped HS, mF_taped HS, mI_point HS, mF_point HS, mI_end HS, mF_end HS, mI_begin HS, mF_begin HS, mI_deep HS, mF_deep HS, mI_faultAt HS, mF_faultAt HS, mR_five HS, mI_codes HS, mF_codes HS, mR_value HS, mI_so HS, mF_so HS, mR_lines HS, mR_chosen HS, mR_best HS, mR_members HS, mR_paired HS, mO HS, mA_287 HS, mW_287 HS, mA_288 HS, mW_288 HS, mA_289 HS, mW_289 HS, mA_290 HS, mW_290 HS, mA_291 HS, mW_291 HS, mA_292 HS, mW_292 HS, mA_293 HS, mW_293 HS, mA_294 HS, mW_294 HS, mA_295 HS, mW_295 HS, mA_296 HS, mW_296 HS, mA_297 HS, mW_297 HS, mA_298 HS, mW_298 HS, mA_299 HS, mW_299 HS, wi_some, or_0, or_1, bo_or, ite_boP, true_and, and_true, kN_v, kN_n, kT_v, kT_n, kT_e, Nat.add_zero, Nat.zero_add]
    refine k237 hw HS tb rb1 hp.1 e10 e12 ?_ ?_
    · intro k p2 hO hs
      obtain ⟨_, a0, _⟩ := oneF_some nmWs 0 p k p2 hO hp.1 nm_1
      have a0 : k < 7 := by simpa [nmWs] using a0
      simp only [hO] at ky
      have t1 : TpR b n D1 p2 := TpR.of rb1 M1.rf l1 hs e10
      have x2 : XR b n e D1 p2 cs := ⟨t1, q1, y1⟩
      simp only [wi_some, or_0, or_1, bo_or, ite_boP, true_and, and_true, kN_v, kN_n, kT_v, kT_n, kT_e, Nat.add_zero, Nat.zero_add, b238_40 hw, if_true, b238_52 hw, b238_61 hw, mI_thrown HS, mF_thrown HS, mR_row HS, mR_image HS, mR_earlier HS, mR_trial HS, mR_acts HS, mI_hasImage HS, mF_hasImage HS, mI_remembered HS, mF_remembered HS, mR_tape HS, mI_taped HS, mF_taped HS, mI_point HS, mF_point HS, mI_end HS, mF_end HS, mI_begin HS, mF_begin HS, mI_deep HS, mF_deep HS, mI_faultAt HS, mF_faultAt HS, mR_five HS, mI_codes HS, mF_codes HS, mR_value HS, mI_so HS, mF_so HS, mR_lines HS, mR_chosen HS, mR_best HS, mR_members HS, mR_paired HS, mO HS, mA_287 HS, mW_287 HS, mA_288 HS, mW_288 HS, mA_289 HS, mW_289 HS, mA_290 HS, mW_290 HS, mA_291 HS, mW_291 HS, mA_292 HS, mW_292 HS, mA_293 HS, mW_293 HS, mA_294 HS, mW_294 HS, mA_295 HS, mW_295 HS, mA_296 HS, mW_296 HS, mA_297 HS, mW_297 HS, mA_298 HS, mW_298 HS, mA_299 HS, mW_299 HS, k236 hw HS hl x2.2.1.1, b238_64 hw, oN_nn (show k < 2147483648 by omega), if_false, b238_73 hw]
      exact ky p2 _ _ rfl (m1.ml.tr pt_ml) (x2.pt (rcS_nam (by omega)) (fun h => absurd h (nam_nn (by omega))))
    · intro hO
      simp only [hO] at kf
      simp only [wi_some, or_0, or_1, bo_or, ite_boP, true_and, and_true, kN_v, kN_n, kT_v, kT_n, kT_e, Nat.add_zero, Nat.zero_add, b238_40 hw, if_true, b238_52 hw, b238_61 hw, mI_thrown HS, mF_thrown HS, mR_row HS, mR_image HS, mR_earlier HS, mR_trial HS, mR_acts HS, mI_hasImage HS, mF_hasImage HS, mI_remembered HS, mF_remembered HS, mR_tape HS, mI_taped HS, mF_taped HS, mI_point HS, mF_point HS, mI_end HS, mF_end HS, mI_begin HS, mF_begin HS, mI_deep HS, mF_deep HS, mI_faultAt HS, mF_faultAt HS, mR_five HS, mI_codes HS, mF_codes HS, mR_value HS, mI_so HS, mF_so HS, mR_lines HS, mR_chosen HS, mR_best HS, mR_members HS, mR_paired HS, mO HS, mA_287 HS, mW_287 HS, mA_288 HS, mW_288 HS, mA_289 HS, mW_289 HS, mA_290 HS, mW_290 HS, mA_291 HS, mW_291 HS, mA_292 HS, mW_292 HS, mA_293 HS, mW_293 HS, mA_294 HS, mW_294 HS, mA_295 HS, mW_295 HS, mA_296 HS, mW_296 HS, mA_297 HS, mW_297 HS, mA_298 HS, mW_298 HS, mA_299 HS, mW_299 HS, k236 hw HS hl q1.1, b238_64 hw, nm1, b238_73 hw]
      exact kf p _ rfl (m1.ml.tr pt_ml) (by rw [pt_12 (by decide)]; exact e12)
theorem k239 (hw : WT sh) (HS : SP sh) (tb : TB b n) (x0 : XR b n e D p cs) (hl : cs.length + 3 ≤ p)
    (kf : ∀ f D', suS b n p cs = .inl f → ML D D' → D' 286 12 = Int32.ofNat f → Q (.inl (some (.int (Int32.ofNat 0)))) (mk sh D') c s)
    (ky : ∀ p' c' D', suS b n p cs = .inr (p', c') → ML D D' → XR b n e D' p' c' → Q (.inl (some (.int (Int32.ofNat 1)))) (mk sh D') c s) :
    Wx (tP nx xs) (d + 4) 239 0 [some (.ref 286)] [] (mk sh D) c s Q := by
  have n10 : ¬ (Int32.ofNat 1 : Int32) = Int32.ofNat 0 := by decide
  have hn := tb.1
  have hp := x0.1.le
  unfold suS at kf ky
  have lp : ∀ k p cs D1, n - p < k → ML D D1 → XR b n e D1 p cs → cs.length + 3 ≤ p →
      (∀ f D', moS b n k p cs = .inl f → ML D D' → D' 286 12 = Int32.ofNat f → Q (.inl (some (.int (Int32.ofNat 0)))) (mk sh D') c s) →
      (∀ p' c' D', moS b n k p cs = .inr (p', c') → ML D D' → XR b n e D' p' c' → Q (.inl (some (.int (Int32.ofNat 1)))) (mk sh D') c s) →
      Wx (tP nx xs) (d + 4) 239 9 [some (.ref 286)] [] (mk sh D1) c s Q := by
    intro k
    induction k with
    | zero => intro p cs D1 h; omega
    | succ k ih =>
      intro p cs D1 hk m1 x1 hl kf ky
      have hp := x1.1.le
      unfold moS at kf ky
      rw [b239_9 hw]
      simp only [mI_thrown HS, mF_thrown HS, mR_row HS, mR_image HS, mR_earlier HS, mR_trial HS, mR_acts HS, mI_hasImage HS, mF_hasImage HS, mI_remembered HS, mF_remembered HS, mR_tape HS, mI_taped HS, mF_taped HS, mI_point HS, mF_point HS, mI_end HS, mF_end HS, mI_begin HS, mF_begin HS, mI_deep HS, mF_deep HS, mI_faultAt HS, mF_faultAt HS, mR_five HS, mI_codes HS, mF_codes HS, mR_value HS, mI_so HS, mF_so HS, mR_lines HS, mR_chosen HS, mR_best HS, mR_members HS, mR_paired HS, mO HS, mA_287 HS, mW_287 HS, mA_288 HS, mW_288 HS, mA_289 HS, mW_289 HS, mA_290 HS, mW_290 HS, mA_291 HS, mW_291 HS, mA_292 HS, mW_292 HS, mA_293 HS, mW_293 HS, mA_294 HS, mW_294 HS, mA_295 HS, mW_295 HS, mA_296 HS, mW_296 HS, mA_297 HS, mW_297 HS, mA_298 HS, mW_298 HS, mA_299 HS, mW_299 HS, wi_some, or_0, or_1, bo_or, ite_boP, true_and, and_true, kN_v, kN_n, kT_v, kT_n, kT_e, Nat.add_zero, Nat.zero_add]
      refine k222 hw HS tb x1.1 (by decide) ?_ ?_
      · intro p2 D2 hS m2 t2 e2
        obtain ⟨_, _, _, s1, s2, _⟩ := sgn_some hS
        simp only [hS] at kf ky
        have x2 := x1.m1 m2 t2
        simp only [wi_some, or_0, or_1, bo_or, ite_boP, true_and, and_true, kN_v, kN_n, kT_v, kT_n, kT_e, Nat.add_zero, Nat.zero_add, b239_15 hw, n10, if_false, mI_thrown HS, mF_thrown HS, mR_row HS, mR_image HS, mR_earlier HS, mR_trial HS, mR_acts HS, mI_hasImage HS, mF_hasImage HS, mI_remembered HS, mF_remembered HS, mR_tape HS, mI_taped HS, mF_taped HS, mI_point HS, mF_point HS, mI_end HS, mF_end HS, mI_begin HS, mF_begin HS, mI_deep HS, mF_deep HS, mI_faultAt HS, mF_faultAt HS, mR_five HS, mI_codes HS, mF_codes HS, mR_value HS, mI_so HS, mF_so HS, mR_lines HS, mR_chosen HS, mR_best HS, mR_members HS, mR_paired HS, mO HS, mA_287 HS, mW_287 HS, mA_288 HS, mW_288 HS, mA_289 HS, mW_289 HS, mA_290 HS, mW_290 HS, mA_291 HS, mW_291 HS, mA_292 HS, mW_292 HS, mA_293 HS, mW_293 HS, mA_294 HS, mW_294 HS, mA_295 HS, mW_295 HS, mA_296 HS, mW_296 HS, mA_297 HS, mW_297 HS, mA_298 HS, mW_298 HS, mA_299 HS, mW_299 HS]
        refine k238 hw HS tb x2 (by omega) ?_ ?_
        · intro f D3 hP m3 e3
          simp only [hP] at kf
          simp only [wi_some, or_0, or_1, bo_or, ite_boP, true_and, and_true, kN_v, kN_n, kT_v, kT_n, kT_e, Nat.add_zero, Nat.zero_add, b239_22 hw, if_true]
          exact kf f D3 rfl ((m1.tr m2.ml).tr m3) e3
        · intro p3 c3 D3 hP m3 x3
          obtain ⟨g, _, _⟩ := paS_pg (b := b) (cs := cs) s2
          obtain ⟨a1, a2, new, a3, a4⟩ := g p3 c3 hP
          have h3 : c3.length + 4 ≤ p3 := by rw [a3, List.length_append]; omega
          simp only [hP] at kf ky
          simp only [wi_some, or_0, or_1, bo_or, ite_boP, true_and, and_true, kN_v, kN_n, kT_v, kT_n, kT_e, Nat.add_zero, Nat.zero_add, b239_22 hw, n10, if_false, mI_thrown HS, mF_thrown HS, mR_row HS, mR_image HS, mR_earlier HS, mR_trial HS, mR_acts HS, mI_hasImage HS, mF_hasImage HS, mI_remembered HS, mF_remembered HS, mR_tape HS, mI_taped HS, mF_taped HS, mI_point HS, mF_point HS, mI_end HS, mF_end HS, mI_begin HS, mF_begin HS, mI_deep HS, mF_deep HS, mI_faultAt HS, mF_faultAt HS, mR_five HS, mI_codes HS, mF_codes HS, mR_value HS, mI_so HS, mF_so HS, mR_lines HS, mR_chosen HS, mR_best HS, mR_members HS, mR_paired HS, mO HS, mA_287 HS, mW_287 HS, mA_288 HS, mW_288 HS, mA_289 HS, mW_289 HS, mA_290 HS, mW_290 HS, mA_291 HS, mW_291 HS, mA_292 HS, mW_292 HS, mA_293 HS, mW_293 HS, mA_294 HS, mW_294 HS, mA_295 HS, mW_295 HS, mA_296 HS, mW_296 HS, mA_297 HS, mW_297 HS, mA_298 HS, mW_298 HS, mA_299 HS, mW_299 HS, k236 hw HS (show c3.length < 400 by omega) x3.2.1.1, b239_34 hw]
          exact ih p3 _ _ (by omega) (((m1.tr m2.ml).tr m3).tr pt_ml) (x3.pt (by decide) (fun h => absurd h (by decide))) (by rw [List.length_append, List.length_singleton]; omega) kf ky
      · intro D2 hS m2 t2 e2
        simp only [hS] at ky
        simp only [wi_some, or_0, or_1, bo_or, ite_boP, true_and, and_true, kN_v, kN_n, kT_v, kT_n, kT_e, Nat.add_zero, Nat.zero_add, b239_15 hw, if_true]
        exact ky p cs D2 rfl (m1.tr m2.ml) (x1.m1 m2 t2)
  simp only [b239_0 hw, mI_thrown HS, mF_thrown HS, mR_row HS, mR_image HS, mR_earlier HS, mR_trial HS, mR_acts HS, mI_hasImage HS, mF_hasImage HS, mI_remembered HS, mF_remembered HS, mR_tape HS, mI_taped HS, mF_taped HS, mI_point HS, mF_point HS, mI_end HS, mF_end HS, mI_begin HS, mF_begin HS, mI_deep HS, mF_deep HS, mI_faultAt HS, mF_faultAt HS, mR_five HS, mI_codes HS, mF_codes HS, mR_value HS, mI_so HS, mF_so HS, mR_lines HS, mR_chosen HS, mR_best HS, mR_members HS, mR_paired HS, mO HS, mA_287 HS, mW_287 HS, mA_288 HS, mW_288 HS, mA_289 HS, mW_289 HS, mA_290 HS, mW_290 HS, mA_291 HS, mW_291 HS, mA_292 HS, mW_292 HS, mA_293 HS, mW_293 HS, mA_294 HS, mW_294 HS, mA_295 HS, mW_295 HS, mA_296 HS, mW_296 HS, mA_297 HS, mW_297 HS, mA_298 HS, mW_298 HS, mA_299 HS, mW_299 HS, wi_some, or_0, or_1, bo_or, ite_boP, true_and, and_true, kN_v, kN_n, kT_v, kT_n, kT_e, Nat.add_zero, Nat.zero_add]
  refine k238 hw HS tb x0 (by omega) ?_ ?_
  · intro f D1 hP m1 e1
    simp only [hP] at kf
    simp only [wi_some, or_0, or_1, bo_or, ite_boP, true_and, and_true, kN_v, kN_n, kT_v, kT_n, kT_e, Nat.add_zero, Nat.zero_add, b239_4 hw, if_true]
    exact kf f D1 rfl m1 e1
  · intro p1 c1 D1 hP m1 x1
    obtain ⟨g, _, _⟩ := paS_pg (b := b) (cs := cs) hp.1
    obtain ⟨a1, a2, new, a3, a4⟩ := g p1 c1 hP
    simp only [hP] at kf ky
    simp only [wi_some, or_0, or_1, bo_or, ite_boP, true_and, and_true, kN_v, kN_n, kT_v, kT_n, kT_e, Nat.add_zero, Nat.zero_add, b239_4 hw, n10, if_false]
    exact lp 400 p1 c1 D1 (by omega) m1 x1 (by rw [a3, List.length_append]; omega) kf ky
theorem k240 (hw : WT sh) (HS : SP sh) (tb : TB b n) (x0 : XR b n e D p cs) (hl : cs.length < 400)
    (kn : ∀ D', oneF b n tgWs 0 p = none → ML D D' → XR b n e D' p cs → Q (.inl (some (.int (Int32.ofNat 0)))) (mk sh D') c s)
    (ky : ∀ k p' D', oneF b n tgWs 0 p = some (k, p') → ML D D' → XR b n e D' p' (cs ++ [Int32.ofNat (1007 + k)]) → Q (.inl (some (.int (Int32.ofNat 1)))) (mk sh D') c s) :
    Wx (tP nx xs) (d + 3) 240 0 [some (.ref 286), none] [] (mk sh D) c s Q := by
  have n10 : ¬ (Int32.ofNat 1 : Int32) = Int32.ofNat 0 := by decide
  have nm1 : (-1 : Int32) < Int32.ofNat 0 := by decide
  have hn := tb.1
  have hp := x0.1.le
  have l1 : le b n p ≤ n := ru_le hp.1
  unfold tgWs at kn ky
  simp only [b240_0 hw, mI_thrown HS, mF_thrown HS, mR_row HS, mR_image HS, mR_earlier HS, mR_trial HS, mR_acts HS, mI_hasImage HS, mF_hasImage HS, mI_remembered HS, mF_remembered HS, mR_tape HS, mI_taped HS, mF_taped HS, mI_point HS, mF_point HS, mI_end HS, mF_end HS, mI_begin HS, mF_begin HS, mI_deep HS, mF_deep HS, mI_faultAt HS, mF_faultAt HS, mR_five HS, mI_codes HS, mF_codes HS, mR_value HS, mI_so HS, mF_so HS, mR_lines HS, mR_chosen HS, mR_best HS, mR_members HS, mR_paired HS, mO HS, mA_287 HS, mW_287 HS, mA_288 HS, mW_288 HS, mA_289 HS, mW_289 HS, mA_290 HS, mW_290 HS, mA_291 HS, mW_291 HS, mA_292 HS, mW_292 HS, mA_293 HS, mW_293 HS, mA_294 HS, mW_294 HS, mA_295 HS, mW_295 HS, mA_296 HS, mW_296 HS, mA_297 HS, mW_297 HS, mA_298 HS, mW_298 HS, mA_299 HS, mW_299 HS, wi_some, or_0, or_1, bo_or, ite_boP, true_and, and_true, kN_v, kN_n, kT_v, kT_n, kT_e, Nat.add_zero, Nat.zero_add]
  refine k219 hw HS tb x0.1 ?_
  intro D1 m1 rb1 e10 e12
  have q1 := x0.2.1.m1 m1
  have y1 : D1 286 13 = Int32.ofNat e := by rw [m1 286 13 (by omega)]; exact x0.2.2
  have w1 := fun (nx : Nat) (xs : Nat → Int32) (c s : Nat) (Q : av_Q) => k220 (nx := nx) (xs := xs) (d := d + 2) (c := c) (s := s) (Q := Q) (i := 53) (w := wBorn) hw HS tb rb1 hp.1 e10 e12 (by decide) (by decide +kernel) (by decide +kernel)
  have w2 := fun (nx : Nat) (xs : Nat → Int32) (c s : Nat) (Q : av_Q) => k220 (nx := nx) (xs := xs) (d := d + 2) (c := c) (s := s) (Q := Q) (i := 51) (w := wDoes) hw HS tb rb1 hp.1 e10 e12 (by decide) (by decide +kernel) (by decide +kernel)
  have w3 := fun (nx : Nat) (xs : Nat → Int32) (c s : Nat) (Q : av_Q) => k220 (nx := nx) (xs := xs) (d := d + 2) (c := c) (s := s) (Q := Q) (i := 64) (w := wFull) hw HS tb rb1 hp.1 e10 e12 (by decide) (by decide +kernel) (by decide +kernel)
  have x1 : XR b n e D1 (sk b n (le b n p)) cs := ⟨TpR.of rb1 M1.rf l1 rfl e10, q1, y1⟩
  have hit : ∀ k, k < 3 → oneF b n [wBorn, wDoes, wFull] 0 p = some (k, sk b n (le b n p)) → Wx (tP nx xs) (d + 3) 240 47 [some (.ref 286), none] [.int (Int32.ofNat (7 + k))] (mk sh D1) c s Q := fun k hk hO => by
    simp only [b240_47 hw, oN_nn (show 7 + k < 2147483648 by omega), if_false, mI_thrown HS, mF_thrown HS, mR_row HS, mR_image HS, mR_earlier HS, mR_trial HS, mR_acts HS, mI_hasImage HS, mF_hasImage HS, mI_remembered HS, mF_remembered HS, mR_tape HS, mI_taped HS, mF_taped HS, mI_point HS, mF_point HS, mI_end HS, mF_end HS, mI_begin HS, mF_begin HS, mI_deep HS, mF_deep HS, mI_faultAt HS, mF_faultAt HS, mR_five HS, mI_codes HS, mF_codes HS, mR_value HS, mI_so HS, mF_so HS, mR_lines HS, mR_chosen HS, mR_best HS, mR_members HS, mR_paired HS, mO HS, mA_287 HS, mW_287 HS, mA_288 HS, mW_288 HS, mA_289 HS, mW_289 HS, mA_290 HS, mW_290 HS, mA_291 HS, mW_291 HS, mA_292 HS, mW_292 HS, mA_293 HS, mW_293 HS, mA_294 HS, mW_294 HS, mA_295 HS, mW_295 HS, mA_296 HS, mW_296 HS, mA_297 HS, mW_297 HS, mA_298 HS, mW_298 HS, mA_299 HS, mW_299 HS, wi_some, or_0, or_1, bo_or, ite_boP, true_and, and_true, kN_v, kN_n, kT_v, kT_n, kT_e, Nat.add_zero, Nat.zero_add, k236 hw HS hl q1.1, b240_58 hw, b240_69 hw, b240_78 hw]
    exact ky k _ _ hO (m1.ml.tr pt_ml) (x1.pt (by rw [rcS_nam (show 7 + k < 10 by omega)]; rw [show 1000 + (7 + k) = 1007 + k by omega]) (fun h => absurd h (by rw [show 1007 + k = 1000 + (7 + k) by omega]; exact nam_nn (by omega))))
  simp only [wi_some, or_0, or_1, bo_or, ite_boP, true_and, and_true, kN_v, kN_n, kT_v, kT_n, kT_e, Nat.add_zero, Nat.zero_add, b240_4 hw, mI_thrown HS, mF_thrown HS, mR_row HS, mR_image HS, mR_earlier HS, mR_trial HS, mR_acts HS, mI_hasImage HS, mF_hasImage HS, mI_remembered HS, mF_remembered HS, mR_tape HS, mI_taped HS, mF_taped HS, mI_point HS, mF_point HS, mI_end HS, mF_end HS, mI_begin HS, mF_begin HS, mI_deep HS, mF_deep HS, mI_faultAt HS, mF_faultAt HS, mR_five HS, mI_codes HS, mF_codes HS, mR_value HS, mI_so HS, mF_so HS, mR_lines HS, mR_chosen HS, mR_best HS, mR_members HS, mR_paired HS, mO HS, mA_287 HS, mW_287 HS, mA_288 HS, mW_288 HS, mA_289 HS, mW_289 HS, mA_290 HS, mW_290 HS, mA_291 HS, mW_291 HS, mA_292 HS, mW_292 HS, mA_293 HS, mW_293 HS, mA_294 HS, mW_294 HS, mA_295 HS, mW_295 HS, mA_296 HS, mW_296 HS, mA_297 HS, mW_297 HS, mA_298 HS, mW_298 HS, mA_299 HS, mW_299 HS]
  rw [w1]
  simp only [wi_some, or_0, or_1, bo_or, ite_boP, true_and, and_true, kN_v, kN_n, kT_v, kT_n, kT_e, Nat.add_zero, Nat.zero_add, b240_10 hw]
  cases h1 : isW b n wBorn p with
  | true => simp only [bo_t, n10, if_false]; exact hit 0 (by decide) (oneF_hit h1)
  | false =>
    simp only [bo_f, if_true, mI_thrown HS, mF_thrown HS, mR_row HS, mR_image HS, mR_earlier HS, mR_trial HS, mR_acts HS, mI_hasImage HS, mF_hasImage HS, mI_remembered HS, mF_remembered HS, mR_tape HS, mI_taped HS, mF_taped HS, mI_point HS, mF_point HS, mI_end HS, mF_end HS, mI_begin HS, mF_begin HS, mI_deep HS, mF_deep HS, mI_faultAt HS, mF_faultAt HS, mR_five HS, mI_codes HS, mF_codes HS, mR_value HS, mI_so HS, mF_so HS, mR_lines HS, mR_chosen HS, mR_best HS, mR_members HS, mR_paired HS, mO HS, mA_287 HS, mW_287 HS, mA_288 HS, mW_288 HS, mA_289 HS, mW_289 HS, mA_290 HS, mW_290 HS, mA_291 HS, mW_291 HS, mA_292 HS, mW_292 HS, mA_293 HS, mW_293 HS, mA_294 HS, mW_294 HS, mA_295 HS, mW_295 HS, mA_296 HS, mW_296 HS, mA_297 HS, mW_297 HS, mA_298 HS, mW_298 HS, mA_299 HS, mW_299 HS, wi_some, or_0, or_1, bo_or, ite_boP, true_and, and_true, kN_v, kN_n, kT_v, kT_n, kT_e, Nat.add_zero, Nat.zero_add]
    rw [w2]
    simp only [wi_some, or_0, or_1, bo_or, ite_boP, true_and, and_true, kN_v, kN_n, kT_v, kT_n, kT_e, Nat.add_zero, Nat.zero_add, b240_24 hw]
    cases h2 : isW b n wDoes p with
    | true => simp only [bo_t, n10, if_false]; exact hit 1 (by decide) (by rw [oneF_miss h1, oneF_hit h2])
    | false =>
      simp only [bo_f, if_true, mI_thrown HS, mF_thrown HS, mR_row HS, mR_image HS, mR_earlier HS, mR_trial HS, mR_acts HS, mI_hasImage HS, mF_hasImage HS, mI_remembered HS, mF_remembered HS, mR_tape HS, mI_taped HS, mF_taped HS, mI_point HS, mF_point HS, mI_end HS, mF_end HS, mI_begin HS, mF_begin HS, mI_deep HS, mF_deep HS, mI_faultAt HS, mF_faultAt HS, mR_five HS, mI_codes HS, mF_codes HS, mR_value HS, mI_so HS, mF_so HS, mR_lines HS, mR_chosen HS, mR_best HS, mR_members HS, mR_paired HS, mO HS, mA_287 HS, mW_287 HS, mA_288 HS, mW_288 HS, mA_289 HS, mW_289 HS, mA_290 HS, mW_290 HS, mA_291 HS, mW_291 HS, mA_292 HS, mW_292 HS, mA_293 HS, mW_293 HS, mA_294 HS, mW_294 HS, mA_295 HS, mW_295 HS, mA_296 HS, mW_296 HS, mA_297 HS, mW_297 HS, mA_298 HS, mW_298 HS, mA_299 HS, mW_299 HS, wi_some, or_0, or_1, bo_or, ite_boP, true_and, and_true, kN_v, kN_n, kT_v, kT_n, kT_e, Nat.add_zero, Nat.zero_add]
      rw [w3]
      simp only [wi_some, or_0, or_1, bo_or, ite_boP, true_and, and_true, kN_v, kN_n, kT_v, kT_n, kT_e, Nat.add_zero, Nat.zero_add, b240_38 hw]
      cases h3 : isW b n wFull p with
      | true => simp only [bo_t, n10, if_false]; exact hit 2 (by decide) (by rw [oneF_miss h1, oneF_miss h2, oneF_hit h3])
      | false =>
        simp only [bo_f, if_true, b240_47 hw, nm1, mI_thrown HS, mF_thrown HS, mR_row HS, mR_image HS, mR_earlier HS, mR_trial HS, mR_acts HS, mI_hasImage HS, mF_hasImage HS, mI_remembered HS, mF_remembered HS, mR_tape HS, mI_taped HS, mF_taped HS, mI_point HS, mF_point HS, mI_end HS, mF_end HS, mI_begin HS, mF_begin HS, mI_deep HS, mF_deep HS, mI_faultAt HS, mF_faultAt HS, mR_five HS, mI_codes HS, mF_codes HS, mR_value HS, mI_so HS, mF_so HS, mR_lines HS, mR_chosen HS, mR_best HS, mR_members HS, mR_paired HS, mO HS, mA_287 HS, mW_287 HS, mA_288 HS, mW_288 HS, mA_289 HS, mW_289 HS, mA_290 HS, mW_290 HS, mA_291 HS, mW_291 HS, mA_292 HS, mW_292 HS, mA_293 HS, mW_293 HS, mA_294 HS, mW_294 HS, mA_295 HS, mW_295 HS, mA_296 HS, mW_296 HS, mA_297 HS, mW_297 HS, mA_298 HS, mW_298 HS, mA_299 HS, mW_299 HS, wi_some, or_0, or_1, bo_or, ite_boP, true_and, and_true, kN_v, kN_n, kT_v, kT_n, kT_e, Nat.add_zero, Nat.zero_add, b240_69 hw, b240_78 hw]
        refine kn _ (by rw [oneF_miss h1, oneF_miss h2, oneF_miss h3]; rfl) (m1.ml.tr (ML.u6 (Or.inl rfl))) ⟨⟨⟨?_, fun i hi => ?_⟩, p, hp.1, hp.2, ?_⟩, ⟨?_, fun i hi => ?_⟩, ?_⟩
        · rw [u2_at, if_neg (by omega)]; exact rb1.1
        · rw [u2_at, if_neg (by omega)]; exact rb1.2 i hi
        · rw [u2_at, if_pos ⟨rfl, rfl⟩]; exact e12
        · rw [u2_at, if_neg (by omega)]; exact q1.1
        · rw [u2_at, if_neg (by omega), u2_at, if_neg (by omega)]; exact q1.2 i hi
        · rw [u2_at, if_neg (by omega)]; exact y1
end CC8
