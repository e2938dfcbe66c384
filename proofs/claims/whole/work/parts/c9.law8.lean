/-! ===== texts of THE LAW: the reference reads (2) ===== -/
section CC9
variable {nx : Nat} {xs : Nat → Int32} {sh : List sC}
def RdR (nx : Nat) (xs : Nat → Int32) (sh : List sC) (b : Nat → Nat) (n δ mi e : Nat) (tl : List (Option Value)) (A : Nat → List Int32 → pR) : Prop := ∀ (p : Nat) (cs : List Int32) (D : sD) (c s : Nat) (Q : av_Q), XR b n e D p cs → cs.length + 3 ≤ p →
    (∀ f D', A p cs = .inl f → ML D D' → D' 286 12 = Int32.ofNat f → Q (.inl (some (.int (Int32.ofNat 0)))) (mk sh D') c s) →
    (∀ p' c' D', A p cs = .inr (p', c') → ML D D' → XR b n e D' p' c' → Q (.inl (some (.int (Int32.ofNat 1)))) (mk sh D') c s) →
    Wx (tP nx xs) δ mi 0 ([some (.ref 286)] ++ tl) [] (mk sh D) c s Q
variable {b : Nat → Nat} {n : Nat}
theorem k242 {δ e h : Nat} {A : Nat → List Int32 → pR} (hw : WT sh) (HS : SP sh) (tb : TB b n) (g : Gd b n h A) (hA : RdR nx xs sh b n (δ + 3) 241 e [none] A) : RdR nx xs sh b n (δ + 4) 242 e [] (alS b n A) := by
  intro p cs D c s Q x0 hl kf ky
  have n10 : ¬ (Int32.ofNat 1 : Int32) = Int32.ofNat 0 := by decide
  have hn := tb.1
  have hp := x0.1.le
  unfold alS at kf ky
  have lp : ∀ k p cs D1, n - p < k → ML D D1 → XR b n e D1 p cs → cs.length + 3 ≤ p →
      (∀ f D', moA b n A k p cs = .inl f → ML D D' → D' 286 12 = Int32.ofNat f → Q (.inl (some (.int (Int32.ofNat 0)))) (mk sh D') c s) →
      (∀ p' c' D', moA b n A k p cs = .inr (p', c') → ML D D' → XR b n e D' p' c' → Q (.inl (some (.int (Int32.ofNat 1)))) (mk sh D') c s) →
      Wx (tP nx xs) (δ + 4) 242 9 [some (.ref 286)] [] (mk sh D1) c s Q := by
    intro k
    induction k with
    | zero => intro p cs D1 h; omega
    | succ k ih =>
      intro p cs D1 hk m1 x1 hl kf ky
      have hp := x1.1.le
      unfold moA at kf ky
      rw [b242_9 hw]
      simp only [mI_thrown HS, mF_thrown HS, mR_row HS, mR_image HS, mR_earlier HS, mR_trial HS, mR_acts HS, mI_hasImage HS, mF_hasImage HS, mI_remembered HS, mF_remembered HS, mR_tape HS, mI_taped HS, mF_taped HS, mI_point HS, mF_point HS, mI_end HS, mF_end HS, mI_begin HS, mF_begin HS, mI_deep HS, mF_deep HS, mI_faultAt HS, mF_faultAt HS, mR_five HS, mI_codes HS, mF_codes HS, mR_value HS, mI_so HS, mF_so HS, mR_lines HS, mR_chosen HS, mR_best HS, mR_members HS, mR_paired HS, mO HS, mA_287 HS, mW_287 HS, mA_288 HS, mW_288 HS, mA_289 HS, mW_289 HS, mA_290 HS, mW_290 HS, mA_291 HS, mW_291 HS, mA_292 HS, mW_292 HS, mA_293 HS, mW_293 HS, mA_294 HS, mW_294 HS, mA_295 HS, mW_295 HS, mA_296 HS, mW_296 HS, mA_297 HS, mW_297 HS, mA_298 HS, mW_298 HS, mA_299 HS, mW_299 HS, wi_some, or_0, or_1, bo_or, ite_boP, true_and, and_true, kN_v, kN_n, kT_v, kT_n, kT_e, Nat.add_zero, Nat.zero_add]
      refine k221 (i := 67) (w := wAnd) hw HS tb x1.1 (by decide) (by decide +kernel) (by decide +kernel) ?_ ?_
      · intro p2 D2 hS m2 t2 e2
        obtain ⟨_, _, s1, s2, _⟩ := wrd_some hS hp.1
        have s1 : p + 3 ≤ p2 := s1
        simp only [hS] at kf ky
        have x2 := x1.m1 m2 t2
        simp only [wi_some, or_0, or_1, bo_or, ite_boP, true_and, and_true, kN_v, kN_n, kT_v, kT_n, kT_e, Nat.add_zero, Nat.zero_add, b242_15 hw, n10, if_false, mI_thrown HS, mF_thrown HS, mR_row HS, mR_image HS, mR_earlier HS, mR_trial HS, mR_acts HS, mI_hasImage HS, mF_hasImage HS, mI_remembered HS, mF_remembered HS, mR_tape HS, mI_taped HS, mF_taped HS, mI_point HS, mF_point HS, mI_end HS, mF_end HS, mI_begin HS, mF_begin HS, mI_deep HS, mF_deep HS, mI_faultAt HS, mF_faultAt HS, mR_five HS, mI_codes HS, mF_codes HS, mR_value HS, mI_so HS, mF_so HS, mR_lines HS, mR_chosen HS, mR_best HS, mR_members HS, mR_paired HS, mO HS, mA_287 HS, mW_287 HS, mA_288 HS, mW_288 HS, mA_289 HS, mW_289 HS, mA_290 HS, mW_290 HS, mA_291 HS, mW_291 HS, mA_292 HS, mW_292 HS, mA_293 HS, mW_293 HS, mA_294 HS, mW_294 HS, mA_295 HS, mW_295 HS, mA_296 HS, mW_296 HS, mA_297 HS, mW_297 HS, mA_298 HS, mW_298 HS, mA_299 HS, mW_299 HS]
        refine hA p2 cs D2 0 0 _ x2 (by omega) ?_ ?_
        · intro f D3 hP m3 e3
          simp only [hP] at kf
          simp only [wi_some, or_0, or_1, bo_or, ite_boP, true_and, and_true, kN_v, kN_n, kT_v, kT_n, kT_e, Nat.add_zero, Nat.zero_add, b242_22 hw, if_true]
          exact kf f D3 rfl ((m1.tr m2.ml).tr m3) e3
        · intro p3 c3 D3 hP m3 x3
          obtain ⟨a1, a2, a0, new, a3, a4, _⟩ := g p2 cs s2 p3 c3 hP
          have h3 : c3.length + 4 ≤ p3 := by rw [a3, List.length_append]; omega
          simp only [hP] at kf ky
          simp only [wi_some, or_0, or_1, bo_or, ite_boP, true_and, and_true, kN_v, kN_n, kT_v, kT_n, kT_e, Nat.add_zero, Nat.zero_add, b242_22 hw, n10, if_false, mI_thrown HS, mF_thrown HS, mR_row HS, mR_image HS, mR_earlier HS, mR_trial HS, mR_acts HS, mI_hasImage HS, mF_hasImage HS, mI_remembered HS, mF_remembered HS, mR_tape HS, mI_taped HS, mF_taped HS, mI_point HS, mF_point HS, mI_end HS, mF_end HS, mI_begin HS, mF_begin HS, mI_deep HS, mF_deep HS, mI_faultAt HS, mF_faultAt HS, mR_five HS, mI_codes HS, mF_codes HS, mR_value HS, mI_so HS, mF_so HS, mR_lines HS, mR_chosen HS, mR_best HS, mR_members HS, mR_paired HS, mO HS, mA_287 HS, mW_287 HS, mA_288 HS, mW_288 HS, mA_289 HS, mW_289 HS, mA_290 HS, mW_290 HS, mA_291 HS, mW_291 HS, mA_292 HS, mW_292 HS, mA_293 HS, mW_293 HS, mA_294 HS, mW_294 HS, mA_295 HS, mW_295 HS, mA_296 HS, mW_296 HS, mA_297 HS, mW_297 HS, mA_298 HS, mW_298 HS, mA_299 HS, mW_299 HS, k236 hw HS (show c3.length < 400 by omega) x3.2.1.1, b242_34 hw]
          exact ih p3 _ _ (by omega) (((m1.tr m2.ml).tr m3).tr pt_ml) (x3.pt (by decide) (fun h => absurd h (by decide))) (by rw [List.length_append, List.length_singleton]; omega) kf ky
      · intro D2 hS m2 t2 e2
        simp only [hS] at ky
        simp only [wi_some, or_0, or_1, bo_or, ite_boP, true_and, and_true, kN_v, kN_n, kT_v, kT_n, kT_e, Nat.add_zero, Nat.zero_add, b242_15 hw, if_true]
        exact ky p cs D2 rfl (m1.tr m2.ml) (x1.m1 m2 t2)
  show Wx (tP nx xs) (δ + 4) 242 0 [some (.ref 286)] [] (mk sh D) c s Q
  simp only [b242_0 hw, mI_thrown HS, mF_thrown HS, mR_row HS, mR_image HS, mR_earlier HS, mR_trial HS, mR_acts HS, mI_hasImage HS, mF_hasImage HS, mI_remembered HS, mF_remembered HS, mR_tape HS, mI_taped HS, mF_taped HS, mI_point HS, mF_point HS, mI_end HS, mF_end HS, mI_begin HS, mF_begin HS, mI_deep HS, mF_deep HS, mI_faultAt HS, mF_faultAt HS, mR_five HS, mI_codes HS, mF_codes HS, mR_value HS, mI_so HS, mF_so HS, mR_lines HS, mR_chosen HS, mR_best HS, mR_members HS, mR_paired HS, mO HS, mA_287 HS, mW_287 HS, mA_288 HS, mW_288 HS, mA_289 HS, mW_289 HS, mA_290 HS, mW_290 HS, mA_291 HS, mW_291 HS, mA_292 HS, mW_292 HS, mA_293 HS, mW_293 HS, mA_294 HS, mW_294 HS, mA_295 HS, mW_295 HS, mA_296 HS, mW_296 HS, mA_297 HS, mW_297 HS, mA_298 HS, mW_298 HS, mA_299 HS, mW_299 HS, wi_some, or_0, or_1, bo_or, ite_boP, true_and, and_true, kN_v, kN_n, kT_v, kT_n, kT_e, Nat.add_zero, Nat.zero_add]
  refine hA p cs D 0 0 _ x0 hl ?_ ?_
  · intro f D1 hP m1 e1
    simp only [hP] at kf
    simp only [wi_some, or_0, or_1, bo_or, ite_boP, true_and, and_true, kN_v, kN_n, kT_v, kT_n, kT_e, Nat.add_zero, Nat.zero_add, b242_4 hw, if_true]
    exact kf f D1 rfl m1 e1
  · intro p1 c1 D1 hP m1 x1
    obtain ⟨a1, a2, a0, new, a3, a4, _⟩ := g p cs hp.1 p1 c1 hP
    simp only [hP] at kf ky
    simp only [wi_some, or_0, or_1, bo_or, ite_boP, true_and, and_true, kN_v, kN_n, kT_v, kT_n, kT_e, Nat.add_zero, Nat.zero_add, b242_4 hw, n10, if_false]
    exact lp 400 p1 c1 D1 (by omega) m1 x1 (by rw [a3, List.length_append]; omega) kf ky
theorem k243 {δ e h : Nat} {A : Nat → List Int32 → pR} (hw : WT sh) (HS : SP sh) (tb : TB b n) (g : Gd b n (h + 2) A) (hA : RdR nx xs sh b n (δ + 3) 241 e [none] A) : RdR nx xs sh b n (δ + 5) 243 e [] (coS b n A) := by
  intro p cs D c s Q x0 hl kf ky
  have n10 : ¬ (Int32.ofNat 1 : Int32) = Int32.ofNat 0 := by decide
  have hn := tb.1
  have hp := x0.1.le
  have hB := k242 hw HS tb g hA
  have gB := alS_gd (b := b) (n := n) (h := h + 1) g
  unfold coS at kf ky
  have lp : ∀ k p cs D1, n - p < k → ML D D1 → XR b n e D1 p cs → cs.length + 3 ≤ p →
      (∀ f D', moO b n A k p cs = .inl f → ML D D' → D' 286 12 = Int32.ofNat f → Q (.inl (some (.int (Int32.ofNat 0)))) (mk sh D') c s) →
      (∀ p' c' D', moO b n A k p cs = .inr (p', c') → ML D D' → XR b n e D' p' c' → Q (.inl (some (.int (Int32.ofNat 1)))) (mk sh D') c s) →
      Wx (tP nx xs) (δ + 5) 243 9 [some (.ref 286)] [] (mk sh D1) c s Q := by
    intro k
    induction k with
    | zero => intro p cs D1 h; omega
    | succ k ih =>
      intro p cs D1 hk m1 x1 hl kf ky
      have hp := x1.1.le
      unfold moO at kf ky
      rw [b243_9 hw]
      simp only [mI_thrown HS, mF_thrown HS, mR_row HS, mR_image HS, mR_earlier HS, mR_trial HS, mR_acts HS, mI_hasImage HS, mF_hasImage HS, mI_remembered HS, mF_remembered HS, mR_tape HS, mI_taped HS, mF_taped HS, mI_point HS, mF_point HS, mI_end HS, mF_end HS, mI_begin HS, mF_begin HS, mI_deep HS, mF_deep HS, mI_faultAt HS, mF_faultAt HS, mR_five HS, mI_codes HS, mF_codes HS, mR_value HS, mI_so HS, mF_so HS, mR_lines HS, mR_chosen HS, mR_best HS, mR_members HS, mR_paired HS, mO HS, mA_287 HS, mW_287 HS, mA_288 HS, mW_288 HS, mA_289 HS, mW_289 HS, mA_290 HS, mW_290 HS, mA_291 HS, mW_291 HS, mA_292 HS, mW_292 HS, mA_293 HS, mW_293 HS, mA_294 HS, mW_294 HS, mA_295 HS, mW_295 HS, mA_296 HS, mW_296 HS, mA_297 HS, mW_297 HS, mA_298 HS, mW_298 HS, mA_299 HS, mW_299 HS, wi_some, or_0, or_1, bo_or, ite_boP, true_and, and_true, kN_v, kN_n, kT_v, kT_n, kT_e, Nat.add_zero, Nat.zero_add]
      refine k221 (i := 68) (w := wOr) hw HS tb x1.1 (by decide) (by decide +kernel) (by decide +kernel) ?_ ?_
      · intro p2 D2 hS m2 t2 e2
        obtain ⟨_, _, s1, s2, _⟩ := wrd_some hS hp.1
        have s1 : p + 2 ≤ p2 := s1
        simp only [hS] at kf ky
        have x2 := x1.m1 m2 t2
        simp only [wi_some, or_0, or_1, bo_or, ite_boP, true_and, and_true, kN_v, kN_n, kT_v, kT_n, kT_e, Nat.add_zero, Nat.zero_add, b243_16 hw, n10, if_false, mI_thrown HS, mF_thrown HS, mR_row HS, mR_image HS, mR_earlier HS, mR_trial HS, mR_acts HS, mI_hasImage HS, mF_hasImage HS, mI_remembered HS, mF_remembered HS, mR_tape HS, mI_taped HS, mF_taped HS, mI_point HS, mF_point HS, mI_end HS, mF_end HS, mI_begin HS, mF_begin HS, mI_deep HS, mF_deep HS, mI_faultAt HS, mF_faultAt HS, mR_five HS, mI_codes HS, mF_codes HS, mR_value HS, mI_so HS, mF_so HS, mR_lines HS, mR_chosen HS, mR_best HS, mR_members HS, mR_paired HS, mO HS, mA_287 HS, mW_287 HS, mA_288 HS, mW_288 HS, mA_289 HS, mW_289 HS, mA_290 HS, mW_290 HS, mA_291 HS, mW_291 HS, mA_292 HS, mW_292 HS, mA_293 HS, mW_293 HS, mA_294 HS, mW_294 HS, mA_295 HS, mW_295 HS, mA_296 HS, mW_296 HS, mA_297 HS, mW_297 HS, mA_298 HS, mW_298 HS, mA_299 HS, mW_299 HS]
        refine hB p2 cs D2 0 0 _ x2 (by omega) ?_ ?_
        · intro f D3 hP m3 e3
          simp only [hP] at kf
          simp only [wi_some, or_0, or_1, bo_or, ite_boP, true_and, and_true, kN_v, kN_n, kT_v, kT_n, kT_e, Nat.add_zero, Nat.zero_add, b243_23 hw, if_true]
          exact kf f D3 rfl ((m1.tr m2.ml).tr m3) e3
        · intro p3 c3 D3 hP m3 x3
          obtain ⟨a1, a2, a0, new, a3, a4, _⟩ := gB p2 cs s2 p3 c3 hP
          have h3 : c3.length + 4 ≤ p3 := by rw [a3, List.length_append]; omega
          simp only [hP] at kf ky
          simp only [wi_some, or_0, or_1, bo_or, ite_boP, true_and, and_true, kN_v, kN_n, kT_v, kT_n, kT_e, Nat.add_zero, Nat.zero_add, b243_23 hw, n10, if_false, mI_thrown HS, mF_thrown HS, mR_row HS, mR_image HS, mR_earlier HS, mR_trial HS, mR_acts HS, mI_hasImage HS, mF_hasImage HS, mI_remembered HS, mF_remembered HS, mR_tape HS, mI_taped HS, mF_taped HS, mI_point HS, mF_point HS, mI_end HS, mF_end HS, mI_begin HS, mF_begin HS, mI_deep HS, mF_deep HS, mI_faultAt HS, mF_faultAt HS, mR_five HS, mI_codes HS, mF_codes HS, mR_value HS, mI_so HS, mF_so HS, mR_lines HS, mR_chosen HS, mR_best HS, mR_members HS, mR_paired HS, mO HS, mA_287 HS, mW_287 HS, mA_288 HS, mW_288 HS, mA_289 HS, mW_289 HS, mA_290 HS, mW_290 HS, mA_291 HS, mW_291 HS, mA_292 HS, mW_292 HS, mA_293 HS, mW_293 HS, mA_294 HS, mW_294 HS, mA_295 HS, mW_295 HS, mA_296 HS, mW_296 HS, mA_297 HS, mW_297 HS, mA_298 HS, mW_298 HS, mA_299 HS, mW_299 HS, k236 hw HS (show c3.length < 400 by omega) x3.2.1.1, b243_35 hw]
          exact ih p3 _ _ (by omega) (((m1.tr m2.ml).tr m3).tr pt_ml) (x3.pt (by decide) (fun h => absurd h (by decide))) (by rw [List.length_append, List.length_singleton]; omega) kf ky
      · intro D2 hS m2 t2 e2
        simp only [hS] at ky
        simp only [wi_some, or_0, or_1, bo_or, ite_boP, true_and, and_true, kN_v, kN_n, kT_v, kT_n, kT_e, Nat.add_zero, Nat.zero_add, b243_16 hw, if_true]
        exact ky p cs D2 rfl (m1.tr m2.ml) (x1.m1 m2 t2)
  show Wx (tP nx xs) (δ + 5) 243 0 [some (.ref 286)] [] (mk sh D) c s Q
  simp only [b243_0 hw, mI_thrown HS, mF_thrown HS, mR_row HS, mR_image HS, mR_earlier HS, mR_trial HS, mR_acts HS, mI_hasImage HS, mF_hasImage HS, mI_remembered HS, mF_remembered HS, mR_tape HS, mI_taped HS, mF_taped HS, mI_point HS, mF_point HS, mI_end HS, mF_end HS, mI_begin HS, mF_begin HS, mI_deep HS, mF_deep HS, mI_faultAt HS, mF_faultAt HS, mR_five HS, mI_codes HS, mF_codes HS, mR_value HS, mI_so HS, mF_so HS, mR_lines HS, mR_chosen HS, mR_best HS, mR_members HS, mR_paired HS, mO HS, mA_287 HS, mW_287 HS, mA_288 HS, mW_288 HS, mA_289 HS, mW_289 HS, mA_290 HS, mW_290 HS, mA_291 HS, mW_291 HS, mA_292 HS, mW_292 HS, mA_293 HS, mW_293 HS, mA_294 HS, mW_294 HS, mA_295 HS, mW_295 HS, mA_296 HS, mW_296 HS, mA_297 HS, mW_297 HS, mA_298 HS, mW_298 HS, mA_299 HS, mW_299 HS, wi_some, or_0, or_1, bo_or, ite_boP, true_and, and_true, kN_v, kN_n, kT_v, kT_n, kT_e, Nat.add_zero, Nat.zero_add]
  refine hB p cs D 0 0 _ x0 hl ?_ ?_
  · intro f D1 hP m1 e1
    simp only [hP] at kf
    simp only [wi_some, or_0, or_1, bo_or, ite_boP, true_and, and_true, kN_v, kN_n, kT_v, kT_n, kT_e, Nat.add_zero, Nat.zero_add, b243_4 hw, if_true]
    exact kf f D1 rfl m1 e1
  · intro p1 c1 D1 hP m1 x1
    obtain ⟨a1, a2, a0, new, a3, a4, _⟩ := gB p cs hp.1 p1 c1 hP
    simp only [hP] at kf ky
    simp only [wi_some, or_0, or_1, bo_or, ite_boP, true_and, and_true, kN_v, kN_n, kT_v, kT_n, kT_e, Nat.add_zero, Nat.zero_add, b243_4 hw, n10, if_false]
    exact lp 400 p1 c1 D1 (by omega) m1 x1 (by rw [a3, List.length_append]; omega) kf ky
theorem not_open {p p1 : Nat} (h : sgq b n 40 p = some p1) : wrd b n wNot p = none := by
  cases hW : wrd b n wNot p with
  | none => rfl
  | some q =>
    have h1 := (isW_iff.mp (wrd_yes hW)).2 0 (by decide)
    have h2 := (sgn_some h).2.1
    rw [Nat.add_zero, h2] at h1
    exact absurd h1 (by decide)
theorem XR.u13 {e e' p : Nat} {cs : List Int32} {D : sD} (h : XR b n e D p cs) : XR b n e' (u2 D 286 13 (Int32.ofNat e')) p cs := ⟨h.1.u6 (by decide) (by decide), ⟨by rw [u2_at, if_neg (by omega)]; exact h.2.1.1, fun i hi => by rw [u2_at, if_neg (by omega), u2_at, if_neg (by omega)]; exact h.2.1.2 i hi⟩, by rw [u2_at, if_pos ⟨rfl, rfl⟩]⟩
theorem k241 (hw : WT sh) (HS : SP sh) (tb : TB b n) : ∀ d, d ≤ 6 → ∀ δ, RdR nx xs sh b n (δ + 5 + 3 * d) 241 (6 - d) [none] (pA b n d) := by
  have n10 : ¬ (Int32.ofNat 1 : Int32) = Int32.ofNat 0 := by decide
  have n01 : ¬ (Int32.ofNat 0 : Int32) = Int32.ofNat 1 := by decide
  have hn := tb.1
  have base : ∀ (ε e : Nat) (N C : Nat → List Int32 → pR) (dp : Bool), e ≤ 6 → (dp = true ↔ e < 6) → Gd b n 0 (atF b n N C dp) → (dp = true → Gd b n 0 N) → (dp = true → Gd b n 0 C) → (dp = true → RdR nx xs sh b n (ε + 4) 241 (e + 1) [none] N) → (dp = true → RdR nx xs sh b n (ε + 4) 243 (e + 1) [] C) → RdR nx xs sh b n (ε + 5) 241 e [none] (atF b n N C dp) := by
    intro ε e N C dp he hdp gA gN gC hN hC p cs D c s Q x0 hl kf ky
    show Wx (tP nx xs) (ε + 5) 241 0 [some (.ref 286), none] [] (mk sh D) c s Q
    have hp := x0.1.le
    have so : ∀ x, Int32.ofNat (x + 1) - Int32.ofNat 1 = Int32.ofNat x := fun x => by rw [oN_sub (by omega)]; rfl
    unfold atF at kf ky
    rw [b241_0 hw]
    simp only [mI_thrown HS, mF_thrown HS, mR_row HS, mR_image HS, mR_earlier HS, mR_trial HS, mR_acts HS, mI_hasImage HS, mF_hasImage HS, mI_remembered HS, mF_remembered HS, mR_tape HS, mI_taped HS, mF_taped HS, mI_point HS, mF_point HS, mI_end HS, mF_end HS, mI_begin HS, mF_begin HS, mI_deep HS, mF_deep HS, mI_faultAt HS, mF_faultAt HS, mR_five HS, mI_codes HS, mF_codes HS, mR_value HS, mI_so HS, mF_so HS, mR_lines HS, mR_chosen HS, mR_best HS, mR_members HS, mR_paired HS, mO HS, mA_287 HS, mW_287 HS, mA_288 HS, mW_288 HS, mA_289 HS, mW_289 HS, mA_290 HS, mW_290 HS, mA_291 HS, mW_291 HS, mA_292 HS, mW_292 HS, mA_293 HS, mW_293 HS, mA_294 HS, mW_294 HS, mA_295 HS, mW_295 HS, mA_296 HS, mW_296 HS, mA_297 HS, mW_297 HS, mA_298 HS, mW_298 HS, mA_299 HS, mW_299 HS, wi_some, or_0, or_1, bo_or, ite_boP, true_and, and_true, kN_v, kN_n, kT_v, kT_n, kT_e, Nat.add_zero, Nat.zero_add]
    refine k222 hw HS tb x0.1 (by decide) ?_ ?_
    · intro p1 D1 hS m1 t1 e1
      obtain ⟨_, _, _, s1, s2, _⟩ := sgn_some hS
      have x1 := x0.m1 m1 t1
      simp only [not_open hS, hS] at kf ky
      simp only [wi_some, or_0, or_1, bo_or, ite_boP, true_and, and_true, kN_v, kN_n, kT_v, kT_n, kT_e, Nat.add_zero, Nat.zero_add, b241_6 hw, n10, if_false, mI_thrown HS, mF_thrown HS, mR_row HS, mR_image HS, mR_earlier HS, mR_trial HS, mR_acts HS, mI_hasImage HS, mF_hasImage HS, mI_remembered HS, mF_remembered HS, mR_tape HS, mI_taped HS, mF_taped HS, mI_point HS, mF_point HS, mI_end HS, mF_end HS, mI_begin HS, mF_begin HS, mI_deep HS, mF_deep HS, mI_faultAt HS, mF_faultAt HS, mR_five HS, mI_codes HS, mF_codes HS, mR_value HS, mI_so HS, mF_so HS, mR_lines HS, mR_chosen HS, mR_best HS, mR_members HS, mR_paired HS, mO HS, mA_287 HS, mW_287 HS, mA_288 HS, mW_288 HS, mA_289 HS, mW_289 HS, mA_290 HS, mW_290 HS, mA_291 HS, mW_291 HS, mA_292 HS, mW_292 HS, mA_293 HS, mW_293 HS, mA_294 HS, mW_294 HS, mA_295 HS, mW_295 HS, mA_296 HS, mW_296 HS, mA_297 HS, mW_297 HS, mA_298 HS, mW_298 HS, mA_299 HS, mW_299 HS, x1.2.2, oN_eq (show e < 2147483648 by omega) (show 6 < 2147483648 by omega)]
      cases dp with
      | false =>
        have h6 : e = 6 := by
          rcases Nat.lt_or_ge e 6 with h | h
          · have := hdp.mpr h; cases this
          · omega
        simp only [Bool.false_eq_true, if_false] at kf
        simp only [h6, if_true]
        exact kf _ _ rfl m1.ml e1
      | true =>
        have h6 : ¬ e = 6 := by have := hdp.mp rfl; omega
        simp only [if_true] at kf ky
        simp only [h6, if_false, oN_add, b241_30 hw, mI_thrown HS, mF_thrown HS, mR_row HS, mR_image HS, mR_earlier HS, mR_trial HS, mR_acts HS, mI_hasImage HS, mF_hasImage HS, mI_remembered HS, mF_remembered HS, mR_tape HS, mI_taped HS, mF_taped HS, mI_point HS, mF_point HS, mI_end HS, mF_end HS, mI_begin HS, mF_begin HS, mI_deep HS, mF_deep HS, mI_faultAt HS, mF_faultAt HS, mR_five HS, mI_codes HS, mF_codes HS, mR_value HS, mI_so HS, mF_so HS, mR_lines HS, mR_chosen HS, mR_best HS, mR_members HS, mR_paired HS, mO HS, mA_287 HS, mW_287 HS, mA_288 HS, mW_288 HS, mA_289 HS, mW_289 HS, mA_290 HS, mW_290 HS, mA_291 HS, mW_291 HS, mA_292 HS, mW_292 HS, mA_293 HS, mW_293 HS, mA_294 HS, mW_294 HS, mA_295 HS, mW_295 HS, mA_296 HS, mW_296 HS, mA_297 HS, mW_297 HS, mA_298 HS, mW_298 HS, mA_299 HS, mW_299 HS, wi_some, or_0, or_1, bo_or, ite_boP, true_and, and_true, kN_v, kN_n, kT_v, kT_n, kT_e, Nat.add_zero, Nat.zero_add]
        refine hC rfl p1 cs _ 0 0 _ (x1.u13 (e' := e + 1)) (by omega) ?_ ?_
        · intro f D2 hP g2 e2
          simp only [hP] at kf
          simp only [wi_some, or_0, or_1, bo_or, ite_boP, true_and, and_true, kN_v, kN_n, kT_v, kT_n, kT_e, Nat.add_zero, Nat.zero_add, b241_34 hw, if_true]
          exact kf f D2 rfl ((m1.ml.tr (ML.u6 (by decide))).tr g2) e2
        · intro p2 c2 D2 hP g2 x2
          simp only [hP] at kf ky
          simp only [wi_some, or_0, or_1, bo_or, ite_boP, true_and, and_true, kN_v, kN_n, kT_v, kT_n, kT_e, Nat.add_zero, Nat.zero_add, b241_34 hw, n10, if_false, mI_thrown HS, mF_thrown HS, mR_row HS, mR_image HS, mR_earlier HS, mR_trial HS, mR_acts HS, mI_hasImage HS, mF_hasImage HS, mI_remembered HS, mF_remembered HS, mR_tape HS, mI_taped HS, mF_taped HS, mI_point HS, mF_point HS, mI_end HS, mF_end HS, mI_begin HS, mF_begin HS, mI_deep HS, mF_deep HS, mI_faultAt HS, mF_faultAt HS, mR_five HS, mI_codes HS, mF_codes HS, mR_value HS, mI_so HS, mF_so HS, mR_lines HS, mR_chosen HS, mR_best HS, mR_members HS, mR_paired HS, mO HS, mA_287 HS, mW_287 HS, mA_288 HS, mW_288 HS, mA_289 HS, mW_289 HS, mA_290 HS, mW_290 HS, mA_291 HS, mW_291 HS, mA_292 HS, mW_292 HS, mA_293 HS, mW_293 HS, mA_294 HS, mW_294 HS, mA_295 HS, mW_295 HS, mA_296 HS, mW_296 HS, mA_297 HS, mW_297 HS, mA_298 HS, mW_298 HS, mA_299 HS, mW_299 HS, x2.2.2, so, b241_49 hw]
          have x3 : XR b n e (u2 D2 286 13 (Int32.ofNat e)) p2 c2 := x2.u13
          refine k222 hw HS tb x3.1 (by decide) ?_ ?_
          · intro p3 D3 hT m3 t3 e3
            simp only [hT] at ky
            simp only [wi_some, or_0, or_1, bo_or, ite_boP, true_and, and_true, kN_v, kN_n, kT_v, kT_n, kT_e, Nat.add_zero, Nat.zero_add, b241_55 hw]
            exact ky p3 c2 D3 rfl (((m1.ml.tr (ML.u6 (by decide))).tr g2).tr ((ML.u6 (by decide)).tr m3.ml)) (x3.m1 m3 t3)
          · intro D3 hT m3 t3 e3
            simp only [hT] at kf
            simp only [wi_some, or_0, or_1, bo_or, ite_boP, true_and, and_true, kN_v, kN_n, kT_v, kT_n, kT_e, Nat.add_zero, Nat.zero_add, b241_55 hw]
            exact kf p2 D3 rfl (((m1.ml.tr (ML.u6 (by decide))).tr g2).tr ((ML.u6 (by decide)).tr m3.ml)) e3
    intro D0 hS m0 t0 e0
    have x0' := x0.m1 m0 t0
    have ky : ∀ p' c' D', (match wrd b n wNot p with
      | some p1 => if dp then (match N p1 cs with
        | .inl f => .inl f
        | .inr (p2, c2) => .inr (p2, c2 ++ [Int32.ofNat 1013])) else .inl p
      | none => match oneF b n tgWs 0 p with
        | some (k, p1) => .inr (p1, cs ++ [Int32.ofNat (1007 + k)])
        | none => match suS b n p cs with
          | .inl f => .inl f
          | .inr (p1, c1) => thS b n p1 c1 : pR) = .inr (p', c') → ML D0 D' → XR b n e D' p' c' → Q (.inl (some (.int (Int32.ofNat 1)))) (mk sh D') c s := fun p' c' D' h1 h2 => ky p' c' D' (by rw [← h1]; cases wrd b n wNot p <;> simp only [hS] <;> rfl) (m0.ml.tr h2)
    have kf : ∀ f D', (match wrd b n wNot p with
      | some p1 => if dp then (match N p1 cs with
        | .inl f => .inl f
        | .inr (p2, c2) => .inr (p2, c2 ++ [Int32.ofNat 1013])) else .inl p
      | none => match oneF b n tgWs 0 p with
        | some (k, p1) => .inr (p1, cs ++ [Int32.ofNat (1007 + k)])
        | none => match suS b n p cs with
          | .inl f => .inl f
          | .inr (p1, c1) => thS b n p1 c1 : pR) = .inl f → ML D0 D' → D' 286 12 = Int32.ofNat f → Q (.inl (some (.int (Int32.ofNat 0)))) (mk sh D') c s := fun f D' h1 h2 => kf f D' (by rw [← h1]; cases wrd b n wNot p <;> simp only [hS] <;> rfl) (m0.ml.tr h2)
    clear m0
    generalize hx : x0' = x0
    clear hx x0'
    simp only [wi_some, or_0, or_1, bo_or, ite_boP, true_and, and_true, kN_v, kN_n, kT_v, kT_n, kT_e, Nat.add_zero, Nat.zero_add, b241_6 hw, if_true, mI_thrown HS, mF_thrown HS, mR_row HS, mR_image HS, mR_earlier HS, mR_trial HS, mR_acts HS, mI_hasImage HS, mF_hasImage HS, mI_remembered HS, mF_remembered HS, mR_tape HS, mI_taped HS, mF_taped HS, mI_point HS, mF_point HS, mI_end HS, mF_end HS, mI_begin HS, mF_begin HS, mI_deep HS, mF_deep HS, mI_faultAt HS, mF_faultAt HS, mR_five HS, mI_codes HS, mF_codes HS, mR_value HS, mI_so HS, mF_so HS, mR_lines HS, mR_chosen HS, mR_best HS, mR_members HS, mR_paired HS, mO HS, mA_287 HS, mW_287 HS, mA_288 HS, mW_288 HS, mA_289 HS, mW_289 HS, mA_290 HS, mW_290 HS, mA_291 HS, mW_291 HS, mA_292 HS, mW_292 HS, mA_293 HS, mW_293 HS, mA_294 HS, mW_294 HS, mA_295 HS, mW_295 HS, mA_296 HS, mW_296 HS, mA_297 HS, mW_297 HS, mA_298 HS, mW_298 HS, mA_299 HS, mW_299 HS]
    refine k221 (i := 63) (w := wNot) hw HS tb x0.1 (by decide) (by decide +kernel) (by decide +kernel) ?_ ?_
    · intro p1 D1 hW m1 t1 e1
      obtain ⟨_, _, s1, s2, _⟩ := wrd_some hW hp.1
      have s1 : p + 3 ≤ p1 := s1
      have x1 := x0.m1 m1 t1
      simp only [hW] at kf ky
      simp only [wi_some, or_0, or_1, bo_or, ite_boP, true_and, and_true, kN_v, kN_n, kT_v, kT_n, kT_e, Nat.add_zero, Nat.zero_add, b241_62 hw, n10, if_false, mI_thrown HS, mF_thrown HS, mR_row HS, mR_image HS, mR_earlier HS, mR_trial HS, mR_acts HS, mI_hasImage HS, mF_hasImage HS, mI_remembered HS, mF_remembered HS, mR_tape HS, mI_taped HS, mF_taped HS, mI_point HS, mF_point HS, mI_end HS, mF_end HS, mI_begin HS, mF_begin HS, mI_deep HS, mF_deep HS, mI_faultAt HS, mF_faultAt HS, mR_five HS, mI_codes HS, mF_codes HS, mR_value HS, mI_so HS, mF_so HS, mR_lines HS, mR_chosen HS, mR_best HS, mR_members HS, mR_paired HS, mO HS, mA_287 HS, mW_287 HS, mA_288 HS, mW_288 HS, mA_289 HS, mW_289 HS, mA_290 HS, mW_290 HS, mA_291 HS, mW_291 HS, mA_292 HS, mW_292 HS, mA_293 HS, mW_293 HS, mA_294 HS, mW_294 HS, mA_295 HS, mW_295 HS, mA_296 HS, mW_296 HS, mA_297 HS, mW_297 HS, mA_298 HS, mW_298 HS, mA_299 HS, mW_299 HS, x1.2.2, oN_eq (show e < 2147483648 by omega) (show 6 < 2147483648 by omega)]
      cases dp with
      | false =>
        have h6 : e = 6 := by
          rcases Nat.lt_or_ge e 6 with h | h
          · have := hdp.mpr h; cases this
          · omega
        simp only [Bool.false_eq_true, if_false] at kf
        simp only [h6, if_true]
        exact kf _ _ rfl m1.ml e1
      | true =>
        have h6 : ¬ e = 6 := by have := hdp.mp rfl; omega
        simp only [if_true] at kf ky
        simp only [h6, if_false, oN_add]
        rw [b241_86 hw]
        simp only [mI_thrown HS, mF_thrown HS, mR_row HS, mR_image HS, mR_earlier HS, mR_trial HS, mR_acts HS, mI_hasImage HS, mF_hasImage HS, mI_remembered HS, mF_remembered HS, mR_tape HS, mI_taped HS, mF_taped HS, mI_point HS, mF_point HS, mI_end HS, mF_end HS, mI_begin HS, mF_begin HS, mI_deep HS, mF_deep HS, mI_faultAt HS, mF_faultAt HS, mR_five HS, mI_codes HS, mF_codes HS, mR_value HS, mI_so HS, mF_so HS, mR_lines HS, mR_chosen HS, mR_best HS, mR_members HS, mR_paired HS, mO HS, mA_287 HS, mW_287 HS, mA_288 HS, mW_288 HS, mA_289 HS, mW_289 HS, mA_290 HS, mW_290 HS, mA_291 HS, mW_291 HS, mA_292 HS, mW_292 HS, mA_293 HS, mW_293 HS, mA_294 HS, mW_294 HS, mA_295 HS, mW_295 HS, mA_296 HS, mW_296 HS, mA_297 HS, mW_297 HS, mA_298 HS, mW_298 HS, mA_299 HS, mW_299 HS, wi_some, or_0, or_1, bo_or, ite_boP, true_and, and_true, kN_v, kN_n, kT_v, kT_n, kT_e, Nat.add_zero, Nat.zero_add]
        refine hN rfl p1 cs _ 0 0 _ (x1.u13 (e' := e + 1)) (by omega) ?_ ?_
        · intro f D2 hP g2 e2
          simp only [hP] at kf
          simp only [wi_some, or_0, or_1, bo_or, ite_boP, true_and, and_true, kN_v, kN_n, kT_v, kT_n, kT_e, Nat.add_zero, Nat.zero_add, b241_90 hw, if_true]
          exact kf f D2 rfl ((m1.ml.tr (ML.u6 (by decide))).tr g2) e2
        · intro p2 c2 D2 hP g2 x2
          obtain ⟨a1, a2, a0, new, a3, a4, _⟩ := gN rfl p1 cs s2 p2 c2 hP
          have h3 : c2.length < 400 := by rw [a3, List.length_append]; omega
          simp only [hP] at kf ky
          have x3 : XR b n e (u2 D2 286 13 (Int32.ofNat e)) p2 c2 := x2.u13
          simp only [wi_some, or_0, or_1, bo_or, ite_boP, true_and, and_true, kN_v, kN_n, kT_v, kT_n, kT_e, Nat.add_zero, Nat.zero_add, b241_90 hw, n10, if_false, mI_thrown HS, mF_thrown HS, mR_row HS, mR_image HS, mR_earlier HS, mR_trial HS, mR_acts HS, mI_hasImage HS, mF_hasImage HS, mI_remembered HS, mF_remembered HS, mR_tape HS, mI_taped HS, mF_taped HS, mI_point HS, mF_point HS, mI_end HS, mF_end HS, mI_begin HS, mF_begin HS, mI_deep HS, mF_deep HS, mI_faultAt HS, mF_faultAt HS, mR_five HS, mI_codes HS, mF_codes HS, mR_value HS, mI_so HS, mF_so HS, mR_lines HS, mR_chosen HS, mR_best HS, mR_members HS, mR_paired HS, mO HS, mA_287 HS, mW_287 HS, mA_288 HS, mW_288 HS, mA_289 HS, mW_289 HS, mA_290 HS, mW_290 HS, mA_291 HS, mW_291 HS, mA_292 HS, mW_292 HS, mA_293 HS, mW_293 HS, mA_294 HS, mW_294 HS, mA_295 HS, mW_295 HS, mA_296 HS, mW_296 HS, mA_297 HS, mW_297 HS, mA_298 HS, mW_298 HS, mA_299 HS, mW_299 HS, x2.2.2, so, b241_105 hw, k236 hw HS h3 x3.2.1.1, b241_112 hw]
          exact ky p2 _ _ rfl (((m1.ml.tr (ML.u6 (by decide))).tr g2).tr ((ML.u6 (by decide)).tr pt_ml)) (x3.pt (by decide) (fun h => absurd h (by decide)))
    intro D1 hW m1 t1 e1
    have x1 := x0.m1 m1 t1
    simp only [hW] at kf ky
    simp only [wi_some, or_0, or_1, bo_or, ite_boP, true_and, and_true, kN_v, kN_n, kT_v, kT_n, kT_e, Nat.add_zero, Nat.zero_add, b241_62 hw, if_true, mI_thrown HS, mF_thrown HS, mR_row HS, mR_image HS, mR_earlier HS, mR_trial HS, mR_acts HS, mI_hasImage HS, mF_hasImage HS, mI_remembered HS, mF_remembered HS, mR_tape HS, mI_taped HS, mF_taped HS, mI_point HS, mF_point HS, mI_end HS, mF_end HS, mI_begin HS, mF_begin HS, mI_deep HS, mF_deep HS, mI_faultAt HS, mF_faultAt HS, mR_five HS, mI_codes HS, mF_codes HS, mR_value HS, mI_so HS, mF_so HS, mR_lines HS, mR_chosen HS, mR_best HS, mR_members HS, mR_paired HS, mO HS, mA_287 HS, mW_287 HS, mA_288 HS, mW_288 HS, mA_289 HS, mW_289 HS, mA_290 HS, mW_290 HS, mA_291 HS, mW_291 HS, mA_292 HS, mW_292 HS, mA_293 HS, mW_293 HS, mA_294 HS, mW_294 HS, mA_295 HS, mW_295 HS, mA_296 HS, mW_296 HS, mA_297 HS, mW_297 HS, mA_298 HS, mW_298 HS, mA_299 HS, mW_299 HS]
    refine k240 hw HS tb x1 (by omega) ?_ ?_
    rotate_left
    · intro k p2 D2 hO m2 x2
      simp only [hO] at ky
      simp only [wi_some, or_0, or_1, bo_or, ite_boP, true_and, and_true, kN_v, kN_n, kT_v, kT_n, kT_e, Nat.add_zero, Nat.zero_add, b241_118 hw, n10, if_false]
      exact ky p2 _ D2 rfl (m1.ml.tr m2) x2
    intro D2 hO m2 x2
    simp only [hO] at kf ky
    simp only [wi_some, or_0, or_1, bo_or, ite_boP, true_and, and_true, kN_v, kN_n, kT_v, kT_n, kT_e, Nat.add_zero, Nat.zero_add, b241_118 hw, if_true, mI_thrown HS, mF_thrown HS, mR_row HS, mR_image HS, mR_earlier HS, mR_trial HS, mR_acts HS, mI_hasImage HS, mF_hasImage HS, mI_remembered HS, mF_remembered HS, mR_tape HS, mI_taped HS, mF_taped HS, mI_point HS, mF_point HS, mI_end HS, mF_end HS, mI_begin HS, mF_begin HS, mI_deep HS, mF_deep HS, mI_faultAt HS, mF_faultAt HS, mR_five HS, mI_codes HS, mF_codes HS, mR_value HS, mI_so HS, mF_so HS, mR_lines HS, mR_chosen HS, mR_best HS, mR_members HS, mR_paired HS, mO HS, mA_287 HS, mW_287 HS, mA_288 HS, mW_288 HS, mA_289 HS, mW_289 HS, mA_290 HS, mW_290 HS, mA_291 HS, mW_291 HS, mA_292 HS, mW_292 HS, mA_293 HS, mW_293 HS, mA_294 HS, mW_294 HS, mA_295 HS, mW_295 HS, mA_296 HS, mW_296 HS, mA_297 HS, mW_297 HS, mA_298 HS, mW_298 HS, mA_299 HS, mW_299 HS]
    refine k239 hw HS tb x2 hl ?_ ?_
    · intro f D3 hP m3 e3
      simp only [hP] at kf
      simp only [wi_some, or_0, or_1, bo_or, ite_boP, true_and, and_true, kN_v, kN_n, kT_v, kT_n, kT_e, Nat.add_zero, Nat.zero_add, b241_127 hw, if_true]
      exact kf f D3 rfl ((m1.ml.tr m2).tr m3) e3
    intro p1 c1 D3 hP m3 x3
    obtain ⟨g, _, _⟩ := suS_pg (b := b) (cs := cs) hp.1
    obtain ⟨a1, a2, new, a3, a4⟩ := g p1 c1 hP
    have hl1 : c1.length + 3 ≤ p1 := by rw [a3, List.length_append]; omega
    simp only [hP] at kf ky
    unfold thS at kf ky
    simp only [wi_some, or_0, or_1, bo_or, ite_boP, true_and, and_true, kN_v, kN_n, kT_v, kT_n, kT_e, Nat.add_zero, Nat.zero_add, b241_127 hw, n10, if_false, mI_thrown HS, mF_thrown HS, mR_row HS, mR_image HS, mR_earlier HS, mR_trial HS, mR_acts HS, mI_hasImage HS, mF_hasImage HS, mI_remembered HS, mF_remembered HS, mR_tape HS, mI_taped HS, mF_taped HS, mI_point HS, mF_point HS, mI_end HS, mF_end HS, mI_begin HS, mF_begin HS, mI_deep HS, mF_deep HS, mI_faultAt HS, mF_faultAt HS, mR_five HS, mI_codes HS, mF_codes HS, mR_value HS, mI_so HS, mF_so HS, mR_lines HS, mR_chosen HS, mR_best HS, mR_members HS, mR_paired HS, mO HS, mA_287 HS, mW_287 HS, mA_288 HS, mW_288 HS, mA_289 HS, mW_289 HS, mA_290 HS, mW_290 HS, mA_291 HS, mW_291 HS, mA_292 HS, mW_292 HS, mA_293 HS, mW_293 HS, mA_294 HS, mW_294 HS, mA_295 HS, mW_295 HS, mA_296 HS, mW_296 HS, mA_297 HS, mW_297 HS, mA_298 HS, mW_298 HS, mA_299 HS, mW_299 HS]
    have m13 := (m1.ml.tr m2).tr m3
    have tail : ∀ (fl z y : Int32) p2 D4, p1 + 1 ≤ p2 → p2 ≤ n → z = (if fl = Int32.ofNat 0 then Int32.ofNat 13 else Int32.ofNat 12) → z = rcS y → ¬ y < Int32.ofNat 1000 → ML D0 D4 → XR b n e D4 p2 c1 → (∀ f D', suS b n p2 c1 = .inl f → ML D0 D' → D' 286 12 = Int32.ofNat f → Q (.inl (some (.int (Int32.ofNat 0)))) (mk sh D') c s) → (∀ p3 c3 D', suS b n p2 c1 = .inr (p3, c3) → ML D0 D' → XR b n e D' p3 (c3 ++ [y]) → Q (.inl (some (.int (Int32.ofNat 1)))) (mk sh D') c s) → Wx (tP nx xs) (ε + 5) 241 152 [some (.ref 286), (some (.int (fl)))] [] (mk sh D4) c s Q := by
      intro fl z y p2 D4 q1 q2 hz hzy hy m4 x4 kf ky
      simp only [b241_152 hw, mI_thrown HS, mF_thrown HS, mR_row HS, mR_image HS, mR_earlier HS, mR_trial HS, mR_acts HS, mI_hasImage HS, mF_hasImage HS, mI_remembered HS, mF_remembered HS, mR_tape HS, mI_taped HS, mF_taped HS, mI_point HS, mF_point HS, mI_end HS, mF_end HS, mI_begin HS, mF_begin HS, mI_deep HS, mF_deep HS, mI_faultAt HS, mF_faultAt HS, mR_five HS, mI_codes HS, mF_codes HS, mR_value HS, mI_so HS, mF_so HS, mR_lines HS, mR_chosen HS, mR_best HS, mR_members HS, mR_paired HS, mO HS, mA_287 HS, mW_287 HS, mA_288 HS, mW_288 HS, mA_289 HS, mW_289 HS, mA_290 HS, mW_290 HS, mA_291 HS, mW_291 HS, mA_292 HS, mW_292 HS, mA_293 HS, mW_293 HS, mA_294 HS, mW_294 HS, mA_295 HS, mW_295 HS, mA_296 HS, mW_296 HS, mA_297 HS, mW_297 HS, mA_298 HS, mW_298 HS, mA_299 HS, mW_299 HS, wi_some, or_0, or_1, bo_or, ite_boP, true_and, and_true, kN_v, kN_n, kT_v, kT_n, kT_e, Nat.add_zero, Nat.zero_add]
      refine k239 hw HS tb x4 (by omega) ?_ ?_
      · intro f D5 hP5 m5 e5
        simp only [wi_some, or_0, or_1, bo_or, ite_boP, true_and, and_true, kN_v, kN_n, kT_v, kT_n, kT_e, Nat.add_zero, Nat.zero_add, b241_156 hw, if_true, b241_159 hw]
        exact kf f D5 hP5 (m4.tr m5) e5
      · intro p3 c3 D5 hP5 m5 x5
        obtain ⟨g, _, _⟩ := suS_pg (b := b) (cs := c1) q2
        obtain ⟨b1, b2, new, b3, b4⟩ := g p3 c3 hP5
        have h4 : c3.length < 400 := by rw [b3, List.length_append]; omega
        simp only [wi_some, or_0, or_1, bo_or, ite_boP, true_and, and_true, kN_v, kN_n, kT_v, kT_n, kT_e, Nat.add_zero, Nat.zero_add, b241_156 hw, n10, if_false]
        have fin : Wx (tP nx xs) (ε + 5) 241 173 [some (.ref 286), (some (.int (fl)))] [.int z, .ref 286] (mk sh D5) c s Q := by
          simp only [b241_173 hw, mI_thrown HS, mF_thrown HS, mR_row HS, mR_image HS, mR_earlier HS, mR_trial HS, mR_acts HS, mI_hasImage HS, mF_hasImage HS, mI_remembered HS, mF_remembered HS, mR_tape HS, mI_taped HS, mF_taped HS, mI_point HS, mF_point HS, mI_end HS, mF_end HS, mI_begin HS, mF_begin HS, mI_deep HS, mF_deep HS, mI_faultAt HS, mF_faultAt HS, mR_five HS, mI_codes HS, mF_codes HS, mR_value HS, mI_so HS, mF_so HS, mR_lines HS, mR_chosen HS, mR_best HS, mR_members HS, mR_paired HS, mO HS, mA_287 HS, mW_287 HS, mA_288 HS, mW_288 HS, mA_289 HS, mW_289 HS, mA_290 HS, mW_290 HS, mA_291 HS, mW_291 HS, mA_292 HS, mW_292 HS, mA_293 HS, mW_293 HS, mA_294 HS, mW_294 HS, mA_295 HS, mW_295 HS, mA_296 HS, mW_296 HS, mA_297 HS, mW_297 HS, mA_298 HS, mW_298 HS, mA_299 HS, mW_299 HS, wi_some, or_0, or_1, bo_or, ite_boP, true_and, and_true, kN_v, kN_n, kT_v, kT_n, kT_e, Nat.add_zero, Nat.zero_add, k236 hw HS h4 x5.2.1.1, b241_177 hw]
          exact ky p3 c3 _ hP5 ((m4.tr m5).tr pt_ml) (x5.pt hzy (fun h => absurd h hy))
        rw [hz] at fin
        by_cases hfl : fl = Int32.ofNat 0
        · simp only [hfl, if_true] at fin ⊢; exact fin
        · simp only [hfl, if_false] at fin ⊢; exact fin
    refine k222 hw HS tb x3.1 (by decide) ?_ ?_
    · intro p2 D4 hA m4 t4 e4
      obtain ⟨_, _, _, s1, s2, _⟩ := sgn_some hA
      simp only [hA] at kf ky
      simp only [wi_some, or_0, or_1, bo_or, ite_boP, true_and, and_true, kN_v, kN_n, kT_v, kT_n, kT_e, Nat.add_zero, Nat.zero_add, b241_138 hw, n10, if_false]
      exact tail (Int32.ofNat 1) (Int32.ofNat 12) (Int32.ofNat 1011) p2 D4 s1 s2 (by decide) (by decide) (by decide) (m13.tr m4.ml) (x3.m1 m4 t4) (fun f D' h => kf f D' (by rw [h])) (fun p3 c3 D' h => ky p3 _ D' (by rw [h]))
    intro D4 hA m4 t4 e4
    have x4 := x3.m1 m4 t4
    simp only [hA] at kf ky
    simp only [wi_some, or_0, or_1, bo_or, ite_boP, true_and, and_true, kN_v, kN_n, kT_v, kT_n, kT_e, Nat.add_zero, Nat.zero_add, b241_138 hw, if_true, mI_thrown HS, mF_thrown HS, mR_row HS, mR_image HS, mR_earlier HS, mR_trial HS, mR_acts HS, mI_hasImage HS, mF_hasImage HS, mI_remembered HS, mF_remembered HS, mR_tape HS, mI_taped HS, mF_taped HS, mI_point HS, mF_point HS, mI_end HS, mF_end HS, mI_begin HS, mF_begin HS, mI_deep HS, mF_deep HS, mI_faultAt HS, mF_faultAt HS, mR_five HS, mI_codes HS, mF_codes HS, mR_value HS, mI_so HS, mF_so HS, mR_lines HS, mR_chosen HS, mR_best HS, mR_members HS, mR_paired HS, mO HS, mA_287 HS, mW_287 HS, mA_288 HS, mW_288 HS, mA_289 HS, mW_289 HS, mA_290 HS, mW_290 HS, mA_291 HS, mW_291 HS, mA_292 HS, mW_292 HS, mA_293 HS, mW_293 HS, mA_294 HS, mW_294 HS, mA_295 HS, mW_295 HS, mA_296 HS, mW_296 HS, mA_297 HS, mW_297 HS, mA_298 HS, mW_298 HS, mA_299 HS, mW_299 HS]
    refine k222 hw HS tb x4.1 (by decide) ?_ ?_
    · intro p2 D5 hB m5 t5 e5
      obtain ⟨_, _, _, s1, s2, _⟩ := sgn_some hB
      simp only [hB] at kf ky
      simp only [wi_some, or_0, or_1, bo_or, ite_boP, true_and, and_true, kN_v, kN_n, kT_v, kT_n, kT_e, Nat.add_zero, Nat.zero_add, b241_149 hw, n10, if_false]
      exact tail (Int32.ofNat 0) (Int32.ofNat 13) (Int32.ofNat 1012) p2 D5 s1 s2 (by decide) (by decide) (by decide) ((m13.tr m4.ml).tr m5.ml) (x4.m1 m5 t5) (fun f D' h => kf f D' (by rw [h])) (fun p3 c3 D' h => ky p3 _ D' (by rw [h]))
    · intro D5 hB m5 t5 e5
      simp only [hB] at kf
      simp only [wi_some, or_0, or_1, bo_or, ite_boP, true_and, and_true, kN_v, kN_n, kT_v, kT_n, kT_e, Nat.add_zero, Nat.zero_add, b241_149 hw, if_true, b241_159 hw]
      exact kf p1 D5 rfl ((m13.tr m4.ml).tr m5.ml) e5
  intro d
  induction d with
  | zero =>
    intro _ δ
    exact base δ 6 _ _ false (by omega) ⟨fun h => (by cases h), fun h => (by omega)⟩ ((pA_gd (b := b) (n := n) 0 (by omega)).le (by omega)) (fun h => (by cases h)) (fun h => (by cases h)) (fun h => (by cases h)) (fun h => (by cases h))
  | succ d ih =>
    intro hd δ
    have ih := ih (by omega)
    have gd := pA_gd (b := b) (n := n) d (by omega)
    have e6 : 6 - (d + 1) + 1 = 6 - d := by omega
    have hb := base (δ + 3 + 3 * d) (6 - (d + 1)) (pA b n d) (coS b n (pA b n d)) true (by omega) ⟨fun _ => (by omega), fun _ => rfl⟩ ((pA_gd (b := b) (n := n) (d + 1) hd).le (by omega)) (fun _ => gd.le (by omega)) (fun _ => coS_gd (h := 0) (gd.le (by omega)))
    rw [e6] at hb
    rw [show δ + 5 + 3 * (d + 1) = δ + 3 + 3 * d + 5 by omega]
    refine hb (fun _ => ?_) (fun _ => ?_)
    · rw [show δ + 3 + 3 * d + 4 = (δ + 2) + 5 + 3 * d by omega]
      exact ih (δ + 2)
    · have := k243 (δ := δ + 2 + 3 * d) (e := 6 - d) (h := 0) hw HS tb (gd.le (by omega)) (by rw [show δ + 2 + 3 * d + 3 = δ + 5 + 3 * d by omega]; exact ih δ)
      rw [show δ + 3 + 3 * d + 4 = δ + 2 + 3 * d + 5 by omega]
      exact this
end CC9
