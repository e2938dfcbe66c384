/-! ===== law, in the reference ===== -/
def LNr (D : sD) (ls : List (Nat × Nat × Nat)) : Prop := ∀ j, j < ls.length → D 287 (1202 + 4 * j) = Int32.ofNat (ls.getD j (0, 0, 0)).1 ∧ (¬ (ls.getD j (0, 0, 0)).1 = 2 → D 287 (1202 + 4 * j + 1) = Int32.ofNat (ls.getD j (0, 0, 0)).2.1) ∧ D 287 (1202 + 4 * j + 2) = Int32.ofNat (enL ls j) ∧ D 287 (1202 + 4 * j + 3) = Int32.ofNat (enL ls (j + 1))
def MW (D D' : sD) : Prop := ∀ e i, ¬ (e = 286 ∧ (i = 0 ∨ i = 9 ∨ i = 10 ∨ i = 11 ∨ i = 12 ∨ i = 13 ∨ i = 16)) → ¬ (e = 287 ∧ 1201 ≤ i) → D' e i = D e i
def MX (D D' : sD) : Prop := ∀ e i, ¬ (e = 286 ∧ (i = 10 ∨ i = 12 ∨ i = 13 ∨ i = 16)) → ¬ (e = 287 ∧ 1201 ≤ i) → D' e i = D e i
theorem MX.rf {D : sD} : MX D D := fun _ _ _ _ => rfl
theorem MX.tr {D D' D'' : sD} (h : MX D D') (h' : MX D' D'') : MX D D'' := fun e i h1 h2 => (h' e i h1 h2).trans (h e i h1 h2)
theorem MK.mx {j : Nat} {D D' : sD} (h : MK j D D') : MX D D' := fun e i h1 h2 => h e i h1 (by omega)
theorem M1.mx {D D' : sD} (h : M1 D D') : MX D D' := fun e i h1 _ => h e i (by omega)
theorem LNr.m1 {D D' : sD} {ls : List (Nat × Nat × Nat)} (h : LNr D ls) (f : M1 D D') : LNr D' ls := fun j hj => by
  rw [f 287 _ (by omega), f 287 _ (by omega), f 287 _ (by omega), f 287 _ (by omega)]; exact h j hj
section CD1
variable {nx : Nat} {xs : Nat → Int32} {d c s : Nat} {sh : List sC} {D : sD} {Q : av_Q}
variable {b : Nat → Nat} {n p j : Nat} {cs : List Int32}
theorem k245l (hw : WT sh) (HS : SP sh) (tb : TB b n) (hj : j < 100) (tr : TpR b n D p) (q0 : LQr D cs) (l0 : cs.length ≤ p)
    (kf : ∀ f D', (if j < 12 then liS b n p cs else .inl p) = .inl f → MK j D D' → D' 286 12 = Int32.ofNat f → Q (.inl (some (.int (Int32.ofNat 0)))) (mk sh D') c s)
    (ky : ∀ p' c' kd a D', (if j < 12 then liS b n p cs else .inl p) = .inr (p', c', kd, a) → MK j D D' → TpR b n D' p' → LQr D' c' → D' 287 (1202 + 4 * j) = Int32.ofNat kd → (¬ kd = 2 → D' 287 (1202 + 4 * j + 1) = Int32.ofNat a) → D' 287 (1202 + 4 * j + 2) = Int32.ofNat cs.length → D' 287 (1202 + 4 * j + 3) = Int32.ofNat c'.length → Q (.inl (some (.int (Int32.ofNat 1)))) (mk sh D') c s) :
    Wx (tP nx xs) (d + 27) 245 0 [some (.ref 286), (some (.int (Int32.ofNat 0))), (some (.int (Int32.ofNat j)))] [] (mk sh D) c s Q := by
  have n10 : ¬ (Int32.ofNat 1 : Int32) = Int32.ofNat 0 := by decide
  have hp := tr.le
  simp only [b245_0 hw, mI_thrown HS, mF_thrown HS, mR_row HS, mR_image HS, mR_earlier HS, mR_trial HS, mR_acts HS, mI_hasImage HS, mF_hasImage HS, mI_remembered HS, mF_remembered HS, mR_tape HS, mI_taped HS, mF_taped HS, mI_point HS, mF_point HS, mI_end HS, mF_end HS, mI_begin HS, mF_begin HS, mI_deep HS, mF_deep HS, mI_faultAt HS, mF_faultAt HS, mR_five HS, mI_codes HS, mF_codes HS, mR_value HS, mI_so HS, mF_so HS, mR_lines HS, mR_chosen HS, mR_best HS, mR_members HS, mR_paired HS, mO HS, mA_287 HS, mW_287 HS, mA_288 HS, mW_288 HS, mA_289 HS, mW_289 HS, mA_290 HS, mW_290 HS, mA_291 HS, mW_291 HS, mA_292 HS, mW_292 HS, mA_293 HS, mW_293 HS, mA_294 HS, mW_294 HS, mA_295 HS, mW_295 HS, mA_296 HS, mW_296 HS, mA_297 HS, mW_297 HS, mA_298 HS, mW_298 HS, mA_299 HS, mW_299 HS, wi_some, or_0, or_1, bo_or, ite_boP, true_and, and_true, kN_v, kN_n, kT_v, kT_n, kT_e, Nat.add_zero, Nat.zero_add]
  refine k219 hw HS tb tr ?_
  intro D1 m1 rb1 e10 e12
  simp only [wi_some, or_0, or_1, bo_or, ite_boP, true_and, and_true, kN_v, kN_n, kT_v, kT_n, kT_e, Nat.add_zero, Nat.zero_add, b245_4 hw, if_true, b245_16 hw, oN_lt (show j < 2147483648 by omega) (show 12 < 2147483648 by omega)]
  by_cases h : j < 12
  · rw [if_pos h] at kf ky
    simp only [h, if_true, mI_thrown HS, mF_thrown HS, mR_row HS, mR_image HS, mR_earlier HS, mR_trial HS, mR_acts HS, mI_hasImage HS, mF_hasImage HS, mI_remembered HS, mF_remembered HS, mR_tape HS, mI_taped HS, mF_taped HS, mI_point HS, mF_point HS, mI_end HS, mF_end HS, mI_begin HS, mF_begin HS, mI_deep HS, mF_deep HS, mI_faultAt HS, mF_faultAt HS, mR_five HS, mI_codes HS, mF_codes HS, mR_value HS, mI_so HS, mF_so HS, mR_lines HS, mR_chosen HS, mR_best HS, mR_members HS, mR_paired HS, mO HS, mA_287 HS, mW_287 HS, mA_288 HS, mW_288 HS, mA_289 HS, mW_289 HS, mA_290 HS, mW_290 HS, mA_291 HS, mW_291 HS, mA_292 HS, mW_292 HS, mA_293 HS, mW_293 HS, mA_294 HS, mW_294 HS, mA_295 HS, mW_295 HS, mA_296 HS, mW_296 HS, mA_297 HS, mW_297 HS, mA_298 HS, mW_298 HS, mA_299 HS, mW_299 HS, wi_some, or_0, or_1, bo_or, ite_boP, true_and, and_true, kN_v, kN_n, kT_v, kT_n, kT_e, Nat.add_zero, Nat.zero_add]
    refine k244 hw HS tb h rb1 hp.1 e10 e12 (q0.m1 m1) l0 ?_ ?_
    · intro f D2 hP m2 e2
      simp only [wi_some, or_0, or_1, bo_or, ite_boP, true_and, and_true, kN_v, kN_n, kT_v, kT_n, kT_e, Nat.add_zero, Nat.zero_add, b245_38 hw, if_true, b245_45 hw, b245_46 hw]
      exact kf f D2 hP (m1.mk'.tr m2) e2
    · intro p' c' kd a D2 hP m2 t2 q2 r0 r1 r2 r3
      simp only [wi_some, or_0, or_1, bo_or, ite_boP, true_and, and_true, kN_v, kN_n, kT_v, kT_n, kT_e, Nat.add_zero, Nat.zero_add, b245_38 hw, n10, if_false, b245_41 hw, b245_46 hw]
      exact ky p' c' kd a D2 hP (m1.mk'.tr m2) t2 q2 r0 r1 r2 r3
  · rw [if_neg h] at kf
    simp only [h, if_false, b245_45 hw, b245_46 hw, wi_some, or_0, or_1, bo_or, ite_boP, true_and, and_true, kN_v, kN_n, kT_v, kT_n, kT_e, Nat.add_zero, Nat.zero_add]
    exact kf p D1 rfl m1.mk' e12
theorem k246l (hw : WT sh) (HS : SP sh) (tb : TB b n) (h9 : D 286 9 = Int32.ofNat n) (hb : ∀ i, i < n → D 292 i = by8 (Int32.ofNat (b i)))
    (kf : ∀ f D', lwS b n = .inl f → MW D D' → D' 286 12 = Int32.ofNat f → D' 286 9 = Int32.ofNat 0 → D' 286 0 = Int32.ofNat 0 → Q (.inl (some (.int (-1)))) (mk sh D') c s)
    (ky : ∀ ls cs D', lwS b n = .inr (ls, cs) → MW D D' → LQr D' cs → LNr D' ls → D' 286 9 = Int32.ofNat 0 → D' 286 0 = Int32.ofNat 0 → Q (.inl (some (.int (Int32.ofNat ls.length)))) (mk sh D') c s) :
    Wx (tP nx xs) (d + 28) 246 0 [some (.ref 286), (some (.int (Int32.ofNat 0))), none] [] (mk sh D) c s Q := by
  have n10 : ¬ (Int32.ofNat 1 : Int32) = Int32.ofNat 0 := by decide
  have hn := tb.1
  have h0 : sk b n 0 ≤ n := sk_le (Nat.zero_le _)
  simp only [b246_0 hw, mI_thrown HS, mF_thrown HS, mR_row HS, mR_image HS, mR_earlier HS, mR_trial HS, mR_acts HS, mI_hasImage HS, mF_hasImage HS, mI_remembered HS, mF_remembered HS, mR_tape HS, mI_taped HS, mF_taped HS, mI_point HS, mF_point HS, mI_end HS, mF_end HS, mI_begin HS, mF_begin HS, mI_deep HS, mF_deep HS, mI_faultAt HS, mF_faultAt HS, mR_five HS, mI_codes HS, mF_codes HS, mR_value HS, mI_so HS, mF_so HS, mR_lines HS, mR_chosen HS, mR_best HS, mR_members HS, mR_paired HS, mO HS, mA_287 HS, mW_287 HS, mA_288 HS, mW_288 HS, mA_289 HS, mW_289 HS, mA_290 HS, mW_290 HS, mA_291 HS, mW_291 HS, mA_292 HS, mW_292 HS, mA_293 HS, mW_293 HS, mA_294 HS, mW_294 HS, mA_295 HS, mW_295 HS, mA_296 HS, mW_296 HS, mA_297 HS, mW_297 HS, mA_298 HS, mW_298 HS, mA_299 HS, mW_299 HS, wi_some, or_0, or_1, bo_or, ite_boP, true_and, and_true, kN_v, kN_n, kT_v, kT_n, kT_e, Nat.add_zero, Nat.zero_add, k227u hw HS, b246_4 hw, b246_9 hw, h9]
  generalize hD0 : u2 (u2 (u2 (u2 (u2 D 286 0 (Int32.ofNat 0)) 286 11 (Int32.ofNat n)) 286 9 (Int32.ofNat 0)) 286 10 (Int32.ofNat 0)) 286 16 (Int32.ofNat 0) = D0
  have u0 : MW D D0 := fun e i h1 h2 => by rw [← hD0, u2_at, if_neg (by omega), u2_at, if_neg (by omega), u2_at, if_neg (by omega), u2_at, if_neg (by omega), u2_at, if_neg (by omega)]
  have e9 : D0 286 9 = Int32.ofNat 0 := by rw [← hD0, u2_at, if_neg (by omega), u2_at, if_neg (by omega), u2_at, if_pos ⟨rfl, rfl⟩]
  have e0 : D0 286 0 = Int32.ofNat 0 := by rw [← hD0, u2_at, if_neg (by omega), u2_at, if_neg (by omega), u2_at, if_neg (by omega), u2_at, if_neg (by omega), u2_at, if_pos ⟨rfl, rfl⟩]
  have rb0 : RB b n D0 := ⟨by rw [← hD0, u2_at, if_neg (by omega), u2_at, if_neg (by omega), u2_at, if_neg (by omega), u2_at, if_pos ⟨rfl, rfl⟩], fun i hi => by rw [u0 292 i (by omega) (by omega)]; exact hb i hi⟩
  have e10 : D0 286 10 = Int32.ofNat 0 := by rw [← hD0, u2_at, if_neg (by omega), u2_at, if_pos ⟨rfl, rfl⟩]
  have q0 : LQr D0 [] := ⟨by rw [← hD0, u2_at, if_pos ⟨rfl, rfl⟩]; rfl, fun i hi => absurd hi (Nat.not_lt_zero _)⟩
  refine k218 hw HS tb rb0 e10 (Nat.zero_le _) ?_
  intro D1 m1 a10 a12
  have e11 := (rb0.m1 m1).1
  have q1 := q0.m1 m1
  have q9 : ∀ {D' : sD}, MX D1 D' → D' 286 9 = Int32.ofNat 0 ∧ D' 286 0 = Int32.ofNat 0 := fun {D'} h => ⟨by rw [h 286 9 (by omega) (by omega), m1 286 9 (by omega)]; exact e9, by rw [h 286 0 (by omega) (by omega), m1 286 0 (by omega)]; exact e0⟩
  have um : ∀ {D' : sD}, MX D1 D' → MW D D' := fun {D'} h e i h1 h2 => by rw [h e i (by omega) h2, m1 e i (by omega), u0 e i h1 h2]
  unfold lwS at kf ky
  simp only [wi_some, or_0, or_1, bo_or, ite_boP, true_and, and_true, kN_v, kN_n, kT_v, kT_n, kT_e, Nat.add_zero, Nat.zero_add, b246_13 hw, mI_thrown HS, mF_thrown HS, mR_row HS, mR_image HS, mR_earlier HS, mR_trial HS, mR_acts HS, mI_hasImage HS, mF_hasImage HS, mI_remembered HS, mF_remembered HS, mR_tape HS, mI_taped HS, mF_taped HS, mI_point HS, mF_point HS, mI_end HS, mF_end HS, mI_begin HS, mF_begin HS, mI_deep HS, mF_deep HS, mI_faultAt HS, mF_faultAt HS, mR_five HS, mI_codes HS, mF_codes HS, mR_value HS, mI_so HS, mF_so HS, mR_lines HS, mR_chosen HS, mR_best HS, mR_members HS, mR_paired HS, mO HS, mA_287 HS, mW_287 HS, mA_288 HS, mW_288 HS, mA_289 HS, mW_289 HS, mA_290 HS, mW_290 HS, mA_291 HS, mW_291 HS, mA_292 HS, mW_292 HS, mA_293 HS, mW_293 HS, mA_294 HS, mW_294 HS, mA_295 HS, mW_295 HS, mA_296 HS, mW_296 HS, mA_297 HS, mW_297 HS, mA_298 HS, mW_298 HS, mA_299 HS, mW_299 HS, a10, e11, oN_eq (show sk b n 0 < 2147483648 by omega) (show n < 2147483648 by omega)]
  by_cases he : sk b n 0 = n
  · simp only [he, if_true] at ky ⊢
    exact ky [] [] D1 rfl (um MX.rf) q1 (fun j hj => absurd hj (Nat.not_lt_zero _)) (q9 MX.rf).1 (q9 MX.rf).2
  · simp only [he, if_false] at kf ky ⊢
    have lp : ∀ k (ls : List (Nat × Nat × Nat)) p cs D2, ls.length + k = 12 → MX D1 D2 → TpR b n D2 p → LQr D2 cs → LNr D2 ls → enL ls ls.length = cs.length → cs.length ≤ p → (∀ f D', lisS b n k ls p cs = .inl f → MX D1 D' → D' 286 12 = Int32.ofNat f → Q (.inl (some (.int (-1)))) (mk sh D') c s) → (∀ ls' cs' D', lisS b n k ls p cs = .inr (ls', cs') → MX D1 D' → LQr D' cs' → LNr D' ls' → Q (.inl (some (.int (Int32.ofNat ls'.length)))) (mk sh D') c s) → Wx (tP nx xs) (d + 28) 246 28 [some (.ref 286), (some (.int (Int32.ofNat 0))), (some (.int (Int32.ofNat ls.length)))] [] (mk sh D2) c s Q := by
      intro k
      induction k with
      | zero =>
        intro ls p cs D2 hk g2 t2 q2 n2 en l2 kf ky
        rw [b246_28 hw]
        simp only [mI_thrown HS, mF_thrown HS, mR_row HS, mR_image HS, mR_earlier HS, mR_trial HS, mR_acts HS, mI_hasImage HS, mF_hasImage HS, mI_remembered HS, mF_remembered HS, mR_tape HS, mI_taped HS, mF_taped HS, mI_point HS, mF_point HS, mI_end HS, mF_end HS, mI_begin HS, mF_begin HS, mI_deep HS, mF_deep HS, mI_faultAt HS, mF_faultAt HS, mR_five HS, mI_codes HS, mF_codes HS, mR_value HS, mI_so HS, mF_so HS, mR_lines HS, mR_chosen HS, mR_best HS, mR_members HS, mR_paired HS, mO HS, mA_287 HS, mW_287 HS, mA_288 HS, mW_288 HS, mA_289 HS, mW_289 HS, mA_290 HS, mW_290 HS, mA_291 HS, mW_291 HS, mA_292 HS, mW_292 HS, mA_293 HS, mW_293 HS, mA_294 HS, mW_294 HS, mA_295 HS, mW_295 HS, mA_296 HS, mW_296 HS, mA_297 HS, mW_297 HS, mA_298 HS, mW_298 HS, mA_299 HS, mW_299 HS, wi_some, or_0, or_1, bo_or, ite_boP, true_and, and_true, kN_v, kN_n, kT_v, kT_n, kT_e, Nat.add_zero, Nat.zero_add]
        refine k245l hw HS tb (show ls.length < 100 by omega) t2 q2 l2 ?_ ?_
        · intro f D3 h m3 e3
          rw [if_neg (by omega)] at h
          cases h
          simp only [wi_some, or_0, or_1, bo_or, ite_boP, true_and, and_true, kN_v, kN_n, kT_v, kT_n, kT_e, Nat.add_zero, Nat.zero_add, b246_34 hw, if_true]
          exact kf _ D3 rfl (g2.tr m3.mx) e3
        · intro p' c' kd a D3 h
          rw [if_neg (by omega)] at h
          cases h
      | succ k ih =>
        intro ls p cs D2 hk g2 t2 q2 n2 en l2 kf ky
        have hp := t2.le
        unfold lisS at kf ky
        rw [b246_28 hw]
        simp only [mI_thrown HS, mF_thrown HS, mR_row HS, mR_image HS, mR_earlier HS, mR_trial HS, mR_acts HS, mI_hasImage HS, mF_hasImage HS, mI_remembered HS, mF_remembered HS, mR_tape HS, mI_taped HS, mF_taped HS, mI_point HS, mF_point HS, mI_end HS, mF_end HS, mI_begin HS, mF_begin HS, mI_deep HS, mF_deep HS, mI_faultAt HS, mF_faultAt HS, mR_five HS, mI_codes HS, mF_codes HS, mR_value HS, mI_so HS, mF_so HS, mR_lines HS, mR_chosen HS, mR_best HS, mR_members HS, mR_paired HS, mO HS, mA_287 HS, mW_287 HS, mA_288 HS, mW_288 HS, mA_289 HS, mW_289 HS, mA_290 HS, mW_290 HS, mA_291 HS, mW_291 HS, mA_292 HS, mW_292 HS, mA_293 HS, mW_293 HS, mA_294 HS, mW_294 HS, mA_295 HS, mW_295 HS, mA_296 HS, mW_296 HS, mA_297 HS, mW_297 HS, mA_298 HS, mW_298 HS, mA_299 HS, mW_299 HS, wi_some, or_0, or_1, bo_or, ite_boP, true_and, and_true, kN_v, kN_n, kT_v, kT_n, kT_e, Nat.add_zero, Nat.zero_add]
        refine k245l hw HS tb (show ls.length < 100 by omega) t2 q2 l2 ?_ ?_
        · intro f D3 h m3 e3
          rw [if_pos (by omega)] at h
          simp only [h] at kf
          simp only [wi_some, or_0, or_1, bo_or, ite_boP, true_and, and_true, kN_v, kN_n, kT_v, kT_n, kT_e, Nat.add_zero, Nat.zero_add, b246_34 hw, if_true]
          exact kf f D3 rfl (g2.tr m3.mx) e3
        · intro p' c1 kd a D3 h m3 t3 q3 y0 y1 y2 y3
          rw [if_pos (by omega)] at h
          obtain ⟨a1, a2, a3, a4, _, new, a5, a6, _⟩ := liS_gd hp.1 p' c1 kd a h
          simp only [h] at kf ky
          have hl : (ls ++ [(kd, a, c1.length)]).length = ls.length + 1 := by rw [List.length_append, List.length_singleton]
          have hc : c1.length ≤ p' := by rw [a5, List.length_append]; omega
          have n3 : LNr D3 (ls ++ [(kd, a, c1.length)]) := fun j hj => by
            rw [hl] at hj
            rw [gDl_app hj, enL_app (show j ≤ ls.length by omega)]
            by_cases e : j = ls.length
            · subst e
              rw [if_pos rfl, enL_last, en]
              exact ⟨y0, y1, y2, y3⟩
            · rw [if_neg e, enL_app (show j + 1 ≤ ls.length by omega), m3 287 (1202 + 4 * j) (by omega) (by omega), m3 287 (1202 + 4 * j + 1) (by omega) (by omega), m3 287 (1202 + 4 * j + 2) (by omega) (by omega), m3 287 (1202 + 4 * j + 3) (by omega) (by omega)]
              exact n2 j (by omega)
          simp only [wi_some, or_0, or_1, bo_or, ite_boP, true_and, and_true, kN_v, kN_n, kT_v, kT_n, kT_e, Nat.add_zero, Nat.zero_add, b246_34 hw, n10, if_false, mI_thrown HS, mF_thrown HS, mR_row HS, mR_image HS, mR_earlier HS, mR_trial HS, mR_acts HS, mI_hasImage HS, mF_hasImage HS, mI_remembered HS, mF_remembered HS, mR_tape HS, mI_taped HS, mF_taped HS, mI_point HS, mF_point HS, mI_end HS, mF_end HS, mI_begin HS, mF_begin HS, mI_deep HS, mF_deep HS, mI_faultAt HS, mF_faultAt HS, mR_five HS, mI_codes HS, mF_codes HS, mR_value HS, mI_so HS, mF_so HS, mR_lines HS, mR_chosen HS, mR_best HS, mR_members HS, mR_paired HS, mO HS, mA_287 HS, mW_287 HS, mA_288 HS, mW_288 HS, mA_289 HS, mW_289 HS, mA_290 HS, mW_290 HS, mA_291 HS, mW_291 HS, mA_292 HS, mW_292 HS, mA_293 HS, mW_293 HS, mA_294 HS, mW_294 HS, mA_295 HS, mW_295 HS, mA_296 HS, mW_296 HS, mA_297 HS, mW_297 HS, mA_298 HS, mW_298 HS, mA_299 HS, mW_299 HS]
          refine k218t hw HS tb t3 ?_
          intro D4 m4 rb4 f10 f12
          have hp3 := t3.le
          have g4 := (g2.tr m3.mx).tr m4.mx
          have n4 := n3.m1 m4
          have q4 := q3.m1 m4
          simp only [wi_some, or_0, or_1, bo_or, ite_boP, true_and, and_true, kN_v, kN_n, kT_v, kT_n, kT_e, Nat.add_zero, Nat.zero_add, b246_43 hw, mI_thrown HS, mF_thrown HS, mR_row HS, mR_image HS, mR_earlier HS, mR_trial HS, mR_acts HS, mI_hasImage HS, mF_hasImage HS, mI_remembered HS, mF_remembered HS, mR_tape HS, mI_taped HS, mF_taped HS, mI_point HS, mF_point HS, mI_end HS, mF_end HS, mI_begin HS, mF_begin HS, mI_deep HS, mF_deep HS, mI_faultAt HS, mF_faultAt HS, mR_five HS, mI_codes HS, mF_codes HS, mR_value HS, mI_so HS, mF_so HS, mR_lines HS, mR_chosen HS, mR_best HS, mR_members HS, mR_paired HS, mO HS, mA_287 HS, mW_287 HS, mA_288 HS, mW_288 HS, mA_289 HS, mW_289 HS, mA_290 HS, mW_290 HS, mA_291 HS, mW_291 HS, mA_292 HS, mW_292 HS, mA_293 HS, mW_293 HS, mA_294 HS, mW_294 HS, mA_295 HS, mW_295 HS, mA_296 HS, mW_296 HS, mA_297 HS, mW_297 HS, mA_298 HS, mW_298 HS, mA_299 HS, mW_299 HS, f10, rb4.1, oN_eq (show p' < 2147483648 by omega) (show n < 2147483648 by omega), oN_add]
          rw [← hl]
          by_cases hpn : p' = n
          · have hs : sgq b n 59 p' = none := by
              unfold sgq
              cases hB : isB b n 59 59 p' with
              | false => rfl
              | true => have := isB_lt hB; omega
            simp only [hs, if_pos hpn] at ky
            simp only [hpn, if_true]
            exact ky _ _ D4 rfl g4 q4 n4
          · simp only [hpn, if_false, k217 hw HS tb rb4 f10 hp3.1 (show 59 < 128 by decide) (show 59 < 128 by decide), wi_some, or_0, or_1, bo_or, ite_boP, true_and, and_true, kN_v, kN_n, kT_v, kT_n, kT_e, Nat.add_zero, Nat.zero_add, b246_66 hw, mI_thrown HS, mF_thrown HS, mR_row HS, mR_image HS, mR_earlier HS, mR_trial HS, mR_acts HS, mI_hasImage HS, mF_hasImage HS, mI_remembered HS, mF_remembered HS, mR_tape HS, mI_taped HS, mF_taped HS, mI_point HS, mF_point HS, mI_end HS, mF_end HS, mI_begin HS, mF_begin HS, mI_deep HS, mF_deep HS, mI_faultAt HS, mF_faultAt HS, mR_five HS, mI_codes HS, mF_codes HS, mR_value HS, mI_so HS, mF_so HS, mR_lines HS, mR_chosen HS, mR_best HS, mR_members HS, mR_paired HS, mO HS, mA_287 HS, mW_287 HS, mA_288 HS, mW_288 HS, mA_289 HS, mW_289 HS, mA_290 HS, mW_290 HS, mA_291 HS, mW_291 HS, mA_292 HS, mW_292 HS, mA_293 HS, mW_293 HS, mA_294 HS, mW_294 HS, mA_295 HS, mW_295 HS, mA_296 HS, mW_296 HS, mA_297 HS, mW_297 HS, mA_298 HS, mW_298 HS, mA_299 HS, mW_299 HS, f10, b246_81 hw, oN_add]
            rw [← hl]
            cases hB : isB b n 59 59 p' with
            | false =>
              have hs : sgq b n 59 p' = none := by unfold sgq; rw [hB]; rfl
              simp only [hs, hpn, if_false] at kf
              simp only [Bool.false_eq_true, if_false]
              exact kf p' D4 rfl g4 f12
            | true =>
              have hs : sgq b n 59 p' = some (sk b n (p' + 1)) := by unfold sgq; rw [hB]; rfl
              have hlt := isB_lt hB
              have hge : p' + 1 ≤ sk b n (p' + 1) := sk_ge
              simp only [hs] at kf ky
              simp only [if_true]
              have m5 : M1 D4 (u2 D4 286 10 (Int32.ofNat (p' + 1))) := fun e i h => by rw [u2_at, if_neg (by omega)]
              exact ih _ _ c1 _ (by rw [hl]; omega) (g4.tr m5.mx) (TpR.of rb4 m5 (by omega) rfl (by rw [u2_at, if_pos ⟨rfl, rfl⟩])) (q4.m1 m5) (n4.m1 m5) (by rw [hl, enL_last]) (by omega) kf ky
    exact lp 12 [] (sk b n 0) [] D1 rfl MX.rf (TpR.of rb0 m1 h0 sk_sk a10) q1 (fun j hj => absurd hj (Nat.not_lt_zero _)) rfl (Nat.zero_le _) (fun f D' h g e => kf f D' h (um g) e (q9 g).1 (q9 g).2) (fun ls cs D' h g q l => ky ls cs D' h (um g) q l (q9 g).1 (q9 g).2)
end CD1
section CD2
variable {nx : Nat} {xs : Nat → Int32} {d c s : Nat} {sh : List sC} {D : sD} {Q : av_Q}
variable {G : GT}
theorem GV.lw {x : Int32} {K A C : Nat → Int32} {ls : List (Nat × Nat × Nat)} (hv : GV G) : GV (lwG G x K A C ls) := ⟨Iv_0 hv.1 (by decide) (by decide) (by decide), hv.2.1, fun Sj h => (by cases h), Nat.zero_le _, Nat.zero_le _, fun i hi => absurd hi (Nat.not_lt_zero _)⟩
theorem m_law (hw : WT sh) (HS : SP sh) (hv : GV G) (h : GR D G)
    (kf : ∀ f D', lwS (tv G) (tl G) = .inl f → GR D' (txG G (Int32.ofNat f)) → Fm D D' → D' 286 0 = Int32.ofNat 1 → Q (.inl (some (.int (Int32.ofNat 0)))) (mk sh D') c s)
    (ky : ∀ ls cs D', lwS (tv G) (tl G) = .inr (ls, cs) → (∀ K A C x, (∀ j, j < ls.length → K j = Int32.ofNat (ls.getD j (0, 0, 0)).1 ∧ A j = Int32.ofNat (ls.getD j (0, 0, 0)).2.1) → (∀ i, i < cs.length → C i = cs.getD i 0) → GR D' (lwG G x K A C ls)) → Fm D D' → D' 286 0 = Int32.ofNat 0 → Q (.inl (some (.int (Int32.ofNat ls.length)))) (mk sh D') c s) :
    Wx (tP nx xs) (d + 29) 248 0 [some (.ref 286), none, none] [] (mk sh D) c s Q := by
  have n10 : ¬ (Int32.ofNat 1 : Int32) = Int32.ofNat 0 := by decide
  have nm1 : (-1 : Int32) < Int32.ofNat 0 := by decide
  have hng := i_ng6 hv.1
  have hnt := i_nt8 hv.1
  have hnr := i_nr5 hv.1
  have hnl := i_nl60 hv.1
  have htl := hv.2.2.2.2.1
  have tb : TB (tv G) (tl G) := ⟨hv.2.2.2.2.1, fun i hi => (tv_of hv hi).1⟩
  simp only [b248_0 hw, mI_thrown HS, mF_thrown HS, mR_row HS, mR_image HS, mR_earlier HS, mR_trial HS, mR_acts HS, mI_hasImage HS, mF_hasImage HS, mI_remembered HS, mF_remembered HS, mR_tape HS, mI_taped HS, mF_taped HS, mI_point HS, mF_point HS, mI_end HS, mF_end HS, mI_begin HS, mF_begin HS, mI_deep HS, mF_deep HS, mI_faultAt HS, mF_faultAt HS, mR_five HS, mI_codes HS, mF_codes HS, mR_value HS, mI_so HS, mF_so HS, mR_lines HS, mR_chosen HS, mR_best HS, mR_members HS, mR_paired HS, mO HS, mA_287 HS, mW_287 HS, mA_288 HS, mW_288 HS, mA_289 HS, mW_289 HS, mA_290 HS, mW_290 HS, mA_291 HS, mW_291 HS, mA_292 HS, mW_292 HS, mA_293 HS, mW_293 HS, mA_294 HS, mW_294 HS, mA_295 HS, mW_295 HS, mA_296 HS, mW_296 HS, mA_297 HS, mW_297 HS, mA_298 HS, mW_298 HS, mA_299 HS, mW_299 HS, wi_some, or_0, or_1, bo_or, ite_boP, true_and, and_true, kN_v, kN_n, kT_v, kT_n, kT_e, Nat.add_zero, Nat.zero_add]
  refine k246l hw HS tb h.2.2.2.1.1 (fun i hi => by rw [← (tv_of hv hi).2]; exact h.2.2.2.1.2 i hi) ?_ ?_
  · intro f D2 hf u2' q12 q9 q0
    simp only [wi_some, or_0, or_1, bo_or, ite_boP, true_and, and_true, kN_v, kN_n, kT_v, kT_n, kT_e, Nat.add_zero, Nat.zero_add, b248_5 hw, nm1, if_true, mI_thrown HS, mF_thrown HS, mR_row HS, mR_image HS, mR_earlier HS, mR_trial HS, mR_acts HS, mI_hasImage HS, mF_hasImage HS, mI_remembered HS, mF_remembered HS, mR_tape HS, mI_taped HS, mF_taped HS, mI_point HS, mF_point HS, mI_end HS, mF_end HS, mI_begin HS, mF_begin HS, mI_deep HS, mF_deep HS, mI_faultAt HS, mF_faultAt HS, mR_five HS, mI_codes HS, mF_codes HS, mR_value HS, mI_so HS, mF_so HS, mR_lines HS, mR_chosen HS, mR_best HS, mR_members HS, mR_paired HS, mO HS, mA_287 HS, mW_287 HS, mA_288 HS, mW_288 HS, mA_289 HS, mW_289 HS, mA_290 HS, mW_290 HS, mA_291 HS, mW_291 HS, mA_292 HS, mW_292 HS, mA_293 HS, mW_293 HS, mA_294 HS, mW_294 HS, mA_295 HS, mW_295 HS, mA_296 HS, mW_296 HS, mA_297 HS, mW_297 HS, mA_298 HS, mW_298 HS, mA_299 HS, mW_299 HS, q12, b248_19 hw, b248_22 hw, b248_32 hw, k187t hw HS, b248_36 hw, n10, if_false]
    have all : ∀ e i, ¬ (e = 286 ∧ (i = 0 ∨ i = 9 ∨ i = 10 ∨ i = 11 ∨ i = 12 ∨ i = 13 ∨ i = 14 ∨ i = 16)) → ¬ (e = 287 ∧ 1201 ≤ i) → u2 (u2 D2 286 14 (Int32.ofNat f)) 286 0 (Int32.ofNat 1) e i = D e i := fun e i h1 h2 => by rw [u2_at, if_neg (by omega), u2_at, if_neg (by omega)]; exact u2' e i (by omega) h2
    refine kf f _ hf (h.txt hv (fun e i h1 h2 _ => all e i h1 h2) ?_ ?_) (fun b hb => funext fun i => all b i (by omega) (by omega)) ?_
    · rw [u2_at, if_neg (by omega), u2_at, if_neg (by omega)]; exact q9
    · rw [u2_at, if_neg (by omega), u2_at, if_pos ⟨rfl, rfl⟩]
    · rw [u2_at, if_pos ⟨rfl, rfl⟩]
  intro ls cs D2 hf u2' qc qn q9 q0
  obtain ⟨ok, o1, o2⟩ := lwS_ok hf
  have o2 : cs.length ≤ 400 := Nat.le_trans o2 htl
  have ky := fun D' => ky ls cs D' hf
  have b1 : 1201 < 2050 := by decide
  have t1 : Int32.toNatClampNeg (Int32.ofNat 1201) = 1201 := by decide
  simp only [wi_some, or_0, or_1, bo_or, ite_boP, true_and, and_true, kN_v, kN_n, kT_v, kT_n, kT_e, Nat.add_zero, Nat.zero_add, b248_5 hw, oN_nn (show ls.length < 2147483648 by omega), if_false, b248_19 hw, b248_22 hw, b248_32 hw, mI_thrown HS, mF_thrown HS, mR_row HS, mR_image HS, mR_earlier HS, mR_trial HS, mR_acts HS, mI_hasImage HS, mF_hasImage HS, mI_remembered HS, mF_remembered HS, mR_tape HS, mI_taped HS, mF_taped HS, mI_point HS, mF_point HS, mI_end HS, mF_end HS, mI_begin HS, mF_begin HS, mI_deep HS, mF_deep HS, mI_faultAt HS, mF_faultAt HS, mR_five HS, mI_codes HS, mF_codes HS, mR_value HS, mI_so HS, mF_so HS, mR_lines HS, mR_chosen HS, mR_best HS, mR_members HS, mR_paired HS, mO HS, mA_287 HS, mW_287 HS, mA_288 HS, mW_288 HS, mA_289 HS, mW_289 HS, mA_290 HS, mW_290 HS, mA_291 HS, mW_291 HS, mA_292 HS, mW_292 HS, mA_293 HS, mW_293 HS, mA_294 HS, mW_294 HS, mA_295 HS, mW_295 HS, mA_296 HS, mW_296 HS, mA_297 HS, mW_297 HS, mA_298 HS, mW_298 HS, mA_299 HS, mW_299 HS, k187f hw HS, b248_36 hw, if_true, b1, t1, b248_50 hw]
  generalize hD3 : u2 (u2 D2 286 14 (-1)) 287 1201 (Int32.ofNat ls.length) = D3
  have d3 : ∀ e i, ¬ (e = 286 ∧ i = 14) → ¬ (e = 287 ∧ i = 1201) → D3 e i = D2 e i := fun e i h1 h2 => by rw [← hD3, u2_at, if_neg h2, u2_at, if_neg h1]
  have d31 : D3 287 1201 = Int32.ofNat ls.length := by rw [← hD3, u2_at, if_pos ⟨rfl, rfl⟩]
  have d14 : D3 286 14 = -1 := by rw [← hD3, u2_at, if_neg (by omega), u2_at, if_pos ⟨rfl, rfl⟩]
  refine up_P (W := fun i (_ : Nat) D => Wx (tP nx xs) (d + 29) 248 52 [some (.ref 286), (some (.int (Int32.ofNat ls.length))), (some (.int (Int32.ofNat i)))] [] (mk sh D) c s Q) (P := fun i _ D' => (∀ b, b ≠ 287 → D' b = D3 b) ∧ (∀ j, j < 352 ∨ 1201 ≤ j → D' 287 j = D3 287 j) ∧ ∀ j, j < i → D' 287 (352 + j) = D3 287 (1201 + j)) (F := fun _ x => x) 849 ?_ 0 D3 ⟨fun _ _ => rfl, fun _ _ => rfl, fun j hj => absurd hj (Nat.not_lt_zero _)⟩ ?_
  · intro i _ D4 hi ⟨f4, g4, a4⟩ k
    have b2 : 1201 + i < 2050 := by omega
    have b3 : 352 + i < 2050 := by omega
    have er : D4 287 (1201 + i) = D3 287 (1201 + i) := g4 _ (Or.inr (by omega))
    rw [b248_52 hw]
    simp only [b248_79 hw, mI_thrown HS, mF_thrown HS, mR_row HS, mR_image HS, mR_earlier HS, mR_trial HS, mR_acts HS, mI_hasImage HS, mF_hasImage HS, mI_remembered HS, mF_remembered HS, mR_tape HS, mI_taped HS, mF_taped HS, mI_point HS, mF_point HS, mI_end HS, mF_end HS, mI_begin HS, mF_begin HS, mI_deep HS, mF_deep HS, mI_faultAt HS, mF_faultAt HS, mR_five HS, mI_codes HS, mF_codes HS, mR_value HS, mI_so HS, mF_so HS, mR_lines HS, mR_chosen HS, mR_best HS, mR_members HS, mR_paired HS, mO HS, mA_287 HS, mW_287 HS, mA_288 HS, mW_288 HS, mA_289 HS, mW_289 HS, mA_290 HS, mW_290 HS, mA_291 HS, mW_291 HS, mA_292 HS, mW_292 HS, mA_293 HS, mW_293 HS, mA_294 HS, mW_294 HS, mA_295 HS, mW_295 HS, mA_296 HS, mW_296 HS, mA_297 HS, mW_297 HS, mA_298 HS, mW_298 HS, mA_299 HS, mW_299 HS, wi_some, or_0, or_1, bo_or, ite_boP, true_and, and_true, kN_v, kN_n, kT_v, kT_n, kT_e, Nat.add_zero, Nat.zero_add, oN_lt (show i < 2147483648 by omega) (show 849 < 2147483648 by omega), hi, if_true, oN_add, b2, b3, oN_tn (show 352 + i < 2147483648 by omega), er]
    refine k _ ⟨fun b hb => ?_, fun j hj => ?_, fun j hj => ?_⟩
    · rw [← f4 b hb]; funext x; rw [u2_at, if_neg (by omega)]
    · rw [u2_at, if_neg (by omega)]; exact g4 j hj
    · rw [u2_at]
      by_cases e : j = i
      · rw [if_pos ⟨rfl, by omega⟩, e]
      · rw [if_neg (by omega)]; exact a4 j (by omega)
  · intro D4 ⟨f4, g4, a4⟩
    have b4 : 4 < 2050 := by decide
    have t4 : Int32.toNatClampNeg (Int32.ofNat 4) = 4 := by decide
    rw [b248_52 hw]
    simp only [oN_lt (show 849 < 2147483648 by omega) (show 849 < 2147483648 by omega), Nat.lt_irrefl, if_false, mI_thrown HS, mF_thrown HS, mR_row HS, mR_image HS, mR_earlier HS, mR_trial HS, mR_acts HS, mI_hasImage HS, mF_hasImage HS, mI_remembered HS, mF_remembered HS, mR_tape HS, mI_taped HS, mF_taped HS, mI_point HS, mF_point HS, mI_end HS, mF_end HS, mI_begin HS, mF_begin HS, mI_deep HS, mF_deep HS, mI_faultAt HS, mF_faultAt HS, mR_five HS, mI_codes HS, mF_codes HS, mR_value HS, mI_so HS, mF_so HS, mR_lines HS, mR_chosen HS, mR_best HS, mR_members HS, mR_paired HS, mO HS, mA_287 HS, mW_287 HS, mA_288 HS, mW_288 HS, mA_289 HS, mW_289 HS, mA_290 HS, mW_290 HS, mA_291 HS, mW_291 HS, mA_292 HS, mW_292 HS, mA_293 HS, mW_293 HS, mA_294 HS, mW_294 HS, mA_295 HS, mW_295 HS, mA_296 HS, mW_296 HS, mA_297 HS, mW_297 HS, mA_298 HS, mW_298 HS, mA_299 HS, mW_299 HS, wi_some, or_0, or_1, bo_or, ite_boP, true_and, and_true, kN_v, kN_n, kT_v, kT_n, kT_e, Nat.add_zero, Nat.zero_add, b4, t4, b248_92 hw, b248_97 hw]
    generalize hD5 : u2 (u2 D4 287 4 (Int32.ofNat 1)) 286 7 (Int32.ofNat 0) = D5
    have d5 : ∀ e i, ¬ (e = 287 ∧ i = 4) → ¬ (e = 286 ∧ i = 7) → D5 e i = D4 e i := fun e i h1 h2 => by rw [← hD5, u2_at, if_neg h2, u2_at, if_neg h1]
    have all : ∀ e i, ¬ (e = 286 ∧ (i = 0 ∨ i = 7 ∨ i = 9 ∨ i = 10 ∨ i = 11 ∨ i = 12 ∨ i = 13 ∨ i = 14 ∨ i = 16)) → e ≠ 287 → D5 e i = D e i := fun e i h1 h2 => by
      rw [d5 e i (by omega) (by omega), f4 e h2, d3 e i (by omega) (by omega), u2' e i (by omega) (by omega)]
    have r7 : ∀ i, i < 352 → i ≠ 4 → D5 287 i = D 287 i := fun i h1 h2 => by rw [d5 287 i (by omega) (by omega), g4 i (Or.inl h1), d3 287 i (by omega) (by omega), u2' 287 i (by omega) (by omega)]
    have cp : ∀ j, 0 < j → j < 849 → D5 287 (352 + j) = D2 287 (1201 + j) := fun j h0 hj => by rw [d5 287 _ (by omega) (by omega), a4 j hj, d3 287 _ (by omega) (by omega)]
    obtain ⟨⟨c1, c2⟩, ⟨c3, c4⟩, _, _, _⟩ := h
    refine ky D5 (fun K A C x hKA hC => ⟨⟨Rw_14 (c1.o4 hnt hng hnr hnl r7), ⟨?_, ?_, o1, rfl, fun j hj => ?_, fun j i hj h1 h2 => ?_, fun j hj => ⟨_, (ok.2 j hj).2.1, (hKA j hj).2⟩⟩⟩, ⟨?_, ?_⟩, ⟨?_, ?_⟩, ⟨?_, ?_⟩, ?_⟩) (fun b hb => funext fun i => all b i (by omega) (by omega)) ?_
    · rw [← hD5, u2_at, if_neg (by omega), u2_at, if_pos ⟨rfl, rfl⟩]
    · rw [d5 287 352 (by omega) (by omega), show (352 : Nat) = 352 + 0 from rfl, a4 0 (by decide)]; exact d31
    · obtain ⟨z0, z1, z2, z3⟩ := qn j hj
      obtain ⟨w1, w2, w3, w4, w5, w6⟩ := ok.2 j hj
      refine ⟨?_, fun hk => ?_, fun hk => ?_, ?_, ?_, w4, Nat.le_trans w5 o2, w6 C hC⟩
      · rw [show 353 + 4 * j = 352 + (1 + 4 * j) by omega, cp _ (by omega) (by omega), show 1201 + (1 + 4 * j) = 1202 + 4 * j by omega, (hKA j hj).1]; exact z0
      · rw [(hKA j hj).1, oN_eq (by omega) (by decide)] at hk
        rw [(hKA j hj).2, w3 hk]
      · rw [(hKA j hj).1, oN_eq (by omega) (by decide)] at hk
        rw [show 353 + 4 * j + 1 = 352 + (1 + 4 * j + 1) by omega, cp _ (by omega) (by omega), show 1201 + (1 + 4 * j + 1) = 1202 + 4 * j + 1 by omega, (hKA j hj).2]; exact z1 hk
      · rw [show 353 + 4 * j + 2 = 352 + (1 + 4 * j + 2) by omega, cp _ (by omega) (by omega), show 1201 + (1 + 4 * j + 2) = 1202 + 4 * j + 2 by omega]; exact z2
      · rw [show 353 + 4 * j + 3 = 352 + (1 + 4 * j + 3) by omega, cp _ (by omega) (by omega), show 1201 + (1 + 4 * j + 3) = 1202 + 4 * j + 3 by omega]; exact z3
    · have h5 := (ok.2 j hj).2.2.2.2.1
      obtain ⟨z1, z2⟩ := qc.2 i (by omega)
      rw [← hC i (by omega)] at z1 z2
      refine ⟨?_, fun hk => ?_⟩
      · rw [show 401 + 2 * i = 352 + (49 + 2 * i) by omega, cp _ (by omega) (by omega), show 1201 + (49 + 2 * i) = 1250 + 2 * i by omega]; exact z1
      · rw [show 401 + 2 * i + 1 = 352 + (49 + 2 * i + 1) by omega, cp _ (by omega) (by omega), show 1201 + (49 + 2 * i + 1) = 1250 + 2 * i + 1 by omega]; exact z2 hk
    · rw [all 286 6 (by omega) (by decide)]; exact c3
    · rw [show D5 288 = D 288 from funext fun i => all 288 i (by omega) (by decide)]; exact c4
    · rw [← hD5, u2_at, if_pos ⟨rfl, rfl⟩]; rfl
    · intro j Sj hj; cases hj
    · rw [d5 286 9 (by omega) (by omega), f4 286 (by decide), d3 286 9 (by omega) (by omega)]; exact q9
    · intro i hi; exact absurd hi (Nat.not_lt_zero _)
    · rw [d5 286 14 (by omega) (by omega), f4 286 (by decide)]; exact d14
    · rw [d5 286 0 (by omega) (by omega), f4 286 (by decide), d3 286 0 (by omega) (by omega)]; exact q0
end CD2
