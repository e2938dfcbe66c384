/-! ===== station: the reference ===== -/
theorem GV.stn {G : GT} {V0 V' : sD} (hv : GV G) (e0 : VE (gV G.1) V0) (e : VE (stV G V0) V') (hI : ∀ S', stnR G V0 = .inr S' → Iv S'.1 S'.2.1 S'.2.2.1 S'.2.2.2 (gl G.1)) : GV (stG G V0 V') := by
  obtain ⟨tx, t1, t2⟩ := v_tx hv
  unfold stG stV at *
  cases hr : stnR G V0 with
  | inl f => simp only [hr]; exact hv.txt
  | inr S' =>
    have I := hI S' hr
    simp only [hr] at e ⊢
    by_cases h : (gV G.1) 0 13 = Int32.ofNat 12
    · simp only [h, if_true]; exact hv.txt
    · simp only [h, if_false] at e ⊢
      have ht : tx < 12 := by
        rcases Nat.lt_or_ge tx 12 with h1 | h1
        · exact h1
        · rw [t2, show tx = 12 by omega] at h; exact absurd rfl h
      rw [t2, oN_add] at e
      exact ⟨Iv.ve (Iv_texts I (by omega)) e, hv.2.1, fun Sj hj => (by cases hj), Nat.zero_le _, Nat.zero_le _, fun i hi => absurd hi (Nat.not_lt_zero _)⟩
section CC1
variable {nx : Nat} {xs : Nat → Int32} {d c s : Nat} {sh : List sC} {D : sD} {Q : av_Q}
variable {G : GT}
/-- what the reference's rows are when nothing but the tape and the fault is new -/
theorem GR.txt {D' : sD} {x : Int32} (hv : GV G) (h : GR D G) (f : ∀ e i, ¬ (e = 286 ∧ (i = 0 ∨ i = 9 ∨ i = 10 ∨ i = 11 ∨ i = 12 ∨ i = 13 ∨ i = 14 ∨ i = 16)) → ¬ (e = 287 ∧ 1201 ≤ i) → e ≠ 289 → D' e i = D e i) (h9 : D' 286 9 = Int32.ofNat 0) (hx : D' 286 14 = x) : GR D' (txG G x) := by
  obtain ⟨⟨a1, a2⟩, ⟨a3, a4⟩, ⟨a5, a6⟩, ⟨a7, a8⟩, a9⟩ := h
  have I := hv.1
  have r7 : ∀ i, i < 1201 → D' 287 i = D 287 i := fun i hi => f 287 i (by omega) (by omega) (by decide)
  have r8 : D' 288 = D 288 := funext fun i => f 288 i (by omega) (by omega) (by decide)
  have r91 : D' 291 = D 291 := funext fun i => f 291 i (by omega) (by omega) (by decide)
  refine ⟨⟨a1.of (i_nt8 I) (i_ng6 I) (i_nr5 I) (i_nl60 I) fun i hi => r7 i (by omega), a2.of2 r7⟩, ⟨?_, ?_⟩, ⟨?_, ?_⟩, ⟨h9, fun i hi => absurd hi (Nat.not_lt_zero _)⟩, hx⟩
  · rw [f 286 6 (by omega) (by omega) (by decide)]; exact a3
  · rw [r8]; exact a4
  · rw [f 286 7 (by omega) (by omega) (by decide)]; exact a5
  · rw [r91, r7 4 (by decide)]; exact a6
theorem m_station {V0 V' : sD} (hw : WT sh) (HS : SP sh) (hv : GV G) (h : GR D G) (e0 : VE (gV G.1) V0) (e : VE (stV G V0) V') (kk : ∀ D', GR D' (stG G V0 V') → GV (stG G V0 V') → Fm D D' → D' 286 0 = Int32.ofNat (th (o_station G V0)) → Q (.inl (some (.int (rv (o_station G V0))))) (mk sh D') c s) : Wx (tP nx xs) (d + 9) 247 0 [some (.ref 286), none, none] [] (mk sh D) c s Q := by
  have n10 : ¬ (Int32.ofNat 1 : Int32) = Int32.ofNat 0 := by decide
  have I := hv.1
  have hnt := i_nt8 I
  have hng := i_ng6 I
  have hnr := i_nr5 I
  have hnl := i_nl60 I
  have I0 : Iv V0 (gt G.1) (gg G.1) (gr G.1) (gl G.1) := Iv.ve I e0
  have tb : TB (tv G) (tl G) := ⟨hv.2.2.2.2.1, fun i hi => (tv_of hv hi).1⟩
  obtain ⟨tx, tx1, tx2⟩ := v_tx hv
  simp only [b247_0 hw]
  refine up_P (W := fun i (_ : Nat) D => Wx (tP nx xs) (d + 9) 247 2 [some (.ref 286), (some (.int (Int32.ofNat i))), none] [] (mk sh D) c s Q) (P := fun i _ D' => (∀ b, b ≠ 289 → D' b = D b) ∧ ∀ j, j < i → D' 289 j = D 287 j) (F := fun _ x => x) 1201 ?_ 0 D ⟨fun _ _ => rfl, fun j hj => absurd hj (Nat.not_lt_zero _)⟩ ?_
  · intro i _ D2 hi ⟨f2, a2⟩ k
    have b2 : i < 2050 := by omega
    have er : D2 287 i = D 287 i := by rw [f2 287 (by decide)]
    rw [b247_2 hw]
    simp only [b247_21 hw, mI_thrown HS, mF_thrown HS, mR_row HS, mR_image HS, mR_earlier HS, mR_trial HS, mR_acts HS, mI_hasImage HS, mF_hasImage HS, mI_remembered HS, mF_remembered HS, mR_tape HS, mI_taped HS, mF_taped HS, mI_point HS, mF_point HS, mI_end HS, mF_end HS, mI_begin HS, mF_begin HS, mI_deep HS, mF_deep HS, mI_faultAt HS, mF_faultAt HS, mR_five HS, mI_codes HS, mF_codes HS, mR_value HS, mI_so HS, mF_so HS, mR_lines HS, mR_chosen HS, mR_best HS, mR_members HS, mR_paired HS, mO HS, mA_287 HS, mW_287 HS, mA_288 HS, mW_288 HS, mA_289 HS, mW_289 HS, mA_290 HS, mW_290 HS, mA_291 HS, mW_291 HS, mA_292 HS, mW_292 HS, mA_293 HS, mW_293 HS, mA_294 HS, mW_294 HS, mA_295 HS, mW_295 HS, mA_296 HS, mW_296 HS, mA_297 HS, mW_297 HS, mA_298 HS, mW_298 HS, mA_299 HS, mW_299 HS, wi_some, or_0, or_1, bo_or, ite_boP, true_and, and_true, kN_v, kN_n, kT_v, kT_n, kT_e, Nat.add_zero, Nat.zero_add, oN_lt (show i < 2147483648 by omega) (show 1201 < 2147483648 by omega), hi, if_true, oN_add, b2, oN_tn (show i < 2147483648 by omega), er]
    refine k _ ⟨fun b hb => ?_, fun j hj => ?_⟩
    · rw [← f2 b hb]; funext x; rw [u2_at, if_neg (by omega)]
    · rw [u2_at]
      by_cases e : j = i
      · rw [if_pos ⟨rfl, e⟩, e]
      · rw [if_neg (by omega)]; exact a2 j (by omega)
  · intro D1 ⟨f1, a1⟩
    rw [b247_2 hw]
    simp only [oN_lt (show 1201 < 2147483648 by omega) (show 1201 < 2147483648 by omega), Nat.lt_irrefl, if_false, mI_thrown HS, mF_thrown HS, mR_row HS, mR_image HS, mR_earlier HS, mR_trial HS, mR_acts HS, mI_hasImage HS, mF_hasImage HS, mI_remembered HS, mF_remembered HS, mR_tape HS, mI_taped HS, mF_taped HS, mI_point HS, mF_point HS, mI_end HS, mF_end HS, mI_begin HS, mF_begin HS, mI_deep HS, mF_deep HS, mI_faultAt HS, mF_faultAt HS, mR_five HS, mI_codes HS, mF_codes HS, mR_value HS, mI_so HS, mF_so HS, mR_lines HS, mR_chosen HS, mR_best HS, mR_members HS, mR_paired HS, mO HS, mA_287 HS, mW_287 HS, mA_288 HS, mW_288 HS, mA_289 HS, mW_289 HS, mA_290 HS, mW_290 HS, mA_291 HS, mW_291 HS, mA_292 HS, mW_292 HS, mA_293 HS, mW_293 HS, mA_294 HS, mW_294 HS, mA_295 HS, mW_295 HS, mA_296 HS, mW_296 HS, mA_297 HS, mW_297 HS, mA_298 HS, mW_298 HS, mA_299 HS, mW_299 HS, wi_some, or_0, or_1, bo_or, ite_boP, true_and, and_true, kN_v, kN_n, kT_v, kT_n, kT_e, Nat.add_zero, Nat.zero_add]
    have R1 : Rw (D1 287) V0 (gt G.1) (gg G.1) (gr G.1) (gl G.1) := by rw [f1 287 (by decide)]; exact h.1.1.ve hnt hng hnr hnl e0
    -- all is as it was
    have back : ∀ (x : Int32) (th' : Int32) (l1 l2 : Option Value) (D3 : sD), (∀ e i, ¬ (e = 286 ∧ (i = 0 ∨ i = 9 ∨ i = 10 ∨ i = 11 ∨ i = 12 ∨ i = 13 ∨ i = 14 ∨ i = 16)) → ¬ (e = 287) → D3 e i = D1 e i) → D3 286 9 = Int32.ofNat 0 → D3 286 14 = x → D3 286 0 = th' → (∀ D', GR D' (txG G x) → Fm D D' → D' 286 0 = th' → Q (.inl (some (.int (Int32.ofNat 0)))) (mk sh D') c s) → ∀ y, Wx (tP nx xs) (d + 9) 247 90 [some (.ref 286), (some (.int (y))), none] [] (mk sh D3) c s Q := by
      intro x th' l1 l2 D3 f3 q9 q14 q0 fin y
      simp only [b247_90 hw]
      refine up_P (W := fun i (_ : Nat) D => Wx (tP nx xs) (d + 9) 247 92 [some (.ref 286), (some (.int (y))), (some (.int (Int32.ofNat i)))] [] (mk sh D) c s Q) (P := fun i _ D' => (∀ b, b ≠ 287 → D' b = D3 b) ∧ ∀ j, j < i → D' 287 j = D 287 j) (F := fun _ x => x) 1201 ?_ 0 D3 ⟨fun _ _ => rfl, fun j hj => absurd hj (Nat.not_lt_zero _)⟩ ?_
      · intro i _ D4 hi ⟨f4, a4⟩ k
        have b2 : i < 2050 := by omega
        have er : D4 289 i = D 287 i := by rw [f4 289 (by decide), f3 289 i (by omega) (by omega)]; exact a1 i hi
        rw [b247_92 hw]
        simp only [b247_111 hw, mI_thrown HS, mF_thrown HS, mR_row HS, mR_image HS, mR_earlier HS, mR_trial HS, mR_acts HS, mI_hasImage HS, mF_hasImage HS, mI_remembered HS, mF_remembered HS, mR_tape HS, mI_taped HS, mF_taped HS, mI_point HS, mF_point HS, mI_end HS, mF_end HS, mI_begin HS, mF_begin HS, mI_deep HS, mF_deep HS, mI_faultAt HS, mF_faultAt HS, mR_five HS, mI_codes HS, mF_codes HS, mR_value HS, mI_so HS, mF_so HS, mR_lines HS, mR_chosen HS, mR_best HS, mR_members HS, mR_paired HS, mO HS, mA_287 HS, mW_287 HS, mA_288 HS, mW_288 HS, mA_289 HS, mW_289 HS, mA_290 HS, mW_290 HS, mA_291 HS, mW_291 HS, mA_292 HS, mW_292 HS, mA_293 HS, mW_293 HS, mA_294 HS, mW_294 HS, mA_295 HS, mW_295 HS, mA_296 HS, mW_296 HS, mA_297 HS, mW_297 HS, mA_298 HS, mW_298 HS, mA_299 HS, mW_299 HS, wi_some, or_0, or_1, bo_or, ite_boP, true_and, and_true, kN_v, kN_n, kT_v, kT_n, kT_e, Nat.add_zero, Nat.zero_add, oN_lt (show i < 2147483648 by omega) (show 1201 < 2147483648 by omega), hi, if_true, oN_add, b2, oN_tn (show i < 2147483648 by omega), er]
        refine k _ ⟨fun b hb => ?_, fun j hj => ?_⟩
        · rw [← f4 b hb]; funext x; rw [u2_at, if_neg (by omega)]
        · rw [u2_at]
          by_cases e : j = i
          · rw [if_pos ⟨rfl, e⟩, e]
          · rw [if_neg (by omega)]; exact a4 j (by omega)
      · intro D4 ⟨f4, a4⟩
        have all : ∀ e i, ¬ (e = 286 ∧ (i = 0 ∨ i = 9 ∨ i = 10 ∨ i = 11 ∨ i = 12 ∨ i = 13 ∨ i = 14 ∨ i = 16)) → ¬ (e = 287 ∧ 1201 ≤ i) → e ≠ 289 → D4 e i = D e i := fun e i h1 h2 h3 => by
          by_cases he : e = 287
          · subst he; exact a4 i (by omega)
          · rw [f4 e he, f3 e i h1 he, f1 e h3]
        rw [b247_92 hw]
        simp only [oN_lt (show 1201 < 2147483648 by omega) (show 1201 < 2147483648 by omega), Nat.lt_irrefl, if_false]
        exact fin D4 (h.txt hv all (by rw [f4 286 (by decide)]; exact q9) (by rw [f4 286 (by decide)]; exact q14)) (fun b hb => funext fun i => all b i (by omega) (by omega) (by omega)) (by rw [f4 286 (by decide)]; exact q0)
    have hvR : ∀ (hI : ∀ S', stnR G V0 = .inr S' → Iv S'.1 S'.2.1 S'.2.2.1 S'.2.2.2 (gl G.1)), GV (stG G V0 V') := fun hI => hv.stn e0 e hI
    refine k246s (S := stS0 G V0) (nl := (gl G.1)) hw HS tb (by rw [f1 286 (by decide)]; exact h.2.2.2.1.1) (fun i hi => by rw [f1 292 (by decide), ← (tv_of hv hi).2]; exact h.2.2.2.1.2 i hi) R1 I0 ?_ ?_
    · intro f D2 hf u2' q12 q9 q0
      have hg := hvR fun S' hS' => by unfold stnR at hS'; rw [hf] at hS'; cases hS'
      have kk := fun D' a b c => kk D' a hg b c
      unfold stG o_station stnR at kk
      simp only [hf, th, rv] at kk
      simp only [wi_some, or_0, or_1, bo_or, ite_boP, true_and, and_true, kN_v, kN_n, kT_v, kT_n, kT_e, Nat.add_zero, Nat.zero_add, b247_32 hw, show (-1 : Int32) < Int32.ofNat 0 by decide, if_true, mI_thrown HS, mF_thrown HS, mR_row HS, mR_image HS, mR_earlier HS, mR_trial HS, mR_acts HS, mI_hasImage HS, mF_hasImage HS, mI_remembered HS, mF_remembered HS, mR_tape HS, mI_taped HS, mF_taped HS, mI_point HS, mF_point HS, mI_end HS, mF_end HS, mI_begin HS, mF_begin HS, mI_deep HS, mF_deep HS, mI_faultAt HS, mF_faultAt HS, mR_five HS, mI_codes HS, mF_codes HS, mR_value HS, mI_so HS, mF_so HS, mR_lines HS, mR_chosen HS, mR_best HS, mR_members HS, mR_paired HS, mO HS, mA_287 HS, mW_287 HS, mA_288 HS, mW_288 HS, mA_289 HS, mW_289 HS, mA_290 HS, mW_290 HS, mA_291 HS, mW_291 HS, mA_292 HS, mW_292 HS, mA_293 HS, mW_293 HS, mA_294 HS, mW_294 HS, mA_295 HS, mW_295 HS, mA_296 HS, mW_296 HS, mA_297 HS, mW_297 HS, mA_298 HS, mW_298 HS, mA_299 HS, mW_299 HS, q12, b247_46 hw, b247_49 hw, b247_59 hw, k187t hw HS, b247_63 hw, n10, if_false]
      refine back (Int32.ofNat f) (Int32.ofNat 1) none none _ (fun e i h1 h2 => ?_) ?_ ?_ ?_ kk _
      · rw [u2_at, if_neg (by omega), u2_at, if_neg (by omega)]; exact u2' e i (by omega) (by omega) (by omega)
      · rw [u2_at, if_neg (by omega), u2_at, if_neg (by omega)]; exact q9
      · rw [u2_at, if_neg (by omega), u2_at, if_pos ⟨rfl, rfl⟩]
      · rw [u2_at, if_pos ⟨rfl, rfl⟩]
    · intro S' m D2 hf hm u2' R2 I2 q9 q0
      have hg := hvR fun S'' hS' => by unfold stnR at hS'; rw [hf] at hS'; cases hS'; exact I2
      have kk := fun D' a b c => kk D' a hg b c
      have k13 : S'.1 0 13 = Int32.ofNat tx := by rw [← tx2]; exact (tx_keep (by decide) (by decide) (by decide) (by decide) hf).trans (e0 0 13 (by unfold inR; omega))
      have r3 : u2 D2 286 14 (-1) 287 3 = Int32.ofNat tx := by rw [u2_at, if_neg (by omega), r_tx R2]; exact k13
      have b3 : 3 < 2050 := by decide
      have t3 : Int32.toNatClampNeg (Int32.ofNat 3) = 3 := by decide
      unfold stG o_station stnR at kk
      unfold stV stnR at e
      simp only [hf, tx2] at kk e
      simp only [wi_some, or_0, or_1, bo_or, ite_boP, true_and, and_true, kN_v, kN_n, kT_v, kT_n, kT_e, Nat.add_zero, Nat.zero_add, b247_32 hw, oN_nn (show m < 2147483648 by omega), if_false, b247_46 hw, b247_49 hw, b247_59 hw, mI_thrown HS, mF_thrown HS, mR_row HS, mR_image HS, mR_earlier HS, mR_trial HS, mR_acts HS, mI_hasImage HS, mF_hasImage HS, mI_remembered HS, mF_remembered HS, mR_tape HS, mI_taped HS, mF_taped HS, mI_point HS, mF_point HS, mI_end HS, mF_end HS, mI_begin HS, mF_begin HS, mI_deep HS, mF_deep HS, mI_faultAt HS, mF_faultAt HS, mR_five HS, mI_codes HS, mF_codes HS, mR_value HS, mI_so HS, mF_so HS, mR_lines HS, mR_chosen HS, mR_best HS, mR_members HS, mR_paired HS, mO HS, mA_287 HS, mW_287 HS, mA_288 HS, mW_288 HS, mA_289 HS, mW_289 HS, mA_290 HS, mW_290 HS, mA_291 HS, mW_291 HS, mA_292 HS, mW_292 HS, mA_293 HS, mW_293 HS, mA_294 HS, mW_294 HS, mA_295 HS, mW_295 HS, mA_296 HS, mW_296 HS, mA_297 HS, mW_297 HS, mA_298 HS, mW_298 HS, mA_299 HS, mW_299 HS, k187f hw HS, b247_63 hw, if_true, b3, r3]
      by_cases h12 : Int32.ofNat tx = Int32.ofNat 12
      · simp only [h12, if_true, th, rv, b247_83 hw, mI_thrown HS, mF_thrown HS, mR_row HS, mR_image HS, mR_earlier HS, mR_trial HS, mR_acts HS, mI_hasImage HS, mF_hasImage HS, mI_remembered HS, mF_remembered HS, mR_tape HS, mI_taped HS, mF_taped HS, mI_point HS, mF_point HS, mI_end HS, mF_end HS, mI_begin HS, mF_begin HS, mI_deep HS, mF_deep HS, mI_faultAt HS, mF_faultAt HS, mR_five HS, mI_codes HS, mF_codes HS, mR_value HS, mI_so HS, mF_so HS, mR_lines HS, mR_chosen HS, mR_best HS, mR_members HS, mR_paired HS, mO HS, mA_287 HS, mW_287 HS, mA_288 HS, mW_288 HS, mA_289 HS, mW_289 HS, mA_290 HS, mW_290 HS, mA_291 HS, mW_291 HS, mA_292 HS, mW_292 HS, mA_293 HS, mW_293 HS, mA_294 HS, mW_294 HS, mA_295 HS, mW_295 HS, mA_296 HS, mW_296 HS, mA_297 HS, mW_297 HS, mA_298 HS, mW_298 HS, mA_299 HS, mW_299 HS, wi_some, or_0, or_1, bo_or, ite_boP, true_and, and_true, kN_v, kN_n, kT_v, kT_n, kT_e, Nat.add_zero, Nat.zero_add, k187t hw HS, b247_87 hw, n10, if_false] at kk ⊢
        refine back (-1) (Int32.ofNat 2) none none _ (fun e i h1 h2 => ?_) ?_ ?_ ?_ kk _
        · rw [u2_at, if_neg (by omega), u2_at, if_neg (by omega)]; exact u2' e i (by omega) (by omega) (by omega)
        · rw [u2_at, if_neg (by omega), u2_at, if_neg (by omega)]; exact q9
        · rw [u2_at, if_neg (by omega), u2_at, if_pos ⟨rfl, rfl⟩]
        · rw [u2_at, if_pos ⟨rfl, rfl⟩]
      · simp only [h12, if_false, th, rv, oN_add] at kk e
        simp only [h12, if_false, b247_83 hw, mI_thrown HS, mF_thrown HS, mR_row HS, mR_image HS, mR_earlier HS, mR_trial HS, mR_acts HS, mI_hasImage HS, mF_hasImage HS, mI_remembered HS, mF_remembered HS, mR_tape HS, mI_taped HS, mF_taped HS, mI_point HS, mF_point HS, mI_end HS, mF_end HS, mI_begin HS, mF_begin HS, mI_deep HS, mF_deep HS, mI_faultAt HS, mF_faultAt HS, mR_five HS, mI_codes HS, mF_codes HS, mR_value HS, mI_so HS, mF_so HS, mR_lines HS, mR_chosen HS, mR_best HS, mR_members HS, mR_paired HS, mO HS, mA_287 HS, mW_287 HS, mA_288 HS, mW_288 HS, mA_289 HS, mW_289 HS, mA_290 HS, mW_290 HS, mA_291 HS, mW_291 HS, mA_292 HS, mW_292 HS, mA_293 HS, mW_293 HS, mA_294 HS, mW_294 HS, mA_295 HS, mW_295 HS, mA_296 HS, mW_296 HS, mA_297 HS, mW_297 HS, mA_298 HS, mW_298 HS, mA_299 HS, mW_299 HS, wi_some, or_0, or_1, bo_or, ite_boP, true_and, and_true, kN_v, kN_n, kT_v, kT_n, kT_e, Nat.add_zero, Nat.zero_add, k187f hw HS, b247_87 hw, if_true, b3, r3, t3, oN_add, b247_129 hw]
        have r3' : u2 (u2 (u2 D2 286 14 (-1)) 287 3 (Int32.ofNat (tx + 1))) 286 7 (Int32.ofNat 0) 287 3 = Int32.ofNat (tx + 1) := by rw [u2_at, if_neg (by omega), u2_at, if_pos ⟨rfl, rfl⟩]
        rw [b247_134 hw]
        simp only [mI_thrown HS, mF_thrown HS, mR_row HS, mR_image HS, mR_earlier HS, mR_trial HS, mR_acts HS, mI_hasImage HS, mF_hasImage HS, mI_remembered HS, mF_remembered HS, mR_tape HS, mI_taped HS, mF_taped HS, mI_point HS, mF_point HS, mI_end HS, mF_end HS, mI_begin HS, mF_begin HS, mI_deep HS, mF_deep HS, mI_faultAt HS, mF_faultAt HS, mR_five HS, mI_codes HS, mF_codes HS, mR_value HS, mI_so HS, mF_so HS, mR_lines HS, mR_chosen HS, mR_best HS, mR_members HS, mR_paired HS, mO HS, mA_287 HS, mW_287 HS, mA_288 HS, mW_288 HS, mA_289 HS, mW_289 HS, mA_290 HS, mW_290 HS, mA_291 HS, mW_291 HS, mA_292 HS, mW_292 HS, mA_293 HS, mW_293 HS, mA_294 HS, mW_294 HS, mA_295 HS, mW_295 HS, mA_296 HS, mW_296 HS, mA_297 HS, mW_297 HS, mA_298 HS, mW_298 HS, mA_299 HS, mW_299 HS, wi_some, or_0, or_1, bo_or, ite_boP, true_and, and_true, kN_v, kN_n, kT_v, kT_n, kT_e, Nat.add_zero, Nat.zero_add, b3, r3']
        generalize hD3 : u2 (u2 (u2 D2 286 14 (-1)) 287 3 (Int32.ofNat (tx + 1))) 286 7 (Int32.ofNat 0) = D3
        have all : ∀ e i, ¬ (e = 286 ∧ (i = 0 ∨ i = 7 ∨ i = 9 ∨ i = 10 ∨ i = 11 ∨ i = 12 ∨ i = 13 ∨ i = 14 ∨ i = 16)) → e ≠ 287 → e ≠ 289 → D3 e i = D e i := fun e i h1 h2 h3 => by
          rw [← hD3, u2_at, if_neg (by omega), u2_at, if_neg (by omega), u2_at, if_neg (by omega), u2' e i (by omega) (by omega) (by omega), f1 e h3]
        have hi7 : ∀ i, (i = 4 ∨ 352 ≤ i) → i < 1201 → D3 287 i = D 287 i := fun i h1 h2 => by
          rw [← hD3, u2_at, if_neg (by omega), u2_at, if_neg (by omega), u2_at, if_neg (by omega), u2' 287 i (by omega) (by omega) (by omega), f1 287 (by decide)]
        have R3 : Rw (D3 287) (u2 S'.1 0 13 (Int32.ofNat (tx + 1))) S'.2.1 S'.2.2.1 S'.2.2.2 (gl G.1) := Rw_texts R2 (fun i hi => by rw [← hD3, u2_at, if_neg (by omega), u2_at, if_neg (by omega), u2_at, if_neg (by omega)]) (by rw [← hD3, u2_at, if_neg (by omega), u2_at, if_pos ⟨rfl, rfl⟩])
        obtain ⟨⟨_, c2⟩, ⟨c3, c4⟩, _, _, _⟩ := h
        refine kk D3 ⟨⟨R3.ve (i_nt8 I2) (i_ng6 I2) (i_nr5 I2) (i_nl60 I2) e, ?_⟩, ⟨?_, ?_⟩, ⟨?_, ?_⟩, ⟨?_, ?_⟩, ?_⟩ (fun b hb => funext fun i => all b i (by omega) (by omega) (by omega)) ?_
        · have c2' : Rl (fun i => if i < 1201 then D3 287 i else D 287 i) (gw G.1) := c2.of fun i hi => by
            by_cases h1 : i < 1201
            · simp only [h1, if_true]; exact hi7 i hi h1
            · simp only [h1, if_false]
          exact c2'.of2 fun i hi => by simp only [hi, if_true]
        · rw [all 286 6 (by omega) (by decide) (by decide)]; exact c3
        · rw [show D3 288 = D 288 from funext fun i => all 288 i (by omega) (by decide) (by decide)]; exact c4
        · rw [← hD3, u2_at, if_pos ⟨rfl, rfl⟩]; rfl
        · intro j Sj hj; cases hj
        · rw [← hD3, u2_at, if_neg (by omega), u2_at, if_neg (by omega), u2_at, if_neg (by omega)]; exact q9
        · intro i hi; exact absurd hi (Nat.not_lt_zero _)
        · rw [← hD3, u2_at, if_neg (by omega), u2_at, if_neg (by omega), u2_at, if_pos ⟨rfl, rfl⟩]
        · rw [← hD3, u2_at, if_neg (by omega), u2_at, if_neg (by omega), u2_at, if_neg (by omega)]; exact q0
end CC1
