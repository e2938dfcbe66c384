/-! ===== texts of THE STATION: the reference reads ===== -/
def MS (D D' : sD) : Prop := ∀ e i, ¬ (e = 286 ∧ (i = 10 ∨ i = 12)) → ¬ (e = 287 ∧ i < 112 ∧ i ≠ 4) → D' e i = D e i
theorem MS.rf {D : sD} : MS D D := fun _ _ _ _ => rfl
theorem MS.tr {D D' D'' : sD} (h : MS D D') (h' : MS D' D'') : MS D D'' := fun e i h1 h2 => (h' e i h1 h2).trans (h e i h1 h2)
theorem M1.ms {D D' : sD} (h : M1 D D') : MS D D' := fun e i h1 _ => h e i h1
theorem MS.st {D D' : sD} {i : Nat} {v : Int32} (h : MS D D') (h1 : i < 112) (h2 : i ≠ 4) : MS D (u2 D' 287 i v) := fun e j h3 h4 => by rw [u2_at, if_neg (by omega)]; exact h e j h3 h4
theorem TpR.st {b : Nat → Nat} {n p i : Nat} {D : sD} {v : Int32} (h : TpR b n D p) : TpR b n (u2 D 287 i v) p := by
  obtain ⟨⟨h1, h2⟩, q, h3, h4, h5⟩ := h
  exact ⟨⟨by rw [u2_at, if_neg (by omega)]; exact h1, fun j hj => by rw [u2_at, if_neg (by omega)]; exact h2 j hj⟩, q, h3, h4, by rw [u2_at, if_neg (by omega)]; exact h5⟩
theorem M1.r7 {D D' : sD} (h : M1 D D') : D' 287 = D 287 := funext fun i => h 287 i (by omega)
def RC (b : Nat → Nat) (n : Nat) (S : sT) (nl : Nat) (D : sD) (p : Nat) : Prop := TpR b n D p ∧ Rw (D 287) S.1 S.2.1 S.2.2.1 S.2.2.2 nl ∧ Iv S.1 S.2.1 S.2.2.1 S.2.2.2 nl
theorem RC.m1 {b : Nat → Nat} {n nl p p' : Nat} {S : sT} {D D' : sD} (h : RC b n S nl D p) (m : M1 D D') (t : TpR b n D' p') : RC b n S nl D' p' := ⟨t, by rw [m.r7]; exact h.2.1, h.2.2⟩
section CB7
variable {nx : Nat} {xs : Nat → Int32} {d c s : Nat} {sh : List sC} {D : sD} {Q : av_Q}
variable {b : Nat → Nat} {n p p0 nl : Nat} {S : sT}
theorem k223c {lo hi : Nat} (hw : WT sh) (HS : SP sh) (tb : TB b n) (tr : TpR b n D p) (hlo : lo < 1000) (hhb : hi < 9999)
    (ky : ∀ v p' D', num b n lo (hi + 1) p = some (v, p') → M1 D D' → TpR b n D' p' → D' 286 12 = Int32.ofNat p → Q (.inl (some (.int (Int32.ofNat v)))) (mk sh D') c s)
    (kn : ∀ D', num b n lo (hi + 1) p = none → M1 D D' → RB b n D' → D' 286 12 = Int32.ofNat p → Q (.inl (some (.int (-1)))) (mk sh D') c s) :
    Wx (tP nx xs) (d + 2) 223 0 [some (.ref 286), (some (.int (Int32.ofNat lo))), (some (.int (Int32.ofNat hi))), none] [] (mk sh D) c s Q := by
  have := k223 (nx := nx) (xs := xs) (d := d) hw HS tb tr hlo (show hi + 1 < 10000 by omega) ky kn
  rw [mo_s] at this
  exact this
theorem k224c {i lo hi : Nat} {w : List Nat} (hw : WT sh) (HS : SP sh) (tb : TB b n) (tr : TpR b n D p) (hi' : i < 80) (hx : isTx i 0 w = true) (hl : (tTx.getD i []).length = w.length) (hlo : lo < 1000) (hhb : hi < 9999)
    (kf : ∀ f D', bhd b n w lo (hi + 1) p = .inl f → M1 D D' → D' 286 12 = Int32.ofNat f → Q (.inl (some (.int (-1)))) (mk sh D') c s)
    (ky : ∀ v p' D', bhd b n w lo (hi + 1) p = .inr (v, p') → M1 D D' → TpR b n D' p' → Q (.inl (some (.int (Int32.ofNat v)))) (mk sh D') c s) :
    Wx (tP nx xs) (d + 3) 224 0 [some (.ref 286), some (.retAddr (i + 1)), (some (.int (Int32.ofNat lo))), (some (.int (Int32.ofNat hi)))] [] (mk sh D) c s Q := by
  have := k224 (nx := nx) (xs := xs) (d := d) hw HS tb tr hi' hx hl hlo (show hi + 1 < 10000 by omega) kf ky
  rw [mo_s] at this
  exact this
theorem k225c {i hi : Nat} {w : List Nat} {wo : Int32} (hw : WT sh) (HS : SP sh) (tb : TB b n) (tr : TpR b n D p) (hi' : i < 80) (hx : isTx i 0 w = true) (hl : (tTx.getD i []).length = w.length) (hhb : hi < 9999)
    (kf : ∀ f D', tld b n w (hi + 1) p = .inl f → M1 D D' → D' 286 12 = Int32.ofNat f → Q (.inl (some (.int (Int32.ofNat 1000000)))) (mk sh D') c s)
    (ky : ∀ o p' D', tld b n w (hi + 1) p = .inr (o, p') → M1 D D' → TpR b n D' p' → Q (.inl (some (.int (match o with
      | none => wo
      | some v => Int32.ofNat v)))) (mk sh D') c s) :
    Wx (tP nx xs) (d + 4) 225 0 [some (.ref 286), some (.retAddr (i + 1)), (some (.int (Int32.ofNat hi))), (some (.int (wo))), none] [] (mk sh D) c s Q := by
  have := k225 (nx := nx) (xs := xs) (d := d) (wo := wo) hw HS tb tr hi' hx hl (show hi + 1 < 10000 by omega) kf ky
  rw [mo_s] at this
  exact this
theorem bhd_v {w : List Nat} {lo hb v p' : Nat} (h : bhd b n w lo hb p = .inr (v, p')) (hp : p ≤ n) : lo ≤ v ∧ v < hb ∧ v < 1000 := by
  unfold bhd at h
  cases hW : wrd b n w p with
  | none => rw [hW] at h; cases h
  | some p1 =>
    obtain ⟨_, _, _, w4, _⟩ := wrd_some hW hp
    rw [hW] at h
    simp only at h
    cases hN : num b n lo hb p1 with
    | none => rw [hN] at h; cases h
    | some x =>
      rw [hN] at h
      cases h
      obtain ⟨_, _, _, a1, a2, a3, _⟩ := num_some hN w4
      refine ⟨a1, a2, ?_⟩
      unfold num at hN
      split at hN
      · cases hN
      · next hc =>
        have := vlN_lt (b := b) (p := p1) (de b n p1 - p1) fun i hi => (isB_iff.mp (ru_in (b := b) (n := n) (lo := 48) (hi := 57) (p := p1) (i := p1 + i) (by omega) (by show _ < de b n p1; have : p1 ≤ de b n p1 := ru_ge; omega))).2.2
        have p10 : 10 ^ (de b n p1 - p1) ≤ 10 ^ 3 := Nat.pow_le_pow_right (by decide) (by omega)
        omega
theorem tld_v {w : List Nat} {hb v p' : Nat} (h : tld b n w hb p = .inr (some v, p')) (hp : p ≤ n) : v < hb := by
  unfold tld at h
  cases hW : wrd b n w p with
  | none => rw [hW] at h; cases h
  | some p1 =>
    obtain ⟨_, _, _, w4, _⟩ := wrd_some hW hp
    rw [hW] at h
    simp only at h
    cases hN : num b n 0 hb p1 with
    | none => rw [hN] at h; cases h
    | some x =>
      obtain ⟨y, z⟩ := x
      rw [hN] at h
      cases h
      exact (num_some hN w4).2.2.2.2.1
theorem ne_far {v : Nat} (h : v < 1000) : ¬ Int32.ofNat v = Int32.ofNat 1000000 := by rw [oN_eq (by omega) (by decide)]; omega
theorem k229 (hw : WT sh) (HS : SP sh) (tb : TB b n) (rc : RC b n S nl D p) (h12 : D 286 12 = Int32.ofNat p0)
    (kf : ∀ f D', (if S.2.1 < 8 then thL b n S p else .inl p0) = .inl f → MS D D' → D' 286 12 = Int32.ofNat f → Q (.inl (some (.int (Int32.ofNat 0)))) (mk sh D') c s)
    (ky : ∀ S' p' D', (if S.2.1 < 8 then thL b n S p else .inl p0) = .inr (S', p') → MS D D' → RC b n S' nl D' p' → Q (.inl (some (.int (Int32.ofNat 1)))) (mk sh D') c s) :
    Wx (tP nx xs) (d + 5) 229 0 [some (.ref 286), none, none, none, none] [] (mk sh D) c s Q := by
  have n10 : ¬ (Int32.ofNat 1 : Int32) = Int32.ofNat 0 := by decide
  have I := rc.2.2
  have hnt := i_nt8 I
  have hng := i_ng6 I
  have hnr := i_nr5 I
  simp only [b229_0 hw, mI_thrown HS, mF_thrown HS, mR_row HS, mR_image HS, mR_earlier HS, mR_trial HS, mR_acts HS, mI_hasImage HS, mF_hasImage HS, mI_remembered HS, mF_remembered HS, mR_tape HS, mI_taped HS, mF_taped HS, mI_point HS, mF_point HS, mI_end HS, mF_end HS, mI_begin HS, mF_begin HS, mI_deep HS, mF_deep HS, mI_faultAt HS, mF_faultAt HS, mR_five HS, mI_codes HS, mF_codes HS, mR_value HS, mI_so HS, mF_so HS, mR_lines HS, mR_chosen HS, mR_best HS, mR_members HS, mR_paired HS, mO HS, mA_287 HS, mW_287 HS, mA_288 HS, mW_288 HS, mA_289 HS, mW_289 HS, mA_290 HS, mW_290 HS, mA_291 HS, mW_291 HS, mA_292 HS, mW_292 HS, mA_293 HS, mW_293 HS, mA_294 HS, mW_294 HS, mA_295 HS, mW_295 HS, mA_296 HS, mW_296 HS, mA_297 HS, mW_297 HS, mA_298 HS, mW_298 HS, mA_299 HS, mW_299 HS, wi_some, or_0, or_1, bo_or, ite_boP, true_and, and_true, kN_v, kN_n, kT_v, kT_n, kT_e, Nat.add_zero, Nat.zero_add, k197 hw HS, r_nt rc.2.1, b229_4 hw, oN_eq (show S.2.1 < 2147483648 by omega) (show 8 < 2147483648 by omega)]
  by_cases h8 : S.2.1 < 8
  · simp only [h8, if_true] at kf ky
    simp only [show ¬ S.2.1 = 8 by omega, if_false]
    unfold thL at kf ky
    refine k224c (w := wAt) hw HS tb rc.1 (by decide) (by decide +kernel) (by decide +kernel) (by decide) (by decide) ?_ ?_
    · intro f D1 h m1 e1
      simp only [h] at kf
      simp only [wi_some, or_0, or_1, bo_or, ite_boP, true_and, and_true, kN_v, kN_n, kT_v, kT_n, kT_e, Nat.add_zero, Nat.zero_add, b229_22 hw, show (-1 : Int32) < Int32.ofNat 0 by decide, if_true]
      exact kf f D1 rfl m1.ms e1
    · intro stop p1 D1 h m1 t1
      have vs := bhd_v h rc.1.le.1
      simp only [h] at kf ky
      simp only [wi_some, or_0, or_1, bo_or, ite_boP, true_and, and_true, kN_v, kN_n, kT_v, kT_n, kT_e, Nat.add_zero, Nat.zero_add, b229_22 hw, oN_nn (show stop < 2147483648 by omega), if_false, mI_thrown HS, mF_thrown HS, mR_row HS, mR_image HS, mR_earlier HS, mR_trial HS, mR_acts HS, mI_hasImage HS, mF_hasImage HS, mI_remembered HS, mF_remembered HS, mR_tape HS, mI_taped HS, mF_taped HS, mI_point HS, mF_point HS, mI_end HS, mF_end HS, mI_begin HS, mF_begin HS, mI_deep HS, mF_deep HS, mI_faultAt HS, mF_faultAt HS, mR_five HS, mI_codes HS, mF_codes HS, mR_value HS, mI_so HS, mF_so HS, mR_lines HS, mR_chosen HS, mR_best HS, mR_members HS, mR_paired HS, mO HS, mA_287 HS, mW_287 HS, mA_288 HS, mW_288 HS, mA_289 HS, mW_289 HS, mA_290 HS, mW_290 HS, mA_291 HS, mW_291 HS, mA_292 HS, mW_292 HS, mA_293 HS, mW_293 HS, mA_294 HS, mW_294 HS, mA_295 HS, mW_295 HS, mA_296 HS, mW_296 HS, mA_297 HS, mW_297 HS, mA_298 HS, mW_298 HS, mA_299 HS, mW_299 HS]
      have tail : ∀ (so : Bool) q D2, M1 D D2 → TpR b n D2 q → (∀ f D', tld b n wWorth 100 q = .inl f → MS D D' → D' 286 12 = Int32.ofNat f → Q (.inl (some (.int (Int32.ofNat 0)))) (mk sh D') c s) → (∀ o p' D', tld b n wWorth 100 q = .inr (o, p') → MS D D' → RC b n (thV S.1 S.2.1 stop so (o.getD 1), S.2.1 + 1, S.2.2.1, S.2.2.2) nl D' p' → Q (.inl (some (.int (Int32.ofNat 1)))) (mk sh D') c s) → Wx (tP nx xs) (d + 5) 229 43 [some (.ref 286), (some (.int (Int32.ofNat S.2.1))), (some (.int (Int32.ofNat stop))), none, none] [.int (bo so)] (mk sh D2) c s Q := by
        intro so q D2 m2 t2 kf ky
        simp only [b229_43 hw, mI_thrown HS, mF_thrown HS, mR_row HS, mR_image HS, mR_earlier HS, mR_trial HS, mR_acts HS, mI_hasImage HS, mF_hasImage HS, mI_remembered HS, mF_remembered HS, mR_tape HS, mI_taped HS, mF_taped HS, mI_point HS, mF_point HS, mI_end HS, mF_end HS, mI_begin HS, mF_begin HS, mI_deep HS, mF_deep HS, mI_faultAt HS, mF_faultAt HS, mR_five HS, mI_codes HS, mF_codes HS, mR_value HS, mI_so HS, mF_so HS, mR_lines HS, mR_chosen HS, mR_best HS, mR_members HS, mR_paired HS, mO HS, mA_287 HS, mW_287 HS, mA_288 HS, mW_288 HS, mA_289 HS, mW_289 HS, mA_290 HS, mW_290 HS, mA_291 HS, mW_291 HS, mA_292 HS, mW_292 HS, mA_293 HS, mW_293 HS, mA_294 HS, mW_294 HS, mA_295 HS, mW_295 HS, mA_296 HS, mW_296 HS, mA_297 HS, mW_297 HS, mA_298 HS, mW_298 HS, mA_299 HS, mW_299 HS, wi_some, or_0, or_1, bo_or, ite_boP, true_and, and_true, kN_v, kN_n, kT_v, kT_n, kT_e, Nat.add_zero, Nat.zero_add]
        refine k225c (w := wWorth) (wo := Int32.ofNat 1) hw HS tb t2 (by decide) (by decide +kernel) (by decide +kernel) (by decide) ?_ ?_
        · intro f D3 h m3 e3
          simp only [wi_some, or_0, or_1, bo_or, ite_boP, true_and, and_true, kN_v, kN_n, kT_v, kT_n, kT_e, Nat.add_zero, Nat.zero_add, b229_53 hw, if_true]
          exact kf f D3 h (m2.tr m3).ms e3
        · intro o p' D3 h m3 t3
          have ky := ky o p'
          have R3 : Rw (D3 287) S.1 S.2.1 S.2.2.1 S.2.2.2 nl := by rw [(m2.tr m3).r7]; exact rc.2.1
          have ev : ∃ v, v < 1000 ∧ (match o with
            | none => Int32.ofNat 1
            | some v => Int32.ofNat v : Int32) = Int32.ofNat v ∧ o.getD 1 = v := by
            cases o with
            | none => exact ⟨1, by decide, rfl, rfl⟩
            | some v => exact ⟨v, by have := tld_v h t2.le.1; omega, rfl, rfl⟩
          obtain ⟨v, v1, v2, v3⟩ := ev
          rw [v2]
          rw [v3] at ky
          have b0 : 8 + 5 * S.2.1 < 2050 := by omega
          have b1 : 8 + 5 * S.2.1 + 1 < 2050 := by omega
          have b2 : 8 + 5 * S.2.1 + 2 < 2050 := by omega
          have b3 : 8 + 5 * S.2.1 + 3 < 2050 := by omega
          have b4 : 8 + 5 * S.2.1 + 4 < 2050 := by omega
          have bz : 0 < 2050 := by decide
          have fin : Wx (tP nx xs) (d + 5) 229 120 [some (.ref 286), (some (.int (Int32.ofNat S.2.1))), (some (.int (Int32.ofNat stop))), (some (.int (bo so))), (some (.int (Int32.ofNat v)))] [] (mk sh (u2 (u2 (u2 (u2 (u2 D3 287 (8 + 5 * S.2.1) (Int32.ofNat stop)) 287 (8 + 5 * S.2.1 + 1) (bo so)) 287 (8 + 5 * S.2.1 + 2) (Int32.ofNat v)) 287 (8 + 5 * S.2.1 + 3) (Int32.ofNat 0)) 287 (8 + 5 * S.2.1 + 4) (Int32.ofNat 0))) c s Q := by
            have e0 : u2 (u2 (u2 (u2 (u2 D3 287 (8 + 5 * S.2.1) (Int32.ofNat stop)) 287 (8 + 5 * S.2.1 + 1) (bo so)) 287 (8 + 5 * S.2.1 + 2) (Int32.ofNat v)) 287 (8 + 5 * S.2.1 + 3) (Int32.ofNat 0)) 287 (8 + 5 * S.2.1 + 4) (Int32.ofNat 0) 287 0 = Int32.ofNat S.2.1 := by
              rw [u2_at, if_neg (by omega), u2_at, if_neg (by omega), u2_at, if_neg (by omega), u2_at, if_neg (by omega), u2_at, if_neg (by omega)]; exact r_nt R3
            rw [b229_120 hw]
            simp only [mI_thrown HS, mF_thrown HS, mR_row HS, mR_image HS, mR_earlier HS, mR_trial HS, mR_acts HS, mI_hasImage HS, mF_hasImage HS, mI_remembered HS, mF_remembered HS, mR_tape HS, mI_taped HS, mF_taped HS, mI_point HS, mF_point HS, mI_end HS, mF_end HS, mI_begin HS, mF_begin HS, mI_deep HS, mF_deep HS, mI_faultAt HS, mF_faultAt HS, mR_five HS, mI_codes HS, mF_codes HS, mR_value HS, mI_so HS, mF_so HS, mR_lines HS, mR_chosen HS, mR_best HS, mR_members HS, mR_paired HS, mO HS, mA_287 HS, mW_287 HS, mA_288 HS, mW_288 HS, mA_289 HS, mW_289 HS, mA_290 HS, mW_290 HS, mA_291 HS, mW_291 HS, mA_292 HS, mW_292 HS, mA_293 HS, mW_293 HS, mA_294 HS, mW_294 HS, mA_295 HS, mW_295 HS, mA_296 HS, mW_296 HS, mA_297 HS, mW_297 HS, mA_298 HS, mW_298 HS, mA_299 HS, mW_299 HS, wi_some, or_0, or_1, bo_or, ite_boP, true_and, and_true, kN_v, kN_n, kT_v, kT_n, kT_e, Nat.add_zero, Nat.zero_add, bz, e0, oN_tn (show 0 < 2147483648 by decide), oN_add, b229_130 hw]
            refine ky _ h ((((((MS.st (m2.tr m3).ms (by omega) (by omega)).st (by omega) (by omega)).st (by omega) (by omega)).st (by omega) (by omega)).st (by omega) (by omega)).st (by omega) (by omega)) ⟨t3.st.st.st.st.st.st, ?_, Iv_th I h8 vs.2.1⟩
            refine Rw_th R3 h8 hng hnr (fun i h1 h2 => ?_) ?_ ?_ ?_ ?_ ?_ ?_
            · rw [u2_at, if_neg (by omega), u2_at, if_neg (by omega), u2_at, if_neg (by omega), u2_at, if_neg (by omega), u2_at, if_neg (by omega), u2_at, if_neg (by omega)]
            · rw [u2_at, if_pos ⟨rfl, rfl⟩]
            · rw [u2_at, if_neg (by omega), u2_at, if_neg (by omega), u2_at, if_neg (by omega), u2_at, if_neg (by omega), u2_at, if_neg (by omega), u2_at, if_pos ⟨rfl, rfl⟩]
            · rw [u2_at, if_neg (by omega), u2_at, if_neg (by omega), u2_at, if_neg (by omega), u2_at, if_neg (by omega), u2_at, if_pos ⟨rfl, rfl⟩]
            · rw [u2_at, if_neg (by omega), u2_at, if_neg (by omega), u2_at, if_neg (by omega), u2_at, if_pos ⟨rfl, rfl⟩]
            · rw [u2_at, if_neg (by omega), u2_at, if_neg (by omega), u2_at, if_pos ⟨rfl, rfl⟩]
            · rw [u2_at, if_neg (by omega), u2_at, if_pos ⟨rfl, rfl⟩]
          simp only [wi_some, or_0, or_1, bo_or, ite_boP, true_and, and_true, kN_v, kN_n, kT_v, kT_n, kT_e, Nat.add_zero, Nat.zero_add, b229_53 hw, ne_far v1, if_false, mI_thrown HS, mF_thrown HS, mR_row HS, mR_image HS, mR_earlier HS, mR_trial HS, mR_acts HS, mI_hasImage HS, mF_hasImage HS, mI_remembered HS, mF_remembered HS, mR_tape HS, mI_taped HS, mF_taped HS, mI_point HS, mF_point HS, mI_end HS, mF_end HS, mI_begin HS, mF_begin HS, mI_deep HS, mF_deep HS, mI_faultAt HS, mF_faultAt HS, mR_five HS, mI_codes HS, mF_codes HS, mR_value HS, mI_so HS, mF_so HS, mR_lines HS, mR_chosen HS, mR_best HS, mR_members HS, mR_paired HS, mO HS, mA_287 HS, mW_287 HS, mA_288 HS, mW_288 HS, mA_289 HS, mW_289 HS, mA_290 HS, mW_290 HS, mA_291 HS, mW_291 HS, mA_292 HS, mW_292 HS, mA_293 HS, mW_293 HS, mA_294 HS, mW_294 HS, mA_295 HS, mW_295 HS, mA_296 HS, mW_296 HS, mA_297 HS, mW_297 HS, mA_298 HS, mW_298 HS, mA_299 HS, mW_299 HS, k200 hw, b229_73 hw, b229_75 hw, b229_84 hw, b229_86 hw, b229_95 hw, b229_98 hw, b229_107 hw, b229_109 hw, b229_118 hw, b0, b1, b2, b3, b4, oN_tn (show 8 + 5 * S.2.1 < 2147483648 by omega), oN_tn (show 8 + 5 * S.2.1 + 1 < 2147483648 by omega), oN_tn (show 8 + 5 * S.2.1 + 2 < 2147483648 by omega), oN_tn (show 8 + 5 * S.2.1 + 3 < 2147483648 by omega), oN_tn (show 8 + 5 * S.2.1 + 4 < 2147483648 by omega)]
          exact fin
      refine k221 (w := wSo) hw HS tb t1 (by decide) (by decide +kernel) (by decide +kernel) ?_ ?_
      · intro p2 D2 hS m2 t2 e2
        simp only [hS, Option.getD_some, Option.isSome_some] at kf ky
        simp only [wi_some, or_0, or_1, bo_or, ite_boP, true_and, and_true, kN_v, kN_n, kT_v, kT_n, kT_e, Nat.add_zero, Nat.zero_add, b229_35 hw, n10, if_false]
        refine tail true p2 D2 (m1.tr m2) t2 (fun f D' h g1 g2 => ?_) (fun o p' D' h g1 g2 => ?_)
        · exact kf f D' (by rw [h]) g1 g2
        · exact ky _ p' D' (by rw [h]) g1 g2
      · intro D2 hS m2 t2 e2
        simp only [hS, Option.getD_none, Option.isSome_none] at kf ky
        simp only [wi_some, or_0, or_1, bo_or, ite_boP, true_and, and_true, kN_v, kN_n, kT_v, kT_n, kT_e, Nat.add_zero, Nat.zero_add, b229_35 hw, if_true]
        refine tail false p1 D2 (m1.tr m2) t2 (fun f D' h g1 g2 => ?_) (fun o p' D' h g1 g2 => ?_)
        · exact kf f D' (by rw [h]) g1 g2
        · exact ky _ p' D' (by rw [h]) g1 g2
  · simp only [h8, if_false] at kf
    simp only [show S.2.1 = 8 by omega, if_true]
    exact kf _ D rfl MS.rf h12
theorem k230 {m : Bool} (hw : WT sh) (HS : SP sh) (tb : TB b n) (rc : RC b n S nl D p)
    (kf : ∀ f D', tiL b n S m p = .inl f → MS D D' → D' 286 12 = Int32.ofNat f → Q (.inl (some (.int (Int32.ofNat 0)))) (mk sh D') c s)
    (ky : ∀ S' p' D', tiL b n S m p = .inr (S', p') → MS D D' → RC b n S' nl D' p' → Q (.inl (some (.int (Int32.ofNat 1)))) (mk sh D') c s) :
    Wx (tP nx xs) (d + 3) 230 0 [some (.ref 286), (some (.int (Int32.ofNat (if m then 3 else 4)))), (some (.int (Int32.ofNat (if m then 4 else 3)))), none, none] [] (mk sh D) c s Q := by
  have I := rc.2.2
  have hnt := i_nt8 I
  have hng := i_ng6 I
  have hnr := i_nr5 I
  have emo : Int32.ofNat S.2.1 - Int32.ofNat 1 = mo S.2.1 := rfl
  unfold tiL at kf ky
  simp only [b230_0 hw, mI_thrown HS, mF_thrown HS, mR_row HS, mR_image HS, mR_earlier HS, mR_trial HS, mR_acts HS, mI_hasImage HS, mF_hasImage HS, mI_remembered HS, mF_remembered HS, mR_tape HS, mI_taped HS, mF_taped HS, mI_point HS, mF_point HS, mI_end HS, mF_end HS, mI_begin HS, mF_begin HS, mI_deep HS, mF_deep HS, mI_faultAt HS, mF_faultAt HS, mR_five HS, mI_codes HS, mF_codes HS, mR_value HS, mI_so HS, mF_so HS, mR_lines HS, mR_chosen HS, mR_best HS, mR_members HS, mR_paired HS, mO HS, mA_287 HS, mW_287 HS, mA_288 HS, mW_288 HS, mA_289 HS, mW_289 HS, mA_290 HS, mW_290 HS, mA_291 HS, mW_291 HS, mA_292 HS, mW_292 HS, mA_293 HS, mW_293 HS, mA_294 HS, mW_294 HS, mA_295 HS, mW_295 HS, mA_296 HS, mW_296 HS, mA_297 HS, mW_297 HS, mA_298 HS, mW_298 HS, mA_299 HS, mW_299 HS, wi_some, or_0, or_1, bo_or, ite_boP, true_and, and_true, kN_v, kN_n, kT_v, kT_n, kT_e, Nat.add_zero, Nat.zero_add, k197 hw HS, r_nt rc.2.1, b230_6 hw, emo]
  refine k223 hw HS tb rc.1 (by decide) (by omega) ?_ ?_
  rotate_left
  · intro D1 hN m1 rb1 e1
    simp only [hN] at kf
    simp only [wi_some, or_0, or_1, bo_or, ite_boP, true_and, and_true, kN_v, kN_n, kT_v, kT_n, kT_e, Nat.add_zero, Nat.zero_add, b230_11 hw, show (-1 : Int32) < Int32.ofNat 0 by decide, if_true, b230_31 hw, b230_54 hw]
    exact kf _ D1 rfl m1.ms e1
  intro t p1 D1 hN m1 t1 e1
  obtain ⟨_, w4, _, _, w5, _⟩ := num_some hN rc.1.le.1
  have R1 : Rw (D1 287) S.1 S.2.1 S.2.2.1 S.2.2.2 nl := by rw [m1.r7]; exact rc.2.1
  simp only [hN] at kf ky
  simp only [wi_some, or_0, or_1, bo_or, ite_boP, true_and, and_true, kN_v, kN_n, kT_v, kT_n, kT_e, Nat.add_zero, Nat.zero_add, b230_11 hw, oN_nn (show t < 2147483648 by omega), if_false, mI_thrown HS, mF_thrown HS, mR_row HS, mR_image HS, mR_earlier HS, mR_trial HS, mR_acts HS, mI_hasImage HS, mF_hasImage HS, mI_remembered HS, mF_remembered HS, mR_tape HS, mI_taped HS, mF_taped HS, mI_point HS, mF_point HS, mI_end HS, mF_end HS, mI_begin HS, mF_begin HS, mI_deep HS, mF_deep HS, mI_faultAt HS, mF_faultAt HS, mR_five HS, mI_codes HS, mF_codes HS, mR_value HS, mI_so HS, mF_so HS, mR_lines HS, mR_chosen HS, mR_best HS, mR_members HS, mR_paired HS, mO HS, mA_287 HS, mW_287 HS, mA_288 HS, mW_288 HS, mA_289 HS, mW_289 HS, mA_290 HS, mW_290 HS, mA_291 HS, mW_291 HS, mA_292 HS, mW_292 HS, mA_293 HS, mW_293 HS, mA_294 HS, mW_294 HS, mA_295 HS, mW_295 HS, mA_296 HS, mW_296 HS, mA_297 HS, mW_297 HS, mA_298 HS, mW_298 HS, mA_299 HS, mW_299 HS, k197 hw HS, r_nt R1, b230_26 hw, emo]
  refine k223 hw HS tb t1 (by decide) (by omega) ?_ ?_
  rotate_left
  · intro D2 hN2 m2 rb2 e2
    simp only [hN2] at kf
    simp only [wi_some, or_0, or_1, bo_or, ite_boP, true_and, and_true, kN_v, kN_n, kT_v, kT_n, kT_e, Nat.add_zero, Nat.zero_add, b230_31 hw, show (-1 : Int32) < Int32.ofNat 0 by decide, if_true, b230_54 hw]
    exact kf _ D2 rfl (m1.tr m2).ms e2
  intro o p2 D2 hN2 m2 t2 e2
  obtain ⟨_, w6, _, _, w7, _⟩ := num_some hN2 w4
  have R2 : Rw (D2 287) S.1 S.2.1 S.2.2.1 S.2.2.2 nl := by rw [m2.r7]; exact R1
  have ht8 : t < 8 := by omega
  have ho8 : o < 8 := by omega
  have z0 : 0 < 8 := by decide
  simp only [hN2] at kf ky
  simp only [wi_some, or_0, or_1, bo_or, ite_boP, true_and, and_true, kN_v, kN_n, kT_v, kT_n, kT_e, Nat.add_zero, Nat.zero_add, b230_31 hw, oN_nn (show o < 2147483648 by omega), if_false, mI_thrown HS, mF_thrown HS, mR_row HS, mR_image HS, mR_earlier HS, mR_trial HS, mR_acts HS, mI_hasImage HS, mF_hasImage HS, mI_remembered HS, mF_remembered HS, mR_tape HS, mI_taped HS, mF_taped HS, mI_point HS, mF_point HS, mI_end HS, mF_end HS, mI_begin HS, mF_begin HS, mI_deep HS, mF_deep HS, mI_faultAt HS, mF_faultAt HS, mR_five HS, mI_codes HS, mF_codes HS, mR_value HS, mI_so HS, mF_so HS, mR_lines HS, mR_chosen HS, mR_best HS, mR_members HS, mR_paired HS, mO HS, mA_287 HS, mW_287 HS, mA_288 HS, mW_288 HS, mA_289 HS, mW_289 HS, mA_290 HS, mW_290 HS, mA_291 HS, mW_291 HS, mA_292 HS, mW_292 HS, mA_293 HS, mW_293 HS, mA_294 HS, mW_294 HS, mA_295 HS, mW_295 HS, mA_296 HS, mW_296 HS, mA_297 HS, mW_297 HS, mA_298 HS, mW_298 HS, mA_299 HS, mW_299 HS, k201 hw HS ho8 z0, k201 hw HS ht8 z0, b230_45 hw, r_at0 R2 w5, r_at0 R2 w7, b230_51 hw]
  by_cases hlt : S.1 2 t < S.1 2 o
  · simp only [hlt, if_true] at ky ⊢
    have b3 : 8 + 5 * t + 3 < 2050 := by omega
    have b4 : 8 + 5 * t + 4 < 2050 := by omega
    have r3 : D2 287 (8 + 5 * t + 3) = S.1 4 t := r_makes R2 w5
    have r4 : D2 287 (8 + 5 * t + 4) = S.1 5 t := r_hinders R2 w5
    cases m with
    | true =>
      have r4' : ∀ v, u2 D2 287 (8 + 5 * t + 3) v 287 (8 + 5 * t + 4) = S.1 5 t := fun v => by rw [u2_at, if_neg (by omega)]; exact r4
      simp only [if_true, mI_thrown HS, mF_thrown HS, mR_row HS, mR_image HS, mR_earlier HS, mR_trial HS, mR_acts HS, mI_hasImage HS, mF_hasImage HS, mI_remembered HS, mF_remembered HS, mR_tape HS, mI_taped HS, mF_taped HS, mI_point HS, mF_point HS, mI_end HS, mF_end HS, mI_begin HS, mF_begin HS, mI_deep HS, mF_deep HS, mI_faultAt HS, mF_faultAt HS, mR_five HS, mI_codes HS, mF_codes HS, mR_value HS, mI_so HS, mF_so HS, mR_lines HS, mR_chosen HS, mR_best HS, mR_members HS, mR_paired HS, mO HS, mA_287 HS, mW_287 HS, mA_288 HS, mW_288 HS, mA_289 HS, mW_289 HS, mA_290 HS, mW_290 HS, mA_291 HS, mW_291 HS, mA_292 HS, mW_292 HS, mA_293 HS, mW_293 HS, mA_294 HS, mW_294 HS, mA_295 HS, mW_295 HS, mA_296 HS, mW_296 HS, mA_297 HS, mW_297 HS, mA_298 HS, mW_298 HS, mA_299 HS, mW_299 HS, wi_some, or_0, or_1, bo_or, ite_boP, true_and, and_true, kN_v, kN_n, kT_v, kT_n, kT_e, Nat.add_zero, Nat.zero_add, k200 hw, b230_65 hw, b3, b4, r3, oN_tn (show 8 + 5 * t + 3 < 2147483648 by omega), oN_tn (show 8 + 5 * t + 4 < 2147483648 by omega), b230_73 hw, b230_82 hw, r4', b230_92 hw]
      refine ky _ p2 _ rfl ((MS.st (m1.tr m2).ms (by omega) (by omega)).st (by omega) (by omega)) ⟨t2.st.st, ?_, Iv_ti I w5 w7 hlt⟩
      refine Rw_ti (m := true) R2 hnt hng hnr w5 (fun i h1 h2 => ?_) ?_ ?_
      · rw [u2_at, if_neg (by omega), u2_at, if_neg (by omega)]
      · rw [u2_at, if_neg (by omega), u2_at, if_pos ⟨rfl, rfl⟩]; rfl
      · rw [u2_at, if_pos ⟨rfl, rfl⟩]; rfl
    | false =>
      have r3' : ∀ v, u2 D2 287 (8 + 5 * t + 4) v 287 (8 + 5 * t + 3) = S.1 4 t := fun v => by rw [u2_at, if_neg (by omega)]; exact r3
      simp only [Bool.false_eq_true, if_false, mI_thrown HS, mF_thrown HS, mR_row HS, mR_image HS, mR_earlier HS, mR_trial HS, mR_acts HS, mI_hasImage HS, mF_hasImage HS, mI_remembered HS, mF_remembered HS, mR_tape HS, mI_taped HS, mF_taped HS, mI_point HS, mF_point HS, mI_end HS, mF_end HS, mI_begin HS, mF_begin HS, mI_deep HS, mF_deep HS, mI_faultAt HS, mF_faultAt HS, mR_five HS, mI_codes HS, mF_codes HS, mR_value HS, mI_so HS, mF_so HS, mR_lines HS, mR_chosen HS, mR_best HS, mR_members HS, mR_paired HS, mO HS, mA_287 HS, mW_287 HS, mA_288 HS, mW_288 HS, mA_289 HS, mW_289 HS, mA_290 HS, mW_290 HS, mA_291 HS, mW_291 HS, mA_292 HS, mW_292 HS, mA_293 HS, mW_293 HS, mA_294 HS, mW_294 HS, mA_295 HS, mW_295 HS, mA_296 HS, mW_296 HS, mA_297 HS, mW_297 HS, mA_298 HS, mW_298 HS, mA_299 HS, mW_299 HS, wi_some, or_0, or_1, bo_or, ite_boP, true_and, and_true, kN_v, kN_n, kT_v, kT_n, kT_e, Nat.add_zero, Nat.zero_add, k200 hw, b230_65 hw, b3, b4, r4, oN_tn (show 8 + 5 * t + 3 < 2147483648 by omega), oN_tn (show 8 + 5 * t + 4 < 2147483648 by omega), b230_73 hw, b230_82 hw, r3', b230_92 hw]
      refine ky _ p2 _ rfl ((MS.st (m1.tr m2).ms (by omega) (by omega)).st (by omega) (by omega)) ⟨t2.st.st, ?_, Iv_ti I w5 w7 hlt⟩
      refine Rw_ti (m := false) R2 hnt hng hnr w5 (fun i h1 h2 => ?_) ?_ ?_
      · rw [u2_at, if_neg (by omega), u2_at, if_neg (by omega)]
      · rw [u2_at, if_pos ⟨rfl, rfl⟩]; rfl
      · rw [u2_at, if_neg (by omega), u2_at, if_pos ⟨rfl, rfl⟩]; rfl
  · simp only [hlt, if_false, b230_54 hw] at kf ⊢
    exact kf _ D2 rfl (m1.tr m2).ms e2
theorem k232 (hw : WT sh) (HS : SP sh) (tb : TB b n) (rc : RC b n S nl D p)
    (kf : ∀ f D', shL b n S p = .inl f → MS D D' → D' 286 12 = Int32.ofNat f → Q (.inl (some (.int (Int32.ofNat 0)))) (mk sh D') c s)
    (ky : ∀ S' p' D', shL b n S p = .inr (S', p') → MS D D' → RC b n S' nl D' p' → Q (.inl (some (.int (Int32.ofNat 1)))) (mk sh D') c s) :
    Wx (tP nx xs) (d + 3) 232 0 [some (.ref 286), none, none] [] (mk sh D) c s Q := by
  have I := rc.2.2
  have hnt := i_nt8 I
  have hng := i_ng6 I
  have hnr := i_nr5 I
  have emo : Int32.ofNat S.2.2.1 - Int32.ofNat 1 = mo S.2.2.1 := rfl
  unfold shL at kf ky
  simp only [b232_0 hw, mI_thrown HS, mF_thrown HS, mR_row HS, mR_image HS, mR_earlier HS, mR_trial HS, mR_acts HS, mI_hasImage HS, mF_hasImage HS, mI_remembered HS, mF_remembered HS, mR_tape HS, mI_taped HS, mF_taped HS, mI_point HS, mF_point HS, mI_end HS, mF_end HS, mI_begin HS, mF_begin HS, mI_deep HS, mF_deep HS, mI_faultAt HS, mF_faultAt HS, mR_five HS, mI_codes HS, mF_codes HS, mR_value HS, mI_so HS, mF_so HS, mR_lines HS, mR_chosen HS, mR_best HS, mR_members HS, mR_paired HS, mO HS, mA_287 HS, mW_287 HS, mA_288 HS, mW_288 HS, mA_289 HS, mW_289 HS, mA_290 HS, mW_290 HS, mA_291 HS, mW_291 HS, mA_292 HS, mW_292 HS, mA_293 HS, mW_293 HS, mA_294 HS, mW_294 HS, mA_295 HS, mW_295 HS, mA_296 HS, mW_296 HS, mA_297 HS, mW_297 HS, mA_298 HS, mW_298 HS, mA_299 HS, mW_299 HS, wi_some, or_0, or_1, bo_or, ite_boP, true_and, and_true, kN_v, kN_n, kT_v, kT_n, kT_e, Nat.add_zero, Nat.zero_add, k198 hw HS, r_ng rc.2.1, b232_6 hw, emo]
  refine k223 hw HS tb rc.1 (by decide) (by omega) ?_ ?_
  rotate_left
  · intro D1 hN m1 rb1 e1
    simp only [hN] at kf
    simp only [wi_some, or_0, or_1, bo_or, ite_boP, true_and, and_true, kN_v, kN_n, kT_v, kT_n, kT_e, Nat.add_zero, Nat.zero_add, b232_11 hw, show (-1 : Int32) < Int32.ofNat 0 by decide, if_true, b232_31 hw, b232_41 hw]
    exact kf _ D1 rfl m1.ms e1
  intro g p1 D1 hN m1 t1 e1
  obtain ⟨_, w4, _, _, w5, _⟩ := num_some hN rc.1.le.1
  have R1 : Rw (D1 287) S.1 S.2.1 S.2.2.1 S.2.2.2 nl := by rw [m1.r7]; exact rc.2.1
  simp only [hN] at kf ky
  simp only [wi_some, or_0, or_1, bo_or, ite_boP, true_and, and_true, kN_v, kN_n, kT_v, kT_n, kT_e, Nat.add_zero, Nat.zero_add, b232_11 hw, oN_nn (show g < 2147483648 by omega), if_false, mI_thrown HS, mF_thrown HS, mR_row HS, mR_image HS, mR_earlier HS, mR_trial HS, mR_acts HS, mI_hasImage HS, mF_hasImage HS, mI_remembered HS, mF_remembered HS, mR_tape HS, mI_taped HS, mF_taped HS, mI_point HS, mF_point HS, mI_end HS, mF_end HS, mI_begin HS, mF_begin HS, mI_deep HS, mF_deep HS, mI_faultAt HS, mF_faultAt HS, mR_five HS, mI_codes HS, mF_codes HS, mR_value HS, mI_so HS, mF_so HS, mR_lines HS, mR_chosen HS, mR_best HS, mR_members HS, mR_paired HS, mO HS, mA_287 HS, mW_287 HS, mA_288 HS, mW_288 HS, mA_289 HS, mW_289 HS, mA_290 HS, mW_290 HS, mA_291 HS, mW_291 HS, mA_292 HS, mW_292 HS, mA_293 HS, mW_293 HS, mA_294 HS, mW_294 HS, mA_295 HS, mW_295 HS, mA_296 HS, mW_296 HS, mA_297 HS, mW_297 HS, mA_298 HS, mW_298 HS, mA_299 HS, mW_299 HS, k198 hw HS, r_ng R1, b232_26 hw, emo]
  refine k223 hw HS tb t1 (by decide) (by omega) ?_ ?_
  rotate_left
  · intro D2 hN2 m2 rb2 e2
    simp only [hN2] at kf
    simp only [wi_some, or_0, or_1, bo_or, ite_boP, true_and, and_true, kN_v, kN_n, kT_v, kT_n, kT_e, Nat.add_zero, Nat.zero_add, b232_31 hw, show (-1 : Int32) < Int32.ofNat 0 by decide, if_true, b232_41 hw]
    exact kf _ D2 rfl (m1.tr m2).ms e2
  intro o p2 D2 hN2 m2 t2 e2
  obtain ⟨_, w6, _, _, w7, _⟩ := num_some hN2 w4
  have R2 : Rw (D2 287) S.1 S.2.1 S.2.2.1 S.2.2.2 nl := by rw [m2.r7]; exact R1
  simp only [hN2] at kf ky
  simp only [wi_some, or_0, or_1, bo_or, ite_boP, true_and, and_true, kN_v, kN_n, kT_v, kT_n, kT_e, Nat.add_zero, Nat.zero_add, b232_31 hw, oN_nn (show o < 2147483648 by omega), if_false, oN_eq (show o < 2147483648 by omega) (show g < 2147483648 by omega)]
  by_cases he : o = g
  · simp only [he, if_true, b232_41 hw] at kf ⊢
    exact kf _ D2 rfl (m1.tr m2).ms e2
  · have bg : 48 + 9 * g + 6 < 2050 := by omega
    have b' : 48 + 9 * o + 6 < 2050 := by omega
    have rg : D2 287 (48 + 9 * g + 6) = S.1 11 g := r_shuns R2 w5
    have ro : ∀ v, u2 D2 287 (48 + 9 * g + 6) v 287 (48 + 9 * o + 6) = S.1 11 o := fun v => by rw [u2_at, if_neg (by omega)]; exact r_shuns R2 w7
    simp only [he, if_false, mI_thrown HS, mF_thrown HS, mR_row HS, mR_image HS, mR_earlier HS, mR_trial HS, mR_acts HS, mI_hasImage HS, mF_hasImage HS, mI_remembered HS, mF_remembered HS, mR_tape HS, mI_taped HS, mF_taped HS, mI_point HS, mF_point HS, mI_end HS, mF_end HS, mI_begin HS, mF_begin HS, mI_deep HS, mF_deep HS, mI_faultAt HS, mF_faultAt HS, mR_five HS, mI_codes HS, mF_codes HS, mR_value HS, mI_so HS, mF_so HS, mR_lines HS, mR_chosen HS, mR_best HS, mR_members HS, mR_paired HS, mO HS, mA_287 HS, mW_287 HS, mA_288 HS, mW_288 HS, mA_289 HS, mW_289 HS, mA_290 HS, mW_290 HS, mA_291 HS, mW_291 HS, mA_292 HS, mW_292 HS, mA_293 HS, mW_293 HS, mA_294 HS, mW_294 HS, mA_295 HS, mW_295 HS, mA_296 HS, mW_296 HS, mA_297 HS, mW_297 HS, mA_298 HS, mW_298 HS, mA_299 HS, mW_299 HS, wi_some, or_0, or_1, bo_or, ite_boP, true_and, and_true, kN_v, kN_n, kT_v, kT_n, kT_e, Nat.add_zero, Nat.zero_add, k202 hw, b232_53 hw, bg, b', rg, oN_tn (show 48 + 9 * g + 6 < 2147483648 by omega), oN_tn (show 48 + 9 * o + 6 < 2147483648 by omega), b232_60 hw, b232_70 hw, ro, b232_77 hw] at ky ⊢
    refine ky _ p2 _ rfl ((MS.st (m1.tr m2).ms (by omega) (by omega)).st (by omega) (by omega)) ⟨t2.st.st, ?_, Iv_shuns (Iv_shuns I)⟩
    refine Rw_shuns (r := u2 D2 287 (48 + 9 * g + 6) (S.1 11 g ||| jshl (Int32.ofNat 1) (Int32.ofNat o)) 287) (Rw_shuns R2 hnt hng hnr w5 (fun i h1 => ?_) ?_) hnt hng hnr w7 (fun i h1 => ?_) ?_
    · rw [u2_at, if_neg (by omega)]
    · rw [u2_at, if_pos ⟨rfl, rfl⟩]; rfl
    · rw [u2_at, if_neg (by omega)]
    · rw [u2_at, if_pos ⟨rfl, rfl⟩]; rfl
theorem k228 (hw : WT sh) (HS : SP sh) (tb : TB b n) (rc : RC b n S nl D p)
    (kf : ∀ f D', dyL b n S p = .inl f → MS D D' → D' 286 12 = Int32.ofNat f → Q (.inl (some (.int (Int32.ofNat 0)))) (mk sh D') c s)
    (ky : ∀ S' p' D', dyL b n S p = .inr (S', p') → MS D D' → RC b n S' nl D' p' → Q (.inl (some (.int (Int32.ofNat 1)))) (mk sh D') c s) :
    Wx (tP nx xs) (d + 3) 228 0 [some (.ref 286), (some (.int (Int32.ofNat 5))), (some (.int (Int32.ofNat 0))), (some (.int (Int32.ofNat 999))), none] [] (mk sh D) c s Q := by
  have I := rc.2.2
  have b5 : 5 < 2050 := by decide
  have t5 : Int32.toNatClampNeg (Int32.ofNat 5) = 5 := by decide
  unfold dyL at kf ky
  simp only [b228_0 hw, mI_thrown HS, mF_thrown HS, mR_row HS, mR_image HS, mR_earlier HS, mR_trial HS, mR_acts HS, mI_hasImage HS, mF_hasImage HS, mI_remembered HS, mF_remembered HS, mR_tape HS, mI_taped HS, mF_taped HS, mI_point HS, mF_point HS, mI_end HS, mF_end HS, mI_begin HS, mF_begin HS, mI_deep HS, mF_deep HS, mI_faultAt HS, mF_faultAt HS, mR_five HS, mI_codes HS, mF_codes HS, mR_value HS, mI_so HS, mF_so HS, mR_lines HS, mR_chosen HS, mR_best HS, mR_members HS, mR_paired HS, mO HS, mA_287 HS, mW_287 HS, mA_288 HS, mW_288 HS, mA_289 HS, mW_289 HS, mA_290 HS, mW_290 HS, mA_291 HS, mW_291 HS, mA_292 HS, mW_292 HS, mA_293 HS, mW_293 HS, mA_294 HS, mW_294 HS, mA_295 HS, mW_295 HS, mA_296 HS, mW_296 HS, mA_297 HS, mW_297 HS, mA_298 HS, mW_298 HS, mA_299 HS, mW_299 HS, wi_some, or_0, or_1, bo_or, ite_boP, true_and, and_true, kN_v, kN_n, kT_v, kT_n, kT_e, Nat.add_zero, Nat.zero_add]
  refine k223c hw HS tb rc.1 (by decide) (by decide) ?_ ?_
  · intro v p1 D1 hN m1 t1 e1
    obtain ⟨_, _, _, _, w5, _⟩ := num_some hN rc.1.le.1
    have R1 : Rw (D1 287) S.1 S.2.1 S.2.2.1 S.2.2.2 nl := by rw [m1.r7]; exact rc.2.1
    simp only [hN] at ky
    simp only [wi_some, or_0, or_1, bo_or, ite_boP, true_and, and_true, kN_v, kN_n, kT_v, kT_n, kT_e, Nat.add_zero, Nat.zero_add, b228_6 hw, oN_nn (show v < 2147483648 by omega), if_false, mI_thrown HS, mF_thrown HS, mR_row HS, mR_image HS, mR_earlier HS, mR_trial HS, mR_acts HS, mI_hasImage HS, mF_hasImage HS, mI_remembered HS, mF_remembered HS, mR_tape HS, mI_taped HS, mF_taped HS, mI_point HS, mF_point HS, mI_end HS, mF_end HS, mI_begin HS, mF_begin HS, mI_deep HS, mF_deep HS, mI_faultAt HS, mF_faultAt HS, mR_five HS, mI_codes HS, mF_codes HS, mR_value HS, mI_so HS, mF_so HS, mR_lines HS, mR_chosen HS, mR_best HS, mR_members HS, mR_paired HS, mO HS, mA_287 HS, mW_287 HS, mA_288 HS, mW_288 HS, mA_289 HS, mW_289 HS, mA_290 HS, mW_290 HS, mA_291 HS, mW_291 HS, mA_292 HS, mW_292 HS, mA_293 HS, mW_293 HS, mA_294 HS, mW_294 HS, mA_295 HS, mW_295 HS, mA_296 HS, mW_296 HS, mA_297 HS, mW_297 HS, mA_298 HS, mW_298 HS, mA_299 HS, mW_299 HS, b228_29 hw, b5, t5, b228_30 hw, b228_40 hw]
    refine ky _ p1 _ rfl (MS.st m1.ms (by omega) (by omega)) ⟨t1.st, ?_, Iv_0 I (by decide) (by decide) (by decide)⟩
    exact Rw_day R1 (fun i h1 => by rw [u2_at, if_neg (by omega)]) (by rw [u2_at, if_pos ⟨rfl, rfl⟩])
  · intro D1 hN m1 rb1 e1
    simp only [hN] at kf
    simp only [wi_some, or_0, or_1, bo_or, ite_boP, true_and, and_true, kN_v, kN_n, kT_v, kT_n, kT_e, Nat.add_zero, Nat.zero_add, b228_6 hw, show (-1 : Int32) < Int32.ofNat 0 by decide, if_true, mI_thrown HS, mF_thrown HS, mR_row HS, mR_image HS, mR_earlier HS, mR_trial HS, mR_acts HS, mI_hasImage HS, mF_hasImage HS, mI_remembered HS, mF_remembered HS, mR_tape HS, mI_taped HS, mF_taped HS, mI_point HS, mF_point HS, mI_end HS, mF_end HS, mI_begin HS, mF_begin HS, mI_deep HS, mF_deep HS, mI_faultAt HS, mF_faultAt HS, mR_five HS, mI_codes HS, mF_codes HS, mR_value HS, mI_so HS, mF_so HS, mR_lines HS, mR_chosen HS, mR_best HS, mR_members HS, mR_paired HS, mO HS, mA_287 HS, mW_287 HS, mA_288 HS, mW_288 HS, mA_289 HS, mW_289 HS, mA_290 HS, mW_290 HS, mA_291 HS, mW_291 HS, mA_292 HS, mW_292 HS, mA_293 HS, mW_293 HS, mA_294 HS, mW_294 HS, mA_295 HS, mW_295 HS, mA_296 HS, mW_296 HS, mA_297 HS, mW_297 HS, mA_298 HS, mW_298 HS, mA_299 HS, mW_299 HS, b5, b228_29 hw, t5, b228_30 hw, b228_40 hw]
    exact kf _ _ rfl (MS.st m1.ms (by omega) (by omega)) (by rw [u2_at, if_neg (by omega)]; exact e1)
end CB7
