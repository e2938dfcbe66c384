/-! ===== span ===== -/
def spN (G : GT) (m : Nat) (V' : sD) (k : Nat) : Int32 := bc (goneS (daysL (gw G.1) (gg G.1) (gr G.1) true m (u2 V' 0 16 (Int32.ofNat k), 0)).1 (gg G.1))
def spL (G : GT) (m : Nat) (F : Nat → sD) (i : Nat) : Int32 := fo (fun j x => mn x (spN G m (F (j + 1)) (j + 1))) i 0 (Int32.ofNat 6)
def spH (G : GT) (m : Nat) (F : Nat → sD) (i : Nat) : Int32 := fo (fun j x => mx x (spN G m (F (j + 1)) (j + 1))) i 0 (Int32.ofNat 0)
def o_span (G : GT) (F : Nat → sD) (n : Int32) (b : Bool) : Int32 ⊕ Nat := match ixO n 61 with
  | none => .inr 1
  | some m => .inl (if b then spH G m F 6 else spL G m F 6)
theorem spN_le {G : GT} (hv : GV G) (m : Nat) (V' : sD) (k : Nat) : ∃ q, q ≤ 6 ∧ spN G m V' k = Int32.ofNat q := by
  have hng := i_ng6 hv.1
  unfold spN goneS
  rw [bc_bs _ (by omega)]
  exact ⟨_, Nat.le_trans (nS_le _ _) hng, rfl⟩
theorem spL_upd {G : GT} {m i : Nat} {F : Nat → sD} {V' : sD} : spL G m (fun j => if j = i + 1 then V' else F j) (i + 1) = mn (spL G m F i) (spN G m V' (i + 1)) := by
  unfold spL
  rw [fo_snoc, Nat.zero_add]
  simp only [if_true]
  congr 1
  exact fo_congr i 0 _ fun j x _ hj => by rw [if_neg (by omega)]
theorem spH_upd {G : GT} {m i : Nat} {F : Nat → sD} {V' : sD} : spH G m (fun j => if j = i + 1 then V' else F j) (i + 1) = mx (spH G m F i) (spN G m V' (i + 1)) := by
  unfold spH
  rw [fo_snoc, Nat.zero_add]
  simp only [if_true]
  congr 1
  exact fo_congr i 0 _ fun j x _ hj => by rw [if_neg (by omega)]
def spR (G : GT) (m : Nat) (F : Nat → sD) (b : Bool) (i : Nat) : Int32 := fo (fun j x => if x < Int32.ofNat 0 then spN G m (F (j + 1)) (j + 1) else if b then mx x (spN G m (F (j + 1)) (j + 1)) else mn x (spN G m (F (j + 1)) (j + 1))) i 0 (-1)
theorem spR_eq {G : GT} (hv : GV G) (m : Nat) (F : Nat → sD) (b : Bool) : ∀ i, i ≤ 6 → 1 ≤ i → spR G m F b i = (if b then spH G m F i else spL G m F i) ∧ ∃ q, q ≤ 6 ∧ spR G m F b i = Int32.ofNat q := by
  intro i
  induction i with
  | zero => intro _ h; omega
  | succ i ih =>
    intro h6 _
    obtain ⟨q, hq, eq⟩ := spN_le hv m (F (i + 1)) (i + 1)
    by_cases h0 : i = 0
    · subst h0
      have e : spR G m F b 1 = spN G m (F 1) 1 := by
        unfold spR
        rw [fo_snoc]
        simp only [fo, Nat.zero_add]
        rw [if_pos (by decide)]
      have e6 : spL G m F 1 = mn (Int32.ofNat 6) (spN G m (F 1) 1) := rfl
      have e0 : spH G m F 1 = mx (Int32.ofNat 0) (spN G m (F 1) 1) := rfl
      simp only [Nat.zero_add] at eq ⊢
      rw [e, e6, e0, eq]
      refine ⟨?_, q, hq, rfl⟩
      unfold mn mx
      simp only [oN_lt (show q < 2147483648 by omega) (show 6 < 2147483648 by omega), oN_lt (show 0 < 2147483648 by omega) (show q < 2147483648 by omega)]
      cases b
      · simp only [Bool.false_eq_true, if_false]
        by_cases h : q < 6
        · rw [if_pos h]
        · rw [if_neg h, show q = 6 by omega]
      · simp only [if_true]
        by_cases h : 0 < q
        · rw [if_pos h]
        · rw [if_neg h, show q = 0 by omega]
    · obtain ⟨e1, p, hp, e2⟩ := ih (by omega) (by omega)
      have e : spR G m F b (i + 1) = if b then mx (spR G m F b i) (spN G m (F (i + 1)) (i + 1)) else mn (spR G m F b i) (spN G m (F (i + 1)) (i + 1)) := by
        have hn : ¬ spR G m F b i < Int32.ofNat 0 := by rw [e2, oN_lt (by omega) (by omega)]; omega
        unfold spR at hn ⊢
        rw [fo_snoc, Nat.zero_add, if_neg hn]
      have eL : spL G m F (i + 1) = mn (spL G m F i) (spN G m (F (i + 1)) (i + 1)) := by unfold spL; rw [fo_snoc, Nat.zero_add]
      have eH : spH G m F (i + 1) = mx (spH G m F i) (spN G m (F (i + 1)) (i + 1)) := by unfold spH; rw [fo_snoc, Nat.zero_add]
      have r1 : ∃ r, r ≤ 6 ∧ mx (Int32.ofNat p) (Int32.ofNat q) = Int32.ofNat r := by
        unfold mx; simp only [oN_lt (show p < 2147483648 by omega) (show q < 2147483648 by omega)]
        by_cases h : p < q
        · rw [if_pos h]; exact ⟨q, hq, rfl⟩
        · rw [if_neg h]; exact ⟨p, hp, rfl⟩
      have r2 : ∃ r, r ≤ 6 ∧ mn (Int32.ofNat p) (Int32.ofNat q) = Int32.ofNat r := by
        unfold mn; simp only [oN_lt (show q < 2147483648 by omega) (show p < 2147483648 by omega)]
        by_cases h : q < p
        · rw [if_pos h]; exact ⟨q, hq, rfl⟩
        · rw [if_neg h]; exact ⟨p, hp, rfl⟩
      rw [e, eL, eH]
      cases b
      · simp only [Bool.false_eq_true, if_false] at e1 ⊢
        rw [← e1, e2, eq]; exact ⟨rfl, r2⟩
      · simp only [if_true] at e1 ⊢
        rw [← e1, e2, eq]; exact ⟨rfl, r1⟩
section C79
variable {nx : Nat} {xs : Nat → Int32} {d c s : Nat} {sh : List sC} {D : sD} {Q : av_Q}
variable {G : GT}
theorem c_span {n : Int32} {b : Bool} (hv : GV G) (h : GC sh D G) (kk : ∀ D' F, (∀ k, VE (gV G.1) (F k)) → GC sh D' G → Fc D D' → Q (oQ (fun _ => xIA) (o_span G F n b)) (mk sh D') (c + o1 (o_span G F n b)) (s + 6 * o1 (o_span G F n b))) : Wx (tP nx xs) (d + 6) 171 0 [some (.ref 0), (some (.int (n))), (some (.int (bo b))), none, none, none, none] [] (mk sh D) c s Q := by
  have hw := h.1.2
  have HS := h.1.1
  have H := St_state HS
  have I := hv.1
  have hV := h.2.1.1
  have hng := i_ng6 I
  have hnt := i_nt8 I
  have hnr := i_nr5 I
  have hnl := i_nl60 I
  have hx := h.L
  have hL := h.2.1.2
  have Hd := St_draft HS
  unfold o_span at kk
  simp only [b171_0 hw, k185 hw]
  cases hj : ixO n 61 with
  | none => simp only [hj, oQ, o1, wi_some, or_0, or_1, bo_or, ite_boP, true_and, and_true, kN_v, kN_n, kT_v, kT_n, kT_e, Nat.add_zero, Nat.zero_add] at kk ⊢; exact kk D (fun _ => (gV G.1)) (fun _ => VE.rf) h Fc.rf
  | some m =>
    obtain ⟨hm, rfl⟩ := ixO_some (by omega) hj
    simp only [hj, oQ, o1, Nat.mul_zero, Nat.add_zero] at kk
    simp only [wi_some, or_0, or_1, bo_or, ite_boP, true_and, and_true, kN_v, kN_n, kT_v, kT_n, kT_e, Nat.add_zero, Nat.zero_add, b171_4 hw]
    have loop : ∀ k, k ≤ 6 → ∀ (D1 : sD) (F : Nat → sD) (l6 : Option Value), (∀ j, VE (gV G.1) (F j)) → GC sh D1 G → Fc D D1 → Wx (tP nx xs) (d + 6) 171 13 [some (.ref 0), (some (.int (Int32.ofNat m))), (some (.int (bo b))), (some (.int (spL G m F (6 - k)))), (some (.int (spH G m F (6 - k)))), (some (.int (Int32.ofNat (6 - k + 1)))), l6] [] (mk sh D1) c s Q := by
      intro k
      induction k with
      | zero =>
        intro _ D1 F l6 eF h1 f1
        have fin := kk D1 F eF h1 f1
        rw [b171_13 hw]
        simp only [Nat.sub_zero, show Int32.ofNat 6 < Int32.ofNat (6 + 1) by decide, if_true, b171_94 hw]
        cases b <;> simp only [bo_f, bo_t, if_true, if_false, Bool.false_eq_true, show ¬ (Int32.ofNat 1 : Int32) = Int32.ofNat 0 by decide] at fin ⊢ <;> exact fin
      | succ k ih =>
        intro hk D1 F l6 eF h1 f1
        have ei : 6 - k = 6 - (k + 1) + 1 := by omega
        generalize 6 - (k + 1) = i at *
        have hi : i < 6 := by omega
        have n6 : ¬ Int32.ofNat 6 < Int32.ofNat (i + 1) := by rw [oN_lt (by omega) (by omega)]; omega
        have hV1 : Vw D1 3 (gV G.1) := h1.2.1.1
        rw [b171_13 hw]
        simp only [n6, if_false, xR_tape HS, xI_wrongAt HS, xF_wrongAt HS, xR_state HS, xR_image HS, xI_imageKept HS, xF_imageKept HS, xR_draft HS, xR_memory HS, xR_lawText HS, xR_worlds HS, xI_worldsFresh HS, xF_worldsFresh HS, xR_otherWorlds HS, xR_seating HS, xR_pairing HS, xI_toldSo HS, xF_toldSo HS, xI_toldNot HS, xF_toldNot HS, xO HS, wi_some, or_0, or_1, bo_or, ite_boP, true_and, and_true, kN_v, kN_n, kT_v, kT_n, kT_e, Nat.add_zero, Nat.zero_add, sO_state Hd]
        refine k31 hw Hd H (by decide) hV1 ?_
        intro D2 f2 e2
        simp only [b171_31 hw, b171_40 hw, xR_tape HS, xI_wrongAt HS, xF_wrongAt HS, xR_state HS, xR_image HS, xI_imageKept HS, xF_imageKept HS, xR_draft HS, xR_memory HS, xR_lawText HS, xR_worlds HS, xI_worldsFresh HS, xF_worldsFresh HS, xR_otherWorlds HS, xR_seating HS, xR_pairing HS, xI_toldSo HS, xF_toldSo HS, xI_toldNot HS, xF_toldNot HS, xO HS, sR_things Hd, sI_goers Hd, sF_goers Hd, sR_wish Hd, sR_deed Hd, sI_makers Hd, sF_makers Hd, sR_born Hd, sR_money Hd, sR_nerve Hd, sR_shuns Hd, sR_by Hd, sI_trains Hd, sF_trains Hd, sR_halts Hd, sR_seats Hd, sI_texts Hd, sF_texts Hd, sI_law Hd, sF_law Hd, sI_day Hd, sF_day Hd, sI_seed Hd, sF_seed Hd, sR_log Hd, sO_state Hd, sI_count Hd, sF_count Hd, sI_first Hd, sF_first Hd, sR_at Hd, sR_worth Hd, sR_makes Hd, sR_hinders Hd, sO_things Hd, sI_rows Hd, sF_rows Hd, sR_entries Hd, sO_log Hd, sA_2 Hd, sW_2 Hd, sA_3 Hd, sW_3 Hd, sA_4 Hd, sW_4 Hd, sA_5 Hd, sW_5 Hd, sA_6 Hd, sW_6 Hd, sA_7 Hd, sW_7 Hd, sA_8 Hd, sW_8 Hd, sA_9 Hd, sW_9 Hd, sA_10 Hd, sW_10 Hd, sA_11 Hd, sW_11 Hd, sA_12 Hd, sW_12 Hd, sA_13 Hd, sW_13 Hd, sA_14 Hd, sW_14 Hd, sA_16 Hd, sW_16 Hd, wi_some, or_0, or_1, bo_or, ite_boP, true_and, and_true, kN_v, kN_n, kT_v, kT_n, kT_e, Nat.add_zero, Nat.zero_add]
        have ep : D2 (37 + 0) 14 = (gV G.1) 0 14 := e2 0 14 (by unfold inR; omega)
        have f2' : Fr 37 D1 (u2 D2 37 16 (Int32.ofNat (i + 1))) := f2.st0
        have h2 := h1.draft f2'.fx
        have I2 : Iv (u2 (fun k i => D2 (37 + k) i) 0 16 (Int32.ofNat (i + 1))) (gt G.1) (gg G.1) (gr G.1) (gl G.1) := Iv_seed (Iv.ve I e2)
        have ep2 : u2 (fun k i => D2 (37 + k) i) 0 16 (Int32.ofNat (i + 1)) 0 14 = (gV G.1) 0 14 := by rw [u2_at, if_neg (by omega)]; exact ep
        refine k50 (V := u2 (fun k i => D2 (37 + k) i) 0 16 (Int32.ofNat (i + 1))) (dr := true) (n := m) hw Hd (by decide) (Vw.self.st0 _) I2 (lw := (gw G.1)) (by rw [ep2]; exact h2.2.1.2) (by omega) ?_
        intro D3 f3 hV3 I3 e3
        rw [ep2] at f3
        have h3 := h2.draft f3
        simp only [b171_49 hw, xR_tape HS, xI_wrongAt HS, xF_wrongAt HS, xR_state HS, xR_image HS, xI_imageKept HS, xF_imageKept HS, xR_draft HS, xR_memory HS, xR_lawText HS, xR_worlds HS, xI_worldsFresh HS, xF_worldsFresh HS, xR_otherWorlds HS, xR_seating HS, xR_pairing HS, xI_toldSo HS, xF_toldSo HS, xI_toldNot HS, xF_toldNot HS, xO HS, sO_state Hd, k37 hw Hd hV3 I3, wi_some, or_0, or_1, bo_or, ite_boP, true_and, and_true, kN_v, kN_n, kT_v, kT_n, kT_e, Nat.add_zero, Nat.zero_add, b171_57 hw, k357 hw, b171_60 hw, oN_add]
        have := ih (by omega) D3 (fun j => if j = i + 1 then (fun k i => D2 (37 + k) i) else F j) (some (.int (spN G m (fun k i => D2 (37 + k) i) (i + 1)))) (fun j => by
          by_cases e : j = i + 1
          · simp only [e, if_true]; exact e2
          · simp only [e, if_false]; exact eF j) h3 ((f1.tr (Fx.dfc h1 f2'.fx)).tr (Fx.dfc h2 f3))
        rw [ei, spL_upd, spH_upd] at this
        exact this
    exact loop 6 (by omega) D (fun _ => (gV G.1)) none (fun _ => VE.rf) h Fc.rf
theorem m_span {n : Int32} {b : Bool} {F : Nat → sD} (hw : WT sh) (HS : SP sh) (hv : GV G) (h : GR D G) (e : ∀ k, VE (gV G.1) (F k)) (kk : ∀ D', Ms D D' → D' 286 0 = Int32.ofNat (th (o_span G F n b)) → Q (.inl (some (.int (rv (o_span G F n b))))) (mk sh D') c s) : Wx (tP nx xs) (d + 13) 350 0 [some (.ref 286), (some (.int (n))), (some (.int (bo b))), none, none, none] [] (mk sh D) c s Q := by
  have R := h.1.1
  have hL := h.1.2
  have I := hv.1
  have hng := i_ng6 I
  have hnt := i_nt8 I
  have hnr := i_nr5 I
  have hnl := i_nl60 I
  have m1 : Ms D (u2 D 286 0 (Int32.ofNat 0)) := Ms.rf.th
  have h1 := h.ms hv m1
  have n10 : ¬ (Int32.ofNat 1 : Int32) = Int32.ofNat 0 := by decide
  unfold o_span at kk
  simp only [b350_0 hw, b350_5 hw, mI_thrown HS, mF_thrown HS, mR_row HS, mR_image HS, mR_earlier HS, mR_trial HS, mR_acts HS, mI_hasImage HS, mF_hasImage HS, mI_remembered HS, mF_remembered HS, mR_tape HS, mI_taped HS, mF_taped HS, mI_point HS, mF_point HS, mI_end HS, mF_end HS, mI_begin HS, mF_begin HS, mI_deep HS, mF_deep HS, mI_faultAt HS, mF_faultAt HS, mR_five HS, mI_codes HS, mF_codes HS, mR_value HS, mI_so HS, mF_so HS, mR_lines HS, mR_chosen HS, mR_best HS, mR_members HS, mR_paired HS, mO HS, mA_287 HS, mW_287 HS, mA_288 HS, mW_288 HS, mA_289 HS, mW_289 HS, mA_290 HS, mW_290 HS, mA_291 HS, mW_291 HS, mA_292 HS, mW_292 HS, mA_293 HS, mW_293 HS, mA_294 HS, mW_294 HS, mA_295 HS, mW_295 HS, mA_296 HS, mW_296 HS, mA_297 HS, mW_297 HS, mA_298 HS, mW_298 HS, mA_299 HS, mW_299 HS, wi_some, or_0, or_1, bo_or, ite_boP, true_and, and_true, kN_v, kN_n, kT_v, kT_n, kT_e, Nat.add_zero, Nat.zero_add, k347 hw, b350_10 hw]
  cases hj : ixO n 61 with
  | none =>
    simp only [hj, Option.isNone_none, bo_t, th, rv, k187t hw HS, b350_14 hw, wi_some, or_0, or_1, bo_or, ite_boP, true_and, and_true, kN_v, kN_n, kT_v, kT_n, kT_e, Nat.add_zero, Nat.zero_add, n10, if_false] at kk ⊢
    exact kk _ Ms.rf.th.th (by simp [u2_at])
  | some m =>
    obtain ⟨hm, rfl⟩ := ixO_some (by omega) hj
    simp only [hj, th, rv] at kk
    rw [← (spR_eq hv m F b 6 (by omega) (by omega)).1] at kk
    simp only [Option.isNone_some, bo_f, k187f hw HS, b350_14 hw, wi_some, or_0, or_1, bo_or, ite_boP, true_and, and_true, kN_v, kN_n, kT_v, kT_n, kT_e, Nat.add_zero, Nat.zero_add, if_true, mI_thrown HS, mF_thrown HS, mR_row HS, mR_image HS, mR_earlier HS, mR_trial HS, mR_acts HS, mI_hasImage HS, mF_hasImage HS, mI_remembered HS, mF_remembered HS, mR_tape HS, mI_taped HS, mF_taped HS, mI_point HS, mF_point HS, mI_end HS, mF_end HS, mI_begin HS, mF_begin HS, mI_deep HS, mF_deep HS, mI_faultAt HS, mF_faultAt HS, mR_five HS, mI_codes HS, mF_codes HS, mR_value HS, mI_so HS, mF_so HS, mR_lines HS, mR_chosen HS, mR_best HS, mR_members HS, mR_paired HS, mO HS, mA_287 HS, mW_287 HS, mA_288 HS, mW_288 HS, mA_289 HS, mW_289 HS, mA_290 HS, mW_290 HS, mA_291 HS, mW_291 HS, mA_292 HS, mW_292 HS, mA_293 HS, mW_293 HS, mA_294 HS, mW_294 HS, mA_295 HS, mW_295 HS, mA_296 HS, mW_296 HS, mA_297 HS, mW_297 HS, mA_298 HS, mW_298 HS, mA_299 HS, mW_299 HS]
    have t1 : u2 D 286 0 (Int32.ofNat 0) 286 0 = Int32.ofNat 0 := by simp [u2_at]
    generalize hD1 : u2 D 286 0 (Int32.ofNat 0) = D1 at *
    refine k195 hw HS ?_
    intro D2 f2 a2
    simp only [b350_23 hw, wi_some, or_0, or_1, bo_or, ite_boP, true_and, and_true, kN_v, kN_n, kT_v, kT_n, kT_e, Nat.add_zero, Nat.zero_add]
    have m2 : Ms D1 D2 := ⟨fun b hb => f2 b (by omega), fun i _ _ _ _ _ _ _ => by rw [f2 286 (by omega)], fun i _ => by rw [f2 287 (by omega)], f2 288 (by omega), f2 291 (by omega), f2 292 (by omega)⟩
    refine up_P (W := fun i (x : Int32) D => ∀ l5, Wx (tP nx xs) (d + 13) 350 28 [some (.ref 286), (some (.int (Int32.ofNat m))), (some (.int (bo b))), (some (.int (x))), (some (.int (Int32.ofNat (i + 1)))), l5] [] (mk sh D) c s Q) (P := fun _ _ D' => Ms D1 D' ∧ (∀ i, i < 352 → D' 290 i = D1 287 i) ∧ D' 286 0 = Int32.ofNat 0) (F := fun j x => if x < Int32.ofNat 0 then spN G m (F (j + 1)) (j + 1) else if b then mx x (spN G m (F (j + 1)) (j + 1)) else mn x (spN G m (F (j + 1)) (j + 1))) 6 ?_ (-1) D2 ⟨m2, a2, by rw [f2 286 (by omega), t1]⟩ ?_ none
    · intro i x D3 hi ⟨m3, a3, t3⟩ k l5
      have n6 : ¬ Int32.ofNat 6 < Int32.ofNat (i + 1) := by rw [oN_lt (by omega) (by omega)]; omega
      have h3 := h1.ms hv m3
      have h7 : 7 < 2050 := by decide
      rw [b350_28 hw]
      simp only [n6, if_false, mI_thrown HS, mF_thrown HS, mR_row HS, mR_image HS, mR_earlier HS, mR_trial HS, mR_acts HS, mI_hasImage HS, mF_hasImage HS, mI_remembered HS, mF_remembered HS, mR_tape HS, mI_taped HS, mF_taped HS, mI_point HS, mF_point HS, mI_end HS, mF_end HS, mI_begin HS, mF_begin HS, mI_deep HS, mF_deep HS, mI_faultAt HS, mF_faultAt HS, mR_five HS, mI_codes HS, mF_codes HS, mR_value HS, mI_so HS, mF_so HS, mR_lines HS, mR_chosen HS, mR_best HS, mR_members HS, mR_paired HS, mO HS, mA_287 HS, mW_287 HS, mA_288 HS, mW_288 HS, mA_289 HS, mW_289 HS, mA_290 HS, mW_290 HS, mA_291 HS, mW_291 HS, mA_292 HS, mW_292 HS, mA_293 HS, mW_293 HS, mA_294 HS, mW_294 HS, mA_295 HS, mW_295 HS, mA_296 HS, mW_296 HS, mA_297 HS, mW_297 HS, mA_298 HS, mW_298 HS, mA_299 HS, mW_299 HS, wi_some, or_0, or_1, bo_or, ite_boP, true_and, and_true, kN_v, kN_n, kT_v, kT_n, kT_e, Nat.add_zero, Nat.zero_add, h7, show Int32.toNatClampNeg (Int32.ofNat 7) = 7 by decide, b350_44 hw]
      have R4 : Rw (u2 D3 287 7 (Int32.ofNat (i + 1)) 287) (u2 (F (i + 1)) 0 16 (Int32.ofNat (i + 1))) (gt G.1) (gg G.1) (gr G.1) (gl G.1) := Rw_seed (h3.1.1.ve hnt hng hnr hnl (e (i + 1))) (fun j hj => by rw [u2_at, if_neg (by omega)]) (by simp [u2_at])
      have r4 : Rx D3 (u2 D3 287 7 (Int32.ofNat (i + 1))) := Rx.rf.st (by decide) (by decide)
      have L4 : Rl (u2 D3 287 7 (Int32.ofNat (i + 1)) 287) (gw G.1) := r4.rl h3.1.2
      generalize u2 D3 287 7 (Int32.ofNat (i + 1)) = D4 at *
      have := k263 (nx := nx) (xs := xs) (d := d) (c := 0) (s := 0) (D := D4) (Q := kN (tP nx xs) (d + 12 + 1) 350 50 [some (.ref 286), (some (.int (Int32.ofNat m))), (some (.int (bo b))), (some (.int (x))), (some (.int (Int32.ofNat (i + 1)))), l5] [] c s Q) (dr := true) (n := m) hw HS R4 (Iv_seed (Iv.ve I (e (i + 1)))) L4 (by omega)
      refine this ?_
      intro D5 r5 R5 I5
      simp only [b350_50 hw, mI_thrown HS, mF_thrown HS, mR_row HS, mR_image HS, mR_earlier HS, mR_trial HS, mR_acts HS, mI_hasImage HS, mF_hasImage HS, mI_remembered HS, mF_remembered HS, mR_tape HS, mI_taped HS, mF_taped HS, mI_point HS, mF_point HS, mI_end HS, mF_end HS, mI_begin HS, mF_begin HS, mI_deep HS, mF_deep HS, mI_faultAt HS, mF_faultAt HS, mR_five HS, mI_codes HS, mF_codes HS, mR_value HS, mI_so HS, mF_so HS, mR_lines HS, mR_chosen HS, mR_best HS, mR_members HS, mR_paired HS, mO HS, mA_287 HS, mW_287 HS, mA_288 HS, mW_288 HS, mA_289 HS, mW_289 HS, mA_290 HS, mW_290 HS, mA_291 HS, mW_291 HS, mA_292 HS, mW_292 HS, mA_293 HS, mW_293 HS, mA_294 HS, mW_294 HS, mA_295 HS, mW_295 HS, mA_296 HS, mW_296 HS, mA_297 HS, mW_297 HS, mA_298 HS, mW_298 HS, mA_299 HS, mW_299 HS, wi_some, or_0, or_1, bo_or, ite_boP, true_and, and_true, kN_v, kN_n, kT_v, kT_n, kT_e, Nat.add_zero, Nat.zero_add, k208 hw HS R5 hng, b350_55 hw, k357 hw, b350_58 hw]
      refine k196 hw HS ?_
      intro D6 f6 a6 g6
      have r35 := r4.tr r5
      have m6 : Ms D3 D6 := Ms.bk (D := D3) (D1 := D3) (fun _ _ => rfl) (fun j hj => by rw [a3 j hj, m3.2.2.1 j (by omega)]) r35 Ms.rf rfl f6 a6 g6
      have fin := k D6 ⟨m3.tr m6, fun j hj => by rw [f6 290 (by omega), r35.1 290 (by omega) (by omega)]; exact a3 j hj, by rw [f6 286 (by omega), r35.1 286 (by omega) (by omega)]; exact t3⟩
      simp only [b350_64 hw, b350_92 hw, oN_add, wi_some, or_0, or_1, bo_or, ite_boP, true_and, and_true, kN_v, kN_n, kT_v, kT_n, kT_e, Nat.add_zero, Nat.zero_add]
      have es : bc (goneS (daysL (gw G.1) (gg G.1) (gr G.1) true m (u2 (F (i + 1)) 0 16 (Int32.ofNat (i + 1)), 0)).1 (gg G.1)) = spN G m (F (i + 1)) (i + 1) := rfl
      rw [es]
      by_cases hx : x < Int32.ofNat 0
      · simp only [hx, if_true] at fin ⊢; exact fin _
      · cases b <;> simp only [hx, if_true, if_false, bo_f, bo_t, n10, Bool.false_eq_true] at fin ⊢ <;> exact fin _
    · intro D3 ⟨m3, a3, t3⟩ l5
      rw [b350_28 hw]
      simp only [show Int32.ofNat 6 < Int32.ofNat (6 + 1) by decide, if_true]
      exact kk D3 (m1.tr m3) t3
end C79
