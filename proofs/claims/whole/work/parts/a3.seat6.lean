/-! ===== seating: colours, clash ===== -/
def stN (V : sD) (ng : Nat) : Nat := 2 ^ ng - 1 - gN V ng
theorem st_dec : ∀ n, n < 7 → ∀ g, g < 64 → g < 2 ^ n → Int32.ofNat (2 ^ n - 1) &&& (Int32.ofNat g ^^^ -1) = Int32.ofNat (2 ^ n - 1 - g) := by decide +kernel
theorem stN_of {V : sD} {ng : Nat} (hn : ng ≤ 6) : stayS V ng = Int32.ofNat (stN V ng) ∧ stN V ng < 2 ^ ng ∧ stN V ng < 64 := by
  obtain ⟨g1, g2⟩ := gN_of (V := V) hn
  have h6 : 2 ^ ng ≤ 2 ^ 6 := Nat.pow_le_pow_right (by decide) hn
  unfold stayS stN
  rw [g1]
  exact ⟨st_dec ng (by omega) _ (by omega) g2, by omega, by omega⟩
def o_colours (G : GT) (x : Int32) : Int32 ⊕ Nat := if x = -1 then .inl (mo (seX (gV G.1) (gg G.1) (gr G.1) (stN (gV G.1) (gg G.1))).1) else match ixO x (gg G.1) with
  | none => .inr 1
  | some g => .inl ((seX (gV G.1) (gg G.1) (gr G.1) (stN (gV G.1) (gg G.1))).2 g)
theorem canG_0 {V : sD} {nr : Nat} : ∀ r g w, canG V nr 0 r g w = true
  | 0, _, _ => rfl
  | r + 1, g, w => by
    unfold canG
    rw [show bt (Int32.ofNat 0) g = false from b_00 g]
    exact canG_0 r _ _
def claF (S : GS) (z : Nat) (best : Int32) : Int32 := if decide (Int32.ofNat z &&& (Int32.ofNat (stN (gV S) (gg S)) ^^^ -1) = Int32.ofNat 0) && (fewer (Int32.ofNat z) best && !canG (gV S) (gr S) z (gg S) 0 w0) then Int32.ofNat z else best
def claS (S : GS) : Int32 := fo (claF S) 64 0 (-1)
theorem cla_1 (S : GS) : fo (claF S) 63 1 (-1) = claS S := by
  unfold claS
  show _ = fo (claF S) 63 1 (claF S 0 (-1))
  have : claF S 0 (-1) = -1 := by
    unfold claF
    rw [canG_0]
    simp only [Bool.not_true, Bool.and_false, Bool.false_eq_true, if_false]
  rw [this]
theorem cla_g (S : GS) (I : IvS S) : fo (claF S) (stN (gV S) (gg S) + 1) 0 (-1) = claS S := by
  obtain ⟨_, _, hg⟩ := stN_of (V := gV S) (i_ng6 I)
  unfold claS
  refine (fo_more (n := stN (gV S) (gg S) + 1) (m := 64) (by omega) ?_).symm
  intro z y h1 h2
  unfold claF
  have : ¬ Int32.ofNat z &&& (Int32.ofNat (stN (gV S) (gg S)) ^^^ -1) = Int32.ofNat 0 := fun h => by
    have := sub_le' h2 hg h
    omega
  simp only [this, decide_false, Bool.false_and, Bool.false_eq_true, if_false]
section CA3
variable {nx : Nat} {xs : Nat → Int32} {d c s : Nat} {sh : List sC} {D : sD} {Q : av_Q}
variable {G : GT}
theorem GC.sed {D' : sD} (h : GC sh D G) (f : SeD D D') : GC sh D' G := by
  refine h.cs (fun b i h1 h2 h3 h4 => f b i (by omega) (by omega) (by omega)) ⟨fun t ht => by rw [f 282 t (by omega) (by omega) (by omega)]; exact h.2.2.2.2.2.2.1 t ht, ?_⟩
  rw [f 0 9 (by omega) (by omega) (by omega)]
  cases h.2.2.2.2.2.2.2 with
  | inl g => exact Or.inl g
  | inr g =>
    refine Or.inr ⟨g.1, fun z hz hs => ?_⟩
    rw [f (265 + 1) z (by omega) (by omega) (by omega), f (265 + 2) z (by omega) (by omega) (by omega)]
    exact g.2 z hz hs
theorem SeD.fc {D' : sD} (f : SeD D D') : Fc D D' := fun b h1 h2 => funext fun i => f b i (by omega) (by omega) (by omega)
theorem c_colours {x : Int32} (hv : GV G) (h : GC sh D G) (kk : ∀ D', GC sh D' G → Fc D D' → Q (oQ (fun _ => xIO) (o_colours G x)) (mk sh D') (c + o1 (o_colours G x)) (s + 6 * o1 (o_colours G x))) : Wx (tP nx xs) (d + 10) 145 0 [some (.ref 0), (some (.int (x))), none] [] (mk sh D) c s Q := by
  have hw := h.1.2
  have HS := h.1.1
  have H := St_state HS
  have I := hv.1
  have hV := h.2.1.1
  have hng := i_ng6 I
  have hnt := i_nt8 I
  have hnr := i_nr5 I
  have hnl := i_nl60 I
  have hx := h.L
  have hL := h.2.1.2
  obtain ⟨z1, z2, z3⟩ := stN_of (V := (gV G.1)) hng
  have go : (∀ D', GC sh D' G → Fc D D' → (∀ i, i < (gg G.1) → D' 280 i = (seX (gV G.1) (gg G.1) (gr G.1) (stN (gV G.1) (gg G.1))).2 i) → Wx (tP nx xs) (d + 10) 145 28 [some (.ref 0), (some (.int (x))), none] [.int (mo (seX (gV G.1) (gg G.1) (gr G.1) (stN (gV G.1) (gg G.1))).1)] (mk sh D') c s Q) → Wx (tP nx xs) (d + 10) 145 10 [some (.ref 0), (some (.int (x))), none] [] (mk sh D) c s Q := by
    intro fin
    simp only [b145_10 hw, xR_tape HS, xI_wrongAt HS, xF_wrongAt HS, xR_state HS, xR_image HS, xI_imageKept HS, xF_imageKept HS, xR_draft HS, xR_memory HS, xR_lawText HS, xR_worlds HS, xI_worldsFresh HS, xF_worldsFresh HS, xR_otherWorlds HS, xR_seating HS, xR_pairing HS, xI_toldSo HS, xF_toldSo HS, xI_toldNot HS, xF_toldNot HS, xO HS, sR_things H, sI_goers H, sF_goers H, sR_wish H, sR_deed H, sI_makers H, sF_makers H, sR_born H, sR_money H, sR_nerve H, sR_shuns H, sR_by H, sI_trains H, sF_trains H, sR_halts H, sR_seats H, sI_texts H, sF_texts H, sI_law H, sF_law H, sI_day H, sF_day H, sI_seed H, sF_seed H, sR_log H, sO_state H, sI_count H, sF_count H, sI_first H, sF_first H, sR_at H, sR_worth H, sR_makes H, sR_hinders H, sO_things H, sI_rows H, sF_rows H, sR_entries H, sO_log H, sA_2 H, sW_2 H, sA_3 H, sW_3 H, sA_4 H, sW_4 H, sA_5 H, sW_5 H, sA_6 H, sW_6 H, sA_7 H, sW_7 H, sA_8 H, sW_8 H, sA_9 H, sW_9 H, sA_10 H, sW_10 H, sA_11 H, sW_11 H, sA_12 H, sW_12 H, sA_13 H, sW_13 H, sA_14 H, sW_14 H, sA_16 H, sW_16 H, wi_some, or_0, or_1, bo_or, ite_boP, true_and, and_true, kN_v, kN_n, kT_v, kT_n, kT_e, Nat.add_zero, Nat.zero_add, k38 hw H hV I, z1, b145_25 hw, gR_bestWay HS, gI_most HS, gF_most HS, gR_way HS, gR_aboard HS, gO HS, gA_280 HS, gW_280 HS, gA_281 HS, gW_281 HS, gA_282 HS, gW_282 HS]
    refine k26 (by omega) hw HS hV I z3 h.2.2.2.2.2.2.1 ?_
    intro D1 f1 e1
    simp only [wi_some, or_0, or_1, bo_or, ite_boP, true_and, and_true, kN_v, kN_n, kT_v, kT_n, kT_e, Nat.add_zero, Nat.zero_add]
    exact fin D1 (h.sed f1) f1.fc e1
  unfold o_colours at kk
  simp only [b145_0 hw, xR_tape HS, xI_wrongAt HS, xF_wrongAt HS, xR_state HS, xR_image HS, xI_imageKept HS, xF_imageKept HS, xR_draft HS, xR_memory HS, xR_lawText HS, xR_worlds HS, xI_worldsFresh HS, xF_worldsFresh HS, xR_otherWorlds HS, xR_seating HS, xR_pairing HS, xI_toldSo HS, xF_toldSo HS, xI_toldNot HS, xF_toldNot HS, xO HS, wi_some, or_0, or_1, bo_or, ite_boP, true_and, and_true, kN_v, kN_n, kT_v, kT_n, kT_e, Nat.add_zero, Nat.zero_add, k181 hv h]
  by_cases hx1 : x = -1
  · simp only [hx1, if_true, oQ, o1, Nat.mul_zero, Nat.add_zero] at kk go ⊢
    refine go fun D1 h1 f1 e1 => ?_
    simp only [b145_28 hw, if_true, b145_47 hw]
    exact kk D1 h1 f1
  · simp only [hx1, if_false] at kk ⊢
    cases hi : ixO x (gg G.1) with
    | none => simp only [hi, oQ, o1, wi_some, or_0, or_1, bo_or, ite_boP, true_and, and_true, kN_v, kN_n, kT_v, kT_n, kT_e, Nat.add_zero, Nat.zero_add] at kk ⊢; exact kk D h Fc.rf
    | some g =>
      obtain ⟨hg, rfl⟩ := ixO_some (by omega) hi
      have hg6 : g < 6 := by omega
      simp only [hi, oQ, o1, wi_some, or_0, or_1, bo_or, ite_boP, true_and, and_true, kN_v, kN_n, kT_v, kT_n, kT_e, Nat.add_zero, Nat.zero_add, Nat.mul_zero] at kk ⊢
      refine go fun D1 h1 f1 e1 => ?_
      simp only [b145_28 hw, hx1, if_false, xR_tape HS, xI_wrongAt HS, xF_wrongAt HS, xR_state HS, xR_image HS, xI_imageKept HS, xF_imageKept HS, xR_draft HS, xR_memory HS, xR_lawText HS, xR_worlds HS, xI_worldsFresh HS, xF_worldsFresh HS, xR_otherWorlds HS, xR_seating HS, xR_pairing HS, xI_toldSo HS, xF_toldSo HS, xI_toldNot HS, xF_toldNot HS, xO HS, gR_bestWay HS, gI_most HS, gF_most HS, gR_way HS, gR_aboard HS, gO HS, gA_280 HS, gW_280 HS, gA_281 HS, gW_281 HS, gA_282 HS, gW_282 HS, wi_some, or_0, or_1, bo_or, ite_boP, true_and, and_true, kN_v, kN_n, kT_v, kT_n, kT_e, Nat.add_zero, Nat.zero_add, hg6, e1 g hg, b145_47 hw]
      exact kk D1 h1 f1
theorem Se2.ms {D' : sD} (f : Se2 D D') : Ms D D' := ⟨fun a ha => f a (by omega) (by omega), fun i _ _ _ _ _ _ _ => by rw [f 286 (by decide) (by decide)], fun i _ => by rw [f 287 (by decide) (by decide)], f 288 (by decide) (by decide), f 291 (by decide) (by decide), f 292 (by decide) (by decide)⟩
theorem m_colours {x : Int32} (hw : WT sh) (HS : SP sh) (hv : GV G) (h : GR D G) (kk : ∀ D', Ms D D' → D' 286 0 = Int32.ofNat (th (o_colours G x)) → Q (.inl (some (.int (rv (o_colours G x))))) (mk sh D') c s) : Wx (tP nx xs) (d + 8) 317 0 [some (.ref 286), (some (.int (x))), none] [] (mk sh D) c s Q := by
  have h1 := h.ms hv (Ms.rf.th (v := Int32.ofNat 0))
  have I := hv.1
  have hng := i_ng6 I
  have n10 : ¬ (Int32.ofNat 1 : Int32) = Int32.ofNat 0 := by decide
  obtain ⟨z1, z2, z3⟩ := stN_of (V := (gV G.1)) hng
  have z1 : Int32.ofNat (2 ^ (gg G.1) - 1) &&& (goneS (gV G.1) (gg G.1) ^^^ -1) = Int32.ofNat (stN (gV G.1) (gg G.1)) := z1
  have go : (∀ D', Ms D D' → D' 286 0 = Int32.ofNat 0 → (∀ i, i < (gg G.1) → D' 297 i = (seX (gV G.1) (gg G.1) (gr G.1) (stN (gV G.1) (gg G.1))).2 i) → Wx (tP nx xs) (d + 8) 317 48 [some (.ref 286), (some (.int (x))), none] [.int (mo (seX (gV G.1) (gg G.1) (gr G.1) (stN (gV G.1) (gg G.1))).1)] (mk sh D') c s Q) → Wx (tP nx xs) (d + 8) 317 24 [some (.ref 286), (some (.int (x))), none] [.int (Int32.ofNat 0), .ref 286] (mk sh (u2 D 286 0 (Int32.ofNat 0))) c s Q := by
    intro fin
    simp only [b317_24 hw, mI_thrown HS, mF_thrown HS, mR_row HS, mR_image HS, mR_earlier HS, mR_trial HS, mR_acts HS, mI_hasImage HS, mF_hasImage HS, mI_remembered HS, mF_remembered HS, mR_tape HS, mI_taped HS, mF_taped HS, mI_point HS, mF_point HS, mI_end HS, mF_end HS, mI_begin HS, mF_begin HS, mI_deep HS, mF_deep HS, mI_faultAt HS, mF_faultAt HS, mR_five HS, mI_codes HS, mF_codes HS, mR_value HS, mI_so HS, mF_so HS, mR_lines HS, mR_chosen HS, mR_best HS, mR_members HS, mR_paired HS, mO HS, mA_287 HS, mW_287 HS, mA_288 HS, mW_288 HS, mA_289 HS, mW_289 HS, mA_290 HS, mW_290 HS, mA_291 HS, mW_291 HS, mA_292 HS, mW_292 HS, mA_293 HS, mW_293 HS, mA_294 HS, mW_294 HS, mA_295 HS, mW_295 HS, mA_296 HS, mW_296 HS, mA_297 HS, mW_297 HS, mA_298 HS, mW_298 HS, mA_299 HS, mW_299 HS, wi_some, or_0, or_1, bo_or, ite_boP, true_and, and_true, kN_v, kN_n, kT_v, kT_n, kT_e, Nat.add_zero, Nat.zero_add, k187f hw HS, b317_28 hw, if_true, k206 hw HS h1.1.1 hng, b317_38 hw, k208 hw HS h1.1.1 hng, b317_42 hw, z1]
    refine k316 hw HS h1.1.1 I z3 z2 ?_
    intro D1 f1 e1
    simp only [wi_some, or_0, or_1, bo_or, ite_boP, true_and, and_true, kN_v, kN_n, kT_v, kT_n, kT_e, Nat.add_zero, Nat.zero_add]
    exact fin D1 (Ms.rf.th.tr f1.ms) (by rw [f1 286 (by decide) (by decide)]; simp [u2_at]) e1
  unfold o_colours at kk
  simp only [b317_0 hw, b317_5 hw, mI_thrown HS, mF_thrown HS, mR_row HS, mR_image HS, mR_earlier HS, mR_trial HS, mR_acts HS, mI_hasImage HS, mF_hasImage HS, mI_remembered HS, mF_remembered HS, mR_tape HS, mI_taped HS, mF_taped HS, mI_point HS, mF_point HS, mI_end HS, mF_end HS, mI_begin HS, mF_begin HS, mI_deep HS, mF_deep HS, mI_faultAt HS, mF_faultAt HS, mR_five HS, mI_codes HS, mF_codes HS, mR_value HS, mI_so HS, mF_so HS, mR_lines HS, mR_chosen HS, mR_best HS, mR_members HS, mR_paired HS, mO HS, mA_287 HS, mW_287 HS, mA_288 HS, mW_288 HS, mA_289 HS, mW_289 HS, mA_290 HS, mW_290 HS, mA_291 HS, mW_291 HS, mA_292 HS, mW_292 HS, mA_293 HS, mW_293 HS, mA_294 HS, mW_294 HS, mA_295 HS, mW_295 HS, mA_296 HS, mW_296 HS, mA_297 HS, mW_297 HS, mA_298 HS, mW_298 HS, mA_299 HS, mW_299 HS, wi_some, or_0, or_1, bo_or, ite_boP, true_and, and_true, kN_v, kN_n, kT_v, kT_n, kT_e, Nat.add_zero, Nat.zero_add, k211 hw HS hv h1]
  by_cases hx1 : x = -1
  · simp only [hx1, if_true, th, rv] at kk go ⊢
    simp only [b317_23 hw]
    refine go fun D1 h1 f1 e1 => ?_
    simp only [b317_48 hw, if_true, b317_64 hw]
    exact kk D1 h1 f1
  · simp only [hx1, if_false] at kk ⊢
    cases hi : ixO x (gg G.1) with
    | none =>
      simp only [hi, th, rv, Option.isNone_none, bo_t, wi_some, or_0, or_1, bo_or, ite_boP, true_and, and_true, kN_v, kN_n, kT_v, kT_n, kT_e, Nat.add_zero, Nat.zero_add, b317_16 hw, n10, if_false, b317_24 hw, mI_thrown HS, mF_thrown HS, mR_row HS, mR_image HS, mR_earlier HS, mR_trial HS, mR_acts HS, mI_hasImage HS, mF_hasImage HS, mI_remembered HS, mF_remembered HS, mR_tape HS, mI_taped HS, mF_taped HS, mI_point HS, mF_point HS, mI_end HS, mF_end HS, mI_begin HS, mF_begin HS, mI_deep HS, mF_deep HS, mI_faultAt HS, mF_faultAt HS, mR_five HS, mI_codes HS, mF_codes HS, mR_value HS, mI_so HS, mF_so HS, mR_lines HS, mR_chosen HS, mR_best HS, mR_members HS, mR_paired HS, mO HS, mA_287 HS, mW_287 HS, mA_288 HS, mW_288 HS, mA_289 HS, mW_289 HS, mA_290 HS, mW_290 HS, mA_291 HS, mW_291 HS, mA_292 HS, mW_292 HS, mA_293 HS, mW_293 HS, mA_294 HS, mW_294 HS, mA_295 HS, mW_295 HS, mA_296 HS, mW_296 HS, mA_297 HS, mW_297 HS, mA_298 HS, mW_298 HS, mA_299 HS, mW_299 HS, k187t hw HS, b317_28 hw] at kk ⊢
      exact kk _ Ms.rf.th.th (by simp [u2_at])
    | some g =>
      obtain ⟨hg, rfl⟩ := ixO_some (by omega) hi
      have hg6 : g < 6 := by omega
      simp only [hi, th, rv, Option.isNone_some, bo_f, wi_some, or_0, or_1, bo_or, ite_boP, true_and, and_true, kN_v, kN_n, kT_v, kT_n, kT_e, Nat.add_zero, Nat.zero_add, b317_16 hw, if_true, b317_23 hw] at kk ⊢
      refine go fun D1 h1 f1 e1 => ?_
      simp only [b317_48 hw, hx1, if_false, mI_thrown HS, mF_thrown HS, mR_row HS, mR_image HS, mR_earlier HS, mR_trial HS, mR_acts HS, mI_hasImage HS, mF_hasImage HS, mI_remembered HS, mF_remembered HS, mR_tape HS, mI_taped HS, mF_taped HS, mI_point HS, mF_point HS, mI_end HS, mF_end HS, mI_begin HS, mF_begin HS, mI_deep HS, mF_deep HS, mI_faultAt HS, mF_faultAt HS, mR_five HS, mI_codes HS, mF_codes HS, mR_value HS, mI_so HS, mF_so HS, mR_lines HS, mR_chosen HS, mR_best HS, mR_members HS, mR_paired HS, mO HS, mA_287 HS, mW_287 HS, mA_288 HS, mW_288 HS, mA_289 HS, mW_289 HS, mA_290 HS, mW_290 HS, mA_291 HS, mW_291 HS, mA_292 HS, mW_292 HS, mA_293 HS, mW_293 HS, mA_294 HS, mW_294 HS, mA_295 HS, mW_295 HS, mA_296 HS, mW_296 HS, mA_297 HS, mW_297 HS, mA_298 HS, mW_298 HS, mA_299 HS, mW_299 HS, wi_some, or_0, or_1, bo_or, ite_boP, true_and, and_true, kN_v, kN_n, kT_v, kT_n, kT_e, Nat.add_zero, Nat.zero_add, hg6, e1 g hg, b317_64 hw]
      exact kk D1 h1 f1
/-! clash -/
theorem c_clash (hv : GV G) (h : GC sh D G) (kk : ∀ D', GC sh D' G → Fc D D' → Q (.inl (some (.int (claS G.1)))) (mk sh D') c s) : Wx (tP nx xs) (d + 10) 146 0 [some (.ref 0), none, none, none, none] [] (mk sh D) c s Q := by
  have hw := h.1.2
  have HS := h.1.1
  have H := St_state HS
  have I := hv.1
  have hV := h.2.1.1
  have hng := i_ng6 I
  have hnt := i_nt8 I
  have hnr := i_nr5 I
  have hnl := i_nl60 I
  have hx := h.L
  have hL := h.2.1.2
  have n10 : ¬ (Int32.ofNat 1 : Int32) = Int32.ofNat 0 := by decide
  obtain ⟨z1, z2, z3⟩ := stN_of (V := (gV G.1)) hng
  simp only [b146_0 hw, xR_tape HS, xI_wrongAt HS, xF_wrongAt HS, xR_state HS, xR_image HS, xI_imageKept HS, xF_imageKept HS, xR_draft HS, xR_memory HS, xR_lawText HS, xR_worlds HS, xI_worldsFresh HS, xF_worldsFresh HS, xR_otherWorlds HS, xR_seating HS, xR_pairing HS, xI_toldSo HS, xF_toldSo HS, xI_toldNot HS, xF_toldNot HS, xO HS, sR_things H, sI_goers H, sF_goers H, sR_wish H, sR_deed H, sI_makers H, sF_makers H, sR_born H, sR_money H, sR_nerve H, sR_shuns H, sR_by H, sI_trains H, sF_trains H, sR_halts H, sR_seats H, sI_texts H, sF_texts H, sI_law H, sF_law H, sI_day H, sF_day H, sI_seed H, sF_seed H, sR_log H, sO_state H, sI_count H, sF_count H, sI_first H, sF_first H, sR_at H, sR_worth H, sR_makes H, sR_hinders H, sO_things H, sI_rows H, sF_rows H, sR_entries H, sO_log H, sA_2 H, sW_2 H, sA_3 H, sW_3 H, sA_4 H, sW_4 H, sA_5 H, sW_5 H, sA_6 H, sW_6 H, sA_7 H, sW_7 H, sA_8 H, sW_8 H, sA_9 H, sW_9 H, sA_10 H, sW_10 H, sA_11 H, sW_11 H, sA_12 H, sW_12 H, sA_13 H, sW_13 H, sA_14 H, sW_14 H, sA_16 H, sW_16 H, wi_some, or_0, or_1, bo_or, ite_boP, true_and, and_true, kN_v, kN_n, kT_v, kT_n, kT_e, Nat.add_zero, Nat.zero_add, k38 hw H hV I, z1, b146_7 hw]
  have fin : ∀ D1, SeD D D1 → Q (.inl (some (.int (fo (claF G.1) 63 1 (-1))))) (mk sh D1) c s := fun D1 f1 => by rw [cla_1]; exact kk D1 (h.sed f1) f1.fc
  have lp : ∀ k z best l4 D1, z + k = 64 → SeD D D1 → (∀ D2, SeD D D2 → Q (.inl (some (.int (fo (claF G.1) k z best)))) (mk sh D2) c s) → Wx (tP nx xs) (d + 10) 146 12 [some (.ref 0), (some (.int (Int32.ofNat (stN (gV G.1) (gg G.1))))), (some (.int (best))), (some (.int (Int32.ofNat z))), l4] [] (mk sh D1) c s Q := by
    intro k
    induction k with
    | zero =>
      intro z best l4 D1 hz f1 q
      have : z = 64 := by omega
      subst this
      rw [b146_12 hw]
      simp only [oN_lt (show 64 < 2147483648 by omega) (show 64 < 2147483648 by omega), Nat.lt_irrefl, if_false]
      exact q D1 f1
    | succ k ih =>
      intro z best l4 D1 hz f1 q
      have hz64 : z < 64 := by omega
      have h1 := h.sed f1
      have hV1 := h1.2.1.1
      have ih := fun best' e D2 f2 l4 => ih (z + 1) best' l4 D2 (by omega) f2 (fun D3 f3 => (e : claF G.1 z best = best') ▸ q D3 f3)
      rw [b146_12 hw]
      simp only [oN_lt (show z < 2147483648 by omega) (show 64 < 2147483648 by omega), hz64, if_true]
      unfold claF at ih
      by_cases hs : Int32.ofNat z &&& (Int32.ofNat (stN (gV G.1) (gg G.1)) ^^^ -1) = Int32.ofNat 0
      · have hzn : z < 2 ^ (gg G.1) := by
          have := sub_le' hz64 z3 hs
          omega
        simp only [hs, if_true, b146_31 hw, n10, if_false, k131 hw, b146_43 hw, wi_some, or_0, or_1, bo_or, ite_boP, true_and, and_true, kN_v, kN_n, kT_v, kT_n, kT_e, Nat.add_zero, Nat.zero_add, decide_true, Bool.true_and] at ih ⊢
        cases hf : fewer (Int32.ofNat z) best
        · simp only [hf, Bool.false_eq_true, if_false, b146_63 hw, oN_add, Bool.false_and] at ih ⊢
          exact ih _ rfl D1 f1 _
        · simp only [hf, if_true, xR_tape HS, xI_wrongAt HS, xF_wrongAt HS, xR_state HS, xR_image HS, xI_imageKept HS, xF_imageKept HS, xR_draft HS, xR_memory HS, xR_lawText HS, xR_worlds HS, xI_worldsFresh HS, xF_worldsFresh HS, xR_otherWorlds HS, xR_seating HS, xR_pairing HS, xI_toldSo HS, xF_toldSo HS, xI_toldNot HS, xF_toldNot HS, xO HS, gR_bestWay HS, gI_most HS, gF_most HS, gR_way HS, gR_aboard HS, gO HS, gA_280 HS, gW_280 HS, gA_281 HS, gW_281 HS, gA_282 HS, gW_282 HS, wi_some, or_0, or_1, bo_or, ite_boP, true_and, and_true, kN_v, kN_n, kT_v, kT_n, kT_e, Nat.add_zero, Nat.zero_add, Bool.true_and] at ih ⊢
          refine k27 (by omega) hw HS hV1 I hz64 hzn h1.2.2.2.2.2.2.1 ?_
          intro D2 f2
          have f3 : SeD D D2 := fun b i a1 a2 a3 => (f2 b i a1 a2 a3).trans (f1 b i a1 a2 a3)
          simp only [wi_some, or_0, or_1, bo_or, ite_boP, true_and, and_true, kN_v, kN_n, kT_v, kT_n, kT_e, Nat.add_zero, Nat.zero_add, b146_58 hw, b146_63 hw, oN_add]
          cases hc : canG (gV G.1) (gr G.1) z (gg G.1) 0 w0 with
          | false => simp only [hc, bo_f, if_true, Bool.not_false] at ih ⊢; exact ih _ rfl D2 f3 _
          | true => simp only [hc, bo_t, n10, if_false, Bool.not_true, Bool.false_eq_true] at ih ⊢; exact ih _ rfl D2 f3 _
      · simp only [hs, if_false, b146_31 hw, if_true, b146_63 hw, oN_add, decide_false, Bool.false_and, Bool.false_eq_true] at ih ⊢
        exact ih _ rfl D1 f1 _
  exact lp 63 1 (-1) _ D rfl (fun _ _ _ _ _ => rfl) fin
end CA3
/-! the reference's search, one behind another -/
def Se3 (D D' : sD) : Prop := ∀ a, a ≠ 296 → a ≠ 298 → D' a = D a
def nb (z g : Nat) : Nat := nS (bt (Int32.ofNat z)) g
theorem nb_s (z g : Nat) : nb z (g + 1) = nb z g + if bt (Int32.ofNat z) g then 1 else 0 := nS_succ _ _
theorem nb_mono {z a b : Nat} (h : a ≤ b) : nb z a ≤ nb z b := nS_mono _ h
section CB3
variable {nx : Nat} {xs : Nat → Int32} {d c s : Nat} {sh : List sC} {D : sD} {Q : av_Q}
variable {V : sD} {nt ng nr nl : Nat}
theorem k318 {z : Nat} (hw : WT sh) (HS : SP sh) (R : Rw (D 287) V nt ng nr nl) (hng : ng ≤ 6)
    (kk : ∀ D', Se3 D D' → (∀ i, i < ng → D' 296 i = -1) → (∀ i, i < ng → bt (Int32.ofNat z) i = true → D' 298 (nb z i) = Int32.ofNat i) → Q (.inl (some (.int (Int32.ofNat (nb z ng))))) (mk sh D') c s) :
    Wx (tP nx xs) (d + 2) 318 0 [some (.ref 286), (some (.int (Int32.ofNat z))), none, none] [] (mk sh D) c s Q := by
  have n10 : ¬ (Int32.ofNat 1 : Int32) = Int32.ofNat 0 := by decide
  simp only [b318_0 hw]
  refine up_P (W := fun i (_ : Nat) D => Wx (tP nx xs) (d + 2) 318 4 [some (.ref 286), (some (.int (Int32.ofNat z))), (some (.int (Int32.ofNat (nb z i)))), (some (.int (Int32.ofNat i)))] [] (mk sh D) c s Q) (P := fun i _ D' => Se3 D D' ∧ (∀ j, j < i → D' 296 j = -1) ∧ ∀ j, j < i → bt (Int32.ofNat z) j = true → D' 298 (nb z j) = Int32.ofNat j) (F := fun _ x => x) ng ?_ 0 D ⟨fun _ _ _ => rfl, fun j hj => absurd hj (Nat.not_lt_zero _), fun j hj => absurd hj (Nat.not_lt_zero _)⟩ ?_
  · intro i _ D1 hi ⟨s1, h1, h2⟩ k
    have hi6 : i < 6 := by omega
    have hb6 : nb z i < 6 := Nat.lt_of_le_of_lt (nS_le _ _) hi6
    rw [nb_s] at k
    rw [b318_4 hw]
    simp only [mI_thrown HS, mF_thrown HS, mR_row HS, mR_image HS, mR_earlier HS, mR_trial HS, mR_acts HS, mI_hasImage HS, mF_hasImage HS, mI_remembered HS, mF_remembered HS, mR_tape HS, mI_taped HS, mF_taped HS, mI_point HS, mF_point HS, mI_end HS, mF_end HS, mI_begin HS, mF_begin HS, mI_deep HS, mF_deep HS, mI_faultAt HS, mF_faultAt HS, mR_five HS, mI_codes HS, mF_codes HS, mR_value HS, mI_so HS, mF_so HS, mR_lines HS, mR_chosen HS, mR_best HS, mR_members HS, mR_paired HS, mO HS, mA_287 HS, mW_287 HS, mA_288 HS, mW_288 HS, mA_289 HS, mW_289 HS, mA_290 HS, mW_290 HS, mA_291 HS, mW_291 HS, mA_292 HS, mW_292 HS, mA_293 HS, mW_293 HS, mA_294 HS, mW_294 HS, mA_295 HS, mW_295 HS, mA_296 HS, mW_296 HS, mA_297 HS, mW_297 HS, mA_298 HS, mW_298 HS, mA_299 HS, mW_299 HS, wi_some, or_0, or_1, bo_or, ite_boP, true_and, and_true, kN_v, kN_n, kT_v, kT_n, kT_e, Nat.add_zero, Nat.zero_add, k198 hw HS, s1 287 (by decide) (by decide), r_ng R, b318_9 hw, oN_lt (show i < 2147483648 by omega) (show ng < 2147483648 by omega), hi, if_true, hi6, oN_tn (show i < 2147483648 by omega), b318_19 hw, k189 hw (show i < 32 by omega), b318_24 hw]
    cases hb : bt (Int32.ofNat z) i with
    | false =>
      simp only [hb, bo_f, Bool.false_eq_true, if_true, if_false, Nat.add_zero, b318_40 hw, oN_add] at k ⊢
      refine k _ ⟨fun a a1 a2 => funext fun j => by rw [u2_at, if_neg (by omega), s1 a a1 a2], fun j hj => ?_, fun j hj hj2 => ?_⟩
      · rw [u2_at]
        by_cases e : j = i
        · rw [if_pos ⟨rfl, e⟩]
        · rw [if_neg (by omega)]; exact h1 j (by omega)
      · have : j ≠ i := fun e => by rw [e, hb] at hj2; cases hj2
        rw [u2_at, if_neg (by omega)]; exact h2 j (by omega) hj2
    | true =>
      simp only [hb, bo_t, n10, if_true, if_false, mI_thrown HS, mF_thrown HS, mR_row HS, mR_image HS, mR_earlier HS, mR_trial HS, mR_acts HS, mI_hasImage HS, mF_hasImage HS, mI_remembered HS, mF_remembered HS, mR_tape HS, mI_taped HS, mF_taped HS, mI_point HS, mF_point HS, mI_end HS, mF_end HS, mI_begin HS, mF_begin HS, mI_deep HS, mF_deep HS, mI_faultAt HS, mF_faultAt HS, mR_five HS, mI_codes HS, mF_codes HS, mR_value HS, mI_so HS, mF_so HS, mR_lines HS, mR_chosen HS, mR_best HS, mR_members HS, mR_paired HS, mO HS, mA_287 HS, mW_287 HS, mA_288 HS, mW_288 HS, mA_289 HS, mW_289 HS, mA_290 HS, mW_290 HS, mA_291 HS, mW_291 HS, mA_292 HS, mW_292 HS, mA_293 HS, mW_293 HS, mA_294 HS, mW_294 HS, mA_295 HS, mW_295 HS, mA_296 HS, mW_296 HS, mA_297 HS, mW_297 HS, mA_298 HS, mW_298 HS, mA_299 HS, mW_299 HS, wi_some, or_0, or_1, bo_or, ite_boP, true_and, and_true, kN_v, kN_n, kT_v, kT_n, kT_e, Nat.add_zero, Nat.zero_add, hb6, oN_tn (show nb z i < 2147483648 by omega), b318_37 hw, b318_40 hw, oN_add] at k ⊢
      refine k _ ⟨fun a a1 a2 => funext fun j => by rw [u2_at, if_neg (by omega), u2_at, if_neg (by omega), s1 a a1 a2], fun j hj => ?_, fun j hj hj2 => ?_⟩
      · rw [u2_at, if_neg (by omega), u2_at]
        by_cases e : j = i
        · rw [if_pos ⟨rfl, e⟩]
        · rw [if_neg (by omega)]; exact h1 j (by omega)
      · by_cases e : j = i
        · rw [e, u2_at, if_pos ⟨rfl, rfl⟩]
        · have a1 := nb_s z j
          rw [hj2, if_pos rfl] at a1
          have a2 := nb_mono (z := z) (show j + 1 ≤ i by omega)
          rw [u2_at, if_neg (by omega), u2_at, if_neg (by omega)]; exact h2 j (by omega) hj2
  · intro D1 ⟨s1, h1, h2⟩
    rw [b318_4 hw]
    simp only [mI_thrown HS, mF_thrown HS, mR_row HS, mR_image HS, mR_earlier HS, mR_trial HS, mR_acts HS, mI_hasImage HS, mF_hasImage HS, mI_remembered HS, mF_remembered HS, mR_tape HS, mI_taped HS, mF_taped HS, mI_point HS, mF_point HS, mI_end HS, mF_end HS, mI_begin HS, mF_begin HS, mI_deep HS, mF_deep HS, mI_faultAt HS, mF_faultAt HS, mR_five HS, mI_codes HS, mF_codes HS, mR_value HS, mI_so HS, mF_so HS, mR_lines HS, mR_chosen HS, mR_best HS, mR_members HS, mR_paired HS, mO HS, mA_287 HS, mW_287 HS, mA_288 HS, mW_288 HS, mA_289 HS, mW_289 HS, mA_290 HS, mW_290 HS, mA_291 HS, mW_291 HS, mA_292 HS, mW_292 HS, mA_293 HS, mW_293 HS, mA_294 HS, mW_294 HS, mA_295 HS, mW_295 HS, mA_296 HS, mW_296 HS, mA_297 HS, mW_297 HS, mA_298 HS, mW_298 HS, mA_299 HS, mW_299 HS, wi_some, or_0, or_1, bo_or, ite_boP, true_and, and_true, kN_v, kN_n, kT_v, kT_n, kT_e, Nat.add_zero, Nat.zero_add, k198 hw HS, s1 287 (by decide) (by decide), r_ng R, b318_9 hw, oN_lt (show ng < 2147483648 by omega) (show ng < 2147483648 by omega), Nat.lt_irrefl, if_false]
    exact kk D1 s1 h1 h2
theorem k319 {z : Nat} (hw : WT sh) (HS : SP sh) (R : Rw (D 287) V nt ng nr nl) (I : Iv V nt ng nr nl)
    (kk : ∀ D', Se3 D D' → Q (.inl (some (.int (bo (canG V nr z ng 0 w0))))) (mk sh D') c s) :
    Wx (tP nx xs) (d + 4) 319 0 [some (.ref 286), (some (.int (Int32.ofNat z))), none, none, none, none] [] (mk sh D) c s Q := by
  have hng := i_ng6 I
  have hnr := i_nr5 I
  have n10 : ¬ (Int32.ofNat 1 : Int32) = Int32.ofNat 0 := by decide
  have n11 : ¬ (-1 : Int32) = Int32.ofNat 0 := by decide
  simp only [b319_0 hw, mI_thrown HS, mF_thrown HS, mR_row HS, mR_image HS, mR_earlier HS, mR_trial HS, mR_acts HS, mI_hasImage HS, mF_hasImage HS, mI_remembered HS, mF_remembered HS, mR_tape HS, mI_taped HS, mF_taped HS, mI_point HS, mF_point HS, mI_end HS, mF_end HS, mI_begin HS, mF_begin HS, mI_deep HS, mF_deep HS, mI_faultAt HS, mF_faultAt HS, mR_five HS, mI_codes HS, mF_codes HS, mR_value HS, mI_so HS, mF_so HS, mR_lines HS, mR_chosen HS, mR_best HS, mR_members HS, mR_paired HS, mO HS, mA_287 HS, mW_287 HS, mA_288 HS, mW_288 HS, mA_289 HS, mW_289 HS, mA_290 HS, mW_290 HS, mA_291 HS, mW_291 HS, mA_292 HS, mW_292 HS, mA_293 HS, mW_293 HS, mA_294 HS, mW_294 HS, mA_295 HS, mW_295 HS, mA_296 HS, mW_296 HS, mA_297 HS, mW_297 HS, mA_298 HS, mW_298 HS, mA_299 HS, mW_299 HS, wi_some, or_0, or_1, bo_or, ite_boP, true_and, and_true, kN_v, kN_n, kT_v, kT_n, kT_e, Nat.add_zero, Nat.zero_add]
  refine k318 hw HS R hng ?_
  intro Dm sm m1 m2
  simp only [wi_some, or_0, or_1, bo_or, ite_boP, true_and, and_true, kN_v, kN_n, kT_v, kT_n, kT_e, Nat.add_zero, Nat.zero_add, b319_5 hw]
  have Rm : Rw (Dm 287) V nt ng nr nl := by rw [sm 287 (by decide) (by decide)]; exact R
  have bM : nb z ng ≤ 6 := Nat.le_trans (nS_le _ _) hng
  have A : ∀ r g (w : Nat → Int32) (D1 : sD) (l4 l5 : Option Value), g + r = ng → Ex 296 Dm D1 → (∀ i, i < g → D1 296 i = w i) → (∀ i, g ≤ i → i < ng → D1 296 i = -1) →
      (canG V nr z r g w = true → ∀ D2 l4 l5, Ex 296 Dm D2 → Wx (tP nx xs) (d + 4) 319 8 [some (.ref 286), (some (.int (Int32.ofNat z))), (some (.int (Int32.ofNat (nb z ng)))), (some (.int (Int32.ofNat (nb z ng)))), l4, l5] [] (mk sh D2) c s Q) →
      (canG V nr z r g w = false → ∀ D2 l4 l5, Ex 296 Dm D2 → (∀ i, i < ng → D2 296 i = D1 296 i) → Wx (tP nx xs) (d + 4) 319 8 [some (.ref 286), (some (.int (Int32.ofNat z))), (some (.int (Int32.ofNat (nb z ng)))), (some (.int (mo (nb z g)))), l4, l5] [] (mk sh D2) c s Q) →
      Wx (tP nx xs) (d + 4) 319 8 [some (.ref 286), (some (.int (Int32.ofNat z))), (some (.int (Int32.ofNat (nb z ng)))), (some (.int (Int32.ofNat (nb z g)))), l4, l5] [] (mk sh D1) c s Q := by
    intro r
    induction r with
    | zero =>
      intro g w D1 l4 l5 hg e1 h1 h2 hT hF
      have : g = ng := by omega
      subst this
      exact hT rfl D1 l4 l5 e1
    | succ r ih =>
      intro g w D1 l4 l5 hg e1 h1 h2 hT hF
      have hg6 : g < 6 := by omega
      have hgn : g < ng := by omega
      have ns := nb_s z g
      cases hb : bt (Int32.ofNat z) g with
      | false =>
        unfold canG at hT hF
        simp only [hb, Bool.false_eq_true, if_false, Nat.add_zero] at hT hF ns
        rw [← ns] at hF ⊢
        refine ih (g + 1) (wU w g (-1)) D1 l4 l5 (by omega) e1 (fun i hi => ?_) (fun i h1 h3 => h2 i (by omega) h3) hT hF
        by_cases e : i = g
        · rw [e, wU_s]; exact h2 g (Nat.le_refl _) hgn
        · rw [wU_o e]; exact h1 i (by omega)
      | true =>
        unfold canG at hT hF
        simp only [hb, if_true] at hT hF ns
        have nlt : nb z g < nb z ng := by
          have := nb_mono (z := z) (show g + 1 ≤ ng by omega)
          omega
        have mm : ∀ D2, Ex 296 Dm D2 → D2 298 (nb z g) = Int32.ofNat g := fun D2 e2 => by rw [e2 298 (by decide)]; exact m2 g hgn hb
        have r7 : ∀ D2, Ex 296 Dm D2 → D2 287 2 = Int32.ofNat nr := fun D2 e2 => by rw [e2 287 (by decide)]; exact r_nr Rm
        have hb6 : nb z g < 6 := by omega
        -- at the head, for him
        have hd : ∀ D2 (l4 l5 : Option Value) (v : Int32), Ex 296 Dm D2 → D2 296 g = v → Wx (tP nx xs) (d + 4) 319 36 [some (.ref 286), (some (.int (Int32.ofNat z))), (some (.int (Int32.ofNat (nb z ng)))), (some (.int (Int32.ofNat (nb z g)))), (some (.int (Int32.ofNat g))), (some (.int (v + Int32.ofNat 1)))] [] (mk sh D2) c s Q → Wx (tP nx xs) (d + 4) 319 8 [some (.ref 286), (some (.int (Int32.ofNat z))), (some (.int (Int32.ofNat (nb z ng)))), (some (.int (Int32.ofNat (nb z g)))), l4, l5] [] (mk sh D2) c s Q := by
          intro D2 l4 l5 v e2 hv k
          rw [b319_8 hw]
          simp only [oN_nn (show nb z g < 2147483648 by omega), if_false, oN_lt (show nb z g < 2147483648 by omega) (show nb z ng < 2147483648 by omega), nlt, if_true, mI_thrown HS, mF_thrown HS, mR_row HS, mR_image HS, mR_earlier HS, mR_trial HS, mR_acts HS, mI_hasImage HS, mF_hasImage HS, mI_remembered HS, mF_remembered HS, mR_tape HS, mI_taped HS, mF_taped HS, mI_point HS, mF_point HS, mI_end HS, mF_end HS, mI_begin HS, mF_begin HS, mI_deep HS, mF_deep HS, mI_faultAt HS, mF_faultAt HS, mR_five HS, mI_codes HS, mF_codes HS, mR_value HS, mI_so HS, mF_so HS, mR_lines HS, mR_chosen HS, mR_best HS, mR_members HS, mR_paired HS, mO HS, mA_287 HS, mW_287 HS, mA_288 HS, mW_288 HS, mA_289 HS, mW_289 HS, mA_290 HS, mW_290 HS, mA_291 HS, mW_291 HS, mA_292 HS, mW_292 HS, mA_293 HS, mW_293 HS, mA_294 HS, mW_294 HS, mA_295 HS, mW_295 HS, mA_296 HS, mW_296 HS, mA_297 HS, mW_297 HS, mA_298 HS, mW_298 HS, mA_299 HS, mW_299 HS, wi_some, or_0, or_1, bo_or, ite_boP, true_and, and_true, kN_v, kN_n, kT_v, kT_n, kT_e, Nat.add_zero, Nat.zero_add, hb6, mm D2 e2, hg6, hv]
          exact k
        have C : ∀ q t (D2 : sD), t + q = nr → Ex 296 Dm D2 → (∀ i, i < g → D2 296 i = w i) → (∀ i, g < i → i < ng → D2 296 i = -1) → (∀ u, u < t → (rmW V w g u && canG V nr z r (g + 1) (wU w g (Int32.ofNat u))) = false) → Wx (tP nx xs) (d + 4) 319 36 [some (.ref 286), (some (.int (Int32.ofNat z))), (some (.int (Int32.ofNat (nb z ng)))), (some (.int (Int32.ofNat (nb z g)))), (some (.int (Int32.ofNat g))), (some (.int (Int32.ofNat t)))] [] (mk sh D2) c s Q := by
          intro q
          induction q with
          | zero =>
            intro t D2 ht e2 a1 a2 hn
            have : t = nr := by omega
            subst this
            have e3 : Ex 296 Dm (u2 D2 296 g (-1)) := fun a ha => funext fun j => by rw [u2_at, if_neg (by omega), e2 a ha]
            rw [b319_36 hw]
            simp only [mI_thrown HS, mF_thrown HS, mR_row HS, mR_image HS, mR_earlier HS, mR_trial HS, mR_acts HS, mI_hasImage HS, mF_hasImage HS, mI_remembered HS, mF_remembered HS, mR_tape HS, mI_taped HS, mF_taped HS, mI_point HS, mF_point HS, mI_end HS, mF_end HS, mI_begin HS, mF_begin HS, mI_deep HS, mF_deep HS, mI_faultAt HS, mF_faultAt HS, mR_five HS, mI_codes HS, mF_codes HS, mR_value HS, mI_so HS, mF_so HS, mR_lines HS, mR_chosen HS, mR_best HS, mR_members HS, mR_paired HS, mO HS, mA_287 HS, mW_287 HS, mA_288 HS, mW_288 HS, mA_289 HS, mW_289 HS, mA_290 HS, mW_290 HS, mA_291 HS, mW_291 HS, mA_292 HS, mW_292 HS, mA_293 HS, mW_293 HS, mA_294 HS, mW_294 HS, mA_295 HS, mW_295 HS, mA_296 HS, mW_296 HS, mA_297 HS, mW_297 HS, mA_298 HS, mW_298 HS, mA_299 HS, mW_299 HS, wi_some, or_0, or_1, bo_or, ite_boP, true_and, and_true, kN_v, kN_n, kT_v, kT_n, kT_e, Nat.add_zero, Nat.zero_add, k199 hw HS, r7 D2 e2, b319_42 hw, oN_lt (show t < 2147483648 by omega) (show t < 2147483648 by omega), Nat.lt_irrefl, if_false, b319_62 hw, b319_74 hw, b319_83 hw, hg6, oN_tn (show g < 2147483648 by omega), b319_84 hw, r7 _ e3, b319_91 hw, b319_99 hw]
            rw [show Int32.ofNat (nb z g) + -1 = mo (nb z g) by rw [← mo_s]; exact mo_m _]
            refine hF ?_ _ _ _ e3 (fun i hi => ?_)
            · cases ha : anyN (fun u => rmW V w g u && canG V t z r (g + 1) (wU w g (Int32.ofNat u))) t with
              | false => rfl
              | true =>
                obtain ⟨o, ho, hp⟩ := (anyN_iff _ _).mp ha
                rw [hn o ho] at hp
                cases hp
            · rw [u2_at]
              by_cases e : i = g
              · rw [if_pos ⟨rfl, e⟩, e]; exact (h2 g (Nat.le_refl _) hgn).symm
              · rw [if_neg (by omega)]
                rcases Nat.lt_or_gt_of_ne e with h | h
                · rw [a1 i h, h1 i h]
                · rw [a2 i h hi, h2 i (by omega) hi]
          | succ q ihq =>
            intro t D2 ht e2 a1 a2 hn
            have htn : t < nr := by omega
            have R2 : Rw (D2 287) V nt ng nr nl := by rw [e2 287 (by decide)]; exact Rm
            have er : rmP V (bs (fun o => decide (D2 296 o = Int32.ofNat t)) g) g t = rmW V w g t := by
              unfold rmW
              rw [bs_congr fun o ho => by rw [a1 o ho]]
            rw [b319_36 hw]
            simp only [mI_thrown HS, mF_thrown HS, mR_row HS, mR_image HS, mR_earlier HS, mR_trial HS, mR_acts HS, mI_hasImage HS, mF_hasImage HS, mI_remembered HS, mF_remembered HS, mR_tape HS, mI_taped HS, mF_taped HS, mI_point HS, mF_point HS, mI_end HS, mF_end HS, mI_begin HS, mF_begin HS, mI_deep HS, mF_deep HS, mI_faultAt HS, mF_faultAt HS, mR_five HS, mI_codes HS, mF_codes HS, mR_value HS, mI_so HS, mF_so HS, mR_lines HS, mR_chosen HS, mR_best HS, mR_members HS, mR_paired HS, mO HS, mA_287 HS, mW_287 HS, mA_288 HS, mW_288 HS, mA_289 HS, mW_289 HS, mA_290 HS, mW_290 HS, mA_291 HS, mW_291 HS, mA_292 HS, mW_292 HS, mA_293 HS, mW_293 HS, mA_294 HS, mW_294 HS, mA_295 HS, mW_295 HS, mA_296 HS, mW_296 HS, mA_297 HS, mW_297 HS, mA_298 HS, mW_298 HS, mA_299 HS, mW_299 HS, wi_some, or_0, or_1, bo_or, ite_boP, true_and, and_true, kN_v, kN_n, kT_v, kT_n, kT_e, Nat.add_zero, Nat.zero_add, k199 hw HS, r7 D2 e2, b319_42 hw, oN_lt (show t < 2147483648 by omega) (show nr < 2147483648 by omega), htn, if_true]
            rw [k314 (d := d) hw HS R2 I hgn htn]
            simp only [wi_some, or_0, or_1, bo_or, ite_boP, true_and, and_true, kN_v, kN_n, kT_v, kT_n, kT_e, Nat.add_zero, Nat.zero_add, b319_53 hw, er]
            have hs : ∀ {p : Bool}, (rmW V w g t && canG V nr z r (g + 1) (wU w g (Int32.ofNat t))) = p → p = false → ∀ u, u < t + 1 → (rmW V w g u && canG V nr z r (g + 1) (wU w g (Int32.ofNat u))) = false := fun {p} hp hq u hu => by
              by_cases e : u = t
              · rw [e, hp, hq]
              · exact hn u (by omega)
            cases hr : rmW V w g t with
            | false =>
              simp only [bo_f, if_true, oN_add]
              exact ihq (t + 1) D2 (by omega) e2 a1 a2 (hs (by rw [hr, Bool.false_and]) rfl)
            | true =>
              have e3 : Ex 296 Dm (u2 D2 296 g (Int32.ofNat t)) := fun a ha => funext fun j => by rw [u2_at, if_neg (by omega), e2 a ha]
              simp only [bo_t, n10, if_false, b319_62 hw, mI_thrown HS, mF_thrown HS, mR_row HS, mR_image HS, mR_earlier HS, mR_trial HS, mR_acts HS, mI_hasImage HS, mF_hasImage HS, mI_remembered HS, mF_remembered HS, mR_tape HS, mI_taped HS, mF_taped HS, mI_point HS, mF_point HS, mI_end HS, mF_end HS, mI_begin HS, mF_begin HS, mI_deep HS, mF_deep HS, mI_faultAt HS, mF_faultAt HS, mR_five HS, mI_codes HS, mF_codes HS, mR_value HS, mI_so HS, mF_so HS, mR_lines HS, mR_chosen HS, mR_best HS, mR_members HS, mR_paired HS, mO HS, mA_287 HS, mW_287 HS, mA_288 HS, mW_288 HS, mA_289 HS, mW_289 HS, mA_290 HS, mW_290 HS, mA_291 HS, mW_291 HS, mA_292 HS, mW_292 HS, mA_293 HS, mW_293 HS, mA_294 HS, mW_294 HS, mA_295 HS, mW_295 HS, mA_296 HS, mW_296 HS, mA_297 HS, mW_297 HS, mA_298 HS, mW_298 HS, mA_299 HS, mW_299 HS, wi_some, or_0, or_1, bo_or, ite_boP, true_and, and_true, kN_v, kN_n, kT_v, kT_n, kT_e, Nat.add_zero, Nat.zero_add, k199 hw HS, r7 D2 e2, b319_74 hw, oN_lt (show t < 2147483648 by omega) (show nr < 2147483648 by omega), htn, if_true, b319_83 hw, hg6, oN_tn (show g < 2147483648 by omega), b319_84 hw, r7 _ e3, b319_91 hw, b319_99 hw, oN_add]
              rw [← ns]
              refine ih (g + 1) (wU w g (Int32.ofNat t)) _ _ _ (by omega) e3 (fun i hi => ?_) (fun i b1 b2 => ?_) (fun hc => ?_) (fun hc D3 l4 l5 e4 b4 => ?_)
              · rw [u2_at]
                by_cases e : i = g
                · rw [if_pos ⟨rfl, e⟩, e, wU_s]
                · rw [if_neg (by omega), wU_o e]; exact a1 i (by omega)
              · rw [u2_at, if_neg (by omega)]; exact a2 i (by omega) b2
              · exact hT ((anyN_iff _ _).mpr ⟨t, htn, by rw [hr, hc]; rfl⟩)
              · rw [ns, mo_s]
                have b5 : D3 296 g = Int32.ofNat t := by rw [b4 g hgn, u2_at, if_pos ⟨rfl, rfl⟩]
                refine hd D3 l4 l5 _ e4 b5 ?_
                rw [oN_add]
                refine ihq (t + 1) D3 (by omega) e4 (fun i hi => ?_) (fun i c1 c2 => ?_) (hs (by rw [hc, Bool.and_false]) rfl)
                · rw [b4 i (by omega), u2_at, if_neg (by omega)]; exact a1 i hi
                · rw [b4 i c2, u2_at, if_neg (by omega)]; exact a2 i c1 c2
        refine hd D1 l4 l5 (-1) e1 (h2 g (Nat.le_refl _) hgn) ?_
        exact C nr 0 D1 (by omega) e1 h1 (fun i a b => h2 i (by omega) b) (fun u hu => absurd hu (Nat.not_lt_zero _))
  have fin : ∀ D2, Ex 296 Dm D2 → Q (.inl (some (.int (bo (canG V nr z ng 0 w0))))) (mk sh D2) c s := fun D2 e2 => kk D2 fun a a1 a2 => (e2 a a1).trans (sm a a1 a2)
  refine A ng 0 w0 Dm none none (by omega) (fun _ _ => rfl) (fun i hi => absurd hi (Nat.not_lt_zero _)) (fun i _ hi => m1 i hi) (fun hc D2 l4 l5 e2 => ?_) (fun hc D2 l4 l5 e2 _ => ?_)
  · have fin := fin D2 e2
    rw [b319_8 hw]
    simp only [oN_nn (show nb z ng < 2147483648 by omega), if_false, oN_lt (show nb z ng < 2147483648 by omega) (show nb z ng < 2147483648 by omega), Nat.lt_irrefl, b319_104 hw, if_true, b319_114 hw, wi_some, or_0, or_1, bo_or, ite_boP, true_and, and_true, kN_v, kN_n, kT_v, kT_n, kT_e, Nat.add_zero, Nat.zero_add]
    rw [hc, bo_t] at fin
    exact fin
  · have fin := fin D2 e2
    have ne : ¬ (-1 : Int32) = Int32.ofNat (nb z ng) := fun e => by
      have := oN_ne1 (show nb z ng < 2147483648 by omega)
      rw [← e] at this
      exact absurd rfl (this ▸ (fun h => h.elim) : ¬ (-1 : Int32) = -1)
    rw [b319_8 hw]
    simp only [show mo (nb z 0) = -1 from mo_0, show (-1 : Int32) < Int32.ofNat 0 by decide, if_true, b319_104 hw, ne, if_false, b319_114 hw, wi_some, or_0, or_1, bo_or, ite_boP, true_and, and_true, kN_v, kN_n, kT_v, kT_n, kT_e, Nat.add_zero, Nat.zero_add]
    rw [hc, bo_f] at fin
    exact fin
end CB3
section CC3
variable {nx : Nat} {xs : Nat → Int32} {d c s : Nat} {sh : List sC} {D : sD} {Q : av_Q}
variable {G : GT}
theorem Se3.ms {D' : sD} (f : Se3 D D') : Ms D D' := ⟨fun a ha => f a (by omega) (by omega), fun i _ _ _ _ _ _ _ => by rw [f 286 (by decide) (by decide)], fun i _ => by rw [f 287 (by decide) (by decide)], f 288 (by decide) (by decide), f 291 (by decide) (by decide), f 292 (by decide) (by decide)⟩
theorem m_clash (hw : WT sh) (HS : SP sh) (hv : GV G) (h : GR D G) (kk : ∀ D', Ms D D' → D' 286 0 = Int32.ofNat 0 → Q (.inl (some (.int (claS G.1)))) (mk sh D') c s) : Wx (tP nx xs) (d + 7) 320 0 [some (.ref 286), none, none, none] [] (mk sh D) c s Q := by
  have h0 := h.ms hv (Ms.rf.th (v := Int32.ofNat 0))
  have I := hv.1
  have hng := i_ng6 I
  have n10 : ¬ (Int32.ofNat 1 : Int32) = Int32.ofNat 0 := by decide
  obtain ⟨z1, z2, z3⟩ := stN_of (V := (gV G.1)) hng
  have z1 : Int32.ofNat (2 ^ (gg G.1) - 1) &&& (goneS (gV G.1) (gg G.1) ^^^ -1) = Int32.ofNat (stN (gV G.1) (gg G.1)) := z1
  rw [← cla_g G.1 hv.1] at kk
  simp only [b320_0 hw, b320_5 hw, mI_thrown HS, mF_thrown HS, mR_row HS, mR_image HS, mR_earlier HS, mR_trial HS, mR_acts HS, mI_hasImage HS, mF_hasImage HS, mI_remembered HS, mF_remembered HS, mR_tape HS, mI_taped HS, mF_taped HS, mI_point HS, mF_point HS, mI_end HS, mF_end HS, mI_begin HS, mF_begin HS, mI_deep HS, mF_deep HS, mI_faultAt HS, mF_faultAt HS, mR_five HS, mI_codes HS, mF_codes HS, mR_value HS, mI_so HS, mF_so HS, mR_lines HS, mR_chosen HS, mR_best HS, mR_members HS, mR_paired HS, mO HS, mA_287 HS, mW_287 HS, mA_288 HS, mW_288 HS, mA_289 HS, mW_289 HS, mA_290 HS, mW_290 HS, mA_291 HS, mW_291 HS, mA_292 HS, mW_292 HS, mA_293 HS, mW_293 HS, mA_294 HS, mW_294 HS, mA_295 HS, mW_295 HS, mA_296 HS, mW_296 HS, mA_297 HS, mW_297 HS, mA_298 HS, mW_298 HS, mA_299 HS, mW_299 HS, wi_some, or_0, or_1, bo_or, ite_boP, true_and, and_true, kN_v, kN_n, kT_v, kT_n, kT_e, Nat.add_zero, Nat.zero_add, k206 hw HS h0.1.1 hng, b320_9 hw, k208 hw HS h0.1.1 hng, b320_13 hw, z1]
  refine up_P (W := fun i x D => Wx (tP nx xs) (d + 7) 320 21 [some (.ref 286), (some (.int (Int32.ofNat (stN (gV G.1) (gg G.1))))), (some (.int (x))), (some (.int (Int32.ofNat i)))] [] (mk sh D) c s Q) (P := fun _ _ D' => Se3 (u2 D 286 0 (Int32.ofNat 0)) D') (F := claF G.1) (stN (gV G.1) (gg G.1) + 1) ?_ (-1) _ (fun _ _ _ => rfl) ?_
  · intro z best D1 hz s1 k
    have h1 := h0.ms hv s1.ms
    have hz1 : ¬ stN (gV G.1) (gg G.1) < z := by omega
    rw [b320_21 hw]
    simp only [oN_lt (show stN (gV G.1) (gg G.1) < 2147483648 by omega) (show z < 2147483648 by omega), hz1, if_false]
    unfold claF at k
    by_cases hs : Int32.ofNat z &&& (Int32.ofNat (stN (gV G.1) (gg G.1)) ^^^ -1) = Int32.ofNat 0
    · simp only [hs, if_true, decide_true, Bool.true_and, k357 hw, b320_43 hw, b320_47 hw, wi_some, or_0, or_1, bo_or, ite_boP, true_and, and_true, kN_v, kN_n, kT_v, kT_n, kT_e, Nat.add_zero, Nat.zero_add] at k ⊢
      have yes : fewer (Int32.ofNat z) best = true → Wx (tP nx xs) (d + 7) 320 50 [some (.ref 286), (some (.int (Int32.ofNat (stN (gV G.1) (gg G.1))))), (some (.int (best))), (some (.int (Int32.ofNat z)))] [] (mk sh D1) c s Q := by
        intro hf
        simp only [b320_50 hw, mI_thrown HS, mF_thrown HS, mR_row HS, mR_image HS, mR_earlier HS, mR_trial HS, mR_acts HS, mI_hasImage HS, mF_hasImage HS, mI_remembered HS, mF_remembered HS, mR_tape HS, mI_taped HS, mF_taped HS, mI_point HS, mF_point HS, mI_end HS, mF_end HS, mI_begin HS, mF_begin HS, mI_deep HS, mF_deep HS, mI_faultAt HS, mF_faultAt HS, mR_five HS, mI_codes HS, mF_codes HS, mR_value HS, mI_so HS, mF_so HS, mR_lines HS, mR_chosen HS, mR_best HS, mR_members HS, mR_paired HS, mO HS, mA_287 HS, mW_287 HS, mA_288 HS, mW_288 HS, mA_289 HS, mW_289 HS, mA_290 HS, mW_290 HS, mA_291 HS, mW_291 HS, mA_292 HS, mW_292 HS, mA_293 HS, mW_293 HS, mA_294 HS, mW_294 HS, mA_295 HS, mW_295 HS, mA_296 HS, mW_296 HS, mA_297 HS, mW_297 HS, mA_298 HS, mW_298 HS, mA_299 HS, mW_299 HS, wi_some, or_0, or_1, bo_or, ite_boP, true_and, and_true, kN_v, kN_n, kT_v, kT_n, kT_e, Nat.add_zero, Nat.zero_add]
        refine k319 hw HS h1.1.1 I ?_
        intro D2 s2
        have k := k D2 (fun a a1 a2 => (s2 a a1 a2).trans (s1 a a1 a2))
        simp only [b320_55 hw, b320_60 hw, oN_add, wi_some, or_0, or_1, bo_or, ite_boP, true_and, and_true, kN_v, kN_n, kT_v, kT_n, kT_e, Nat.add_zero, Nat.zero_add]
        cases hc : canG (gV G.1) (gr G.1) z (gg G.1) 0 w0 with
        | false => simp only [bo_f, if_true, hf, hc, Bool.not_false, Bool.and_self] at k ⊢; exact k
        | true => simp only [bo_t, n10, if_false, hc, Bool.not_true, Bool.and_false, Bool.false_eq_true] at k ⊢; exact k
      by_cases hb : best = -1
      · simp only [hb, if_true]
        rw [hb] at yes
        exact yes (by unfold fewer; simp)
      · simp only [hb, if_false]
        by_cases hc : bc (Int32.ofNat z) < bc best
        · simp only [hc, if_true]
          exact yes (by unfold fewer; simp [hc])
        · have hf : fewer (Int32.ofNat z) best = false := by unfold fewer; simp [hb, hc]
          simp only [hc, hf, if_false, b320_60 hw, oN_add, Bool.false_and, Bool.false_eq_true] at k ⊢
          exact k D1 s1
    · simp only [hs, if_false, b320_60 hw, oN_add, decide_false, Bool.false_and, Bool.false_eq_true] at k ⊢
      exact k D1 s1
  · intro D1 s1
    have h1 : stN (gV G.1) (gg G.1) < stN (gV G.1) (gg G.1) + 1 := by omega
    rw [b320_21 hw]
    simp only [oN_lt (show stN (gV G.1) (gg G.1) < 2147483648 by omega) (show stN (gV G.1) (gg G.1) + 1 < 2147483648 by omega), h1, if_true]
    exact kk D1 (Ms.rf.th.tr s1.ms) (by rw [s1 286 (by decide) (by decide)]; simp [u2_at])
end CC3
