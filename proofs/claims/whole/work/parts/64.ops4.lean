/-! ===== calls that only look: (4) ===== -/
/-! loose -/
def tiedF (V : sD) (t : Nat) (x : Int32) : Int32 := if V 4 t ||| V 5 t = Int32.ofNat 0 then x else x ||| ((V 4 t ||| V 5 t) ||| jshl (Int32.ofNat 1) (Int32.ofNat t))
def looseS (S : GS) : Int32 := Int32.ofNat (2 ^ gt S - 1) &&& (fo (tiedF (gV S)) (gt S) 0 (Int32.ofNat 0) ^^^ -1)
def looF (V : sD) (t : Nat) (y : Int32) : Int32 := y &&& (((V 4 t ||| V 5 t) ^^^ -1) &&& ((if V 4 t ||| V 5 t = Int32.ofNat 0 then Int32.ofNat 0 else jshl (Int32.ofNat 1) (Int32.ofNat t)) ^^^ -1))
theorem loose_eq (S : GS) : fo (looF (gV S)) (gt S) 0 (Int32.ofNat (2 ^ gt S - 1)) = looseS S := by
  unfold looseS
  refine fo_rel (F := looF (gV S)) (G := tiedF (gV S)) (fun _ y x => y = Int32.ofNat (2 ^ gt S - 1) &&& (x ^^^ -1)) (gt S) 0 _ (Int32.ofNat 0) ?_ ?_
  · apply b_ext
    intro i hi
    rw [b_and, b_xor, b_00, b_m1 i hi]
    simp
  · intro j y x _ _ ih
    unfold looF tiedF
    rw [ih]
    by_cases h : gV S 4 j ||| gV S 5 j = Int32.ofNat 0
    · simp only [h, if_true]
      apply b_ext
      intro i hi
      simp only [b_and, b_xor, b_00, b_m1 i hi]
      simp
    · simp only [h, if_false]
      apply b_ext
      intro i hi
      simp only [b_and, b_or, b_xor, b_m1 i hi]
      generalize bt (jshl (Int32.ofNat 1) (Int32.ofNat j)) i = b1
      generalize bt x i = b2
      generalize bt (gV S 4 j) i = b3
      generalize bt (gV S 5 j) i = b4
      generalize bt (Int32.ofNat (2 ^ gt S - 1)) i = b5
      cases b1 <;> cases b2 <;> cases b3 <;> cases b4 <;> cases b5 <;> rfl
/-! twins -/
def twE (V : sD) (a b : Nat) : Bool := decide (V 6 a = V 6 b) && decide (V 7 a = V 7 b)
theorem twE_sym (V : sD) (a b : Nat) : twE V a b = twE V b a := by
  unfold twE
  have h1 : decide (V 6 a = V 6 b) = decide (V 6 b = V 6 a) := decide_eq_decide.mpr eq_comm
  have h2 : decide (V 7 a = V 7 b) = decide (V 7 b = V 7 a) := decide_eq_decide.mpr eq_comm
  rw [h1, h2]
def sumN (f : Nat → Nat) : Nat → Nat
  | 0 => 0
  | n + 1 => sumN f n + f n
def twS (V : sD) (n : Nat) : Nat := sumN (fun a => nS (fun b => twE V a b) a) n
theorem sumN_nS (f : Nat → Nat) (p : Nat → Bool) : ∀ n, sumN (fun g => f g + if p g then 1 else 0) n = sumN f n + nS p n
  | 0 => rfl
  | n + 1 => by
    show sumN (fun g => f g + if p g then 1 else 0) n + (f n + if p n then 1 else 0) = sumN f n + f n + nS p (n + 1)
    rw [sumN_nS f p n, nS_succ]
    omega
theorem sumN_congr {f g : Nat → Nat} : ∀ {n : Nat}, (∀ i, i < n → f i = g i) → sumN f n = sumN g n
  | 0, _ => rfl
  | n + 1, h => by
    show sumN f n + f n = sumN g n + g n
    rw [sumN_congr fun i hi => h i (by omega), h n (by omega)]
theorem tw_swap (V : sD) : ∀ n, sumN (fun g => nS (fun o => decide (g < o) && twE V g o) n) n = twS V n
  | 0 => rfl
  | n + 1 => by
    show sumN (fun g => nS (fun o => decide (g < o) && twE V g o) (n + 1)) n + nS (fun o => decide (n < o) && twE V n o) (n + 1) = twS V n + nS (fun b => twE V n b) n
    have h1 : nS (fun o => decide (n < o) && twE V n o) (n + 1) = 0 := nS_none _ fun i hi => by simp [show ¬ n < i by omega]
    have h2 : sumN (fun g => nS (fun o => decide (g < o) && twE V g o) (n + 1)) n = sumN (fun g => nS (fun o => decide (g < o) && twE V g o) n + if twE V n g then 1 else 0) n := sumN_congr fun g hg => by
      rw [nS_succ, twE_sym V g n]
      simp [hg]
    rw [h1, h2, sumN_nS, tw_swap V n, Nat.add_zero]
/-- a loop that begins behind a -/
theorem nS_from (p : Nat → Bool) (a : Nat) : ∀ k x, fo (fun o (x : Nat) => if p o then x + 1 else x) k (a + 1) x = x + nS (fun o => decide (a < o) && p o) (a + 1 + k)
  | 0, x => by
    show x = x + _
    rw [Nat.add_zero, nS_none (a + 1) fun i hi => by simp [show ¬ a < i by omega]]
    rfl
  | k + 1, x => by
    rw [fo_snoc, nS_from p a k x, show a + 1 + (k + 1) = (a + 1 + k) + 1 by omega, nS_succ]
    simp only [show a < a + 1 + k by omega, decide_true, Bool.true_and]
    split <;> omega
theorem sumN_fo (f : Nat → Nat) : ∀ n, fo (fun g (x : Nat) => x + f g) n 0 0 = sumN f n
  | 0 => rfl
  | n + 1 => by
    rw [fo_snoc, sumN_fo f n, Nat.zero_add]
    rfl
/-! rests -/
def manS (h c n : Int32) : Int32 := if h = Int32.ofNat 0 then (if c = Int32.ofNat 0 then n / Int32.ofNat 10 else -2) else if c = Int32.ofNat 0 then Int32.ofNat 3 else Int32.ofNat 0
def clkS (h c : Int32) : Int32 := if h = Int32.ofNat 0 then (if c = Int32.ofNat 0 then -1 else Int32.ofNat 1) else if c = Int32.ofNat 0 then -2 else Int32.ofNat 0
def restF (n : Int32) (a b : Nat) (x : Int32) : Int32 := if decide (¬ manS (Int32.ofNat a) (Int32.ofNat b) n < manS (Int32.ofNat 1 - Int32.ofNat a) (Int32.ofNat b) n) && decide (¬ clkS (Int32.ofNat a) (Int32.ofNat b) < clkS (Int32.ofNat a) (Int32.ofNat 1 - Int32.ofNat b)) then x ||| jshl (Int32.ofNat 1) (Int32.ofNat (2 * a + b)) else x
def restS (n : Int32) : Int32 := fo (fun a x => fo (restF n a) 2 0 x) 2 0 (Int32.ofNat 0)
def o_rests (G : GT) (x : Int32) : Int32 ⊕ Nat := match ixO x (gg G.1) with
  | some g => .inl (restS ((gV G.1) 10 g))
  | none => .inr 1
section C64
variable {nx : Nat} {xs : Nat → Int32} {d c s : Nat} {sh : List sC} {D : sD} {Q : av_Q}
variable {G : GT}
theorem c_loose (hv : GV G) (h : GC sh D G) (kk : Q (.inl (some (.int (looseS G.1)))) (mk sh D) c s) : Wx (tP nx xs) (d + 1) 143 0 [some (.ref 0)] [] (mk sh D) c s Q := by
  have hw := h.1.2
  have HS := h.1.1
  have H := St_state HS
  have I := hv.1
  have hV := h.2.1.1
  have hng := i_ng6 I
  have hnt := i_nt8 I
  have hnr := i_nr5 I
  have hnl := i_nl60 I
  have hx := h.L
  have hL := h.2.1.2
  simp only [b143_0 hw, xR_tape HS, xI_wrongAt HS, xF_wrongAt HS, xR_state HS, xR_image HS, xI_imageKept HS, xF_imageKept HS, xR_draft HS, xR_memory HS, xR_lawText HS, xR_worlds HS, xI_worldsFresh HS, xF_worldsFresh HS, xR_otherWorlds HS, xR_seating HS, xR_pairing HS, xI_toldSo HS, xF_toldSo HS, xI_toldNot HS, xF_toldNot HS, xO HS, sR_things H, sI_goers H, sF_goers H, sR_wish H, sR_deed H, sI_makers H, sF_makers H, sR_born H, sR_money H, sR_nerve H, sR_shuns H, sR_by H, sI_trains H, sF_trains H, sR_halts H, sR_seats H, sI_texts H, sF_texts H, sI_law H, sF_law H, sI_day H, sF_day H, sI_seed H, sF_seed H, sR_log H, sO_state H, sI_count H, sF_count H, sI_first H, sF_first H, sR_at H, sR_worth H, sR_makes H, sR_hinders H, sO_things H, sI_rows H, sF_rows H, sR_entries H, sO_log H, sA_2 H, sW_2 H, sA_3 H, sW_3 H, sA_4 H, sW_4 H, sA_5 H, sW_5 H, sA_6 H, sW_6 H, sA_7 H, sW_7 H, sA_8 H, sW_8 H, sA_9 H, sW_9 H, sA_10 H, sW_10 H, sA_11 H, sW_11 H, sA_12 H, sW_12 H, sA_13 H, sW_13 H, sA_14 H, sW_14 H, sA_16 H, sW_16 H, wi_some, or_0, or_1, bo_or, ite_boP, true_and, and_true, kN_v, kN_n, kT_v, kT_n, kT_e, Nat.add_zero, Nat.zero_add]
  simp only [b80_0 hw]
  refine up_P (W := fun i x D => ∀ l3, Wx (tP nx xs) d 80 4 [some (.ref (3 + 1)), (some (.int (x))), (some (.int (Int32.ofNat i))), l3] [] (mk sh D) 0 0 (kN (tP nx xs) (d + 1) 143 10 [some (.ref 0)] [] c s Q)) (P := fun _ _ D' => D' = D) (F := tiedF (gV G.1)) (gt G.1) ?_ (Int32.ofNat 0) D rfl ?_ none
  · intro i x D1 hi e k l3
    subst e
    have hi8 : i < 8 := by omega
    have k := k D1 rfl
    rw [b80_4 hw]
    simp only [b80_38 hw, sR_things H, sI_goers H, sF_goers H, sR_wish H, sR_deed H, sI_makers H, sF_makers H, sR_born H, sR_money H, sR_nerve H, sR_shuns H, sR_by H, sI_trains H, sF_trains H, sR_halts H, sR_seats H, sI_texts H, sF_texts H, sI_law H, sF_law H, sI_day H, sF_day H, sI_seed H, sF_seed H, sR_log H, sO_state H, sI_count H, sF_count H, sI_first H, sF_first H, sR_at H, sR_worth H, sR_makes H, sR_hinders H, sO_things H, sI_rows H, sF_rows H, sR_entries H, sO_log H, sA_2 H, sW_2 H, sA_3 H, sW_3 H, sA_4 H, sW_4 H, sA_5 H, sW_5 H, sA_6 H, sW_6 H, sA_7 H, sW_7 H, sA_8 H, sW_8 H, sA_9 H, sW_9 H, sA_10 H, sW_10 H, sA_11 H, sW_11 H, sA_12 H, sW_12 H, sA_13 H, sW_13 H, sA_14 H, sW_14 H, sA_16 H, sW_16 H, wi_some, or_0, or_1, bo_or, ite_boP, true_and, and_true, kN_v, kN_n, kT_v, kT_n, kT_e, Nat.add_zero, Nat.zero_add, v_0 hV, v_1 hV, v_2 hV, v_3 hV, v_4 hV, v_5 hV, v_6 hV, v_7 hV, v_8 hV, v_9 hV, v_10 hV, v_11 hV, v_12 hV, v_13 hV, v_14 hV, v_15 hV, v_16 hV, i_nt I, oN_lt (show i < 2147483648 by omega) (show (gt G.1) < 2147483648 by omega), hi, if_true, hi8, oN_add]
    unfold tiedF at k
    by_cases hh : (gV G.1) 4 i ||| (gV G.1) 5 i = Int32.ofNat 0
    · simp only [hh, if_true] at k ⊢; exact k _
    · simp only [hh, if_false] at k ⊢; exact k _
  · intro D1 e l3
    subst e
    rw [b80_4 hw]
    simp only [sR_things H, sI_goers H, sF_goers H, sR_wish H, sR_deed H, sI_makers H, sF_makers H, sR_born H, sR_money H, sR_nerve H, sR_shuns H, sR_by H, sI_trains H, sF_trains H, sR_halts H, sR_seats H, sI_texts H, sF_texts H, sI_law H, sF_law H, sI_day H, sF_day H, sI_seed H, sF_seed H, sR_log H, sO_state H, sI_count H, sF_count H, sI_first H, sF_first H, sR_at H, sR_worth H, sR_makes H, sR_hinders H, sO_things H, sI_rows H, sF_rows H, sR_entries H, sO_log H, sA_2 H, sW_2 H, sA_3 H, sW_3 H, sA_4 H, sW_4 H, sA_5 H, sW_5 H, sA_6 H, sW_6 H, sA_7 H, sW_7 H, sA_8 H, sW_8 H, sA_9 H, sW_9 H, sA_10 H, sW_10 H, sA_11 H, sW_11 H, sA_12 H, sW_12 H, sA_13 H, sW_13 H, sA_14 H, sW_14 H, sA_16 H, sW_16 H, wi_some, or_0, or_1, bo_or, ite_boP, true_and, and_true, kN_v, kN_n, kT_v, kT_n, kT_e, Nat.add_zero, Nat.zero_add, v_0 hV, v_1 hV, v_2 hV, v_3 hV, v_4 hV, v_5 hV, v_6 hV, v_7 hV, v_8 hV, v_9 hV, v_10 hV, v_11 hV, v_12 hV, v_13 hV, v_14 hV, v_15 hV, v_16 hV, i_nt I, oN_lt (show (gt G.1) < 2147483648 by omega) (show (gt G.1) < 2147483648 by omega), Nat.lt_irrefl, if_false, p2_7 (gt G.1) (by omega), b143_10 hw]
    exact kk
theorem m_loose (hw : WT sh) (HS : SP sh) (hv : GV G) (h : GR D G) (kk : ∀ D', Ms D D' → D' 286 0 = Int32.ofNat 0 → Q (.inl (some (.int (looseS G.1)))) (mk sh D') c s) : Wx (tP nx xs) (d + 2) 312 0 [some (.ref 286), none, none, none] [] (mk sh D) c s Q := by
  have h0 := h.ms hv (Ms.rf.th (v := Int32.ofNat 0))
  have R1 := h0.1.1
  have hnt := i_nt8 hv.1
  have w3 : 3 < 8 := by decide
  have w4 : 4 < 8 := by decide
  rw [← loose_eq] at kk
  simp only [b312_0 hw, b312_5 hw, b312_10 hw, mI_thrown HS, mF_thrown HS, mR_row HS, mR_image HS, mR_earlier HS, mR_trial HS, mR_acts HS, mI_hasImage HS, mF_hasImage HS, mI_remembered HS, mF_remembered HS, mR_tape HS, mI_taped HS, mF_taped HS, mI_point HS, mF_point HS, mI_end HS, mF_end HS, mI_begin HS, mF_begin HS, mI_deep HS, mF_deep HS, mI_faultAt HS, mF_faultAt HS, mR_five HS, mI_codes HS, mF_codes HS, mR_value HS, mI_so HS, mF_so HS, mR_lines HS, mR_chosen HS, mR_best HS, mR_members HS, mR_paired HS, mO HS, mA_287 HS, mW_287 HS, mA_288 HS, mW_288 HS, mA_289 HS, mW_289 HS, mA_290 HS, mW_290 HS, mA_291 HS, mW_291 HS, mA_292 HS, mW_292 HS, mA_293 HS, mW_293 HS, mA_294 HS, mW_294 HS, mA_295 HS, mW_295 HS, mA_296 HS, mW_296 HS, mA_297 HS, mW_297 HS, mA_298 HS, mW_298 HS, mA_299 HS, mW_299 HS, wi_some, or_0, or_1, bo_or, ite_boP, true_and, and_true, kN_v, kN_n, kT_v, kT_n, kT_e, Nat.add_zero, Nat.zero_add, k197 hw HS, r_nt R1, p2_7 (gt G.1) (by omega)]
  refine up_P (W := fun i x D => ∀ l3, Wx (tP nx xs) (d + 2) 312 16 [some (.ref 286), (some (.int (x))), (some (.int (Int32.ofNat i))), l3] [] (mk sh D) c s Q) (P := fun _ _ D' => D' = u2 D 286 0 (Int32.ofNat 0)) (F := looF (gV G.1)) (gt G.1) ?_ _ _ rfl ?_ none
  · intro i x D1 hi e k l3
    subst e
    have hi8 : i < 8 := by omega
    have k := k _ rfl
    rw [b312_16 hw]
    simp only [b312_21 hw, b312_30 hw, b312_36 hw, b312_53 hw, mI_thrown HS, mF_thrown HS, mR_row HS, mR_image HS, mR_earlier HS, mR_trial HS, mR_acts HS, mI_hasImage HS, mF_hasImage HS, mI_remembered HS, mF_remembered HS, mR_tape HS, mI_taped HS, mF_taped HS, mI_point HS, mF_point HS, mI_end HS, mF_end HS, mI_begin HS, mF_begin HS, mI_deep HS, mF_deep HS, mI_faultAt HS, mF_faultAt HS, mR_five HS, mI_codes HS, mF_codes HS, mR_value HS, mI_so HS, mF_so HS, mR_lines HS, mR_chosen HS, mR_best HS, mR_members HS, mR_paired HS, mO HS, mA_287 HS, mW_287 HS, mA_288 HS, mW_288 HS, mA_289 HS, mW_289 HS, mA_290 HS, mW_290 HS, mA_291 HS, mW_291 HS, mA_292 HS, mW_292 HS, mA_293 HS, mW_293 HS, mA_294 HS, mW_294 HS, mA_295 HS, mW_295 HS, mA_296 HS, mW_296 HS, mA_297 HS, mW_297 HS, mA_298 HS, mW_298 HS, mA_299 HS, mW_299 HS, wi_some, or_0, or_1, bo_or, ite_boP, true_and, and_true, kN_v, kN_n, kT_v, kT_n, kT_e, Nat.add_zero, Nat.zero_add, k197 hw HS, r_nt R1, oN_lt (show i < 2147483648 by omega) (show (gt G.1) < 2147483648 by omega), hi, if_true, k201 hw HS hi8 w3, k201 hw HS hi8 w4, r_makes R1 hi, r_hinders R1 hi, oN_add]
    unfold looF at k
    by_cases hh : (gV G.1) 4 i ||| (gV G.1) 5 i = Int32.ofNat 0
    · simp only [hh, if_true] at k ⊢; exact k _
    · simp only [hh, if_false] at k ⊢; exact k _
  · intro D1 e l3
    subst e
    rw [b312_16 hw]
    simp only [b312_21 hw, mI_thrown HS, mF_thrown HS, mR_row HS, mR_image HS, mR_earlier HS, mR_trial HS, mR_acts HS, mI_hasImage HS, mF_hasImage HS, mI_remembered HS, mF_remembered HS, mR_tape HS, mI_taped HS, mF_taped HS, mI_point HS, mF_point HS, mI_end HS, mF_end HS, mI_begin HS, mF_begin HS, mI_deep HS, mF_deep HS, mI_faultAt HS, mF_faultAt HS, mR_five HS, mI_codes HS, mF_codes HS, mR_value HS, mI_so HS, mF_so HS, mR_lines HS, mR_chosen HS, mR_best HS, mR_members HS, mR_paired HS, mO HS, mA_287 HS, mW_287 HS, mA_288 HS, mW_288 HS, mA_289 HS, mW_289 HS, mA_290 HS, mW_290 HS, mA_291 HS, mW_291 HS, mA_292 HS, mW_292 HS, mA_293 HS, mW_293 HS, mA_294 HS, mW_294 HS, mA_295 HS, mW_295 HS, mA_296 HS, mW_296 HS, mA_297 HS, mW_297 HS, mA_298 HS, mW_298 HS, mA_299 HS, mW_299 HS, wi_some, or_0, or_1, bo_or, ite_boP, true_and, and_true, kN_v, kN_n, kT_v, kT_n, kT_e, Nat.add_zero, Nat.zero_add, k197 hw HS, r_nt R1, oN_lt (show (gt G.1) < 2147483648 by omega) (show (gt G.1) < 2147483648 by omega), Nat.lt_irrefl, if_false]
    exact kk _ Ms.rf.th (by simp [u2_at])
theorem c_twins (hv : GV G) (h : GC sh D G) (kk : Q (.inl (some (.int (Int32.ofNat (twS (gV G.1) (gg G.1)))))) (mk sh D) c s) : Wx (tP nx xs) d 165 0 [some (.ref 0), none, none, none] [] (mk sh D) c s Q := by
  have hw := h.1.2
  have HS := h.1.1
  have H := St_state HS
  have I := hv.1
  have hV := h.2.1.1
  have hng := i_ng6 I
  have hnt := i_nt8 I
  have hnr := i_nr5 I
  have hnl := i_nl60 I
  have hx := h.L
  have hL := h.2.1.2
  rw [← tw_swap, ← sumN_fo] at kk
  simp only [b165_0 hw]
  refine up_P (W := fun i (x : Nat) D => ∀ l3, Wx (tP nx xs) d 165 4 [some (.ref 0), (some (.int (Int32.ofNat x))), (some (.int (Int32.ofNat i))), l3] [] (mk sh D) c s Q) (P := fun _ _ D' => D' = D) (F := fun g (x : Nat) => x + nS (fun o => decide (g < o) && twE (gV G.1) g o) (gg G.1)) (gg G.1) ?_ 0 D rfl ?_ none
  · intro i x D1 hi e k l3
    subst e
    have hi6 : i < 6 := by omega
    have k := k D1 rfl
    rw [b165_4 hw]
    simp only [xR_tape HS, xI_wrongAt HS, xF_wrongAt HS, xR_state HS, xR_image HS, xI_imageKept HS, xF_imageKept HS, xR_draft HS, xR_memory HS, xR_lawText HS, xR_worlds HS, xI_worldsFresh HS, xF_worldsFresh HS, xR_otherWorlds HS, xR_seating HS, xR_pairing HS, xI_toldSo HS, xF_toldSo HS, xI_toldNot HS, xF_toldNot HS, xO HS, sR_things H, sI_goers H, sF_goers H, sR_wish H, sR_deed H, sI_makers H, sF_makers H, sR_born H, sR_money H, sR_nerve H, sR_shuns H, sR_by H, sI_trains H, sF_trains H, sR_halts H, sR_seats H, sI_texts H, sF_texts H, sI_law H, sF_law H, sI_day H, sF_day H, sI_seed H, sF_seed H, sR_log H, sO_state H, sI_count H, sF_count H, sI_first H, sF_first H, sR_at H, sR_worth H, sR_makes H, sR_hinders H, sO_things H, sI_rows H, sF_rows H, sR_entries H, sO_log H, sA_2 H, sW_2 H, sA_3 H, sW_3 H, sA_4 H, sW_4 H, sA_5 H, sW_5 H, sA_6 H, sW_6 H, sA_7 H, sW_7 H, sA_8 H, sW_8 H, sA_9 H, sW_9 H, sA_10 H, sW_10 H, sA_11 H, sW_11 H, sA_12 H, sW_12 H, sA_13 H, sW_13 H, sA_14 H, sW_14 H, sA_16 H, sW_16 H, wi_some, or_0, or_1, bo_or, ite_boP, true_and, and_true, kN_v, kN_n, kT_v, kT_n, kT_e, Nat.add_zero, Nat.zero_add, v_0 hV, v_1 hV, v_2 hV, v_3 hV, v_4 hV, v_5 hV, v_6 hV, v_7 hV, v_8 hV, v_9 hV, v_10 hV, v_11 hV, v_12 hV, v_13 hV, v_14 hV, v_15 hV, v_16 hV, i_ng I, oN_lt (show i < 2147483648 by omega) (show (gg G.1) < 2147483648 by omega), hi, if_true, oN_add]
    have e := (up_loopA (W := fun o (y : Nat) => Wx (tP nx xs) d 165 19 [some (.ref 0), (some (.int (Int32.ofNat y))), (some (.int (Int32.ofNat i))), (some (.int (Int32.ofNat o)))] [] (mk sh D1) c s Q) (F := fun o (y : Nat) => if twE (gV G.1) i o then y + 1 else y) (i + 1) ((gg G.1) - (i + 1)) (fun o y h1 h2 => by
      have ho : o < (gg G.1) := by omega
      have ho6 : o < 6 := by omega
      rw [b165_19 hw]
      simp only [b165_75 hw, xR_tape HS, xI_wrongAt HS, xF_wrongAt HS, xR_state HS, xR_image HS, xI_imageKept HS, xF_imageKept HS, xR_draft HS, xR_memory HS, xR_lawText HS, xR_worlds HS, xI_worldsFresh HS, xF_worldsFresh HS, xR_otherWorlds HS, xR_seating HS, xR_pairing HS, xI_toldSo HS, xF_toldSo HS, xI_toldNot HS, xF_toldNot HS, xO HS, sR_things H, sI_goers H, sF_goers H, sR_wish H, sR_deed H, sI_makers H, sF_makers H, sR_born H, sR_money H, sR_nerve H, sR_shuns H, sR_by H, sI_trains H, sF_trains H, sR_halts H, sR_seats H, sI_texts H, sF_texts H, sI_law H, sF_law H, sI_day H, sF_day H, sI_seed H, sF_seed H, sR_log H, sO_state H, sI_count H, sF_count H, sI_first H, sF_first H, sR_at H, sR_worth H, sR_makes H, sR_hinders H, sO_things H, sI_rows H, sF_rows H, sR_entries H, sO_log H, sA_2 H, sW_2 H, sA_3 H, sW_3 H, sA_4 H, sW_4 H, sA_5 H, sW_5 H, sA_6 H, sW_6 H, sA_7 H, sW_7 H, sA_8 H, sW_8 H, sA_9 H, sW_9 H, sA_10 H, sW_10 H, sA_11 H, sW_11 H, sA_12 H, sW_12 H, sA_13 H, sW_13 H, sA_14 H, sW_14 H, sA_16 H, sW_16 H, wi_some, or_0, or_1, bo_or, ite_boP, true_and, and_true, kN_v, kN_n, kT_v, kT_n, kT_e, Nat.add_zero, Nat.zero_add, v_0 hV, v_1 hV, v_2 hV, v_3 hV, v_4 hV, v_5 hV, v_6 hV, v_7 hV, v_8 hV, v_9 hV, v_10 hV, v_11 hV, v_12 hV, v_13 hV, v_14 hV, v_15 hV, v_16 hV, i_ng I, oN_lt (show o < 2147483648 by omega) (show (gg G.1) < 2147483648 by omega), ho, if_true, hi6, ho6, oN_add]
      unfold twE
      by_cases a1 : (gV G.1) 6 i = (gV G.1) 6 o
      · by_cases a2 : (gV G.1) 7 i = (gV G.1) 7 o
        · simp only [a1, a2, if_true, decide_true, Bool.and_self]
        · simp only [a1, a2, if_true, if_false, decide_true, decide_false, Bool.and_false, Bool.false_eq_true]
      · simp only [a1, if_false, decide_false, Bool.false_and, Bool.false_eq_true]) x)
    rw [e, nS_from, b165_19 hw]
    rw [show i + 1 + ((gg G.1) - (i + 1)) = (gg G.1) by omega]
    simp only [xR_tape HS, xI_wrongAt HS, xF_wrongAt HS, xR_state HS, xR_image HS, xI_imageKept HS, xF_imageKept HS, xR_draft HS, xR_memory HS, xR_lawText HS, xR_worlds HS, xI_worldsFresh HS, xF_worldsFresh HS, xR_otherWorlds HS, xR_seating HS, xR_pairing HS, xI_toldSo HS, xF_toldSo HS, xI_toldNot HS, xF_toldNot HS, xO HS, sR_things H, sI_goers H, sF_goers H, sR_wish H, sR_deed H, sI_makers H, sF_makers H, sR_born H, sR_money H, sR_nerve H, sR_shuns H, sR_by H, sI_trains H, sF_trains H, sR_halts H, sR_seats H, sI_texts H, sF_texts H, sI_law H, sF_law H, sI_day H, sF_day H, sI_seed H, sF_seed H, sR_log H, sO_state H, sI_count H, sF_count H, sI_first H, sF_first H, sR_at H, sR_worth H, sR_makes H, sR_hinders H, sO_things H, sI_rows H, sF_rows H, sR_entries H, sO_log H, sA_2 H, sW_2 H, sA_3 H, sW_3 H, sA_4 H, sW_4 H, sA_5 H, sW_5 H, sA_6 H, sW_6 H, sA_7 H, sW_7 H, sA_8 H, sW_8 H, sA_9 H, sW_9 H, sA_10 H, sW_10 H, sA_11 H, sW_11 H, sA_12 H, sW_12 H, sA_13 H, sW_13 H, sA_14 H, sW_14 H, sA_16 H, sW_16 H, wi_some, or_0, or_1, bo_or, ite_boP, true_and, and_true, kN_v, kN_n, kT_v, kT_n, kT_e, Nat.add_zero, Nat.zero_add, v_0 hV, v_1 hV, v_2 hV, v_3 hV, v_4 hV, v_5 hV, v_6 hV, v_7 hV, v_8 hV, v_9 hV, v_10 hV, v_11 hV, v_12 hV, v_13 hV, v_14 hV, v_15 hV, v_16 hV, i_ng I, oN_lt (show (gg G.1) < 2147483648 by omega) (show (gg G.1) < 2147483648 by omega), Nat.lt_irrefl, if_false, oN_add]
    exact k _
  · intro D1 e l3
    subst e
    rw [b165_4 hw]
    simp only [xR_tape HS, xI_wrongAt HS, xF_wrongAt HS, xR_state HS, xR_image HS, xI_imageKept HS, xF_imageKept HS, xR_draft HS, xR_memory HS, xR_lawText HS, xR_worlds HS, xI_worldsFresh HS, xF_worldsFresh HS, xR_otherWorlds HS, xR_seating HS, xR_pairing HS, xI_toldSo HS, xF_toldSo HS, xI_toldNot HS, xF_toldNot HS, xO HS, sR_things H, sI_goers H, sF_goers H, sR_wish H, sR_deed H, sI_makers H, sF_makers H, sR_born H, sR_money H, sR_nerve H, sR_shuns H, sR_by H, sI_trains H, sF_trains H, sR_halts H, sR_seats H, sI_texts H, sF_texts H, sI_law H, sF_law H, sI_day H, sF_day H, sI_seed H, sF_seed H, sR_log H, sO_state H, sI_count H, sF_count H, sI_first H, sF_first H, sR_at H, sR_worth H, sR_makes H, sR_hinders H, sO_things H, sI_rows H, sF_rows H, sR_entries H, sO_log H, sA_2 H, sW_2 H, sA_3 H, sW_3 H, sA_4 H, sW_4 H, sA_5 H, sW_5 H, sA_6 H, sW_6 H, sA_7 H, sW_7 H, sA_8 H, sW_8 H, sA_9 H, sW_9 H, sA_10 H, sW_10 H, sA_11 H, sW_11 H, sA_12 H, sW_12 H, sA_13 H, sW_13 H, sA_14 H, sW_14 H, sA_16 H, sW_16 H, wi_some, or_0, or_1, bo_or, ite_boP, true_and, and_true, kN_v, kN_n, kT_v, kT_n, kT_e, Nat.add_zero, Nat.zero_add, v_0 hV, v_1 hV, v_2 hV, v_3 hV, v_4 hV, v_5 hV, v_6 hV, v_7 hV, v_8 hV, v_9 hV, v_10 hV, v_11 hV, v_12 hV, v_13 hV, v_14 hV, v_15 hV, v_16 hV, i_ng I, oN_lt (show (gg G.1) < 2147483648 by omega) (show (gg G.1) < 2147483648 by omega), Nat.lt_irrefl, if_false]
    exact kk
theorem m_twins (hw : WT sh) (HS : SP sh) (hv : GV G) (h : GR D G) (kk : ∀ D', Ms D D' → D' 286 0 = Int32.ofNat 0 → Q (.inl (some (.int (Int32.ofNat (twS (gV G.1) (gg G.1)))))) (mk sh D') c s) : Wx (tP nx xs) (d + 2) 343 0 [some (.ref 286), none, none, none] [] (mk sh D) c s Q := by
  have h0 := h.ms hv (Ms.rf.th (v := Int32.ofNat 0))
  have R1 := h0.1.1
  have hng := i_ng6 hv.1
  have v0 : 0 < 11 := by decide
  have v1 : 1 < 11 := by decide
  unfold twS at kk
  rw [← sumN_fo] at kk
  simp only [b343_0 hw, b343_5 hw, mI_thrown HS, mF_thrown HS, mR_row HS, mR_image HS, mR_earlier HS, mR_trial HS, mR_acts HS, mI_hasImage HS, mF_hasImage HS, mI_remembered HS, mF_remembered HS, mR_tape HS, mI_taped HS, mF_taped HS, mI_point HS, mF_point HS, mI_end HS, mF_end HS, mI_begin HS, mF_begin HS, mI_deep HS, mF_deep HS, mI_faultAt HS, mF_faultAt HS, mR_five HS, mI_codes HS, mF_codes HS, mR_value HS, mI_so HS, mF_so HS, mR_lines HS, mR_chosen HS, mR_best HS, mR_members HS, mR_paired HS, mO HS, mA_287 HS, mW_287 HS, mA_288 HS, mW_288 HS, mA_289 HS, mW_289 HS, mA_290 HS, mW_290 HS, mA_291 HS, mW_291 HS, mA_292 HS, mW_292 HS, mA_293 HS, mW_293 HS, mA_294 HS, mW_294 HS, mA_295 HS, mW_295 HS, mA_296 HS, mW_296 HS, mA_297 HS, mW_297 HS, mA_298 HS, mW_298 HS, mA_299 HS, mW_299 HS, wi_some, or_0, or_1, bo_or, ite_boP, true_and, and_true, kN_v, kN_n, kT_v, kT_n, kT_e, Nat.add_zero, Nat.zero_add]
  refine up_P (W := fun i (x : Nat) D => ∀ l3, Wx (tP nx xs) (d + 2) 343 9 [some (.ref 286), (some (.int (Int32.ofNat x))), (some (.int (Int32.ofNat i))), l3] [] (mk sh D) c s Q) (P := fun _ _ D' => D' = u2 D 286 0 (Int32.ofNat 0)) (F := fun a (x : Nat) => x + nS (fun b => twE (gV G.1) a b) a) (gg G.1) ?_ 0 _ rfl ?_ none
  · intro i x D1 hi e k l3
    subst e
    have hi6 : i < 6 := by omega
    have k := k _ rfl
    rw [b343_9 hw]
    simp only [b343_14 hw, mI_thrown HS, mF_thrown HS, mR_row HS, mR_image HS, mR_earlier HS, mR_trial HS, mR_acts HS, mI_hasImage HS, mF_hasImage HS, mI_remembered HS, mF_remembered HS, mR_tape HS, mI_taped HS, mF_taped HS, mI_point HS, mF_point HS, mI_end HS, mF_end HS, mI_begin HS, mF_begin HS, mI_deep HS, mF_deep HS, mI_faultAt HS, mF_faultAt HS, mR_five HS, mI_codes HS, mF_codes HS, mR_value HS, mI_so HS, mF_so HS, mR_lines HS, mR_chosen HS, mR_best HS, mR_members HS, mR_paired HS, mO HS, mA_287 HS, mW_287 HS, mA_288 HS, mW_288 HS, mA_289 HS, mW_289 HS, mA_290 HS, mW_290 HS, mA_291 HS, mW_291 HS, mA_292 HS, mW_292 HS, mA_293 HS, mW_293 HS, mA_294 HS, mW_294 HS, mA_295 HS, mW_295 HS, mA_296 HS, mW_296 HS, mA_297 HS, mW_297 HS, mA_298 HS, mW_298 HS, mA_299 HS, mW_299 HS, wi_some, or_0, or_1, bo_or, ite_boP, true_and, and_true, kN_v, kN_n, kT_v, kT_n, kT_e, Nat.add_zero, Nat.zero_add, k198 hw HS, r_ng R1, oN_lt (show i < 2147483648 by omega) (show (gg G.1) < 2147483648 by omega), hi, if_true]
    have e := (up_loop (W := fun o (y : Nat) => Wx (tP nx xs) (d + 2) 343 19 [some (.ref 286), (some (.int (Int32.ofNat y))), (some (.int (Int32.ofNat i))), (some (.int (Int32.ofNat o)))] [] (mk sh (u2 D 286 0 (Int32.ofNat 0))) c s Q) (F := fun o (y : Nat) => if twE (gV G.1) i o then y + 1 else y) i (fun o y h1 => by
      have ho : o < (gg G.1) := by omega
      have ho6 : o < 6 := by omega
      rw [b343_19 hw]
      simp only [b343_31 hw, b343_37 hw, b343_46 hw, b343_52 hw, b343_59 hw, b343_60 hw, mI_thrown HS, mF_thrown HS, mR_row HS, mR_image HS, mR_earlier HS, mR_trial HS, mR_acts HS, mI_hasImage HS, mF_hasImage HS, mI_remembered HS, mF_remembered HS, mR_tape HS, mI_taped HS, mF_taped HS, mI_point HS, mF_point HS, mI_end HS, mF_end HS, mI_begin HS, mF_begin HS, mI_deep HS, mF_deep HS, mI_faultAt HS, mF_faultAt HS, mR_five HS, mI_codes HS, mF_codes HS, mR_value HS, mI_so HS, mF_so HS, mR_lines HS, mR_chosen HS, mR_best HS, mR_members HS, mR_paired HS, mO HS, mA_287 HS, mW_287 HS, mA_288 HS, mW_288 HS, mA_289 HS, mW_289 HS, mA_290 HS, mW_290 HS, mA_291 HS, mW_291 HS, mA_292 HS, mW_292 HS, mA_293 HS, mW_293 HS, mA_294 HS, mW_294 HS, mA_295 HS, mW_295 HS, mA_296 HS, mW_296 HS, mA_297 HS, mW_297 HS, mA_298 HS, mW_298 HS, mA_299 HS, mW_299 HS, wi_some, or_0, or_1, bo_or, ite_boP, true_and, and_true, kN_v, kN_n, kT_v, kT_n, kT_e, Nat.add_zero, Nat.zero_add, oN_lt (show o < 2147483648 by omega) (show i < 2147483648 by omega), h1, if_true, k203 hw HS hi6 v0, k203 hw HS ho6 v0, k203 hw HS hi6 v1, k203 hw HS ho6 v1, r_wish0 R1 hi, r_wish0 R1 ho, r_deed R1 hi, r_deed R1 ho, oN_add, Nat.add_zero]
      unfold twE
      by_cases a1 : (gV G.1) 6 i = (gV G.1) 6 o
      · by_cases a2 : (gV G.1) 7 i = (gV G.1) 7 o
        · simp only [a1, a2, if_true, decide_true, Bool.and_self]
        · simp only [a1, a2, if_true, if_false, decide_true, decide_false, Bool.and_false, Bool.false_eq_true]
      · simp only [a1, if_false, decide_false, Bool.false_and, Bool.false_eq_true]) x)
    have e2 : ∀ n y, fo (fun o (y : Nat) => if twE (gV G.1) i o then y + 1 else y) n 0 y = y + nS (fun b => twE (gV G.1) i b) n := by
      intro n y
      induction n with
      | zero => rfl
      | succ n ih =>
        rw [fo_snoc, ih, nS_succ, Nat.zero_add]
        split <;> omega
    rw [e, e2, b343_19 hw]
    simp only [oN_lt (show i < 2147483648 by omega) (show i < 2147483648 by omega), Nat.lt_irrefl, if_false, oN_add]
    exact k _
  · intro D1 e l3
    subst e
    rw [b343_9 hw]
    simp only [b343_14 hw, mI_thrown HS, mF_thrown HS, mR_row HS, mR_image HS, mR_earlier HS, mR_trial HS, mR_acts HS, mI_hasImage HS, mF_hasImage HS, mI_remembered HS, mF_remembered HS, mR_tape HS, mI_taped HS, mF_taped HS, mI_point HS, mF_point HS, mI_end HS, mF_end HS, mI_begin HS, mF_begin HS, mI_deep HS, mF_deep HS, mI_faultAt HS, mF_faultAt HS, mR_five HS, mI_codes HS, mF_codes HS, mR_value HS, mI_so HS, mF_so HS, mR_lines HS, mR_chosen HS, mR_best HS, mR_members HS, mR_paired HS, mO HS, mA_287 HS, mW_287 HS, mA_288 HS, mW_288 HS, mA_289 HS, mW_289 HS, mA_290 HS, mW_290 HS, mA_291 HS, mW_291 HS, mA_292 HS, mW_292 HS, mA_293 HS, mW_293 HS, mA_294 HS, mW_294 HS, mA_295 HS, mW_295 HS, mA_296 HS, mW_296 HS, mA_297 HS, mW_297 HS, mA_298 HS, mW_298 HS, mA_299 HS, mW_299 HS, wi_some, or_0, or_1, bo_or, ite_boP, true_and, and_true, kN_v, kN_n, kT_v, kT_n, kT_e, Nat.add_zero, Nat.zero_add, k198 hw HS, r_ng R1, oN_lt (show (gg G.1) < 2147483648 by omega) (show (gg G.1) < 2147483648 by omega), Nat.lt_irrefl, if_false]
    exact kk _ Ms.rf.th (by simp [u2_at])
/-! rests -/
theorem k159 {a b n : Int32} (hw : WT sh) : Wx (tP nx xs) d 159 0 [(some (.int (a))), (some (.int (b))), (some (.int (n)))] [] (mk sh D) c s Q = Q (.inl (some (.int (manS a b n)))) (mk sh D) c s := by
  simp only [b159_0 hw, b159_17 hw, b159_27 hw, manS]
  by_cases h1 : a = Int32.ofNat 0 <;> by_cases h2 : b = Int32.ofNat 0 <;> simp only [h1, h2, if_true, if_false]
theorem k160 {a b : Int32} (hw : WT sh) : Wx (tP nx xs) d 160 0 [(some (.int (a))), (some (.int (b)))] [] (mk sh D) c s Q = Q (.inl (some (.int (clkS a b)))) (mk sh D) c s := by
  simp only [b160_0 hw, b160_13 hw, b160_24 hw, clkS]
  by_cases h1 : a = Int32.ofNat 0 <;> by_cases h2 : b = Int32.ofNat 0 <;> simp only [h1, h2, if_true, if_false]
theorem k337 {a b : Int32} (hw : WT sh) : Wx (tP nx xs) d 337 0 [(some (.int (a))), (some (.int (b)))] [] (mk sh D) c s Q = Q (.inl (some (.int (clkS a b)))) (mk sh D) c s := by
  simp only [b337_0 hw, b337_13 hw, b337_24 hw, clkS]
  by_cases h1 : a = Int32.ofNat 0 <;> by_cases h2 : b = Int32.ofNat 0 <;> simp only [h1, h2, if_true, if_false]
theorem k336 {g : Nat} {a b : Int32} (hw : WT sh) (HS : SP sh) (hv : GV G) (h : GR D G) (hg : g < (gg G.1)) : Wx (tP nx xs) (d + 2) 336 0 [some (.ref 286), (some (.int (Int32.ofNat g))), (some (.int (a))), (some (.int (b)))] [] (mk sh D) c s Q = Q (.inl (some (.int (manS a b ((gV G.1) 10 g))))) (mk sh D) c s := by
  have hng := i_ng6 hv.1
  have hg6 : g < 6 := by omega
  have v5 : 5 < 11 := by decide
  simp only [b336_0 hw, b336_14 hw, b336_22 hw, b336_32 hw, mI_thrown HS, mF_thrown HS, mR_row HS, mR_image HS, mR_earlier HS, mR_trial HS, mR_acts HS, mI_hasImage HS, mF_hasImage HS, mI_remembered HS, mF_remembered HS, mR_tape HS, mI_taped HS, mF_taped HS, mI_point HS, mF_point HS, mI_end HS, mF_end HS, mI_begin HS, mF_begin HS, mI_deep HS, mF_deep HS, mI_faultAt HS, mF_faultAt HS, mR_five HS, mI_codes HS, mF_codes HS, mR_value HS, mI_so HS, mF_so HS, mR_lines HS, mR_chosen HS, mR_best HS, mR_members HS, mR_paired HS, mO HS, mA_287 HS, mW_287 HS, mA_288 HS, mW_288 HS, mA_289 HS, mW_289 HS, mA_290 HS, mW_290 HS, mA_291 HS, mW_291 HS, mA_292 HS, mW_292 HS, mA_293 HS, mW_293 HS, mA_294 HS, mW_294 HS, mA_295 HS, mW_295 HS, mA_296 HS, mW_296 HS, mA_297 HS, mW_297 HS, mA_298 HS, mW_298 HS, mA_299 HS, mW_299 HS, wi_some, or_0, or_1, bo_or, ite_boP, true_and, and_true, kN_v, kN_n, kT_v, kT_n, kT_e, Nat.add_zero, Nat.zero_add, k203 hw HS hg6 v5, r_nerve h.1.1 hg, manS]
  by_cases h1 : a = Int32.ofNat 0 <;> by_cases h2 : b = Int32.ofNat 0 <;> simp only [h1, h2, if_true, if_false]
theorem c_rests {x : Int32} (hv : GV G) (h : GC sh D G) (kk : ∀ D', GC sh D' G → Fc D D' → Q (oQ (fun _ => xIO) (o_rests G x)) (mk sh D') (c + o1 (o_rests G x)) (s + 6 * o1 (o_rests G x))) : Wx (tP nx xs) (d + 1) 158 0 [some (.ref 0), (some (.int (x))), none, none, none, none, none, none] [] (mk sh D) c s Q := by
  have hw := h.1.2
  have HS := h.1.1
  have H := St_state HS
  have I := hv.1
  have hV := h.2.1.1
  have hng := i_ng6 I
  have hnt := i_nt8 I
  have hnr := i_nr5 I
  have hnl := i_nl60 I
  have hx := h.L
  have hL := h.2.1.2
  unfold o_rests at kk
  simp only [b158_0 hw, xR_tape HS, xI_wrongAt HS, xF_wrongAt HS, xR_state HS, xR_image HS, xI_imageKept HS, xF_imageKept HS, xR_draft HS, xR_memory HS, xR_lawText HS, xR_worlds HS, xI_worldsFresh HS, xF_worldsFresh HS, xR_otherWorlds HS, xR_seating HS, xR_pairing HS, xI_toldSo HS, xF_toldSo HS, xI_toldNot HS, xF_toldNot HS, xO HS, wi_some, or_0, or_1, bo_or, ite_boP, true_and, and_true, kN_v, kN_n, kT_v, kT_n, kT_e, Nat.add_zero, Nat.zero_add, k181 hv h]
  cases hi : ixO x (gg G.1) with
  | none => simp only [hi, oQ, o1, wi_some, or_0, or_1, bo_or, ite_boP, true_and, and_true, kN_v, kN_n, kT_v, kT_n, kT_e, Nat.add_zero, Nat.zero_add] at kk ⊢; exact kk D h Fc.rf
  | some g =>
    obtain ⟨hg, rfl⟩ := ixO_some (by omega) hi
    have hg6 : g < 6 := by omega
    simp only [hi, oQ, o1, wi_some, or_0, or_1, bo_or, ite_boP, true_and, and_true, kN_v, kN_n, kT_v, kT_n, kT_e, Nat.add_zero, Nat.zero_add, Nat.mul_zero, b158_5 hw, xR_tape HS, xI_wrongAt HS, xF_wrongAt HS, xR_state HS, xR_image HS, xI_imageKept HS, xF_imageKept HS, xR_draft HS, xR_memory HS, xR_lawText HS, xR_worlds HS, xI_worldsFresh HS, xF_worldsFresh HS, xR_otherWorlds HS, xR_seating HS, xR_pairing HS, xI_toldSo HS, xF_toldSo HS, xI_toldNot HS, xF_toldNot HS, xO HS, sR_things H, sI_goers H, sF_goers H, sR_wish H, sR_deed H, sI_makers H, sF_makers H, sR_born H, sR_money H, sR_nerve H, sR_shuns H, sR_by H, sI_trains H, sF_trains H, sR_halts H, sR_seats H, sI_texts H, sF_texts H, sI_law H, sF_law H, sI_day H, sF_day H, sI_seed H, sF_seed H, sR_log H, sO_state H, sI_count H, sF_count H, sI_first H, sF_first H, sR_at H, sR_worth H, sR_makes H, sR_hinders H, sO_things H, sI_rows H, sF_rows H, sR_entries H, sO_log H, sA_2 H, sW_2 H, sA_3 H, sW_3 H, sA_4 H, sW_4 H, sA_5 H, sW_5 H, sA_6 H, sW_6 H, sA_7 H, sW_7 H, sA_8 H, sW_8 H, sA_9 H, sW_9 H, sA_10 H, sW_10 H, sA_11 H, sW_11 H, sA_12 H, sW_12 H, sA_13 H, sW_13 H, sA_14 H, sW_14 H, sA_16 H, sW_16 H, hg6, v_0 hV, v_1 hV, v_2 hV, v_3 hV, v_4 hV, v_5 hV, v_6 hV, v_7 hV, v_8 hV, v_9 hV, v_10 hV, v_11 hV, v_12 hV, v_13 hV, v_14 hV, v_15 hV, v_16 hV] at kk ⊢
    generalize (gV G.1) 10 g = n at *
    refine up_P (W := fun a y D => ∀ l5 l6 l7, Wx (tP nx xs) (d + 1) 158 20 [some (.ref 0), (some (.int (Int32.ofNat g))), (some (.int (n))), (some (.int (y))), (some (.int (Int32.ofNat a))), l5, l6, l7] [] (mk sh D) c s Q) (P := fun _ _ D' => D' = D) (F := fun a y => fo (restF n a) 2 0 y) 2 ?_ (Int32.ofNat 0) D rfl ?_ none none none
    · intro a y D1 ha e k l5 l6 l7
      subst e
      have k := k D1 rfl
      rw [b158_20 hw]
      simp only [oN_lt (show a < 2147483648 by omega) (show 2 < 2147483648 by omega), ha, if_true]
      refine up_P (W := fun b y D => ∀ l6 l7, Wx (tP nx xs) (d + 1) 158 29 [some (.ref 0), (some (.int (Int32.ofNat g))), (some (.int (n))), (some (.int (y))), (some (.int (Int32.ofNat a))), (some (.int (Int32.ofNat b))), l6, l7] [] (mk sh D) c s Q) (P := fun _ _ D' => D' = D1) (F := restF n a) 2 ?_ y D1 rfl ?_ l6 l7
      · intro b y D2 hb e k2 l6 l7
        subst e
        have k2 := k2 D2 rfl
        rw [b158_29 hw]
        simp only [b158_45 hw, b158_53 hw, b158_61 hw, b158_72 hw, b158_79 hw, b158_87 hw, b158_111 hw, oN_lt (show b < 2147483648 by omega) (show 2 < 2147483648 by omega), hb, if_true, k159 hw, k160 hw, wi_some, or_0, or_1, bo_or, ite_boP, true_and, and_true, kN_v, kN_n, kT_v, kT_n, kT_e, Nat.add_zero, Nat.zero_add, oN_add, oN_mul]
        unfold restF at k2
        by_cases h1 : manS (Int32.ofNat a) (Int32.ofNat b) n < manS (Int32.ofNat 1 - Int32.ofNat a) (Int32.ofNat b) n
        · by_cases h2 : clkS (Int32.ofNat a) (Int32.ofNat b) < clkS (Int32.ofNat a) (Int32.ofNat 1 - Int32.ofNat b)
          · simp only [h1, h2, if_true, not_true_eq_false, decide_false, Bool.false_and, Bool.false_eq_true, if_false] at k2 ⊢; exact k2 _ _
          · simp only [h1, h2, if_true, not_true_eq_false, decide_false, Bool.false_and, Bool.false_eq_true, if_false] at k2 ⊢; exact k2 _ _
        · by_cases h2 : clkS (Int32.ofNat a) (Int32.ofNat b) < clkS (Int32.ofNat a) (Int32.ofNat 1 - Int32.ofNat b)
          · simp only [h1, h2, if_true, if_false, not_true_eq_false, decide_false, Bool.and_false, Bool.false_eq_true, show ¬ (Int32.ofNat 1 : Int32) = Int32.ofNat 0 by decide] at k2 ⊢; exact k2 _ _
          · simp only [h1, h2, if_true, if_false, not_false_eq_true, decide_true, Bool.and_self, show ¬ (Int32.ofNat 1 : Int32) = Int32.ofNat 0 by decide] at k2 ⊢; exact k2 _ _
      · intro D2 e l6 l7
        subst e
        rw [b158_29 hw]
        simp only [oN_lt (show 2 < 2147483648 by omega) (show 2 < 2147483648 by omega), Nat.lt_irrefl, if_false, oN_add]
        exact k _ _ _
    · intro D1 e l5 l6 l7
      subst e
      rw [b158_20 hw]
      simp only [oN_lt (show 2 < 2147483648 by omega) (show 2 < 2147483648 by omega), Nat.lt_irrefl, if_false]
      exact kk D1 h Fc.rf
theorem m_rests {x : Int32} (hw : WT sh) (HS : SP sh) (hv : GV G) (h : GR D G) (kk : ∀ D', Ms D D' → D' 286 0 = Int32.ofNat (th (o_rests G x)) → Q (.inl (some (.int (rv (o_rests G x))))) (mk sh D') c s) : Wx (tP nx xs) (d + 3) 338 0 [some (.ref 286), (some (.int (x))), none, none, none] [] (mk sh D) c s Q := by
  have h1 := h.ms hv (Ms.rf.th (v := Int32.ofNat 0))
  have hng := i_ng6 hv.1
  unfold o_rests at kk
  simp only [b338_0 hw, b338_5 hw, b338_11 hw, mI_thrown HS, mF_thrown HS, mR_row HS, mR_image HS, mR_earlier HS, mR_trial HS, mR_acts HS, mI_hasImage HS, mF_hasImage HS, mI_remembered HS, mF_remembered HS, mR_tape HS, mI_taped HS, mF_taped HS, mI_point HS, mF_point HS, mI_end HS, mF_end HS, mI_begin HS, mF_begin HS, mI_deep HS, mF_deep HS, mI_faultAt HS, mF_faultAt HS, mR_five HS, mI_codes HS, mF_codes HS, mR_value HS, mI_so HS, mF_so HS, mR_lines HS, mR_chosen HS, mR_best HS, mR_members HS, mR_paired HS, mO HS, mA_287 HS, mW_287 HS, mA_288 HS, mW_288 HS, mA_289 HS, mW_289 HS, mA_290 HS, mW_290 HS, mA_291 HS, mW_291 HS, mA_292 HS, mW_292 HS, mA_293 HS, mW_293 HS, mA_294 HS, mW_294 HS, mA_295 HS, mW_295 HS, mA_296 HS, mW_296 HS, mA_297 HS, mW_297 HS, mA_298 HS, mW_298 HS, mA_299 HS, mW_299 HS, wi_some, or_0, or_1, bo_or, ite_boP, true_and, and_true, kN_v, kN_n, kT_v, kT_n, kT_e, Nat.add_zero, Nat.zero_add, k211 hw HS hv h1, k187 hw HS, b338_15 hw]
  cases hi : ixO x (gg G.1) with
  | none =>
    simp only [hi, Option.isNone_none, if_true, th, rv] at kk ⊢
    exact kk _ Ms.rf.th.th (by simp [u2_at])
  | some g =>
    obtain ⟨hg, rfl⟩ := ixO_some (by omega) hi
    simp only [hi, Option.isNone_some, Bool.false_eq_true, if_false, th, rv] at kk ⊢
    have K336 := fun a b (Q : av_Q) => k336 (nx := nx) (xs := xs) (d := d) (c := 0) (s := 0) (Q := Q) (a := a) (b := b) hw HS hv h1 hg
    generalize (gV G.1) 10 g = n at *
    refine up_P (W := fun a y D => ∀ l4, Wx (tP nx xs) (d + 3) 338 24 [some (.ref 286), (some (.int (Int32.ofNat g))), (some (.int (y))), (some (.int (Int32.ofNat a))), l4] [] (mk sh D) c s Q) (P := fun _ _ D' => D' = u2 D 286 0 (Int32.ofNat 0)) (F := fun a y => fo (restF n a) 2 0 y) 2 ?_ (Int32.ofNat 0) _ rfl ?_ none
    · intro a y D1 ha e k l4
      subst e
      have k := k _ rfl
      rw [b338_24 hw]
      simp only [oN_lt (show a < 2147483648 by omega) (show 2 < 2147483648 by omega), ha, if_true]
      refine up_P (W := fun b y D => Wx (tP nx xs) (d + 3) 338 32 [some (.ref 286), (some (.int (Int32.ofNat g))), (some (.int (y))), (some (.int (Int32.ofNat a))), (some (.int (Int32.ofNat b)))] [] (mk sh D) c s Q) (P := fun _ _ D' => D' = u2 D 286 0 (Int32.ofNat 0)) (F := restF n a) 2 ?_ y _ rfl ?_
      · intro b y D2 hb e k2
        subst e
        have k2 := k2 _ rfl
        rw [b338_32 hw]
        simp only [b338_47 hw, b338_57 hw, b338_66 hw, b338_74 hw, b338_88 hw, b338_89 hw, mI_thrown HS, mF_thrown HS, mR_row HS, mR_image HS, mR_earlier HS, mR_trial HS, mR_acts HS, mI_hasImage HS, mF_hasImage HS, mI_remembered HS, mF_remembered HS, mR_tape HS, mI_taped HS, mF_taped HS, mI_point HS, mF_point HS, mI_end HS, mF_end HS, mI_begin HS, mF_begin HS, mI_deep HS, mF_deep HS, mI_faultAt HS, mF_faultAt HS, mR_five HS, mI_codes HS, mF_codes HS, mR_value HS, mI_so HS, mF_so HS, mR_lines HS, mR_chosen HS, mR_best HS, mR_members HS, mR_paired HS, mO HS, mA_287 HS, mW_287 HS, mA_288 HS, mW_288 HS, mA_289 HS, mW_289 HS, mA_290 HS, mW_290 HS, mA_291 HS, mW_291 HS, mA_292 HS, mW_292 HS, mA_293 HS, mW_293 HS, mA_294 HS, mW_294 HS, mA_295 HS, mW_295 HS, mA_296 HS, mW_296 HS, mA_297 HS, mW_297 HS, mA_298 HS, mW_298 HS, mA_299 HS, mW_299 HS, oN_lt (show b < 2147483648 by omega) (show 2 < 2147483648 by omega), hb, if_true, K336, k337 hw, wi_some, or_0, or_1, bo_or, ite_boP, true_and, and_true, kN_v, kN_n, kT_v, kT_n, kT_e, Nat.add_zero, Nat.zero_add, oN_add, oN_mul, z_or]
        unfold restF at k2
        by_cases h1 : manS (Int32.ofNat a) (Int32.ofNat b) n < manS (Int32.ofNat 1 - Int32.ofNat a) (Int32.ofNat b) n
        · simp only [h1, if_true, not_true_eq_false, decide_false, Bool.false_and, Bool.false_eq_true, if_false] at k2 ⊢; exact k2
        · by_cases h2 : clkS (Int32.ofNat a) (Int32.ofNat b) < clkS (Int32.ofNat a) (Int32.ofNat 1 - Int32.ofNat b)
          · simp only [h1, h2, if_true, if_false, not_true_eq_false, decide_false, Bool.and_false, Bool.false_eq_true] at k2 ⊢; exact k2
          · simp only [h1, h2, if_false, not_false_eq_true, decide_true, Bool.and_self, if_true] at k2 ⊢; exact k2
      · intro D2 e
        subst e
        rw [b338_32 hw]
        simp only [oN_lt (show 2 < 2147483648 by omega) (show 2 < 2147483648 by omega), Nat.lt_irrefl, if_false, oN_add]
        exact k _
    · intro D1 e l4
      subst e
      rw [b338_24 hw]
      simp only [oN_lt (show 2 < 2147483648 by omega) (show 2 < 2147483648 by omega), Nat.lt_irrefl, if_false]
      exact kk _ Ms.rf.th (by simp [u2_at])
end C64
