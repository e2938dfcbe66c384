/-! ===== send, who, look ===== -/
def sdF (G : GT) (z : Nat) (best : Int32) : Int32 := if (decide (Int32.ofNat z &&& Int32.ofNat (gN (gV G.1) (gg G.1)) = Int32.ofNat 0) && fewer (Int32.ofNat z) best) && cmP G (gN (gV G.1) (gg G.1) ||| z) then Int32.ofNat z else best
def o_send (G : GT) : Int32 ⊕ Nat := if tlOk G then .inl (fo (sdF G) (2 ^ (gg G.1)) 0 (-1)) else .inr 1
/-- the first of n with p -/
def fst1 (p : Nat → Bool) : Nat → Nat → Int32
  | 0, _ => -1
  | r + 1, i => if p i then Int32.ofNat i else fst1 p r (i + 1)
def o_who (G : GT) (b : Bool) : Int32 ⊕ Nat := if tlOk G then .inl (if b then fst1 (ftP G) (2 ^ (gg G.1)) 0 else Int32.ofNat (nS (ftP G) (2 ^ (gg G.1)))) else .inr 1
def lkA (G : GT) : Nat := nS (ftP G) (2 ^ (gg G.1))
def lkT (G : GT) (t : Nat) : Nat := nS (fun z => wbt G z t && ftP G z) (2 ^ (gg G.1))
def lkF (G : GT) (t : Nat) (z : Int32 × Nat) : Int32 × Nat := if max (lkT G t) (lkA G - lkT G t) < z.2 then (Int32.ofNat t, max (lkT G t) (lkA G - lkT G t)) else z
def o_look (G : GT) : Int32 ⊕ Nat := if tlOk G then .inl (if lkA G < 2 then -1 else (fo (lkF G) (gt G.1) 0 ((-1 : Int32), 65)).1) else .inr 1
theorem lk_le (G : GT) (t : Nat) : lkT G t ≤ lkA G := by
  unfold lkT lkA
  generalize 2 ^ (gg G.1) = n
  induction n with
  | zero => exact Nat.le_refl _
  | succ n ih =>
    rw [nS_succ, nS_succ]
    cases wbt G n t <;> cases ftP G n <;> simp <;> omega
section C84
variable {nx : Nat} {xs : Nat → Int32} {d c s : Nat} {sh : List sC} {D : sD} {Q : av_Q}
variable {G : GT}
theorem TdC_of {D : sD} (hv : GV G) (hok : tlOk G = true) (h1 : D 0 13 = soM G (tl G / 2)) (h2 : D 0 14 = noM G (tl G / 2)) : TdC G D := fun x => by rw [h1, h2]; exact told_ok hv hok x
theorem c_send (hv : GV G) (h : GC sh D G) (kk : ∀ D', GC sh D' (tkG G) → Fc D D' → Q (oQ (fun _ => xIA) (o_send G)) (mk sh D') (c + o1 (o_send G)) (s + 6 * o1 (o_send G))) : Wx (tP nx xs) (d + 5) 132 0 [some (.ref 0), none, none, none, none, none] [] (mk sh D) c s Q := by
  have hw := h.1.2
  have HS := h.1.1
  have H := St_state HS
  have I := hv.1
  have hV := h.2.1.1
  have hng := i_ng6 I
  have hnt := i_nt8 I
  have hnr := i_nr5 I
  have hnl := i_nl60 I
  have hx := h.L
  have hL := h.2.1.2
  have n10 : ¬ (Int32.ofNat 1 : Int32) = Int32.ofNat 0 := by decide
  unfold o_send at kk
  simp only [b132_0 hw, xR_tape HS, xI_wrongAt HS, xF_wrongAt HS, xR_state HS, xR_image HS, xI_imageKept HS, xF_imageKept HS, xR_draft HS, xR_memory HS, xR_lawText HS, xR_worlds HS, xI_worldsFresh HS, xF_worldsFresh HS, xR_otherWorlds HS, xR_seating HS, xR_pairing HS, xI_toldSo HS, xF_toldSo HS, xI_toldNot HS, xF_toldNot HS, xO HS, wi_some, or_0, or_1, bo_or, ite_boP, true_and, and_true, kN_v, kN_n, kT_v, kT_n, kT_e, Nat.add_zero, Nat.zero_add]
  refine k135 hv h ?_ ?_
  rotate_left
  · intro hb D1 h1 f1
    simp only [hb, Bool.false_eq_true, if_false, oQ, o1, wi_some, or_0, or_1, bo_or, ite_boP, true_and, and_true, kN_v, kN_n, kT_v, kT_n, kT_e, Nat.add_zero, Nat.zero_add] at kk ⊢
    exact kk D1 h1 f1
  intro hok D1 h1 f1 a13 a14
  simp only [hok, if_true, oQ, o1, Nat.mul_zero, Nat.add_zero] at kk
  simp only [wi_some, or_0, or_1, bo_or, ite_boP, true_and, and_true, kN_v, kN_n, kT_v, kT_n, kT_e, Nat.add_zero, Nat.zero_add, b132_4 hw, xR_tape HS, xI_wrongAt HS, xF_wrongAt HS, xR_state HS, xR_image HS, xI_imageKept HS, xF_imageKept HS, xR_draft HS, xR_memory HS, xR_lawText HS, xR_worlds HS, xI_worldsFresh HS, xF_worldsFresh HS, xR_otherWorlds HS, xR_seating HS, xR_pairing HS, xI_toldSo HS, xF_toldSo HS, xI_toldNot HS, xF_toldNot HS, xO HS]
  refine k128t hv.tk h1 ?_
  intro D2 c2 h2 w2 b13 b14
  have td : TdC G D2 := TdC_of hv hok (by rw [b13, a13]) (by rw [b14, a14])
  have hV2 : Vw D2 3 (gV G.1) := h2.2.1.1
  have w2 : Wf D2 265 (gV G.1) (gt G.1) (gg G.1) ((gV G.1) 1 1) (Int32.ofNat (2 ^ (gg G.1) - 1)) := w2
  obtain ⟨g1, g2⟩ := gN_of (V := (gV G.1)) hng
  have e64 := everyN I
  simp only [b132_8 hw, xR_tape HS, xI_wrongAt HS, xF_wrongAt HS, xR_state HS, xR_image HS, xI_imageKept HS, xF_imageKept HS, xR_draft HS, xR_memory HS, xR_lawText HS, xR_worlds HS, xI_worldsFresh HS, xF_worldsFresh HS, xR_otherWorlds HS, xR_seating HS, xR_pairing HS, xI_toldSo HS, xF_toldSo HS, xI_toldNot HS, xF_toldNot HS, xO HS, sR_things H, sI_goers H, sF_goers H, sR_wish H, sR_deed H, sI_makers H, sF_makers H, sR_born H, sR_money H, sR_nerve H, sR_shuns H, sR_by H, sI_trains H, sF_trains H, sR_halts H, sR_seats H, sI_texts H, sF_texts H, sI_law H, sF_law H, sI_day H, sF_day H, sI_seed H, sF_seed H, sR_log H, sO_state H, sI_count H, sF_count H, sI_first H, sF_first H, sR_at H, sR_worth H, sR_makes H, sR_hinders H, sO_things H, sI_rows H, sF_rows H, sR_entries H, sO_log H, sA_2 H, sW_2 H, sA_3 H, sW_3 H, sA_4 H, sW_4 H, sA_5 H, sW_5 H, sA_6 H, sW_6 H, sA_7 H, sW_7 H, sA_8 H, sW_8 H, sA_9 H, sW_9 H, sA_10 H, sW_10 H, sA_11 H, sW_11 H, sA_12 H, sW_12 H, sA_13 H, sW_13 H, sA_14 H, sW_14 H, sA_16 H, sW_16 H, wi_some, or_0, or_1, bo_or, ite_boP, true_and, and_true, kN_v, kN_n, kT_v, kT_n, kT_e, Nat.add_zero, Nat.zero_add, k37 hw H hV2 I, g1, b132_16 hw]
  have fin := kk D2 h2 (f1.tr (c2.fc h1.L))
  suffices hl : ∀ l5, Wx (tP nx xs) (d + 5) 132 22 [some (.ref 0), some (.ref 265), (some (.int (Int32.ofNat (gN (gV G.1) (gg G.1))))), (some (.int (-1))), (some (.int (Int32.ofNat 0))), l5] [] (mk sh D2) c s Q by exact hl none
  refine up_P (W := fun i (x : Int32) D => ∀ l5, Wx (tP nx xs) (d + 5) 132 22 [some (.ref 0), some (.ref 265), (some (.int (Int32.ofNat (gN (gV G.1) (gg G.1))))), (some (.int (x))), (some (.int (Int32.ofNat i))), l5] [] (mk sh D) c s Q) (P := fun _ _ D' => D' = D2) (F := fun z x => if z < 2 ^ (gg G.1) then sdF G z x else x) 64 ?_ (-1) D2 rfl ?_
  · intro z x D3 hz e3 k l5
    subst e3
    have k := k D3 rfl
    rw [b132_22 hw]
    simp only [oN_lt (show z < 2147483648 by omega) (show 64 < 2147483648 by omega), hz, if_true, xR_tape HS, xI_wrongAt HS, xF_wrongAt HS, xR_state HS, xR_image HS, xI_imageKept HS, xF_imageKept HS, xR_draft HS, xR_memory HS, xR_lawText HS, xR_worlds HS, xI_worldsFresh HS, xF_worldsFresh HS, xR_otherWorlds HS, xR_seating HS, xR_pairing HS, xI_toldSo HS, xF_toldSo HS, xI_toldNot HS, xF_toldNot HS, xO HS, sR_things H, sI_goers H, sF_goers H, sR_wish H, sR_deed H, sI_makers H, sF_makers H, sR_born H, sR_money H, sR_nerve H, sR_shuns H, sR_by H, sI_trains H, sF_trains H, sR_halts H, sR_seats H, sI_texts H, sF_texts H, sI_law H, sF_law H, sI_day H, sF_day H, sI_seed H, sF_seed H, sR_log H, sO_state H, sI_count H, sF_count H, sI_first H, sF_first H, sR_at H, sR_worth H, sR_makes H, sR_hinders H, sO_things H, sI_rows H, sF_rows H, sR_entries H, sO_log H, sA_2 H, sW_2 H, sA_3 H, sW_3 H, sA_4 H, sW_4 H, sA_5 H, sW_5 H, sA_6 H, sW_6 H, sA_7 H, sW_7 H, sA_8 H, sW_8 H, sA_9 H, sW_9 H, sA_10 H, sW_10 H, sA_11 H, sW_11 H, sA_12 H, sW_12 H, sA_13 H, sW_13 H, sA_14 H, sW_14 H, sA_16 H, sW_16 H, wi_some, or_0, or_1, bo_or, ite_boP, true_and, and_true, kN_v, kN_n, kT_v, kT_n, kT_e, Nat.add_zero, Nat.zero_add, k36 hw H hV2 I, b132_38 hw, sub_and, sub_iff _ (show (gg G.1) < 7 by omega) z hz]
    unfold sdF at k
    by_cases h1 : z < 2 ^ (gg G.1)
    · by_cases h2' : Int32.ofNat z &&& Int32.ofNat (gN (gV G.1) (gg G.1)) = Int32.ofNat 0
      · have lt : gN (gV G.1) (gg G.1) ||| z < 2 ^ (gg G.1) := Nat.or_lt_two_pow g2 h1
        have e137 := fun (l5 : Option Value) Q' => k137 (nx := nx) (xs := xs) (d := d + 1) (c := 0) (s := 0) (Q := Q') hv h2 td w2 lt
        simp only [h1, h2', and_self, if_true, b132_53 hw, n10, if_false, k131 hw, wi_some, or_0, or_1, bo_or, ite_boP, true_and, and_true, kN_v, kN_n, kT_v, kT_n, kT_e, Nat.add_zero, Nat.zero_add, b132_66 hw, xR_tape HS, xI_wrongAt HS, xF_wrongAt HS, xR_state HS, xR_image HS, xI_imageKept HS, xF_imageKept HS, xR_draft HS, xR_memory HS, xR_lawText HS, xR_worlds HS, xI_worldsFresh HS, xF_worldsFresh HS, xR_otherWorlds HS, xR_seating HS, xR_pairing HS, xI_toldSo HS, xF_toldSo HS, xI_toldNot HS, xF_toldNot HS, xO HS, decide_true, Bool.true_and, b132_84 hw, oN_add, orN] at k ⊢
        cases hf : fewer (Int32.ofNat z) x with
        | false => simp only [hf, Bool.false_and, Bool.false_eq_true, if_false, if_true, bo_f] at k ⊢; exact k _
        | true =>
          simp only [hf, Bool.true_and, bo_t, n10, if_false, if_true] at k ⊢
          rw [e137 none]
          simp only [wi_some, or_0, or_1, bo_or, ite_boP, true_and, and_true, kN_v, kN_n, kT_v, kT_n, kT_e, Nat.add_zero, Nat.zero_add, b132_78 hw, b132_84 hw, oN_add]
          cases hc : cmP G (gN (gV G.1) (gg G.1) ||| z) with
          | false => simp only [hc, Bool.false_eq_true, if_false, if_true, bo_f] at k ⊢; exact k _
          | true => simp only [hc, if_false, if_true, bo_t, n10] at k ⊢; exact k _
      · simp only [h1, h2', and_false, if_false, if_true, b132_53 hw, b132_84 hw, oN_add, decide_false, Bool.false_and, Bool.false_eq_true] at k ⊢
        exact k _
    · simp only [h1, false_and, if_false, if_true, b132_53 hw, b132_84 hw, oN_add] at k ⊢
      exact k _
  · intro D3 e3 l5
    subst e3
    rw [b132_22 hw]
    simp only [oN_lt (show 64 < 2147483648 by omega) (show 64 < 2147483648 by omega), Nat.lt_irrefl, if_false]
    rw [fo_more (n := 2 ^ (gg G.1)) e64 (fun z y h1 _ => by rw [if_neg (by omega)])]
    rw [fo_congr (G := sdF G) (2 ^ (gg G.1)) 0 (-1) (fun z y _ h => by rw [if_pos (by omega)])]
    exact fin
theorem c_who {b : Bool} (hv : GV G) (h : GC sh D G) (kk : ∀ D', GC sh D' (tkG G) → Fc D D' → Q (oQ (fun _ => xIA) (o_who G b)) (mk sh D') (c + o1 (o_who G b)) (s + 6 * o1 (o_who G b))) : Wx (tP nx xs) (d + 5) 133 0 [some (.ref 0), (some (.int (bo b))), none, none, none] [] (mk sh D) c s Q := by
  have hw := h.1.2
  have HS := h.1.1
  have H := St_state HS
  have I := hv.1
  have hV := h.2.1.1
  have hng := i_ng6 I
  have hnt := i_nt8 I
  have hnr := i_nr5 I
  have hnl := i_nl60 I
  have hx := h.L
  have hL := h.2.1.2
  have n10 : ¬ (Int32.ofNat 1 : Int32) = Int32.ofNat 0 := by decide
  unfold o_who at kk
  simp only [b133_0 hw, xR_tape HS, xI_wrongAt HS, xF_wrongAt HS, xR_state HS, xR_image HS, xI_imageKept HS, xF_imageKept HS, xR_draft HS, xR_memory HS, xR_lawText HS, xR_worlds HS, xI_worldsFresh HS, xF_worldsFresh HS, xR_otherWorlds HS, xR_seating HS, xR_pairing HS, xI_toldSo HS, xF_toldSo HS, xI_toldNot HS, xF_toldNot HS, xO HS, wi_some, or_0, or_1, bo_or, ite_boP, true_and, and_true, kN_v, kN_n, kT_v, kT_n, kT_e, Nat.add_zero, Nat.zero_add]
  refine k135 hv h ?_ ?_
  rotate_left
  · intro hb D1 h1 f1
    simp only [hb, Bool.false_eq_true, if_false, oQ, o1, wi_some, or_0, or_1, bo_or, ite_boP, true_and, and_true, kN_v, kN_n, kT_v, kT_n, kT_e, Nat.add_zero, Nat.zero_add] at kk ⊢
    exact kk D1 h1 f1
  intro hok D1 h1 f1 a13 a14
  simp only [hok, if_true, oQ, o1, Nat.mul_zero, Nat.add_zero] at kk
  simp only [wi_some, or_0, or_1, bo_or, ite_boP, true_and, and_true, kN_v, kN_n, kT_v, kT_n, kT_e, Nat.add_zero, Nat.zero_add, b133_4 hw, xR_tape HS, xI_wrongAt HS, xF_wrongAt HS, xR_state HS, xR_image HS, xI_imageKept HS, xF_imageKept HS, xR_draft HS, xR_memory HS, xR_lawText HS, xR_worlds HS, xI_worldsFresh HS, xF_worldsFresh HS, xR_otherWorlds HS, xR_seating HS, xR_pairing HS, xI_toldSo HS, xF_toldSo HS, xI_toldNot HS, xF_toldNot HS, xO HS]
  refine k128t hv.tk h1 ?_
  intro D2 c2 h2 w2 b13 b14
  have td : TdC G D2 := TdC_of hv hok (by rw [b13, a13]) (by rw [b14, a14])
  have hV2 : Vw D2 3 (gV G.1) := h2.2.1.1
  have w2 : Wf D2 265 (gV G.1) (gt G.1) (gg G.1) ((gV G.1) 1 1) (Int32.ofNat (2 ^ (gg G.1) - 1)) := w2
  have e64 := everyN I
  have p0 : 0 < 2 ^ (gg G.1) := Nat.pow_pos (by decide)
  simp only [wi_some, or_0, or_1, bo_or, ite_boP, true_and, and_true, kN_v, kN_n, kT_v, kT_n, kT_e, Nat.add_zero, Nat.zero_add, b133_8 hw]
  have fin := kk D2 h2 (f1.tr (c2.fc h1.L))
  have hl : ∀ r i, i + r = 2 ^ (gg G.1) → (b = true → fst1 (ftP G) (2 ^ (gg G.1)) 0 = fst1 (ftP G) r i) → Wx (tP nx xs) (d + 5) 133 14 [some (.ref 0), (some (.int (bo b))), some (.ref 265), (some (.int (if b then Int32.ofNat 0 else Int32.ofNat (nS (ftP G) i)))), (some (.int (Int32.ofNat i)))] [] (mk sh D2) c s Q := by
    intro r
    induction r with
    | zero =>
      intro i hi e
      have hi' : i = 2 ^ (gg G.1) := by omega
      rw [b133_14 hw]
      simp only [xR_tape HS, xI_wrongAt HS, xF_wrongAt HS, xR_state HS, xR_image HS, xI_imageKept HS, xF_imageKept HS, xR_draft HS, xR_memory HS, xR_lawText HS, xR_worlds HS, xI_worldsFresh HS, xF_worldsFresh HS, xR_otherWorlds HS, xR_seating HS, xR_pairing HS, xI_toldSo HS, xF_toldSo HS, xI_toldNot HS, xF_toldNot HS, xO HS, sR_things H, sI_goers H, sF_goers H, sR_wish H, sR_deed H, sI_makers H, sF_makers H, sR_born H, sR_money H, sR_nerve H, sR_shuns H, sR_by H, sI_trains H, sF_trains H, sR_halts H, sR_seats H, sI_texts H, sF_texts H, sI_law H, sF_law H, sI_day H, sF_day H, sI_seed H, sF_seed H, sR_log H, sO_state H, sI_count H, sF_count H, sI_first H, sF_first H, sR_at H, sR_worth H, sR_makes H, sR_hinders H, sO_things H, sI_rows H, sF_rows H, sR_entries H, sO_log H, sA_2 H, sW_2 H, sA_3 H, sW_3 H, sA_4 H, sW_4 H, sA_5 H, sW_5 H, sA_6 H, sW_6 H, sA_7 H, sW_7 H, sA_8 H, sW_8 H, sA_9 H, sW_9 H, sA_10 H, sW_10 H, sA_11 H, sW_11 H, sA_12 H, sW_12 H, sA_13 H, sW_13 H, sA_14 H, sW_14 H, sA_16 H, sW_16 H, wi_some, or_0, or_1, bo_or, ite_boP, true_and, and_true, kN_v, kN_n, kT_v, kT_n, kT_e, Nat.add_zero, Nat.zero_add, k36 hw H hV2 I, b133_23 hw, oN_lt (show 2 ^ (gg G.1) - 1 < 2147483648 by omega) (show i < 2147483648 by omega), show 2 ^ (gg G.1) - 1 < i by omega, if_true]
      cases b with
      | true =>
        simp only [bo_t, n10, if_false, if_true, b133_61 hw] at fin ⊢
        rw [e rfl] at fin
        exact fin
      | false =>
        simp only [bo_f, if_true, if_false, Bool.false_eq_true, b133_61 hw] at fin ⊢
        rw [hi']; exact fin
    | succ r ih =>
      intro i hi e
      have hi2 : i < 2 ^ (gg G.1) := by omega
      have ih := ih (i + 1) (by omega)
      rw [b133_14 hw]
      have e138 := fun Q' => k138 (nx := nx) (xs := xs) (d := d + 3) (c := 0) (s := 0) (Q := Q') hv h2 td w2 hi2
      simp only [xR_tape HS, xI_wrongAt HS, xF_wrongAt HS, xR_state HS, xR_image HS, xI_imageKept HS, xF_imageKept HS, xR_draft HS, xR_memory HS, xR_lawText HS, xR_worlds HS, xI_worldsFresh HS, xF_worldsFresh HS, xR_otherWorlds HS, xR_seating HS, xR_pairing HS, xI_toldSo HS, xF_toldSo HS, xI_toldNot HS, xF_toldNot HS, xO HS, sR_things H, sI_goers H, sF_goers H, sR_wish H, sR_deed H, sI_makers H, sF_makers H, sR_born H, sR_money H, sR_nerve H, sR_shuns H, sR_by H, sI_trains H, sF_trains H, sR_halts H, sR_seats H, sI_texts H, sF_texts H, sI_law H, sF_law H, sI_day H, sF_day H, sI_seed H, sF_seed H, sR_log H, sO_state H, sI_count H, sF_count H, sI_first H, sF_first H, sR_at H, sR_worth H, sR_makes H, sR_hinders H, sO_things H, sI_rows H, sF_rows H, sR_entries H, sO_log H, sA_2 H, sW_2 H, sA_3 H, sW_3 H, sA_4 H, sW_4 H, sA_5 H, sW_5 H, sA_6 H, sW_6 H, sA_7 H, sW_7 H, sA_8 H, sW_8 H, sA_9 H, sW_9 H, sA_10 H, sW_10 H, sA_11 H, sW_11 H, sA_12 H, sW_12 H, sA_13 H, sW_13 H, sA_14 H, sW_14 H, sA_16 H, sW_16 H, wi_some, or_0, or_1, bo_or, ite_boP, true_and, and_true, kN_v, kN_n, kT_v, kT_n, kT_e, Nat.add_zero, Nat.zero_add, k36 hw H hV2 I, b133_23 hw, oN_lt (show 2 ^ (gg G.1) - 1 < 2147483648 by omega) (show i < 2147483648 by omega), show ¬ 2 ^ (gg G.1) - 1 < i by omega, if_false]
      rw [e138]
      simp only [wi_some, or_0, or_1, bo_or, ite_boP, true_and, and_true, kN_v, kN_n, kT_v, kT_n, kT_e, Nat.add_zero, Nat.zero_add, b133_33 hw, b133_46 hw, oN_add]
      rw [show fst1 (ftP G) (r + 1) i = if ftP G i then Int32.ofNat i else fst1 (ftP G) r (i + 1) from rfl] at e
      rw [nS_succ] at ih
      cases hf : ftP G i with
      | true =>
        cases b with
        | true =>
          simp only [hf, bo_t, n10, if_false, if_true] at fin e ⊢
          rw [e trivial] at fin
          exact fin
        | false =>
          simp only [hf, bo_f, bo_t, n10, if_true, if_false, Bool.false_eq_true, oN_add] at ih ⊢
          exact ih (fun h => by cases h)
      | false =>
        simp only [hf, bo_f, if_true, if_false, Bool.false_eq_true, Nat.add_zero] at ih e ⊢
        exact ih e
  have := hl (2 ^ (gg G.1)) 0 (by omega) (fun _ => rfl)
  cases b
  · exact this
  · exact this
theorem c_look (hv : GV G) (h : GC sh D G) (kk : ∀ D', GC sh D' (tkG G) → Fc D D' → Q (oQ (fun _ => xIA) (o_look G)) (mk sh D') (c + o1 (o_look G)) (s + 6 * o1 (o_look G))) : Wx (tP nx xs) (d + 5) 134 0 [some (.ref 0), none, none, none, none, none, none, none] [] (mk sh D) c s Q := by
  have hw := h.1.2
  have HS := h.1.1
  have H := St_state HS
  have I := hv.1
  have hV := h.2.1.1
  have hng := i_ng6 I
  have hnt := i_nt8 I
  have hnr := i_nr5 I
  have hnl := i_nl60 I
  have hx := h.L
  have hL := h.2.1.2
  have n10 : ¬ (Int32.ofNat 1 : Int32) = Int32.ofNat 0 := by decide
  unfold o_look at kk
  simp only [b134_0 hw, xR_tape HS, xI_wrongAt HS, xF_wrongAt HS, xR_state HS, xR_image HS, xI_imageKept HS, xF_imageKept HS, xR_draft HS, xR_memory HS, xR_lawText HS, xR_worlds HS, xI_worldsFresh HS, xF_worldsFresh HS, xR_otherWorlds HS, xR_seating HS, xR_pairing HS, xI_toldSo HS, xF_toldSo HS, xI_toldNot HS, xF_toldNot HS, xO HS, wi_some, or_0, or_1, bo_or, ite_boP, true_and, and_true, kN_v, kN_n, kT_v, kT_n, kT_e, Nat.add_zero, Nat.zero_add]
  refine k135 hv h ?_ ?_
  rotate_left
  · intro hb D1 h1 f1
    simp only [hb, Bool.false_eq_true, if_false, oQ, o1, wi_some, or_0, or_1, bo_or, ite_boP, true_and, and_true, kN_v, kN_n, kT_v, kT_n, kT_e, Nat.add_zero, Nat.zero_add] at kk ⊢
    exact kk D1 h1 f1
  intro hok D1 h1 f1 a13 a14
  simp only [hok, if_true, oQ, o1, Nat.mul_zero, Nat.add_zero] at kk
  simp only [wi_some, or_0, or_1, bo_or, ite_boP, true_and, and_true, kN_v, kN_n, kT_v, kT_n, kT_e, Nat.add_zero, Nat.zero_add, b134_4 hw, xR_tape HS, xI_wrongAt HS, xF_wrongAt HS, xR_state HS, xR_image HS, xI_imageKept HS, xF_imageKept HS, xR_draft HS, xR_memory HS, xR_lawText HS, xR_worlds HS, xI_worldsFresh HS, xF_worldsFresh HS, xR_otherWorlds HS, xR_seating HS, xR_pairing HS, xI_toldSo HS, xF_toldSo HS, xI_toldNot HS, xF_toldNot HS, xO HS]
  refine k128t hv.tk h1 ?_
  intro D2 c2 h2 w2 b13 b14
  have td : TdC G D2 := TdC_of hv hok (by rw [b13, a13]) (by rw [b14, a14])
  have hV2 : Vw D2 3 (gV G.1) := h2.2.1.1
  have w2 : Wf D2 265 (gV G.1) (gt G.1) (gg G.1) ((gV G.1) 1 1) (Int32.ofNat (2 ^ (gg G.1) - 1)) := w2
  have e64 := everyN I
  have fin := kk D2 h2 (f1.tr (c2.fc h1.L))
  have eA : Int32.ofNat (nS (fun z => oW G none z && ftP G z) (2 ^ (gg G.1))) = Int32.ofNat (lkA G) := by
    unfold lkA
    rw [nS_congr fun z _ => by show (true && ftP G z) = ftP G z; rfl]
  have lA : lkA G ≤ 64 := Nat.le_trans (nS_le _ _) e64
  have eT : ∀ t, Int32.ofNat (nS (fun z => oW G (some t) z && ftP G z) (2 ^ (gg G.1))) = Int32.ofNat (lkT G t) := fun t => rfl
  have kA := fun Q' => k139 (nx := nx) (xs := xs) (d := d + 2) (c := 0) (s := 0) (Q := Q') (t := none) hv h2 td w2 (fun k h => by cases h)
  have kT := fun t (ht : t < 32) Q' => k139 (nx := nx) (xs := xs) (d := d + 2) (c := 0) (s := 0) (Q := Q') (t := some t) hv h2 td w2 (fun k h => by cases h; exact ht)
  simp only [oI, eA] at kA
  simp only [oI, eT] at kT
  simp only [wi_some, or_0, or_1, bo_or, ite_boP, true_and, and_true, kN_v, kN_n, kT_v, kT_n, kT_e, Nat.add_zero, Nat.zero_add, b134_8 hw, xR_tape HS, xI_wrongAt HS, xF_wrongAt HS, xR_state HS, xR_image HS, xI_imageKept HS, xF_imageKept HS, xR_draft HS, xR_memory HS, xR_lawText HS, xR_worlds HS, xI_worldsFresh HS, xF_worldsFresh HS, xR_otherWorlds HS, xR_seating HS, xR_pairing HS, xI_toldSo HS, xF_toldSo HS, xI_toldNot HS, xF_toldNot HS, xO HS]
  rw [kA]
  simp only [wi_some, or_0, or_1, bo_or, ite_boP, true_and, and_true, kN_v, kN_n, kT_v, kT_n, kT_e, Nat.add_zero, Nat.zero_add, b134_15 hw, oN_lt (show lkA G < 2147483648 by omega) (show 2 < 2147483648 by omega)]
  by_cases hA : lkA G < 2
  · simp only [hA, if_true] at fin ⊢
    exact fin
  simp only [hA, if_false] at fin ⊢
  suffices hl : ∀ l6 l7, Wx (tP nx xs) (d + 5) 134 32 [some (.ref 0), some (.ref 265), (some (.int (Int32.ofNat (lkA G)))), (some (.int (-1))), (some (.int (Int32.ofNat 65))), (some (.int (Int32.ofNat 0))), l6, l7] [] (mk sh D2) c s Q by exact hl none none
  refine up_P (W := fun i (x : Int32 × Nat) D => ∀ l6 l7, Wx (tP nx xs) (d + 5) 134 32 [some (.ref 0), some (.ref 265), (some (.int (Int32.ofNat (lkA G)))), (some (.int (x.1))), (some (.int (Int32.ofNat x.2))), (some (.int (Int32.ofNat i))), l6, l7] [] (mk sh D) c s Q) (P := fun _ x D' => D' = D2 ∧ x.2 ≤ 65) (F := lkF G) (gt G.1) ?_ ((-1 : Int32), 65) D2 ⟨rfl, Nat.le_refl _⟩ ?_
  · intro t x D3 ht ⟨e3, hx65⟩ k l6 l7
    subst e3
    have lT := lk_le G t
    rw [b134_32 hw]
    simp only [xR_tape HS, xI_wrongAt HS, xF_wrongAt HS, xR_state HS, xR_image HS, xI_imageKept HS, xF_imageKept HS, xR_draft HS, xR_memory HS, xR_lawText HS, xR_worlds HS, xI_worldsFresh HS, xF_worldsFresh HS, xR_otherWorlds HS, xR_seating HS, xR_pairing HS, xI_toldSo HS, xF_toldSo HS, xI_toldNot HS, xF_toldNot HS, xO HS, sR_things H, sI_goers H, sF_goers H, sR_wish H, sR_deed H, sI_makers H, sF_makers H, sR_born H, sR_money H, sR_nerve H, sR_shuns H, sR_by H, sI_trains H, sF_trains H, sR_halts H, sR_seats H, sI_texts H, sF_texts H, sI_law H, sF_law H, sI_day H, sF_day H, sI_seed H, sF_seed H, sR_log H, sO_state H, sI_count H, sF_count H, sI_first H, sF_first H, sR_at H, sR_worth H, sR_makes H, sR_hinders H, sO_things H, sI_rows H, sF_rows H, sR_entries H, sO_log H, sA_2 H, sW_2 H, sA_3 H, sW_3 H, sA_4 H, sW_4 H, sA_5 H, sW_5 H, sA_6 H, sW_6 H, sA_7 H, sW_7 H, sA_8 H, sW_8 H, sA_9 H, sW_9 H, sA_10 H, sW_10 H, sA_11 H, sW_11 H, sA_12 H, sW_12 H, sA_13 H, sW_13 H, sA_14 H, sW_14 H, sA_16 H, sW_16 H, wi_some, or_0, or_1, bo_or, ite_boP, true_and, and_true, kN_v, kN_n, kT_v, kT_n, kT_e, Nat.add_zero, Nat.zero_add, v_0 hV2, v_1 hV2, v_2 hV2, v_3 hV2, v_4 hV2, v_5 hV2, v_6 hV2, v_7 hV2, v_8 hV2, v_9 hV2, v_10 hV2, v_11 hV2, v_12 hV2, v_13 hV2, v_14 hV2, v_15 hV2, v_16 hV2, i_nt I, oN_lt (show t < 2147483648 by omega) (show (gt G.1) < 2147483648 by omega), ht, if_true]
    rw [kT t (by omega)]
    simp only [wi_some, or_0, or_1, bo_or, ite_boP, true_and, and_true, kN_v, kN_n, kT_v, kT_n, kT_e, Nat.add_zero, Nat.zero_add, b134_54 hw, oN_sub lT, oN_mx (show lkT G t < 2147483648 by omega) (show lkA G - lkT G t < 2147483648 by omega), oN_lt (show max (lkT G t) (lkA G - lkT G t) < 2147483648 by omega) (show x.2 < 2147483648 by omega), b134_81 hw, oN_add]
    have k := k D3
    unfold lkF at k
    by_cases hm : max (lkT G t) (lkA G - lkT G t) < x.2
    · simp only [hm, if_true] at k ⊢
      exact k ⟨trivial, by omega⟩ _ _
    · simp only [hm, if_false] at k ⊢
      exact k ⟨trivial, hx65⟩ _ _
  · intro D3 ⟨e3, _⟩ l6 l7
    subst e3
    rw [b134_32 hw]
    simp only [xR_tape HS, xI_wrongAt HS, xF_wrongAt HS, xR_state HS, xR_image HS, xI_imageKept HS, xF_imageKept HS, xR_draft HS, xR_memory HS, xR_lawText HS, xR_worlds HS, xI_worldsFresh HS, xF_worldsFresh HS, xR_otherWorlds HS, xR_seating HS, xR_pairing HS, xI_toldSo HS, xF_toldSo HS, xI_toldNot HS, xF_toldNot HS, xO HS, sR_things H, sI_goers H, sF_goers H, sR_wish H, sR_deed H, sI_makers H, sF_makers H, sR_born H, sR_money H, sR_nerve H, sR_shuns H, sR_by H, sI_trains H, sF_trains H, sR_halts H, sR_seats H, sI_texts H, sF_texts H, sI_law H, sF_law H, sI_day H, sF_day H, sI_seed H, sF_seed H, sR_log H, sO_state H, sI_count H, sF_count H, sI_first H, sF_first H, sR_at H, sR_worth H, sR_makes H, sR_hinders H, sO_things H, sI_rows H, sF_rows H, sR_entries H, sO_log H, sA_2 H, sW_2 H, sA_3 H, sW_3 H, sA_4 H, sW_4 H, sA_5 H, sW_5 H, sA_6 H, sW_6 H, sA_7 H, sW_7 H, sA_8 H, sW_8 H, sA_9 H, sW_9 H, sA_10 H, sW_10 H, sA_11 H, sW_11 H, sA_12 H, sW_12 H, sA_13 H, sW_13 H, sA_14 H, sW_14 H, sA_16 H, sW_16 H, wi_some, or_0, or_1, bo_or, ite_boP, true_and, and_true, kN_v, kN_n, kT_v, kT_n, kT_e, Nat.add_zero, Nat.zero_add, v_0 hV2, v_1 hV2, v_2 hV2, v_3 hV2, v_4 hV2, v_5 hV2, v_6 hV2, v_7 hV2, v_8 hV2, v_9 hV2, v_10 hV2, v_11 hV2, v_12 hV2, v_13 hV2, v_14 hV2, v_15 hV2, v_16 hV2, i_nt I, oN_lt (show (gt G.1) < 2147483648 by omega) (show (gt G.1) < 2147483648 by omega), Nat.lt_irrefl, if_false]
    exact fin
end C84
