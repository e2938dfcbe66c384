/-! ===== hangs, key ===== -/
theorem agP_congr {V V' : sD} {nt ng : Nat} {first x y : Int32} (e : WE V V' nt ng) : agP V' nt ng first x y = agP V nt ng first x y := by
  unfold agP
  rw [wS_congr e, aliveS_congr e]
theorem pastS_congr {V V' : sD} {nt ng : Nat} {first : Int32} {gone : Nat} (e : WE V V' nt ng) : pastS V' nt ng first gone = pastS V nt ng first gone := by
  unfold pastS
  exact fo_congr _ _ _ fun j x _ _ => by rw [agP_congr e]
theorem nowS_congr {V V' : sD} {nt ng : Nat} {first : Int32} {gone : Nat} (e : WE V V' nt ng) : nowS V' nt ng first gone = nowS V nt ng first gone := by
  unfold nowS
  rw [pastS_congr e, wS_congr e]
def flip1 (V : sD) (t : Nat) : Int32 := V 1 1 ^^^ jshl (Int32.ofNat 1) (Int32.ofNat t)
theorem WE_first {V : sD} {nt ng : Nat} {x : Int32} : WE V (u2 V 1 1 x) nt ng := by
  refine ⟨?_, fun t ht => ⟨?_, ?_, ?_⟩, fun g hg => ⟨?_, ?_, ?_⟩⟩ <;> (rw [u2_at, if_neg (by omega)])
theorem Iv_first {V : sD} {nt ng nr nl : Nat} {x : Int32} (I : Iv V nt ng nr nl) : Iv (u2 V 1 1 x) nt ng nr nl := by
  unfold Iv at *
  simpa [u2_at] using I
theorem Rw_first {r r' : Nat → Int32} {V : sD} {nt ng nr nl t : Nat} (h : Rw r V nt ng nr nl) (b1 : nt ≤ 8) (b2 : ng ≤ 6) (b3 : nr ≤ 5) (ht : t < nt) (ho : ∀ i, i ≠ 8 + 5 * t + 1 → r' i = r i) (h7 : r' (8 + 5 * t + 1) = r (8 + 5 * t + 1) ^^^ Int32.ofNat 1) : Rw r' (u2 V 1 1 (flip1 V t)) nt ng nr nl := by
  have hf : ∀ k, k < 32 → bt (flip1 V t) k = (bt (V 1 1) k ^^ decide (k = t)) := fun k hk => by
    unfold flip1
    rw [b_xor, jshl_1 (by omega) hk]
  obtain ⟨⟨a1, a2, a3, a4⟩, ⟨a5, a6, a7⟩, h3, h4, h5, h6⟩ := h
  refine ⟨⟨?_, ?_, ?_, ?_⟩, ⟨?_, ?_, ?_⟩, ?_, ?_, ?_, ?_⟩
  · rw [ho _ (by omega)]; exact a1
  · rw [ho _ (by omega)]; exact a2
  · rw [ho _ (by omega)]; exact a3
  · rw [ho _ (by omega)]; exact a4
  · rw [ho _ (by omega), u2_at, if_neg (by omega)]; exact a5
  · rw [ho _ (by omega), u2_at, if_neg (by omega)]; exact a6
  · rw [ho _ (by omega), u2_at, if_neg (by omega)]; exact a7
  · intro k hk
    obtain ⟨c1, c2, c3, c4, c5⟩ := h3 k hk
    refine ⟨?_, ?_, ?_, ?_, ?_⟩
    · rw [ho _ (by omega), u2_at, if_neg (by omega)]; exact c1
    · rw [show u2 V 1 1 (flip1 V t) 1 1 = flip1 V t by simp [u2_at], hf k (by omega)]
      by_cases e : k = t
      · subst e
        rw [h7, c2]
        simp only [decide_true]
        cases bt (V 1 1) k <;> decide
      · rw [ho _ (by omega), c2]
        simp only [e, decide_false, Bool.xor_false]
    · rw [ho _ (by omega), u2_at, if_neg (by omega)]; exact c3
    · rw [ho _ (by omega), u2_at, if_neg (by omega)]; exact c4
    · rw [ho _ (by omega), u2_at, if_neg (by omega)]; exact c5
  · intro k hk
    obtain ⟨c1, c2, c3, c4, c5, c6, c7, c8, c9⟩ := h4 k hk
    refine ⟨?_, ?_, ?_, ?_, ?_, ?_, ?_, ?_, ?_⟩
    · rw [ho _ (by omega), u2_at, if_neg (by omega)]; exact c1
    · rw [ho _ (by omega), u2_at, if_neg (by omega)]; exact c2
    · rw [ho _ (by omega), u2_at, if_neg (by omega)]; exact c3
    · rw [ho _ (by omega), u2_at, if_neg (by omega)]; exact c4
    · rw [ho _ (by omega), u2_at, if_neg (by omega)]; exact c5
    · rw [ho _ (by omega), u2_at, if_neg (by omega)]; exact c6
    · rw [ho _ (by omega), u2_at, if_neg (by omega)]; exact c7
    · rw [ho _ (by omega), u2_at, if_neg (by omega)]; exact c8
    · rw [ho _ (by omega), u2_at, if_neg (by omega)]; exact c9
  · intro k hk
    obtain ⟨c1, c2⟩ := h5 k hk
    refine ⟨?_, ?_⟩
    · rw [ho _ (by omega), u2_at, if_neg (by omega)]; exact c1
    · rw [ho _ (by omega), u2_at, if_neg (by omega)]; exact c2
  · intro k w hk hw
    rw [ho _ (by omega), u2_at, if_neg (by omega)]; exact h6 k w hk hw
def hgS (G : GT) (t : Nat) : Int32 := nowS (gV G.1) (gt G.1) (gg G.1) (flip1 (gV G.1) t) (gN (gV G.1) (gg G.1)) ^^^ nowS (gV G.1) (gt G.1) (gg G.1) ((gV G.1) 1 1) (gN (gV G.1) (gg G.1))
def o_hangs (G : GT) (x : Int32) : Int32 ⊕ Nat := match ixO x (gt G.1) with
  | none => .inr 1
  | some t => .inl (hgS G t)
def keyF (G : GT) (t : Nat) (z : Int32 × Int32) : Int32 × Int32 := if z.2 < bc (hgS G t) then (Int32.ofNat t, bc (hgS G t)) else z
def o_key (G : GT) : Int32 := (fo (keyF G) (gt G.1) 0 ((-1 : Int32), (-1 : Int32))).1
theorem self_sub (x : Int32) : x &&& (x ^^^ -1) = Int32.ofNat 0 := by
  apply b_ext
  intro i hi
  rw [b_and, b_xor, b_m1 i hi, b_00]
  cases bt x i <;> rfl
section C81
variable {nx : Nat} {xs : Nat → Int32} {d c s : Nat} {sh : List sC} {D : sD} {Q : av_Q}
variable {G : GT}
theorem k142 {t : Nat} (hv : GV G) (h : GC sh D G) (ht : t < (gt G.1)) (kk : ∀ D', GC sh D' G → Fc D D' → Q (.inl (some (.int (hgS G t)))) (mk sh D') c s) : Wx (tP nx xs) (d + 5) 142 0 [some (.ref 0), (some (.int (Int32.ofNat t))), none] [] (mk sh D) c s Q := by
  have hw := h.1.2
  have HS := h.1.1
  have H := St_state HS
  have I := hv.1
  have hV := h.2.1.1
  have hng := i_ng6 I
  have hnt := i_nt8 I
  have hnr := i_nr5 I
  have hnl := i_nl60 I
  have hx := h.L
  have hL := h.2.1.2
  obtain ⟨g1, g2⟩ := gN_of (V := (gV G.1)) hng
  have e64 := everyN I
  simp only [b142_0 hw, xR_tape HS, xI_wrongAt HS, xF_wrongAt HS, xR_state HS, xR_image HS, xI_imageKept HS, xF_imageKept HS, xR_draft HS, xR_memory HS, xR_lawText HS, xR_worlds HS, xI_worldsFresh HS, xF_worldsFresh HS, xR_otherWorlds HS, xR_seating HS, xR_pairing HS, xI_toldSo HS, xF_toldSo HS, xI_toldNot HS, xF_toldNot HS, xO HS, sR_things H, sI_goers H, sF_goers H, sR_wish H, sR_deed H, sI_makers H, sF_makers H, sR_born H, sR_money H, sR_nerve H, sR_shuns H, sR_by H, sI_trains H, sF_trains H, sR_halts H, sR_seats H, sI_texts H, sF_texts H, sI_law H, sF_law H, sI_day H, sF_day H, sI_seed H, sF_seed H, sR_log H, sO_state H, sI_count H, sF_count H, sI_first H, sF_first H, sR_at H, sR_worth H, sR_makes H, sR_hinders H, sO_things H, sI_rows H, sF_rows H, sR_entries H, sO_log H, sA_2 H, sW_2 H, sA_3 H, sW_3 H, sA_4 H, sW_4 H, sA_5 H, sW_5 H, sA_6 H, sW_6 H, sA_7 H, sW_7 H, sA_8 H, sW_8 H, sA_9 H, sW_9 H, sA_10 H, sW_10 H, sA_11 H, sW_11 H, sA_12 H, sW_12 H, sA_13 H, sW_13 H, sA_14 H, sW_14 H, sA_16 H, sW_16 H, wi_some, or_0, or_1, bo_or, ite_boP, true_and, and_true, kN_v, kN_n, kT_v, kT_n, kT_e, Nat.add_zero, Nat.zero_add, k37 hw H hV I, b142_7 hw, vO HS, v_0 hV, v_1 hV, v_2 hV, v_3 hV, v_4 hV, v_5 hV, v_6 hV, v_7 hV, v_8 hV, v_9 hV, v_10 hV, v_11 hV, v_12 hV, v_13 hV, v_14 hV, v_15 hV, v_16 hV, g1]
  refine k84 hw H hV I (Wsh_272 HS) (by decide) ?_
  intro D1 f1 w1
  have h1 : GC sh D1 G := h.cs (fun b i h1 h2 h3 h4 => by rw [f1 b (by omega)]) (by
    have hf := h.2.2.2.2.2.2
    unfold frW Wf at *
    rw [f1 0 (by omega), f1 (265 + 1) (by omega), f1 (265 + 2) (by omega), f1 282 (by omega)]
    exact hf)
  have fc1 : Fc D D1 := fun b h1 h2 => f1 b (by omega)
  have e93 := k93 (nx := nx) (xs := xs) (d := d + 1) (c := 0) (s := 0) (Q := kN (tP nx xs) (d + 4 + 1) 142 42 [some (.ref 0), (some (.int (Int32.ofNat t))), (some (.int (Int32.ofNat (gN (gV G.1) (gg G.1)))))] [] c s Q) hw (Wsh_272 HS) w1 (show gN (gV G.1) (gg G.1) < 64 by omega) (self_sub _)
  simp only [b142_34 hw, xR_tape HS, xI_wrongAt HS, xF_wrongAt HS, xR_state HS, xR_image HS, xI_imageKept HS, xF_imageKept HS, xR_draft HS, xR_memory HS, xR_lawText HS, xR_worlds HS, xI_worldsFresh HS, xF_worldsFresh HS, xR_otherWorlds HS, xR_seating HS, xR_pairing HS, xI_toldSo HS, xF_toldSo HS, xI_toldNot HS, xF_toldNot HS, xO HS, vO HS, wi_some, or_0, or_1, bo_or, ite_boP, true_and, and_true, kN_v, kN_n, kT_v, kT_n, kT_e, Nat.add_zero, Nat.zero_add]
  refine Eq.mpr e93 ?_
  simp only [b142_42 hw, xR_tape HS, xI_wrongAt HS, xF_wrongAt HS, xR_state HS, xR_image HS, xI_imageKept HS, xF_imageKept HS, xR_draft HS, xR_memory HS, xR_lawText HS, xR_worlds HS, xI_worldsFresh HS, xF_worldsFresh HS, xR_otherWorlds HS, xR_seating HS, xR_pairing HS, xI_toldSo HS, xF_toldSo HS, xI_toldNot HS, xF_toldNot HS, xO HS, wi_some, or_0, or_1, bo_or, ite_boP, true_and, and_true, kN_v, kN_n, kT_v, kT_n, kT_e, Nat.add_zero, Nat.zero_add]
  refine k129 hv h1 ?_
  intro D2 c2 h2
  simp only [b142_46 hw, wi_some, or_0, or_1, bo_or, ite_boP, true_and, and_true, kN_v, kN_n, kT_v, kT_n, kT_e, Nat.add_zero, Nat.zero_add]
  exact kk D2 h2 (fc1.tr (c2.fc hx))
theorem c_hangs {x : Int32} (hv : GV G) (h : GC sh D G) (kk : ∀ D', GC sh D' G → Fc D D' → Q (oQ (fun _ => xIO) (o_hangs G x)) (mk sh D') (c + o1 (o_hangs G x)) (s + 6 * o1 (o_hangs G x))) : Wx (tP nx xs) (d + 6) 140 0 [some (.ref 0), (some (.int (x)))] [] (mk sh D) c s Q := by
  have hw := h.1.2
  have HS := h.1.1
  have H := St_state HS
  have I := hv.1
  have hV := h.2.1.1
  have hng := i_ng6 I
  have hnt := i_nt8 I
  have hnr := i_nr5 I
  have hnl := i_nl60 I
  have hx := h.L
  have hL := h.2.1.2
  unfold o_hangs at kk
  simp only [b140_0 hw, xR_tape HS, xI_wrongAt HS, xF_wrongAt HS, xR_state HS, xR_image HS, xI_imageKept HS, xF_imageKept HS, xR_draft HS, xR_memory HS, xR_lawText HS, xR_worlds HS, xI_worldsFresh HS, xF_worldsFresh HS, xR_otherWorlds HS, xR_seating HS, xR_pairing HS, xI_toldSo HS, xF_toldSo HS, xI_toldNot HS, xF_toldNot HS, xO HS, wi_some, or_0, or_1, bo_or, ite_boP, true_and, and_true, kN_v, kN_n, kT_v, kT_n, kT_e, Nat.add_zero, Nat.zero_add, k180 hv h]
  cases hi : ixO x (gt G.1) with
  | none => simp only [hi, oQ, o1, wi_some, or_0, or_1, bo_or, ite_boP, true_and, and_true, kN_v, kN_n, kT_v, kT_n, kT_e, Nat.add_zero, Nat.zero_add] at kk ⊢; exact kk D h Fc.rf
  | some t =>
    obtain ⟨ht, rfl⟩ := ixO_some (by omega) hi
    simp only [hi, oQ, o1, Nat.mul_zero, Nat.add_zero] at kk
    simp only [wi_some, or_0, or_1, bo_or, ite_boP, true_and, and_true, kN_v, kN_n, kT_v, kT_n, kT_e, Nat.add_zero, Nat.zero_add, b140_5 hw, xR_tape HS, xI_wrongAt HS, xF_wrongAt HS, xR_state HS, xR_image HS, xI_imageKept HS, xF_imageKept HS, xR_draft HS, xR_memory HS, xR_lawText HS, xR_worlds HS, xI_worldsFresh HS, xF_worldsFresh HS, xR_otherWorlds HS, xR_seating HS, xR_pairing HS, xI_toldSo HS, xF_toldSo HS, xI_toldNot HS, xF_toldNot HS, xO HS]
    refine k142 hv h ht ?_
    intro D1 h1 f1
    simp only [b140_10 hw, wi_some, or_0, or_1, bo_or, ite_boP, true_and, and_true, kN_v, kN_n, kT_v, kT_n, kT_e, Nat.add_zero, Nat.zero_add]
    exact kk D1 h1 f1
theorem c_key (hv : GV G) (h : GC sh D G) (kk : ∀ D', GC sh D' G → Fc D D' → Q (.inl (some (.int (o_key G)))) (mk sh D') c s) : Wx (tP nx xs) (d + 6) 141 0 [some (.ref 0), none, none, none, none] [] (mk sh D) c s Q := by
  have hw := h.1.2
  have HS := h.1.1
  have H := St_state HS
  have I := hv.1
  have hV := h.2.1.1
  have hng := i_ng6 I
  have hnt := i_nt8 I
  have hnr := i_nr5 I
  have hnl := i_nl60 I
  have hx := h.L
  have hL := h.2.1.2
  simp only [b141_0 hw]
  refine up_P (W := fun i (z : Int32 × Int32) D => ∀ l4, Wx (tP nx xs) (d + 6) 141 6 [some (.ref 0), (some (.int (z.1))), (some (.int (z.2))), (some (.int (Int32.ofNat i))), l4] [] (mk sh D) c s Q) (P := fun _ _ D' => GC sh D' G ∧ Fc D D') (F := keyF G) (gt G.1) ?_ ((-1 : Int32), (-1 : Int32)) D ⟨h, Fc.rf⟩ ?_ none
  · intro i z D1 hi ⟨h1, f1⟩ k l4
    have hV1 := h1.2.1.1
    rw [b141_6 hw]
    simp only [xR_tape HS, xI_wrongAt HS, xF_wrongAt HS, xR_state HS, xR_image HS, xI_imageKept HS, xF_imageKept HS, xR_draft HS, xR_memory HS, xR_lawText HS, xR_worlds HS, xI_worldsFresh HS, xF_worldsFresh HS, xR_otherWorlds HS, xR_seating HS, xR_pairing HS, xI_toldSo HS, xF_toldSo HS, xI_toldNot HS, xF_toldNot HS, xO HS, sR_things H, sI_goers H, sF_goers H, sR_wish H, sR_deed H, sI_makers H, sF_makers H, sR_born H, sR_money H, sR_nerve H, sR_shuns H, sR_by H, sI_trains H, sF_trains H, sR_halts H, sR_seats H, sI_texts H, sF_texts H, sI_law H, sF_law H, sI_day H, sF_day H, sI_seed H, sF_seed H, sR_log H, sO_state H, sI_count H, sF_count H, sI_first H, sF_first H, sR_at H, sR_worth H, sR_makes H, sR_hinders H, sO_things H, sI_rows H, sF_rows H, sR_entries H, sO_log H, sA_2 H, sW_2 H, sA_3 H, sW_3 H, sA_4 H, sW_4 H, sA_5 H, sW_5 H, sA_6 H, sW_6 H, sA_7 H, sW_7 H, sA_8 H, sW_8 H, sA_9 H, sW_9 H, sA_10 H, sW_10 H, sA_11 H, sW_11 H, sA_12 H, sW_12 H, sA_13 H, sW_13 H, sA_14 H, sW_14 H, sA_16 H, sW_16 H, wi_some, or_0, or_1, bo_or, ite_boP, true_and, and_true, kN_v, kN_n, kT_v, kT_n, kT_e, Nat.add_zero, Nat.zero_add, v_0 hV1, v_1 hV1, v_2 hV1, v_3 hV1, v_4 hV1, v_5 hV1, v_6 hV1, v_7 hV1, v_8 hV1, v_9 hV1, v_10 hV1, v_11 hV1, v_12 hV1, v_13 hV1, v_14 hV1, v_15 hV1, v_16 hV1, i_nt I, oN_lt (show i < 2147483648 by omega) (show (gt G.1) < 2147483648 by omega), hi, if_true]
    refine k142 hv h1 hi ?_
    intro D2 h2 f2
    have fin := k D2 ⟨h2, f1.tr f2⟩
    unfold keyF at fin
    simp only [b141_25 hw, wi_some, or_0, or_1, bo_or, ite_boP, true_and, and_true, kN_v, kN_n, kT_v, kT_n, kT_e, Nat.add_zero, Nat.zero_add, k357 hw, b141_28 hw, b141_41 hw, oN_add]
    by_cases e : z.2 < bc (hgS G i)
    · simp only [e, if_true] at fin ⊢; exact fin _
    · simp only [e, if_false] at fin ⊢; exact fin _
  · intro D1 ⟨h1, f1⟩ l4
    have hV1 := h1.2.1.1
    rw [b141_6 hw]
    simp only [xR_tape HS, xI_wrongAt HS, xF_wrongAt HS, xR_state HS, xR_image HS, xI_imageKept HS, xF_imageKept HS, xR_draft HS, xR_memory HS, xR_lawText HS, xR_worlds HS, xI_worldsFresh HS, xF_worldsFresh HS, xR_otherWorlds HS, xR_seating HS, xR_pairing HS, xI_toldSo HS, xF_toldSo HS, xI_toldNot HS, xF_toldNot HS, xO HS, sR_things H, sI_goers H, sF_goers H, sR_wish H, sR_deed H, sI_makers H, sF_makers H, sR_born H, sR_money H, sR_nerve H, sR_shuns H, sR_by H, sI_trains H, sF_trains H, sR_halts H, sR_seats H, sI_texts H, sF_texts H, sI_law H, sF_law H, sI_day H, sF_day H, sI_seed H, sF_seed H, sR_log H, sO_state H, sI_count H, sF_count H, sI_first H, sF_first H, sR_at H, sR_worth H, sR_makes H, sR_hinders H, sO_things H, sI_rows H, sF_rows H, sR_entries H, sO_log H, sA_2 H, sW_2 H, sA_3 H, sW_3 H, sA_4 H, sW_4 H, sA_5 H, sW_5 H, sA_6 H, sW_6 H, sA_7 H, sW_7 H, sA_8 H, sW_8 H, sA_9 H, sW_9 H, sA_10 H, sW_10 H, sA_11 H, sW_11 H, sA_12 H, sW_12 H, sA_13 H, sW_13 H, sA_14 H, sW_14 H, sA_16 H, sW_16 H, wi_some, or_0, or_1, bo_or, ite_boP, true_and, and_true, kN_v, kN_n, kT_v, kT_n, kT_e, Nat.add_zero, Nat.zero_add, v_0 hV1, v_1 hV1, v_2 hV1, v_3 hV1, v_4 hV1, v_5 hV1, v_6 hV1, v_7 hV1, v_8 hV1, v_9 hV1, v_10 hV1, v_11 hV1, v_12 hV1, v_13 hV1, v_14 hV1, v_15 hV1, v_16 hV1, i_nt I, oN_lt (show (gt G.1) < 2147483648 by omega) (show (gt G.1) < 2147483648 by omega), Nat.lt_irrefl, if_false]
    exact kk D1 h1 f1
/-! the reference -/
theorem k309 {t : Nat} (hw : WT sh) (HS : SP sh) (hv : GV G) (h : GR D G) (ht : t < (gt G.1)) (kk : ∀ D', Ms D D' → D' 286 0 = D 286 0 → Q (.inl (some (.int (hgS G t)))) (mk sh D') c s) : Wx (tP nx xs) (d + 8) 309 0 [some (.ref 286), (some (.int (Int32.ofNat t))), none, none] [] (mk sh D) c s Q := by
  have R := h.1.1
  have hL := h.1.2
  have I := hv.1
  have hng := i_ng6 I
  have hnt := i_nt8 I
  have hnr := i_nr5 I
  have hnl := i_nl60 I
  obtain ⟨g1, g2⟩ := gN_of (V := (gV G.1)) hng
  have e64 := everyN I
  have hc : 8 + 5 * t + 1 < 2050 := by omega
  simp only [b309_0 hw, mI_thrown HS, mF_thrown HS, mR_row HS, mR_image HS, mR_earlier HS, mR_trial HS, mR_acts HS, mI_hasImage HS, mF_hasImage HS, mI_remembered HS, mF_remembered HS, mR_tape HS, mI_taped HS, mF_taped HS, mI_point HS, mF_point HS, mI_end HS, mF_end HS, mI_begin HS, mF_begin HS, mI_deep HS, mF_deep HS, mI_faultAt HS, mF_faultAt HS, mR_five HS, mI_codes HS, mF_codes HS, mR_value HS, mI_so HS, mF_so HS, mR_lines HS, mR_chosen HS, mR_best HS, mR_members HS, mR_paired HS, mO HS, mA_287 HS, mW_287 HS, mA_288 HS, mW_288 HS, mA_289 HS, mW_289 HS, mA_290 HS, mW_290 HS, mA_291 HS, mW_291 HS, mA_292 HS, mW_292 HS, mA_293 HS, mW_293 HS, mA_294 HS, mW_294 HS, mA_295 HS, mW_295 HS, mA_296 HS, mW_296 HS, mA_297 HS, mW_297 HS, mA_298 HS, mW_298 HS, mA_299 HS, mW_299 HS, wi_some, or_0, or_1, bo_or, ite_boP, true_and, and_true, kN_v, kN_n, kT_v, kT_n, kT_e, Nat.add_zero, Nat.zero_add, k208 hw HS R hng, b309_5 hw, g1]
  refine k269 hw HS R I (by omega) ?_
  intro D1 s1
  simp only [b309_8 hw, mI_thrown HS, mF_thrown HS, mR_row HS, mR_image HS, mR_earlier HS, mR_trial HS, mR_acts HS, mI_hasImage HS, mF_hasImage HS, mI_remembered HS, mF_remembered HS, mR_tape HS, mI_taped HS, mF_taped HS, mI_point HS, mF_point HS, mI_end HS, mF_end HS, mI_begin HS, mF_begin HS, mI_deep HS, mF_deep HS, mI_faultAt HS, mF_faultAt HS, mR_five HS, mI_codes HS, mF_codes HS, mR_value HS, mI_so HS, mF_so HS, mR_lines HS, mR_chosen HS, mR_best HS, mR_members HS, mR_paired HS, mO HS, mA_287 HS, mW_287 HS, mA_288 HS, mW_288 HS, mA_289 HS, mW_289 HS, mA_290 HS, mW_290 HS, mA_291 HS, mW_291 HS, mA_292 HS, mW_292 HS, mA_293 HS, mW_293 HS, mA_294 HS, mW_294 HS, mA_295 HS, mW_295 HS, mA_296 HS, mW_296 HS, mA_297 HS, mW_297 HS, mA_298 HS, mW_298 HS, mA_299 HS, mW_299 HS, wi_some, or_0, or_1, bo_or, ite_boP, true_and, and_true, kN_v, kN_n, kT_v, kT_n, kT_e, Nat.add_zero, Nat.zero_add, k200 hw, b309_18 hw, hc, oN_tn (show 8 + 5 * t + 1 < 2147483648 by omega), b309_23 hw]
  have R2 : Rw (u2 D1 287 (8 + 5 * t + 1) (D1 287 (8 + 5 * t + 1) ^^^ Int32.ofNat 1) 287) (u2 (gV G.1) 1 1 (flip1 (gV G.1) t)) (gt G.1) (gg G.1) (gr G.1) (gl G.1) := Rw_first (r := D 287) R hnt hng hnr ht (fun i hi => by rw [u2_at, if_neg (by omega), s1 287 i (by omega)]) (by rw [u2_at, if_pos ⟨rfl, rfl⟩, s1 287 _ (by omega)])
  have I2 : Iv (u2 (gV G.1) 1 1 (flip1 (gV G.1) t)) (gt G.1) (gg G.1) (gr G.1) (gl G.1) := Iv_first I
  have eg : goneS (u2 (gV G.1) 1 1 (flip1 (gV G.1) t)) (gg G.1) = Int32.ofNat (gN (gV G.1) (gg G.1)) := by
    rw [← g1]
    unfold goneS
    exact bs_congr fun g _ => by rw [u2_at, if_neg (by omega)]
  simp only [k208 hw HS R2 hng, mI_thrown HS, mF_thrown HS, mR_row HS, mR_image HS, mR_earlier HS, mR_trial HS, mR_acts HS, mI_hasImage HS, mF_hasImage HS, mI_remembered HS, mF_remembered HS, mR_tape HS, mI_taped HS, mF_taped HS, mI_point HS, mF_point HS, mI_end HS, mF_end HS, mI_begin HS, mF_begin HS, mI_deep HS, mF_deep HS, mI_faultAt HS, mF_faultAt HS, mR_five HS, mI_codes HS, mF_codes HS, mR_value HS, mI_so HS, mF_so HS, mR_lines HS, mR_chosen HS, mR_best HS, mR_members HS, mR_paired HS, mO HS, mA_287 HS, mW_287 HS, mA_288 HS, mW_288 HS, mA_289 HS, mW_289 HS, mA_290 HS, mW_290 HS, mA_291 HS, mW_291 HS, mA_292 HS, mW_292 HS, mA_293 HS, mW_293 HS, mA_294 HS, mW_294 HS, mA_295 HS, mW_295 HS, mA_296 HS, mW_296 HS, mA_297 HS, mW_297 HS, mA_298 HS, mW_298 HS, mA_299 HS, mW_299 HS, wi_some, or_0, or_1, bo_or, ite_boP, true_and, and_true, kN_v, kN_n, kT_v, kT_n, kT_e, Nat.add_zero, Nat.zero_add, b309_28 hw, eg]
  generalize hD2 : u2 D1 287 (8 + 5 * t + 1) (D1 287 (8 + 5 * t + 1) ^^^ Int32.ofNat 1) = D2 at *
  refine k269 hw HS R2 I2 (by omega) ?_
  intro D3 s3
  simp only [b309_31 hw, mI_thrown HS, mF_thrown HS, mR_row HS, mR_image HS, mR_earlier HS, mR_trial HS, mR_acts HS, mI_hasImage HS, mF_hasImage HS, mI_remembered HS, mF_remembered HS, mR_tape HS, mI_taped HS, mF_taped HS, mI_point HS, mF_point HS, mI_end HS, mF_end HS, mI_begin HS, mF_begin HS, mI_deep HS, mF_deep HS, mI_faultAt HS, mF_faultAt HS, mR_five HS, mI_codes HS, mF_codes HS, mR_value HS, mI_so HS, mF_so HS, mR_lines HS, mR_chosen HS, mR_best HS, mR_members HS, mR_paired HS, mO HS, mA_287 HS, mW_287 HS, mA_288 HS, mW_288 HS, mA_289 HS, mW_289 HS, mA_290 HS, mW_290 HS, mA_291 HS, mW_291 HS, mA_292 HS, mW_292 HS, mA_293 HS, mW_293 HS, mA_294 HS, mW_294 HS, mA_295 HS, mW_295 HS, mA_296 HS, mW_296 HS, mA_297 HS, mW_297 HS, mA_298 HS, mW_298 HS, mA_299 HS, mW_299 HS, wi_some, or_0, or_1, bo_or, ite_boP, true_and, and_true, kN_v, kN_n, kT_v, kT_n, kT_e, Nat.add_zero, Nat.zero_add, k200 hw, b309_41 hw, hc, oN_tn (show 8 + 5 * t + 1 < 2147483648 by omega), b309_46 hw]
  rw [nowS_congr WE_first, show u2 (gV G.1) 1 1 (flip1 (gV G.1) t) 1 1 = flip1 (gV G.1) t by simp [u2_at]]
  have all : ∀ b i, ¬ (b = 286 ∧ i = 18) → u2 D3 287 (8 + 5 * t + 1) (D3 287 (8 + 5 * t + 1) ^^^ Int32.ofNat 1) b i = D b i := by
    intro b i hb
    rw [u2_at]
    by_cases e : b = 287 ∧ i = 8 + 5 * t + 1
    · rw [if_pos e, s3 287 _ (by omega), ← hD2, u2_at, if_pos ⟨rfl, rfl⟩, e.1, e.2, s1 287 _ (by omega)]
      apply b_ext
      intro j hj
      rw [b_xor, b_xor]
      cases bt (D 287 (8 + 5 * t + 1)) j <;> cases bt (Int32.ofNat 1) j <;> rfl
    · rw [if_neg e, s3 b i hb, ← hD2, u2_at, if_neg e, s1 b i hb]
  have fin := kk (u2 D3 287 (8 + 5 * t + 1) (D3 287 (8 + 5 * t + 1) ^^^ Int32.ofNat 1)) (Sm.ms all) (all 286 0 (by omega))
  unfold hgS at fin
  rw [show ∀ a b : Int32, a ^^^ b = b ^^^ a from fun a b => by apply b_ext; intro i _; rw [b_xor, b_xor, Bool.xor_comm]]
  exact fin
theorem m_hangs {x : Int32} (hw : WT sh) (HS : SP sh) (hv : GV G) (h : GR D G) (kk : ∀ D', Ms D D' → D' 286 0 = Int32.ofNat (th (o_hangs G x)) → Q (.inl (some (.int (rv (o_hangs G x))))) (mk sh D') c s) : Wx (tP nx xs) (d + 9) 310 0 [some (.ref 286), (some (.int (x)))] [] (mk sh D) c s Q := by
  have R := h.1.1
  have hL := h.1.2
  have I := hv.1
  have hng := i_ng6 I
  have hnt := i_nt8 I
  have hnr := i_nr5 I
  have hnl := i_nl60 I
  have m1 : Ms D (u2 D 286 0 (Int32.ofNat 0)) := Ms.rf.th
  have h1 := h.ms hv m1
  have n10 : ¬ (Int32.ofNat 1 : Int32) = Int32.ofNat 0 := by decide
  unfold o_hangs at kk
  simp only [b310_0 hw, b310_5 hw, mI_thrown HS, mF_thrown HS, mR_row HS, mR_image HS, mR_earlier HS, mR_trial HS, mR_acts HS, mI_hasImage HS, mF_hasImage HS, mI_remembered HS, mF_remembered HS, mR_tape HS, mI_taped HS, mF_taped HS, mI_point HS, mF_point HS, mI_end HS, mF_end HS, mI_begin HS, mF_begin HS, mI_deep HS, mF_deep HS, mI_faultAt HS, mF_faultAt HS, mR_five HS, mI_codes HS, mF_codes HS, mR_value HS, mI_so HS, mF_so HS, mR_lines HS, mR_chosen HS, mR_best HS, mR_members HS, mR_paired HS, mO HS, mA_287 HS, mW_287 HS, mA_288 HS, mW_288 HS, mA_289 HS, mW_289 HS, mA_290 HS, mW_290 HS, mA_291 HS, mW_291 HS, mA_292 HS, mW_292 HS, mA_293 HS, mW_293 HS, mA_294 HS, mW_294 HS, mA_295 HS, mW_295 HS, mA_296 HS, mW_296 HS, mA_297 HS, mW_297 HS, mA_298 HS, mW_298 HS, mA_299 HS, mW_299 HS, wi_some, or_0, or_1, bo_or, ite_boP, true_and, and_true, kN_v, kN_n, kT_v, kT_n, kT_e, Nat.add_zero, Nat.zero_add, k210 hw HS hv h1, b310_11 hw]
  cases hi : ixO x (gt G.1) with
  | none =>
    simp only [hi, Option.isNone_none, bo_t, th, rv, k187t hw HS, b310_15 hw, b310_27 hw, wi_some, or_0, or_1, bo_or, ite_boP, true_and, and_true, kN_v, kN_n, kT_v, kT_n, kT_e, Nat.add_zero, Nat.zero_add, n10, if_false] at kk ⊢
    exact kk _ Ms.rf.th.th (by simp [u2_at])
  | some t =>
    obtain ⟨ht, rfl⟩ := ixO_some (by omega) hi
    simp only [hi, th, rv] at kk
    simp only [Option.isNone_some, bo_f, k187f hw HS, b310_15 hw, wi_some, or_0, or_1, bo_or, ite_boP, true_and, and_true, kN_v, kN_n, kT_v, kT_n, kT_e, Nat.add_zero, Nat.zero_add, if_true, mI_thrown HS, mF_thrown HS, mR_row HS, mR_image HS, mR_earlier HS, mR_trial HS, mR_acts HS, mI_hasImage HS, mF_hasImage HS, mI_remembered HS, mF_remembered HS, mR_tape HS, mI_taped HS, mF_taped HS, mI_point HS, mF_point HS, mI_end HS, mF_end HS, mI_begin HS, mF_begin HS, mI_deep HS, mF_deep HS, mI_faultAt HS, mF_faultAt HS, mR_five HS, mI_codes HS, mF_codes HS, mR_value HS, mI_so HS, mF_so HS, mR_lines HS, mR_chosen HS, mR_best HS, mR_members HS, mR_paired HS, mO HS, mA_287 HS, mW_287 HS, mA_288 HS, mW_288 HS, mA_289 HS, mW_289 HS, mA_290 HS, mW_290 HS, mA_291 HS, mW_291 HS, mA_292 HS, mW_292 HS, mA_293 HS, mW_293 HS, mA_294 HS, mW_294 HS, mA_295 HS, mW_295 HS, mA_296 HS, mW_296 HS, mA_297 HS, mW_297 HS, mA_298 HS, mW_298 HS, mA_299 HS, mW_299 HS]
    refine k309 hw HS hv h1 ht ?_
    intro D2 m2 t2
    simp only [b310_27 hw, wi_some, or_0, or_1, bo_or, ite_boP, true_and, and_true, kN_v, kN_n, kT_v, kT_n, kT_e, Nat.add_zero, Nat.zero_add]
    exact kk D2 (m1.tr m2) (by rw [t2]; simp [u2_at])
theorem m_key (hw : WT sh) (HS : SP sh) (hv : GV G) (h : GR D G) (kk : ∀ D', Ms D D' → D' 286 0 = Int32.ofNat 0 → Q (.inl (some (.int (o_key G)))) (mk sh D') c s) : Wx (tP nx xs) (d + 9) 311 0 [some (.ref 286), none, none, none, none] [] (mk sh D) c s Q := by
  have R := h.1.1
  have hL := h.1.2
  have I := hv.1
  have hng := i_ng6 I
  have hnt := i_nt8 I
  have hnr := i_nr5 I
  have hnl := i_nl60 I
  have m1 : Ms D (u2 D 286 0 (Int32.ofNat 0)) := Ms.rf.th
  have t1 : u2 D 286 0 (Int32.ofNat 0) 286 0 = Int32.ofNat 0 := by simp [u2_at]
  have h1 := h.ms hv m1
  simp only [b311_0 hw, b311_5 hw, mI_thrown HS, mF_thrown HS, mR_row HS, mR_image HS, mR_earlier HS, mR_trial HS, mR_acts HS, mI_hasImage HS, mF_hasImage HS, mI_remembered HS, mF_remembered HS, mR_tape HS, mI_taped HS, mF_taped HS, mI_point HS, mF_point HS, mI_end HS, mF_end HS, mI_begin HS, mF_begin HS, mI_deep HS, mF_deep HS, mI_faultAt HS, mF_faultAt HS, mR_five HS, mI_codes HS, mF_codes HS, mR_value HS, mI_so HS, mF_so HS, mR_lines HS, mR_chosen HS, mR_best HS, mR_members HS, mR_paired HS, mO HS, mA_287 HS, mW_287 HS, mA_288 HS, mW_288 HS, mA_289 HS, mW_289 HS, mA_290 HS, mW_290 HS, mA_291 HS, mW_291 HS, mA_292 HS, mW_292 HS, mA_293 HS, mW_293 HS, mA_294 HS, mW_294 HS, mA_295 HS, mW_295 HS, mA_296 HS, mW_296 HS, mA_297 HS, mW_297 HS, mA_298 HS, mW_298 HS, mA_299 HS, mW_299 HS, wi_some, or_0, or_1, bo_or, ite_boP, true_and, and_true, kN_v, kN_n, kT_v, kT_n, kT_e, Nat.add_zero, Nat.zero_add]
  generalize u2 D 286 0 (Int32.ofNat 0) = D1 at *
  refine up_P (W := fun i (z : Int32 × Int32) D => ∀ l4, Wx (tP nx xs) (d + 9) 311 11 [some (.ref 286), (some (.int (z.1))), (some (.int (z.2))), (some (.int (Int32.ofNat i))), l4] [] (mk sh D) c s Q) (P := fun _ _ D' => Ms D1 D' ∧ D' 286 0 = Int32.ofNat 0) (F := keyF G) (gt G.1) ?_ ((-1 : Int32), (-1 : Int32)) D1 ⟨Ms.rf, t1⟩ ?_ none
  · intro i z D2 hi ⟨m2, t2⟩ k l4
    have h2 := h1.ms hv m2
    have R2 := h2.1.1
    rw [b311_11 hw]
    simp only [mI_thrown HS, mF_thrown HS, mR_row HS, mR_image HS, mR_earlier HS, mR_trial HS, mR_acts HS, mI_hasImage HS, mF_hasImage HS, mI_remembered HS, mF_remembered HS, mR_tape HS, mI_taped HS, mF_taped HS, mI_point HS, mF_point HS, mI_end HS, mF_end HS, mI_begin HS, mF_begin HS, mI_deep HS, mF_deep HS, mI_faultAt HS, mF_faultAt HS, mR_five HS, mI_codes HS, mF_codes HS, mR_value HS, mI_so HS, mF_so HS, mR_lines HS, mR_chosen HS, mR_best HS, mR_members HS, mR_paired HS, mO HS, mA_287 HS, mW_287 HS, mA_288 HS, mW_288 HS, mA_289 HS, mW_289 HS, mA_290 HS, mW_290 HS, mA_291 HS, mW_291 HS, mA_292 HS, mW_292 HS, mA_293 HS, mW_293 HS, mA_294 HS, mW_294 HS, mA_295 HS, mW_295 HS, mA_296 HS, mW_296 HS, mA_297 HS, mW_297 HS, mA_298 HS, mW_298 HS, mA_299 HS, mW_299 HS, wi_some, or_0, or_1, bo_or, ite_boP, true_and, and_true, kN_v, kN_n, kT_v, kT_n, kT_e, Nat.add_zero, Nat.zero_add, k197 hw HS, r_nt R2, b311_16 hw, oN_lt (show i < 2147483648 by omega) (show (gt G.1) < 2147483648 by omega), hi, if_true]
    refine k309 hw HS hv h2 hi ?_
    intro D3 m3 t3
    have fin := k D3 ⟨m2.tr m3, by rw [t3, t2]⟩
    unfold keyF at fin
    simp only [b311_24 hw, wi_some, or_0, or_1, bo_or, ite_boP, true_and, and_true, kN_v, kN_n, kT_v, kT_n, kT_e, Nat.add_zero, Nat.zero_add, k357 hw, b311_27 hw, b311_40 hw, oN_add, mx]
    by_cases e : z.2 < bc (hgS G i)
    · simp only [e, if_true] at fin ⊢; exact fin _
    · simp only [e, if_false] at fin ⊢; exact fin _
  · intro D2 ⟨m2, t2⟩ l4
    have h2 := h1.ms hv m2
    have R2 := h2.1.1
    rw [b311_11 hw]
    simp only [mI_thrown HS, mF_thrown HS, mR_row HS, mR_image HS, mR_earlier HS, mR_trial HS, mR_acts HS, mI_hasImage HS, mF_hasImage HS, mI_remembered HS, mF_remembered HS, mR_tape HS, mI_taped HS, mF_taped HS, mI_point HS, mF_point HS, mI_end HS, mF_end HS, mI_begin HS, mF_begin HS, mI_deep HS, mF_deep HS, mI_faultAt HS, mF_faultAt HS, mR_five HS, mI_codes HS, mF_codes HS, mR_value HS, mI_so HS, mF_so HS, mR_lines HS, mR_chosen HS, mR_best HS, mR_members HS, mR_paired HS, mO HS, mA_287 HS, mW_287 HS, mA_288 HS, mW_288 HS, mA_289 HS, mW_289 HS, mA_290 HS, mW_290 HS, mA_291 HS, mW_291 HS, mA_292 HS, mW_292 HS, mA_293 HS, mW_293 HS, mA_294 HS, mW_294 HS, mA_295 HS, mW_295 HS, mA_296 HS, mW_296 HS, mA_297 HS, mW_297 HS, mA_298 HS, mW_298 HS, mA_299 HS, mW_299 HS, wi_some, or_0, or_1, bo_or, ite_boP, true_and, and_true, kN_v, kN_n, kT_v, kT_n, kT_e, Nat.add_zero, Nat.zero_add, k197 hw HS, r_nt R2, b311_16 hw, oN_lt (show (gt G.1) < 2147483648 by omega) (show (gt G.1) < 2147483648 by omega), Nat.lt_irrefl, if_false]
    exact kk D2 (m1.tr m2) t2
end C81
