/-! ===== price, dearest (2) ===== -/
def erB (G : GT) (w : Nat) : Nat := ern (gV G.1) (gg G.1) w (bpC (gV G.1) (gg G.1) w).1
def o_price (G : GT) (x : Int32) (b : Bool) : Int32 ⊕ Nat := match ixO x 16 with
  | none => .inr 1
  | some w => .inl (if b then Int32.ofNat (erB G w) else Int32.ofNat (bpC (gV G.1) (gg G.1) w).1)
def drS (G : GT) (i : Nat) : Nat := fo (fun w b => if erB G b < erB G w then w else b) i 1 0
theorem mn_eq {V : sD} {nt ng nr nl g : Nat} (I : Iv V nt ng nr nl) (hg : g < ng) : V 9 g = Int32.ofNat (mnN V g) ∧ mnN V g ≤ 999 := by
  obtain ⟨n, hn, e⟩ := i_money I hg
  unfold mnN
  rw [e, oN_tn (by omega)]
  exact ⟨rfl, by omega⟩
theorem ern_le {V : sD} {ng w p : Nat} (hng : ng ≤ 6) (hp : p ≤ 999) : ern V ng w p ≤ 5994 := by
  unfold ern
  have h1 : pyN V ng w p ≤ 6 := Nat.le_trans pyN_le hng
  have h2 : p * pyN V ng w p ≤ 999 * 6 := Nat.mul_le_mul hp h1
  omega
theorem bpC_le {V : sD} {nt ng nr nl w : Nat} (I : Iv V nt ng nr nl) (i : Nat) (hi : i ≤ ng) : (fo (bpF V ng w) i 0 (0, 0)).1 ≤ 999 := by
  obtain ⟨_, _, c3, _⟩ := bpC_inv (V := V) (ng := ng) (w := w) i
  cases c3 with
  | inl h => omega
  | inr h => obtain ⟨g, hg, e⟩ := h; have := (mn_eq I (show g < ng by omega)).2; omega
section C91
variable {nx : Nat} {xs : Nat → Int32} {d c s : Nat} {sh : List sC} {D : sD} {Q : av_Q}
variable {G : GT}
theorem k150 {w p : Nat} (hv : GV G) (h : GC sh D G) (hw16 : w < 16) (hp : p ≤ 999) : Wx (tP nx xs) d 150 0 [some (.ref 0), (some (.int (Int32.ofNat w))), (some (.int (Int32.ofNat p))), none, none, none] [] (mk sh D) c s Q = Q (.inl (some (.int (Int32.ofNat (ern (gV G.1) (gg G.1) w p))))) (mk sh D) c s := by
  have hw := h.1.2
  have HS := h.1.1
  have H := St_state HS
  have I := hv.1
  have hV := h.2.1.1
  have hng := i_ng6 I
  have hnt := i_nt8 I
  have hnr := i_nr5 I
  have hnl := i_nl60 I
  have hx := h.L
  have hL := h.2.1.2
  have n10 : ¬ (Int32.ofNat 1 : Int32) = Int32.ofNat 0 := by decide
  simp only [b150_0 hw]
  suffices hl : ∀ r i l5, i + r = (gg G.1) → Wx (tP nx xs) d 150 5 [some (.ref 0), (some (.int (Int32.ofNat w))), (some (.int (Int32.ofNat p))), (some (.int (Int32.ofNat (nS (pyP (gV G.1) w p) i)))), (some (.int (Int32.ofNat i))), l5] [] (mk sh D) c s Q = Q (.inl (some (.int (Int32.ofNat (ern (gV G.1) (gg G.1) w p))))) (mk sh D) c s from hl (gg G.1) 0 none (by omega)
  intro r
  induction r with
  | zero =>
    intro i l5 hi
    have hi' : i = (gg G.1) := by omega
    subst hi'
    rw [b150_5 hw]
    simp only [xR_tape HS, xI_wrongAt HS, xF_wrongAt HS, xR_state HS, xR_image HS, xI_imageKept HS, xF_imageKept HS, xR_draft HS, xR_memory HS, xR_lawText HS, xR_worlds HS, xI_worldsFresh HS, xF_worldsFresh HS, xR_otherWorlds HS, xR_seating HS, xR_pairing HS, xI_toldSo HS, xF_toldSo HS, xI_toldNot HS, xF_toldNot HS, xO HS, sR_things H, sI_goers H, sF_goers H, sR_wish H, sR_deed H, sI_makers H, sF_makers H, sR_born H, sR_money H, sR_nerve H, sR_shuns H, sR_by H, sI_trains H, sF_trains H, sR_halts H, sR_seats H, sI_texts H, sF_texts H, sI_law H, sF_law H, sI_day H, sF_day H, sI_seed H, sF_seed H, sR_log H, sO_state H, sI_count H, sF_count H, sI_first H, sF_first H, sR_at H, sR_worth H, sR_makes H, sR_hinders H, sO_things H, sI_rows H, sF_rows H, sR_entries H, sO_log H, sA_2 H, sW_2 H, sA_3 H, sW_3 H, sA_4 H, sW_4 H, sA_5 H, sW_5 H, sA_6 H, sW_6 H, sA_7 H, sW_7 H, sA_8 H, sW_8 H, sA_9 H, sW_9 H, sA_10 H, sW_10 H, sA_11 H, sW_11 H, sA_12 H, sW_12 H, sA_13 H, sW_13 H, sA_14 H, sW_14 H, sA_16 H, sW_16 H, wi_some, or_0, or_1, bo_or, ite_boP, true_and, and_true, kN_v, kN_n, kT_v, kT_n, kT_e, Nat.add_zero, Nat.zero_add, v_0 hV, v_1 hV, v_2 hV, v_3 hV, v_4 hV, v_5 hV, v_6 hV, v_7 hV, v_8 hV, v_9 hV, v_10 hV, v_11 hV, v_12 hV, v_13 hV, v_14 hV, v_15 hV, v_16 hV, i_ng I, oN_lt (show (gg G.1) < 2147483648 by omega) (show (gg G.1) < 2147483648 by omega), Nat.lt_irrefl, if_false, oN_mul]
    rfl
  | succ r ih =>
    intro i l5 hi
    have hi2 : i < (gg G.1) := by omega
    have hi6 : i < 6 := by omega
    obtain ⟨em, hm⟩ := mn_eq I hi2
    obtain ⟨n, hn, en⟩ := i_wish I hi2
    have ih := fun l => ih (i + 1) l (by omega)
    rw [nS_succ] at ih
    have ep : pyP (gV G.1) w p i = ((decide ((gV G.1) 12 i = -1) && decide ((gV G.1) 6 i = Int32.ofNat w)) && decide (p ≤ mnN (gV G.1) i)) := rfl
    rw [b150_5 hw]
    simp only [xR_tape HS, xI_wrongAt HS, xF_wrongAt HS, xR_state HS, xR_image HS, xI_imageKept HS, xF_imageKept HS, xR_draft HS, xR_memory HS, xR_lawText HS, xR_worlds HS, xI_worldsFresh HS, xF_worldsFresh HS, xR_otherWorlds HS, xR_seating HS, xR_pairing HS, xI_toldSo HS, xF_toldSo HS, xI_toldNot HS, xF_toldNot HS, xO HS, sR_things H, sI_goers H, sF_goers H, sR_wish H, sR_deed H, sI_makers H, sF_makers H, sR_born H, sR_money H, sR_nerve H, sR_shuns H, sR_by H, sI_trains H, sF_trains H, sR_halts H, sR_seats H, sI_texts H, sF_texts H, sI_law H, sF_law H, sI_day H, sF_day H, sI_seed H, sF_seed H, sR_log H, sO_state H, sI_count H, sF_count H, sI_first H, sF_first H, sR_at H, sR_worth H, sR_makes H, sR_hinders H, sO_things H, sI_rows H, sF_rows H, sR_entries H, sO_log H, sA_2 H, sW_2 H, sA_3 H, sW_3 H, sA_4 H, sW_4 H, sA_5 H, sW_5 H, sA_6 H, sW_6 H, sA_7 H, sW_7 H, sA_8 H, sW_8 H, sA_9 H, sW_9 H, sA_10 H, sW_10 H, sA_11 H, sW_11 H, sA_12 H, sW_12 H, sA_13 H, sW_13 H, sA_14 H, sW_14 H, sA_16 H, sW_16 H, wi_some, or_0, or_1, bo_or, ite_boP, true_and, and_true, kN_v, kN_n, kT_v, kT_n, kT_e, Nat.add_zero, Nat.zero_add, v_0 hV, v_1 hV, v_2 hV, v_3 hV, v_4 hV, v_5 hV, v_6 hV, v_7 hV, v_8 hV, v_9 hV, v_10 hV, v_11 hV, v_12 hV, v_13 hV, v_14 hV, v_15 hV, v_16 hV, i_ng I, oN_lt (show i < 2147483648 by omega) (show (gg G.1) < 2147483648 by omega), hi2, if_true, hi6, b150_49 hw, b150_50 hw, b150_74 hw, oN_add, em, oN_lt (show mnN (gV G.1) i < 2147483648 by omega) (show p < 2147483648 by omega)]
    by_cases h1 : (gV G.1) 12 i = -1
    · by_cases h2 : (gV G.1) 6 i = Int32.ofNat w
      · by_cases h3 : mnN (gV G.1) i < p
        · have e : pyP (gV G.1) w p i = false := by rw [ep, decide_eq_false (show ¬ p ≤ mnN (gV G.1) i by omega), Bool.and_false]
          simp only [e, Bool.false_eq_true, if_false, Nat.add_zero] at ih
          simp only [h1, h2, h3, if_true, n10, if_false]
          exact ih _
        · have e : pyP (gV G.1) w p i = true := by rw [ep, decide_eq_true h1, decide_eq_true h2, decide_eq_true (show p ≤ mnN (gV G.1) i by omega)]; rfl
          simp only [e, if_true] at ih
          simp only [h1, h2, h3, if_true, n10, if_false]
          exact ih _
      · have e : pyP (gV G.1) w p i = false := by rw [ep, decide_eq_false h2, Bool.and_false, Bool.false_and]
        simp only [e, Bool.false_eq_true, if_false, Nat.add_zero] at ih
        simp only [h1, h2, if_true, if_false]
        exact ih _
    · have e : pyP (gV G.1) w p i = false := by rw [ep, decide_eq_false h1, Bool.false_and, Bool.false_and]
      simp only [e, Bool.false_eq_true, if_false, Nat.add_zero] at ih
      simp only [h1, if_false, if_true]
      exact ih _
theorem k149 {w : Nat} (hv : GV G) (h : GC sh D G) (hw16 : w < 16) : Wx (tP nx xs) (d + 1) 149 0 [some (.ref 0), (some (.int (Int32.ofNat w))), none, none, none, none, none] [] (mk sh D) c s Q = Q (.inl (some (.int (Int32.ofNat (bpC (gV G.1) (gg G.1) w).1)))) (mk sh D) c s := by
  have hw := h.1.2
  have HS := h.1.1
  have H := St_state HS
  have I := hv.1
  have hV := h.2.1.1
  have hng := i_ng6 I
  have hnt := i_nt8 I
  have hnr := i_nr5 I
  have hnl := i_nl60 I
  have hx := h.L
  have hL := h.2.1.2
  simp only [b149_0 hw]
  suffices hl : ∀ r i l5 l6, i + r = (gg G.1) → Wx (tP nx xs) (d + 1) 149 7 [some (.ref 0), (some (.int (Int32.ofNat w))), (some (.int (Int32.ofNat (fo (bpF (gV G.1) (gg G.1) w) i 0 (0, 0)).1))), (some (.int (Int32.ofNat (fo (bpF (gV G.1) (gg G.1) w) i 0 (0, 0)).2))), (some (.int (Int32.ofNat i))), l5, l6] [] (mk sh D) c s Q = Q (.inl (some (.int (Int32.ofNat (bpC (gV G.1) (gg G.1) w).1)))) (mk sh D) c s from hl (gg G.1) 0 none none (by omega)
  intro r
  induction r with
  | zero =>
    intro i l5 l6 hi
    have hi' : i = (gg G.1) := by omega
    subst hi'
    rw [b149_7 hw]
    simp only [xR_tape HS, xI_wrongAt HS, xF_wrongAt HS, xR_state HS, xR_image HS, xI_imageKept HS, xF_imageKept HS, xR_draft HS, xR_memory HS, xR_lawText HS, xR_worlds HS, xI_worldsFresh HS, xF_worldsFresh HS, xR_otherWorlds HS, xR_seating HS, xR_pairing HS, xI_toldSo HS, xF_toldSo HS, xI_toldNot HS, xF_toldNot HS, xO HS, sR_things H, sI_goers H, sF_goers H, sR_wish H, sR_deed H, sI_makers H, sF_makers H, sR_born H, sR_money H, sR_nerve H, sR_shuns H, sR_by H, sI_trains H, sF_trains H, sR_halts H, sR_seats H, sI_texts H, sF_texts H, sI_law H, sF_law H, sI_day H, sF_day H, sI_seed H, sF_seed H, sR_log H, sO_state H, sI_count H, sF_count H, sI_first H, sF_first H, sR_at H, sR_worth H, sR_makes H, sR_hinders H, sO_things H, sI_rows H, sF_rows H, sR_entries H, sO_log H, sA_2 H, sW_2 H, sA_3 H, sW_3 H, sA_4 H, sW_4 H, sA_5 H, sW_5 H, sA_6 H, sW_6 H, sA_7 H, sW_7 H, sA_8 H, sW_8 H, sA_9 H, sW_9 H, sA_10 H, sW_10 H, sA_11 H, sW_11 H, sA_12 H, sW_12 H, sA_13 H, sW_13 H, sA_14 H, sW_14 H, sA_16 H, sW_16 H, wi_some, or_0, or_1, bo_or, ite_boP, true_and, and_true, kN_v, kN_n, kT_v, kT_n, kT_e, Nat.add_zero, Nat.zero_add, v_0 hV, v_1 hV, v_2 hV, v_3 hV, v_4 hV, v_5 hV, v_6 hV, v_7 hV, v_8 hV, v_9 hV, v_10 hV, v_11 hV, v_12 hV, v_13 hV, v_14 hV, v_15 hV, v_16 hV, i_ng I, oN_lt (show (gg G.1) < 2147483648 by omega) (show (gg G.1) < 2147483648 by omega), Nat.lt_irrefl, if_false]
    rfl
  | succ r ih =>
    intro i l5 l6 hi
    have hi2 : i < (gg G.1) := by omega
    have hi6 : i < 6 := by omega
    obtain ⟨em, hm⟩ := mn_eq I hi2
    have ih := fun l l' => ih (i + 1) l l' (by omega)
    rw [fo_snoc, Nat.zero_add] at ih
    have z1 := bpC_le (w := w) I i (by omega)
    have z2 : (fo (bpF (gV G.1) (gg G.1) w) i 0 (0, 0)).2 ≤ 5994 := by
      rw [(bpC_inv (V := (gV G.1)) (ng := (gg G.1)) (w := w) i).1]
      exact ern_le hng z1
    have z3 := ern_le (V := (gV G.1)) (w := w) hng hm
    generalize fo (bpF (gV G.1) (gg G.1) w) i 0 (0, 0) = z at *
    rw [b149_7 hw]
    simp only [xR_tape HS, xI_wrongAt HS, xF_wrongAt HS, xR_state HS, xR_image HS, xI_imageKept HS, xF_imageKept HS, xR_draft HS, xR_memory HS, xR_lawText HS, xR_worlds HS, xI_worldsFresh HS, xF_worldsFresh HS, xR_otherWorlds HS, xR_seating HS, xR_pairing HS, xI_toldSo HS, xF_toldSo HS, xI_toldNot HS, xF_toldNot HS, xO HS, sR_things H, sI_goers H, sF_goers H, sR_wish H, sR_deed H, sI_makers H, sF_makers H, sR_born H, sR_money H, sR_nerve H, sR_shuns H, sR_by H, sI_trains H, sF_trains H, sR_halts H, sR_seats H, sI_texts H, sF_texts H, sI_law H, sF_law H, sI_day H, sF_day H, sI_seed H, sF_seed H, sR_log H, sO_state H, sI_count H, sF_count H, sI_first H, sF_first H, sR_at H, sR_worth H, sR_makes H, sR_hinders H, sO_things H, sI_rows H, sF_rows H, sR_entries H, sO_log H, sA_2 H, sW_2 H, sA_3 H, sW_3 H, sA_4 H, sW_4 H, sA_5 H, sW_5 H, sA_6 H, sW_6 H, sA_7 H, sW_7 H, sA_8 H, sW_8 H, sA_9 H, sW_9 H, sA_10 H, sW_10 H, sA_11 H, sW_11 H, sA_12 H, sW_12 H, sA_13 H, sW_13 H, sA_14 H, sW_14 H, sA_16 H, sW_16 H, wi_some, or_0, or_1, bo_or, ite_boP, true_and, and_true, kN_v, kN_n, kT_v, kT_n, kT_e, Nat.add_zero, Nat.zero_add, v_0 hV, v_1 hV, v_2 hV, v_3 hV, v_4 hV, v_5 hV, v_6 hV, v_7 hV, v_8 hV, v_9 hV, v_10 hV, v_11 hV, v_12 hV, v_13 hV, v_14 hV, v_15 hV, v_16 hV, i_ng I, oN_lt (show i < 2147483648 by omega) (show (gg G.1) < 2147483648 by omega), hi2, if_true, hi6, em, k150 hv h hw16 hm, b149_38 hw, b149_58 hw, b149_64 hw, oN_add, oN_lt (show z.2 < 2147483648 by omega) (show ern (gV G.1) (gg G.1) w (mnN (gV G.1) i) < 2147483648 by omega), oN_eq (show ern (gV G.1) (gg G.1) w (mnN (gV G.1) i) < 2147483648 by omega) (show z.2 < 2147483648 by omega), oN_lt (show mnN (gV G.1) i < 2147483648 by omega) (show z.1 < 2147483648 by omega)]
    unfold bpF at ih
    by_cases h1 : z.2 < ern (gV G.1) (gg G.1) w (mnN (gV G.1) i)
    · simp only [h1, true_or, if_true] at ih ⊢; exact ih _ _
    · by_cases h2 : ern (gV G.1) (gg G.1) w (mnN (gV G.1) i) = z.2
      · by_cases h3 : mnN (gV G.1) i < z.1
        · rw [if_pos (Or.inr ⟨h2, h3⟩)] at ih
          simp only [h1, h2, h3, if_true, if_false, Nat.lt_irrefl] at ih ⊢; exact ih _ _
        · rw [if_neg (by omega)] at ih
          simp only [h1, h2, h3, if_true, if_false, Nat.lt_irrefl]; exact ih _ _
      · rw [if_neg (by omega)] at ih
        simp only [h1, h2, if_false]; exact ih _ _
theorem bp_999 {w : Nat} (hv : GV G) : (bpC (gV G.1) (gg G.1) w).1 ≤ 999 := bpC_le (w := w) hv.1 (gg G.1) (Nat.le_refl _)
theorem c_price {x : Int32} {b : Bool} (hv : GV G) (h : GC sh D G) (kk : Q (oQ (fun _ => xIO) (o_price G x b)) (mk sh D) (c + o1 (o_price G x b)) (s + 6 * o1 (o_price G x b))) : Wx (tP nx xs) (d + 2) 147 0 [some (.ref 0), (some (.int (x))), (some (.int (bo b))), none] [] (mk sh D) c s Q := by
  have hw := h.1.2
  have HS := h.1.1
  have H := St_state HS
  have I := hv.1
  have hV := h.2.1.1
  have hng := i_ng6 I
  have hnt := i_nt8 I
  have hnr := i_nr5 I
  have hnl := i_nl60 I
  have hx := h.L
  have hL := h.2.1.2
  have n10 : ¬ (Int32.ofNat 1 : Int32) = Int32.ofNat 0 := by decide
  unfold o_price at kk
  simp only [b147_0 hw, k179 hw]
  cases hi : ixO x 16 with
  | none => simp only [hi, oQ, o1, wi_some, or_0, or_1, bo_or, ite_boP, true_and, and_true, kN_v, kN_n, kT_v, kT_n, kT_e, Nat.add_zero, Nat.zero_add] at kk ⊢; exact kk
  | some w =>
    obtain ⟨hw16, rfl⟩ := ixO_some (by omega) hi
    simp only [hi, oQ, o1, Nat.mul_zero, Nat.add_zero] at kk
    simp only [wi_some, or_0, or_1, bo_or, ite_boP, true_and, and_true, kN_v, kN_n, kT_v, kT_n, kT_e, Nat.add_zero, Nat.zero_add, b147_4 hw, xR_tape HS, xI_wrongAt HS, xF_wrongAt HS, xR_state HS, xR_image HS, xI_imageKept HS, xF_imageKept HS, xR_draft HS, xR_memory HS, xR_lawText HS, xR_worlds HS, xI_worldsFresh HS, xF_worldsFresh HS, xR_otherWorlds HS, xR_seating HS, xR_pairing HS, xI_toldSo HS, xF_toldSo HS, xI_toldNot HS, xF_toldNot HS, xO HS, k149 hv h hw16, b147_9 hw, k150 hv h hw16 (bp_999 hv), b147_20 hw, b147_24 hw]
    cases b <;> simp only [bo_f, bo_t, n10, if_true, if_false, Bool.false_eq_true] at kk ⊢ <;> exact kk
theorem c_dearest (hv : GV G) (h : GC sh D G) (kk : Q (.inl (some (.int (Int32.ofNat (drS G 15))))) (mk sh D) c s) : Wx (tP nx xs) (d + 2) 148 0 [some (.ref 0), none, none, none, none] [] (mk sh D) c s Q := by
  have hw := h.1.2
  have HS := h.1.1
  have H := St_state HS
  have I := hv.1
  have hV := h.2.1.1
  have hng := i_ng6 I
  have hnt := i_nt8 I
  have hnr := i_nr5 I
  have hnl := i_nl60 I
  have hx := h.L
  have hL := h.2.1.2
  have eL : ∀ w, erB G w ≤ 5994 := fun w => ern_le hng (bp_999 hv)
  have er : ∀ w, ern (gV G.1) (gg G.1) w (bpC (gV G.1) (gg G.1) w).1 = erB G w := fun _ => rfl
  simp only [b148_0 hw]
  rw [b148_6 hw]
  have hm1 : (-1 : Int32) < Int32.ofNat (erB G 0) := by
    have h1 : (-1 : Int32) < Int32.ofNat 0 := by decide
    have h2 := eL 0
    rw [Int32.lt_iff_toInt_lt, oN_ti (by omega)]
    have : Int32.toInt (-1 : Int32) = -1 := by decide
    omega
  have k0 : 0 < 16 := by decide
  simp only [show (Int32.ofNat 0 : Int32) < Int32.ofNat 16 by decide, if_true, xR_tape HS, xI_wrongAt HS, xF_wrongAt HS, xR_state HS, xR_image HS, xI_imageKept HS, xF_imageKept HS, xR_draft HS, xR_memory HS, xR_lawText HS, xR_worlds HS, xI_worldsFresh HS, xF_worldsFresh HS, xR_otherWorlds HS, xR_seating HS, xR_pairing HS, xI_toldSo HS, xF_toldSo HS, xI_toldNot HS, xF_toldNot HS, xO HS, wi_some, or_0, or_1, bo_or, ite_boP, true_and, and_true, kN_v, kN_n, kT_v, kT_n, kT_e, Nat.add_zero, Nat.zero_add, k149 hv h k0, b148_19 hw, k150 hv h k0 (bp_999 hv), b148_22 hw, er, hm1, b148_35 hw, oN_add]
  have hl : ∀ r i l4, i + r = 15 → Wx (tP nx xs) (d + 2) 148 6 [some (.ref 0), (some (.int (Int32.ofNat (drS G i)))), (some (.int (Int32.ofNat (erB G (drS G i))))), (some (.int (Int32.ofNat (1 + i)))), l4] [] (mk sh D) c s Q := by
    intro r
    induction r with
    | zero =>
      intro i l4 hi
      have hi' : i = 15 := by omega
      subst hi'
      rw [b148_6 hw]
      simp only [oN_lt (show 1 + 15 < 2147483648 by omega) (show 16 < 2147483648 by omega), show ¬ 1 + 15 < 16 by omega, if_false]
      exact kk
    | succ r ih =>
      intro i l4 hi
      have ih := fun l => ih (i + 1) l (by omega)
      have e : drS G (i + 1) = if erB G (drS G i) < erB G (1 + i) then 1 + i else drS G i := by unfold drS; rw [fo_snoc]
      rw [e] at ih
      have hi16 : 1 + i < 16 := by omega
      have l1 := eL (drS G i)
      have l2 := eL (1 + i)
      rw [b148_6 hw]
      simp only [oN_lt (show 1 + i < 2147483648 by omega) (show 16 < 2147483648 by omega), hi16, if_true, xR_tape HS, xI_wrongAt HS, xF_wrongAt HS, xR_state HS, xR_image HS, xI_imageKept HS, xF_imageKept HS, xR_draft HS, xR_memory HS, xR_lawText HS, xR_worlds HS, xI_worldsFresh HS, xF_worldsFresh HS, xR_otherWorlds HS, xR_seating HS, xR_pairing HS, xI_toldSo HS, xF_toldSo HS, xI_toldNot HS, xF_toldNot HS, xO HS, wi_some, or_0, or_1, bo_or, ite_boP, true_and, and_true, kN_v, kN_n, kT_v, kT_n, kT_e, Nat.add_zero, Nat.zero_add, k149 hv h hi16, b148_19 hw, k150 hv h hi16 (bp_999 hv), b148_22 hw, er, b148_35 hw, oN_add, oN_lt (show erB G (drS G i) < 2147483648 by omega) (show erB G (1 + i) < 2147483648 by omega)]
      by_cases hlt : erB G (drS G i) < erB G (1 + i)
      · simp only [hlt, if_true] at ih ⊢; exact ih _
      · simp only [hlt, if_false] at ih ⊢; exact ih _
  exact hl 15 0 _ (by omega)
/-! the reference -/
theorem k321 {V : sD} {nt ng nr nl w p : Nat} (hw : WT sh) (HS : SP sh) (R : Rw (D 287) V nt ng nr nl) (I : Iv V nt ng nr nl) (hp : p ≤ 999) : Wx (tP nx xs) (d + 3) 321 0 [some (.ref 286), (some (.int (Int32.ofNat w))), (some (.int (Int32.ofNat p))), none, none] [] (mk sh D) c s Q = Q (.inl (some (.int (Int32.ofNat (pyN V ng w p))))) (mk sh D) c s := by
  have hng := i_ng6 I
  have n10 : ¬ (Int32.ofNat 1 : Int32) = Int32.ofNat 0 := by decide
  have z0 : 0 < 11 := by decide
  have z4 : 4 < 11 := by decide
  simp only [b321_0 hw]
  refine (up_loop (W := fun i (_ : Nat) => Wx (tP nx xs) (d + 3) 321 5 [some (.ref 286), (some (.int (Int32.ofNat w))), (some (.int (Int32.ofNat p))), (some (.int (Int32.ofNat (nS (pyP V w p) i)))), (some (.int (Int32.ofNat i)))] [] (mk sh D) c s Q) (F := fun _ x => x) ng (fun i _ hi => ?_) 0).trans ?_
  · have hi6 : i < 6 := by omega
    obtain ⟨em, hm⟩ := mn_eq I hi
    have ep : pyP V w p i = ((decide (V 12 i = -1) && decide (V 6 i = Int32.ofNat w)) && decide (p ≤ mnN V i)) := rfl
    rw [b321_5 hw, nS_succ]
    simp only [mI_thrown HS, mF_thrown HS, mR_row HS, mR_image HS, mR_earlier HS, mR_trial HS, mR_acts HS, mI_hasImage HS, mF_hasImage HS, mI_remembered HS, mF_remembered HS, mR_tape HS, mI_taped HS, mF_taped HS, mI_point HS, mF_point HS, mI_end HS, mF_end HS, mI_begin HS, mF_begin HS, mI_deep HS, mF_deep HS, mI_faultAt HS, mF_faultAt HS, mR_five HS, mI_codes HS, mF_codes HS, mR_value HS, mI_so HS, mF_so HS, mR_lines HS, mR_chosen HS, mR_best HS, mR_members HS, mR_paired HS, mO HS, mA_287 HS, mW_287 HS, mA_288 HS, mW_288 HS, mA_289 HS, mW_289 HS, mA_290 HS, mW_290 HS, mA_291 HS, mW_291 HS, mA_292 HS, mW_292 HS, mA_293 HS, mW_293 HS, mA_294 HS, mW_294 HS, mA_295 HS, mW_295 HS, mA_296 HS, mW_296 HS, mA_297 HS, mW_297 HS, mA_298 HS, mW_298 HS, mA_299 HS, mW_299 HS, wi_some, or_0, or_1, bo_or, ite_boP, true_and, and_true, kN_v, kN_n, kT_v, kT_n, kT_e, Nat.add_zero, Nat.zero_add, k198 hw HS, r_ng R, b321_11 hw, oN_lt (show i < 2147483648 by omega) (show ng < 2147483648 by omega), hi, if_true, k207 hw HS R hng hi, b321_21 hw, k203 hw HS hi6 z0, r_wish0 R hi, b321_31 hw, k203 hw HS hi6 z4, r_money R hi, em, b321_42 hw, b321_50 hw, b321_51 hw, oN_add, oN_lt (show mnN V i < 2147483648 by omega) (show p < 2147483648 by omega)]
    by_cases h1 : V 12 i = -1
    · by_cases h2 : V 6 i = Int32.ofNat w
      · by_cases h3 : mnN V i < p
        · have e : pyP V w p i = false := by rw [ep, decide_eq_false (show ¬ p ≤ mnN V i by omega), Bool.and_false]
          simp only [e, Bool.false_eq_true, if_false, Nat.add_zero, h1, h2, h3, if_true, not_true_eq_false, decide_false]
        · have e : pyP V w p i = true := by rw [ep, decide_eq_true h1, decide_eq_true h2, decide_eq_true (show p ≤ mnN V i by omega)]; rfl
          simp only [e, if_true, h1, h2, h3, if_false, not_true_eq_false, decide_false, Bool.false_eq_true]
      · have e : pyP V w p i = false := by rw [ep, decide_eq_false h2, Bool.and_false, Bool.false_and]
        simp only [e, Bool.false_eq_true, if_false, Nat.add_zero, h1, h2, if_true, not_true_eq_false, decide_false]
    · have e : pyP V w p i = false := by rw [ep, decide_eq_false h1, Bool.false_and, Bool.false_and]
      simp only [e, Bool.false_eq_true, if_false, Nat.add_zero, h1, if_true, not_false_eq_true, decide_true]
  · rw [b321_5 hw]
    simp only [mI_thrown HS, mF_thrown HS, mR_row HS, mR_image HS, mR_earlier HS, mR_trial HS, mR_acts HS, mI_hasImage HS, mF_hasImage HS, mI_remembered HS, mF_remembered HS, mR_tape HS, mI_taped HS, mF_taped HS, mI_point HS, mF_point HS, mI_end HS, mF_end HS, mI_begin HS, mF_begin HS, mI_deep HS, mF_deep HS, mI_faultAt HS, mF_faultAt HS, mR_five HS, mI_codes HS, mF_codes HS, mR_value HS, mI_so HS, mF_so HS, mR_lines HS, mR_chosen HS, mR_best HS, mR_members HS, mR_paired HS, mO HS, mA_287 HS, mW_287 HS, mA_288 HS, mW_288 HS, mA_289 HS, mW_289 HS, mA_290 HS, mW_290 HS, mA_291 HS, mW_291 HS, mA_292 HS, mW_292 HS, mA_293 HS, mW_293 HS, mA_294 HS, mW_294 HS, mA_295 HS, mW_295 HS, mA_296 HS, mW_296 HS, mA_297 HS, mW_297 HS, mA_298 HS, mW_298 HS, mA_299 HS, mW_299 HS, wi_some, or_0, or_1, bo_or, ite_boP, true_and, and_true, kN_v, kN_n, kT_v, kT_n, kT_e, Nat.add_zero, Nat.zero_add, k198 hw HS, r_ng R, b321_11 hw, oN_lt (show ng < 2147483648 by omega) (show ng < 2147483648 by omega), Nat.lt_irrefl, if_false]
    rfl
theorem bpM_le {V : sD} {ng w n : Nat} : bpM V ng w n ≤ n := (bpM_inv n).1
theorem k322 {V : sD} {nt ng nr nl w : Nat} (hw : WT sh) (HS : SP sh) (R : Rw (D 287) V nt ng nr nl) (I : Iv V nt ng nr nl) : Wx (tP nx xs) (d + 4) 322 0 [some (.ref 286), (some (.int (Int32.ofNat w))), none, none] [] (mk sh D) c s Q = Q (.inl (some (.int (Int32.ofNat (bpC V ng w).1)))) (mk sh D) c s := by
  have hng := i_ng6 I
  rw [best_is I]
  simp only [b322_0 hw]
  refine (up_loop (W := fun i (_ : Nat) => Wx (tP nx xs) (d + 4) 322 4 [some (.ref 286), (some (.int (Int32.ofNat w))), (some (.int (Int32.ofNat (bpM V ng w i)))), (some (.int (Int32.ofNat (1 + i))))] [] (mk sh D) c s Q) (F := fun _ x => x) 999 (fun i _ hi => ?_) 0).trans ?_
  · have hb := bpM_le (V := V) (ng := ng) (w := w) (n := i)
    have l1 := ern_le (V := V) (ng := ng) (w := w) (p := bpM V ng w i) hng (by omega)
    have l2 := ern_le (V := V) (ng := ng) (w := w) (p := 1 + i) hng (by omega)
    have e : bpM V ng w (i + 1) = if ern V ng w (bpM V ng w i) < ern V ng w (1 + i) then 1 + i else bpM V ng w i := by unfold bpM; rw [fo_snoc]
    have er : ∀ p, p * pyN V ng w p = ern V ng w p := fun _ => rfl
    rw [b322_4 hw, e]
    simp only [oN_lt (show 999 < 2147483648 by omega) (show 1 + i < 2147483648 by omega), show ¬ 999 < 1 + i by omega, if_false, mI_thrown HS, mF_thrown HS, mR_row HS, mR_image HS, mR_earlier HS, mR_trial HS, mR_acts HS, mI_hasImage HS, mF_hasImage HS, mI_remembered HS, mF_remembered HS, mR_tape HS, mI_taped HS, mF_taped HS, mI_point HS, mF_point HS, mI_end HS, mF_end HS, mI_begin HS, mF_begin HS, mI_deep HS, mF_deep HS, mI_faultAt HS, mF_faultAt HS, mR_five HS, mI_codes HS, mF_codes HS, mR_value HS, mI_so HS, mF_so HS, mR_lines HS, mR_chosen HS, mR_best HS, mR_members HS, mR_paired HS, mO HS, mA_287 HS, mW_287 HS, mA_288 HS, mW_288 HS, mA_289 HS, mW_289 HS, mA_290 HS, mW_290 HS, mA_291 HS, mW_291 HS, mA_292 HS, mW_292 HS, mA_293 HS, mW_293 HS, mA_294 HS, mW_294 HS, mA_295 HS, mW_295 HS, mA_296 HS, mW_296 HS, mA_297 HS, mW_297 HS, mA_298 HS, mW_298 HS, mA_299 HS, mW_299 HS, wi_some, or_0, or_1, bo_or, ite_boP, true_and, and_true, kN_v, kN_n, kT_v, kT_n, kT_e, Nat.add_zero, Nat.zero_add, k321 hw HS R I (show 1 + i ≤ 999 by omega), b322_18 hw, k321 hw HS R I (show bpM V ng w i ≤ 999 by omega), b322_26 hw, b322_35 hw, oN_mul, oN_add, er, oN_lt (show ern V ng w (bpM V ng w i) < 2147483648 by omega) (show ern V ng w (1 + i) < 2147483648 by omega)]
    by_cases h : ern V ng w (bpM V ng w i) < ern V ng w (1 + i)
    · simp only [h, if_true]; rfl
    · simp only [h, if_false]; rfl
  · rw [b322_4 hw]
    simp only [oN_lt (show 999 < 2147483648 by omega) (show 1 + 999 < 2147483648 by omega), show 999 < 1 + 999 by omega, if_true]
theorem k323 {w : Nat} (hw : WT sh) (HS : SP sh) (hv : GV G) (R : Rw (D 287) (gV G.1) (gt G.1) (gg G.1) (gr G.1) (gl G.1)) : Wx (tP nx xs) (d + 5) 323 0 [some (.ref 286), (some (.int (Int32.ofNat w))), none] [] (mk sh D) c s Q = Q (.inl (some (.int (Int32.ofNat (erB G w))))) (mk sh D) c s := by
  simp only [b323_0 hw, mI_thrown HS, mF_thrown HS, mR_row HS, mR_image HS, mR_earlier HS, mR_trial HS, mR_acts HS, mI_hasImage HS, mF_hasImage HS, mI_remembered HS, mF_remembered HS, mR_tape HS, mI_taped HS, mF_taped HS, mI_point HS, mF_point HS, mI_end HS, mF_end HS, mI_begin HS, mF_begin HS, mI_deep HS, mF_deep HS, mI_faultAt HS, mF_faultAt HS, mR_five HS, mI_codes HS, mF_codes HS, mR_value HS, mI_so HS, mF_so HS, mR_lines HS, mR_chosen HS, mR_best HS, mR_members HS, mR_paired HS, mO HS, mA_287 HS, mW_287 HS, mA_288 HS, mW_288 HS, mA_289 HS, mW_289 HS, mA_290 HS, mW_290 HS, mA_291 HS, mW_291 HS, mA_292 HS, mW_292 HS, mA_293 HS, mW_293 HS, mA_294 HS, mW_294 HS, mA_295 HS, mW_295 HS, mA_296 HS, mW_296 HS, mA_297 HS, mW_297 HS, mA_298 HS, mW_298 HS, mA_299 HS, mW_299 HS, wi_some, or_0, or_1, bo_or, ite_boP, true_and, and_true, kN_v, kN_n, kT_v, kT_n, kT_e, Nat.add_zero, Nat.zero_add, k322 hw HS R hv.1, b323_5 hw, k321 hw HS R hv.1 (bp_999 hv), b323_13 hw, oN_mul]
  rfl
theorem m_price {x : Int32} {b : Bool} (hw : WT sh) (HS : SP sh) (hv : GV G) (h : GR D G) (kk : ∀ D', Ms D D' → D' 286 0 = Int32.ofNat (th (o_price G x b)) → Q (.inl (some (.int (rv (o_price G x b))))) (mk sh D') c s) : Wx (tP nx xs) (d + 6) 324 0 [some (.ref 286), (some (.int (x))), (some (.int (bo b)))] [] (mk sh D) c s Q := by
  have n10 : ¬ (Int32.ofNat 1 : Int32) = Int32.ofNat 0 := by decide
  have h1 := h.ms hv (Ms.rf.th (v := Int32.ofNat 0))
  have R1 := h1.1.1
  unfold o_price at kk
  simp only [b324_0 hw, b324_5 hw, mI_thrown HS, mF_thrown HS, mR_row HS, mR_image HS, mR_earlier HS, mR_trial HS, mR_acts HS, mI_hasImage HS, mF_hasImage HS, mI_remembered HS, mF_remembered HS, mR_tape HS, mI_taped HS, mF_taped HS, mI_point HS, mF_point HS, mI_end HS, mF_end HS, mI_begin HS, mF_begin HS, mI_deep HS, mF_deep HS, mI_faultAt HS, mF_faultAt HS, mR_five HS, mI_codes HS, mF_codes HS, mR_value HS, mI_so HS, mF_so HS, mR_lines HS, mR_chosen HS, mR_best HS, mR_members HS, mR_paired HS, mO HS, mA_287 HS, mW_287 HS, mA_288 HS, mW_288 HS, mA_289 HS, mW_289 HS, mA_290 HS, mW_290 HS, mA_291 HS, mW_291 HS, mA_292 HS, mW_292 HS, mA_293 HS, mW_293 HS, mA_294 HS, mW_294 HS, mA_295 HS, mW_295 HS, mA_296 HS, mW_296 HS, mA_297 HS, mW_297 HS, mA_298 HS, mW_298 HS, mA_299 HS, mW_299 HS, wi_some, or_0, or_1, bo_or, ite_boP, true_and, and_true, kN_v, kN_n, kT_v, kT_n, kT_e, Nat.add_zero, Nat.zero_add, k213 hw, b324_10 hw]
  cases hi : ixO x 16 with
  | none =>
    simp only [hi, Option.isNone_none, bo_t, th, rv, k187t hw HS, b324_14 hw, b324_38 hw, wi_some, or_0, or_1, bo_or, ite_boP, true_and, and_true, kN_v, kN_n, kT_v, kT_n, kT_e, Nat.add_zero, Nat.zero_add, n10, if_false] at kk ⊢
    exact kk _ Ms.rf.th.th (by simp [u2_at])
  | some w =>
    obtain ⟨hw16, rfl⟩ := ixO_some (by omega) hi
    have fin := kk _ (Ms.rf.th (v := Int32.ofNat 0)) (by simp [u2_at, hi, th])
    simp only [hi, rv] at fin
    simp only [Option.isNone_some, bo_f, k187f hw HS, b324_14 hw, wi_some, or_0, or_1, bo_or, ite_boP, true_and, and_true, kN_v, kN_n, kT_v, kT_n, kT_e, Nat.add_zero, Nat.zero_add, if_true, mI_thrown HS, mF_thrown HS, mR_row HS, mR_image HS, mR_earlier HS, mR_trial HS, mR_acts HS, mI_hasImage HS, mF_hasImage HS, mI_remembered HS, mF_remembered HS, mR_tape HS, mI_taped HS, mF_taped HS, mI_point HS, mF_point HS, mI_end HS, mF_end HS, mI_begin HS, mF_begin HS, mI_deep HS, mF_deep HS, mI_faultAt HS, mF_faultAt HS, mR_five HS, mI_codes HS, mF_codes HS, mR_value HS, mI_so HS, mF_so HS, mR_lines HS, mR_chosen HS, mR_best HS, mR_members HS, mR_paired HS, mO HS, mA_287 HS, mW_287 HS, mA_288 HS, mW_288 HS, mA_289 HS, mW_289 HS, mA_290 HS, mW_290 HS, mA_291 HS, mW_291 HS, mA_292 HS, mW_292 HS, mA_293 HS, mW_293 HS, mA_294 HS, mW_294 HS, mA_295 HS, mW_295 HS, mA_296 HS, mW_296 HS, mA_297 HS, mW_297 HS, mA_298 HS, mW_298 HS, mA_299 HS, mW_299 HS, k322 hw HS R1 hv.1, k323 hw HS hv R1, b324_30 hw, b324_38 hw]
    cases b <;> simp only [bo_f, bo_t, n10, if_true, if_false, Bool.false_eq_true] at fin ⊢ <;> exact fin
theorem m_dearest (hw : WT sh) (HS : SP sh) (hv : GV G) (h : GR D G) (kk : ∀ D', Ms D D' → D' 286 0 = Int32.ofNat 0 → Q (.inl (some (.int (Int32.ofNat (drS G 15))))) (mk sh D') c s) : Wx (tP nx xs) (d + 6) 325 0 [some (.ref 286), none, none] [] (mk sh D) c s Q := by
  have hng := i_ng6 hv.1
  have h1 := h.ms hv (Ms.rf.th (v := Int32.ofNat 0))
  have R1 := h1.1.1
  have fin := kk _ (Ms.rf.th (v := Int32.ofNat 0)) (by simp [u2_at])
  have eL : ∀ w, erB G w ≤ 5994 := fun w => ern_le hng (bp_999 hv)
  simp only [b325_0 hw, b325_5 hw, mI_thrown HS, mF_thrown HS, mR_row HS, mR_image HS, mR_earlier HS, mR_trial HS, mR_acts HS, mI_hasImage HS, mF_hasImage HS, mI_remembered HS, mF_remembered HS, mR_tape HS, mI_taped HS, mF_taped HS, mI_point HS, mF_point HS, mI_end HS, mF_end HS, mI_begin HS, mF_begin HS, mI_deep HS, mF_deep HS, mI_faultAt HS, mF_faultAt HS, mR_five HS, mI_codes HS, mF_codes HS, mR_value HS, mI_so HS, mF_so HS, mR_lines HS, mR_chosen HS, mR_best HS, mR_members HS, mR_paired HS, mO HS, mA_287 HS, mW_287 HS, mA_288 HS, mW_288 HS, mA_289 HS, mW_289 HS, mA_290 HS, mW_290 HS, mA_291 HS, mW_291 HS, mA_292 HS, mW_292 HS, mA_293 HS, mW_293 HS, mA_294 HS, mW_294 HS, mA_295 HS, mW_295 HS, mA_296 HS, mW_296 HS, mA_297 HS, mW_297 HS, mA_298 HS, mW_298 HS, mA_299 HS, mW_299 HS, wi_some, or_0, or_1, bo_or, ite_boP, true_and, and_true, kN_v, kN_n, kT_v, kT_n, kT_e, Nat.add_zero, Nat.zero_add]
  generalize u2 D 286 0 (Int32.ofNat 0) = D1 at *
  have hl : ∀ r i, i + r = 15 → Wx (tP nx xs) (d + 6) 325 9 [some (.ref 286), (some (.int (Int32.ofNat (drS G i)))), (some (.int (Int32.ofNat (1 + i))))] [] (mk sh D1) c s Q := by
    intro r
    induction r with
    | zero =>
      intro i hi
      have hi' : i = 15 := by omega
      subst hi'
      rw [b325_9 hw]
      simp only [oN_lt (show 1 + 15 < 2147483648 by omega) (show 16 < 2147483648 by omega), show ¬ 1 + 15 < 16 by omega, if_false]
      exact fin
    | succ r ih =>
      intro i hi
      have ih := ih (i + 1) (by omega)
      have e : drS G (i + 1) = if erB G (drS G i) < erB G (1 + i) then 1 + i else drS G i := by unfold drS; rw [fo_snoc]
      rw [e] at ih
      have l1 := eL (drS G i)
      have l2 := eL (1 + i)
      rw [b325_9 hw]
      simp only [oN_lt (show 1 + i < 2147483648 by omega) (show 16 < 2147483648 by omega), show 1 + i < 16 by omega, if_true, mI_thrown HS, mF_thrown HS, mR_row HS, mR_image HS, mR_earlier HS, mR_trial HS, mR_acts HS, mI_hasImage HS, mF_hasImage HS, mI_remembered HS, mF_remembered HS, mR_tape HS, mI_taped HS, mF_taped HS, mI_point HS, mF_point HS, mI_end HS, mF_end HS, mI_begin HS, mF_begin HS, mI_deep HS, mF_deep HS, mI_faultAt HS, mF_faultAt HS, mR_five HS, mI_codes HS, mF_codes HS, mR_value HS, mI_so HS, mF_so HS, mR_lines HS, mR_chosen HS, mR_best HS, mR_members HS, mR_paired HS, mO HS, mA_287 HS, mW_287 HS, mA_288 HS, mW_288 HS, mA_289 HS, mW_289 HS, mA_290 HS, mW_290 HS, mA_291 HS, mW_291 HS, mA_292 HS, mW_292 HS, mA_293 HS, mW_293 HS, mA_294 HS, mW_294 HS, mA_295 HS, mW_295 HS, mA_296 HS, mW_296 HS, mA_297 HS, mW_297 HS, mA_298 HS, mW_298 HS, mA_299 HS, mW_299 HS, wi_some, or_0, or_1, bo_or, ite_boP, true_and, and_true, kN_v, kN_n, kT_v, kT_n, kT_e, Nat.add_zero, Nat.zero_add, k323 hw HS hv R1, b325_20 hw, b325_25 hw, b325_33 hw, oN_add, oN_lt (show erB G (drS G i) < 2147483648 by omega) (show erB G (1 + i) < 2147483648 by omega)]
      by_cases hlt : erB G (drS G i) < erB G (1 + i)
      · simp only [hlt, if_true] at ih ⊢; exact ih
      · simp only [hlt, if_false] at ih ⊢; exact ih
  exact hl 15 0 (by omega)
end C91
