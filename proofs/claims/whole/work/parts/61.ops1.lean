/-! ===== calls that only look: (1) ===== -/
def oQ (n : Nat → String) : Int32 ⊕ Nat → Option Value ⊕ String
  | .inl v => .inl (some (.int v))
  | .inr k => .inr (n k)
def o1 : Int32 ⊕ Nat → Nat
  | .inl _ => 0
  | .inr _ => 1
def rv : Int32 ⊕ Nat → Int32
  | .inl v => v
  | .inr _ => Int32.ofNat 0
def th : Int32 ⊕ Nat → Nat
  | .inl _ => 0
  | .inr k => k
def xIO : String := "java/lang/IndexOutOfBoundsException"
def xIA : String := "java/lang/IllegalArgumentException"
def xIS : String := "java/lang/IllegalStateException"
def xNS : String := "java/util/NoSuchElementException"
def xUO : String := "java/lang/UnsupportedOperationException"
def e2 (a b : String) (k : Nat) : String := if k = 1 then a else b
/-- a number of one of n -/
def ixO (x : Int32) (n : Nat) : Option Nat := if ¬ x < Int32.ofNat 0 ∧ x < Int32.ofNat n then some x.toNatClampNeg else none
theorem ixO_some {x : Int32} {n i : Nat} (hn : n < 1000000) (h : ixO x n = some i) : i < n ∧ x = Int32.ofNat i := by
  unfold ixO at h
  split at h
  · next hh =>
    obtain ⟨e, hb⟩ := oN_of hh.1
    cases h
    refine ⟨?_, e⟩
    have h2 := hh.2
    rw [e, oN_lt hb (by omega)] at h2
    exact h2
  · cases h
theorem ixO_none {x : Int32} {n : Nat} (h : ixO x n = none) : x < Int32.ofNat 0 ∨ ¬ x < Int32.ofNat n := by
  unfold ixO at h
  split at h
  · cases h
  · next hh =>
    by_cases h1 : x < Int32.ofNat 0
    · exact Or.inl h1
    · exact Or.inr fun h2 => hh ⟨h1, h2⟩
theorem ixO_of {n i : Nat} (hn : n < 1000000) (hi : i < n) : ixO (Int32.ofNat i) n = some i := by
  unfold ixO
  rw [if_pos ⟨oN_nn (by omega), by rw [oN_lt (by omega) (by omega)]; exact hi⟩, oN_tn (by omega)]
/-- v in 0 .. n - 1, as the reference asks -/
theorem in_ix {x : Int32} {n : Nat} (hn : n < 1000000) : (decide (¬ x < Int32.ofNat 0) && decide (¬ (Int32.ofNat n - Int32.ofNat 1) < x)) = (ixO x n).isSome := by
  unfold ixO
  by_cases h0 : x < Int32.ofNat 0
  · simp only [h0, not_true_eq_false, decide_false, Bool.false_and, false_and, if_false, Option.isSome_none]
  · obtain ⟨e, hb⟩ := oN_of h0
    generalize x.toNatClampNeg = i at e hb
    subst e
    have hn1 := oN_lt hb (show n < 2147483648 by omega)
    have hm : (Int32.ofNat n - Int32.ofNat 1 < Int32.ofNat i) = (n ≤ i) := by
      rcases Nat.eq_zero_or_pos n with e | e
      · subst e
        have : Int32.ofNat 0 - Int32.ofNat 1 = -1 := by decide
        rw [this]
        simp only [Nat.zero_le, eq_iff_iff, iff_true]
        rw [Int32.lt_iff_toInt_lt, oN_ti hb]
        have : Int32.toInt (-1) = -1 := by decide
        omega
      · rw [oN_sub (by omega), oN_lt (by omega) hb]
        apply propext
        omega
    simp only [h0, not_false_eq_true, decide_true, Bool.true_and, hm, hn1, true_and]
    by_cases h : i < n
    · simp [h, show ¬ n ≤ i by omega]
    · simp [h, show n ≤ i by omega]
theorem u2_287 {D : sD} {i : Nat} {v : Int32} : u2 D 286 i v 287 = D 287 := funext fun j => by rw [u2_at, if_neg (by omega)]
theorem xor_g : ∀ n, n < 7 → ∀ z, z < 64 → z < 2 ^ n → ∀ g, g < n → (Int32.ofNat z ^^^ jshl (Int32.ofNat 1) (Int32.ofNat g) = Int32.ofNat (Int32.ofNat z ^^^ jshl (Int32.ofNat 1) (Int32.ofNat g)).toNatClampNeg ∧ (Int32.ofNat z ^^^ jshl (Int32.ofNat 1) (Int32.ofNat g)).toNatClampNeg < 2 ^ n) := by decide +kernel
theorem sub_ev : ∀ n, n < 7 → ∀ z, z < 64 → z < 2 ^ n → Int32.ofNat z &&& (Int32.ofNat (2 ^ n - 1) ^^^ -1) = Int32.ofNat 0 := by decide +kernel
def gX (V : sD) (ng g : Nat) : Nat := (goneS V ng ^^^ jshl (Int32.ofNat 1) (Int32.ofNat g)).toNatClampNeg
theorem gX_of {V : sD} {ng g : Nat} (hn : ng ≤ 6) (hg : g < ng) : goneS V ng ^^^ jshl (Int32.ofNat 1) (Int32.ofNat g) = Int32.ofNat (gX V ng g) ∧ gX V ng g < 2 ^ ng := by
  obtain ⟨g1, g2⟩ := gN_of (V := V) hn
  have p6 : 2 ^ ng ≤ 2 ^ 6 := Nat.pow_le_pow_right (by decide) hn
  unfold gX
  rw [g1]
  exact xor_g ng (by omega) _ (by omega) g2 g hg
/-- a set of goers, cut to those there are -/
theorem cut_g : ∀ n, n < 7 → ∀ j, j < 64 → (Int32.ofNat j &&& Int32.ofNat (2 ^ n - 1)).toNatClampNeg < 2 ^ n := by decide +kernel
theorem and_ev {x : Int32} {n : Nat} (hn : n < 7) : ∃ z, z < 2 ^ n ∧ x &&& Int32.ofNat (2 ^ n - 1) = Int32.ofNat z := by
  have h : x &&& Int32.ofNat (2 ^ n - 1) = bs (fun g => bt x g) n := by
    have hb : ∀ n, n < 7 → ∀ i, i < 32 → bt (Int32.ofNat (2 ^ n - 1)) i = decide (i < n) := by decide +kernel
    apply b_ext
    intro i hi
    rw [b_and, bs_bt _ (by omega) hi, hb n hn i hi, Bool.and_comm]
  obtain ⟨m, hm, e⟩ := bs_lt (fun g => bt x g) (show n ≤ 8 by omega)
  exact ⟨m, hm, h.trans e⟩
section C61
variable {nx : Nat} {xs : Nat → Int32} {d c s : Nat} {sh : List sC} {D : sD} {Q : av_Q}
variable {G : GT}
theorem k181 {x : Int32} (hv : GV G) (h : GC sh D G) : Wx (tP nx xs) d 181 0 [some (.ref 0), (some (.int (x)))] [] (mk sh D) c s Q = match ixO x (gg G.1) with
    | some _ => Q (.inl none) (mk sh D) c s
    | none => Q (.inr xIO) (mk sh D) (c + 1) (s + 6) := by
  have hw := h.1.2
  have HS := h.1.1
  have H := St_state HS
  have I := hv.1
  have hV := h.2.1.1
  have hng := i_ng6 I
  have hnt := i_nt8 I
  have hnr := i_nr5 I
  have hnl := i_nl60 I
  have hx := h.L
  have hL := h.2.1.2
  simp only [b181_0 hw, b181_15 hw, xR_tape HS, xI_wrongAt HS, xF_wrongAt HS, xR_state HS, xR_image HS, xI_imageKept HS, xF_imageKept HS, xR_draft HS, xR_memory HS, xR_lawText HS, xR_worlds HS, xI_worldsFresh HS, xF_worldsFresh HS, xR_otherWorlds HS, xR_seating HS, xR_pairing HS, xI_toldSo HS, xF_toldSo HS, xI_toldNot HS, xF_toldNot HS, xO HS, sR_things H, sI_goers H, sF_goers H, sR_wish H, sR_deed H, sI_makers H, sF_makers H, sR_born H, sR_money H, sR_nerve H, sR_shuns H, sR_by H, sI_trains H, sF_trains H, sR_halts H, sR_seats H, sI_texts H, sF_texts H, sI_law H, sF_law H, sI_day H, sF_day H, sI_seed H, sF_seed H, sR_log H, sO_state H, sI_count H, sF_count H, sI_first H, sF_first H, sR_at H, sR_worth H, sR_makes H, sR_hinders H, sO_things H, sI_rows H, sF_rows H, sR_entries H, sO_log H, sA_2 H, sW_2 H, sA_3 H, sW_3 H, sA_4 H, sW_4 H, sA_5 H, sW_5 H, sA_6 H, sW_6 H, sA_7 H, sW_7 H, sA_8 H, sW_8 H, sA_9 H, sW_9 H, sA_10 H, sW_10 H, sA_11 H, sW_11 H, sA_12 H, sW_12 H, sA_13 H, sW_13 H, sA_14 H, sW_14 H, sA_16 H, sW_16 H, wi_some, or_0, or_1, bo_or, ite_boP, true_and, and_true, kN_v, kN_n, kT_v, kT_n, kT_e, Nat.add_zero, Nat.zero_add, v_0 hV, v_1 hV, v_2 hV, v_3 hV, v_4 hV, v_5 hV, v_6 hV, v_7 hV, v_8 hV, v_9 hV, v_10 hV, v_11 hV, v_12 hV, v_13 hV, v_14 hV, v_15 hV, v_16 hV, i_ng I, ixO]
  by_cases h1 : x < Int32.ofNat 0
  · simp only [h1, if_true, not_true_eq_false, false_and, if_false]; rfl
  · by_cases h2 : x < Int32.ofNat (gg G.1)
    · simp only [h1, h2, if_true, if_false, not_false_eq_true, true_and, and_self]
    · simp only [h1, h2, if_false, and_false]; rfl
theorem k183 {x : Int32} (hv : GV G) (h : GC sh D G) : Wx (tP nx xs) d 183 0 [some (.ref 0), (some (.int (x)))] [] (mk sh D) c s Q = match ixO x (gr G.1) with
    | some _ => Q (.inl none) (mk sh D) c s
    | none => Q (.inr xIO) (mk sh D) (c + 1) (s + 6) := by
  have hw := h.1.2
  have HS := h.1.1
  have H := St_state HS
  have I := hv.1
  have hV := h.2.1.1
  have hng := i_ng6 I
  have hnt := i_nt8 I
  have hnr := i_nr5 I
  have hnl := i_nl60 I
  have hx := h.L
  have hL := h.2.1.2
  simp only [b183_0 hw, b183_15 hw, xR_tape HS, xI_wrongAt HS, xF_wrongAt HS, xR_state HS, xR_image HS, xI_imageKept HS, xF_imageKept HS, xR_draft HS, xR_memory HS, xR_lawText HS, xR_worlds HS, xI_worldsFresh HS, xF_worldsFresh HS, xR_otherWorlds HS, xR_seating HS, xR_pairing HS, xI_toldSo HS, xF_toldSo HS, xI_toldNot HS, xF_toldNot HS, xO HS, sR_things H, sI_goers H, sF_goers H, sR_wish H, sR_deed H, sI_makers H, sF_makers H, sR_born H, sR_money H, sR_nerve H, sR_shuns H, sR_by H, sI_trains H, sF_trains H, sR_halts H, sR_seats H, sI_texts H, sF_texts H, sI_law H, sF_law H, sI_day H, sF_day H, sI_seed H, sF_seed H, sR_log H, sO_state H, sI_count H, sF_count H, sI_first H, sF_first H, sR_at H, sR_worth H, sR_makes H, sR_hinders H, sO_things H, sI_rows H, sF_rows H, sR_entries H, sO_log H, sA_2 H, sW_2 H, sA_3 H, sW_3 H, sA_4 H, sW_4 H, sA_5 H, sW_5 H, sA_6 H, sW_6 H, sA_7 H, sW_7 H, sA_8 H, sW_8 H, sA_9 H, sW_9 H, sA_10 H, sW_10 H, sA_11 H, sW_11 H, sA_12 H, sW_12 H, sA_13 H, sW_13 H, sA_14 H, sW_14 H, sA_16 H, sW_16 H, wi_some, or_0, or_1, bo_or, ite_boP, true_and, and_true, kN_v, kN_n, kT_v, kT_n, kT_e, Nat.add_zero, Nat.zero_add, v_0 hV, v_1 hV, v_2 hV, v_3 hV, v_4 hV, v_5 hV, v_6 hV, v_7 hV, v_8 hV, v_9 hV, v_10 hV, v_11 hV, v_12 hV, v_13 hV, v_14 hV, v_15 hV, v_16 hV, i_nr I, ixO]
  by_cases h1 : x < Int32.ofNat 0
  · simp only [h1, if_true, not_true_eq_false, false_and, if_false]; rfl
  · by_cases h2 : x < Int32.ofNat (gr G.1)
    · simp only [h1, h2, if_true, if_false, not_false_eq_true, true_and, and_self]
    · simp only [h1, h2, if_false, and_false]; rfl
theorem k180 {x : Int32} (hv : GV G) (h : GC sh D G) : Wx (tP nx xs) d 180 0 [some (.ref 0), (some (.int (x)))] [] (mk sh D) c s Q = match ixO x (gt G.1) with
    | some _ => Q (.inl none) (mk sh D) c s
    | none => Q (.inr xIO) (mk sh D) (c + 1) (s + 6) := by
  have hw := h.1.2
  have HS := h.1.1
  have H := St_state HS
  have I := hv.1
  have hV := h.2.1.1
  have hng := i_ng6 I
  have hnt := i_nt8 I
  have hnr := i_nr5 I
  have hnl := i_nl60 I
  have hx := h.L
  have hL := h.2.1.2
  simp only [b180_0 hw, b180_18 hw, xR_tape HS, xI_wrongAt HS, xF_wrongAt HS, xR_state HS, xR_image HS, xI_imageKept HS, xF_imageKept HS, xR_draft HS, xR_memory HS, xR_lawText HS, xR_worlds HS, xI_worldsFresh HS, xF_worldsFresh HS, xR_otherWorlds HS, xR_seating HS, xR_pairing HS, xI_toldSo HS, xF_toldSo HS, xI_toldNot HS, xF_toldNot HS, xO HS, sR_things H, sI_goers H, sF_goers H, sR_wish H, sR_deed H, sI_makers H, sF_makers H, sR_born H, sR_money H, sR_nerve H, sR_shuns H, sR_by H, sI_trains H, sF_trains H, sR_halts H, sR_seats H, sI_texts H, sF_texts H, sI_law H, sF_law H, sI_day H, sF_day H, sI_seed H, sF_seed H, sR_log H, sO_state H, sI_count H, sF_count H, sI_first H, sF_first H, sR_at H, sR_worth H, sR_makes H, sR_hinders H, sO_things H, sI_rows H, sF_rows H, sR_entries H, sO_log H, sA_2 H, sW_2 H, sA_3 H, sW_3 H, sA_4 H, sW_4 H, sA_5 H, sW_5 H, sA_6 H, sW_6 H, sA_7 H, sW_7 H, sA_8 H, sW_8 H, sA_9 H, sW_9 H, sA_10 H, sW_10 H, sA_11 H, sW_11 H, sA_12 H, sW_12 H, sA_13 H, sW_13 H, sA_14 H, sW_14 H, sA_16 H, sW_16 H, wi_some, or_0, or_1, bo_or, ite_boP, true_and, and_true, kN_v, kN_n, kT_v, kT_n, kT_e, Nat.add_zero, Nat.zero_add, v_0 hV, v_1 hV, v_2 hV, v_3 hV, v_4 hV, v_5 hV, v_6 hV, v_7 hV, v_8 hV, v_9 hV, v_10 hV, v_11 hV, v_12 hV, v_13 hV, v_14 hV, v_15 hV, v_16 hV, i_nt I, ixO]
  by_cases h1 : x < Int32.ofNat 0
  · simp only [h1, if_true, not_true_eq_false, false_and, if_false]; rfl
  · by_cases h2 : x < Int32.ofNat (gt G.1)
    · simp only [h1, h2, if_true, if_false, not_false_eq_true, true_and, and_self]
    · simp only [h1, h2, if_false, and_false]; rfl
theorem k179 {x : Int32} (hw : WT sh) : Wx (tP nx xs) d 179 0 [(some (.int (x)))] [] (mk sh D) c s Q = match ixO x 16 with
    | some _ => Q (.inl none) (mk sh D) c s
    | none => Q (.inr xIO) (mk sh D) (c + 1) (s + 6) := by
  simp only [b179_0 hw, b179_10 hw, ixO]
  by_cases h1 : x < Int32.ofNat 0
  · simp only [h1, if_true, not_true_eq_false, false_and, if_false]; rfl
  · by_cases h2 : x < Int32.ofNat 16
    · simp only [h1, h2, if_true, if_false, not_false_eq_true, true_and, and_self]
    · simp only [h1, h2, if_false, and_false]; rfl
theorem k185 {x : Int32} (hw : WT sh) : Wx (tP nx xs) d 185 0 [(some (.int (x)))] [] (mk sh D) c s Q = match ixO x 61 with
    | some _ => Q (.inl none) (mk sh D) c s
    | none => Q (.inr xIA) (mk sh D) (c + 1) (s + 6) := by
  simp only [b185_0 hw, b185_10 hw, ixO]
  by_cases h1 : x < Int32.ofNat 0
  · simp only [h1, if_true, not_true_eq_false, false_and, if_false]; rfl
  · have e : (x < Int32.ofNat 61) = ¬ (Int32.ofNat 60 < x) := by
      obtain ⟨e, hb⟩ := oN_of h1
      generalize x.toNatClampNeg = i at e hb
      subst e
      rw [oN_lt hb (by decide), oN_lt (by decide) hb]
      apply propext
      omega
    by_cases h2 : Int32.ofNat 60 < x
    · simp only [h1, h2, e, if_true, if_false, not_true_eq_false, and_false]; rfl
    · simp only [h1, h2, e, if_false, if_true, not_false_eq_true, and_self]
theorem k182 {x y : Int32} (hv : GV G) (h : GC sh D G) : Wx (tP nx xs) (d + 1) 182 0 [some (.ref 0), (some (.int (x))), (some (.int (y)))] [] (mk sh D) c s Q = match ixO x (gg G.1), ixO y (gg G.1) with
    | some _, some _ => if x = y then Q (.inr xIA) (mk sh D) (c + 1) (s + 6) else Q (.inl none) (mk sh D) c s
    | _, _ => Q (.inr xIO) (mk sh D) (c + 1) (s + 6) := by
  have hw := h.1.2
  have HS := h.1.1
  have H := St_state HS
  have I := hv.1
  have hV := h.2.1.1
  have hng := i_ng6 I
  have hnt := i_nt8 I
  have hnr := i_nr5 I
  have hnl := i_nl60 I
  have hx := h.L
  have hL := h.2.1.2
  simp only [b182_0 hw, b182_5 hw, b182_10 hw, xR_tape HS, xI_wrongAt HS, xF_wrongAt HS, xR_state HS, xR_image HS, xI_imageKept HS, xF_imageKept HS, xR_draft HS, xR_memory HS, xR_lawText HS, xR_worlds HS, xI_worldsFresh HS, xF_worldsFresh HS, xR_otherWorlds HS, xR_seating HS, xR_pairing HS, xI_toldSo HS, xF_toldSo HS, xI_toldNot HS, xF_toldNot HS, xO HS, wi_some, or_0, or_1, bo_or, ite_boP, true_and, and_true, kN_v, kN_n, kT_v, kT_n, kT_e, Nat.add_zero, Nat.zero_add, k181 hv h]
  cases ixO x (gg G.1) with
  | none => simp only [kT_e, Nat.zero_add]
  | some g =>
    simp only [kT_n, Nat.add_zero, b182_0 hw, b182_5 hw, b182_10 hw, xR_tape HS, xI_wrongAt HS, xF_wrongAt HS, xR_state HS, xR_image HS, xI_imageKept HS, xF_imageKept HS, xR_draft HS, xR_memory HS, xR_lawText HS, xR_worlds HS, xI_worldsFresh HS, xF_worldsFresh HS, xR_otherWorlds HS, xR_seating HS, xR_pairing HS, xI_toldSo HS, xF_toldSo HS, xI_toldNot HS, xF_toldNot HS, xO HS, wi_some, or_0, or_1, bo_or, ite_boP, true_and, and_true, kN_v, kN_n, kT_v, kT_n, kT_e, Nat.add_zero, Nat.zero_add, k181 hv h]
    cases ixO y (gg G.1) with
    | none => simp only [kT_e, Nat.zero_add]
    | some g' =>
      simp only [kT_n, Nat.add_zero, b182_0 hw, b182_5 hw, b182_10 hw]
      rfl
/-! the reference's own questions -/
theorem k211 {x : Int32} (hw : WT sh) (HS : SP sh) (hv : GV G) (h : GR D G) : Wx (tP nx xs) (d + 1) 211 0 [some (.ref 286), (some (.int (x)))] [] (mk sh D) c s Q = Q (.inl (some (.int (bo (ixO x (gg G.1)).isNone)))) (mk sh D) c s := by
  have R := h.1.1
  have hL := h.1.2
  have I := hv.1
  have hng := i_ng6 I
  have hnt := i_nt8 I
  have hnr := i_nr5 I
  have hnl := i_nl60 I
  have e := in_ix (x := x) (show (gg G.1) < 1000000 by omega)
  simp only [b211_0 hw, b211_6 hw, b211_11 hw, b211_19 hw, mI_thrown HS, mF_thrown HS, mR_row HS, mR_image HS, mR_earlier HS, mR_trial HS, mR_acts HS, mI_hasImage HS, mF_hasImage HS, mI_remembered HS, mF_remembered HS, mR_tape HS, mI_taped HS, mF_taped HS, mI_point HS, mF_point HS, mI_end HS, mF_end HS, mI_begin HS, mF_begin HS, mI_deep HS, mF_deep HS, mI_faultAt HS, mF_faultAt HS, mR_five HS, mI_codes HS, mF_codes HS, mR_value HS, mI_so HS, mF_so HS, mR_lines HS, mR_chosen HS, mR_best HS, mR_members HS, mR_paired HS, mO HS, mA_287 HS, mW_287 HS, mA_288 HS, mW_288 HS, mA_289 HS, mW_289 HS, mA_290 HS, mW_290 HS, mA_291 HS, mW_291 HS, mA_292 HS, mW_292 HS, mA_293 HS, mW_293 HS, mA_294 HS, mW_294 HS, mA_295 HS, mW_295 HS, mA_296 HS, mW_296 HS, mA_297 HS, mW_297 HS, mA_298 HS, mW_298 HS, mA_299 HS, mW_299 HS, wi_some, or_0, or_1, bo_or, ite_boP, true_and, and_true, kN_v, kN_n, kT_v, kT_n, kT_e, Nat.add_zero, Nat.zero_add, k198 hw HS, r_ng R, k188 hw, e]
  cases ixO x (gg G.1) <;> rfl
theorem k212 {x : Int32} (hw : WT sh) (HS : SP sh) (hv : GV G) (h : GR D G) : Wx (tP nx xs) (d + 1) 212 0 [some (.ref 286), (some (.int (x)))] [] (mk sh D) c s Q = Q (.inl (some (.int (bo (ixO x (gr G.1)).isNone)))) (mk sh D) c s := by
  have R := h.1.1
  have hL := h.1.2
  have I := hv.1
  have hng := i_ng6 I
  have hnt := i_nt8 I
  have hnr := i_nr5 I
  have hnl := i_nl60 I
  have e := in_ix (x := x) (show (gr G.1) < 1000000 by omega)
  simp only [b212_0 hw, b212_6 hw, b212_11 hw, b212_19 hw, mI_thrown HS, mF_thrown HS, mR_row HS, mR_image HS, mR_earlier HS, mR_trial HS, mR_acts HS, mI_hasImage HS, mF_hasImage HS, mI_remembered HS, mF_remembered HS, mR_tape HS, mI_taped HS, mF_taped HS, mI_point HS, mF_point HS, mI_end HS, mF_end HS, mI_begin HS, mF_begin HS, mI_deep HS, mF_deep HS, mI_faultAt HS, mF_faultAt HS, mR_five HS, mI_codes HS, mF_codes HS, mR_value HS, mI_so HS, mF_so HS, mR_lines HS, mR_chosen HS, mR_best HS, mR_members HS, mR_paired HS, mO HS, mA_287 HS, mW_287 HS, mA_288 HS, mW_288 HS, mA_289 HS, mW_289 HS, mA_290 HS, mW_290 HS, mA_291 HS, mW_291 HS, mA_292 HS, mW_292 HS, mA_293 HS, mW_293 HS, mA_294 HS, mW_294 HS, mA_295 HS, mW_295 HS, mA_296 HS, mW_296 HS, mA_297 HS, mW_297 HS, mA_298 HS, mW_298 HS, mA_299 HS, mW_299 HS, wi_some, or_0, or_1, bo_or, ite_boP, true_and, and_true, kN_v, kN_n, kT_v, kT_n, kT_e, Nat.add_zero, Nat.zero_add, k199 hw HS, r_nr R, k188 hw, e]
  cases ixO x (gr G.1) <;> rfl
theorem k210 {x : Int32} (hw : WT sh) (HS : SP sh) (hv : GV G) (h : GR D G) : Wx (tP nx xs) (d + 1) 210 0 [some (.ref 286), (some (.int (x)))] [] (mk sh D) c s Q = Q (.inl (some (.int (bo (ixO x (gt G.1)).isNone)))) (mk sh D) c s := by
  have R := h.1.1
  have hL := h.1.2
  have I := hv.1
  have hng := i_ng6 I
  have hnt := i_nt8 I
  have hnr := i_nr5 I
  have hnl := i_nl60 I
  have e := in_ix (x := x) (show (gt G.1) < 1000000 by omega)
  simp only [b210_0 hw, b210_6 hw, b210_11 hw, b210_19 hw, mI_thrown HS, mF_thrown HS, mR_row HS, mR_image HS, mR_earlier HS, mR_trial HS, mR_acts HS, mI_hasImage HS, mF_hasImage HS, mI_remembered HS, mF_remembered HS, mR_tape HS, mI_taped HS, mF_taped HS, mI_point HS, mF_point HS, mI_end HS, mF_end HS, mI_begin HS, mF_begin HS, mI_deep HS, mF_deep HS, mI_faultAt HS, mF_faultAt HS, mR_five HS, mI_codes HS, mF_codes HS, mR_value HS, mI_so HS, mF_so HS, mR_lines HS, mR_chosen HS, mR_best HS, mR_members HS, mR_paired HS, mO HS, mA_287 HS, mW_287 HS, mA_288 HS, mW_288 HS, mA_289 HS, mW_289 HS, mA_290 HS, mW_290 HS, mA_291 HS, mW_291 HS, mA_292 HS, mW_292 HS, mA_293 HS, mW_293 HS, mA_294 HS, mW_294 HS, mA_295 HS, mW_295 HS, mA_296 HS, mW_296 HS, mA_297 HS, mW_297 HS, mA_298 HS, mW_298 HS, mA_299 HS, mW_299 HS, wi_some, or_0, or_1, bo_or, ite_boP, true_and, and_true, kN_v, kN_n, kT_v, kT_n, kT_e, Nat.add_zero, Nat.zero_add, k197 hw HS, r_nt R, k188 hw, e]
  cases ixO x (gt G.1) <;> rfl
theorem k213 {x : Int32} (hw : WT sh) : Wx (tP nx xs) (d + 1) 213 0 [(some (.int (x)))] [] (mk sh D) c s Q = Q (.inl (some (.int (bo (ixO x 16).isNone)))) (mk sh D) c s := by
  have e := in_ix (x := x) (show 16 < 1000000 by omega)
  have e15 : Int32.ofNat 16 - Int32.ofNat 1 = Int32.ofNat 15 := by decide
  rw [e15] at e
  simp only [b213_0 hw, b213_7 hw, b213_15 hw, wi_some, or_0, or_1, bo_or, ite_boP, true_and, and_true, kN_v, kN_n, kT_v, kT_n, kT_e, Nat.add_zero, Nat.zero_add, k188 hw, e]
  cases ixO x 16 <;> rfl
/-! fault -/
theorem c_fault (hv : GV G) (h : GC sh D G) (kk : Q (.inl (some (.int G.2.2.2.2.2))) (mk sh D) c s) : Wx (tP nx xs) d 101 0 [some (.ref 0)] [] (mk sh D) c s Q := by
  have hw := h.1.2
  have HS := h.1.1
  have H := St_state HS
  have I := hv.1
  have hV := h.2.1.1
  have hng := i_ng6 I
  have hnt := i_nt8 I
  have hnr := i_nr5 I
  have hnl := i_nl60 I
  have hx := h.L
  have hL := h.2.1.2
  simp only [b101_0 hw, xR_tape HS, xI_wrongAt HS, xF_wrongAt HS, xR_state HS, xR_image HS, xI_imageKept HS, xF_imageKept HS, xR_draft HS, xR_memory HS, xR_lawText HS, xR_worlds HS, xI_worldsFresh HS, xF_worldsFresh HS, xR_otherWorlds HS, xR_seating HS, xR_pairing HS, xI_toldSo HS, xF_toldSo HS, xI_toldNot HS, xF_toldNot HS, xO HS, wi_some, or_0, or_1, bo_or, ite_boP, true_and, and_true, kN_v, kN_n, kT_v, kT_n, kT_e, Nat.add_zero, Nat.zero_add, h.2.2.2.2.2.1]
  exact kk
theorem m_fault (hw : WT sh) (HS : SP sh) (hv : GV G) (h : GR D G) (kk : ∀ D', Ms D D' → D' 286 0 = Int32.ofNat 0 → Q (.inl (some (.int G.2.2.2.2.2))) (mk sh D') c s) : Wx (tP nx xs) d 226 0 [some (.ref 286)] [] (mk sh D) c s Q := by
  have e : u2 D 286 0 (Int32.ofNat 0) 286 14 = G.2.2.2.2.2 := by rw [u2_at, if_neg (by omega)]; exact h.2.2.2.2
  simp only [b226_0 hw, b226_5 hw, mI_thrown HS, mF_thrown HS, mR_row HS, mR_image HS, mR_earlier HS, mR_trial HS, mR_acts HS, mI_hasImage HS, mF_hasImage HS, mI_remembered HS, mF_remembered HS, mR_tape HS, mI_taped HS, mF_taped HS, mI_point HS, mF_point HS, mI_end HS, mF_end HS, mI_begin HS, mF_begin HS, mI_deep HS, mF_deep HS, mI_faultAt HS, mF_faultAt HS, mR_five HS, mI_codes HS, mF_codes HS, mR_value HS, mI_so HS, mF_so HS, mR_lines HS, mR_chosen HS, mR_best HS, mR_members HS, mR_paired HS, mO HS, mA_287 HS, mW_287 HS, mA_288 HS, mW_288 HS, mA_289 HS, mW_289 HS, mA_290 HS, mW_290 HS, mA_291 HS, mW_291 HS, mA_292 HS, mW_292 HS, mA_293 HS, mW_293 HS, mA_294 HS, mW_294 HS, mA_295 HS, mW_295 HS, mA_296 HS, mW_296 HS, mA_297 HS, mW_297 HS, mA_298 HS, mW_298 HS, mA_299 HS, mW_299 HS, wi_some, or_0, or_1, bo_or, ite_boP, true_and, and_true, kN_v, kN_n, kT_v, kT_n, kT_e, Nat.add_zero, Nat.zero_add, e]
  exact kk _ Ms.rf.th (by simp [u2_at])
/-! gone, never -/
theorem c_gone (hv : GV G) (h : GC sh D G) (kk : Q (.inl (some (.int (goneS (gV G.1) (gg G.1))))) (mk sh D) c s) : Wx (tP nx xs) (d + 1) 163 0 [some (.ref 0)] [] (mk sh D) c s Q := by
  have hw := h.1.2
  have HS := h.1.1
  have H := St_state HS
  have I := hv.1
  have hV := h.2.1.1
  have hng := i_ng6 I
  have hnt := i_nt8 I
  have hnr := i_nr5 I
  have hnl := i_nl60 I
  have hx := h.L
  have hL := h.2.1.2
  simp only [b163_0 hw, b163_7 hw, xR_tape HS, xI_wrongAt HS, xF_wrongAt HS, xR_state HS, xR_image HS, xI_imageKept HS, xF_imageKept HS, xR_draft HS, xR_memory HS, xR_lawText HS, xR_worlds HS, xI_worldsFresh HS, xF_worldsFresh HS, xR_otherWorlds HS, xR_seating HS, xR_pairing HS, xI_toldSo HS, xF_toldSo HS, xI_toldNot HS, xF_toldNot HS, xO HS, sR_things H, sI_goers H, sF_goers H, sR_wish H, sR_deed H, sI_makers H, sF_makers H, sR_born H, sR_money H, sR_nerve H, sR_shuns H, sR_by H, sI_trains H, sF_trains H, sR_halts H, sR_seats H, sI_texts H, sF_texts H, sI_law H, sF_law H, sI_day H, sF_day H, sI_seed H, sF_seed H, sR_log H, sO_state H, sI_count H, sF_count H, sI_first H, sF_first H, sR_at H, sR_worth H, sR_makes H, sR_hinders H, sO_things H, sI_rows H, sF_rows H, sR_entries H, sO_log H, sA_2 H, sW_2 H, sA_3 H, sW_3 H, sA_4 H, sW_4 H, sA_5 H, sW_5 H, sA_6 H, sW_6 H, sA_7 H, sW_7 H, sA_8 H, sW_8 H, sA_9 H, sW_9 H, sA_10 H, sW_10 H, sA_11 H, sW_11 H, sA_12 H, sW_12 H, sA_13 H, sW_13 H, sA_14 H, sW_14 H, sA_16 H, sW_16 H, wi_some, or_0, or_1, bo_or, ite_boP, true_and, and_true, kN_v, kN_n, kT_v, kT_n, kT_e, Nat.add_zero, Nat.zero_add, k37 hw H hV I]
  exact kk
theorem m_gone (hw : WT sh) (HS : SP sh) (hv : GV G) (h : GR D G) (kk : ∀ D', Ms D D' → D' 286 0 = Int32.ofNat 0 → Q (.inl (some (.int (goneS (gV G.1) (gg G.1))))) (mk sh D') c s) : Wx (tP nx xs) (d + 3) 341 0 [some (.ref 286)] [] (mk sh D) c s Q := by
  have h1 := h.ms hv (Ms.rf.th (v := Int32.ofNat 0))
  have hng := i_ng6 hv.1
  simp only [b341_0 hw, b341_5 hw, b341_9 hw, mI_thrown HS, mF_thrown HS, mR_row HS, mR_image HS, mR_earlier HS, mR_trial HS, mR_acts HS, mI_hasImage HS, mF_hasImage HS, mI_remembered HS, mF_remembered HS, mR_tape HS, mI_taped HS, mF_taped HS, mI_point HS, mF_point HS, mI_end HS, mF_end HS, mI_begin HS, mF_begin HS, mI_deep HS, mF_deep HS, mI_faultAt HS, mF_faultAt HS, mR_five HS, mI_codes HS, mF_codes HS, mR_value HS, mI_so HS, mF_so HS, mR_lines HS, mR_chosen HS, mR_best HS, mR_members HS, mR_paired HS, mO HS, mA_287 HS, mW_287 HS, mA_288 HS, mW_288 HS, mA_289 HS, mW_289 HS, mA_290 HS, mW_290 HS, mA_291 HS, mW_291 HS, mA_292 HS, mW_292 HS, mA_293 HS, mW_293 HS, mA_294 HS, mW_294 HS, mA_295 HS, mW_295 HS, mA_296 HS, mW_296 HS, mA_297 HS, mW_297 HS, mA_298 HS, mW_298 HS, mA_299 HS, mW_299 HS, wi_some, or_0, or_1, bo_or, ite_boP, true_and, and_true, kN_v, kN_n, kT_v, kT_n, kT_e, Nat.add_zero, Nat.zero_add, k208 hw HS h1.1.1 hng]
  exact kk _ Ms.rf.th (by simp [u2_at])
theorem k283 {V : sD} {nt ng nr nl : Nat} (hw : WT sh) (HS : SP sh) (R : Rw (D 287) V nt ng nr nl) (hn : nr ≤ 5) : Wx (tP nx xs) (d + 2) 283 0 [some (.ref 286), none, none] [] (mk sh D) c s Q = Q (.inl (some (.int (oS (V 13) nr)))) (mk sh D) c s := by
  have h0 : 0 < 4 := by decide
  simp only [b283_0 hw]
  refine (up_loop (W := fun i x => Wx (tP nx xs) (d + 2) 283 4 [some (.ref 286), (some (.int (x))), (some (.int (Int32.ofNat i)))] [] (mk sh D) c s Q) (F := fun g x => x ||| V 13 g) nr (fun i x hi => ?_) _).trans ?_
  · have hi5 : i < 5 := by omega
    rw [b283_4 hw]
    simp only [b283_9 hw, b283_19 hw, mI_thrown HS, mF_thrown HS, mR_row HS, mR_image HS, mR_earlier HS, mR_trial HS, mR_acts HS, mI_hasImage HS, mF_hasImage HS, mI_remembered HS, mF_remembered HS, mR_tape HS, mI_taped HS, mF_taped HS, mI_point HS, mF_point HS, mI_end HS, mF_end HS, mI_begin HS, mF_begin HS, mI_deep HS, mF_deep HS, mI_faultAt HS, mF_faultAt HS, mR_five HS, mI_codes HS, mF_codes HS, mR_value HS, mI_so HS, mF_so HS, mR_lines HS, mR_chosen HS, mR_best HS, mR_members HS, mR_paired HS, mO HS, mA_287 HS, mW_287 HS, mA_288 HS, mW_288 HS, mA_289 HS, mW_289 HS, mA_290 HS, mW_290 HS, mA_291 HS, mW_291 HS, mA_292 HS, mW_292 HS, mA_293 HS, mW_293 HS, mA_294 HS, mW_294 HS, mA_295 HS, mW_295 HS, mA_296 HS, mW_296 HS, mA_297 HS, mW_297 HS, mA_298 HS, mW_298 HS, mA_299 HS, mW_299 HS, wi_some, or_0, or_1, bo_or, ite_boP, true_and, and_true, kN_v, kN_n, kT_v, kT_n, kT_e, Nat.add_zero, Nat.zero_add, k199 hw HS, r_nr R, k205 hw HS hi5 h0, r_halts0 R hi, oN_lt (show i < 2147483648 by omega) (show nr < 2147483648 by omega), hi, if_true, oN_add]
  · rw [b283_4 hw]
    simp only [b283_9 hw, mI_thrown HS, mF_thrown HS, mR_row HS, mR_image HS, mR_earlier HS, mR_trial HS, mR_acts HS, mI_hasImage HS, mF_hasImage HS, mI_remembered HS, mF_remembered HS, mR_tape HS, mI_taped HS, mF_taped HS, mI_point HS, mF_point HS, mI_end HS, mF_end HS, mI_begin HS, mF_begin HS, mI_deep HS, mF_deep HS, mI_faultAt HS, mF_faultAt HS, mR_five HS, mI_codes HS, mF_codes HS, mR_value HS, mI_so HS, mF_so HS, mR_lines HS, mR_chosen HS, mR_best HS, mR_members HS, mR_paired HS, mO HS, mA_287 HS, mW_287 HS, mA_288 HS, mW_288 HS, mA_289 HS, mW_289 HS, mA_290 HS, mW_290 HS, mA_291 HS, mW_291 HS, mA_292 HS, mW_292 HS, mA_293 HS, mW_293 HS, mA_294 HS, mW_294 HS, mA_295 HS, mW_295 HS, mA_296 HS, mW_296 HS, mA_297 HS, mW_297 HS, mA_298 HS, mW_298 HS, mA_299 HS, mW_299 HS, wi_some, or_0, or_1, bo_or, ite_boP, true_and, and_true, kN_v, kN_n, kT_v, kT_n, kT_e, Nat.add_zero, Nat.zero_add, k199 hw HS, r_nr R, oN_lt (show nr < 2147483648 by omega) (show nr < 2147483648 by omega), Nat.lt_irrefl, if_false]
    rfl
theorem c_never (hv : GV G) (h : GC sh D G) (kk : Q (.inl (some (.int (Int32.ofNat 65535 &&& (oS ((gV G.1) 13) (gr G.1) ^^^ -1))))) (mk sh D) c s) : Wx (tP nx xs) (d + 1) 168 0 [some (.ref 0)] [] (mk sh D) c s Q := by
  have hw := h.1.2
  have HS := h.1.1
  have H := St_state HS
  have I := hv.1
  have hV := h.2.1.1
  have hng := i_ng6 I
  have hnt := i_nt8 I
  have hnr := i_nr5 I
  have hnl := i_nl60 I
  have hx := h.L
  have hL := h.2.1.2
  simp only [b168_0 hw, b168_10 hw, xR_tape HS, xI_wrongAt HS, xF_wrongAt HS, xR_state HS, xR_image HS, xI_imageKept HS, xF_imageKept HS, xR_draft HS, xR_memory HS, xR_lawText HS, xR_worlds HS, xI_worldsFresh HS, xF_worldsFresh HS, xR_otherWorlds HS, xR_seating HS, xR_pairing HS, xI_toldSo HS, xF_toldSo HS, xI_toldNot HS, xF_toldNot HS, xO HS, sR_things H, sI_goers H, sF_goers H, sR_wish H, sR_deed H, sI_makers H, sF_makers H, sR_born H, sR_money H, sR_nerve H, sR_shuns H, sR_by H, sI_trains H, sF_trains H, sR_halts H, sR_seats H, sI_texts H, sF_texts H, sI_law H, sF_law H, sI_day H, sF_day H, sI_seed H, sF_seed H, sR_log H, sO_state H, sI_count H, sF_count H, sI_first H, sF_first H, sR_at H, sR_worth H, sR_makes H, sR_hinders H, sO_things H, sI_rows H, sF_rows H, sR_entries H, sO_log H, sA_2 H, sW_2 H, sA_3 H, sW_3 H, sA_4 H, sW_4 H, sA_5 H, sW_5 H, sA_6 H, sW_6 H, sA_7 H, sW_7 H, sA_8 H, sW_8 H, sA_9 H, sW_9 H, sA_10 H, sW_10 H, sA_11 H, sW_11 H, sA_12 H, sW_12 H, sA_13 H, sW_13 H, sA_14 H, sW_14 H, sA_16 H, sW_16 H, wi_some, or_0, or_1, bo_or, ite_boP, true_and, and_true, kN_v, kN_n, kT_v, kT_n, kT_e, Nat.add_zero, Nat.zero_add, k40 hw H hV I]
  exact kk
theorem m_never (hw : WT sh) (HS : SP sh) (hv : GV G) (h : GR D G) (kk : ∀ D', Ms D D' → D' 286 0 = Int32.ofNat 0 → Q (.inl (some (.int (Int32.ofNat 65535 &&& (oS ((gV G.1) 13) (gr G.1) ^^^ -1))))) (mk sh D') c s) : Wx (tP nx xs) (d + 3) 346 0 [some (.ref 286)] [] (mk sh D) c s Q := by
  have h1 := h.ms hv (Ms.rf.th (v := Int32.ofNat 0))
  simp only [b346_0 hw, b346_5 hw, b346_12 hw, mI_thrown HS, mF_thrown HS, mR_row HS, mR_image HS, mR_earlier HS, mR_trial HS, mR_acts HS, mI_hasImage HS, mF_hasImage HS, mI_remembered HS, mF_remembered HS, mR_tape HS, mI_taped HS, mF_taped HS, mI_point HS, mF_point HS, mI_end HS, mF_end HS, mI_begin HS, mF_begin HS, mI_deep HS, mF_deep HS, mI_faultAt HS, mF_faultAt HS, mR_five HS, mI_codes HS, mF_codes HS, mR_value HS, mI_so HS, mF_so HS, mR_lines HS, mR_chosen HS, mR_best HS, mR_members HS, mR_paired HS, mO HS, mA_287 HS, mW_287 HS, mA_288 HS, mW_288 HS, mA_289 HS, mW_289 HS, mA_290 HS, mW_290 HS, mA_291 HS, mW_291 HS, mA_292 HS, mW_292 HS, mA_293 HS, mW_293 HS, mA_294 HS, mW_294 HS, mA_295 HS, mW_295 HS, mA_296 HS, mW_296 HS, mA_297 HS, mW_297 HS, mA_298 HS, mW_298 HS, mA_299 HS, mW_299 HS, wi_some, or_0, or_1, bo_or, ite_boP, true_and, and_true, kN_v, kN_n, kT_v, kT_n, kT_e, Nat.add_zero, Nat.zero_add, k283 hw HS h1.1.1 (i_nr5 hv.1)]
  exact kk _ Ms.rf.th (by simp [u2_at])
/-! now, past, agree -/
theorem c_now (hv : GV G) (h : GC sh D G) (kk : ∀ D', GC sh D' G → Fc D D' → Q (.inl (some (.int (nowS (gV G.1) (gt G.1) (gg G.1) ((gV G.1) 1 1) (gN (gV G.1) (gg G.1)))))) (mk sh D') c s) : Wx (tP nx xs) (d + 5) 124 0 [some (.ref 0)] [] (mk sh D) c s Q := by
  have hw := h.1.2
  have HS := h.1.1
  have H := St_state HS
  have I := hv.1
  have hV := h.2.1.1
  have hng := i_ng6 I
  have hnt := i_nt8 I
  have hnr := i_nr5 I
  have hnl := i_nl60 I
  have hx := h.L
  have hL := h.2.1.2
  simp only [b124_0 hw, xR_tape HS, xI_wrongAt HS, xF_wrongAt HS, xR_state HS, xR_image HS, xI_imageKept HS, xF_imageKept HS, xR_draft HS, xR_memory HS, xR_lawText HS, xR_worlds HS, xI_worldsFresh HS, xF_worldsFresh HS, xR_otherWorlds HS, xR_seating HS, xR_pairing HS, xI_toldSo HS, xF_toldSo HS, xI_toldNot HS, xF_toldNot HS, xO HS, wi_some, or_0, or_1, bo_or, ite_boP, true_and, and_true, kN_v, kN_n, kT_v, kT_n, kT_e, Nat.add_zero, Nat.zero_add]
  refine k129 hv h ?_
  intro D1 c1 h1
  simp only [b124_4 hw, wi_some, or_0, or_1, bo_or, ite_boP, true_and, and_true, kN_v, kN_n, kT_v, kT_n, kT_e, Nat.add_zero, Nat.zero_add]
  exact kk D1 h1 (c1.fc hx)
theorem m_now (hw : WT sh) (HS : SP sh) (hv : GV G) (h : GR D G) (kk : ∀ D', Ms D D' → D' 286 0 = Int32.ofNat 0 → Q (.inl (some (.int (nowS (gV G.1) (gt G.1) (gg G.1) ((gV G.1) 1 1) (gN (gV G.1) (gg G.1)))))) (mk sh D') c s) : Wx (tP nx xs) (d + 8) 275 0 [some (.ref 286)] [] (mk sh D) c s Q := by
  have h1 := h.ms hv (Ms.rf.th (v := Int32.ofNat 0))
  have hng := i_ng6 hv.1
  obtain ⟨g1, g2⟩ := gN_of (V := (gV G.1)) hng
  simp only [b275_0 hw, b275_5 hw, b275_10 hw, mI_thrown HS, mF_thrown HS, mR_row HS, mR_image HS, mR_earlier HS, mR_trial HS, mR_acts HS, mI_hasImage HS, mF_hasImage HS, mI_remembered HS, mF_remembered HS, mR_tape HS, mI_taped HS, mF_taped HS, mI_point HS, mF_point HS, mI_end HS, mF_end HS, mI_begin HS, mF_begin HS, mI_deep HS, mF_deep HS, mI_faultAt HS, mF_faultAt HS, mR_five HS, mI_codes HS, mF_codes HS, mR_value HS, mI_so HS, mF_so HS, mR_lines HS, mR_chosen HS, mR_best HS, mR_members HS, mR_paired HS, mO HS, mA_287 HS, mW_287 HS, mA_288 HS, mW_288 HS, mA_289 HS, mW_289 HS, mA_290 HS, mW_290 HS, mA_291 HS, mW_291 HS, mA_292 HS, mW_292 HS, mA_293 HS, mW_293 HS, mA_294 HS, mW_294 HS, mA_295 HS, mW_295 HS, mA_296 HS, mW_296 HS, mA_297 HS, mW_297 HS, mA_298 HS, mW_298 HS, mA_299 HS, mW_299 HS, wi_some, or_0, or_1, bo_or, ite_boP, true_and, and_true, kN_v, kN_n, kT_v, kT_n, kT_e, Nat.add_zero, Nat.zero_add, k208 hw HS h1.1.1 hng, g1]
  refine k269 hw HS h1.1.1 hv.1 (gN_64 hng) ?_
  intro D2 s2
  simp only [b275_13 hw, wi_some, or_0, or_1, bo_or, ite_boP, true_and, and_true, kN_v, kN_n, kT_v, kT_n, kT_e, Nat.add_zero, Nat.zero_add]
  exact kk D2 (Ms.rf.th.tr s2.ms) (by rw [s2 286 0 (by omega)]; simp [u2_at])
theorem c_past (hv : GV G) (h : GC sh D G) (kk : ∀ D', GC sh D' G → Fc D D' → Q (.inl (some (.int (pastS (gV G.1) (gt G.1) (gg G.1) ((gV G.1) 1 1) (gN (gV G.1) (gg G.1)))))) (mk sh D') c s) : Wx (tP nx xs) (d + 4) 123 0 [some (.ref 0)] [] (mk sh D) c s Q := by
  have hw := h.1.2
  have HS := h.1.1
  have H := St_state HS
  have I := hv.1
  have hV := h.2.1.1
  have hng := i_ng6 I
  have hnt := i_nt8 I
  have hnr := i_nr5 I
  have hnl := i_nl60 I
  have hx := h.L
  have hL := h.2.1.2
  obtain ⟨g1, g2⟩ := gN_of (V := (gV G.1)) hng
  simp only [b123_0 hw, xR_tape HS, xI_wrongAt HS, xF_wrongAt HS, xR_state HS, xR_image HS, xI_imageKept HS, xF_imageKept HS, xR_draft HS, xR_memory HS, xR_lawText HS, xR_worlds HS, xI_worldsFresh HS, xF_worldsFresh HS, xR_otherWorlds HS, xR_seating HS, xR_pairing HS, xI_toldSo HS, xF_toldSo HS, xI_toldNot HS, xF_toldNot HS, xO HS, wi_some, or_0, or_1, bo_or, ite_boP, true_and, and_true, kN_v, kN_n, kT_v, kT_n, kT_e, Nat.add_zero, Nat.zero_add]
  refine k128 hv h ?_
  intro D1 c1 h1 w1
  have hV1 := h1.2.1.1
  simp only [b123_4 hw, b123_11 hw, b123_14 hw, xR_tape HS, xI_wrongAt HS, xF_wrongAt HS, xR_state HS, xR_image HS, xI_imageKept HS, xF_imageKept HS, xR_draft HS, xR_memory HS, xR_lawText HS, xR_worlds HS, xI_worldsFresh HS, xF_worldsFresh HS, xR_otherWorlds HS, xR_seating HS, xR_pairing HS, xI_toldSo HS, xF_toldSo HS, xI_toldNot HS, xF_toldNot HS, xO HS, sR_things H, sI_goers H, sF_goers H, sR_wish H, sR_deed H, sI_makers H, sF_makers H, sR_born H, sR_money H, sR_nerve H, sR_shuns H, sR_by H, sI_trains H, sF_trains H, sR_halts H, sR_seats H, sI_texts H, sF_texts H, sI_law H, sF_law H, sI_day H, sF_day H, sI_seed H, sF_seed H, sR_log H, sO_state H, sI_count H, sF_count H, sI_first H, sF_first H, sR_at H, sR_worth H, sR_makes H, sR_hinders H, sO_things H, sI_rows H, sF_rows H, sR_entries H, sO_log H, sA_2 H, sW_2 H, sA_3 H, sW_3 H, sA_4 H, sW_4 H, sA_5 H, sW_5 H, sA_6 H, sW_6 H, sA_7 H, sW_7 H, sA_8 H, sW_8 H, sA_9 H, sW_9 H, sA_10 H, sW_10 H, sA_11 H, sW_11 H, sA_12 H, sW_12 H, sA_13 H, sW_13 H, sA_14 H, sW_14 H, sA_16 H, sW_16 H, wi_some, or_0, or_1, bo_or, ite_boP, true_and, and_true, kN_v, kN_n, kT_v, kT_n, kT_e, Nat.add_zero, Nat.zero_add, k37 hw H hV1 I, g1, wO HS, k92 hw (Wsh_265 HS) w1 (gN_64 hng) (gone_sub I)]
  exact kk D1 h1 (c1.fc hx)
theorem m_past (hw : WT sh) (HS : SP sh) (hv : GV G) (h : GR D G) (kk : ∀ D', Ms D D' → D' 286 0 = Int32.ofNat 0 → Q (.inl (some (.int (pastS (gV G.1) (gt G.1) (gg G.1) ((gV G.1) 1 1) (gN (gV G.1) (gg G.1)))))) (mk sh D') c s) : Wx (tP nx xs) (d + 7) 274 0 [some (.ref 286)] [] (mk sh D) c s Q := by
  have h1 := h.ms hv (Ms.rf.th (v := Int32.ofNat 0))
  have hng := i_ng6 hv.1
  obtain ⟨g1, g2⟩ := gN_of (V := (gV G.1)) hng
  simp only [b274_0 hw, b274_5 hw, b274_10 hw, mI_thrown HS, mF_thrown HS, mR_row HS, mR_image HS, mR_earlier HS, mR_trial HS, mR_acts HS, mI_hasImage HS, mF_hasImage HS, mI_remembered HS, mF_remembered HS, mR_tape HS, mI_taped HS, mF_taped HS, mI_point HS, mF_point HS, mI_end HS, mF_end HS, mI_begin HS, mF_begin HS, mI_deep HS, mF_deep HS, mI_faultAt HS, mF_faultAt HS, mR_five HS, mI_codes HS, mF_codes HS, mR_value HS, mI_so HS, mF_so HS, mR_lines HS, mR_chosen HS, mR_best HS, mR_members HS, mR_paired HS, mO HS, mA_287 HS, mW_287 HS, mA_288 HS, mW_288 HS, mA_289 HS, mW_289 HS, mA_290 HS, mW_290 HS, mA_291 HS, mW_291 HS, mA_292 HS, mW_292 HS, mA_293 HS, mW_293 HS, mA_294 HS, mW_294 HS, mA_295 HS, mW_295 HS, mA_296 HS, mW_296 HS, mA_297 HS, mW_297 HS, mA_298 HS, mW_298 HS, mA_299 HS, mW_299 HS, wi_some, or_0, or_1, bo_or, ite_boP, true_and, and_true, kN_v, kN_n, kT_v, kT_n, kT_e, Nat.add_zero, Nat.zero_add, k208 hw HS h1.1.1 hng, g1]
  refine k268 hw HS h1.1.1 hv.1 (gN_64 hng) ?_
  intro D2 s2
  simp only [b274_13 hw, wi_some, or_0, or_1, bo_or, ite_boP, true_and, and_true, kN_v, kN_n, kT_v, kT_n, kT_e, Nat.add_zero, Nat.zero_add]
  exact kk D2 (Ms.rf.th.tr s2.ms) (by rw [s2 286 0 (by omega)]; simp [u2_at])
theorem c_agree (hv : GV G) (h : GC sh D G) (kk : ∀ D', GC sh D' G → Fc D D' → Q (.inl (some (.int (Int32.ofNat (cntS (gV G.1) (gt G.1) (gg G.1) ((gV G.1) 1 1) (gN (gV G.1) (gg G.1))))))) (mk sh D') c s) : Wx (tP nx xs) (d + 4) 122 0 [some (.ref 0)] [] (mk sh D) c s Q := by
  have hw := h.1.2
  have HS := h.1.1
  have H := St_state HS
  have I := hv.1
  have hV := h.2.1.1
  have hng := i_ng6 I
  have hnt := i_nt8 I
  have hnr := i_nr5 I
  have hnl := i_nl60 I
  have hx := h.L
  have hL := h.2.1.2
  obtain ⟨g1, g2⟩ := gN_of (V := (gV G.1)) hng
  simp only [b122_0 hw, xR_tape HS, xI_wrongAt HS, xF_wrongAt HS, xR_state HS, xR_image HS, xI_imageKept HS, xF_imageKept HS, xR_draft HS, xR_memory HS, xR_lawText HS, xR_worlds HS, xI_worldsFresh HS, xF_worldsFresh HS, xR_otherWorlds HS, xR_seating HS, xR_pairing HS, xI_toldSo HS, xF_toldSo HS, xI_toldNot HS, xF_toldNot HS, xO HS, wi_some, or_0, or_1, bo_or, ite_boP, true_and, and_true, kN_v, kN_n, kT_v, kT_n, kT_e, Nat.add_zero, Nat.zero_add]
  refine k128 hv h ?_
  intro D1 c1 h1 w1
  have hV1 := h1.2.1.1
  simp only [b122_4 hw, b122_11 hw, b122_14 hw, xR_tape HS, xI_wrongAt HS, xF_wrongAt HS, xR_state HS, xR_image HS, xI_imageKept HS, xF_imageKept HS, xR_draft HS, xR_memory HS, xR_lawText HS, xR_worlds HS, xI_worldsFresh HS, xF_worldsFresh HS, xR_otherWorlds HS, xR_seating HS, xR_pairing HS, xI_toldSo HS, xF_toldSo HS, xI_toldNot HS, xF_toldNot HS, xO HS, sR_things H, sI_goers H, sF_goers H, sR_wish H, sR_deed H, sI_makers H, sF_makers H, sR_born H, sR_money H, sR_nerve H, sR_shuns H, sR_by H, sI_trains H, sF_trains H, sR_halts H, sR_seats H, sI_texts H, sF_texts H, sI_law H, sF_law H, sI_day H, sF_day H, sI_seed H, sF_seed H, sR_log H, sO_state H, sI_count H, sF_count H, sI_first H, sF_first H, sR_at H, sR_worth H, sR_makes H, sR_hinders H, sO_things H, sI_rows H, sF_rows H, sR_entries H, sO_log H, sA_2 H, sW_2 H, sA_3 H, sW_3 H, sA_4 H, sW_4 H, sA_5 H, sW_5 H, sA_6 H, sW_6 H, sA_7 H, sW_7 H, sA_8 H, sW_8 H, sA_9 H, sW_9 H, sA_10 H, sW_10 H, sA_11 H, sW_11 H, sA_12 H, sW_12 H, sA_13 H, sW_13 H, sA_14 H, sW_14 H, sA_16 H, sW_16 H, wi_some, or_0, or_1, bo_or, ite_boP, true_and, and_true, kN_v, kN_n, kT_v, kT_n, kT_e, Nat.add_zero, Nat.zero_add, k37 hw H hV1 I, g1, wO HS, k91 hw (Wsh_265 HS) w1 (gN_64 hng) (gone_sub I)]
  exact kk D1 h1 (c1.fc hx)
theorem m_agree (hw : WT sh) (HS : SP sh) (hv : GV G) (h : GR D G) (kk : ∀ D', Ms D D' → D' 286 0 = Int32.ofNat 0 → Q (.inl (some (.int (Int32.ofNat (cntS (gV G.1) (gt G.1) (gg G.1) ((gV G.1) 1 1) (gN (gV G.1) (gg G.1))))))) (mk sh D') c s) : Wx (tP nx xs) (d + 7) 273 0 [some (.ref 286)] [] (mk sh D) c s Q := by
  have h1 := h.ms hv (Ms.rf.th (v := Int32.ofNat 0))
  simp only [b273_0 hw, b273_5 hw, mI_thrown HS, mF_thrown HS, mR_row HS, mR_image HS, mR_earlier HS, mR_trial HS, mR_acts HS, mI_hasImage HS, mF_hasImage HS, mI_remembered HS, mF_remembered HS, mR_tape HS, mI_taped HS, mF_taped HS, mI_point HS, mF_point HS, mI_end HS, mF_end HS, mI_begin HS, mF_begin HS, mI_deep HS, mF_deep HS, mI_faultAt HS, mF_faultAt HS, mR_five HS, mI_codes HS, mF_codes HS, mR_value HS, mI_so HS, mF_so HS, mR_lines HS, mR_chosen HS, mR_best HS, mR_members HS, mR_paired HS, mO HS, mA_287 HS, mW_287 HS, mA_288 HS, mW_288 HS, mA_289 HS, mW_289 HS, mA_290 HS, mW_290 HS, mA_291 HS, mW_291 HS, mA_292 HS, mW_292 HS, mA_293 HS, mW_293 HS, mA_294 HS, mW_294 HS, mA_295 HS, mW_295 HS, mA_296 HS, mW_296 HS, mA_297 HS, mW_297 HS, mA_298 HS, mW_298 HS, mA_299 HS, mW_299 HS, wi_some, or_0, or_1, bo_or, ite_boP, true_and, and_true, kN_v, kN_n, kT_v, kT_n, kT_e, Nat.add_zero, Nat.zero_add]
  refine k270 hw HS h1.1.1 hv.1 ?_
  intro D2 s2
  simp only [b273_9 hw, wi_some, or_0, or_1, bo_or, ite_boP, true_and, and_true, kN_v, kN_n, kT_v, kT_n, kT_e, Nat.add_zero, Nat.zero_add]
  exact kk D2 (Ms.rf.th.tr s2.ms) (by rw [s2 286 0 (by omega)]; simp [u2_at])
/-! world, agrees -/
theorem c_world {x : Int32} (hv : GV G) (h : GC sh D G) (kk : ∀ D', GC sh D' G → Fc D D' → Q (.inl (some (.int (wS (gV G.1) (gt G.1) (gg G.1) ((gV G.1) 1 1) (x &&& Int32.ofNat (2 ^ (gg G.1) - 1)))))) (mk sh D') c s) : Wx (tP nx xs) (d + 4) 120 0 [some (.ref 0), (some (.int (x)))] [] (mk sh D) c s Q := by
  have hw := h.1.2
  have HS := h.1.1
  have H := St_state HS
  have I := hv.1
  have hV := h.2.1.1
  have hng := i_ng6 I
  have hnt := i_nt8 I
  have hnr := i_nr5 I
  have hnl := i_nl60 I
  have hx := h.L
  have hL := h.2.1.2
  obtain ⟨z, hz, ez⟩ := and_ev (x := x) (show (gg G.1) < 7 by omega)
  have h64 := everyN I
  have hz64 : z < 64 := by omega
  simp only [b120_0 hw, xR_tape HS, xI_wrongAt HS, xF_wrongAt HS, xR_state HS, xR_image HS, xI_imageKept HS, xF_imageKept HS, xR_draft HS, xR_memory HS, xR_lawText HS, xR_worlds HS, xI_worldsFresh HS, xF_worldsFresh HS, xR_otherWorlds HS, xR_seating HS, xR_pairing HS, xI_toldSo HS, xF_toldSo HS, xI_toldNot HS, xF_toldNot HS, xO HS, wi_some, or_0, or_1, bo_or, ite_boP, true_and, and_true, kN_v, kN_n, kT_v, kT_n, kT_e, Nat.add_zero, Nat.zero_add]
  refine k128 hv h ?_
  intro D1 c1 h1 w1
  have hV1 := h1.2.1.1
  simp only [b120_4 hw, b120_15 hw, xR_tape HS, xI_wrongAt HS, xF_wrongAt HS, xR_state HS, xR_image HS, xI_imageKept HS, xF_imageKept HS, xR_draft HS, xR_memory HS, xR_lawText HS, xR_worlds HS, xI_worldsFresh HS, xF_worldsFresh HS, xR_otherWorlds HS, xR_seating HS, xR_pairing HS, xI_toldSo HS, xF_toldSo HS, xI_toldNot HS, xF_toldNot HS, xO HS, sR_things H, sI_goers H, sF_goers H, sR_wish H, sR_deed H, sI_makers H, sF_makers H, sR_born H, sR_money H, sR_nerve H, sR_shuns H, sR_by H, sI_trains H, sF_trains H, sR_halts H, sR_seats H, sI_texts H, sF_texts H, sI_law H, sF_law H, sI_day H, sF_day H, sI_seed H, sF_seed H, sR_log H, sO_state H, sI_count H, sF_count H, sI_first H, sF_first H, sR_at H, sR_worth H, sR_makes H, sR_hinders H, sO_things H, sI_rows H, sF_rows H, sR_entries H, sO_log H, sA_2 H, sW_2 H, sA_3 H, sW_3 H, sA_4 H, sW_4 H, sA_5 H, sW_5 H, sA_6 H, sW_6 H, sA_7 H, sW_7 H, sA_8 H, sW_8 H, sA_9 H, sW_9 H, sA_10 H, sW_10 H, sA_11 H, sW_11 H, sA_12 H, sW_12 H, sA_13 H, sW_13 H, sA_14 H, sW_14 H, sA_16 H, sW_16 H, wi_some, or_0, or_1, bo_or, ite_boP, true_and, and_true, kN_v, kN_n, kT_v, kT_n, kT_e, Nat.add_zero, Nat.zero_add, k36 hw H hV1 I, uR_so (Wsh_265 HS), ez, uA_1 (Wsh_265 HS) hz64, (w1 z hz64 (sub_ev _ (by omega) z hz64 hz)).1] at kk ⊢
  exact kk D1 h1 (c1.fc hx)
theorem m_world {x : Int32} (hw : WT sh) (HS : SP sh) (hv : GV G) (h : GR D G) (kk : ∀ D', Ms D D' → D' 286 0 = Int32.ofNat 0 → Q (.inl (some (.int (wS (gV G.1) (gt G.1) (gg G.1) ((gV G.1) 1 1) (x &&& Int32.ofNat (2 ^ (gg G.1) - 1)))))) (mk sh D') c s) : Wx (tP nx xs) (d + 5) 271 0 [some (.ref 286), (some (.int (x)))] [] (mk sh D) c s Q := by
  have h1 := h.ms hv (Ms.rf.th (v := Int32.ofNat 0))
  simp only [b271_0 hw, b271_5 hw, b271_11 hw, mI_thrown HS, mF_thrown HS, mR_row HS, mR_image HS, mR_earlier HS, mR_trial HS, mR_acts HS, mI_hasImage HS, mF_hasImage HS, mI_remembered HS, mF_remembered HS, mR_tape HS, mI_taped HS, mF_taped HS, mI_point HS, mF_point HS, mI_end HS, mF_end HS, mI_begin HS, mF_begin HS, mI_deep HS, mF_deep HS, mI_faultAt HS, mF_faultAt HS, mR_five HS, mI_codes HS, mF_codes HS, mR_value HS, mI_so HS, mF_so HS, mR_lines HS, mR_chosen HS, mR_best HS, mR_members HS, mR_paired HS, mO HS, mA_287 HS, mW_287 HS, mA_288 HS, mW_288 HS, mA_289 HS, mW_289 HS, mA_290 HS, mW_290 HS, mA_291 HS, mW_291 HS, mA_292 HS, mW_292 HS, mA_293 HS, mW_293 HS, mA_294 HS, mW_294 HS, mA_295 HS, mW_295 HS, mA_296 HS, mW_296 HS, mA_297 HS, mW_297 HS, mA_298 HS, mW_298 HS, mA_299 HS, mW_299 HS, wi_some, or_0, or_1, bo_or, ite_boP, true_and, and_true, kN_v, kN_n, kT_v, kT_n, kT_e, Nat.add_zero, Nat.zero_add, k206 hw HS h1.1.1 (i_ng6 hv.1)]
  refine k265 hw HS h1.1.1 hv.1 ?_
  intro D2 s2
  simp only [b271_15 hw, wi_some, or_0, or_1, bo_or, ite_boP, true_and, and_true, kN_v, kN_n, kT_v, kT_n, kT_e, Nat.add_zero, Nat.zero_add]
  exact kk D2 (Ms.rf.th.tr s2.ms) (by rw [s2 286 0 (by omega)]; simp [u2_at])
theorem c_agrees {x : Int32} (hv : GV G) (h : GC sh D G) (kk : ∀ D', GC sh D' G → Fc D D' → Q (.inl (some (.int (bo (agP (gV G.1) (gt G.1) (gg G.1) ((gV G.1) 1 1) (goneS (gV G.1) (gg G.1)) (x &&& Int32.ofNat (2 ^ (gg G.1) - 1))))))) (mk sh D') c s) : Wx (tP nx xs) (d + 4) 121 0 [some (.ref 0), (some (.int (x)))] [] (mk sh D) c s Q := by
  have hw := h.1.2
  have HS := h.1.1
  have H := St_state HS
  have I := hv.1
  have hV := h.2.1.1
  have hng := i_ng6 I
  have hnt := i_nt8 I
  have hnr := i_nr5 I
  have hnl := i_nl60 I
  have hx := h.L
  have hL := h.2.1.2
  obtain ⟨z, hz, ez⟩ := and_ev (x := x) (show (gg G.1) < 7 by omega)
  obtain ⟨g1, g2⟩ := gN_of (V := (gV G.1)) hng
  have h64 := everyN I
  have hz64 : z < 64 := by omega
  simp only [b121_0 hw, xR_tape HS, xI_wrongAt HS, xF_wrongAt HS, xR_state HS, xR_image HS, xI_imageKept HS, xF_imageKept HS, xR_draft HS, xR_memory HS, xR_lawText HS, xR_worlds HS, xI_worldsFresh HS, xF_worldsFresh HS, xR_otherWorlds HS, xR_seating HS, xR_pairing HS, xI_toldSo HS, xF_toldSo HS, xI_toldNot HS, xF_toldNot HS, xO HS, wi_some, or_0, or_1, bo_or, ite_boP, true_and, and_true, kN_v, kN_n, kT_v, kT_n, kT_e, Nat.add_zero, Nat.zero_add]
  refine k128 hv h ?_
  intro D1 c1 h1 w1
  have hV1 := h1.2.1.1
  have e : agP (gV G.1) (gt G.1) (gg G.1) ((gV G.1) 1 1) (goneS (gV G.1) (gg G.1)) (x &&& Int32.ofNat (2 ^ (gg G.1) - 1)) = decide (Int32.ofNat (gN (gV G.1) (gg G.1)) &&& aliveS (gV G.1) (gg G.1) (wS (gV G.1) (gt G.1) (gg G.1) ((gV G.1) 1 1) (Int32.ofNat z)) = Int32.ofNat z) := by
    unfold agP
    rw [ez, g1]
    by_cases hh : Int32.ofNat (gN (gV G.1) (gg G.1)) &&& aliveS (gV G.1) (gg G.1) (wS (gV G.1) (gt G.1) (gg G.1) ((gV G.1) 1 1) (Int32.ofNat z)) = Int32.ofNat z
    · have : Int32.ofNat z &&& (Int32.ofNat (gN (gV G.1) (gg G.1)) ^^^ -1) = Int32.ofNat 0 := by
        rw [← hh]
        apply b_ext
        intro i hi
        simp only [b_and, b_xor, b_00, b_m1 i hi]
        cases bt (Int32.ofNat (gN (gV G.1) (gg G.1))) i <;> simp
      simp only [hh, this, decide_true, Bool.and_self]
    · simp only [hh, decide_false, Bool.and_false]
  rw [e] at kk
  simp only [b121_4 hw, b121_12 hw, b121_20 hw, b121_23 hw, xR_tape HS, xI_wrongAt HS, xF_wrongAt HS, xR_state HS, xR_image HS, xI_imageKept HS, xF_imageKept HS, xR_draft HS, xR_memory HS, xR_lawText HS, xR_worlds HS, xI_worldsFresh HS, xF_worldsFresh HS, xR_otherWorlds HS, xR_seating HS, xR_pairing HS, xI_toldSo HS, xF_toldSo HS, xI_toldNot HS, xF_toldNot HS, xO HS, sR_things H, sI_goers H, sF_goers H, sR_wish H, sR_deed H, sI_makers H, sF_makers H, sR_born H, sR_money H, sR_nerve H, sR_shuns H, sR_by H, sI_trains H, sF_trains H, sR_halts H, sR_seats H, sI_texts H, sF_texts H, sI_law H, sF_law H, sI_day H, sF_day H, sI_seed H, sF_seed H, sR_log H, sO_state H, sI_count H, sF_count H, sI_first H, sF_first H, sR_at H, sR_worth H, sR_makes H, sR_hinders H, sO_things H, sI_rows H, sF_rows H, sR_entries H, sO_log H, sA_2 H, sW_2 H, sA_3 H, sW_3 H, sA_4 H, sW_4 H, sA_5 H, sW_5 H, sA_6 H, sW_6 H, sA_7 H, sW_7 H, sA_8 H, sW_8 H, sA_9 H, sW_9 H, sA_10 H, sW_10 H, sA_11 H, sW_11 H, sA_12 H, sW_12 H, sA_13 H, sW_13 H, sA_14 H, sW_14 H, sA_16 H, sW_16 H, wi_some, or_0, or_1, bo_or, ite_boP, true_and, and_true, kN_v, kN_n, kT_v, kT_n, kT_e, Nat.add_zero, Nat.zero_add, k36 hw H hV1 I, k37 hw H hV1 I, wO HS, ez, g1, k90 hw (Wsh_265 HS) w1 hz64 (sub_ev _ (by omega) z hz64 hz)]
  exact kk D1 h1 (c1.fc hx)
theorem m_agrees {x : Int32} (hw : WT sh) (HS : SP sh) (hv : GV G) (h : GR D G) (kk : ∀ D', Ms D D' → D' 286 0 = Int32.ofNat 0 → Q (.inl (some (.int (bo (agP (gV G.1) (gt G.1) (gg G.1) ((gV G.1) 1 1) (goneS (gV G.1) (gg G.1)) (x &&& Int32.ofNat (2 ^ (gg G.1) - 1))))))) (mk sh D') c s) : Wx (tP nx xs) (d + 6) 272 0 [some (.ref 286), (some (.int (x)))] [] (mk sh D) c s Q := by
  have h1 := h.ms hv (Ms.rf.th (v := Int32.ofNat 0))
  simp only [b272_0 hw, b272_5 hw, b272_11 hw, b272_16 hw, mI_thrown HS, mF_thrown HS, mR_row HS, mR_image HS, mR_earlier HS, mR_trial HS, mR_acts HS, mI_hasImage HS, mF_hasImage HS, mI_remembered HS, mF_remembered HS, mR_tape HS, mI_taped HS, mF_taped HS, mI_point HS, mF_point HS, mI_end HS, mF_end HS, mI_begin HS, mF_begin HS, mI_deep HS, mF_deep HS, mI_faultAt HS, mF_faultAt HS, mR_five HS, mI_codes HS, mF_codes HS, mR_value HS, mI_so HS, mF_so HS, mR_lines HS, mR_chosen HS, mR_best HS, mR_members HS, mR_paired HS, mO HS, mA_287 HS, mW_287 HS, mA_288 HS, mW_288 HS, mA_289 HS, mW_289 HS, mA_290 HS, mW_290 HS, mA_291 HS, mW_291 HS, mA_292 HS, mW_292 HS, mA_293 HS, mW_293 HS, mA_294 HS, mW_294 HS, mA_295 HS, mW_295 HS, mA_296 HS, mW_296 HS, mA_297 HS, mW_297 HS, mA_298 HS, mW_298 HS, mA_299 HS, mW_299 HS, wi_some, or_0, or_1, bo_or, ite_boP, true_and, and_true, kN_v, kN_n, kT_v, kT_n, kT_e, Nat.add_zero, Nat.zero_add, k206 hw HS h1.1.1 (i_ng6 hv.1), k208 hw HS h1.1.1 (i_ng6 hv.1)]
  refine k267 hw HS h1.1.1 hv.1 ?_
  intro D2 s2
  simp only [b272_19 hw, wi_some, or_0, or_1, bo_or, ite_boP, true_and, and_true, kN_v, kN_n, kT_v, kT_n, kT_e, Nat.add_zero, Nat.zero_add]
  exact kk D2 (Ms.rf.th.tr s2.ms) (by rw [s2 286 0 (by omega)]; simp [u2_at])
/-! otherwise -/
def o_otherwise (G : GT) (x : Int32) : Int32 ⊕ Nat := match ixO x (gg G.1) with
  | none => .inr 1
  | some g => .inl (nowS (gV G.1) (gt G.1) (gg G.1) ((gV G.1) 1 1) (gX (gV G.1) (gg G.1) g))
theorem c_otherwise {x : Int32} (hv : GV G) (h : GC sh D G) (kk : ∀ D', GC sh D' G → Fc D D' → Q (oQ (fun _ => xIO) (o_otherwise G x)) (mk sh D') (c + o1 (o_otherwise G x)) (s + 6 * o1 (o_otherwise G x))) : Wx (tP nx xs) (d + 4) 126 0 [some (.ref 0), (some (.int (x)))] [] (mk sh D) c s Q := by
  have hw := h.1.2
  have HS := h.1.1
  have H := St_state HS
  have I := hv.1
  have hV := h.2.1.1
  have hng := i_ng6 I
  have hnt := i_nt8 I
  have hnr := i_nr5 I
  have hnl := i_nl60 I
  have hx := h.L
  have hL := h.2.1.2
  unfold o_otherwise at kk
  simp only [b126_0 hw, xR_tape HS, xI_wrongAt HS, xF_wrongAt HS, xR_state HS, xR_image HS, xI_imageKept HS, xF_imageKept HS, xR_draft HS, xR_memory HS, xR_lawText HS, xR_worlds HS, xI_worldsFresh HS, xF_worldsFresh HS, xR_otherWorlds HS, xR_seating HS, xR_pairing HS, xI_toldSo HS, xF_toldSo HS, xI_toldNot HS, xF_toldNot HS, xO HS, wi_some, or_0, or_1, bo_or, ite_boP, true_and, and_true, kN_v, kN_n, kT_v, kT_n, kT_e, Nat.add_zero, Nat.zero_add, k181 hv h]
  cases hi : ixO x (gg G.1) with
  | none =>
    simp only [hi, oQ, o1, wi_some, or_0, or_1, bo_or, ite_boP, true_and, and_true, kN_v, kN_n, kT_v, kT_n, kT_e, Nat.add_zero, Nat.zero_add] at kk ⊢
    exact kk D h Fc.rf
  | some g =>
    obtain ⟨hg, rfl⟩ := ixO_some (by omega) hi
    obtain ⟨e1, e2⟩ := gX_of (V := (gV G.1)) hng hg
    have h64 := everyN I
    simp only [hi, oQ, o1, wi_some, or_0, or_1, bo_or, ite_boP, true_and, and_true, kN_v, kN_n, kT_v, kT_n, kT_e, Nat.add_zero, Nat.zero_add, Nat.mul_zero, b126_5 hw, xR_tape HS, xI_wrongAt HS, xF_wrongAt HS, xR_state HS, xR_image HS, xI_imageKept HS, xF_imageKept HS, xR_draft HS, xR_memory HS, xR_lawText HS, xR_worlds HS, xI_worldsFresh HS, xF_worldsFresh HS, xR_otherWorlds HS, xR_seating HS, xR_pairing HS, xI_toldSo HS, xF_toldSo HS, xI_toldNot HS, xF_toldNot HS, xO HS] at kk ⊢
    refine k128 hv h ?_
    intro D1 c1 h1 w1
    have hV1 := h1.2.1.1
    simp only [b126_9 hw, b126_16 hw, b126_23 hw, xR_tape HS, xI_wrongAt HS, xF_wrongAt HS, xR_state HS, xR_image HS, xI_imageKept HS, xF_imageKept HS, xR_draft HS, xR_memory HS, xR_lawText HS, xR_worlds HS, xI_worldsFresh HS, xF_worldsFresh HS, xR_otherWorlds HS, xR_seating HS, xR_pairing HS, xI_toldSo HS, xF_toldSo HS, xI_toldNot HS, xF_toldNot HS, xO HS, sR_things H, sI_goers H, sF_goers H, sR_wish H, sR_deed H, sI_makers H, sF_makers H, sR_born H, sR_money H, sR_nerve H, sR_shuns H, sR_by H, sI_trains H, sF_trains H, sR_halts H, sR_seats H, sI_texts H, sF_texts H, sI_law H, sF_law H, sI_day H, sF_day H, sI_seed H, sF_seed H, sR_log H, sO_state H, sI_count H, sF_count H, sI_first H, sF_first H, sR_at H, sR_worth H, sR_makes H, sR_hinders H, sO_things H, sI_rows H, sF_rows H, sR_entries H, sO_log H, sA_2 H, sW_2 H, sA_3 H, sW_3 H, sA_4 H, sW_4 H, sA_5 H, sW_5 H, sA_6 H, sW_6 H, sA_7 H, sW_7 H, sA_8 H, sW_8 H, sA_9 H, sW_9 H, sA_10 H, sW_10 H, sA_11 H, sW_11 H, sA_12 H, sW_12 H, sA_13 H, sW_13 H, sA_14 H, sW_14 H, sA_16 H, sW_16 H, wi_some, or_0, or_1, bo_or, ite_boP, true_and, and_true, kN_v, kN_n, kT_v, kT_n, kT_e, Nat.add_zero, Nat.zero_add, k37 hw H hV1 I, e1, wO HS, k93 hw (Wsh_265 HS) w1 (show gX (gV G.1) (gg G.1) g < 64 by omega) (sub_ev _ (by omega) _ (by omega) e2)]
    exact kk D1 h1 (c1.fc hx)
theorem k277 {g : Nat} (hw : WT sh) (HS : SP sh) (hv : GV G) (h : GR D G) (hg : g < (gg G.1)) (kk : ∀ D', Sm D D' → Q (.inl (some (.int (nowS (gV G.1) (gt G.1) (gg G.1) ((gV G.1) 1 1) (gX (gV G.1) (gg G.1) g))))) (mk sh D') c s) : Wx (tP nx xs) (d + 8) 277 0 [some (.ref 286), (some (.int (Int32.ofNat g)))] [] (mk sh D) c s Q := by
  have R := h.1.1
  have hL := h.1.2
  have I := hv.1
  have hng := i_ng6 I
  have hnt := i_nt8 I
  have hnr := i_nr5 I
  have hnl := i_nl60 I
  obtain ⟨e1, e2⟩ := gX_of (V := (gV G.1)) hng hg
  have h64 := everyN I
  simp only [b277_0 hw, b277_5 hw, mI_thrown HS, mF_thrown HS, mR_row HS, mR_image HS, mR_earlier HS, mR_trial HS, mR_acts HS, mI_hasImage HS, mF_hasImage HS, mI_remembered HS, mF_remembered HS, mR_tape HS, mI_taped HS, mF_taped HS, mI_point HS, mF_point HS, mI_end HS, mF_end HS, mI_begin HS, mF_begin HS, mI_deep HS, mF_deep HS, mI_faultAt HS, mF_faultAt HS, mR_five HS, mI_codes HS, mF_codes HS, mR_value HS, mI_so HS, mF_so HS, mR_lines HS, mR_chosen HS, mR_best HS, mR_members HS, mR_paired HS, mO HS, mA_287 HS, mW_287 HS, mA_288 HS, mW_288 HS, mA_289 HS, mW_289 HS, mA_290 HS, mW_290 HS, mA_291 HS, mW_291 HS, mA_292 HS, mW_292 HS, mA_293 HS, mW_293 HS, mA_294 HS, mW_294 HS, mA_295 HS, mW_295 HS, mA_296 HS, mW_296 HS, mA_297 HS, mW_297 HS, mA_298 HS, mW_298 HS, mA_299 HS, mW_299 HS, wi_some, or_0, or_1, bo_or, ite_boP, true_and, and_true, kN_v, kN_n, kT_v, kT_n, kT_e, Nat.add_zero, Nat.zero_add, k208 hw HS R hng, e1]
  refine k269 hw HS R I (by omega) ?_
  intro D2 s2
  simp only [b277_12 hw, wi_some, or_0, or_1, bo_or, ite_boP, true_and, and_true, kN_v, kN_n, kT_v, kT_n, kT_e, Nat.add_zero, Nat.zero_add]
  exact kk D2 s2
theorem m_otherwise {x : Int32} (hw : WT sh) (HS : SP sh) (hv : GV G) (h : GR D G) (kk : ∀ D', Ms D D' → D' 286 0 = Int32.ofNat (th (o_otherwise G x)) → Q (.inl (some (.int (rv (o_otherwise G x))))) (mk sh D') c s) : Wx (tP nx xs) (d + 9) 278 0 [some (.ref 286), (some (.int (x)))] [] (mk sh D) c s Q := by
  have h1 := h.ms hv (Ms.rf.th (v := Int32.ofNat 0))
  have hng := i_ng6 hv.1
  unfold o_otherwise at kk
  simp only [b278_0 hw, b278_5 hw, b278_11 hw, mI_thrown HS, mF_thrown HS, mR_row HS, mR_image HS, mR_earlier HS, mR_trial HS, mR_acts HS, mI_hasImage HS, mF_hasImage HS, mI_remembered HS, mF_remembered HS, mR_tape HS, mI_taped HS, mF_taped HS, mI_point HS, mF_point HS, mI_end HS, mF_end HS, mI_begin HS, mF_begin HS, mI_deep HS, mF_deep HS, mI_faultAt HS, mF_faultAt HS, mR_five HS, mI_codes HS, mF_codes HS, mR_value HS, mI_so HS, mF_so HS, mR_lines HS, mR_chosen HS, mR_best HS, mR_members HS, mR_paired HS, mO HS, mA_287 HS, mW_287 HS, mA_288 HS, mW_288 HS, mA_289 HS, mW_289 HS, mA_290 HS, mW_290 HS, mA_291 HS, mW_291 HS, mA_292 HS, mW_292 HS, mA_293 HS, mW_293 HS, mA_294 HS, mW_294 HS, mA_295 HS, mW_295 HS, mA_296 HS, mW_296 HS, mA_297 HS, mW_297 HS, mA_298 HS, mW_298 HS, mA_299 HS, mW_299 HS, wi_some, or_0, or_1, bo_or, ite_boP, true_and, and_true, kN_v, kN_n, kT_v, kT_n, kT_e, Nat.add_zero, Nat.zero_add, k211 hw HS hv h1, k187 hw HS, b278_15 hw]
  cases hi : ixO x (gg G.1) with
  | none =>
    simp only [hi, Option.isNone_none, if_true, th, rv, b278_27 hw] at kk ⊢
    exact kk _ Ms.rf.th.th (by simp [u2_at])
  | some g =>
    obtain ⟨hg, rfl⟩ := ixO_some (by omega) hi
    simp only [hi, Option.isNone_some, Bool.false_eq_true, if_false, th, rv, mI_thrown HS, mF_thrown HS, mR_row HS, mR_image HS, mR_earlier HS, mR_trial HS, mR_acts HS, mI_hasImage HS, mF_hasImage HS, mI_remembered HS, mF_remembered HS, mR_tape HS, mI_taped HS, mF_taped HS, mI_point HS, mF_point HS, mI_end HS, mF_end HS, mI_begin HS, mF_begin HS, mI_deep HS, mF_deep HS, mI_faultAt HS, mF_faultAt HS, mR_five HS, mI_codes HS, mF_codes HS, mR_value HS, mI_so HS, mF_so HS, mR_lines HS, mR_chosen HS, mR_best HS, mR_members HS, mR_paired HS, mO HS, mA_287 HS, mW_287 HS, mA_288 HS, mW_288 HS, mA_289 HS, mW_289 HS, mA_290 HS, mW_290 HS, mA_291 HS, mW_291 HS, mA_292 HS, mW_292 HS, mA_293 HS, mW_293 HS, mA_294 HS, mW_294 HS, mA_295 HS, mW_295 HS, mA_296 HS, mW_296 HS, mA_297 HS, mW_297 HS, mA_298 HS, mW_298 HS, mA_299 HS, mW_299 HS, wi_some, or_0, or_1, bo_or, ite_boP, true_and, and_true, kN_v, kN_n, kT_v, kT_n, kT_e, Nat.add_zero, Nat.zero_add] at kk ⊢
    refine k277 hw HS hv h1 hg ?_
    intro D2 s2
    simp only [b278_27 hw, wi_some, or_0, or_1, bo_or, ite_boP, true_and, and_true, kN_v, kN_n, kT_v, kT_n, kT_e, Nat.add_zero, Nat.zero_add]
    exact kk D2 (Ms.rf.th.tr s2.ms) (by rw [s2 286 0 (by omega)]; simp [u2_at])
end C61
