/-! ===== State with its law: cost, fear, who can go, which train ===== -/
theorem sRf_pos {x : Int32} {p : Nat} (h : sRf x = some p) : x.toNatClampNeg = p + 1 := by
  unfold sRf at h
  split at h
  · cases h
  · next n e => cases h; exact e
/-- nothing but the rows in which the law at x reckons -/
def Sl (x : Int32) (D D' : sD) : Prop := ∀ b, (∀ p, sRf x = some p → b ≠ p + 5 ∧ b ≠ p + 6) → D' b = D b
/-- nothing but the State at a and those rows -/
def Fx (a : Nat) (x : Int32) (D D' : sD) : Prop := ∀ b, (b < a ∨ a + 17 ≤ b) → (∀ p, sRf x = some p → b ≠ p + 5 ∧ b ≠ p + 6) → D' b = D b
section V42
variable {D D' D'' V : sD} {a p : Nat} {x : Int32}
theorem Sl.rf : Sl x D D := fun _ _ => rfl
theorem Fx.rf : Fx a x D D := fun _ _ _ => rfl
theorem Sl.tr (h : Sl x D D') (h' : Sl x D' D'') : Sl x D D'' := fun b hb => (h' b hb).trans (h b hb)
theorem Fx.tr (h : Fx a x D D') (h' : Fx a x D' D'') : Fx a x D D'' := fun b h1 h2 => (h' b h1 h2).trans (h b h1 h2)
theorem Sl.fx (h : Sl x D D') : Fx a x D D' := fun b _ h2 => h b h2
theorem Fr.fx (h : Fr a D D') : Fx a x D D' := fun b h1 _ => h b h1
theorem Ex.sl5 (hp : sRf x = some p) (h : Ex (p + 5) D D') : Sl x D D' := fun b hb => h b (hb p hp).1
theorem Ex.sl6 (hp : sRf x = some p) (h : Ex (p + 6) D D') : Sl x D D' := fun b hb => h b (hb p hp).2
theorem Vw.sl (h : Vw D a V) (hs : Sl x D D') (hx : ∀ p, sRf x = some p → a + 17 ≤ p) : Vw D' a V := by
  intro k i hk
  rw [hs (a + k) fun p hp => by have := hx p hp; omega]
  exact h k i hk
end V42
/-- a law: lines, kinds, amounts, signs, ends -/
abbrev LW : Type := Option (Nat × (Nat → Int32) × (Nat → Int32) × (Nat → Int32) × (Nat → Nat))
def Lc (sh : List sC) (D : sD) (x : Int32) (lw : LW) : Prop := match lw with
  | none => x.toNatClampNeg = 0
  | some (n, K, A, C, e) => ∃ p m, sRf x = some p ∧ 301 ≤ p ∧ Lsh sh p n m ∧ LawE D p n m e ∧ D (p + 1) = K ∧ D (p + 2) = A ∧ D (p + 4) = C ∧ ∀ j, j < n → ∃ q, q ≤ 200 ∧ A j = Int32.ofNat q
theorem Lc_301 {sh : List sC} {D : sD} {x : Int32} {lw : LW} (h : Lc sh D x lw) : ∀ p, sRf x = some p → 301 ≤ p := by
  intro p hp
  cases lw with
  | none =>
    have e := sRf_pos hp
    have h : x.toNatClampNeg = 0 := h
    omega
  | some L =>
    obtain ⟨n, K, A, C, e⟩ := L
    obtain ⟨p', m, hp', h3, _⟩ := h
    rw [hp] at hp'
    cases hp'
    exact h3
theorem LawE.of {D D' : sD} {p n m : Nat} {e : Nat → Nat} (h : LawE D p n m e) (h0 : D' p = D p) (h3 : D' (p + 3) = D (p + 3)) (h4 : D' (p + 4) = D (p + 4)) : LawE D' p n m e := by
  unfold LawE at *
  rw [h0, h3, h4]
  exact h
/-- what doesn't touch the law's own rows keeps it -/
theorem Lc.of {sh : List sC} {D D' : sD} {x : Int32} {lw : LW} (h : Lc sh D x lw) (hd : ∀ p, sRf x = some p → ∀ k, k < 5 → D' (p + k) = D (p + k)) : Lc sh D' x lw := by
  cases lw with
  | none => exact h
  | some L =>
    obtain ⟨n, K, A, C, e⟩ := L
    obtain ⟨p, m, hp, h3, HL, hE, h1, h2, h4, hA⟩ := h
    have hd := hd p hp
    exact ⟨p, m, hp, h3, HL, hE.of (hd 0 (by decide)) (hd 3 (by decide)) (hd 4 (by decide)), (hd 1 (by decide)).trans h1, (hd 2 (by decide)).trans h2, (hd 4 (by decide)).trans h4, hA⟩
theorem Lc.sl {sh : List sC} {D D' : sD} {x : Int32} {lw : LW} (h : Lc sh D x lw) (hs : Sl x D D') : Lc sh D' x lw := h.of fun p hp k hk => hs _ fun p' hp' => by rw [hp] at hp'; cases hp'; omega
theorem Lc.fx {sh : List sC} {D D' : sD} {x : Int32} {lw : LW} {a : Nat} (ha : a + 17 ≤ 301) (h : Lc sh D x lw) (hs : Fx a x D D') : Lc sh D' x lw := h.of fun p hp k hk => hs _ (by have := Lc_301 h p hp; omega) fun p' hp' => by rw [hp] at hp'; cases hp'; omega
theorem stk1_congr {F G : Nat → Int32} (h : ∀ k, k < 10 → F k = G k) (x : Int32) (l : List Int32) : stk1 F x l = stk1 G x l := by
  unfold stk1
  by_cases h1 : x < Int32.ofNat 1010
  · rw [if_pos h1, if_pos h1]
    by_cases h2 : x < Int32.ofNat 1000
    · rw [if_pos h2, if_pos h2]
    · obtain ⟨k, hk, _, _, e⟩ := fact_ix h1 h2
      rw [if_neg h2, if_neg h2, e, h k hk]
  · rw [if_neg h1, if_neg h1]
theorem evR_congr {C F G : Nat → Int32} (h : ∀ k, k < 10 → F k = G k) : ∀ (k i : Nat) (l : List Int32), evR C F k i l = evR C G k i l
  | 0, _, _ => rfl
  | k + 1, i, l => by
    show evR C F k (i + 1) (stk1 F (C i) l) = evR C G k (i + 1) (stk1 G (C i) l)
    rw [stk1_congr h, evR_congr h k]
theorem lawSum_congr {K A C F G : Nat → Int32} {e : Nat → Nat} {n : Nat} {kind : Int32} (h : ∀ k, k < 10 → F k = G k) : lawSum K A C F e n kind = lawSum K A C G e n kind := by
  unfold lawSum
  apply fo_congr
  intro j x _ _
  unfold holdsS
  rw [evR_congr h]
theorem lawSum_nat {K A C F : Nat → Int32} {e : Nat → Nat} {n : Nat} {kind : Int32} (hA : ∀ j, j < n → ∃ q, q ≤ 200 ∧ A j = Int32.ofNat q) : ∃ q, q ≤ 200 * n ∧ lawSum K A C F e n kind = Int32.ofNat q := by
  have h := fo_inv (F := fun j x => if decide (K j = kind) && holdsS C F (e j) (e (j + 1)) then x + A j else x) (fun i x => ∃ q, q ≤ 200 * i ∧ x = Int32.ofNat q) n 0 (Int32.ofNat 0) ⟨0, by omega, rfl⟩ (fun j x _ hj ⟨q, hq, hx⟩ => by
    obtain ⟨r, hr, hr2⟩ := hA j (by omega)
    split
    · exact ⟨q + r, by omega, by rw [hx, hr2, oN_add]⟩
    · exact ⟨q, by omega, hx⟩)
  rw [Nat.zero_add] at h
  exact h
def sumL (lw : LW) (V : sD) (ng g t : Nat) (kind : Int32) : Int32 := match lw with
  | none => Int32.ofNat 0
  | some (n, K, A, C, e) => lawSum K A C (facV V ng g t) e n kind
def costL (lw : LW) (V : sD) (ng g t : Nat) : Int32 := Int32.ofNat 10 + sumL lw V ng g t (Int32.ofNat 0)
def fearL (lw : LW) (V : sD) (ng g t : Nat) : Int32 := sumL lw V ng g t (Int32.ofNat 1)
def canL (lw : LW) (V : sD) (ng g t : Nat) : Bool := decide (V 12 g = -1) && (stopB V g t && (decide (bc (ridS V ng (Int32.ofNat t)) < V 14 t) && (decide (ridS V ng (Int32.ofNat t) &&& V 11 g = Int32.ofNat 0) && (decide (sumL lw V ng g t (Int32.ofNat 2) = Int32.ofNat 0) && decide (¬ V 9 g < costL lw V ng g t)))))
theorem sumL_nat {sh : List sC} {D : sD} {x : Int32} {lw : LW} (hL : Lc sh D x lw) (V : sD) (ng g t : Nat) (kind : Int32) : ∃ q, q ≤ 2400 ∧ sumL lw V ng g t kind = Int32.ofNat q := by
  cases lw with
  | none => exact ⟨0, by omega, rfl⟩
  | some L =>
    obtain ⟨n, K, A, C, e⟩ := L
    obtain ⟨p, m, hp, h3, HL, hE, h1, h2, h4, hA⟩ := hL
    obtain ⟨q, hq, h⟩ := lawSum_nat (K := K) (C := C) (F := facV V ng g t) (e := e) (kind := kind) hA
    have hn := HL.2.2.2.2.2.2.2.1
    exact ⟨q, by omega, h⟩
section C42
variable {nx : Nat} {xs : Nat → Int32} {d c s : Nat} {sh : List sC} {D : sD} {Q : av_Q}
variable {V : sD} {a nt ng nr nl g t : Nat} {lw : LW}
theorem k44 (hw : WT sh) (H : St sh a) (ha : a + 17 ≤ 301) (hV : Vw D a V) (I : Iv V nt ng nr nl) (hL : Lc sh D (V 0 14) lw) (hg : g < ng) (ht : t < nr)
    (kk : ∀ D', Sl (V 0 14) D D' → Q (.inl (some (.int (costL lw V ng g t)))) (mk sh D') c s) :
    Wx (tP nx xs) (d + 2) 44 0 [some (.ref a), (some (.int (Int32.ofNat g))), (some (.int (Int32.ofNat t)))] [] (mk sh D) c s Q := by
  cases lw with
  | none =>
    have h0 : (V 0 14).toNatClampNeg = 0 := hL
    simp only [b44_0 hw, b44_1 hw, sR_things H, sI_goers H, sF_goers H, sR_wish H, sR_deed H, sI_makers H, sF_makers H, sR_born H, sR_money H, sR_nerve H, sR_shuns H, sR_by H, sI_trains H, sF_trains H, sR_halts H, sR_seats H, sI_texts H, sF_texts H, sI_law H, sF_law H, sI_day H, sF_day H, sI_seed H, sF_seed H, sR_log H, sO_state H, sI_count H, sF_count H, sI_first H, sF_first H, sR_at H, sR_worth H, sR_makes H, sR_hinders H, sO_things H, sI_rows H, sF_rows H, sR_entries H, sO_log H, sA_2 H, sW_2 H, sA_3 H, sW_3 H, sA_4 H, sW_4 H, sA_5 H, sW_5 H, sA_6 H, sW_6 H, sA_7 H, sW_7 H, sA_8 H, sW_8 H, sA_9 H, sW_9 H, sA_10 H, sW_10 H, sA_11 H, sW_11 H, sA_12 H, sW_12 H, sA_13 H, sW_13 H, sA_14 H, sW_14 H, sA_16 H, sW_16 H, wi_some, or_0, or_1, bo_or, ite_boP, true_and, and_true, kN_v, kN_n, kT_v, kT_n, kT_e, Nat.add_zero, Nat.zero_add, v_0 hV, v_1 hV, v_2 hV, v_3 hV, v_4 hV, v_5 hV, v_6 hV, v_7 hV, v_8 hV, v_9 hV, v_10 hV, v_11 hV, v_12 hV, v_13 hV, v_14 hV, v_15 hV, v_16 hV, h0, if_true]
    exact kk D Sl.rf
  | some L =>
    obtain ⟨n, K, A, C, e⟩ := L
    obtain ⟨p, m, hp, h3, HL, hE, h1, h2, h4, hA⟩ := hL
    have hp0 : ¬ (V 0 14).toNatClampNeg = 0 := by rw [sRf_pos hp]; omega
    have hpD : sRf (D a 14) = some p := by rw [v_0 hV]; exact hp
    simp only [b44_0 hw, b44_1 hw, b44_11 hw hpD, sR_things H, sI_goers H, sF_goers H, sR_wish H, sR_deed H, sI_makers H, sF_makers H, sR_born H, sR_money H, sR_nerve H, sR_shuns H, sR_by H, sI_trains H, sF_trains H, sR_halts H, sR_seats H, sI_texts H, sF_texts H, sI_law H, sF_law H, sI_day H, sF_day H, sI_seed H, sF_seed H, sR_log H, sO_state H, sI_count H, sF_count H, sI_first H, sF_first H, sR_at H, sR_worth H, sR_makes H, sR_hinders H, sO_things H, sI_rows H, sF_rows H, sR_entries H, sO_log H, sA_2 H, sW_2 H, sA_3 H, sW_3 H, sA_4 H, sW_4 H, sA_5 H, sW_5 H, sA_6 H, sW_6 H, sA_7 H, sW_7 H, sA_8 H, sW_8 H, sA_9 H, sW_9 H, sA_10 H, sW_10 H, sA_11 H, sW_11 H, sA_12 H, sW_12 H, sA_13 H, sW_13 H, sA_14 H, sW_14 H, sA_16 H, sW_16 H, wi_some, or_0, or_1, bo_or, ite_boP, true_and, and_true, kN_v, kN_n, kT_v, kT_n, kT_e, Nat.add_zero, Nat.zero_add, v_0 hV, v_1 hV, v_2 hV, v_3 hV, v_4 hV, v_5 hV, v_6 hV, v_7 hV, v_8 hV, v_9 hV, v_10 hV, v_11 hV, v_12 hV, v_13 hV, v_14 hV, v_15 hV, v_16 hV, hp0, if_false, qO HL]
    refine k1 hw H hV I HL (by omega) hg ht ?_
    intro D1 hex hf
    have s1 : Sl (V 0 14) D D1 := hex.sl5 hp
    have hV1 : Vw D1 a V := hV.sl s1 fun p' hp' => by rw [hp] at hp'; cases hp'; omega
    have hpD1 : sRf (D1 a 14) = some p := by rw [v_0 hV1]; exact hp
    simp only [b44_20 hw, b44_23 hw hpD1, sR_things H, sI_goers H, sF_goers H, sR_wish H, sR_deed H, sI_makers H, sF_makers H, sR_born H, sR_money H, sR_nerve H, sR_shuns H, sR_by H, sI_trains H, sF_trains H, sR_halts H, sR_seats H, sI_texts H, sF_texts H, sI_law H, sF_law H, sI_day H, sF_day H, sI_seed H, sF_seed H, sR_log H, sO_state H, sI_count H, sF_count H, sI_first H, sF_first H, sR_at H, sR_worth H, sR_makes H, sR_hinders H, sO_things H, sI_rows H, sF_rows H, sR_entries H, sO_log H, sA_2 H, sW_2 H, sA_3 H, sW_3 H, sA_4 H, sW_4 H, sA_5 H, sW_5 H, sA_6 H, sW_6 H, sA_7 H, sW_7 H, sA_8 H, sW_8 H, sA_9 H, sW_9 H, sA_10 H, sW_10 H, sA_11 H, sW_11 H, sA_12 H, sW_12 H, sA_13 H, sW_13 H, sA_14 H, sW_14 H, sA_16 H, sW_16 H, wi_some, or_0, or_1, bo_or, ite_boP, true_and, and_true, kN_v, kN_n, kT_v, kT_n, kT_e, Nat.add_zero, Nat.zero_add, qO HL]
    refine k2 (e := e) hw HL (hE.of (hex _ (by omega)) (hex _ (by omega)) (hex _ (by omega))) (fun k h7 h10 => by rw [hf k h10]; exact facV_B k h7 h10) ?_
    intro D2 hex2
    simp only [b44_30 hw, wi_some, or_0, or_1, bo_or, ite_boP, true_and, and_true, kN_v, kN_n, kT_v, kT_n, kT_e, Nat.add_zero, Nat.zero_add]
    have := kk D2 (s1.tr (hex2.sl6 hp))
    rw [lawSum_congr hf, hex (p + 1) (by omega), hex (p + 2) (by omega), hex (p + 4) (by omega), h1, h2, h4]
    exact this
theorem k45 (hw : WT sh) (H : St sh a) (ha : a + 17 ≤ 301) (hV : Vw D a V) (I : Iv V nt ng nr nl) (hL : Lc sh D (V 0 14) lw) (hg : g < ng) (ht : t < nr)
    (kk : ∀ D', Sl (V 0 14) D D' → Q (.inl (some (.int (fearL lw V ng g t)))) (mk sh D') c s) :
    Wx (tP nx xs) (d + 2) 45 0 [some (.ref a), (some (.int (Int32.ofNat g))), (some (.int (Int32.ofNat t)))] [] (mk sh D) c s Q := by
  cases lw with
  | none =>
    have h0 : (V 0 14).toNatClampNeg = 0 := hL
    simp only [b45_0 hw, b45_1 hw, sR_things H, sI_goers H, sF_goers H, sR_wish H, sR_deed H, sI_makers H, sF_makers H, sR_born H, sR_money H, sR_nerve H, sR_shuns H, sR_by H, sI_trains H, sF_trains H, sR_halts H, sR_seats H, sI_texts H, sF_texts H, sI_law H, sF_law H, sI_day H, sF_day H, sI_seed H, sF_seed H, sR_log H, sO_state H, sI_count H, sF_count H, sI_first H, sF_first H, sR_at H, sR_worth H, sR_makes H, sR_hinders H, sO_things H, sI_rows H, sF_rows H, sR_entries H, sO_log H, sA_2 H, sW_2 H, sA_3 H, sW_3 H, sA_4 H, sW_4 H, sA_5 H, sW_5 H, sA_6 H, sW_6 H, sA_7 H, sW_7 H, sA_8 H, sW_8 H, sA_9 H, sW_9 H, sA_10 H, sW_10 H, sA_11 H, sW_11 H, sA_12 H, sW_12 H, sA_13 H, sW_13 H, sA_14 H, sW_14 H, sA_16 H, sW_16 H, wi_some, or_0, or_1, bo_or, ite_boP, true_and, and_true, kN_v, kN_n, kT_v, kT_n, kT_e, Nat.add_zero, Nat.zero_add, v_0 hV, v_1 hV, v_2 hV, v_3 hV, v_4 hV, v_5 hV, v_6 hV, v_7 hV, v_8 hV, v_9 hV, v_10 hV, v_11 hV, v_12 hV, v_13 hV, v_14 hV, v_15 hV, v_16 hV, h0, if_true]
    exact kk D Sl.rf
  | some L =>
    obtain ⟨n, K, A, C, e⟩ := L
    obtain ⟨p, m, hp, h3, HL, hE, h1, h2, h4, hA⟩ := hL
    have hp0 : ¬ (V 0 14).toNatClampNeg = 0 := by rw [sRf_pos hp]; omega
    have hpD : sRf (D a 14) = some p := by rw [v_0 hV]; exact hp
    simp only [b45_0 hw, b45_1 hw, b45_10 hw hpD, sR_things H, sI_goers H, sF_goers H, sR_wish H, sR_deed H, sI_makers H, sF_makers H, sR_born H, sR_money H, sR_nerve H, sR_shuns H, sR_by H, sI_trains H, sF_trains H, sR_halts H, sR_seats H, sI_texts H, sF_texts H, sI_law H, sF_law H, sI_day H, sF_day H, sI_seed H, sF_seed H, sR_log H, sO_state H, sI_count H, sF_count H, sI_first H, sF_first H, sR_at H, sR_worth H, sR_makes H, sR_hinders H, sO_things H, sI_rows H, sF_rows H, sR_entries H, sO_log H, sA_2 H, sW_2 H, sA_3 H, sW_3 H, sA_4 H, sW_4 H, sA_5 H, sW_5 H, sA_6 H, sW_6 H, sA_7 H, sW_7 H, sA_8 H, sW_8 H, sA_9 H, sW_9 H, sA_10 H, sW_10 H, sA_11 H, sW_11 H, sA_12 H, sW_12 H, sA_13 H, sW_13 H, sA_14 H, sW_14 H, sA_16 H, sW_16 H, wi_some, or_0, or_1, bo_or, ite_boP, true_and, and_true, kN_v, kN_n, kT_v, kT_n, kT_e, Nat.add_zero, Nat.zero_add, v_0 hV, v_1 hV, v_2 hV, v_3 hV, v_4 hV, v_5 hV, v_6 hV, v_7 hV, v_8 hV, v_9 hV, v_10 hV, v_11 hV, v_12 hV, v_13 hV, v_14 hV, v_15 hV, v_16 hV, hp0, if_false, qO HL]
    refine k1 hw H hV I HL (by omega) hg ht ?_
    intro D1 hex hf
    have s1 : Sl (V 0 14) D D1 := hex.sl5 hp
    have hV1 : Vw D1 a V := hV.sl s1 fun p' hp' => by rw [hp] at hp'; cases hp'; omega
    have hpD1 : sRf (D1 a 14) = some p := by rw [v_0 hV1]; exact hp
    simp only [b45_19 hw, b45_20 hw hpD1, sR_things H, sI_goers H, sF_goers H, sR_wish H, sR_deed H, sI_makers H, sF_makers H, sR_born H, sR_money H, sR_nerve H, sR_shuns H, sR_by H, sI_trains H, sF_trains H, sR_halts H, sR_seats H, sI_texts H, sF_texts H, sI_law H, sF_law H, sI_day H, sF_day H, sI_seed H, sF_seed H, sR_log H, sO_state H, sI_count H, sF_count H, sI_first H, sF_first H, sR_at H, sR_worth H, sR_makes H, sR_hinders H, sO_things H, sI_rows H, sF_rows H, sR_entries H, sO_log H, sA_2 H, sW_2 H, sA_3 H, sW_3 H, sA_4 H, sW_4 H, sA_5 H, sW_5 H, sA_6 H, sW_6 H, sA_7 H, sW_7 H, sA_8 H, sW_8 H, sA_9 H, sW_9 H, sA_10 H, sW_10 H, sA_11 H, sW_11 H, sA_12 H, sW_12 H, sA_13 H, sW_13 H, sA_14 H, sW_14 H, sA_16 H, sW_16 H, wi_some, or_0, or_1, bo_or, ite_boP, true_and, and_true, kN_v, kN_n, kT_v, kT_n, kT_e, Nat.add_zero, Nat.zero_add, qO HL]
    refine k2 (e := e) hw HL (hE.of (hex _ (by omega)) (hex _ (by omega)) (hex _ (by omega))) (fun k h7 h10 => by rw [hf k h10]; exact facV_B k h7 h10) ?_
    intro D2 hex2
    simp only [b45_27 hw, wi_some, or_0, or_1, bo_or, ite_boP, true_and, and_true, kN_v, kN_n, kT_v, kT_n, kT_e, Nat.add_zero, Nat.zero_add]
    have := kk D2 (s1.tr (hex2.sl6 hp))
    rw [lawSum_congr hf, hex (p + 1) (by omega), hex (p + 2) (by omega), hex (p + 4) (by omega), h1, h2, h4]
    exact this
theorem ite_d {α : Type} {p : Prop} [Decidable p] {x y : α} (b : Bool) (h : b = decide p) : (if p then x else y) = if b then x else y := by subst h; by_cases h : p <;> simp [h]
theorem k46 (hw : WT sh) (H : St sh a) (ha : a + 17 ≤ 301) (hV : Vw D a V) (I : Iv V nt ng nr nl) (hL : Lc sh D (V 0 14) lw) (hg : g < ng) (ht : t < nr)
    (kk : ∀ D', Sl (V 0 14) D D' → Q (.inl (some (.int (bo (canL lw V ng g t))))) (mk sh D') c s) :
    Wx (tP nx xs) (d + 2) 46 0 [some (.ref a), (some (.int (Int32.ofNat g))), (some (.int (Int32.ofNat t))), none] [] (mk sh D) c s Q := by
  have hg6 : g < 6 := by have := i_ng6 I; omega
  have ht5 : t < 5 := by have := i_nr5 I; omega
  simp only [b46_0 hw, b46_16 hw, b46_19 hw, b46_26 hw, b46_31 hw, b46_51 hw, sR_things H, sI_goers H, sF_goers H, sR_wish H, sR_deed H, sI_makers H, sF_makers H, sR_born H, sR_money H, sR_nerve H, sR_shuns H, sR_by H, sI_trains H, sF_trains H, sR_halts H, sR_seats H, sI_texts H, sF_texts H, sI_law H, sF_law H, sI_day H, sF_day H, sI_seed H, sF_seed H, sR_log H, sO_state H, sI_count H, sF_count H, sI_first H, sF_first H, sR_at H, sR_worth H, sR_makes H, sR_hinders H, sO_things H, sI_rows H, sF_rows H, sR_entries H, sO_log H, sA_2 H, sW_2 H, sA_3 H, sW_3 H, sA_4 H, sW_4 H, sA_5 H, sW_5 H, sA_6 H, sW_6 H, sA_7 H, sW_7 H, sA_8 H, sW_8 H, sA_9 H, sW_9 H, sA_10 H, sW_10 H, sA_11 H, sW_11 H, sA_12 H, sW_12 H, sA_13 H, sW_13 H, sA_14 H, sW_14 H, sA_16 H, sW_16 H, wi_some, or_0, or_1, bo_or, ite_boP, true_and, and_true, kN_v, kN_n, kT_v, kT_n, kT_e, Nat.add_zero, Nat.zero_add, v_0 hV, v_1 hV, v_2 hV, v_3 hV, v_4 hV, v_5 hV, v_6 hV, v_7 hV, v_8 hV, v_9 hV, v_10 hV, v_11 hV, v_12 hV, v_13 hV, v_14 hV, v_15 hV, v_16 hV, hg6, ht5, k42 hw H hV I hg ht, k39 hw H hV I, k357 hw]
  by_cases h1 : V 12 g = -1
  rotate_left
  · simp only [h1, if_false]
    have := kk D Sl.rf
    simpa only [canL, h1, decide_false, Bool.false_and, bo_f] using this
  by_cases h2 : stopB V g t = true
  rotate_left
  · have h2 : stopB V g t = false := by simpa using h2
    simp only [h1, h2, if_true, Bool.false_eq_true, if_false]
    have := kk D Sl.rf
    simpa only [canL, h2, Bool.false_and, Bool.and_false, bo_f] using this
  by_cases h3 : bc (ridS V ng (Int32.ofNat t)) < V 14 t
  rotate_left
  · simp only [h1, h2, h3, if_true, if_false]
    have := kk D Sl.rf
    simpa only [canL, h3, decide_false, Bool.false_and, Bool.and_false, bo_f] using this
  by_cases h4 : ridS V ng (Int32.ofNat t) &&& V 11 g = Int32.ofNat 0
  rotate_left
  · simp only [h1, h2, h3, h4, if_true, if_false]
    have := kk D Sl.rf
    simpa only [canL, h4, decide_false, Bool.false_and, Bool.and_false, bo_f] using this
  simp only [h1, h2, h3, h4, if_true]
  cases lw with
  | none =>
    have h0 : (V 0 14).toNatClampNeg = 0 := hL
    simp only [b46_54 hw, b46_76 hw, sR_things H, sI_goers H, sF_goers H, sR_wish H, sR_deed H, sI_makers H, sF_makers H, sR_born H, sR_money H, sR_nerve H, sR_shuns H, sR_by H, sI_trains H, sF_trains H, sR_halts H, sR_seats H, sI_texts H, sF_texts H, sI_law H, sF_law H, sI_day H, sF_day H, sI_seed H, sF_seed H, sR_log H, sO_state H, sI_count H, sF_count H, sI_first H, sF_first H, sR_at H, sR_worth H, sR_makes H, sR_hinders H, sO_things H, sI_rows H, sF_rows H, sR_entries H, sO_log H, sA_2 H, sW_2 H, sA_3 H, sW_3 H, sA_4 H, sW_4 H, sA_5 H, sW_5 H, sA_6 H, sW_6 H, sA_7 H, sW_7 H, sA_8 H, sW_8 H, sA_9 H, sW_9 H, sA_10 H, sW_10 H, sA_11 H, sW_11 H, sA_12 H, sW_12 H, sA_13 H, sW_13 H, sA_14 H, sW_14 H, sA_16 H, sW_16 H, wi_some, or_0, or_1, bo_or, ite_boP, true_and, and_true, kN_v, kN_n, kT_v, kT_n, kT_e, Nat.add_zero, Nat.zero_add, v_0 hV, v_1 hV, v_2 hV, v_3 hV, v_4 hV, v_5 hV, v_6 hV, v_7 hV, v_8 hV, v_9 hV, v_10 hV, v_11 hV, v_12 hV, v_13 hV, v_14 hV, v_15 hV, v_16 hV, hg6, h0, if_true]
    have := kk D Sl.rf
    have e : costL none V ng g t = Int32.ofNat 10 := by show Int32.ofNat 10 + Int32.ofNat 0 = Int32.ofNat 10; decide
    simp only [canL, h1, h2, h3, h4, sumL, e, decide_true, Bool.true_and] at this
    by_cases h5 : V 9 g < Int32.ofNat 10
    · simp only [h5, if_true, not_true_eq_false, decide_false, bo_f] at this ⊢
      exact this
    · simp only [h5, if_false, not_false_eq_true, decide_true, bo_t] at this ⊢
      exact this
  | some L =>
    obtain ⟨n, K, A, C, e⟩ := L
    obtain ⟨p, m, hp, hp3, HL, hE, e1, e2, e4, hA⟩ := hL
    have hp0 : ¬ (V 0 14).toNatClampNeg = 0 := by rw [sRf_pos hp]; omega
    have hpD : sRf (D a 14) = some p := by rw [v_0 hV]; exact hp
    simp only [b46_54 hw, b46_78 hw hpD, sR_things H, sI_goers H, sF_goers H, sR_wish H, sR_deed H, sI_makers H, sF_makers H, sR_born H, sR_money H, sR_nerve H, sR_shuns H, sR_by H, sI_trains H, sF_trains H, sR_halts H, sR_seats H, sI_texts H, sF_texts H, sI_law H, sF_law H, sI_day H, sF_day H, sI_seed H, sF_seed H, sR_log H, sO_state H, sI_count H, sF_count H, sI_first H, sF_first H, sR_at H, sR_worth H, sR_makes H, sR_hinders H, sO_things H, sI_rows H, sF_rows H, sR_entries H, sO_log H, sA_2 H, sW_2 H, sA_3 H, sW_3 H, sA_4 H, sW_4 H, sA_5 H, sW_5 H, sA_6 H, sW_6 H, sA_7 H, sW_7 H, sA_8 H, sW_8 H, sA_9 H, sW_9 H, sA_10 H, sW_10 H, sA_11 H, sW_11 H, sA_12 H, sW_12 H, sA_13 H, sW_13 H, sA_14 H, sW_14 H, sA_16 H, sW_16 H, wi_some, or_0, or_1, bo_or, ite_boP, true_and, and_true, kN_v, kN_n, kT_v, kT_n, kT_e, Nat.add_zero, Nat.zero_add, v_0 hV, v_1 hV, v_2 hV, v_3 hV, v_4 hV, v_5 hV, v_6 hV, v_7 hV, v_8 hV, v_9 hV, v_10 hV, v_11 hV, v_12 hV, v_13 hV, v_14 hV, v_15 hV, v_16 hV, hp0, if_false, qO HL]
    refine k1 hw H hV I HL (by omega) hg ht ?_
    intro D1 hex hf
    have s1 : Sl (V 0 14) D D1 := hex.sl5 hp
    have hx : ∀ p', sRf (V 0 14) = some p' → a + 17 ≤ p' := fun p' hp' => by rw [hp] at hp'; cases hp'; omega
    have hV1 : Vw D1 a V := hV.sl s1 hx
    have hpD1 : sRf (D1 a 14) = some p := by rw [v_0 hV1]; exact hp
    simp only [b46_87 hw, b46_88 hw hpD1, sR_things H, sI_goers H, sF_goers H, sR_wish H, sR_deed H, sI_makers H, sF_makers H, sR_born H, sR_money H, sR_nerve H, sR_shuns H, sR_by H, sI_trains H, sF_trains H, sR_halts H, sR_seats H, sI_texts H, sF_texts H, sI_law H, sF_law H, sI_day H, sF_day H, sI_seed H, sF_seed H, sR_log H, sO_state H, sI_count H, sF_count H, sI_first H, sF_first H, sR_at H, sR_worth H, sR_makes H, sR_hinders H, sO_things H, sI_rows H, sF_rows H, sR_entries H, sO_log H, sA_2 H, sW_2 H, sA_3 H, sW_3 H, sA_4 H, sW_4 H, sA_5 H, sW_5 H, sA_6 H, sW_6 H, sA_7 H, sW_7 H, sA_8 H, sW_8 H, sA_9 H, sW_9 H, sA_10 H, sW_10 H, sA_11 H, sW_11 H, sA_12 H, sW_12 H, sA_13 H, sW_13 H, sA_14 H, sW_14 H, sA_16 H, sW_16 H, wi_some, or_0, or_1, bo_or, ite_boP, true_and, and_true, kN_v, kN_n, kT_v, kT_n, kT_e, Nat.add_zero, Nat.zero_add, qO HL]
    have hF1 : facB (D1 (p + 5)) := fun k h7 h10 => by rw [hf k h10]; exact facV_B k h7 h10
    have hE1 : LawE D1 p n m e := hE.of (hex _ (by omega)) (hex _ (by omega)) (hex _ (by omega))
    refine k2 (e := e) hw HL hE1 hF1 ?_
    intro D2 hex2
    have s2 : Sl (V 0 14) D D2 := s1.tr (hex2.sl6 hp)
    have hV2 : Vw D2 a V := hV.sl s2 hx
    have hpD2 : sRf (D2 a 14) = some p := by rw [v_0 hV2]; exact hp
    have es : ∀ kind, lawSum (D1 (p + 1)) (D1 (p + 2)) (D1 (p + 4)) (D1 (p + 5)) e n kind = sumL (some (n, K, A, C, e)) V ng g t kind := by
      intro kind
      rw [lawSum_congr hf, hex (p + 1) (by omega), hex (p + 2) (by omega), hex (p + 4) (by omega), e1, e2, e4]
      rfl
    rw [es]
    simp only [b46_95 hw, wi_some, or_0, or_1, bo_or, ite_boP, true_and, and_true, kN_v, kN_n, kT_v, kT_n, kT_e, Nat.add_zero, Nat.zero_add]
    by_cases h5 : sumL (some (n, K, A, C, e)) V ng g t (Int32.ofNat 2) = Int32.ofNat 0
    rotate_left
    · simp only [h5, if_false, b46_122 hw, b46_123 hw, wi_some, or_0, or_1, bo_or, ite_boP, true_and, and_true, kN_v, kN_n, kT_v, kT_n, kT_e, Nat.add_zero, Nat.zero_add]
      have := kk D2 s2
      simpa only [canL, h5, decide_false, Bool.false_and, Bool.and_false, bo_f] using this
    simp only [h5, if_true, b46_101 hw hpD2, sR_things H, sI_goers H, sF_goers H, sR_wish H, sR_deed H, sI_makers H, sF_makers H, sR_born H, sR_money H, sR_nerve H, sR_shuns H, sR_by H, sI_trains H, sF_trains H, sR_halts H, sR_seats H, sI_texts H, sF_texts H, sI_law H, sF_law H, sI_day H, sF_day H, sI_seed H, sF_seed H, sR_log H, sO_state H, sI_count H, sF_count H, sI_first H, sF_first H, sR_at H, sR_worth H, sR_makes H, sR_hinders H, sO_things H, sI_rows H, sF_rows H, sR_entries H, sO_log H, sA_2 H, sW_2 H, sA_3 H, sW_3 H, sA_4 H, sW_4 H, sA_5 H, sW_5 H, sA_6 H, sW_6 H, sA_7 H, sW_7 H, sA_8 H, sW_8 H, sA_9 H, sW_9 H, sA_10 H, sW_10 H, sA_11 H, sW_11 H, sA_12 H, sW_12 H, sA_13 H, sW_13 H, sA_14 H, sW_14 H, sA_16 H, sW_16 H, wi_some, or_0, or_1, bo_or, ite_boP, true_and, and_true, kN_v, kN_n, kT_v, kT_n, kT_e, Nat.add_zero, Nat.zero_add, qO HL]
    refine k2 (e := e) hw HL (hE1.of (hex2 _ (by omega)) (hex2 _ (by omega)) (hex2 _ (by omega))) (by rw [hex2 (p + 5) (by omega)]; exact hF1) ?_
    intro D3 hex3
    rw [hex2 (p + 1) (by omega), hex2 (p + 2) (by omega), hex2 (p + 4) (by omega), hex2 (p + 5) (by omega), es]
    have s3 : Sl (V 0 14) D D3 := s2.tr (hex3.sl6 hp)
    have hV3 : Vw D3 a V := hV.sl s3 hx
    have := kk D3 s3
    simp only [canL, h1, h2, h3, h4, h5, decide_true, Bool.true_and, costL] at this
    simp only [b46_108 hw, b46_122 hw, b46_123 hw, sR_things H, sI_goers H, sF_goers H, sR_wish H, sR_deed H, sI_makers H, sF_makers H, sR_born H, sR_money H, sR_nerve H, sR_shuns H, sR_by H, sI_trains H, sF_trains H, sR_halts H, sR_seats H, sI_texts H, sF_texts H, sI_law H, sF_law H, sI_day H, sF_day H, sI_seed H, sF_seed H, sR_log H, sO_state H, sI_count H, sF_count H, sI_first H, sF_first H, sR_at H, sR_worth H, sR_makes H, sR_hinders H, sO_things H, sI_rows H, sF_rows H, sR_entries H, sO_log H, sA_2 H, sW_2 H, sA_3 H, sW_3 H, sA_4 H, sW_4 H, sA_5 H, sW_5 H, sA_6 H, sW_6 H, sA_7 H, sW_7 H, sA_8 H, sW_8 H, sA_9 H, sW_9 H, sA_10 H, sW_10 H, sA_11 H, sW_11 H, sA_12 H, sW_12 H, sA_13 H, sW_13 H, sA_14 H, sW_14 H, sA_16 H, sW_16 H, wi_some, or_0, or_1, bo_or, ite_boP, true_and, and_true, kN_v, kN_n, kT_v, kT_n, kT_e, Nat.add_zero, Nat.zero_add, v_0 hV3, v_1 hV3, v_2 hV3, v_3 hV3, v_4 hV3, v_5 hV3, v_6 hV3, v_7 hV3, v_8 hV3, v_9 hV3, v_10 hV3, v_11 hV3, v_12 hV3, v_13 hV3, v_14 hV3, v_15 hV3, v_16 hV3, hg6]
    by_cases h6 : V 9 g < Int32.ofNat 10 + sumL (some (n, K, A, C, e)) V ng g t (Int32.ofNat 0)
    · simp only [h6, if_true, not_true_eq_false, decide_false, bo_f] at this ⊢
      exact this
    · simp only [h6, if_false, not_false_eq_true, decide_true, bo_t] at this ⊢
      exact this
def opI : Option Nat → Int32
  | none => -1
  | some t => Int32.ofNat t
def trainL (lw : LW) (V : sD) (ng nr g : Nat) : Option Nat := fst? (canL lw V ng g) nr 0
theorem k47 (hw : WT sh) (H : St sh a) (ha : a + 17 ≤ 301) (hV : Vw D a V) (I : Iv V nt ng nr nl) (hL : Lc sh D (V 0 14) lw) (hg : g < ng)
    (kk : ∀ D', Sl (V 0 14) D D' → Q (.inl (some (.int (opI (trainL lw V ng nr g))))) (mk sh D') c s) :
    Wx (tP nx xs) (d + 3) 47 0 [some (.ref a), (some (.int (Int32.ofNat g))), none] [] (mk sh D) c s Q := by
  have hr := i_nr5 I
  simp only [b47_0 hw]
  have hx : ∀ p', sRf (V 0 14) = some p' → a + 17 ≤ p' := fun p' hp' => by have := Lc_301 hL p' hp'; omega
  have lp : ∀ k i D1, i + k = nr → Sl (V 0 14) D D1 → (∀ D', Sl (V 0 14) D D' → Q (.inl (some (.int (opI (fst? (canL lw V ng g) k i))))) (mk sh D') c s) → Wx (tP nx xs) (d + 3) 47 2 [some (.ref a), (some (.int (Int32.ofNat g))), (some (.int (Int32.ofNat i)))] [] (mk sh D1) c s Q := by
    intro k
    induction k with
    | zero =>
      intro i D1 hi s1 kk
      have hV1 := hV.sl s1 hx
      have e : i = nr := by omega
      simp only [b47_2 hw, sR_things H, sI_goers H, sF_goers H, sR_wish H, sR_deed H, sI_makers H, sF_makers H, sR_born H, sR_money H, sR_nerve H, sR_shuns H, sR_by H, sI_trains H, sF_trains H, sR_halts H, sR_seats H, sI_texts H, sF_texts H, sI_law H, sF_law H, sI_day H, sF_day H, sI_seed H, sF_seed H, sR_log H, sO_state H, sI_count H, sF_count H, sI_first H, sF_first H, sR_at H, sR_worth H, sR_makes H, sR_hinders H, sO_things H, sI_rows H, sF_rows H, sR_entries H, sO_log H, sA_2 H, sW_2 H, sA_3 H, sW_3 H, sA_4 H, sW_4 H, sA_5 H, sW_5 H, sA_6 H, sW_6 H, sA_7 H, sW_7 H, sA_8 H, sW_8 H, sA_9 H, sW_9 H, sA_10 H, sW_10 H, sA_11 H, sW_11 H, sA_12 H, sW_12 H, sA_13 H, sW_13 H, sA_14 H, sW_14 H, sA_16 H, sW_16 H, wi_some, or_0, or_1, bo_or, ite_boP, true_and, and_true, kN_v, kN_n, kT_v, kT_n, kT_e, Nat.add_zero, Nat.zero_add, v_0 hV1, v_1 hV1, v_2 hV1, v_3 hV1, v_4 hV1, v_5 hV1, v_6 hV1, v_7 hV1, v_8 hV1, v_9 hV1, v_10 hV1, v_11 hV1, v_12 hV1, v_13 hV1, v_14 hV1, v_15 hV1, v_16 hV1, i_nr I, e, oN_lt (show nr < 2147483648 by omega) (show nr < 2147483648 by omega), Nat.lt_irrefl, if_false]
      exact kk D1 s1
    | succ k ih =>
      intro i D1 hi s1 kk
      have hV1 := hV.sl s1 hx
      have hin : i < nr := by omega
      simp only [b47_2 hw, sR_things H, sI_goers H, sF_goers H, sR_wish H, sR_deed H, sI_makers H, sF_makers H, sR_born H, sR_money H, sR_nerve H, sR_shuns H, sR_by H, sI_trains H, sF_trains H, sR_halts H, sR_seats H, sI_texts H, sF_texts H, sI_law H, sF_law H, sI_day H, sF_day H, sI_seed H, sF_seed H, sR_log H, sO_state H, sI_count H, sF_count H, sI_first H, sF_first H, sR_at H, sR_worth H, sR_makes H, sR_hinders H, sO_things H, sI_rows H, sF_rows H, sR_entries H, sO_log H, sA_2 H, sW_2 H, sA_3 H, sW_3 H, sA_4 H, sW_4 H, sA_5 H, sW_5 H, sA_6 H, sW_6 H, sA_7 H, sW_7 H, sA_8 H, sW_8 H, sA_9 H, sW_9 H, sA_10 H, sW_10 H, sA_11 H, sW_11 H, sA_12 H, sW_12 H, sA_13 H, sW_13 H, sA_14 H, sW_14 H, sA_16 H, sW_16 H, wi_some, or_0, or_1, bo_or, ite_boP, true_and, and_true, kN_v, kN_n, kT_v, kT_n, kT_e, Nat.add_zero, Nat.zero_add, v_0 hV1, v_1 hV1, v_2 hV1, v_3 hV1, v_4 hV1, v_5 hV1, v_6 hV1, v_7 hV1, v_8 hV1, v_9 hV1, v_10 hV1, v_11 hV1, v_12 hV1, v_13 hV1, v_14 hV1, v_15 hV1, v_16 hV1, i_nr I, oN_lt (show i < 2147483648 by omega) (show nr < 2147483648 by omega), hin, if_true]
      refine k46 hw H ha hV1 I (hL.sl s1) hg hin ?_
      intro D2 s2
      simp only [b47_16 hw, wi_some, or_0, or_1, bo_or, ite_boP, true_and, and_true, kN_v, kN_n, kT_v, kT_n, kT_e, Nat.add_zero, Nat.zero_add]
      simp only [fst?] at kk
      by_cases hc : canL lw V ng g i = true
      · simp only [hc, if_true] at kk ⊢
        exact kk D2 (s1.tr s2)
      · simp only [hc, if_false, oN_add] at kk ⊢
        exact ih (i + 1) D2 (by omega) (s1.tr s2) kk
  exact lp nr 0 D (by omega) Sl.rf kk
end C42
