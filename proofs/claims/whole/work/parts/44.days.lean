/-! ===== State.passDays ===== -/
theorem logV_o {V : sD} {nl : Nat} {x0 x1 x2 x3 : Int32} {k i : Nat} (h : ¬ k = 15) (h' : ¬ k = 16) : logV V nl x0 x1 x2 x3 k i = V k i := by
  unfold logV
  rw [if_neg h', if_neg (by omega)]
theorem logV_15 {V : sD} {nl : Nat} {x0 x1 x2 x3 : Int32} : logV V nl x0 x1 x2 x3 15 0 = Int32.ofNat (min nl 59 + 1) := rfl
theorem Iv_log {V : sD} {nt ng nr nl : Nat} {x0 x1 x2 x3 : Int32} (I : Iv V nt ng nr nl) : Iv (logV V nl x0 x1 x2 x3) nt ng nr (min nl 59 + 1) := by
  obtain ⟨h1, h2, h3, h4, h5, h6, h7, h8, h9, h10, h11, h12, h13⟩ := I
  unfold Iv
  simp only [logV_15]
  simp only [logV_o (show ¬ 0 = 15 by decide) (show ¬ 0 = 16 by decide), logV_o (show ¬ 1 = 15 by decide) (show ¬ 1 = 16 by decide), logV_o (show ¬ 2 = 15 by decide) (show ¬ 2 = 16 by decide), logV_o (show ¬ 4 = 15 by decide) (show ¬ 4 = 16 by decide), logV_o (show ¬ 5 = 15 by decide) (show ¬ 5 = 16 by decide), logV_o (show ¬ 6 = 15 by decide) (show ¬ 6 = 16 by decide), logV_o (show ¬ 7 = 15 by decide) (show ¬ 7 = 16 by decide), logV_o (show ¬ 8 = 15 by decide) (show ¬ 8 = 16 by decide), logV_o (show ¬ 9 = 15 by decide) (show ¬ 9 = 16 by decide), logV_o (show ¬ 10 = 15 by decide) (show ¬ 10 = 16 by decide), logV_o (show ¬ 12 = 15 by decide) (show ¬ 12 = 16 by decide)]
  exact ⟨h1, h2, h3, ⟨trivial, by omega⟩, h5, h6, h7, h8, h9, h10, h11, h12, h13⟩
theorem Iv_by {V : sD} {nt ng nr nl g : Nat} {x : Int32} (I : Iv V nt ng nr nl) (hx : x = -1 ∨ ∃ n, n < nr ∧ x = Int32.ofNat n) : Iv (u2 V 12 g x) nt ng nr nl := by
  obtain ⟨h1, h2, h3, h4, h5, h6, h7, h8, h9, h10, h11, h12, h13⟩ := I
  refine ⟨by simpa [u2_at] using h1, by simpa [u2_at] using h2, by simpa [u2_at] using h3, by simpa [u2_at] using h4, by simpa [u2_at] using h5, by simpa [u2_at] using h6, by simpa [u2_at] using h7, by simpa [u2_at] using h8, by simpa [u2_at] using h9, by simpa [u2_at] using h10, by simpa [u2_at] using h11, ?_, by simpa [u2_at] using h13⟩
  intro g' hg'
  simp only [u2_at, true_and]
  by_cases e : g' = g
  · rw [if_pos e]; exact hx
  · rw [if_neg e]; exact h12 g' hg'
theorem Iv_money {V : sD} {nt ng nr nl g : Nat} {x : Int32} (I : Iv V nt ng nr nl) (hx : ∃ n, n < 1000 ∧ x = Int32.ofNat n) : Iv (u2 V 9 g x) nt ng nr nl := by
  obtain ⟨h1, h2, h3, h4, h5, h6, h7, h8, h9, h10, h11, h12, h13⟩ := I
  refine ⟨by simpa [u2_at] using h1, by simpa [u2_at] using h2, by simpa [u2_at] using h3, by simpa [u2_at] using h4, by simpa [u2_at] using h5, by simpa [u2_at] using h6, by simpa [u2_at] using h7, by simpa [u2_at] using h8, by simpa [u2_at] using h9, ?_, by simpa [u2_at] using h11, by simpa [u2_at] using h12, by simpa [u2_at] using h13⟩
  intro g' hg'
  simp only [u2_at, true_and]
  by_cases e : g' = g
  · rw [if_pos e]; exact hx
  · rw [if_neg e]; exact h10 g' hg'
theorem Iv_0 {V : sD} {nt ng nr nl k : Nat} {x : Int32} (I : Iv V nt ng nr nl) (h1 : ¬ k = 1) (h10 : ¬ k = 10) (h13 : ¬ k = 13) : Iv (u2 V 0 k x) nt ng nr nl := by
  unfold Iv at *
  have e1 : ¬ 1 = k := fun e => h1 e.symm
  have e10 : ¬ 10 = k := fun e => h10 e.symm
  have e13 : ¬ 13 = k := fun e => h13 e.symm
  simpa [u2_at, e1, e10, e13] using I
theorem nlV_of {V : sD} {nt ng nr nl : Nat} (I : Iv V nt ng nr nl) : nlV V = nl := by
  unfold nlV
  rw [i_nl I, oN_tn (by have := i_nl60 I; omega)]
theorem Iv.nl {V : sD} {nt ng nr nl : Nat} (I : Iv V nt ng nr nl) : Iv V nt ng nr (nlV V) := by rw [nlV_of I]; exact I
theorem canL_cost {lw : LW} {V : sD} {ng g t : Nat} (h : canL lw V ng g t = true) : ¬ V 9 g < costL lw V ng g t := by
  unfold canL at h
  simp only [Bool.and_eq_true, decide_eq_true_eq] at h
  exact h.2.2.2.2.2
def LwN (lw : LW) : Prop := ∀ (V : sD) (ng g t : Nat) (kind : Int32), ∃ q, q ≤ 2400 ∧ sumL lw V ng g t kind = Int32.ofNat q
theorem Lc.N {sh : List sC} {D : sD} {x : Int32} {lw : LW} (hL : Lc sh D x lw) : LwN lw := fun V ng g t kind => sumL_nat hL V ng g t kind
theorem Iv_bd {lw : LW} {V : sD} {nt ng nr nl g t : Nat} (hL : LwN lw) (I : Iv V nt ng nr nl) (hg : g < ng) (ht : t < nr) (hc : canL lw V ng g t = true) : Iv (bdV V g t (costL lw V ng g t)) nt ng nr (min nl 59 + 1) := by
  unfold bdV
  rw [nlV_of I]
  apply Iv_log
  apply Iv_money (Iv_by I (Or.inr ⟨t, ht, rfl⟩))
  obtain ⟨m, hm, em⟩ := i_money I hg
  obtain ⟨q, hq, eq⟩ := hL V ng g t (Int32.ofNat 0)
  have h := canL_cost hc
  unfold costL at *
  rw [em, eq, oN_add, oN_lt (by omega) (by omega)] at h
  exact ⟨m - (10 + q), by omega, by rw [em, eq, oN_add, oN_sub (by omega)]⟩
/-- one goer's mind -/
def goL (lw : LW) (ng nr : Nat) (dr : Bool) (g : Nat) (z : sD × Nat) : sD × Nat :=
  if z.1 12 g = -1 then
    (match (if dr then drawnL lw z.1 ng nr g else trainL lw z.1 ng nr g) with
      | none => ((if dr then u2 z.1 0 16 (seedN (z.1 0 16)) else z.1), z.2)
      | some t => (bdV (if dr then u2 z.1 0 16 (seedN (z.1 0 16)) else z.1) g t (costL lw (if dr then u2 z.1 0 16 (seedN (z.1 0 16)) else z.1) ng g t), z.2 + 1))
  else z
def dayL (lw : LW) (ng nr : Nat) (dr : Bool) (z : sD × Nat) : sD × Nat := (u2 (fo (goL lw ng nr dr) ng 0 z).1 0 15 (mn (Int32.ofNat 9999) ((fo (goL lw ng nr dr) ng 0 z).1 0 15 + Int32.ofNat 1)), (fo (goL lw ng nr dr) ng 0 z).2)
def daysL (lw : LW) (ng nr : Nat) (dr : Bool) (n : Nat) (z : sD × Nat) : sD × Nat := fo (fun _ => dayL lw ng nr dr) n 0 z
theorem drawnL_some {lw : LW} {V : sD} {ng nr g t : Nat} (h : drawnL lw V ng nr g = some t) : trainL lw (u2 V 0 16 (seedN (V 0 16))) ng nr g = some t := by
  unfold drawnL at h
  by_cases h1 : jrem (drawN (V 0 16)) (Int32.ofNat 100) < V 10 g
  · rw [if_pos h1] at h
    cases htr : trainL lw (u2 V 0 16 (seedN (V 0 16))) ng nr g with
    | none => rw [htr] at h; cases h
    | some t' =>
      rw [htr] at h
      simp only at h
      split at h
      · cases h; rfl
      · cases h
  · rw [if_neg h1] at h; cases h
theorem bdV_14 {V : sD} {g t : Nat} {x : Int32} {i : Nat} : bdV V g t x 0 i = V 0 i := by
  unfold bdV
  rw [logV_o (by decide) (by decide)]
  simp [u2_at]
section C44
variable {nx : Nat} {xs : Nat → Int32} {d c s : Nat} {sh : List sC} {D : sD} {Q : av_Q}
variable {V : sD} {a nt ng nr nl g t : Nat} {lw : LW}
theorem goL_ok {dr : Bool} {z : sD × Nat} (hL : LwN lw) (I : Iv z.1 nt ng nr (nlV z.1)) (hg : g < ng) : Iv (goL lw ng nr dr g z).1 nt ng nr (nlV (goL lw ng nr dr g z).1) ∧ (goL lw ng nr dr g z).1 0 14 = z.1 0 14 := by
  unfold goL
  by_cases h : z.1 12 g = -1
  rotate_left
  · rw [if_neg h]; exact ⟨I, rfl⟩
  rw [if_pos h]
  cases dr with
  | true =>
    simp only [if_true]
    cases hd : drawnL lw z.1 ng nr g with
    | none =>
      simp only
      exact ⟨(Iv_seed I).nl, by simp [u2_at]⟩
    | some t =>
      simp only
      obtain ⟨h1, h2⟩ := trainL_lt (drawnL_some hd)
      exact ⟨(Iv_bd hL (Iv_seed I) hg h1 h2).nl, by rw [bdV_14]; simp [u2_at]⟩
  | false =>
    simp only [Bool.false_eq_true, if_false]
    cases hd : trainL lw z.1 ng nr g with
    | none => exact ⟨I, rfl⟩
    | some t =>
      simp only
      obtain ⟨h1, h2⟩ := trainL_lt hd
      exact ⟨(Iv_bd hL I hg h1 h2).nl, by rw [bdV_14]⟩
theorem k50 {dr : Bool} {n : Nat} (hw : WT sh) (H : St sh a) (ha : a + 17 ≤ 301) (hV : Vw D a V) (I : Iv V nt ng nr nl) (hL : Lc sh D (V 0 14) lw) (hn : n ≤ 60)
    (kk : ∀ D', Fx a (V 0 14) D D' → Vw D' a (daysL lw ng nr dr n (V, 0)).1 → Iv (daysL lw ng nr dr n (V, 0)).1 nt ng nr (nlV (daysL lw ng nr dr n (V, 0)).1) → (daysL lw ng nr dr n (V, 0)).1 0 14 = V 0 14 → Q (.inl (some (.int (Int32.ofNat (daysL lw ng nr dr n (V, 0)).2)))) (mk sh D') c s) :
    Wx (tP nx xs) (d + 5) 50 0 [some (.ref a), (some (.int (Int32.ofNat n))), (some (.int (bo dr))), none, none, none, none] [] (mk sh D) c s Q := by
  have hng := i_ng6 I
  have hnr := i_nr5 I
  simp only [b50_0 hw]
  refine up_P (W := fun i (z : sD × Nat) D => ∀ l5 l6, Wx (tP nx xs) (d + 5) 50 5 [some (.ref a), (some (.int (Int32.ofNat n))), (some (.int (bo dr))), (some (.int (Int32.ofNat z.2))), (some (.int (Int32.ofNat i))), l5, l6] [] (mk sh D) c s Q) (P := fun _ z D' => Fx a (V 0 14) D D' ∧ Vw D' a z.1 ∧ Iv z.1 nt ng nr (nlV z.1) ∧ z.1 0 14 = V 0 14) (F := fun _ => dayL lw ng nr dr) n ?_ (V, 0) D ⟨Fx.rf, hV, I.nl, rfl⟩ ?_ none none
  · intro i z D1 hi ⟨f1, hV1, I1, e1⟩ k l5 l6
    simp only [b50_5 hw, oN_lt (show i < 2147483648 by omega) (show n < 2147483648 by omega), hi, if_true]
    refine up_P (W := fun g (y : sD × Nat) D => ∀ l6, Wx (tP nx xs) (d + 5) 50 14 [some (.ref a), (some (.int (Int32.ofNat n))), (some (.int (bo dr))), (some (.int (Int32.ofNat y.2))), (some (.int (Int32.ofNat i))), (some (.int (Int32.ofNat g))), l6] [] (mk sh D) c s Q) (P := fun _ y D' => Fx a (V 0 14) D D' ∧ Vw D' a y.1 ∧ Iv y.1 nt ng nr (nlV y.1) ∧ y.1 0 14 = V 0 14) (F := goL lw ng nr dr) ng ?_ z D1 ⟨f1, hV1, I1, e1⟩ ?_ l6
    · intro g y D2 hg ⟨f2, hV2, I2, e2⟩ k2 l6
      have hg6 : g < 6 := by omega
      have hL2 : Lc sh D2 (y.1 0 14) lw := by rw [e2]; exact hL.fx ha f2
      obtain ⟨g1, g2⟩ := goL_ok (dr := dr) hL2.N I2 hg
      have k2 := fun D' h1 h2 => k2 D' ⟨h1, h2, g1, g2.trans e2⟩
      have hx : ∀ p', sRf (y.1 0 14) = some p' → a + 17 ≤ p' := fun p' hp' => by have := Lc_301 hL2 p' hp'; omega
      unfold goL at k2
      simp only [b50_14 hw, sR_things H, sI_goers H, sF_goers H, sR_wish H, sR_deed H, sI_makers H, sF_makers H, sR_born H, sR_money H, sR_nerve H, sR_shuns H, sR_by H, sI_trains H, sF_trains H, sR_halts H, sR_seats H, sI_texts H, sF_texts H, sI_law H, sF_law H, sI_day H, sF_day H, sI_seed H, sF_seed H, sR_log H, sO_state H, sI_count H, sF_count H, sI_first H, sF_first H, sR_at H, sR_worth H, sR_makes H, sR_hinders H, sO_things H, sI_rows H, sF_rows H, sR_entries H, sO_log H, sA_2 H, sW_2 H, sA_3 H, sW_3 H, sA_4 H, sW_4 H, sA_5 H, sW_5 H, sA_6 H, sW_6 H, sA_7 H, sW_7 H, sA_8 H, sW_8 H, sA_9 H, sW_9 H, sA_10 H, sW_10 H, sA_11 H, sW_11 H, sA_12 H, sW_12 H, sA_13 H, sW_13 H, sA_14 H, sW_14 H, sA_16 H, sW_16 H, wi_some, or_0, or_1, bo_or, ite_boP, true_and, and_true, kN_v, kN_n, kT_v, kT_n, kT_e, Nat.add_zero, Nat.zero_add, v_0 hV2, v_1 hV2, v_2 hV2, v_3 hV2, v_4 hV2, v_5 hV2, v_6 hV2, v_7 hV2, v_8 hV2, v_9 hV2, v_10 hV2, v_11 hV2, v_12 hV2, v_13 hV2, v_14 hV2, v_15 hV2, v_16 hV2, i_ng I2, oN_lt (show g < 2147483648 by omega) (show ng < 2147483648 by omega), hg, if_true, hg6]
      by_cases hb : y.1 12 g = -1
      rotate_left
      · simp only [hb, if_false, b50_73 hw, oN_add] at k2 ⊢
        exact k2 D2 f2 hV2 _
      simp only [hb, if_true] at k2 ⊢
      cases dr with
      | true =>
        simp only [bo_t, show ¬ (Int32.ofNat 1 : Int32) = Int32.ofNat 0 by decide, if_true, if_false] at k2 ⊢
        refine k51 hw H ha hV2 I2 hL2 hg ?_
        intro D3 f3 hV3
        rw [e2] at f3
        simp only [b50_44 hw, b50_53 hw, wi_some, or_0, or_1, bo_or, ite_boP, true_and, and_true, kN_v, kN_n, kT_v, kT_n, kT_e, Nat.add_zero, Nat.zero_add]
        cases hd : drawnL lw y.1 ng nr g with
        | none =>
          rw [hd] at k2
          simp only [opI, if_true, b50_73 hw, oN_add] at k2 ⊢
          exact k2 D3 (f2.tr f3) hV3 _
        | some t =>
          rw [hd] at k2
          obtain ⟨ht, _⟩ := trainL_lt (drawnL_some hd)
          have e3 : u2 y.1 0 16 (seedN (y.1 0 16)) 0 14 = V 0 14 := by rw [← e2]; simp [u2_at]
          simp only [opI, oN_ne1 (show t < 2147483648 by omega), if_false, sR_things H, sI_goers H, sF_goers H, sR_wish H, sR_deed H, sI_makers H, sF_makers H, sR_born H, sR_money H, sR_nerve H, sR_shuns H, sR_by H, sI_trains H, sF_trains H, sR_halts H, sR_seats H, sI_texts H, sF_texts H, sI_law H, sF_law H, sI_day H, sF_day H, sI_seed H, sF_seed H, sR_log H, sO_state H, sI_count H, sF_count H, sI_first H, sF_first H, sR_at H, sR_worth H, sR_makes H, sR_hinders H, sO_things H, sI_rows H, sF_rows H, sR_entries H, sO_log H, sA_2 H, sW_2 H, sA_3 H, sW_3 H, sA_4 H, sW_4 H, sA_5 H, sW_5 H, sA_6 H, sW_6 H, sA_7 H, sW_7 H, sA_8 H, sW_8 H, sA_9 H, sW_9 H, sA_10 H, sW_10 H, sA_11 H, sW_11 H, sA_12 H, sW_12 H, sA_13 H, sW_13 H, sA_14 H, sW_14 H, sA_16 H, sW_16 H, wi_some, or_0, or_1, bo_or, ite_boP, true_and, and_true, kN_v, kN_n, kT_v, kT_n, kT_e, Nat.add_zero, Nat.zero_add]
          refine k48 hw H ha hV3 (Iv_seed I2) (by rw [e3, ← e2]; exact hL2.fx ha (by rw [e2]; exact f3)) hg ht ?_
          intro D4 f4 hV4
          rw [e3] at f4
          simp only [b50_69 hw, b50_73 hw, wi_some, or_0, or_1, bo_or, ite_boP, true_and, and_true, kN_v, kN_n, kT_v, kT_n, kT_e, Nat.add_zero, Nat.zero_add, oN_add]
          exact k2 D4 (f2.tr (f3.tr f4)) hV4 _
      | false =>
        simp only [bo_f, if_true, Bool.false_eq_true, if_false] at k2 ⊢
        refine k47 hw H ha hV2 I2 hL2 hg ?_
        intro D3 s3
        rw [e2] at s3
        have hV3 := hV2.sl (x := V 0 14) s3 (by rw [← e2]; exact hx)
        simp only [b50_53 hw, wi_some, or_0, or_1, bo_or, ite_boP, true_and, and_true, kN_v, kN_n, kT_v, kT_n, kT_e, Nat.add_zero, Nat.zero_add]
        cases hd : trainL lw y.1 ng nr g with
        | none =>
          rw [hd] at k2
          simp only [opI, if_true, b50_73 hw, oN_add] at k2 ⊢
          exact k2 D3 (f2.tr s3.fx) hV3 _
        | some t =>
          rw [hd] at k2
          obtain ⟨ht, _⟩ := trainL_lt hd
          simp only [opI, oN_ne1 (show t < 2147483648 by omega), if_false, sR_things H, sI_goers H, sF_goers H, sR_wish H, sR_deed H, sI_makers H, sF_makers H, sR_born H, sR_money H, sR_nerve H, sR_shuns H, sR_by H, sI_trains H, sF_trains H, sR_halts H, sR_seats H, sI_texts H, sF_texts H, sI_law H, sF_law H, sI_day H, sF_day H, sI_seed H, sF_seed H, sR_log H, sO_state H, sI_count H, sF_count H, sI_first H, sF_first H, sR_at H, sR_worth H, sR_makes H, sR_hinders H, sO_things H, sI_rows H, sF_rows H, sR_entries H, sO_log H, sA_2 H, sW_2 H, sA_3 H, sW_3 H, sA_4 H, sW_4 H, sA_5 H, sW_5 H, sA_6 H, sW_6 H, sA_7 H, sW_7 H, sA_8 H, sW_8 H, sA_9 H, sW_9 H, sA_10 H, sW_10 H, sA_11 H, sW_11 H, sA_12 H, sW_12 H, sA_13 H, sW_13 H, sA_14 H, sW_14 H, sA_16 H, sW_16 H, wi_some, or_0, or_1, bo_or, ite_boP, true_and, and_true, kN_v, kN_n, kT_v, kT_n, kT_e, Nat.add_zero, Nat.zero_add]
          refine k48 hw H ha hV3 I2 (hL2.sl (by rw [e2]; exact s3)) hg ht ?_
          intro D4 f4 hV4
          rw [e2] at f4
          simp only [b50_69 hw, b50_73 hw, wi_some, or_0, or_1, bo_or, ite_boP, true_and, and_true, kN_v, kN_n, kT_v, kT_n, kT_e, Nat.add_zero, Nat.zero_add, oN_add]
          exact k2 D4 (f2.tr (s3.fx.tr f4)) hV4 _
    · intro D2 ⟨f2, hV2, I2, e2⟩ l6
      simp only [b50_14 hw, b50_95 hw, sR_things H, sI_goers H, sF_goers H, sR_wish H, sR_deed H, sI_makers H, sF_makers H, sR_born H, sR_money H, sR_nerve H, sR_shuns H, sR_by H, sI_trains H, sF_trains H, sR_halts H, sR_seats H, sI_texts H, sF_texts H, sI_law H, sF_law H, sI_day H, sF_day H, sI_seed H, sF_seed H, sR_log H, sO_state H, sI_count H, sF_count H, sI_first H, sF_first H, sR_at H, sR_worth H, sR_makes H, sR_hinders H, sO_things H, sI_rows H, sF_rows H, sR_entries H, sO_log H, sA_2 H, sW_2 H, sA_3 H, sW_3 H, sA_4 H, sW_4 H, sA_5 H, sW_5 H, sA_6 H, sW_6 H, sA_7 H, sW_7 H, sA_8 H, sW_8 H, sA_9 H, sW_9 H, sA_10 H, sW_10 H, sA_11 H, sW_11 H, sA_12 H, sW_12 H, sA_13 H, sW_13 H, sA_14 H, sW_14 H, sA_16 H, sW_16 H, wi_some, or_0, or_1, bo_or, ite_boP, true_and, and_true, kN_v, kN_n, kT_v, kT_n, kT_e, Nat.add_zero, Nat.zero_add, v_0 hV2, v_1 hV2, v_2 hV2, v_3 hV2, v_4 hV2, v_5 hV2, v_6 hV2, v_7 hV2, v_8 hV2, v_9 hV2, v_10 hV2, v_11 hV2, v_12 hV2, v_13 hV2, v_14 hV2, v_15 hV2, v_16 hV2, i_ng I2, oN_lt (show ng < 2147483648 by omega) (show ng < 2147483648 by omega), Nat.lt_irrefl, if_false, oN_add]
      refine k _ ⟨f2.tr (Fr.fx (Fr.st0 Fr.rf)), hV2.st0 _, ?_, ?_⟩ _ _
      · exact (Iv_0 I2 (by decide) (by decide) (by decide)).nl
      · rw [← e2]; simp [dayL, u2_at]
  · intro D' ⟨f, hV', I', e'⟩ l5 l6
    simp only [b50_5 hw, oN_lt (show n < 2147483648 by omega) (show n < 2147483648 by omega), Nat.lt_irrefl, if_false]
    exact kk D' f hV' I' e'
end C44
