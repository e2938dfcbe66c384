/-! ===== texts of THE STATION: the class reads ===== -/
def FS (a : Nat) (D D' : sD) : Prop := ∀ e i, ¬ (e = 1 ∧ (i = 2 ∨ i = 3 ∨ i = 5)) → ¬ (a ≤ e ∧ e < a + 17) → D' e i = D e i
theorem FS.rf {a : Nat} {D : sD} : FS a D D := fun _ _ _ _ => rfl
theorem FS.tr {a : Nat} {D D' D'' : sD} (h : FS a D D') (h' : FS a D' D'') : FS a D D'' := fun e i h1 h2 => (h' e i h1 h2).trans (h e i h1 h2)
theorem F1.fs {a : Nat} {D D' : sD} (h : F1 D D') : FS a D D' := fun e i h1 _ => h e i h1
theorem Fr.fs {a : Nat} {D D' : sD} (h : Fr a D D') : FS a D D' := fun e i _ h2 => by rw [h e (by omega)]
def SC (a : Nat) (b : Nat → Nat) (n : Nat) (S : sT) (nl : Nat) (D : sD) (p : Nat) : Prop := TpC b n D p ∧ Vw D a S.1 ∧ Iv S.1 S.2.1 S.2.2.1 S.2.2.2 nl
theorem Vw.f1 {a : Nat} {D D' V : sD} (h : Vw D a V) (f : F1 D D') (ha : 20 ≤ a) : Vw D' a V := fun k i hk => by rw [f (a + k) i (by omega)]; exact h k i hk
theorem SC.f1 {a : Nat} {b : Nat → Nat} {n nl p p' : Nat} {S : sT} {D D' : sD} (h : SC a b n S nl D p) (ha : 20 ≤ a) (f : F1 D D') (t : TpC b n D' p') : SC a b n S nl D' p' := ⟨t, h.2.1.f1 f ha, h.2.2⟩
theorem TpC.fr {a : Nat} {b : Nat → Nat} {n p : Nat} {D D' : sD} (h : TpC b n D p) (ha : 20 ≤ a) (f : Fr a D D') : TpC b n D' p := ⟨by rw [f 1 (by omega)]; exact h.1, by rw [f 1 (by omega)]; exact h.2.1, fun i hi => by rw [f 2 (by omega)]; exact h.2.2 i hi⟩
section CB4
variable {nx : Nat} {xs : Nat → Int32} {d c s : Nat} {sh : List sC} {D : sD} {Q : av_Q}
variable {b : Nat → Nat} {n p a nl : Nat} {S : sT} {V : sD} {nt ng nr : Nat}
theorem k73c {lo hi : Nat} (hw : WT sh) (HS : SP sh) (tb : TB b n) (tc : TpC b n D p) (hp : p ≤ n) (hlo : lo < 1000) (hhb : hi < 9999)
    (ky : ∀ v p' D', num b n lo (hi + 1) p = some (v, p') → F1 D D' → TpC b n D' p' → D' 1 3 = Int32.ofNat v → D' 1 5 = Int32.ofNat p → Q (.inl (some (.int (Int32.ofNat 1)))) (mk sh D') c s)
    (kn : num b n lo (hi + 1) p = none → Q (.inl (some (.int (Int32.ofNat 0)))) (mk sh D) c s) :
    Wx (tP nx xs) (d + 1) 73 0 [some (.ref 1), (some (.int (Int32.ofNat lo))), (some (.int (Int32.ofNat hi))), none, none, none] [] (mk sh D) c s Q := by
  have := k73 (nx := nx) (xs := xs) (d := d) hw HS tb tc hp hlo (show hi + 1 < 10000 by omega) ky kn
  rw [mo_s] at this
  exact this
theorem k68 (hw : WT sh) (HS : SP sh) : Wx (tP nx xs) d 68 0 [some (.ref 1)] [] (mk sh D) c s Q = Q (.inl (some (.int (Int32.ofNat 0)))) (mk sh (u2 D 1 2 (D 1 5))) c s := by
  simp only [b68_0 hw, b68_8 hw, pR_bytes HS, pI_length HS, pF_length HS, pI_place HS, pF_place HS, pI_number HS, pF_number HS, pI_textLength HS, pF_textLength HS, pI_begin HS, pF_begin HS, pO HS, pA_2 HS, pW_2 HS, wi_some, or_0, or_1, bo_or, ite_boP, true_and, and_true, kN_v, kN_n, kT_v, kT_n, kT_e, Nat.add_zero, Nat.zero_add]
theorem F1.rfs {v : Int32} : F1 D (u2 D 1 2 v) := fun e i h => by rw [u2_at, if_neg (by omega)]
theorem k77 {stop wo : Nat} {so : Bool} (hw : WT sh) (H : St sh a) (hV : Vw D a V) (hc : V 1 0 = Int32.ofNat nt) (h8 : nt < 8) (kk : ∀ D', Fr a D D' → Vw D' a (thV V nt stop so wo) → Q (.inl none) (mk sh D') c s) : Wx (tP nx xs) d 77 0 [some (.ref (a + 1)), (some (.int (Int32.ofNat stop))), (some (.int (bo so))), (some (.int (Int32.ofNat wo))), none] [] (mk sh D) c s Q := by
  have tn := oN_tn (show nt < 2147483648 by omega)
  have c0 : D (a + 1) 0 = Int32.ofNat nt := by rw [v_1 hV]; exact hc
  have hV1 := hV.st (k := 2) (i := nt) (by decide) (Int32.ofNat stop)
  have f1 : Fr a D (u2 D (a + 2) nt (Int32.ofNat stop)) := Fr.rf.st (by decide)
  have c1 : u2 D (a + 2) nt (Int32.ofNat stop) (a + 1) 0 = Int32.ofNat nt := by rw [u2_at, if_neg (by omega)]; exact c0
  rw [b77_0 hw]
  simp only [sR_things H, sI_goers H, sF_goers H, sR_wish H, sR_deed H, sI_makers H, sF_makers H, sR_born H, sR_money H, sR_nerve H, sR_shuns H, sR_by H, sI_trains H, sF_trains H, sR_halts H, sR_seats H, sI_texts H, sF_texts H, sI_law H, sF_law H, sI_day H, sF_day H, sI_seed H, sF_seed H, sR_log H, sO_state H, sI_count H, sF_count H, sI_first H, sF_first H, sR_at H, sR_worth H, sR_makes H, sR_hinders H, sO_things H, sI_rows H, sF_rows H, sR_entries H, sO_log H, sA_2 H, sW_2 H, sA_3 H, sW_3 H, sA_4 H, sW_4 H, sA_5 H, sW_5 H, sA_6 H, sW_6 H, sA_7 H, sW_7 H, sA_8 H, sW_8 H, sA_9 H, sW_9 H, sA_10 H, sW_10 H, sA_11 H, sW_11 H, sA_12 H, sW_12 H, sA_13 H, sW_13 H, sA_14 H, sW_14 H, sA_16 H, sW_16 H, wi_some, or_0, or_1, bo_or, ite_boP, true_and, and_true, kN_v, kN_n, kT_v, kT_n, kT_e, Nat.add_zero, Nat.zero_add, c0, oN_lt (show nt < 2147483648 by omega) (show 8 < 2147483648 by omega), h8, if_true, tn]
  rw [b77_20 hw]
  simp only [sR_things H, sI_goers H, sF_goers H, sR_wish H, sR_deed H, sI_makers H, sF_makers H, sR_born H, sR_money H, sR_nerve H, sR_shuns H, sR_by H, sI_trains H, sF_trains H, sR_halts H, sR_seats H, sI_texts H, sF_texts H, sI_law H, sF_law H, sI_day H, sF_day H, sI_seed H, sF_seed H, sR_log H, sO_state H, sI_count H, sF_count H, sI_first H, sF_first H, sR_at H, sR_worth H, sR_makes H, sR_hinders H, sO_things H, sI_rows H, sF_rows H, sR_entries H, sO_log H, sA_2 H, sW_2 H, sA_3 H, sW_3 H, sA_4 H, sW_4 H, sA_5 H, sW_5 H, sA_6 H, sW_6 H, sA_7 H, sW_7 H, sA_8 H, sW_8 H, sA_9 H, sW_9 H, sA_10 H, sW_10 H, sA_11 H, sW_11 H, sA_12 H, sW_12 H, sA_13 H, sW_13 H, sA_14 H, sW_14 H, sA_16 H, sW_16 H, wi_some, or_0, or_1, bo_or, ite_boP, true_and, and_true, kN_v, kN_n, kT_v, kT_n, kT_e, Nat.add_zero, Nat.zero_add, c1, h8, tn]
  have hV2 := hV1.st (k := 3) (i := nt) (by decide) (Int32.ofNat wo)
  have f2 := Fr.st (k := 3) (i := nt) (v := Int32.ofNat wo) (by decide) f1
  generalize u2 (u2 D (a + 2) nt (Int32.ofNat stop)) (a + 3) nt (Int32.ofNat wo) = D2 at *
  have c2 : D2 (a + 1) 0 = Int32.ofNat nt := by rw [v_1 hV2, u2_at, if_neg (by omega), u2_at, if_neg (by omega)]; exact hc
  have d2 : D2 (a + 1) 1 = V 1 1 := by rw [v_1 hV2, u2_at, if_neg (by omega), u2_at, if_neg (by omega)]
  rw [b77_30 hw]
  simp only [sR_things H, sI_goers H, sF_goers H, sR_wish H, sR_deed H, sI_makers H, sF_makers H, sR_born H, sR_money H, sR_nerve H, sR_shuns H, sR_by H, sI_trains H, sF_trains H, sR_halts H, sR_seats H, sI_texts H, sF_texts H, sI_law H, sF_law H, sI_day H, sF_day H, sI_seed H, sF_seed H, sR_log H, sO_state H, sI_count H, sF_count H, sI_first H, sF_first H, sR_at H, sR_worth H, sR_makes H, sR_hinders H, sO_things H, sI_rows H, sF_rows H, sR_entries H, sO_log H, sA_2 H, sW_2 H, sA_3 H, sW_3 H, sA_4 H, sW_4 H, sA_5 H, sW_5 H, sA_6 H, sW_6 H, sA_7 H, sW_7 H, sA_8 H, sW_8 H, sA_9 H, sW_9 H, sA_10 H, sW_10 H, sA_11 H, sW_11 H, sA_12 H, sW_12 H, sA_13 H, sW_13 H, sA_14 H, sW_14 H, sA_16 H, sW_16 H, wi_some, or_0, or_1, bo_or, ite_boP, true_and, and_true, kN_v, kN_n, kT_v, kT_n, kT_e, Nat.add_zero, Nat.zero_add, c2, h8, tn]
  have hV3 := hV2.st (k := 4) (i := nt) (by decide) (Int32.ofNat 0)
  have f3 := Fr.st (k := 4) (i := nt) (v := Int32.ofNat 0) (by decide) f2
  have c3 : u2 D2 (a + 4) nt (Int32.ofNat 0) (a + 1) 0 = Int32.ofNat nt := by rw [u2_at, if_neg (by omega)]; exact c2
  have d3 : u2 D2 (a + 4) nt (Int32.ofNat 0) (a + 1) 1 = V 1 1 := by rw [u2_at, if_neg (by omega)]; exact d2
  generalize u2 D2 (a + 4) nt (Int32.ofNat 0) = D3 at *
  rw [b77_40 hw]
  simp only [sR_things H, sI_goers H, sF_goers H, sR_wish H, sR_deed H, sI_makers H, sF_makers H, sR_born H, sR_money H, sR_nerve H, sR_shuns H, sR_by H, sI_trains H, sF_trains H, sR_halts H, sR_seats H, sI_texts H, sF_texts H, sI_law H, sF_law H, sI_day H, sF_day H, sI_seed H, sF_seed H, sR_log H, sO_state H, sI_count H, sF_count H, sI_first H, sF_first H, sR_at H, sR_worth H, sR_makes H, sR_hinders H, sO_things H, sI_rows H, sF_rows H, sR_entries H, sO_log H, sA_2 H, sW_2 H, sA_3 H, sW_3 H, sA_4 H, sW_4 H, sA_5 H, sW_5 H, sA_6 H, sW_6 H, sA_7 H, sW_7 H, sA_8 H, sW_8 H, sA_9 H, sW_9 H, sA_10 H, sW_10 H, sA_11 H, sW_11 H, sA_12 H, sW_12 H, sA_13 H, sW_13 H, sA_14 H, sW_14 H, sA_16 H, sW_16 H, wi_some, or_0, or_1, bo_or, ite_boP, true_and, and_true, kN_v, kN_n, kT_v, kT_n, kT_e, Nat.add_zero, Nat.zero_add, c3, h8, tn]
  have hV4 := hV3.st (k := 5) (i := nt) (by decide) (Int32.ofNat 0)
  have f4 := Fr.st (k := 5) (i := nt) (v := Int32.ofNat 0) (by decide) f3
  have c4 : u2 D3 (a + 5) nt (Int32.ofNat 0) (a + 1) 0 = Int32.ofNat nt := by rw [u2_at, if_neg (by omega)]; exact c3
  have d4 : u2 D3 (a + 5) nt (Int32.ofNat 0) (a + 1) 1 = V 1 1 := by rw [u2_at, if_neg (by omega)]; exact d3
  generalize u2 D3 (a + 5) nt (Int32.ofNat 0) = D4 at *
  have hV5 := hV4.st (k := 1) (i := 1) (by decide) (mkX (V 1 1) nt so)
  have f5 := Fr.st (k := 1) (i := 1) (v := mkX (V 1 1) nt so) (by decide) f4
  have c5 : u2 D4 (a + 1) 1 (mkX (V 1 1) nt so) (a + 1) 0 = Int32.ofNat nt := by rw [u2_at, if_neg (by omega)]; exact c4
  have e5 : (if so then V 1 1 ||| jshl (Int32.ofNat 1) (Int32.ofNat nt) else V 1 1 &&& (jshl (Int32.ofNat 1) (Int32.ofNat nt) ^^^ -1)) = mkX (V 1 1) nt so := rfl
  have fin := kk _ (Fr.st (k := 1) (i := 0) (v := Int32.ofNat (nt + 1)) (by decide) f5) (hV5.st (k := 1) (i := 0) (by decide) (Int32.ofNat (nt + 1)))
  rw [b77_50 hw]
  simp only [sR_things H, sI_goers H, sF_goers H, sR_wish H, sR_deed H, sI_makers H, sF_makers H, sR_born H, sR_money H, sR_nerve H, sR_shuns H, sR_by H, sI_trains H, sF_trains H, sR_halts H, sR_seats H, sI_texts H, sF_texts H, sI_law H, sF_law H, sI_day H, sF_day H, sI_seed H, sF_seed H, sR_log H, sO_state H, sI_count H, sF_count H, sI_first H, sF_first H, sR_at H, sR_worth H, sR_makes H, sR_hinders H, sO_things H, sI_rows H, sF_rows H, sR_entries H, sO_log H, sA_2 H, sW_2 H, sA_3 H, sW_3 H, sA_4 H, sW_4 H, sA_5 H, sW_5 H, sA_6 H, sW_6 H, sA_7 H, sW_7 H, sA_8 H, sW_8 H, sA_9 H, sW_9 H, sA_10 H, sW_10 H, sA_11 H, sW_11 H, sA_12 H, sW_12 H, sA_13 H, sW_13 H, sA_14 H, sW_14 H, sA_16 H, sW_16 H, wi_some, or_0, or_1, bo_or, ite_boP, true_and, and_true, kN_v, kN_n, kT_v, kT_n, kT_e, Nat.add_zero, Nat.zero_add, c4, d4, b77_82 hw]
  cases so with
  | true =>
    simp only [if_true] at e5 ⊢
    rw [e5, b77_85 hw]
    simp only [sR_things H, sI_goers H, sF_goers H, sR_wish H, sR_deed H, sI_makers H, sF_makers H, sR_born H, sR_money H, sR_nerve H, sR_shuns H, sR_by H, sI_trains H, sF_trains H, sR_halts H, sR_seats H, sI_texts H, sF_texts H, sI_law H, sF_law H, sI_day H, sF_day H, sI_seed H, sF_seed H, sR_log H, sO_state H, sI_count H, sF_count H, sI_first H, sF_first H, sR_at H, sR_worth H, sR_makes H, sR_hinders H, sO_things H, sI_rows H, sF_rows H, sR_entries H, sO_log H, sA_2 H, sW_2 H, sA_3 H, sW_3 H, sA_4 H, sW_4 H, sA_5 H, sW_5 H, sA_6 H, sW_6 H, sA_7 H, sW_7 H, sA_8 H, sW_8 H, sA_9 H, sW_9 H, sA_10 H, sW_10 H, sA_11 H, sW_11 H, sA_12 H, sW_12 H, sA_13 H, sW_13 H, sA_14 H, sW_14 H, sA_16 H, sW_16 H, wi_some, or_0, or_1, bo_or, ite_boP, true_and, and_true, kN_v, kN_n, kT_v, kT_n, kT_e, Nat.add_zero, Nat.zero_add, c5, oN_add, b77_95 hw]
    exact fin
  | false =>
    simp only [Bool.false_eq_true, if_false] at e5 ⊢
    rw [e5, b77_85 hw]
    simp only [sR_things H, sI_goers H, sF_goers H, sR_wish H, sR_deed H, sI_makers H, sF_makers H, sR_born H, sR_money H, sR_nerve H, sR_shuns H, sR_by H, sI_trains H, sF_trains H, sR_halts H, sR_seats H, sI_texts H, sF_texts H, sI_law H, sF_law H, sI_day H, sF_day H, sI_seed H, sF_seed H, sR_log H, sO_state H, sI_count H, sF_count H, sI_first H, sF_first H, sR_at H, sR_worth H, sR_makes H, sR_hinders H, sO_things H, sI_rows H, sF_rows H, sR_entries H, sO_log H, sA_2 H, sW_2 H, sA_3 H, sW_3 H, sA_4 H, sW_4 H, sA_5 H, sW_5 H, sA_6 H, sW_6 H, sA_7 H, sW_7 H, sA_8 H, sW_8 H, sA_9 H, sW_9 H, sA_10 H, sW_10 H, sA_11 H, sW_11 H, sA_12 H, sW_12 H, sA_13 H, sW_13 H, sA_14 H, sW_14 H, sA_16 H, sW_16 H, wi_some, or_0, or_1, bo_or, ite_boP, true_and, and_true, kN_v, kN_n, kT_v, kT_n, kT_e, Nat.add_zero, Nat.zero_add, c5, oN_add, b77_95 hw]
    exact fin
theorem k55 (hw : WT sh) (HS : SP sh) (H : St sh a) (ha : 20 ≤ a) (tb : TB b n) (sc : SC a b n S nl D p) (hp : p ≤ n) (h8 : S.2.1 < 8)
    (kf : ∀ f D', thL b n S p = .inl f → FS a D D' → D' 1 2 = Int32.ofNat f → Q (.inl (some (.int (Int32.ofNat 0)))) (mk sh D') c s)
    (ky : ∀ S' p' D', thL b n S p = .inr (S', p') → FS a D D' → SC a b n S' nl D' p' → p' ≤ n → Q (.inl (some (.int (Int32.ofNat 1)))) (mk sh D') c s) :
    Wx (tP nx xs) (d + 2) 55 0 [some (.ref 1), some (.ref (a + 1)), none, none, none] [] (mk sh D) c s Q := by
  have n10 : ¬ (Int32.ofNat 1 : Int32) = Int32.ofNat 0 := by decide
  have I := sc.2.2
  have add : ∀ stop so wo q D3, stop < 16 → SC a b n S nl D3 q → q ≤ n → FS a D D3 → (∀ D', FS a D D' → SC a b n (thV S.1 S.2.1 stop so wo, S.2.1 + 1, S.2.2.1, S.2.2.2) nl D' q → Q (.inl (some (.int (Int32.ofNat 1)))) (mk sh D') c s) → Wx (tP nx xs) (d + 2) 55 63 [some (.ref 1), some (.ref (a + 1)), (some (.int (Int32.ofNat stop))), (some (.int (bo so))), (some (.int (Int32.ofNat wo)))] [] (mk sh D3) c s Q := by
    intro stop so wo q D3 hs sc3 hq f3 k
    simp only [b55_63 hw, sR_things H, sI_goers H, sF_goers H, sR_wish H, sR_deed H, sI_makers H, sF_makers H, sR_born H, sR_money H, sR_nerve H, sR_shuns H, sR_by H, sI_trains H, sF_trains H, sR_halts H, sR_seats H, sI_texts H, sF_texts H, sI_law H, sF_law H, sI_day H, sF_day H, sI_seed H, sF_seed H, sR_log H, sO_state H, sI_count H, sF_count H, sI_first H, sF_first H, sR_at H, sR_worth H, sR_makes H, sR_hinders H, sO_things H, sI_rows H, sF_rows H, sR_entries H, sO_log H, sA_2 H, sW_2 H, sA_3 H, sW_3 H, sA_4 H, sW_4 H, sA_5 H, sW_5 H, sA_6 H, sW_6 H, sA_7 H, sW_7 H, sA_8 H, sW_8 H, sA_9 H, sW_9 H, sA_10 H, sW_10 H, sA_11 H, sW_11 H, sA_12 H, sW_12 H, sA_13 H, sW_13 H, sA_14 H, sW_14 H, sA_16 H, sW_16 H, wi_some, or_0, or_1, bo_or, ite_boP, true_and, and_true, kN_v, kN_n, kT_v, kT_n, kT_e, Nat.add_zero, Nat.zero_add]
    refine k77 hw H sc3.2.1 (i_nt I) h8 ?_
    intro D4 f4 v4
    simp only [wi_some, or_0, or_1, bo_or, ite_boP, true_and, and_true, kN_v, kN_n, kT_v, kT_n, kT_e, Nat.add_zero, Nat.zero_add, b55_71 hw]
    exact k D4 (f3.tr f4.fs) ⟨sc3.1.fr ha f4, v4, Iv_th I h8 hs⟩
  have tail : ∀ stop so q D3, stop < 16 → SC a b n S nl D3 q → q ≤ n → FS a D D3 → (∀ f D', tld b n wWorth 100 q = .inl f → FS a D D' → D' 1 2 = Int32.ofNat f → Q (.inl (some (.int (Int32.ofNat 0)))) (mk sh D') c s) → (∀ o p' D', tld b n wWorth 100 q = .inr (o, p') → FS a D D' → SC a b n (thV S.1 S.2.1 stop so (o.getD 1), S.2.1 + 1, S.2.2.1, S.2.2.2) nl D' p' → p' ≤ n → Q (.inl (some (.int (Int32.ofNat 1)))) (mk sh D') c s) → Wx (tP nx xs) (d + 2) 55 32 [some (.ref 1), some (.ref (a + 1)), (some (.int (Int32.ofNat stop))), none, none] [.int (bo so)] (mk sh D3) c s Q := by
    intro stop so q D3 hs sc3 hq f3 kf ky
    unfold tld at kf ky
    simp only [b55_32 hw, pR_bytes HS, pI_length HS, pF_length HS, pI_place HS, pF_place HS, pI_number HS, pF_number HS, pI_textLength HS, pF_textLength HS, pI_begin HS, pF_begin HS, pO HS, pA_2 HS, pW_2 HS, wi_some, or_0, or_1, bo_or, ite_boP, true_and, and_true, kN_v, kN_n, kT_v, kT_n, kT_e, Nat.add_zero, Nat.zero_add]
    refine k70 (i := 3) (w := wWorth) hw HS tb sc3.1 hq (by decide) (by decide +kernel) (by decide +kernel) ?_ ?_
    · intro p1 D4 hW f4 t4 e3 e5
      obtain ⟨_, _, _, w4, _⟩ := wrd_some hW hq
      simp only [hW] at kf ky
      simp only [wi_some, or_0, or_1, bo_or, ite_boP, true_and, and_true, kN_v, kN_n, kT_v, kT_n, kT_e, Nat.add_zero, Nat.zero_add, b55_42 hw, n10, if_false, pR_bytes HS, pI_length HS, pF_length HS, pI_place HS, pF_place HS, pI_number HS, pF_number HS, pI_textLength HS, pF_textLength HS, pI_begin HS, pF_begin HS, pO HS, pA_2 HS, pW_2 HS]
      refine k73c hw HS tb t4 w4 (by decide) (by decide) ?_ ?_
      · intro v p2 D5 hN f5 t5 e53 e55
        obtain ⟨_, w6, _⟩ := num_some hN w4
        simp only [hN] at ky
        simp only [wi_some, or_0, or_1, bo_or, ite_boP, true_and, and_true, kN_v, kN_n, kT_v, kT_n, kT_e, Nat.add_zero, Nat.zero_add, b55_52 hw, n10, if_false, pR_bytes HS, pI_length HS, pF_length HS, pI_place HS, pF_place HS, pI_number HS, pF_number HS, pI_textLength HS, pF_textLength HS, pI_begin HS, pF_begin HS, pO HS, pA_2 HS, pW_2 HS, e53]
        exact add stop so v p2 D5 hs (sc3.f1 ha (f4.tr f5) t5) w6 (f3.tr (f4.tr f5).fs) fun D' g1 g2 => ky (some v) p2 D' rfl g1 g2 w6
      · intro hN
        simp only [hN] at kf
        simp only [wi_some, or_0, or_1, bo_or, ite_boP, true_and, and_true, kN_v, kN_n, kT_v, kT_n, kT_e, Nat.add_zero, Nat.zero_add, b55_52 hw, if_true]
        exact kf _ D4 rfl (f3.tr f4.fs) t4.1
    · intro hW
      simp only [hW] at kf ky
      simp only [wi_some, or_0, or_1, bo_or, ite_boP, true_and, and_true, kN_v, kN_n, kT_v, kT_n, kT_e, Nat.add_zero, Nat.zero_add, b55_42 hw, if_true]
      exact add stop so 1 q D3 hs sc3 hq f3 fun D' g1 g2 => ky none q D' rfl g1 g2 hq
  unfold thL bhd at kf ky
  simp only [b55_0 hw, pR_bytes HS, pI_length HS, pF_length HS, pI_place HS, pF_place HS, pI_number HS, pF_number HS, pI_textLength HS, pF_textLength HS, pI_begin HS, pF_begin HS, pO HS, pA_2 HS, pW_2 HS, wi_some, or_0, or_1, bo_or, ite_boP, true_and, and_true, kN_v, kN_n, kT_v, kT_n, kT_e, Nat.add_zero, Nat.zero_add]
  refine k70 (i := 1) (w := wAt) hw HS tb sc.1 hp (by decide) (by decide +kernel) (by decide +kernel) ?_ ?_
  · intro p1 D1 hW f1 t1 e3 e5
    obtain ⟨_, _, _, w4, _⟩ := wrd_some hW hp
    simp only [hW] at kf ky
    simp only [wi_some, or_0, or_1, bo_or, ite_boP, true_and, and_true, kN_v, kN_n, kT_v, kT_n, kT_e, Nat.add_zero, Nat.zero_add, b55_6 hw, n10, if_false, pR_bytes HS, pI_length HS, pF_length HS, pI_place HS, pF_place HS, pI_number HS, pF_number HS, pI_textLength HS, pF_textLength HS, pI_begin HS, pF_begin HS, pO HS, pA_2 HS, pW_2 HS]
    refine k73c hw HS tb t1 w4 (by decide) (by decide) ?_ ?_
    · intro v p2 D2 hN f2 t2 e23 e25
      obtain ⟨_, w6, _, _, w7, _⟩ := num_some hN w4
      simp only [hN] at kf ky
      simp only [wi_some, or_0, or_1, bo_or, ite_boP, true_and, and_true, kN_v, kN_n, kT_v, kT_n, kT_e, Nat.add_zero, Nat.zero_add, b55_16 hw, n10, if_false, pR_bytes HS, pI_length HS, pF_length HS, pI_place HS, pF_place HS, pI_number HS, pF_number HS, pI_textLength HS, pF_textLength HS, pI_begin HS, pF_begin HS, pO HS, pA_2 HS, pW_2 HS, e23]
      have sc2 := sc.f1 ha (f1.tr f2) t2
      refine k70 (i := 2) (w := wSo) hw HS tb t2 w6 (by decide) (by decide +kernel) (by decide +kernel) ?_ ?_
      · intro p3 D3 hS f3 t3 e33 e35
        obtain ⟨_, _, _, w8, _⟩ := wrd_some hS w6
        simp only [hS, Option.getD_some, Option.isSome_some] at kf ky
        simp only [wi_some, or_0, or_1, bo_or, ite_boP, true_and, and_true, kN_v, kN_n, kT_v, kT_n, kT_e, Nat.add_zero, Nat.zero_add]
        refine tail v true p3 D3 w7 (sc2.f1 ha f3 t3) w8 ((f1.tr f2).tr f3).fs (fun f D' h g1 g2 => ?_) (fun o p' D' h g1 g2 g3 => ?_)
        · exact kf f D' (by rw [h]) g1 g2
        · exact ky _ p' D' (by rw [h]) g1 g2 g3
      · intro hS
        simp only [hS, Option.getD_none, Option.isSome_none] at kf ky
        simp only [wi_some, or_0, or_1, bo_or, ite_boP, true_and, and_true, kN_v, kN_n, kT_v, kT_n, kT_e, Nat.add_zero, Nat.zero_add]
        refine tail v false p2 D2 w7 sc2 w6 (f1.tr f2).fs (fun f D' h g1 g2 => ?_) (fun o p' D' h g1 g2 g3 => ?_)
        · exact kf f D' (by rw [h]) g1 g2
        · exact ky _ p' D' (by rw [h]) g1 g2 g3
    · intro hN
      simp only [hN] at kf
      simp only [wi_some, or_0, or_1, bo_or, ite_boP, true_and, and_true, kN_v, kN_n, kT_v, kT_n, kT_e, Nat.add_zero, Nat.zero_add, b55_16 hw, if_true, b55_19 hw]
      exact kf _ D1 rfl f1.fs t1.1
  · intro hW
    simp only [hW] at kf
    simp only [wi_some, or_0, or_1, bo_or, ite_boP, true_and, and_true, kN_v, kN_n, kT_v, kT_n, kT_e, Nat.add_zero, Nat.zero_add, b55_6 hw, if_true, b55_19 hw]
    exact kf _ D rfl FS.rf sc.1.1
theorem k78 {t o : Nat} {m : Bool} (hw : WT sh) (H : St sh a) (hV : Vw D a V) (ht : t < 8) (ho : o < 8) (kk : ∀ D', Fr a D D' → Vw D' a (tiV V t o m) → Q (.inl none) (mk sh D') c s) : Wx (tP nx xs) d 78 0 [some (.ref (a + 1)), (some (.int (Int32.ofNat t))), (some (.int (Int32.ofNat o))), (some (.int (bo m))), none] [] (mk sh D) c s Q := by
  have tn := oN_tn (show t < 2147483648 by omega)
  have hV1 := hV.st (k := 4) (i := t) (by decide) (mkX (V 4 t) o m)
  have f1 : Fr a D (u2 D (a + 4) t (mkX (V 4 t) o m)) := Fr.rf.st (by decide)
  have d1 : u2 D (a + 4) t (mkX (V 4 t) o m) (a + 5) t = V 5 t := by rw [u2_at, if_neg (by omega), v_5 hV]
  have e1 : (if m then V 4 t ||| jshl (Int32.ofNat 1) (Int32.ofNat o) else V 4 t &&& (jshl (Int32.ofNat 1) (Int32.ofNat o) ^^^ -1)) = mkX (V 4 t) o m := rfl
  have e2 : (if !m then V 5 t ||| jshl (Int32.ofNat 1) (Int32.ofNat o) else V 5 t &&& (jshl (Int32.ofNat 1) (Int32.ofNat o) ^^^ -1)) = mkX (V 5 t) o (!m) := rfl
  have fin := kk _ (Fr.st (k := 5) (i := t) (v := mkX (V 5 t) o (!m)) (by decide) f1) (hV1.st (k := 5) (i := t) (by decide) (mkX (V 5 t) o (!m)))
  rw [b78_0 hw]
  simp only [sR_things H, sI_goers H, sF_goers H, sR_wish H, sR_deed H, sI_makers H, sF_makers H, sR_born H, sR_money H, sR_nerve H, sR_shuns H, sR_by H, sI_trains H, sF_trains H, sR_halts H, sR_seats H, sI_texts H, sF_texts H, sI_law H, sF_law H, sI_day H, sF_day H, sI_seed H, sF_seed H, sR_log H, sO_state H, sI_count H, sF_count H, sI_first H, sF_first H, sR_at H, sR_worth H, sR_makes H, sR_hinders H, sO_things H, sI_rows H, sF_rows H, sR_entries H, sO_log H, sA_2 H, sW_2 H, sA_3 H, sW_3 H, sA_4 H, sW_4 H, sA_5 H, sW_5 H, sA_6 H, sW_6 H, sA_7 H, sW_7 H, sA_8 H, sW_8 H, sA_9 H, sW_9 H, sA_10 H, sW_10 H, sA_11 H, sW_11 H, sA_12 H, sW_12 H, sA_13 H, sW_13 H, sA_14 H, sW_14 H, sA_16 H, sW_16 H, wi_some, or_0, or_1, bo_or, ite_boP, true_and, and_true, kN_v, kN_n, kT_v, kT_n, kT_e, Nat.add_zero, Nat.zero_add, ht, v_4 hV, b78_37 hw, tn]
  cases m with
  | true =>
    simp only [if_true, Bool.not_true, Bool.false_eq_true, if_false] at e1 e2 fin d1 ⊢
    rw [e1, b78_38 hw]
    simp only [sR_things H, sI_goers H, sF_goers H, sR_wish H, sR_deed H, sI_makers H, sF_makers H, sR_born H, sR_money H, sR_nerve H, sR_shuns H, sR_by H, sI_trains H, sF_trains H, sR_halts H, sR_seats H, sI_texts H, sF_texts H, sI_law H, sF_law H, sI_day H, sF_day H, sI_seed H, sF_seed H, sR_log H, sO_state H, sI_count H, sF_count H, sI_first H, sF_first H, sR_at H, sR_worth H, sR_makes H, sR_hinders H, sO_things H, sI_rows H, sF_rows H, sR_entries H, sO_log H, sA_2 H, sW_2 H, sA_3 H, sW_3 H, sA_4 H, sW_4 H, sA_5 H, sW_5 H, sA_6 H, sW_6 H, sA_7 H, sW_7 H, sA_8 H, sW_8 H, sA_9 H, sW_9 H, sA_10 H, sW_10 H, sA_11 H, sW_11 H, sA_12 H, sW_12 H, sA_13 H, sW_13 H, sA_14 H, sW_14 H, sA_16 H, sW_16 H, wi_some, or_0, or_1, bo_or, ite_boP, true_and, and_true, kN_v, kN_n, kT_v, kT_n, kT_e, Nat.add_zero, Nat.zero_add, ht, d1, b78_70 hw, tn, if_true, e2, b78_71 hw]
    exact fin
  | false =>
    simp only [Bool.false_eq_true, if_false, Bool.not_false, if_true] at e1 e2 fin d1 ⊢
    rw [e1, b78_38 hw]
    simp only [sR_things H, sI_goers H, sF_goers H, sR_wish H, sR_deed H, sI_makers H, sF_makers H, sR_born H, sR_money H, sR_nerve H, sR_shuns H, sR_by H, sI_trains H, sF_trains H, sR_halts H, sR_seats H, sI_texts H, sF_texts H, sI_law H, sF_law H, sI_day H, sF_day H, sI_seed H, sF_seed H, sR_log H, sO_state H, sI_count H, sF_count H, sI_first H, sF_first H, sR_at H, sR_worth H, sR_makes H, sR_hinders H, sO_things H, sI_rows H, sF_rows H, sR_entries H, sO_log H, sA_2 H, sW_2 H, sA_3 H, sW_3 H, sA_4 H, sW_4 H, sA_5 H, sW_5 H, sA_6 H, sW_6 H, sA_7 H, sW_7 H, sA_8 H, sW_8 H, sA_9 H, sW_9 H, sA_10 H, sW_10 H, sA_11 H, sW_11 H, sA_12 H, sW_12 H, sA_13 H, sW_13 H, sA_14 H, sW_14 H, sA_16 H, sW_16 H, wi_some, or_0, or_1, bo_or, ite_boP, true_and, and_true, kN_v, kN_n, kT_v, kT_n, kT_e, Nat.add_zero, Nat.zero_add, ht, d1, b78_70 hw, tn, Bool.false_eq_true, if_false, e2, b78_71 hw]
    exact fin
theorem k56 {m : Bool} (hw : WT sh) (HS : SP sh) (H : St sh a) (ha : 20 ≤ a) (tb : TB b n) (sc : SC a b n S nl D p) (hp : p ≤ n)
    (kf : ∀ f D', tiL b n S m p = .inl f → FS a D D' → D' 1 2 = Int32.ofNat f → Q (.inl (some (.int (Int32.ofNat 0)))) (mk sh D') c s)
    (ky : ∀ S' p' D', tiL b n S m p = .inr (S', p') → FS a D D' → SC a b n S' nl D' p' → p' ≤ n → Q (.inl (some (.int (Int32.ofNat 1)))) (mk sh D') c s) :
    Wx (tP nx xs) (d + 2) 56 0 [some (.ref 1), some (.ref (a + 1)), (some (.int (bo m))), none, none] [] (mk sh D) c s Q := by
  have n10 : ¬ (Int32.ofNat 1 : Int32) = Int32.ofNat 0 := by decide
  have I := sc.2.2
  have hnt := i_nt8 I
  have ent : ∀ {D1 : sD}, Vw D1 a S.1 → D1 (a + 1) 0 = Int32.ofNat S.2.1 := fun {D1} h => by rw [v_1 h]; exact i_nt I
  have emo : Int32.ofNat S.2.1 - Int32.ofNat 1 = mo S.2.1 := rfl
  unfold tiL at kf ky
  simp only [b56_0 hw, pR_bytes HS, pI_length HS, pF_length HS, pI_place HS, pF_place HS, pI_number HS, pF_number HS, pI_textLength HS, pF_textLength HS, pI_begin HS, pF_begin HS, pO HS, pA_2 HS, pW_2 HS, sR_things H, sI_goers H, sF_goers H, sR_wish H, sR_deed H, sI_makers H, sF_makers H, sR_born H, sR_money H, sR_nerve H, sR_shuns H, sR_by H, sI_trains H, sF_trains H, sR_halts H, sR_seats H, sI_texts H, sF_texts H, sI_law H, sF_law H, sI_day H, sF_day H, sI_seed H, sF_seed H, sR_log H, sO_state H, sI_count H, sF_count H, sI_first H, sF_first H, sR_at H, sR_worth H, sR_makes H, sR_hinders H, sO_things H, sI_rows H, sF_rows H, sR_entries H, sO_log H, sA_2 H, sW_2 H, sA_3 H, sW_3 H, sA_4 H, sW_4 H, sA_5 H, sW_5 H, sA_6 H, sW_6 H, sA_7 H, sW_7 H, sA_8 H, sW_8 H, sA_9 H, sW_9 H, sA_10 H, sW_10 H, sA_11 H, sW_11 H, sA_12 H, sW_12 H, sA_13 H, sW_13 H, sA_14 H, sW_14 H, sA_16 H, sW_16 H, wi_some, or_0, or_1, bo_or, ite_boP, true_and, and_true, kN_v, kN_n, kT_v, kT_n, kT_e, Nat.add_zero, Nat.zero_add, ent sc.2.1, emo]
  refine k73 hw HS tb sc.1 hp (by decide) (by omega) ?_ ?_
  · intro t p1 D1 hN f1 t1 e3 e5
    obtain ⟨_, w4, _, _, w5, _⟩ := num_some hN hp
    have sc1 := sc.f1 ha f1 t1
    simp only [hN] at kf ky
    simp only [wi_some, or_0, or_1, bo_or, ite_boP, true_and, and_true, kN_v, kN_n, kT_v, kT_n, kT_e, Nat.add_zero, Nat.zero_add, b56_11 hw, n10, if_false, pR_bytes HS, pI_length HS, pF_length HS, pI_place HS, pF_place HS, pI_number HS, pF_number HS, pI_textLength HS, pF_textLength HS, pI_begin HS, pF_begin HS, pO HS, pA_2 HS, pW_2 HS, sR_things H, sI_goers H, sF_goers H, sR_wish H, sR_deed H, sI_makers H, sF_makers H, sR_born H, sR_money H, sR_nerve H, sR_shuns H, sR_by H, sI_trains H, sF_trains H, sR_halts H, sR_seats H, sI_texts H, sF_texts H, sI_law H, sF_law H, sI_day H, sF_day H, sI_seed H, sF_seed H, sR_log H, sO_state H, sI_count H, sF_count H, sI_first H, sF_first H, sR_at H, sR_worth H, sR_makes H, sR_hinders H, sO_things H, sI_rows H, sF_rows H, sR_entries H, sO_log H, sA_2 H, sW_2 H, sA_3 H, sW_3 H, sA_4 H, sW_4 H, sA_5 H, sW_5 H, sA_6 H, sW_6 H, sA_7 H, sW_7 H, sA_8 H, sW_8 H, sA_9 H, sW_9 H, sA_10 H, sW_10 H, sA_11 H, sW_11 H, sA_12 H, sW_12 H, sA_13 H, sW_13 H, sA_14 H, sW_14 H, sA_16 H, sW_16 H, e3, ent sc1.2.1, emo]
    refine k73 hw HS tb t1 w4 (by decide) (by omega) ?_ ?_
    · intro o p2 D2 hN2 f2 t2 e23 e25
      obtain ⟨_, w6, _, _, w7, _⟩ := num_some hN2 w4
      have sc2 := sc1.f1 ha f2 t2
      have hV2 := sc2.2.1
      have ht8 : t < 8 := by omega
      have ho8 : o < 8 := by omega
      simp only [hN2] at kf ky
      simp only [wi_some, or_0, or_1, bo_or, ite_boP, true_and, and_true, kN_v, kN_n, kT_v, kT_n, kT_e, Nat.add_zero, Nat.zero_add, b56_32 hw, n10, if_false, pR_bytes HS, pI_length HS, pF_length HS, pI_place HS, pF_place HS, pI_number HS, pF_number HS, pI_textLength HS, pF_textLength HS, pI_begin HS, pF_begin HS, pO HS, pA_2 HS, pW_2 HS, sR_things H, sI_goers H, sF_goers H, sR_wish H, sR_deed H, sI_makers H, sF_makers H, sR_born H, sR_money H, sR_nerve H, sR_shuns H, sR_by H, sI_trains H, sF_trains H, sR_halts H, sR_seats H, sI_texts H, sF_texts H, sI_law H, sF_law H, sI_day H, sF_day H, sI_seed H, sF_seed H, sR_log H, sO_state H, sI_count H, sF_count H, sI_first H, sF_first H, sR_at H, sR_worth H, sR_makes H, sR_hinders H, sO_things H, sI_rows H, sF_rows H, sR_entries H, sO_log H, sA_2 H, sW_2 H, sA_3 H, sW_3 H, sA_4 H, sW_4 H, sA_5 H, sW_5 H, sA_6 H, sW_6 H, sA_7 H, sW_7 H, sA_8 H, sW_8 H, sA_9 H, sW_9 H, sA_10 H, sW_10 H, sA_11 H, sW_11 H, sA_12 H, sW_12 H, sA_13 H, sW_13 H, sA_14 H, sW_14 H, sA_16 H, sW_16 H, e23, ht8, ho8, v_2 hV2]
      by_cases hlt : S.1 2 t < S.1 2 o
      · simp only [hlt, if_true] at ky ⊢
        refine k78 hw H hV2 ht8 ho8 ?_
        intro D3 f3 v3
        simp only [wi_some, or_0, or_1, bo_or, ite_boP, true_and, and_true, kN_v, kN_n, kT_v, kT_n, kT_e, Nat.add_zero, Nat.zero_add, b56_72 hw]
        exact ky _ p2 D3 rfl ((f1.tr f2).fs.tr f3.fs) ⟨t2.fr ha f3, v3, Iv_ti I w5 w7 hlt⟩ w6
      · simp only [hlt, if_false] at kf ⊢
        simp only [pR_bytes HS, pI_length HS, pF_length HS, pI_place HS, pF_place HS, pI_number HS, pF_number HS, pI_textLength HS, pF_textLength HS, pI_begin HS, pF_begin HS, pO HS, pA_2 HS, pW_2 HS, wi_some, or_0, or_1, bo_or, ite_boP, true_and, and_true, kN_v, kN_n, kT_v, kT_n, kT_e, Nat.add_zero, Nat.zero_add, k68 hw HS, b56_63 hw, e25]
        exact kf _ _ rfl ((f1.tr f2).tr F1.rfs).fs (by rw [u2_at, if_pos ⟨rfl, rfl⟩])
    · intro hN2
      simp only [hN2] at kf
      simp only [wi_some, or_0, or_1, bo_or, ite_boP, true_and, and_true, kN_v, kN_n, kT_v, kT_n, kT_e, Nat.add_zero, Nat.zero_add, b56_32 hw, if_true]
      exact kf _ D1 rfl f1.fs t1.1
  · intro hN
    simp only [hN] at kf
    simp only [wi_some, or_0, or_1, bo_or, ite_boP, true_and, and_true, kN_v, kN_n, kT_v, kT_n, kT_e, Nat.add_zero, Nat.zero_add, b56_11 hw, if_true]
    exact kf _ D rfl FS.rf sc.1.1
end CB4
