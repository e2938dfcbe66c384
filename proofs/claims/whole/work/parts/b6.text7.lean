/-! ===== texts of THE STATION: the class reads (3) ===== -/
theorem slN_none {b : Nat → Nat} {p k : Nat} (h : slN b p k = none) : ∀ j, slN b p (k + j) = none
  | 0 => h
  | j + 1 => by
    have := slN_none h j
    show (match slN b p (k + j) with
      | none => none
      | some x => _) = none
    rw [this]
theorem slN_pos {b : Nat → Nat} {p k : Nat} {x : Int32} (h : slN b p (k + 1) = some x) : ¬ x = Int32.ofNat 0 := by
  unfold slN at h
  cases hs : slN b p k with
  | none => rw [hs] at h; cases h
  | some y =>
    rw [hs] at h
    simp only at h
    split at h
    · next hc =>
      cases h
      intro e
      have h1 : bt (y ||| jshl (Int32.ofNat 1) (Int32.ofNat (b (p + k) - 97))) (b (p + k) - 97) = true := by rw [b_or, jshl_1 (by omega) (by omega)]; simp
      rw [e, b_00] at h1
      cases h1
    · cases h
section CB6
variable {nx : Nat} {xs : Nat → Int32} {d c s : Nat} {sh : List sC} {D : sD} {Q : av_Q}
variable {b : Nat → Nat} {n p a nl : Nat} {S : sT} {V : sD} {nt ng nr : Nat}
theorem k60 (hw : WT sh) (HS : SP sh) (H : St sh a) (ha : 20 ≤ a) (tb : TB b n) (sc : SC a b n S nl D p) (hp : p ≤ n)
    (kf : ∀ f D', shL b n S p = .inl f → FS a D D' → D' 1 2 = Int32.ofNat f → Q (.inl (some (.int (Int32.ofNat 0)))) (mk sh D') c s)
    (ky : ∀ S' p' D', shL b n S p = .inr (S', p') → FS a D D' → SC a b n S' nl D' p' → p' ≤ n → Q (.inl (some (.int (Int32.ofNat 1)))) (mk sh D') c s) :
    Wx (tP nx xs) (d + 2) 60 0 [some (.ref 1), some (.ref a), none] [] (mk sh D) c s Q := by
  have n10 : ¬ (Int32.ofNat 1 : Int32) = Int32.ofNat 0 := by decide
  have I := sc.2.2
  have hng := i_ng6 I
  have eng : ∀ {D1 : sD}, Vw D1 a S.1 → D1 a 1 = Int32.ofNat S.2.2.1 := fun {D1} h => by rw [v_0 h]; exact i_ng I
  have emo : Int32.ofNat S.2.2.1 - Int32.ofNat 1 = mo S.2.2.1 := rfl
  unfold shL at kf ky
  simp only [b60_0 hw, pR_bytes HS, pI_length HS, pF_length HS, pI_place HS, pF_place HS, pI_number HS, pF_number HS, pI_textLength HS, pF_textLength HS, pI_begin HS, pF_begin HS, pO HS, pA_2 HS, pW_2 HS, sR_things H, sI_goers H, sF_goers H, sR_wish H, sR_deed H, sI_makers H, sF_makers H, sR_born H, sR_money H, sR_nerve H, sR_shuns H, sR_by H, sI_trains H, sF_trains H, sR_halts H, sR_seats H, sI_texts H, sF_texts H, sI_law H, sF_law H, sI_day H, sF_day H, sI_seed H, sF_seed H, sR_log H, sO_state H, sI_count H, sF_count H, sI_first H, sF_first H, sR_at H, sR_worth H, sR_makes H, sR_hinders H, sO_things H, sI_rows H, sF_rows H, sR_entries H, sO_log H, sA_2 H, sW_2 H, sA_3 H, sW_3 H, sA_4 H, sW_4 H, sA_5 H, sW_5 H, sA_6 H, sW_6 H, sA_7 H, sW_7 H, sA_8 H, sW_8 H, sA_9 H, sW_9 H, sA_10 H, sW_10 H, sA_11 H, sW_11 H, sA_12 H, sW_12 H, sA_13 H, sW_13 H, sA_14 H, sW_14 H, sA_16 H, sW_16 H, wi_some, or_0, or_1, bo_or, ite_boP, true_and, and_true, kN_v, kN_n, kT_v, kT_n, kT_e, Nat.add_zero, Nat.zero_add, eng sc.2.1, emo]
  refine k73 hw HS tb sc.1 hp (by decide) (by omega) ?_ ?_
  · intro g p1 D1 hN f1 t1 e3 e5
    obtain ⟨_, w4, _, _, w5, _⟩ := num_some hN hp
    have sc1 := sc.f1 ha f1 t1
    simp only [hN] at kf ky
    simp only [wi_some, or_0, or_1, bo_or, ite_boP, true_and, and_true, kN_v, kN_n, kT_v, kT_n, kT_e, Nat.add_zero, Nat.zero_add, b60_11 hw, n10, if_false, pR_bytes HS, pI_length HS, pF_length HS, pI_place HS, pF_place HS, pI_number HS, pF_number HS, pI_textLength HS, pF_textLength HS, pI_begin HS, pF_begin HS, pO HS, pA_2 HS, pW_2 HS, sR_things H, sI_goers H, sF_goers H, sR_wish H, sR_deed H, sI_makers H, sF_makers H, sR_born H, sR_money H, sR_nerve H, sR_shuns H, sR_by H, sI_trains H, sF_trains H, sR_halts H, sR_seats H, sI_texts H, sF_texts H, sI_law H, sF_law H, sI_day H, sF_day H, sI_seed H, sF_seed H, sR_log H, sO_state H, sI_count H, sF_count H, sI_first H, sF_first H, sR_at H, sR_worth H, sR_makes H, sR_hinders H, sO_things H, sI_rows H, sF_rows H, sR_entries H, sO_log H, sA_2 H, sW_2 H, sA_3 H, sW_3 H, sA_4 H, sW_4 H, sA_5 H, sW_5 H, sA_6 H, sW_6 H, sA_7 H, sW_7 H, sA_8 H, sW_8 H, sA_9 H, sW_9 H, sA_10 H, sW_10 H, sA_11 H, sW_11 H, sA_12 H, sW_12 H, sA_13 H, sW_13 H, sA_14 H, sW_14 H, sA_16 H, sW_16 H, e3, eng sc1.2.1, emo]
    refine k73 hw HS tb t1 w4 (by decide) (by omega) ?_ ?_
    · intro o p2 D2 hN2 f2 t2 e23 e25
      obtain ⟨_, w6, _, _, w7, _⟩ := num_some hN2 w4
      have sc2 := sc1.f1 ha f2 t2
      have hV2 := sc2.2.1
      simp only [hN2] at kf ky
      simp only [wi_some, or_0, or_1, bo_or, ite_boP, true_and, and_true, kN_v, kN_n, kT_v, kT_n, kT_e, Nat.add_zero, Nat.zero_add, b60_32 hw, n10, if_false, pR_bytes HS, pI_length HS, pF_length HS, pI_place HS, pF_place HS, pI_number HS, pF_number HS, pI_textLength HS, pF_textLength HS, pI_begin HS, pF_begin HS, pO HS, pA_2 HS, pW_2 HS, sR_things H, sI_goers H, sF_goers H, sR_wish H, sR_deed H, sI_makers H, sF_makers H, sR_born H, sR_money H, sR_nerve H, sR_shuns H, sR_by H, sI_trains H, sF_trains H, sR_halts H, sR_seats H, sI_texts H, sF_texts H, sI_law H, sF_law H, sI_day H, sF_day H, sI_seed H, sF_seed H, sR_log H, sO_state H, sI_count H, sF_count H, sI_first H, sF_first H, sR_at H, sR_worth H, sR_makes H, sR_hinders H, sO_things H, sI_rows H, sF_rows H, sR_entries H, sO_log H, sA_2 H, sW_2 H, sA_3 H, sW_3 H, sA_4 H, sW_4 H, sA_5 H, sW_5 H, sA_6 H, sW_6 H, sA_7 H, sW_7 H, sA_8 H, sW_8 H, sA_9 H, sW_9 H, sA_10 H, sW_10 H, sA_11 H, sW_11 H, sA_12 H, sW_12 H, sA_13 H, sW_13 H, sA_14 H, sW_14 H, sA_16 H, sW_16 H, e23, oN_eq (show o < 2147483648 by omega) (show g < 2147483648 by omega)]
      by_cases he : o = g
      · simp only [he, if_true] at kf ⊢
        simp only [pR_bytes HS, pI_length HS, pF_length HS, pI_place HS, pF_place HS, pI_number HS, pF_number HS, pI_textLength HS, pF_textLength HS, pI_begin HS, pF_begin HS, pO HS, pA_2 HS, pW_2 HS, wi_some, or_0, or_1, bo_or, ite_boP, true_and, and_true, kN_v, kN_n, kT_v, kT_n, kT_e, Nat.add_zero, Nat.zero_add, k68 hw HS, b60_49 hw, e25]
        exact kf _ _ rfl ((f1.tr f2).tr F1.rfs).fs (by rw [u2_at, if_pos ⟨rfl, rfl⟩])
      · simp only [he, if_false] at ky ⊢
        have k := k35 (nx := nx) (xs := xs) (d := d + 1) (c := 0) (s := 0) (Q := kN (tP nx xs) (d + 1 + 1) 60 60 [some (.ref 1), some (.ref a), (some (.int (Int32.ofNat g)))] [] c s Q) (m := true) hw H hV2 (show g < 6 by omega) (show o < 6 by omega) (fun e => he e.symm)
        refine Eq.mpr k ?_
        simp only [wi_some, or_0, or_1, bo_or, ite_boP, true_and, and_true, kN_v, kN_n, kT_v, kT_n, kT_e, Nat.add_zero, Nat.zero_add, b60_60 hw]
        have f3 : Fr a D2 (u2 (u2 D2 (a + 11) g (mkX (S.1 11 g) o true)) (a + 11) o (mkX (S.1 11 o) g true)) := Fr.st (k := 11) (by decide) (Fr.st (k := 11) (by decide) Fr.rf)
        exact ky _ p2 _ rfl ((f1.tr f2).fs.tr f3.fs) ⟨t2.fr ha f3, (hV2.st (k := 11) (i := g) (by decide) (mkX (S.1 11 g) o true)).st (k := 11) (i := o) (by decide) (mkX (S.1 11 o) g true), Iv_shuns (Iv_shuns I)⟩ w6
    · intro hN2
      simp only [hN2] at kf
      simp only [wi_some, or_0, or_1, bo_or, ite_boP, true_and, and_true, kN_v, kN_n, kT_v, kT_n, kT_e, Nat.add_zero, Nat.zero_add, b60_32 hw, if_true]
      exact kf _ D1 rfl f1.fs t1.1
  · intro hN
    simp only [hN] at kf
    simp only [wi_some, or_0, or_1, bo_or, ite_boP, true_and, and_true, kN_v, kN_n, kT_v, kT_n, kT_e, Nat.add_zero, Nat.zero_add, b60_11 hw, if_true]
    exact kf _ D rfl FS.rf sc.1.1
theorem k62 (hw : WT sh) (HS : SP sh) (H : St sh a) (ha : 20 ≤ a) (tb : TB b n) (sc : SC a b n S nl D p) (hp : p ≤ n)
    (kf : ∀ f D', dyL b n S p = .inl f → FS a D D' → D' 1 2 = Int32.ofNat f → Q (.inl (some (.int (Int32.ofNat 0)))) (mk sh D') c s)
    (ky : ∀ S' p' D', dyL b n S p = .inr (S', p') → FS a D D' → SC a b n S' nl D' p' → p' ≤ n → Q (.inl (some (.int (Int32.ofNat 1)))) (mk sh D') c s) :
    Wx (tP nx xs) (d + 2) 62 0 [some (.ref 1), some (.ref a)] [] (mk sh D) c s Q := by
  have n10 : ¬ (Int32.ofNat 1 : Int32) = Int32.ofNat 0 := by decide
  have I := sc.2.2
  unfold dyL at kf ky
  simp only [b62_0 hw, pR_bytes HS, pI_length HS, pF_length HS, pI_place HS, pF_place HS, pI_number HS, pF_number HS, pI_textLength HS, pF_textLength HS, pI_begin HS, pF_begin HS, pO HS, pA_2 HS, pW_2 HS, wi_some, or_0, or_1, bo_or, ite_boP, true_and, and_true, kN_v, kN_n, kT_v, kT_n, kT_e, Nat.add_zero, Nat.zero_add]
  refine k73c hw HS tb sc.1 hp (by decide) (by decide) ?_ ?_
  · intro v p1 D1 hN f1 t1 e3 e5
    obtain ⟨_, w4, _, _, w5, _⟩ := num_some hN hp
    have sc1 := sc.f1 ha f1 t1
    simp only [hN] at ky
    simp only [wi_some, or_0, or_1, bo_or, ite_boP, true_and, and_true, kN_v, kN_n, kT_v, kT_n, kT_e, Nat.add_zero, Nat.zero_add, b62_8 hw, n10, if_false, pR_bytes HS, pI_length HS, pF_length HS, pI_place HS, pF_place HS, pI_number HS, pF_number HS, pI_textLength HS, pF_textLength HS, pI_begin HS, pF_begin HS, pO HS, pA_2 HS, pW_2 HS, sR_things H, sI_goers H, sF_goers H, sR_wish H, sR_deed H, sI_makers H, sF_makers H, sR_born H, sR_money H, sR_nerve H, sR_shuns H, sR_by H, sI_trains H, sF_trains H, sR_halts H, sR_seats H, sI_texts H, sF_texts H, sI_law H, sF_law H, sI_day H, sF_day H, sI_seed H, sF_seed H, sR_log H, sO_state H, sI_count H, sF_count H, sI_first H, sF_first H, sR_at H, sR_worth H, sR_makes H, sR_hinders H, sO_things H, sI_rows H, sF_rows H, sR_entries H, sO_log H, sA_2 H, sW_2 H, sA_3 H, sW_3 H, sA_4 H, sW_4 H, sA_5 H, sW_5 H, sA_6 H, sW_6 H, sA_7 H, sW_7 H, sA_8 H, sW_8 H, sA_9 H, sW_9 H, sA_10 H, sW_10 H, sA_11 H, sW_11 H, sA_12 H, sW_12 H, sA_13 H, sW_13 H, sA_14 H, sW_14 H, sA_16 H, sW_16 H, e3, b62_21 hw]
    have f3 : Fr a D1 (u2 D1 a 15 (Int32.ofNat v)) := Fr.st0 Fr.rf
    exact ky _ p1 _ rfl (f1.fs.tr f3.fs) ⟨t1.fr ha f3, sc1.2.1.st0 (i := 15) (Int32.ofNat v), Iv_0 I (by decide) (by decide) (by decide)⟩ w4
  · intro hN
    simp only [hN] at kf
    simp only [wi_some, or_0, or_1, bo_or, ite_boP, true_and, and_true, kN_v, kN_n, kT_v, kT_n, kT_e, Nat.add_zero, Nat.zero_add, b62_8 hw, if_true]
    exact kf _ D rfl FS.rf sc.1.1
theorem k74 (hw : WT sh) (HS : SP sh) (tb : TB b n) (tc : TpC b n D p) (hp : p ≤ n) (hs : sk b n p = p)
    (kk : ∀ D', F1 D D' → TpC b n D' (if stL b n p = Int32.ofNat 0 then p else sk b n (le b n p)) → D' 1 3 = D 1 3 → Q (.inl (some (.int (stL b n p)))) (mk sh D') c s) :
    Wx (tP nx xs) (d + 1) 74 0 [some (.ref 1), none, none, none] [] (mk sh D) c s Q := by
  have hn := tb.1
  have l1 : p ≤ le b n p := ru_ge
  have l2 : le b n p ≤ n := ru_le hp
  have lin : ∀ k, k < le b n p - p → p + k < n ∧ 97 ≤ b (p + k) ∧ b (p + k) ≤ 122 := fun k hk => isB_iff.mp (ru_in (b := b) (n := n) (lo := 97) (hi := 122) (p := p) (i := p + k) (by omega) (by show _ < le b n p; omega))
  have lend : isB b n 97 122 (le b n p) = false := ru_no
  have eL : ∃ L, le b n p = p + L := ⟨le b n p - p, by omega⟩
  obtain ⟨L, eL⟩ := eL
  have eL' : le b n p - p = L := by omega
  have e0 : L = 0 → stL b n p = Int32.ofNat 0 := fun h => by unfold stL; rw [eL', h]; rfl
  unfold stL at kk e0
  rw [eL'] at kk e0
  rw [eL] at kk l2 lend
  rw [eL'] at lin
  simp only [b74_0 hw, pR_bytes HS, pI_length HS, pF_length HS, pI_place HS, pF_place HS, pI_number HS, pF_number HS, pI_textLength HS, pF_textLength HS, pI_begin HS, pF_begin HS, pO HS, pA_2 HS, pW_2 HS, wi_some, or_0, or_1, bo_or, ite_boP, true_and, and_true, kN_v, kN_n, kT_v, kT_n, kT_e, Nat.add_zero, Nat.zero_add, tc.1]
  have lp : ∀ r k x (l3 : Option Value), k + r = L → slN b p k = some x → Wx (tP nx xs) (d + 1) 74 7 [some (.ref 1), (some (.int (x))), (some (.int (Int32.ofNat (p + k)))), l3] [] (mk sh D) c s Q := by
    intro r
    induction r with
    | zero =>
      intro k x l3 hk hx
      have ek : k = L := by omega
      subst ek
      have f75 : Wx (tP nx xs) (d + 1) 74 75 [some (.ref 1), (some (.int (x))), (some (.int (Int32.ofNat (p + k)))), l3] [] (mk sh D) c s Q := by
        simp only [b74_75 hw, pR_bytes HS, pI_length HS, pF_length HS, pI_place HS, pF_place HS, pI_number HS, pF_number HS, pI_textLength HS, pF_textLength HS, pI_begin HS, pF_begin HS, pO HS, pA_2 HS, pW_2 HS, wi_some, or_0, or_1, bo_or, ite_boP, true_and, and_true, kN_v, kN_n, kT_v, kT_n, kT_e, Nat.add_zero, Nat.zero_add]
        refine k67t hw HS tb tc l2 ?_
        intro D' f t e3 e5
        simp only [wi_some, or_0, or_1, bo_or, ite_boP, true_and, and_true, kN_v, kN_n, kT_v, kT_n, kT_e, Nat.add_zero, Nat.zero_add, b74_80 hw]
        rw [hx] at kk e0
        simp only [Option.getD_some] at kk e0
        refine kk D' f ?_ e3
        by_cases hx0 : x = Int32.ofNat 0
        · rw [if_pos hx0]
          cases k with
          | zero => rw [Nat.add_zero, hs] at t; exact t
          | succ k => exact absurd hx0 (slN_pos hx)
        · rw [if_neg hx0]; exact t
      rw [b74_7 hw]
      simp only [pR_bytes HS, pI_length HS, pF_length HS, pI_place HS, pF_place HS, pI_number HS, pF_number HS, pI_textLength HS, pF_textLength HS, pI_begin HS, pF_begin HS, pO HS, pA_2 HS, pW_2 HS, wi_some, or_0, or_1, bo_or, ite_boP, true_and, and_true, kN_v, kN_n, kT_v, kT_n, kT_e, Nat.add_zero, Nat.zero_add, tc.2.1, oN_lt (show p + k < 2147483648 by omega) (show n < 2147483648 by omega)]
      by_cases h1 : p + k < n
      · have hb := tb.2 _ h1
        have hp4 : p + k < 400 := by omega
        simp only [h1, if_true, pR_bytes HS, pI_length HS, pF_length HS, pI_place HS, pF_place HS, pI_number HS, pF_number HS, pI_textLength HS, pF_textLength HS, pI_begin HS, pF_begin HS, pO HS, pA_2 HS, pW_2 HS, wi_some, or_0, or_1, bo_or, ite_boP, true_and, and_true, kN_v, kN_n, kT_v, kT_n, kT_e, Nat.add_zero, Nat.zero_add, hp4, tc.2.2 _ h1, oN_lt (show b (p + k) < 2147483648 by omega) (show 97 < 2147483648 by omega), oN_lt (show 122 < 2147483648 by omega) (show b (p + k) < 2147483648 by omega)]
        by_cases h3 : b (p + k) < 97
        · simp only [h3, if_true]; exact f75
        · by_cases h4 : 122 < b (p + k)
          · simp only [h3, h4, if_true, if_false]; exact f75
          · have := (isB_iff (b := b) (n := n) (lo := 97) (hi := 122) (p := p + k)).mpr ⟨h1, by omega, by omega⟩
            rw [lend] at this
            cases this
      · simp only [h1, if_false]; exact f75
    | succ r ih =>
      intro k x l3 hk hx
      obtain ⟨d1, d2, d3⟩ := lin k (by omega)
      have hp4 : p + k < 400 := by omega
      have es : slN b p (k + 1) = if b (p + k) - 97 < 16 ∧ bt x (b (p + k) - 97) = false then some (x ||| jshl (Int32.ofNat 1) (Int32.ofNat (b (p + k) - 97))) else none := by
        show (match slN b p k with
          | none => none
          | some x => _) = _
        rw [hx]
      have bad : slN b p (k + 1) = none → Wx (tP nx xs) (d + 1) 74 61 [some (.ref 1), (some (.int (x))), (some (.int (Int32.ofNat (p + k)))), (some (.int (Int32.ofNat (b (p + k) - 97))))] [] (mk sh D) c s Q := by
        intro h
        have hL := slN_none h r
        rw [show k + 1 + r = L by omega] at hL
        rw [hL] at kk
        simp only [Option.getD_none, if_true] at kk
        simp only [b74_61 hw]
        exact kk D F1.rf tc rfl
      rw [b74_7 hw]
      simp only [pR_bytes HS, pI_length HS, pF_length HS, pI_place HS, pF_place HS, pI_number HS, pF_number HS, pI_textLength HS, pF_textLength HS, pI_begin HS, pF_begin HS, pO HS, pA_2 HS, pW_2 HS, wi_some, or_0, or_1, bo_or, ite_boP, true_and, and_true, kN_v, kN_n, kT_v, kT_n, kT_e, Nat.add_zero, Nat.zero_add, tc.2.1, oN_lt (show p + k < 2147483648 by omega) (show n < 2147483648 by omega), d1, if_true, hp4, tc.2.2 _ d1, oN_lt (show b (p + k) < 2147483648 by omega) (show 97 < 2147483648 by omega), show ¬ b (p + k) < 97 by omega, if_false, oN_lt (show 122 < 2147483648 by omega) (show b (p + k) < 2147483648 by omega), show ¬ 122 < b (p + k) by omega, oN_sub (show 97 ≤ b (p + k) by omega), oN_lt (show b (p + k) - 97 < 2147483648 by omega) (show 16 < 2147483648 by omega), jshr_b (show b (p + k) - 97 < 32 by omega), ite_boP, oN_add]
      by_cases h16 : b (p + k) - 97 < 16
      · simp only [h16, if_true, true_and] at es ⊢
        cases hbt : bt x (b (p + k) - 97) with
        | false =>
          simp only [hbt, if_true, Bool.false_eq_true, if_false] at es ⊢
          exact ih (k + 1) _ _ (by omega) es
        | true =>
          simp only [hbt, Bool.true_eq_false, if_false, if_true] at es ⊢
          exact bad es
      · simp only [h16, if_false, false_and] at es ⊢
        exact bad es
  exact lp L 0 (Int32.ofNat 0) none (by omega) rfl
theorem k33 {se : Nat} {x : Int32} (hw : WT sh) (H : St sh a) (hV : Vw D a V) (hc : V 0 10 = Int32.ofNat nr) (h5 : nr < 5) (kk : ∀ D', Fr a D D' → Vw D' a (taV V nr se x) → Q (.inl none) (mk sh D') c s) : Wx (tP nx xs) d 33 0 [some (.ref a), (some (.int (Int32.ofNat se))), (some (.int (x)))] [] (mk sh D) c s Q := by
  have tn := oN_tn (show nr < 2147483648 by omega)
  have c0 : D a 10 = Int32.ofNat nr := by rw [v_0 hV]; exact hc
  have hV1 := hV.st (k := 14) (i := nr) (by decide) (Int32.ofNat se)
  have f1 : Fr a D (u2 D (a + 14) nr (Int32.ofNat se)) := Fr.st (k := 14) (by decide) Fr.rf
  have c1 : u2 D (a + 14) nr (Int32.ofNat se) a 10 = Int32.ofNat nr := by rw [u2_at, if_neg (by omega)]; exact c0
  have hV2 := hV1.st (k := 13) (i := nr) (by decide) x
  have f2 := Fr.st (k := 13) (i := nr) (v := x) (by decide) f1
  have c2 : u2 (u2 D (a + 14) nr (Int32.ofNat se)) (a + 13) nr x a 10 = Int32.ofNat nr := by rw [u2_at, if_neg (by omega)]; exact c1
  rw [b33_0 hw]
  simp only [sR_things H, sI_goers H, sF_goers H, sR_wish H, sR_deed H, sI_makers H, sF_makers H, sR_born H, sR_money H, sR_nerve H, sR_shuns H, sR_by H, sI_trains H, sF_trains H, sR_halts H, sR_seats H, sI_texts H, sF_texts H, sI_law H, sF_law H, sI_day H, sF_day H, sI_seed H, sF_seed H, sR_log H, sO_state H, sI_count H, sF_count H, sI_first H, sF_first H, sR_at H, sR_worth H, sR_makes H, sR_hinders H, sO_things H, sI_rows H, sF_rows H, sR_entries H, sO_log H, sA_2 H, sW_2 H, sA_3 H, sW_3 H, sA_4 H, sW_4 H, sA_5 H, sW_5 H, sA_6 H, sW_6 H, sA_7 H, sW_7 H, sA_8 H, sW_8 H, sA_9 H, sW_9 H, sA_10 H, sW_10 H, sA_11 H, sW_11 H, sA_12 H, sW_12 H, sA_13 H, sW_13 H, sA_14 H, sW_14 H, sA_16 H, sW_16 H, wi_some, or_0, or_1, bo_or, ite_boP, true_and, and_true, kN_v, kN_n, kT_v, kT_n, kT_e, Nat.add_zero, Nat.zero_add, c0, oN_lt (show nr < 2147483648 by omega) (show 5 < 2147483648 by omega), h5, if_true, tn]
  rw [b33_18 hw]
  simp only [sR_things H, sI_goers H, sF_goers H, sR_wish H, sR_deed H, sI_makers H, sF_makers H, sR_born H, sR_money H, sR_nerve H, sR_shuns H, sR_by H, sI_trains H, sF_trains H, sR_halts H, sR_seats H, sI_texts H, sF_texts H, sI_law H, sF_law H, sI_day H, sF_day H, sI_seed H, sF_seed H, sR_log H, sO_state H, sI_count H, sF_count H, sI_first H, sF_first H, sR_at H, sR_worth H, sR_makes H, sR_hinders H, sO_things H, sI_rows H, sF_rows H, sR_entries H, sO_log H, sA_2 H, sW_2 H, sA_3 H, sW_3 H, sA_4 H, sW_4 H, sA_5 H, sW_5 H, sA_6 H, sW_6 H, sA_7 H, sW_7 H, sA_8 H, sW_8 H, sA_9 H, sW_9 H, sA_10 H, sW_10 H, sA_11 H, sW_11 H, sA_12 H, sW_12 H, sA_13 H, sW_13 H, sA_14 H, sW_14 H, sA_16 H, sW_16 H, wi_some, or_0, or_1, bo_or, ite_boP, true_and, and_true, kN_v, kN_n, kT_v, kT_n, kT_e, Nat.add_zero, Nat.zero_add, c1, h5, tn]
  rw [b33_28 hw]
  simp only [sR_things H, sI_goers H, sF_goers H, sR_wish H, sR_deed H, sI_makers H, sF_makers H, sR_born H, sR_money H, sR_nerve H, sR_shuns H, sR_by H, sI_trains H, sF_trains H, sR_halts H, sR_seats H, sI_texts H, sF_texts H, sI_law H, sF_law H, sI_day H, sF_day H, sI_seed H, sF_seed H, sR_log H, sO_state H, sI_count H, sF_count H, sI_first H, sF_first H, sR_at H, sR_worth H, sR_makes H, sR_hinders H, sO_things H, sI_rows H, sF_rows H, sR_entries H, sO_log H, sA_2 H, sW_2 H, sA_3 H, sW_3 H, sA_4 H, sW_4 H, sA_5 H, sW_5 H, sA_6 H, sW_6 H, sA_7 H, sW_7 H, sA_8 H, sW_8 H, sA_9 H, sW_9 H, sA_10 H, sW_10 H, sA_11 H, sW_11 H, sA_12 H, sW_12 H, sA_13 H, sW_13 H, sA_14 H, sW_14 H, sA_16 H, sW_16 H, wi_some, or_0, or_1, bo_or, ite_boP, true_and, and_true, kN_v, kN_n, kT_v, kT_n, kT_e, Nat.add_zero, Nat.zero_add, c2, oN_add, b33_38 hw]
  exact kk _ (Fr.st0 f2) (hV2.st0 (i := 10) (Int32.ofNat (nr + 1)))
theorem k61 (hw : WT sh) (HS : SP sh) (H : St sh a) (ha : 20 ≤ a) (tb : TB b n) (sc : SC a b n S nl D p) (hp : p ≤ n) (h5 : S.2.2.2 < 5)
    (kf : ∀ f D', trL b n S p = .inl f → FS a D D' → D' 1 2 = Int32.ofNat f → Q (.inl (some (.int (Int32.ofNat 0)))) (mk sh D') c s)
    (ky : ∀ S' p' D', trL b n S p = .inr (S', p') → FS a D D' → SC a b n S' nl D' p' → p' ≤ n → Q (.inl (some (.int (Int32.ofNat 1)))) (mk sh D') c s) :
    Wx (tP nx xs) (d + 2) 61 0 [some (.ref 1), some (.ref a), none, none] [] (mk sh D) c s Q := by
  have n10 : ¬ (Int32.ofNat 1 : Int32) = Int32.ofNat 0 := by decide
  have I := sc.2.2
  unfold trL bhd at kf ky
  simp only [b61_0 hw, pR_bytes HS, pI_length HS, pF_length HS, pI_place HS, pF_place HS, pI_number HS, pF_number HS, pI_textLength HS, pF_textLength HS, pI_begin HS, pF_begin HS, pO HS, pA_2 HS, pW_2 HS, wi_some, or_0, or_1, bo_or, ite_boP, true_and, and_true, kN_v, kN_n, kT_v, kT_n, kT_e, Nat.add_zero, Nat.zero_add]
  refine k70 (i := 10) (w := wSeats) hw HS tb sc.1 hp (by decide) (by decide +kernel) (by decide +kernel) ?_ ?_
  rotate_left
  · intro hW
    simp only [hW] at kf
    simp only [wi_some, or_0, or_1, bo_or, ite_boP, true_and, and_true, kN_v, kN_n, kT_v, kT_n, kT_e, Nat.add_zero, Nat.zero_add, b61_6 hw, if_true, b61_28 hw]
    exact kf _ D rfl FS.rf sc.1.1
  intro p1 D1 hW f1 t1 e3 e5
  obtain ⟨_, _, _, w4, _⟩ := wrd_some hW hp
  simp only [hW] at kf ky
  simp only [wi_some, or_0, or_1, bo_or, ite_boP, true_and, and_true, kN_v, kN_n, kT_v, kT_n, kT_e, Nat.add_zero, Nat.zero_add, b61_6 hw, n10, if_false, pR_bytes HS, pI_length HS, pF_length HS, pI_place HS, pF_place HS, pI_number HS, pF_number HS, pI_textLength HS, pF_textLength HS, pI_begin HS, pF_begin HS, pO HS, pA_2 HS, pW_2 HS]
  refine k73c hw HS tb t1 w4 (by decide) (by decide) ?_ ?_
  rotate_left
  · intro hN
    simp only [hN] at kf
    simp only [wi_some, or_0, or_1, bo_or, ite_boP, true_and, and_true, kN_v, kN_n, kT_v, kT_n, kT_e, Nat.add_zero, Nat.zero_add, b61_16 hw, if_true, b61_28 hw]
    exact kf _ D1 rfl f1.fs t1.1
  intro se p2 D2 hN f2 t2 e23 e25
  obtain ⟨_, w6, _, _, _, _⟩ := num_some hN w4
  simp only [hN] at kf ky
  simp only [wi_some, or_0, or_1, bo_or, ite_boP, true_and, and_true, kN_v, kN_n, kT_v, kT_n, kT_e, Nat.add_zero, Nat.zero_add, b61_16 hw, n10, if_false, pR_bytes HS, pI_length HS, pF_length HS, pI_place HS, pF_place HS, pI_number HS, pF_number HS, pI_textLength HS, pF_textLength HS, pI_begin HS, pF_begin HS, pO HS, pA_2 HS, pW_2 HS]
  refine k70 (i := 11) (w := wStops) hw HS tb t2 w6 (by decide) (by decide +kernel) (by decide +kernel) ?_ ?_
  rotate_left
  · intro hW2
    simp only [hW2] at kf
    simp only [wi_some, or_0, or_1, bo_or, ite_boP, true_and, and_true, kN_v, kN_n, kT_v, kT_n, kT_e, Nat.add_zero, Nat.zero_add, b61_25 hw, if_true, b61_28 hw]
    exact kf _ D2 rfl (f1.tr f2).fs t2.1
  intro p3 D3 hW2 f3 t3 e33 e35
  obtain ⟨_, _, _, w8, w9⟩ := wrd_some hW2 w6
  have e33' : D3 1 3 = Int32.ofNat se := by rw [e33]; exact e23
  simp only [hW2] at kf ky
  simp only [wi_some, or_0, or_1, bo_or, ite_boP, true_and, and_true, kN_v, kN_n, kT_v, kT_n, kT_e, Nat.add_zero, Nat.zero_add, b61_25 hw, n10, if_false, pR_bytes HS, pI_length HS, pF_length HS, pI_place HS, pF_place HS, pI_number HS, pF_number HS, pI_textLength HS, pF_textLength HS, pI_begin HS, pF_begin HS, pO HS, pA_2 HS, pW_2 HS, e33']
  refine k74 hw HS tb t3 w8 w9 ?_
  intro D4 f4 t4 e4
  have f14 := (((f1.tr f2).tr f3).tr f4)
  simp only [wi_some, or_0, or_1, bo_or, ite_boP, true_and, and_true, kN_v, kN_n, kT_v, kT_n, kT_e, Nat.add_zero, Nat.zero_add, b61_39 hw]
  by_cases hx : stL b n p3 = Int32.ofNat 0
  · simp only [hx, if_true] at kf t4 ⊢
    exact kf _ D4 rfl f14.fs t4.1
  · simp only [hx, if_false] at ky t4 ⊢
    have hV4 := sc.2.1.f1 f14 ha
    simp only [sR_things H, sI_goers H, sF_goers H, sR_wish H, sR_deed H, sI_makers H, sF_makers H, sR_born H, sR_money H, sR_nerve H, sR_shuns H, sR_by H, sI_trains H, sF_trains H, sR_halts H, sR_seats H, sI_texts H, sF_texts H, sI_law H, sF_law H, sI_day H, sF_day H, sI_seed H, sF_seed H, sR_log H, sO_state H, sI_count H, sF_count H, sI_first H, sF_first H, sR_at H, sR_worth H, sR_makes H, sR_hinders H, sO_things H, sI_rows H, sF_rows H, sR_entries H, sO_log H, sA_2 H, sW_2 H, sA_3 H, sW_3 H, sA_4 H, sW_4 H, sA_5 H, sW_5 H, sA_6 H, sW_6 H, sA_7 H, sW_7 H, sA_8 H, sW_8 H, sA_9 H, sW_9 H, sA_10 H, sW_10 H, sA_11 H, sW_11 H, sA_12 H, sW_12 H, sA_13 H, sW_13 H, sA_14 H, sW_14 H, sA_16 H, sW_16 H, wi_some, or_0, or_1, bo_or, ite_boP, true_and, and_true, kN_v, kN_n, kT_v, kT_n, kT_e, Nat.add_zero, Nat.zero_add]
    refine k33 hw H hV4 (i_nr I) h5 ?_
    intro D5 f5 v5
    simp only [wi_some, or_0, or_1, bo_or, ite_boP, true_and, and_true, kN_v, kN_n, kT_v, kT_n, kT_e, Nat.add_zero, Nat.zero_add, b61_52 hw]
    exact ky _ _ D5 rfl (f14.fs.tr f5.fs) ⟨t4.fr ha f5, v5, Iv_tr I h5⟩ (sk_le (ru_le w8))
/-! a line, a text -/
theorem k54 (hw : WT sh) (HS : SP sh) (H : St sh a) (ha : 20 ≤ a) (tb : TB b n) (sc : SC a b n S nl D p) (hp : p ≤ n)
    (kf : ∀ f D', lnL b n S p = .inl f → FS a D D' → D' 1 2 = Int32.ofNat f → Q (.inl (some (.int (Int32.ofNat 0)))) (mk sh D') c s)
    (ky : ∀ S' p' D', lnL b n S p = .inr (S', p') → FS a D D' → SC a b n S' nl D' p' → p' ≤ n → Q (.inl (some (.int (Int32.ofNat 1)))) (mk sh D') c s) :
    Wx (tP nx xs) (d + 4) 54 0 [some (.ref 1), some (.ref a)] [] (mk sh D) c s Q := by
  have n10 : ¬ (Int32.ofNat 1 : Int32) = Int32.ofNat 0 := by decide
  have I := sc.2.2
  have hnt := i_nt8 I
  have hng := i_ng6 I
  have hnr := i_nr5 I
  unfold lnL at kf ky
  simp only [b54_0 hw, pR_bytes HS, pI_length HS, pF_length HS, pI_place HS, pF_place HS, pI_number HS, pF_number HS, pI_textLength HS, pF_textLength HS, pI_begin HS, pF_begin HS, pO HS, pA_2 HS, pW_2 HS, wi_some, or_0, or_1, bo_or, ite_boP, true_and, and_true, kN_v, kN_n, kT_v, kT_n, kT_e, Nat.add_zero, Nat.zero_add, b71_0 hw]
  refine k71 (i := 0) hw HS tb sc.1 hp (by decide) (by decide +kernel) stWs 0 0 (by decide +kernel) (by decide) ?_ ?_
  rotate_left
  · intro hO
    simp only [hO] at kf
    simp only [wi_some, or_0, or_1, bo_or, ite_boP, true_and, and_true, kN_v, kN_n, kT_v, kT_n, kT_e, Nat.add_zero, Nat.zero_add]
    rw [b54_6 hw, if_pos (by decide)]
    simp only [b54_151 hw]
    exact kf _ D rfl FS.rf sc.1.1
  intro j p1 D1 hO f1 t1 e3 e5
  obtain ⟨_, j7, _, w4, _⟩ := oneF_some stWs 0 p j p1 hO hp (by decide)
  have j7 : j < 7 := by simpa [stWs] using j7
  have sc1 := sc.f1 ha f1 t1
  have hV1 := sc1.2.1
  have ent : D1 (a + 1) 0 = Int32.ofNat S.2.1 := by rw [v_1 hV1]; exact i_nt I
  have eng : D1 a 1 = Int32.ofNat S.2.2.1 := by rw [v_0 hV1]; exact i_ng I
  have enr : D1 a 10 = Int32.ofNat S.2.2.2 := by rw [v_0 hV1]; exact i_nr I
  have ref : ∀ f D', D' = u2 D1 1 2 (D1 1 5) → f = p → FS a D D' ∧ D' 1 2 = Int32.ofNat f := fun f D' h1 h2 => by
    subst h1 h2
    exact ⟨(f1.tr F1.rfs).fs, by rw [u2_at, if_pos ⟨rfl, rfl⟩, e5]⟩
  simp only [wi_some, or_0, or_1, bo_or, ite_boP, true_and, and_true, kN_v, kN_n, kT_v, kT_n, kT_e, Nat.add_zero, Nat.zero_add]
  rcases show j = 0 ∨ j = 1 ∨ j = 2 ∨ j = 3 ∨ j = 4 ∨ j = 5 ∨ j = 6 by omega with h | h | h | h | h | h | h <;> subst h <;> simp only [hO] at kf ky
  · have sw : Wx (tP nx xs) (d + 4) 54 6 [some (.ref 1), some (.ref a)] [.int (Int32.ofNat 0)] (mk sh D1) c s Q = Wx (tP nx xs) (d + 4) 54 48 [some (.ref 1), some (.ref a)] [] (mk sh D1) c s Q := by rw [b54_6 hw, if_neg (by decide)]; rfl
    rw [sw]
    simp only [b54_48 hw, sR_things H, sI_goers H, sF_goers H, sR_wish H, sR_deed H, sI_makers H, sF_makers H, sR_born H, sR_money H, sR_nerve H, sR_shuns H, sR_by H, sI_trains H, sF_trains H, sR_halts H, sR_seats H, sI_texts H, sF_texts H, sI_law H, sF_law H, sI_day H, sF_day H, sI_seed H, sF_seed H, sR_log H, sO_state H, sI_count H, sF_count H, sI_first H, sF_first H, sR_at H, sR_worth H, sR_makes H, sR_hinders H, sO_things H, sI_rows H, sF_rows H, sR_entries H, sO_log H, sA_2 H, sW_2 H, sA_3 H, sW_3 H, sA_4 H, sW_4 H, sA_5 H, sW_5 H, sA_6 H, sW_6 H, sA_7 H, sW_7 H, sA_8 H, sW_8 H, sA_9 H, sW_9 H, sA_10 H, sW_10 H, sA_11 H, sW_11 H, sA_12 H, sW_12 H, sA_13 H, sW_13 H, sA_14 H, sW_14 H, sA_16 H, sW_16 H, pR_bytes HS, pI_length HS, pF_length HS, pI_place HS, pF_place HS, pI_number HS, pF_number HS, pI_textLength HS, pF_textLength HS, pI_begin HS, pF_begin HS, pO HS, pA_2 HS, pW_2 HS, wi_some, or_0, or_1, bo_or, ite_boP, true_and, and_true, kN_v, kN_n, kT_v, kT_n, kT_e, Nat.add_zero, Nat.zero_add, ent, oN_lt (show S.2.1 < 2147483648 by omega) (show 8 < 2147483648 by omega)]
    by_cases h8 : S.2.1 < 8
    · simp only [h8, if_true] at kf ky ⊢
      refine k55 hw HS H ha tb sc1 w4 h8 ?_ ?_
      · intro f D' h g1 g2
        simp only [wi_some, or_0, or_1, bo_or, ite_boP, true_and, and_true, kN_v, kN_n, kT_v, kT_n, kT_e, Nat.add_zero, Nat.zero_add, b54_68 hw, b54_75 hw]
        exact kf f D' h (f1.fs.tr g1) g2
      · intro S' p' D' h g1 g2 g3
        simp only [wi_some, or_0, or_1, bo_or, ite_boP, true_and, and_true, kN_v, kN_n, kT_v, kT_n, kT_e, Nat.add_zero, Nat.zero_add, b54_68 hw, b54_75 hw]
        exact ky S' p' D' h (f1.fs.tr g1) g2 g3
    · simp only [h8, if_false, k68 hw HS, wi_some, or_0, or_1, bo_or, ite_boP, true_and, and_true, kN_v, kN_n, kT_v, kT_n, kT_e, Nat.add_zero, Nat.zero_add, b54_75 hw] at kf ⊢
      obtain ⟨r1, r2⟩ := ref p _ rfl rfl
      exact kf p _ rfl r1 r2
  · have sw : Wx (tP nx xs) (d + 4) 54 6 [some (.ref 1), some (.ref a)] [.int (Int32.ofNat 1)] (mk sh D1) c s Q = Wx (tP nx xs) (d + 4) 54 76 [some (.ref 1), some (.ref a)] [] (mk sh D1) c s Q := by rw [b54_6 hw, if_neg (by decide)]; rfl
    rw [sw]
    simp only [b54_76 hw, sR_things H, sI_goers H, sF_goers H, sR_wish H, sR_deed H, sI_makers H, sF_makers H, sR_born H, sR_money H, sR_nerve H, sR_shuns H, sR_by H, sI_trains H, sF_trains H, sR_halts H, sR_seats H, sI_texts H, sF_texts H, sI_law H, sF_law H, sI_day H, sF_day H, sI_seed H, sF_seed H, sR_log H, sO_state H, sI_count H, sF_count H, sI_first H, sF_first H, sR_at H, sR_worth H, sR_makes H, sR_hinders H, sO_things H, sI_rows H, sF_rows H, sR_entries H, sO_log H, sA_2 H, sW_2 H, sA_3 H, sW_3 H, sA_4 H, sW_4 H, sA_5 H, sW_5 H, sA_6 H, sW_6 H, sA_7 H, sW_7 H, sA_8 H, sW_8 H, sA_9 H, sW_9 H, sA_10 H, sW_10 H, sA_11 H, sW_11 H, sA_12 H, sW_12 H, sA_13 H, sW_13 H, sA_14 H, sW_14 H, sA_16 H, sW_16 H, wi_some, or_0, or_1, bo_or, ite_boP, true_and, and_true, kN_v, kN_n, kT_v, kT_n, kT_e, Nat.add_zero, Nat.zero_add]
    refine k56 (m := true) hw HS H ha tb sc1 w4 ?_ ?_
    · intro f D' h g1 g2
      simp only [wi_some, or_0, or_1, bo_or, ite_boP, true_and, and_true, kN_v, kN_n, kT_v, kT_n, kT_e, Nat.add_zero, Nat.zero_add, b54_85 hw]
      exact kf f D' h (f1.fs.tr g1) g2
    · intro S' p' D' h g1 g2 g3
      simp only [wi_some, or_0, or_1, bo_or, ite_boP, true_and, and_true, kN_v, kN_n, kT_v, kT_n, kT_e, Nat.add_zero, Nat.zero_add, b54_85 hw]
      exact ky S' p' D' h (f1.fs.tr g1) g2 g3
  · have sw : Wx (tP nx xs) (d + 4) 54 6 [some (.ref 1), some (.ref a)] [.int (Int32.ofNat 2)] (mk sh D1) c s Q = Wx (tP nx xs) (d + 4) 54 86 [some (.ref 1), some (.ref a)] [] (mk sh D1) c s Q := by rw [b54_6 hw, if_neg (by decide)]; rfl
    rw [sw]
    simp only [b54_86 hw, sR_things H, sI_goers H, sF_goers H, sR_wish H, sR_deed H, sI_makers H, sF_makers H, sR_born H, sR_money H, sR_nerve H, sR_shuns H, sR_by H, sI_trains H, sF_trains H, sR_halts H, sR_seats H, sI_texts H, sF_texts H, sI_law H, sF_law H, sI_day H, sF_day H, sI_seed H, sF_seed H, sR_log H, sO_state H, sI_count H, sF_count H, sI_first H, sF_first H, sR_at H, sR_worth H, sR_makes H, sR_hinders H, sO_things H, sI_rows H, sF_rows H, sR_entries H, sO_log H, sA_2 H, sW_2 H, sA_3 H, sW_3 H, sA_4 H, sW_4 H, sA_5 H, sW_5 H, sA_6 H, sW_6 H, sA_7 H, sW_7 H, sA_8 H, sW_8 H, sA_9 H, sW_9 H, sA_10 H, sW_10 H, sA_11 H, sW_11 H, sA_12 H, sW_12 H, sA_13 H, sW_13 H, sA_14 H, sW_14 H, sA_16 H, sW_16 H, wi_some, or_0, or_1, bo_or, ite_boP, true_and, and_true, kN_v, kN_n, kT_v, kT_n, kT_e, Nat.add_zero, Nat.zero_add]
    refine k56 (m := false) hw HS H ha tb sc1 w4 ?_ ?_
    · intro f D' h g1 g2
      simp only [wi_some, or_0, or_1, bo_or, ite_boP, true_and, and_true, kN_v, kN_n, kT_v, kT_n, kT_e, Nat.add_zero, Nat.zero_add, b54_95 hw]
      exact kf f D' h (f1.fs.tr g1) g2
    · intro S' p' D' h g1 g2 g3
      simp only [wi_some, or_0, or_1, bo_or, ite_boP, true_and, and_true, kN_v, kN_n, kT_v, kT_n, kT_e, Nat.add_zero, Nat.zero_add, b54_95 hw]
      exact ky S' p' D' h (f1.fs.tr g1) g2 g3
  · have sw : Wx (tP nx xs) (d + 4) 54 6 [some (.ref 1), some (.ref a)] [.int (Int32.ofNat 3)] (mk sh D1) c s Q = Wx (tP nx xs) (d + 4) 54 96 [some (.ref 1), some (.ref a)] [] (mk sh D1) c s Q := by rw [b54_6 hw, if_neg (by decide)]; rfl
    rw [sw]
    simp only [b54_96 hw, sR_things H, sI_goers H, sF_goers H, sR_wish H, sR_deed H, sI_makers H, sF_makers H, sR_born H, sR_money H, sR_nerve H, sR_shuns H, sR_by H, sI_trains H, sF_trains H, sR_halts H, sR_seats H, sI_texts H, sF_texts H, sI_law H, sF_law H, sI_day H, sF_day H, sI_seed H, sF_seed H, sR_log H, sO_state H, sI_count H, sF_count H, sI_first H, sF_first H, sR_at H, sR_worth H, sR_makes H, sR_hinders H, sO_things H, sI_rows H, sF_rows H, sR_entries H, sO_log H, sA_2 H, sW_2 H, sA_3 H, sW_3 H, sA_4 H, sW_4 H, sA_5 H, sW_5 H, sA_6 H, sW_6 H, sA_7 H, sW_7 H, sA_8 H, sW_8 H, sA_9 H, sW_9 H, sA_10 H, sW_10 H, sA_11 H, sW_11 H, sA_12 H, sW_12 H, sA_13 H, sW_13 H, sA_14 H, sW_14 H, sA_16 H, sW_16 H, pR_bytes HS, pI_length HS, pF_length HS, pI_place HS, pF_place HS, pI_number HS, pF_number HS, pI_textLength HS, pF_textLength HS, pI_begin HS, pF_begin HS, pO HS, pA_2 HS, pW_2 HS, wi_some, or_0, or_1, bo_or, ite_boP, true_and, and_true, kN_v, kN_n, kT_v, kT_n, kT_e, Nat.add_zero, Nat.zero_add, eng, oN_lt (show S.2.2.1 < 2147483648 by omega) (show 6 < 2147483648 by omega)]
    by_cases h6 : S.2.2.1 < 6
    · simp only [h6, if_true] at kf ky ⊢
      refine k57 hw HS H ha tb sc1 w4 h6 ?_ ?_
      · intro f D' h g1 g2
        simp only [wi_some, or_0, or_1, bo_or, ite_boP, true_and, and_true, kN_v, kN_n, kT_v, kT_n, kT_e, Nat.add_zero, Nat.zero_add, b54_110 hw, b54_117 hw]
        exact kf f D' h (f1.fs.tr g1) g2
      · intro S' p' D' h g1 g2 g3
        simp only [wi_some, or_0, or_1, bo_or, ite_boP, true_and, and_true, kN_v, kN_n, kT_v, kT_n, kT_e, Nat.add_zero, Nat.zero_add, b54_110 hw, b54_117 hw]
        exact ky S' p' D' h (f1.fs.tr g1) g2 g3
    · simp only [h6, if_false, k68 hw HS, wi_some, or_0, or_1, bo_or, ite_boP, true_and, and_true, kN_v, kN_n, kT_v, kT_n, kT_e, Nat.add_zero, Nat.zero_add, b54_117 hw] at kf ⊢
      obtain ⟨r1, r2⟩ := ref p _ rfl rfl
      exact kf p _ rfl r1 r2
  · have sw : Wx (tP nx xs) (d + 4) 54 6 [some (.ref 1), some (.ref a)] [.int (Int32.ofNat 4)] (mk sh D1) c s Q = Wx (tP nx xs) (d + 4) 54 118 [some (.ref 1), some (.ref a)] [] (mk sh D1) c s Q := by rw [b54_6 hw, if_neg (by decide)]; rfl
    rw [sw]
    simp only [b54_118 hw]
    refine k60 hw HS H ha tb sc1 w4 ?_ ?_
    · intro f D' h g1 g2
      simp only [wi_some, or_0, or_1, bo_or, ite_boP, true_and, and_true, kN_v, kN_n, kT_v, kT_n, kT_e, Nat.add_zero, Nat.zero_add, b54_123 hw]
      exact kf f D' h (f1.fs.tr g1) g2
    · intro S' p' D' h g1 g2 g3
      simp only [wi_some, or_0, or_1, bo_or, ite_boP, true_and, and_true, kN_v, kN_n, kT_v, kT_n, kT_e, Nat.add_zero, Nat.zero_add, b54_123 hw]
      exact ky S' p' D' h (f1.fs.tr g1) g2 g3
  · have sw : Wx (tP nx xs) (d + 4) 54 6 [some (.ref 1), some (.ref a)] [.int (Int32.ofNat 5)] (mk sh D1) c s Q = Wx (tP nx xs) (d + 4) 54 124 [some (.ref 1), some (.ref a)] [] (mk sh D1) c s Q := by rw [b54_6 hw, if_neg (by decide)]; rfl
    rw [sw]
    simp only [b54_124 hw, sR_things H, sI_goers H, sF_goers H, sR_wish H, sR_deed H, sI_makers H, sF_makers H, sR_born H, sR_money H, sR_nerve H, sR_shuns H, sR_by H, sI_trains H, sF_trains H, sR_halts H, sR_seats H, sI_texts H, sF_texts H, sI_law H, sF_law H, sI_day H, sF_day H, sI_seed H, sF_seed H, sR_log H, sO_state H, sI_count H, sF_count H, sI_first H, sF_first H, sR_at H, sR_worth H, sR_makes H, sR_hinders H, sO_things H, sI_rows H, sF_rows H, sR_entries H, sO_log H, sA_2 H, sW_2 H, sA_3 H, sW_3 H, sA_4 H, sW_4 H, sA_5 H, sW_5 H, sA_6 H, sW_6 H, sA_7 H, sW_7 H, sA_8 H, sW_8 H, sA_9 H, sW_9 H, sA_10 H, sW_10 H, sA_11 H, sW_11 H, sA_12 H, sW_12 H, sA_13 H, sW_13 H, sA_14 H, sW_14 H, sA_16 H, sW_16 H, pR_bytes HS, pI_length HS, pF_length HS, pI_place HS, pF_place HS, pI_number HS, pF_number HS, pI_textLength HS, pF_textLength HS, pI_begin HS, pF_begin HS, pO HS, pA_2 HS, pW_2 HS, wi_some, or_0, or_1, bo_or, ite_boP, true_and, and_true, kN_v, kN_n, kT_v, kT_n, kT_e, Nat.add_zero, Nat.zero_add, enr, oN_lt (show S.2.2.2 < 2147483648 by omega) (show 5 < 2147483648 by omega)]
    by_cases h5 : S.2.2.2 < 5
    · simp only [h5, if_true] at kf ky ⊢
      refine k61 hw HS H ha tb sc1 w4 h5 ?_ ?_
      · intro f D' h g1 g2
        simp only [wi_some, or_0, or_1, bo_or, ite_boP, true_and, and_true, kN_v, kN_n, kT_v, kT_n, kT_e, Nat.add_zero, Nat.zero_add, b54_137 hw, b54_144 hw]
        exact kf f D' h (f1.fs.tr g1) g2
      · intro S' p' D' h g1 g2 g3
        simp only [wi_some, or_0, or_1, bo_or, ite_boP, true_and, and_true, kN_v, kN_n, kT_v, kT_n, kT_e, Nat.add_zero, Nat.zero_add, b54_137 hw, b54_144 hw]
        exact ky S' p' D' h (f1.fs.tr g1) g2 g3
    · simp only [h5, if_false, k68 hw HS, wi_some, or_0, or_1, bo_or, ite_boP, true_and, and_true, kN_v, kN_n, kT_v, kT_n, kT_e, Nat.add_zero, Nat.zero_add, b54_144 hw] at kf ⊢
      obtain ⟨r1, r2⟩ := ref p _ rfl rfl
      exact kf p _ rfl r1 r2
  · have sw : Wx (tP nx xs) (d + 4) 54 6 [some (.ref 1), some (.ref a)] [.int (Int32.ofNat 6)] (mk sh D1) c s Q = Wx (tP nx xs) (d + 4) 54 145 [some (.ref 1), some (.ref a)] [] (mk sh D1) c s Q := by rw [b54_6 hw, if_neg (by decide)]; rfl
    rw [sw]
    simp only [b54_145 hw]
    refine k62 hw HS H ha tb sc1 w4 ?_ ?_
    · intro f D' h g1 g2
      simp only [wi_some, or_0, or_1, bo_or, ite_boP, true_and, and_true, kN_v, kN_n, kT_v, kT_n, kT_e, Nat.add_zero, Nat.zero_add, b54_150 hw]
      exact kf f D' h (f1.fs.tr g1) g2
    · intro S' p' D' h g1 g2 g3
      simp only [wi_some, or_0, or_1, bo_or, ite_boP, true_and, and_true, kN_v, kN_n, kT_v, kT_n, kT_e, Nat.add_zero, Nat.zero_add, b54_150 hw]
      exact ky S' p' D' h (f1.fs.tr g1) g2 g3
theorem k53 (hw : WT sh) (HS : SP sh) (H : St sh a) (ha : 20 ≤ a) (tb : TB b n) (sc : SC a b n S nl D (sk b n 0))
    (kf : ∀ f D', txL b n S = .inl f → FS a D D' → D' 1 2 = Int32.ofNat f → Q (.inl (some (.int (Int32.ofNat 0)))) (mk sh D') c s)
    (ky : ∀ S' D', txL b n S = .inr S' → FS a D D' → Vw D' a S'.1 → Iv S'.1 S'.2.1 S'.2.2.1 S'.2.2.2 nl → Q (.inl (some (.int (Int32.ofNat 1)))) (mk sh D') c s) :
    Wx (tP nx xs) (d + 5) 53 0 [some (.ref 1), some (.ref a), none] [] (mk sh D) c s Q := by
  have n10 : ¬ (Int32.ofNat 1 : Int32) = Int32.ofNat 0 := by decide
  have hn := tb.1
  have h0 : sk b n 0 ≤ n := sk_le (Nat.zero_le _)
  unfold txL at kf ky
  simp only [b53_0 hw, pR_bytes HS, pI_length HS, pF_length HS, pI_place HS, pF_place HS, pI_number HS, pF_number HS, pI_textLength HS, pF_textLength HS, pI_begin HS, pF_begin HS, pO HS, pA_2 HS, pW_2 HS, wi_some, or_0, or_1, bo_or, ite_boP, true_and, and_true, kN_v, kN_n, kT_v, kT_n, kT_e, Nat.add_zero, Nat.zero_add, k66 hw HS tb sc.1 h0, b53_4 hw]
  by_cases he : sk b n 0 = n
  · simp only [he, if_true, decide_true] at ky ⊢
    exact ky S D rfl FS.rf sc.2.1 sc.2.2
  · simp only [he, if_false, decide_false, Bool.false_eq_true] at kf ky ⊢
    have lp : ∀ k S p D1, k ≤ 14 → p ≤ n → FS a D D1 → SC a b n S nl D1 p → (∀ f D', lnsL b n k S p = .inl f → FS a D D' → D' 1 2 = Int32.ofNat f → Q (.inl (some (.int (Int32.ofNat 0)))) (mk sh D') c s) → (∀ S' D', lnsL b n k S p = .inr S' → FS a D D' → Vw D' a S'.1 → Iv S'.1 S'.2.1 S'.2.2.1 S'.2.2.2 nl → Q (.inl (some (.int (Int32.ofNat 1)))) (mk sh D') c s) → Wx (tP nx xs) (d + 5) 53 11 [some (.ref 1), some (.ref a), (some (.int (Int32.ofNat (14 - k))))] [] (mk sh D1) c s Q := by
      intro k
      induction k with
      | zero =>
        intro S p D1 _ hp f1 sc1 kf ky
        rw [b53_11 hw]
        simp only [oN_lt (show 14 - 0 < 2147483648 by omega) (show 14 < 2147483648 by omega), show ¬ 14 - 0 < 14 by omega, if_false]
        exact kf p D1 rfl f1 sc1.1.1
      | succ k ih =>
        intro S p D1 hk hp f1 sc1 kf ky
        unfold lnsL at kf ky
        rw [b53_11 hw]
        simp only [oN_lt (show 14 - (k + 1) < 2147483648 by omega) (show 14 < 2147483648 by omega), show 14 - (k + 1) < 14 by omega, if_true]
        refine k54 hw HS H ha tb sc1 hp ?_ ?_
        · intro f D2 h g1 g2
          simp only [h] at kf
          simp only [wi_some, or_0, or_1, bo_or, ite_boP, true_and, and_true, kN_v, kN_n, kT_v, kT_n, kT_e, Nat.add_zero, Nat.zero_add, b53_22 hw, if_true]
          exact kf f D2 rfl (f1.tr g1) g2
        · intro S' p' D2 h g1 g2 g3
          simp only [h] at kf ky
          simp only [wi_some, or_0, or_1, bo_or, ite_boP, true_and, and_true, kN_v, kN_n, kT_v, kT_n, kT_e, Nat.add_zero, Nat.zero_add, b53_22 hw, n10, if_false, pR_bytes HS, pI_length HS, pF_length HS, pI_place HS, pF_place HS, pI_number HS, pF_number HS, pI_textLength HS, pF_textLength HS, pI_begin HS, pF_begin HS, pO HS, pA_2 HS, pW_2 HS]
          refine k69 hw HS tb g2.1 g3 (by decide) ?_ ?_
          · intro p2 D3 hs f3 t3 e3 e5
            obtain ⟨_, _, _, _, w5, _⟩ := sgn_some hs
            simp only [hs] at kf ky
            simp only [wi_some, or_0, or_1, bo_or, ite_boP, true_and, and_true, kN_v, kN_n, kT_v, kT_n, kT_e, Nat.add_zero, Nat.zero_add, b53_33 hw, n10, if_false, oN_add, show 14 - (k + 1) + 1 = 14 - k by omega]
            exact ih S' p2 D3 (by omega) w5 ((f1.tr g1).tr f3.fs) (g2.f1 ha f3 t3) kf ky
          · intro hs
            simp only [hs] at kf ky
            simp only [wi_some, or_0, or_1, bo_or, ite_boP, true_and, and_true, kN_v, kN_n, kT_v, kT_n, kT_e, Nat.add_zero, Nat.zero_add, b53_33 hw, if_true, pR_bytes HS, pI_length HS, pF_length HS, pI_place HS, pF_place HS, pI_number HS, pF_number HS, pI_textLength HS, pF_textLength HS, pI_begin HS, pF_begin HS, pO HS, pA_2 HS, pW_2 HS, k66 hw HS tb g2.1 g3, b53_40 hw]
            by_cases hpn : p' = n
            · simp only [hpn, if_true, decide_true, bo_t, or_1, true_and] at ky ⊢
              exact ky S' D2 rfl (f1.tr g1) g2.2.1 g2.2.2
            · simp only [hpn, if_false, decide_false, bo_f, or_0, true_and] at kf ⊢
              exact kf p' D2 rfl (f1.tr g1) g2.1.1
    exact lp 14 S (sk b n 0) D (Nat.le_refl _) h0 FS.rf sc kf ky
end CB6
