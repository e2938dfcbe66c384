/-! ===== pairing, the class ===== -/
def PaF (D D' : sD) : Prop := ∀ b i, ¬ (b = 283 ∧ i = 1) → b ≠ 284 → D' b i = D b i
theorem PaF.rf {D : sD} : PaF D D := fun _ _ _ _ => rfl
theorem PaF.tr {D D' D'' : sD} (h : PaF D D') (h' : PaF D' D'') : PaF D D'' := fun b i h1 h2 => (h' b i h1 h2).trans (h b i h1 h2)
def PaI (ng : Nat) (w : Nat → Int32) (x : seS) (D : sD) : Prop := (∀ i, i < 6 → D 285 i = w i) ∧ D 283 1 = mo x.1 ∧ ∀ i, i < ng → D 284 i = x.2 i
section CA5
variable {nx : Nat} {xs : Nat → Int32} {d c s : Nat} {sh : List sC} {D : sD} {Q : av_Q}
variable {V : sD} {nt ng nr nl : Nat}
theorem k24 (hw : WT sh) (HS : SP sh) (I : Iv V nt ng nr nl) : ∀ (r g n z : Nat) (w : Nat → Int32) (x : seS) (D : sD) (c s : Nat) (Q : av_Q), g + r = ng → n ≤ g → x.1 ≤ 7 → z < 64 → z < 2 ^ ng → Vw D 3 V → PaI ng w x D → (∀ i, g ≤ i → i < ng → bt (Int32.ofNat z) i = true → w i = -1) → (∀ D', PaF D D' → PaI ng w (paX V r g (bt (Int32.ofNat z)) w n x) D' → Q (.inl none) (mk sh D') c s) → Wx (tP nx xs) (d + r + 2) 24 0 [some (.ref 283), some (.ref 3), (some (.int (Int32.ofNat g))), (some (.int (Int32.ofNat z))), (some (.int (Int32.ofNat n))), none, none, none] [] (mk sh D) c s Q := by
  have H := St_state HS
  have hng := i_ng6 I
  have n10 : ¬ (Int32.ofNat 1 : Int32) = Int32.ofNat 0 := by decide
  intro r
  induction r with
  | zero =>
    intro g n z w x D c s Q hg hn hx hz hzn hV hi hf kk
    have eg : g = ng := by omega
    have l0 := lft_0 g (by omega) z hz (by rw [eg]; exact hzn)
    have e1 : (mo x.1 < Int32.ofNat (n + 0 / 2)) = (x.1 ≤ n + 0 / 2) := propext (mo_lt _ (by omega) _ (by omega))
    have c31 := oC_of (i := 0) (j := 0) (k := 6) (hN_285 HS) (hN_284 HS) (by decide) (by decide) (by decide) (by decide)
    show Wx (tP nx xs) (d + 1 + 1) 24 0 _ [] (mk sh D) c s Q
    simp only [b24_0 hw, k357 hw, wi_some, or_0, or_1, bo_or, ite_boP, true_and, and_true, kN_v, kN_n, kT_v, kT_n, kT_e, Nat.add_zero, Nat.zero_add, b24_8 hw, hR_bestWay HS, hI_most HS, hF_most HS, hR_way HS, hO HS, hA_284 HS, hW_284 HS, hA_285 HS, hW_285 HS, sR_things H, sI_goers H, sF_goers H, sR_wish H, sR_deed H, sI_makers H, sF_makers H, sR_born H, sR_money H, sR_nerve H, sR_shuns H, sR_by H, sI_trains H, sF_trains H, sR_halts H, sR_seats H, sI_texts H, sF_texts H, sI_law H, sF_law H, sI_day H, sF_day H, sI_seed H, sF_seed H, sR_log H, sO_state H, sI_count H, sF_count H, sI_first H, sF_first H, sR_at H, sR_worth H, sR_makes H, sR_hinders H, sO_things H, sI_rows H, sF_rows H, sR_entries H, sO_log H, sA_2 H, sW_2 H, sA_3 H, sW_3 H, sA_4 H, sW_4 H, sA_5 H, sW_5 H, sA_6 H, sW_6 H, sA_7 H, sW_7 H, sA_8 H, sW_8 H, sA_9 H, sW_9 H, sA_10 H, sW_10 H, sA_11 H, sW_11 H, sA_12 H, sW_12 H, sA_13 H, sW_13 H, sA_14 H, sW_14 H, sA_16 H, sW_16 H, v_0 hV, v_1 hV, v_2 hV, v_3 hV, v_4 hV, v_5 hV, v_6 hV, v_7 hV, v_8 hV, v_9 hV, v_10 hV, v_11 hV, v_12 hV, v_13 hV, v_14 hV, v_15 hV, v_16 hV, lft_bc g (by omega) z hz, l0, oN_div (show 0 < 2147483648 by decide) (show 2 < 2147483648 by decide), oN_add, hi.2.1, e1, i_ng I, oN_lt (show g < 2147483648 by omega) (show ng < 2147483648 by omega), show ¬ g < ng by omega, if_false]
    by_cases h : x.1 ≤ n + 0 / 2
    · simp only [h, if_true, b24_33 hw, b24_39 hw, b24_54 hw, hR_bestWay HS, hI_most HS, hF_most HS, hR_way HS, hO HS, hA_284 HS, hW_284 HS, hA_285 HS, hW_285 HS, wi_some, or_0, or_1, bo_or, ite_boP, true_and, and_true, kN_v, kN_n, kT_v, kT_n, kT_e, Nat.add_zero, Nat.zero_add, c31, oN_tn (show 0 < 2147483648 by decide), oN_tn (show 6 < 2147483648 by decide)]
      have es : paX V 0 g (bt (Int32.ofNat z)) w n x = (n + 1, w) := by unfold paX pvS pwS; rw [if_pos (by omega)]
      rw [es] at kk
      refine kk _ (fun b i h1 h2 => ?_) ⟨fun i hi' => ?_, ?_, fun i hi' => ?_⟩
      · unfold cp2; rw [if_neg (by omega), u2_at, if_neg h1]
      · unfold cp2; rw [if_neg (by omega), u2_at, if_neg (by omega)]; exact hi.1 i hi'
      · unfold cp2; rw [if_neg (by omega), u2_at, if_pos ⟨rfl, rfl⟩, mo_s]
      · unfold cp2; rw [if_pos (by omega), u2_at, if_neg (by omega), show 0 + (i - 0) = i by omega]; exact hi.1 i (by omega)
    · have es : paX V 0 g (bt (Int32.ofNat z)) w n x = x := by unfold paX pvS; rw [if_neg (by omega)]
      rw [es] at kk
      simp only [h, if_false]
      exact kk D PaF.rf hi
  | succ r ih =>
    intro g n z w x D c s Q hg hn hx hz hzn hV hi hf kk
    have hg6 : g < 6 := by omega
    have hgn : g < ng := by omega
    have l6 := lft_6 g (by omega) z hz
    have tg := oN_tn (show g < 2147483648 by omega)
    have pl := pv_lft (V := V) (r + 1) g z hz (by omega)
    have e1 : (mo x.1 < Int32.ofNat (n + lft z g / 2)) = (x.1 ≤ n + lft z g / 2) := propext (mo_lt _ (by omega) _ (by omega))
    have ed : d + (r + 1) + 2 = d + r + 2 + 1 := by omega
    rw [ed]
    have vw : ∀ {D1 : sD}, PaF D D1 → Vw D1 3 V := fun {D1} f k i hk => by rw [f (3 + k) i (by omega) (by omega)]; exact hV k i hk
    rw [b24_0 hw]
    simp only [k357 hw, wi_some, or_0, or_1, bo_or, ite_boP, true_and, and_true, kN_v, kN_n, kT_v, kT_n, kT_e, Nat.add_zero, Nat.zero_add, b24_8 hw, hR_bestWay HS, hI_most HS, hF_most HS, hR_way HS, hO HS, hA_284 HS, hW_284 HS, hA_285 HS, hW_285 HS, sR_things H, sI_goers H, sF_goers H, sR_wish H, sR_deed H, sI_makers H, sF_makers H, sR_born H, sR_money H, sR_nerve H, sR_shuns H, sR_by H, sI_trains H, sF_trains H, sR_halts H, sR_seats H, sI_texts H, sF_texts H, sI_law H, sF_law H, sI_day H, sF_day H, sI_seed H, sF_seed H, sR_log H, sO_state H, sI_count H, sF_count H, sI_first H, sF_first H, sR_at H, sR_worth H, sR_makes H, sR_hinders H, sO_things H, sI_rows H, sF_rows H, sR_entries H, sO_log H, sA_2 H, sW_2 H, sA_3 H, sW_3 H, sA_4 H, sW_4 H, sA_5 H, sW_5 H, sA_6 H, sW_6 H, sA_7 H, sW_7 H, sA_8 H, sW_8 H, sA_9 H, sW_9 H, sA_10 H, sW_10 H, sA_11 H, sW_11 H, sA_12 H, sW_12 H, sA_13 H, sW_13 H, sA_14 H, sW_14 H, sA_16 H, sW_16 H, v_0 hV, v_1 hV, v_2 hV, v_3 hV, v_4 hV, v_5 hV, v_6 hV, v_7 hV, v_8 hV, v_9 hV, v_10 hV, v_11 hV, v_12 hV, v_13 hV, v_14 hV, v_15 hV, v_16 hV, lft_bc g (by omega) z hz, oN_div (show lft z g < 2147483648 by omega) (show 2 < 2147483648 by decide), oN_add, hi.2.1, e1, i_ng I, oN_lt (show g < 2147483648 by omega) (show ng < 2147483648 by omega), hgn, oN_lt (show g < 2147483648 by omega) (show 6 < 2147483648 by omega), hg6, if_true]
    by_cases h : x.1 ≤ n + lft z g / 2
    · simp only [h, if_true]
      refine ih (g + 1) n z w x D 0 0 _ (by omega) (by omega) hx hz hzn hV hi (fun i h1 h2 h3 => hf i (by omega) h2 h3) ?_
      intro D1 f1 i1
      have hx1 : (paX V r (g + 1) (bt (Int32.ofNat z)) w n x).1 ≤ 7 := by
        unfold paX
        have := pv_le (V := V) r (g + 1) (bt (Int32.ofNat z))
        split
        · simp only; omega
        · exact hx
      simp only [wi_some, or_0, or_1, bo_or, ite_boP, true_and, and_true, kN_v, kN_n, kT_v, kT_n, kT_e, Nat.add_zero, Nat.zero_add, b24_66 hw, jshr_b (show g < 32 by omega), ite_boP]
      cases hb : bt (Int32.ofNat z) g with
      | false =>
        simp only [Bool.false_eq_true, if_false]
        refine kk D1 f1 ?_
        rw [paX_none hb]
        exact i1
      | true =>
        have wg := hf g (Nat.le_refl _) hgn hb
        simp only [if_true, oN_add]
        rw [← paX_s] at kk
        suffices hh : ∀ l6 l7 : Option Value, Wx (tP nx xs) (d + r + 2 + 1) 24 80 [some (.ref 283), some (.ref 3), (some (.int (Int32.ofNat g))), (some (.int (Int32.ofNat z))), (some (.int (Int32.ofNat n))), (some (.int (Int32.ofNat (g + 1 + 0)))), l6, l7] [] (mk sh D1) c s Q by
          exact hh none none
        refine up_P (W := fun j (_ : seS) D => ∀ l6 l7 : Option Value, Wx (tP nx xs) (d + r + 2 + 1) 24 80 [some (.ref 283), some (.ref 3), (some (.int (Int32.ofNat g))), (some (.int (Int32.ofNat z))), (some (.int (Int32.ofNat n))), (some (.int (Int32.ofNat (g + 1 + j)))), l6, l7] [] (mk sh D) c s Q) (P := fun _ x' D' => x'.1 ≤ 7 ∧ PaF D D' ∧ PaI ng w x' D') (F := fun j y => if cP V (bt (Int32.ofNat z)) g (g + 1 + j) then paX V r (g + 1) (clF (bt (Int32.ofNat z)) (g + 1 + j)) (wU (wU w g (Int32.ofNat (g + 1 + j))) (g + 1 + j) (Int32.ofNat g)) (n + 1) y else y) r ?_ (paX V r (g + 1) (bt (Int32.ofNat z)) w n x) D1 ⟨hx1, f1, i1⟩ ?_
        · intro j x2 D2 hj ⟨hx2, f2, i2⟩ k l6 l7
          have hV2 := vw f2
          have ho : g + 1 + j < ng := by omega
          have ho6 : g + 1 + j < 6 := by omega
          have eq : ∀ a b : Nat, g + 1 + j + 1 = g + 1 + (j + 1) := fun _ _ => by omega
          have to := oN_tn (show g + 1 + j < 2147483648 by omega)
          have hgo : g ≠ g + 1 + j := by omega
          rw [b24_80 hw]
          simp only [sR_things H, sI_goers H, sF_goers H, sR_wish H, sR_deed H, sI_makers H, sF_makers H, sR_born H, sR_money H, sR_nerve H, sR_shuns H, sR_by H, sI_trains H, sF_trains H, sR_halts H, sR_seats H, sI_texts H, sF_texts H, sI_law H, sF_law H, sI_day H, sF_day H, sI_seed H, sF_seed H, sR_log H, sO_state H, sI_count H, sF_count H, sI_first H, sF_first H, sR_at H, sR_worth H, sR_makes H, sR_hinders H, sO_things H, sI_rows H, sF_rows H, sR_entries H, sO_log H, sA_2 H, sW_2 H, sA_3 H, sW_3 H, sA_4 H, sW_4 H, sA_5 H, sW_5 H, sA_6 H, sW_6 H, sA_7 H, sW_7 H, sA_8 H, sW_8 H, sA_9 H, sW_9 H, sA_10 H, sW_10 H, sA_11 H, sW_11 H, sA_12 H, sW_12 H, sA_13 H, sW_13 H, sA_14 H, sW_14 H, sA_16 H, sW_16 H, wi_some, or_0, or_1, bo_or, ite_boP, true_and, and_true, kN_v, kN_n, kT_v, kT_n, kT_e, Nat.add_zero, Nat.zero_add, v_0 hV2, v_1 hV2, v_2 hV2, v_3 hV2, v_4 hV2, v_5 hV2, v_6 hV2, v_7 hV2, v_8 hV2, v_9 hV2, v_10 hV2, v_11 hV2, v_12 hV2, v_13 hV2, v_14 hV2, v_15 hV2, v_16 hV2, i_ng I, oN_lt (show g + 1 + j < 2147483648 by omega) (show ng < 2147483648 by omega), ho, if_true, jshr_b (show g + 1 + j < 32 by omega), ite_boP, b24_103 hw, hg6]
          have no : cP V (bt (Int32.ofNat z)) g (g + 1 + j) = false → ∀ (l6 l7 : Int32), Wx (tP nx xs) (d + r + 2 + 1) 24 203 [some (.ref 283), some (.ref 3), (some (.int (Int32.ofNat g))), (some (.int (Int32.ofNat z))), (some (.int (Int32.ofNat n))), (some (.int (Int32.ofNat (g + 1 + j)))), (some (.int (l6))), (some (.int (l7)))] [] (mk sh D2) c s Q := by
            intro hc l6 l7
            simp only [hc, Bool.false_eq_true, if_false] at k
            simp only [b24_203 hw, oN_add]
            exact k D2 ⟨hx2, f2, i2⟩ _ _
          cases hzo : bt (Int32.ofNat z) (g + 1 + j) with
          | false =>
            have no := no (by unfold cP; rw [hzo]; simp)
            simp only [Bool.false_eq_true, if_false, b24_124 hw, if_true]
            split
            · exact no _ _
            · exact no _ _
          | true =>
            simp only [if_true]
            cases hsh : bt (V 11 g) (g + 1 + j) with
            | true =>
              have no := no (by unfold cP okQ; rw [hsh]; simp)
              simp only [if_true, b24_124 hw, n10, if_false]
              exact no _ _
            | false =>
              simp only [Bool.false_eq_true, if_false, b24_124 hw, n10, if_true, sR_things H, sI_goers H, sF_goers H, sR_wish H, sR_deed H, sI_makers H, sF_makers H, sR_born H, sR_money H, sR_nerve H, sR_shuns H, sR_by H, sI_trains H, sF_trains H, sR_halts H, sR_seats H, sI_texts H, sF_texts H, sI_law H, sF_law H, sI_day H, sF_day H, sI_seed H, sF_seed H, sR_log H, sO_state H, sI_count H, sF_count H, sI_first H, sF_first H, sR_at H, sR_worth H, sR_makes H, sR_hinders H, sO_things H, sI_rows H, sF_rows H, sR_entries H, sO_log H, sA_2 H, sW_2 H, sA_3 H, sW_3 H, sA_4 H, sW_4 H, sA_5 H, sW_5 H, sA_6 H, sW_6 H, sA_7 H, sW_7 H, sA_8 H, sW_8 H, sA_9 H, sW_9 H, sA_10 H, sW_10 H, sA_11 H, sW_11 H, sA_12 H, sW_12 H, sA_13 H, sW_13 H, sA_14 H, sW_14 H, sA_16 H, sW_16 H, wi_some, or_0, or_1, bo_or, ite_boP, true_and, and_true, kN_v, kN_n, kT_v, kT_n, kT_e, Nat.add_zero, Nat.zero_add, v_0 hV2, v_1 hV2, v_2 hV2, v_3 hV2, v_4 hV2, v_5 hV2, v_6 hV2, v_7 hV2, v_8 hV2, v_9 hV2, v_10 hV2, v_11 hV2, v_12 hV2, v_13 hV2, v_14 hV2, v_15 hV2, v_16 hV2, hg6, ho6]
              by_cases hws : V 6 g = V 6 (g + 1 + j)
              · have hc : cP V (bt (Int32.ofNat z)) g (g + 1 + j) = true := by unfold cP okQ; rw [hb, hzo, hsh]; simp [hws]
                obtain ⟨cl1, cl2⟩ := clN_of (g + 1 + j) ho6 z hz
                have wo := hf (g + 1 + j) (by omega) ho hzo
                simp only [hc, if_true] at k
                simp only [hws, if_true, hR_bestWay HS, hI_most HS, hF_most HS, hR_way HS, hO HS, hA_284 HS, hW_284 HS, hA_285 HS, hW_285 HS, wi_some, or_0, or_1, bo_or, ite_boP, true_and, and_true, kN_v, kN_n, kT_v, kT_n, kT_e, Nat.add_zero, Nat.zero_add, hg6, ho6, tg, to, b24_160 hw, b24_168 hw, oN_add, cl1]
                have ihc := fun D' => ih (g + 1) (n + 1) (clN z (g + 1 + j)) (wU (wU w g (Int32.ofNat (g + 1 + j))) (g + 1 + j) (Int32.ofNat g)) x2 D'
                rw [clN_bt ho6 hz] at ihc
                refine ihc _ 0 0 _ (by omega) (by omega) hx2 (by omega) (by omega) (fun k i hk => by rw [u2_at, if_neg (by omega), u2_at, if_neg (by omega)]; exact hV2 k i hk) ⟨fun i hi' => ?_, ?_, fun i hi' => ?_⟩ (fun i h1 h2 h3 => ?_) ?_
                · rw [u2_at]
                  by_cases e : i = g + 1 + j
                  · rw [if_pos ⟨rfl, e⟩, e, wU_s]
                  · rw [if_neg (by omega), wU_o e, u2_at]
                    by_cases e2 : i = g
                    · rw [if_pos ⟨rfl, e2⟩, e2, wU_s]
                    · rw [if_neg (by omega), wU_o e2]; exact i2.1 i hi'
                · rw [u2_at, if_neg (by omega), u2_at, if_neg (by omega)]; exact i2.2.1
                · rw [u2_at, if_neg (by omega), u2_at, if_neg (by omega)]; exact i2.2.2 i hi'
                · unfold clF at h3
                  simp only [Bool.and_eq_true, decide_eq_true_eq] at h3
                  rw [wU_o h3.2, wU_o (by omega)]
                  exact hf i (by omega) h2 h3.1
                · intro D3 f3 i3
                  simp only [wi_some, or_0, or_1, bo_or, ite_boP, true_and, and_true, kN_v, kN_n, kT_v, kT_n, kT_e, Nat.add_zero, Nat.zero_add, b24_188 hw, b24_195 hw, b24_203 hw, hR_bestWay HS, hI_most HS, hF_most HS, hR_way HS, hO HS, hA_284 HS, hW_284 HS, hA_285 HS, hW_285 HS, hg6, ho6, tg, to, oN_add]
                  have f4 : PaF D2 (u2 (u2 D3 285 g (-1)) 285 (g + 1 + j) (-1)) := fun b i h1 h2 => by
                    rw [u2_at]
                    by_cases e : b = 285 ∧ i = g + 1 + j
                    · rw [if_pos e, e.1, e.2, i2.1 _ ho6, wo]
                    · rw [if_neg e, u2_at]
                      by_cases e2 : b = 285 ∧ i = g
                      · rw [if_pos e2, e2.1, e2.2, i2.1 _ hg6, wg]
                      · rw [if_neg e2, f3 b i h1 h2, u2_at, if_neg e, u2_at, if_neg e2]
                  refine k _ ⟨?_, f2.tr f4, fun i hi' => ?_, ?_, fun i hi' => ?_⟩ _ _
                  · unfold paX
                    have := pv_le (V := V) r (g + 1) (clF (bt (Int32.ofNat z)) (g + 1 + j))
                    split
                    · simp only; omega
                    · exact hx2
                  · rw [f4 285 i (by omega) (by omega)]; exact i2.1 i hi'
                  · rw [u2_at, if_neg (by omega), u2_at, if_neg (by omega)]; exact i3.2.1
                  · rw [u2_at, if_neg (by omega), u2_at, if_neg (by omega)]; exact i3.2.2 i hi'
              · have no := no (by unfold cP okQ; simp [hws])
                simp only [hws, if_false]
                exact no _ _
        · intro D2 ⟨hx2, f2, i2⟩ l6 l7
          have hV2 := vw f2
          rw [b24_80 hw]
          simp only [sR_things H, sI_goers H, sF_goers H, sR_wish H, sR_deed H, sI_makers H, sF_makers H, sR_born H, sR_money H, sR_nerve H, sR_shuns H, sR_by H, sI_trains H, sF_trains H, sR_halts H, sR_seats H, sI_texts H, sF_texts H, sI_law H, sF_law H, sI_day H, sF_day H, sI_seed H, sF_seed H, sR_log H, sO_state H, sI_count H, sF_count H, sI_first H, sF_first H, sR_at H, sR_worth H, sR_makes H, sR_hinders H, sO_things H, sI_rows H, sF_rows H, sR_entries H, sO_log H, sA_2 H, sW_2 H, sA_3 H, sW_3 H, sA_4 H, sW_4 H, sA_5 H, sW_5 H, sA_6 H, sW_6 H, sA_7 H, sW_7 H, sA_8 H, sW_8 H, sA_9 H, sW_9 H, sA_10 H, sW_10 H, sA_11 H, sW_11 H, sA_12 H, sW_12 H, sA_13 H, sW_13 H, sA_14 H, sW_14 H, sA_16 H, sW_16 H, wi_some, or_0, or_1, bo_or, ite_boP, true_and, and_true, kN_v, kN_n, kT_v, kT_n, kT_e, Nat.add_zero, Nat.zero_add, v_0 hV2, v_1 hV2, v_2 hV2, v_3 hV2, v_4 hV2, v_5 hV2, v_6 hV2, v_7 hV2, v_8 hV2, v_9 hV2, v_10 hV2, v_11 hV2, v_12 hV2, v_13 hV2, v_14 hV2, v_15 hV2, v_16 hV2, i_ng I, oN_lt (show g + 1 + r < 2147483648 by omega) (show ng < 2147483648 by omega), show ¬ g + 1 + r < ng by omega, if_false]
          exact kk D2 f2 i2
    · have es : paX V (r + 1) g (bt (Int32.ofNat z)) w n x = x := by unfold paX; rw [if_neg (by omega)]
      rw [es] at kk
      simp only [h, if_false]
      exact kk D PaF.rf hi
def PaD (D D' : sD) : Prop := ∀ b i, ¬ (b = 283 ∧ i = 1) → b ≠ 284 → b ≠ 285 → D' b i = D b i
def wm1 : Nat → Int32 := fun _ => -1
theorem k23 {e : Nat} (he : ng + 3 ≤ e) (hw : WT sh) (HS : SP sh) (hV : Vw D 3 V) (I : Iv V nt ng nr nl) {z : Nat} (hz : z < 64) (hzn : z < 2 ^ ng) (kk : ∀ D', PaD D D' → (∀ i, i < ng → D' 284 i = pwS V ng 0 (bt (Int32.ofNat z)) wm1 i) → Q (.inl (some (.int (Int32.ofNat (pvS V ng 0 (bt (Int32.ofNat z))))))) (mk sh D') c s) : Wx (tP nx xs) e 23 0 [some (.ref 283), some (.ref 3), (some (.int (Int32.ofNat z)))] [] (mk sh D) c s Q := by
  obtain ⟨d, rfl⟩ : ∃ d, e = d + ng + 3 := ⟨e - ng - 3, by omega⟩
  simp only [b23_0 hw, b23_5 hw, hR_bestWay HS, hI_most HS, hF_most HS, hR_way HS, hO HS, hA_284 HS, hW_284 HS, hA_285 HS, hW_285 HS, wi_some, or_0, or_1, bo_or, ite_boP, true_and, and_true, kN_v, kN_n, kT_v, kT_n, kT_e, Nat.add_zero, Nat.zero_add]
  refine k358 hw (hN_285 HS) (hL_285 HS) (by decide) ?_
  intro D1 f1 e1
  simp only [wi_some, or_0, or_1, bo_or, ite_boP, true_and, and_true, kN_v, kN_n, kT_v, kT_n, kT_e, Nat.add_zero, Nat.zero_add, b23_13 hw, hR_bestWay HS, hI_most HS, hF_most HS, hR_way HS, hO HS, hA_284 HS, hW_284 HS, hA_285 HS, hW_285 HS]
  have es : paX V ng 0 (bt (Int32.ofNat z)) wm1 0 (0, D 284) = (pvS V ng 0 (bt (Int32.ofNat z)) + 1, pwS V ng 0 (bt (Int32.ofNat z)) wm1) := by
    unfold paX
    rw [if_pos (Nat.zero_le _), Nat.zero_add]
  have rd : ∀ b i, b ≠ 285 → ¬ (b = 283 ∧ i = 1) → D1 b i = D b i := fun b i h1 h2 => by rw [f1 b h1, u2_at, if_neg h2]
  refine k24 hw HS I ng 0 0 z wm1 (0, D 284) D1 0 0 _ (by omega) (by omega) (Nat.zero_le 7) hz hzn (fun k i hk => by rw [rd _ _ (by omega) (by omega)]; exact hV k i hk) ⟨fun i hi => ?_, ?_, fun i hi => ?_⟩ (fun _ _ _ _ => rfl) ?_
  · exact e1 i hi
  · rw [f1 283 (by decide), u2_at, if_pos ⟨rfl, rfl⟩]; exact mo_0.symm
  · rw [rd 284 i (by decide) (by omega)]
  · intro D2 f2 i2
    rw [es] at i2
    simp only [wi_some, or_0, or_1, bo_or, ite_boP, true_and, and_true, kN_v, kN_n, kT_v, kT_n, kT_e, Nat.add_zero, Nat.zero_add, b23_21 hw, hR_bestWay HS, hI_most HS, hF_most HS, hR_way HS, hO HS, hA_284 HS, hW_284 HS, hA_285 HS, hW_285 HS, i2.2.1, mo_s]
    exact kk D2 (fun b j h1 h2 h3 => by rw [f2 b j h1 h2, rd b j h3 h1]) i2.2.2
end CA5
def o_pairs (G : GT) (x : Int32) : Int32 ⊕ Nat := if x = -1 then .inl (Int32.ofNat (pvS (gV G.1) (gg G.1) 0 (bt (Int32.ofNat (stN (gV G.1) (gg G.1)))))) else match ixO x (gg G.1) with
  | none => .inr 1
  | some g => .inl (pwS (gV G.1) (gg G.1) 0 (bt (Int32.ofNat (stN (gV G.1) (gg G.1)))) wm1 g)
section CB5
variable {nx : Nat} {xs : Nat → Int32} {d c s : Nat} {sh : List sC} {D : sD} {Q : av_Q}
variable {G : GT}
theorem GC.pad {D' : sD} (h : GC sh D G) (f : PaD D D') : GC sh D' G := by
  refine h.cs (fun b i h1 h2 h3 h4 => f b i (by omega) (by omega) (by omega)) ⟨fun t ht => by rw [f 282 t (by omega) (by omega) (by omega)]; exact h.2.2.2.2.2.2.1 t ht, ?_⟩
  rw [f 0 9 (by omega) (by omega) (by omega)]
  cases h.2.2.2.2.2.2.2 with
  | inl g => exact Or.inl g
  | inr g =>
    refine Or.inr ⟨g.1, fun z hz hs => ?_⟩
    rw [f (265 + 1) z (by omega) (by omega) (by omega), f (265 + 2) z (by omega) (by omega) (by omega)]
    exact g.2 z hz hs
theorem PaD.fc {D' : sD} (f : PaD D D') : Fc D D' := fun b h1 h2 => funext fun i => f b i (by omega) (by omega) (by omega)
theorem c_pairs {x : Int32} (hv : GV G) (h : GC sh D G) (kk : ∀ D', GC sh D' G → Fc D D' → Q (oQ (fun _ => xIO) (o_pairs G x)) (mk sh D') (c + o1 (o_pairs G x)) (s + 6 * o1 (o_pairs G x))) : Wx (tP nx xs) (d + 10) 157 0 [some (.ref 0), (some (.int (x))), none] [] (mk sh D) c s Q := by
  have hw := h.1.2
  have HS := h.1.1
  have H := St_state HS
  have I := hv.1
  have hV := h.2.1.1
  have hng := i_ng6 I
  have hnt := i_nt8 I
  have hnr := i_nr5 I
  have hnl := i_nl60 I
  have hx := h.L
  have hL := h.2.1.2
  obtain ⟨z1, z2, z3⟩ := stN_of (V := (gV G.1)) hng
  have go : (∀ D', GC sh D' G → Fc D D' → (∀ i, i < (gg G.1) → D' 284 i = pwS (gV G.1) (gg G.1) 0 (bt (Int32.ofNat (stN (gV G.1) (gg G.1)))) wm1 i) → Wx (tP nx xs) (d + 10) 157 28 [some (.ref 0), (some (.int (x))), none] [.int (Int32.ofNat (pvS (gV G.1) (gg G.1) 0 (bt (Int32.ofNat (stN (gV G.1) (gg G.1))))))] (mk sh D') c s Q) → Wx (tP nx xs) (d + 10) 157 10 [some (.ref 0), (some (.int (x))), none] [] (mk sh D) c s Q := by
    intro fin
    simp only [b157_10 hw, xR_tape HS, xI_wrongAt HS, xF_wrongAt HS, xR_state HS, xR_image HS, xI_imageKept HS, xF_imageKept HS, xR_draft HS, xR_memory HS, xR_lawText HS, xR_worlds HS, xI_worldsFresh HS, xF_worldsFresh HS, xR_otherWorlds HS, xR_seating HS, xR_pairing HS, xI_toldSo HS, xF_toldSo HS, xI_toldNot HS, xF_toldNot HS, xO HS, sR_things H, sI_goers H, sF_goers H, sR_wish H, sR_deed H, sI_makers H, sF_makers H, sR_born H, sR_money H, sR_nerve H, sR_shuns H, sR_by H, sI_trains H, sF_trains H, sR_halts H, sR_seats H, sI_texts H, sF_texts H, sI_law H, sF_law H, sI_day H, sF_day H, sI_seed H, sF_seed H, sR_log H, sO_state H, sI_count H, sF_count H, sI_first H, sF_first H, sR_at H, sR_worth H, sR_makes H, sR_hinders H, sO_things H, sI_rows H, sF_rows H, sR_entries H, sO_log H, sA_2 H, sW_2 H, sA_3 H, sW_3 H, sA_4 H, sW_4 H, sA_5 H, sW_5 H, sA_6 H, sW_6 H, sA_7 H, sW_7 H, sA_8 H, sW_8 H, sA_9 H, sW_9 H, sA_10 H, sW_10 H, sA_11 H, sW_11 H, sA_12 H, sW_12 H, sA_13 H, sW_13 H, sA_14 H, sW_14 H, sA_16 H, sW_16 H, wi_some, or_0, or_1, bo_or, ite_boP, true_and, and_true, kN_v, kN_n, kT_v, kT_n, kT_e, Nat.add_zero, Nat.zero_add, k38 hw H hV I, z1, b157_25 hw, hR_bestWay HS, hI_most HS, hF_most HS, hR_way HS, hO HS, hA_284 HS, hW_284 HS, hA_285 HS, hW_285 HS]
    refine k23 (by omega) hw HS hV I z3 z2 ?_
    intro D1 f1 e1
    simp only [wi_some, or_0, or_1, bo_or, ite_boP, true_and, and_true, kN_v, kN_n, kT_v, kT_n, kT_e, Nat.add_zero, Nat.zero_add]
    exact fin D1 (h.pad f1) f1.fc e1
  unfold o_pairs at kk
  simp only [b157_0 hw, xR_tape HS, xI_wrongAt HS, xF_wrongAt HS, xR_state HS, xR_image HS, xI_imageKept HS, xF_imageKept HS, xR_draft HS, xR_memory HS, xR_lawText HS, xR_worlds HS, xI_worldsFresh HS, xF_worldsFresh HS, xR_otherWorlds HS, xR_seating HS, xR_pairing HS, xI_toldSo HS, xF_toldSo HS, xI_toldNot HS, xF_toldNot HS, xO HS, wi_some, or_0, or_1, bo_or, ite_boP, true_and, and_true, kN_v, kN_n, kT_v, kT_n, kT_e, Nat.add_zero, Nat.zero_add, k181 hv h]
  by_cases hx1 : x = -1
  · simp only [hx1, if_true, oQ, o1, Nat.mul_zero, Nat.add_zero] at kk go ⊢
    refine go fun D1 h1 f1 e1 => ?_
    simp only [b157_28 hw, if_true, b157_47 hw]
    exact kk D1 h1 f1
  · simp only [hx1, if_false] at kk ⊢
    cases hi : ixO x (gg G.1) with
    | none => simp only [hi, oQ, o1, wi_some, or_0, or_1, bo_or, ite_boP, true_and, and_true, kN_v, kN_n, kT_v, kT_n, kT_e, Nat.add_zero, Nat.zero_add] at kk ⊢; exact kk D h Fc.rf
    | some g =>
      obtain ⟨hg, rfl⟩ := ixO_some (by omega) hi
      have hg6 : g < 6 := by omega
      simp only [hi, oQ, o1, wi_some, or_0, or_1, bo_or, ite_boP, true_and, and_true, kN_v, kN_n, kT_v, kT_n, kT_e, Nat.add_zero, Nat.zero_add, Nat.mul_zero] at kk ⊢
      refine go fun D1 h1 f1 e1 => ?_
      simp only [b157_28 hw, hx1, if_false, xR_tape HS, xI_wrongAt HS, xF_wrongAt HS, xR_state HS, xR_image HS, xI_imageKept HS, xF_imageKept HS, xR_draft HS, xR_memory HS, xR_lawText HS, xR_worlds HS, xI_worldsFresh HS, xF_worldsFresh HS, xR_otherWorlds HS, xR_seating HS, xR_pairing HS, xI_toldSo HS, xF_toldSo HS, xI_toldNot HS, xF_toldNot HS, xO HS, hR_bestWay HS, hI_most HS, hF_most HS, hR_way HS, hO HS, hA_284 HS, hW_284 HS, hA_285 HS, hW_285 HS, wi_some, or_0, or_1, bo_or, ite_boP, true_and, and_true, kN_v, kN_n, kT_v, kT_n, kT_e, Nat.add_zero, Nat.zero_add, hg6, e1 g hg, b157_47 hw]
      exact kk D1 h1 f1
end CB5
