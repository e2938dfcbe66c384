/-! ===== seating, the class's search ===== -/
def SeF (g : Nat) (D D' : sD) : Prop := ∀ b i, ¬ (b = 279 ∧ i = 1) → b ≠ 280 → ¬ (b = 281 ∧ g ≤ i) → D' b i = D b i
theorem SeF.rf {g : Nat} {D : sD} : SeF g D D := fun _ _ _ _ _ => rfl
theorem SeF.tr {g g' : Nat} {D D' D'' : sD} (h : SeF g D D') (h' : SeF g' D' D'') (hg : g ≤ g') : SeF g D D'' := fun b i h1 h2 h3 => (h' b i h1 h2 (by omega)).trans (h b i h1 h2 h3)
def SeI (ng g : Nat) (w : Nat → Int32) (x : seS) (D : sD) : Prop := (∀ i, i < g → D 281 i = w i) ∧ (∀ t, t < 5 → D 282 t = bs (fun o => decide (w o = Int32.ofNat t)) g) ∧ D 279 1 = mo x.1 ∧ ∀ i, i < ng → D 280 i = x.2 i
theorem SeI.dn {ng g : Nat} {w : Nat → Int32} {x : seS} {D : sD} (h : SeI ng g w x D) : SeI ng (g + 1) (wU w g (-1)) x (u2 D 281 g (-1)) := by
  obtain ⟨h1, h2, h3, h4⟩ := h
  refine ⟨fun i hi => ?_, fun t ht => ?_, ?_, fun i hi => ?_⟩
  · rw [u2_at]
    by_cases e : i = g
    · subst e; rw [if_pos ⟨rfl, rfl⟩, wU_s]
    · rw [if_neg (by omega), wU_o e]; exact h1 i (by omega)
  · rw [u2_at, if_neg (by omega), h2 t ht, bs_succ, wU_s, if_neg]
    · exact bs_congr fun o ho => by rw [wU_o (by omega)]
    · rw [decide_eq_true_eq]
      intro e
      have := oN_ne1 (show t < 2147483648 by omega)
      rw [← e] at this
      exact absurd rfl (this ▸ (fun h => h.elim) : ¬ (-1 : Int32) = -1)
  · rw [u2_at, if_neg (by omega)]; exact h3
  · rw [u2_at, if_neg (by omega)]; exact h4 i hi
theorem SeI.tn {ng g t : Nat} {w : Nat → Int32} {x : seS} {D : sD} (h : SeI ng g w x D) (ht : t < 5) : SeI ng (g + 1) (wU w g (Int32.ofNat t)) x (u2 (u2 D 281 g (Int32.ofNat t)) 282 t (D 282 t ||| jshl (Int32.ofNat 1) (Int32.ofNat g))) := by
  obtain ⟨h1, h2, h3, h4⟩ := h
  refine ⟨fun i hi => ?_, fun u hu => ?_, ?_, fun i hi => ?_⟩
  · rw [u2_at, if_neg (by omega), u2_at]
    by_cases e : i = g
    · subst e; rw [if_pos ⟨rfl, rfl⟩, wU_s]
    · rw [if_neg (by omega), wU_o e]; exact h1 i (by omega)
  · have ec : bs (fun o => decide (wU w g (Int32.ofNat t) o = Int32.ofNat u)) g = bs (fun o => decide (w o = Int32.ofNat u)) g := bs_congr fun o ho => by rw [wU_o (by omega)]
    rw [bs_succ, wU_s, ec, u2_at]
    by_cases e : u = t
    · subst e
      rw [if_pos ⟨rfl, rfl⟩, if_pos (decide_eq_true rfl), h2 u hu]
    · have ne : ¬ Int32.ofNat t = Int32.ofNat u := by rw [oN_eq (show t < 2147483648 by omega) (show u < 2147483648 by omega)]; omega
      rw [if_neg (by omega), decide_eq_false ne, if_neg (by decide), u2_at, if_neg (by omega)]
      exact h2 u hu
  · rw [u2_at, if_neg (by omega), u2_at, if_neg (by omega)]; exact h3
  · rw [u2_at, if_neg (by omega), u2_at, if_neg (by omega)]; exact h4 i hi
theorem bs_back (p : Nat → Bool) {g : Nat} (hg : g < 6) : (bs p g ||| jshl (Int32.ofNat 1) (Int32.ofNat g)) &&& (jshl (Int32.ofNat 1) (Int32.ofNat g) ^^^ -1) = bs p g := by
  apply b_ext
  intro i hi
  rw [b_and, b_or, b_xor, b_m1 i hi, jshl_1 (by omega) hi, bs_bt p (by omega) hi]
  by_cases e : i = g
  · subst e; simp
  · simp [e]
section CA1
variable {nx : Nat} {xs : Nat → Int32} {d c s : Nat} {sh : List sC} {D : sD} {Q : av_Q}
variable {V : sD} {nt ng nr nl : Nat}
theorem k28 (hw : WT sh) (HS : SP sh) (I : Iv V nt ng nr nl) {z : Nat} (hz : z < 64) : ∀ (r g n : Nat) (w : Nat → Int32) (x : seS) (D : sD) (c s : Nat) (Q : av_Q), g + r = ng → n ≤ g → x.1 ≤ 7 → Vw D 3 V → SeI ng g w x D → (∀ D', SeF g D D' → SeI ng g w (seatP V nr z r g w n x) D' → Q (.inl none) (mk sh D') c s) → Wx (tP nx xs) (d + r + 2) 28 0 [some (.ref 279), some (.ref 3), (some (.int (Int32.ofNat g))), (some (.int (Int32.ofNat z))), (some (.int (Int32.ofNat n))), none] [] (mk sh D) c s Q := by
  have H := St_state HS
  have hng := i_ng6 I
  have hnr := i_nr5 I
  intro r
  induction r with
  | zero =>
    intro g n w x D c s Q hg hn hx hV hi kk
    have eg : g = ng := by omega
    have l6 := lft_6 g (by omega) z hz
    have e1 : (mo x.1 < Int32.ofNat (n + lft z g)) = (x.1 ≤ n + lft z g) := propext (mo_lt _ (by omega) _ (by omega))
    have c31 := oC_of (i := 0) (j := 0) (k := 6) (gN_281 HS) (gN_280 HS) (by decide) (by decide) (by decide) (by decide)
    show Wx (tP nx xs) (d + 1 + 1) 28 0 _ [] (mk sh D) c s Q
    simp only [b28_0 hw, k357 hw, wi_some, or_0, or_1, bo_or, ite_boP, true_and, and_true, kN_v, kN_n, kT_v, kT_n, kT_e, Nat.add_zero, Nat.zero_add, b28_8 hw, gR_bestWay HS, gI_most HS, gF_most HS, gR_way HS, gR_aboard HS, gO HS, gA_280 HS, gW_280 HS, gA_281 HS, gW_281 HS, gA_282 HS, gW_282 HS, sR_things H, sI_goers H, sF_goers H, sR_wish H, sR_deed H, sI_makers H, sF_makers H, sR_born H, sR_money H, sR_nerve H, sR_shuns H, sR_by H, sI_trains H, sF_trains H, sR_halts H, sR_seats H, sI_texts H, sF_texts H, sI_law H, sF_law H, sI_day H, sF_day H, sI_seed H, sF_seed H, sR_log H, sO_state H, sI_count H, sF_count H, sI_first H, sF_first H, sR_at H, sR_worth H, sR_makes H, sR_hinders H, sO_things H, sI_rows H, sF_rows H, sR_entries H, sO_log H, sA_2 H, sW_2 H, sA_3 H, sW_3 H, sA_4 H, sW_4 H, sA_5 H, sW_5 H, sA_6 H, sW_6 H, sA_7 H, sW_7 H, sA_8 H, sW_8 H, sA_9 H, sW_9 H, sA_10 H, sW_10 H, sA_11 H, sW_11 H, sA_12 H, sW_12 H, sA_13 H, sW_13 H, sA_14 H, sW_14 H, sA_16 H, sW_16 H, v_0 hV, v_1 hV, v_2 hV, v_3 hV, v_4 hV, v_5 hV, v_6 hV, v_7 hV, v_8 hV, v_9 hV, v_10 hV, v_11 hV, v_12 hV, v_13 hV, v_14 hV, v_15 hV, v_16 hV, lft_bc g (by omega) z hz, oN_add, hi.2.2.1, e1, i_ng I, oN_lt (show g < 2147483648 by omega) (show ng < 2147483648 by omega), show ¬ g < ng by omega, if_false]
    by_cases h : x.1 ≤ n + lft z g
    · simp only [h, if_true, b28_31 hw, b28_37 hw, b28_52 hw, gR_bestWay HS, gI_most HS, gF_most HS, gR_way HS, gR_aboard HS, gO HS, gA_280 HS, gW_280 HS, gA_281 HS, gW_281 HS, gA_282 HS, gW_282 HS, wi_some, or_0, or_1, bo_or, ite_boP, true_and, and_true, kN_v, kN_n, kT_v, kT_n, kT_e, Nat.add_zero, Nat.zero_add, c31, oN_tn (show 0 < 2147483648 by decide), oN_tn (show 6 < 2147483648 by decide)]
      have es : seatP V nr z 0 g w n x = (n + 1, w) := by unfold seatP; rw [if_neg (by omega)]
      rw [es] at kk
      refine kk _ (fun b i h1 h2 h3 => ?_) ⟨fun i hi' => ?_, fun t ht => ?_, ?_, fun i hi' => ?_⟩
      · unfold cp2; rw [if_neg (by omega), u2_at, if_neg h1]
      · unfold cp2; rw [if_neg (by omega), u2_at, if_neg (by omega)]; exact hi.1 i hi'
      · unfold cp2; rw [if_neg (by omega), u2_at, if_neg (by omega)]; exact hi.2.1 t ht
      · unfold cp2; rw [if_neg (by omega), u2_at, if_pos ⟨rfl, rfl⟩, mo_s]
      · unfold cp2; rw [if_pos (by omega), u2_at, if_neg (by omega), show 0 + (i - 0) = i by omega]; exact hi.1 i (by omega)
    · have es : seatP V nr z 0 g w n x = x := by unfold seatP; rw [if_pos (by omega)]
      rw [es] at kk
      simp only [h, if_false]
      exact kk D SeF.rf hi
  | succ r ih =>
    intro g n w x D c s Q hg hn hx hV hi kk
    have hg6 : g < 6 := by omega
    have l6 := lft_6 g (by omega) z hz
    have tg := oN_tn (show g < 2147483648 by omega)
    have e1 : (mo x.1 < Int32.ofNat (n + lft z g)) = (x.1 ≤ n + lft z g) := propext (mo_lt _ (by omega) _ (by omega))
    have ed : d + (r + 1) + 2 = d + r + 2 + 1 := by omega
    rw [ed]
    have vw : ∀ {D1 : sD}, SeF g D D1 → Vw D1 3 V := fun {D1} f k i hk => by rw [f (3 + k) i (by omega) (by omega) (by omega)]; exact hV k i hk
    have tail : ∀ (l5 : Option Value) (D1 : sD) (x1 : seS), x1.1 ≤ 7 → SeF g D D1 → SeI ng g w x1 D1 → seatP V nr z r (g + 1) (wU w g (-1)) n x1 = seatP V nr z (r + 1) g w n x → Wx (tP nx xs) (d + r + 2 + 1) 28 139 [some (.ref 279), some (.ref 3), (some (.int (Int32.ofNat g))), (some (.int (Int32.ofNat z))), (some (.int (Int32.ofNat n))), l5] [] (mk sh D1) c s Q := by
      intro l5 D1 x1 hx1 f1 i1 e
      have hV1 := vw f1
      simp only [b28_139 hw, b28_146 hw, gR_bestWay HS, gI_most HS, gF_most HS, gR_way HS, gR_aboard HS, gO HS, gA_280 HS, gW_280 HS, gA_281 HS, gW_281 HS, gA_282 HS, gW_282 HS, wi_some, or_0, or_1, bo_or, ite_boP, true_and, and_true, kN_v, kN_n, kT_v, kT_n, kT_e, Nat.add_zero, Nat.zero_add, hg6, tg, oN_add]
      refine ih (g + 1) n (wU w g (-1)) x1 (u2 D1 281 g (-1)) 0 0 _ (by omega) (by omega) hx1 (fun k i hk => by rw [u2_at, if_neg (by omega)]; exact hV1 k i hk) i1.dn ?_
      intro D2 f2 i2
      rw [e] at i2
      have f3 : SeF g D1 D2 := fun b i h1 h2 h3 => by rw [f2 b i h1 h2 (by omega), u2_at, if_neg (by omega)]
      simp only [wi_some, or_0, or_1, bo_or, ite_boP, true_and, and_true, kN_v, kN_n, kT_v, kT_n, kT_e, Nat.add_zero, Nat.zero_add, b28_157 hw]
      refine kk D2 (f1.tr f3 (Nat.le_refl _)) ⟨fun i hi' => ?_, fun t ht => ?_, i2.2.2.1, i2.2.2.2⟩
      · rw [f3 281 i (by omega) (by omega) (by omega)]; exact i1.1 i hi'
      · rw [f3 282 t (by omega) (by omega) (by omega)]; exact i1.2.1 t ht
    simp only [b28_0 hw, k357 hw, wi_some, or_0, or_1, bo_or, ite_boP, true_and, and_true, kN_v, kN_n, kT_v, kT_n, kT_e, Nat.add_zero, Nat.zero_add, b28_8 hw, gR_bestWay HS, gI_most HS, gF_most HS, gR_way HS, gR_aboard HS, gO HS, gA_280 HS, gW_280 HS, gA_281 HS, gW_281 HS, gA_282 HS, gW_282 HS, sR_things H, sI_goers H, sF_goers H, sR_wish H, sR_deed H, sI_makers H, sF_makers H, sR_born H, sR_money H, sR_nerve H, sR_shuns H, sR_by H, sI_trains H, sF_trains H, sR_halts H, sR_seats H, sI_texts H, sF_texts H, sI_law H, sF_law H, sI_day H, sF_day H, sI_seed H, sF_seed H, sR_log H, sO_state H, sI_count H, sF_count H, sI_first H, sF_first H, sR_at H, sR_worth H, sR_makes H, sR_hinders H, sO_things H, sI_rows H, sF_rows H, sR_entries H, sO_log H, sA_2 H, sW_2 H, sA_3 H, sW_3 H, sA_4 H, sW_4 H, sA_5 H, sW_5 H, sA_6 H, sW_6 H, sA_7 H, sW_7 H, sA_8 H, sW_8 H, sA_9 H, sW_9 H, sA_10 H, sW_10 H, sA_11 H, sW_11 H, sA_12 H, sW_12 H, sA_13 H, sW_13 H, sA_14 H, sW_14 H, sA_16 H, sW_16 H, v_0 hV, v_1 hV, v_2 hV, v_3 hV, v_4 hV, v_5 hV, v_6 hV, v_7 hV, v_8 hV, v_9 hV, v_10 hV, v_11 hV, v_12 hV, v_13 hV, v_14 hV, v_15 hV, v_16 hV, lft_bc g (by omega) z hz, oN_add, hi.2.2.1, e1, i_ng I, oN_lt (show g < 2147483648 by omega) (show ng < 2147483648 by omega), show g < ng by omega, oN_lt (show g < 2147483648 by omega) (show 6 < 2147483648 by omega), hg6, if_true, jshr_b (show g < 32 by omega), ite_boP]
    by_cases h : x.1 ≤ n + lft z g
    · have hs : ¬ n + lft z g < x.1 := by omega
      simp only [h, if_true]
      cases hb : bt (Int32.ofNat z) g with
      | false =>
        simp only [Bool.false_eq_true, if_false]
        exact tail none D x hx SeF.rf hi (by
          show _ = seatP V nr z (r + 1) g w n x
          rw [seatP, if_neg hs, hb]
          rfl)
      | true =>
        simp only [if_true]
        refine up_P (W := fun t (_ : seS) D => Wx (tP nx xs) (d + r + 2 + 1) 28 64 [some (.ref 279), some (.ref 3), (some (.int (Int32.ofNat g))), (some (.int (Int32.ofNat z))), (some (.int (Int32.ofNat n))), (some (.int (Int32.ofNat t)))] [] (mk sh D) c s Q) (P := fun _ x' D' => x'.1 ≤ 7 ∧ SeF g D D' ∧ SeI ng g w x' D') (F := fun t st => if rmW V w g t then seatP V nr z r (g + 1) (wU w g (Int32.ofNat t)) (n + 1) st else st) nr ?_ x D ⟨hx, SeF.rf, hi⟩ ?_
        · intro t x1 D1 ht ⟨hx1, f1, i1⟩ k
          have hV1 := vw f1
          have ht5 : t < 5 := by omega
          have tt := oN_tn (show t < 2147483648 by omega)
          have er : rmP V (D1 282 t) g t = rmW V w g t := by unfold rmW; rw [i1.2.1 t ht5]
          rw [b28_64 hw]
          simp only [sR_things H, sI_goers H, sF_goers H, sR_wish H, sR_deed H, sI_makers H, sF_makers H, sR_born H, sR_money H, sR_nerve H, sR_shuns H, sR_by H, sI_trains H, sF_trains H, sR_halts H, sR_seats H, sI_texts H, sF_texts H, sI_law H, sF_law H, sI_day H, sF_day H, sI_seed H, sF_seed H, sR_log H, sO_state H, sI_count H, sF_count H, sI_first H, sF_first H, sR_at H, sR_worth H, sR_makes H, sR_hinders H, sO_things H, sI_rows H, sF_rows H, sR_entries H, sO_log H, sA_2 H, sW_2 H, sA_3 H, sW_3 H, sA_4 H, sW_4 H, sA_5 H, sW_5 H, sA_6 H, sW_6 H, sA_7 H, sW_7 H, sA_8 H, sW_8 H, sA_9 H, sW_9 H, sA_10 H, sW_10 H, sA_11 H, sW_11 H, sA_12 H, sW_12 H, sA_13 H, sW_13 H, sA_14 H, sW_14 H, sA_16 H, sW_16 H, gR_bestWay HS, gI_most HS, gF_most HS, gR_way HS, gR_aboard HS, gO HS, gA_280 HS, gW_280 HS, gA_281 HS, gW_281 HS, gA_282 HS, gW_282 HS, wi_some, or_0, or_1, bo_or, ite_boP, true_and, and_true, kN_v, kN_n, kT_v, kT_n, kT_e, Nat.add_zero, Nat.zero_add, v_0 hV1, v_1 hV1, v_2 hV1, v_3 hV1, v_4 hV1, v_5 hV1, v_6 hV1, v_7 hV1, v_8 hV1, v_9 hV1, v_10 hV1, v_11 hV1, v_12 hV1, v_13 hV1, v_14 hV1, v_15 hV1, v_16 hV1, i_nr I, oN_lt (show t < 2147483648 by omega) (show nr < 2147483648 by omega), ht, if_true]
          rw [k29 (d := d + r + 1) hw HS H hV1 I (show g < ng by omega) ht]
          simp only [er, wi_some, or_0, or_1, bo_or, ite_boP, true_and, and_true, kN_v, kN_n, kT_v, kT_n, kT_e, Nat.add_zero, Nat.zero_add, b28_81 hw]
          cases hr : rmW V w g t with
          | false =>
            simp only [hr, Bool.false_eq_true, if_false, bo_f, if_true, b28_133 hw, oN_add] at k ⊢
            exact k D1 ⟨hx1, f1, i1⟩
          | true =>
            have e282 : ∀ v, u2 D1 281 g v 282 t = D1 282 t := fun v => by rw [u2_at, if_neg (by omega)]
            simp only [hr, if_true, bo_t, show ¬ (Int32.ofNat 1 : Int32) = Int32.ofNat 0 by decide, if_false, gR_bestWay HS, gI_most HS, gF_most HS, gR_way HS, gR_aboard HS, gO HS, gA_280 HS, gW_280 HS, gA_281 HS, gW_281 HS, gA_282 HS, gW_282 HS, wi_some, or_0, or_1, bo_or, ite_boP, true_and, and_true, kN_v, kN_n, kT_v, kT_n, kT_e, Nat.add_zero, Nat.zero_add, hg6, ht5, tg, tt, b28_92 hw, e282, b28_105 hw, oN_add] at k ⊢
            refine ih (g + 1) (n + 1) (wU w g (Int32.ofNat t)) x1 _ 0 0 _ (by omega) (by omega) hx1 (fun k i hk => by rw [u2_at, if_neg (by omega), u2_at, if_neg (by omega)]; exact hV1 k i hk) (i1.tn ht5) ?_
            intro D2 f2 i2
            have f3 : ∀ b i, ¬ (b = 279 ∧ i = 1) → b ≠ 280 → ¬ (b = 281 ∧ g ≤ i) → ¬ (b = 282 ∧ i = t) → D2 b i = D1 b i := fun b i h1 h2 h3 h4 => by rw [f2 b i h1 h2 (by omega), u2_at, if_neg h4, u2_at, if_neg (by omega)]
            have f4 : D2 282 t = D1 282 t ||| jshl (Int32.ofNat 1) (Int32.ofNat g) := by rw [f2 282 t (by omega) (by omega) (by omega), u2_at, if_pos ⟨rfl, rfl⟩]
            simp only [wi_some, or_0, or_1, bo_or, ite_boP, true_and, and_true, kN_v, kN_n, kT_v, kT_n, kT_e, Nat.add_zero, Nat.zero_add, b28_118 hw, b28_133 hw, gR_bestWay HS, gI_most HS, gF_most HS, gR_way HS, gR_aboard HS, gO HS, gA_280 HS, gW_280 HS, gA_281 HS, gW_281 HS, gA_282 HS, gW_282 HS, ht5, tt, f4, oN_add]
            have e5 : (D1 282 t ||| jshl (Int32.ofNat 1) (Int32.ofNat g)) &&& (jshl (Int32.ofNat 1) (Int32.ofNat g) ^^^ -1) = D1 282 t := by rw [i1.2.1 t ht5]; exact bs_back _ hg6
            rw [e5]
            have f5 : SeF g D1 (u2 D2 282 t (D1 282 t)) := fun b i h1 h2 h3 => by
              rw [u2_at]
              by_cases e : b = 282 ∧ i = t
              · rw [if_pos e, e.1, e.2]
              · rw [if_neg e]; exact f3 b i h1 h2 h3 e
            refine k _ ⟨seatP_le r _ _ _ _ hx1 (by omega), f1.tr f5 (Nat.le_refl _), fun i hi' => ?_, fun u hu => ?_, ?_, fun i hi' => ?_⟩
            · rw [f5 281 i (by omega) (by omega) (by omega)]; exact i1.1 i hi'
            · rw [f5 282 u (by omega) (by omega) (by omega)]; exact i1.2.1 u hu
            · rw [u2_at, if_neg (by omega)]; exact i2.2.2.1
            · rw [u2_at, if_neg (by omega)]; exact i2.2.2.2 i hi'
        · intro D1 ⟨hx1, f1, i1⟩
          have hV1 := vw f1
          rw [b28_64 hw]
          simp only [sR_things H, sI_goers H, sF_goers H, sR_wish H, sR_deed H, sI_makers H, sF_makers H, sR_born H, sR_money H, sR_nerve H, sR_shuns H, sR_by H, sI_trains H, sF_trains H, sR_halts H, sR_seats H, sI_texts H, sF_texts H, sI_law H, sF_law H, sI_day H, sF_day H, sI_seed H, sF_seed H, sR_log H, sO_state H, sI_count H, sF_count H, sI_first H, sF_first H, sR_at H, sR_worth H, sR_makes H, sR_hinders H, sO_things H, sI_rows H, sF_rows H, sR_entries H, sO_log H, sA_2 H, sW_2 H, sA_3 H, sW_3 H, sA_4 H, sW_4 H, sA_5 H, sW_5 H, sA_6 H, sW_6 H, sA_7 H, sW_7 H, sA_8 H, sW_8 H, sA_9 H, sW_9 H, sA_10 H, sW_10 H, sA_11 H, sW_11 H, sA_12 H, sW_12 H, sA_13 H, sW_13 H, sA_14 H, sW_14 H, sA_16 H, sW_16 H, wi_some, or_0, or_1, bo_or, ite_boP, true_and, and_true, kN_v, kN_n, kT_v, kT_n, kT_e, Nat.add_zero, Nat.zero_add, v_0 hV1, v_1 hV1, v_2 hV1, v_3 hV1, v_4 hV1, v_5 hV1, v_6 hV1, v_7 hV1, v_8 hV1, v_9 hV1, v_10 hV1, v_11 hV1, v_12 hV1, v_13 hV1, v_14 hV1, v_15 hV1, v_16 hV1, i_nr I, oN_lt (show nr < 2147483648 by omega) (show nr < 2147483648 by omega), Nat.lt_irrefl, if_false]
          exact tail _ D1 _ hx1 f1 i1 (by
            show _ = seatP V nr z (r + 1) g w n x
            rw [seatP, if_neg hs, hb]
            rfl)
    · have es : seatP V nr z (r + 1) g w n x = x := by rw [seatP, if_pos (by omega)]
      rw [es] at kk
      simp only [h, if_false]
      exact kk D SeF.rf hi
/-! the most; all of a set -/
def SeD (D D' : sD) : Prop := ∀ b i, ¬ (b = 279 ∧ i = 1) → b ≠ 280 → b ≠ 281 → D' b i = D b i
theorem k26 {e : Nat} (he : ng + 3 ≤ e) (hw : WT sh) (HS : SP sh) (hV : Vw D 3 V) (I : Iv V nt ng nr nl) {z : Nat} (hz : z < 64) (h0 : ∀ t, t < 5 → D 282 t = Int32.ofNat 0) (kk : ∀ D', SeD D D' → (∀ i, i < ng → D' 280 i = (seX V ng nr z).2 i) → Q (.inl (some (.int (mo (seX V ng nr z).1)))) (mk sh D') c s) : Wx (tP nx xs) e 26 0 [some (.ref 279), some (.ref 3), (some (.int (Int32.ofNat z)))] [] (mk sh D) c s Q := by
  obtain ⟨d, rfl⟩ : ∃ d, e = d + ng + 3 := ⟨e - ng - 3, by omega⟩
  obtain ⟨x1, x2⟩ := seX_of V ng nr z (D 280)
  simp only [b26_0 hw, b26_5 hw, gR_bestWay HS, gI_most HS, gF_most HS, gR_way HS, gR_aboard HS, gO HS, gA_280 HS, gW_280 HS, gA_281 HS, gW_281 HS, gA_282 HS, gW_282 HS, wi_some, or_0, or_1, bo_or, ite_boP, true_and, and_true, kN_v, kN_n, kT_v, kT_n, kT_e, Nat.add_zero, Nat.zero_add]
  refine k28 hw HS I hz ng 0 0 w0 (0, D 280) _ 0 0 _ (by omega) (by omega) (Nat.zero_le 7) (fun k i hk => by rw [u2_at, if_neg (by omega)]; exact hV k i hk) ⟨fun i hi => by omega, fun t ht => ?_, ?_, fun i hi => ?_⟩ ?_
  · rw [u2_at, if_neg (by omega), h0 t ht]; rfl
  · rw [u2_at, if_pos ⟨rfl, rfl⟩]; exact mo_0.symm
  · rw [u2_at, if_neg (by omega)]
  · intro D' f i
    rw [SeI, x1, x2] at i
    simp only [wi_some, or_0, or_1, bo_or, ite_boP, true_and, and_true, kN_v, kN_n, kT_v, kT_n, kT_e, Nat.add_zero, Nat.zero_add, b26_13 hw, gR_bestWay HS, gI_most HS, gF_most HS, gR_way HS, gR_aboard HS, gO HS, gA_280 HS, gW_280 HS, gA_281 HS, gW_281 HS, gA_282 HS, gW_282 HS, i.2.2.1]
    exact kk D' (fun b j h1 h2 h3 => by rw [f b j h1 h2 (by omega), u2_at, if_neg h1]) i.2.2.2
theorem k27 {e : Nat} (he : ng + 3 ≤ e) (hw : WT sh) (HS : SP sh) (hV : Vw D 3 V) (I : Iv V nt ng nr nl) {z : Nat} (hz : z < 64) (hzn : z < 2 ^ ng) (h0 : ∀ t, t < 5 → D 282 t = Int32.ofNat 0) (kk : ∀ D', SeD D D' → Q (.inl (some (.int (bo (canG V nr z ng 0 w0))))) (mk sh D') c s) : Wx (tP nx xs) e 27 0 [some (.ref 279), some (.ref 3), (some (.int (Int32.ofNat z))), none] [] (mk sh D) c s Q := by
  obtain ⟨d, rfl⟩ : ∃ d, e = d + ng + 3 := ⟨e - ng - 3, by omega⟩
  have p6 := pcn_6 z hz
  simp only [b27_0 hw, k357 hw, wi_some, or_0, or_1, bo_or, ite_boP, true_and, and_true, kN_v, kN_n, kT_v, kT_n, kT_e, Nat.add_zero, Nat.zero_add, bc_pcn z hz, b27_4 hw, b27_12 hw, gR_bestWay HS, gI_most HS, gF_most HS, gR_way HS, gR_aboard HS, gO HS, gA_280 HS, gW_280 HS, gA_281 HS, gW_281 HS, gA_282 HS, gW_282 HS]
  refine k28 hw HS I hz ng 0 0 w0 (pcn z, D 280) _ 0 0 _ (by omega) (by omega) (by show pcn z ≤ 7; omega) (fun k i hk => by rw [u2_at, if_neg (by omega)]; exact hV k i hk) ⟨fun i hi => by omega, fun t ht => ?_, ?_, fun i hi => ?_⟩ ?_
  · rw [u2_at, if_neg (by omega), h0 t ht]; rfl
  · rw [u2_at, if_pos ⟨rfl, rfl⟩]; rfl
  · rw [u2_at, if_neg (by omega)]
  · intro D' f i
    have es := seat_can (V := V) (nr := nr) hz (i_ng6 I) ng 0 w0 0 (pcn z, D 280) (by omega) hzn (by show pcn z = 0 + lft z 0; unfold lft; rw [Nat.pow_zero, Nat.div_one, Nat.zero_add])
    have fin := kk D' (fun b j h1 h2 h3 => by rw [f b j h1 h2 (by omega), u2_at, if_neg h1])
    rw [SeI, es] at i
    have i3 := i.2.2.1
    cases hc : canG V nr z ng 0 w0 with
    | true =>
      simp only [hc, if_true, bo_t, mo_s] at fin i3
      simp only [wi_some, or_0, or_1, bo_or, ite_boP, true_and, and_true, kN_v, kN_n, kT_v, kT_n, kT_e, Nat.add_zero, Nat.zero_add, b27_20 hw, gR_bestWay HS, gI_most HS, gF_most HS, gR_way HS, gR_aboard HS, gO HS, gA_280 HS, gW_280 HS, gA_281 HS, gW_281 HS, gA_282 HS, gW_282 HS, i3, if_true, b27_33 hw]
      exact fin
    | false =>
      have hne : ¬ mo (pcn z) = Int32.ofNat (pcn z) := fun h => by have := (mo_eq (pcn z) (by omega) (pcn z) (by omega)).mp h; omega
      simp only [hc, Bool.false_eq_true, if_false, bo_f] at fin i3
      simp only [wi_some, or_0, or_1, bo_or, ite_boP, true_and, and_true, kN_v, kN_n, kT_v, kT_n, kT_e, Nat.add_zero, Nat.zero_add, b27_20 hw, gR_bestWay HS, gI_most HS, gF_most HS, gR_way HS, gR_aboard HS, gO HS, gA_280 HS, gW_280 HS, gA_281 HS, gW_281 HS, gA_282 HS, gW_282 HS, i3, hne, if_false, b27_33 hw]
      exact fin
end CA1
