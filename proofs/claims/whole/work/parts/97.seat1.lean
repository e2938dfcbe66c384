/-! ===== seating, the class's small one ===== -/
section C97
variable {nx : Nat} {xs : Nat → Int32} {d c s : Nat} {sh : List sC} {D : sD} {Q : av_Q}
variable {V : sD} {a nt ng nr nl : Nat}
def rmP (V : sD) (ab : Int32) (g t : Nat) : Bool := (stopB V g t && decide (ab &&& V 11 g = Int32.ofNat 0)) && decide (bc ab < V 14 t)
theorem k29 {g t : Nat} (hw : WT sh) (HS : SP sh) (H : St sh a) (hV : Vw D a V) (I : Iv V nt ng nr nl) (hg : g < ng) (ht : t < nr) : Wx (tP nx xs) (d + 1) 29 0 [some (.ref 279), some (.ref a), (some (.int (Int32.ofNat g))), (some (.int (Int32.ofNat t))), none] [] (mk sh D) c s Q = Q (.inl (some (.int (bo (rmP V (D 282 t) g t))))) (mk sh D) c s := by
  have hng := i_ng6 I
  have hnr := i_nr5 I
  have hg6 : g < 6 := by omega
  have ht5 : t < 5 := by omega
  simp only [b29_0 hw, gR_bestWay HS, gI_most HS, gF_most HS, gR_way HS, gR_aboard HS, gO HS, gA_280 HS, gW_280 HS, gA_281 HS, gW_281 HS, gA_282 HS, gW_282 HS, sR_things H, sI_goers H, sF_goers H, sR_wish H, sR_deed H, sI_makers H, sF_makers H, sR_born H, sR_money H, sR_nerve H, sR_shuns H, sR_by H, sI_trains H, sF_trains H, sR_halts H, sR_seats H, sI_texts H, sF_texts H, sI_law H, sF_law H, sI_day H, sF_day H, sI_seed H, sF_seed H, sR_log H, sO_state H, sI_count H, sF_count H, sI_first H, sF_first H, sR_at H, sR_worth H, sR_makes H, sR_hinders H, sO_things H, sI_rows H, sF_rows H, sR_entries H, sO_log H, sA_2 H, sW_2 H, sA_3 H, sW_3 H, sA_4 H, sW_4 H, sA_5 H, sW_5 H, sA_6 H, sW_6 H, sA_7 H, sW_7 H, sA_8 H, sW_8 H, sA_9 H, sW_9 H, sA_10 H, sW_10 H, sA_11 H, sW_11 H, sA_12 H, sW_12 H, sA_13 H, sW_13 H, sA_14 H, sW_14 H, sA_16 H, sW_16 H, wi_some, or_0, or_1, bo_or, ite_boP, true_and, and_true, kN_v, kN_n, kT_v, kT_n, kT_e, Nat.add_zero, Nat.zero_add, ht5, hg6, k42 hw H hV I hg ht, b29_14 hw, v_0 hV, v_1 hV, v_2 hV, v_3 hV, v_4 hV, v_5 hV, v_6 hV, v_7 hV, v_8 hV, v_9 hV, v_10 hV, v_11 hV, v_12 hV, v_13 hV, v_14 hV, v_15 hV, v_16 hV, k357 hw, b29_34 hw, b29_47 hw, b29_48 hw, true_or, or_true, true_and]
  unfold rmP
  cases stopB V g t with
  | false => simp [bo]
  | true =>
    by_cases h1 : D 282 t &&& V 11 g = Int32.ofNat 0
    · by_cases h2 : bc (D 282 t) < V 14 t
      · simp [h1, h2, bo]
      · simp [h1, h2, bo]
    · simp only [h1, if_true, if_false, decide_false, Bool.and_false, Bool.false_and, Bool.true_and, bo_f]
end C97
