/-! ===== WORLDS in the class ===== -/
def Wsh (sh : List sC) (w : Nat) : Prop := sh[w]? = some (Sum.inr (9, [w + 1 + 3, w + 2 + 3, 0, 0, w + 3 + 3, w + 4 + 3, w + 5 + 3, w + 6 + 3])) ∧ sh[w + 1]? = some (Sum.inl (0, 64)) ∧ sh[w + 2]? = some (Sum.inl (0, 64)) ∧ sh[w + 3]? = some (Sum.inl (0, 8)) ∧ sh[w + 4]? = some (Sum.inl (0, 8)) ∧ sh[w + 5]? = some (Sum.inl (0, 8)) ∧ sh[w + 6]? = some (Sum.inl (0, 8))
theorem Wsh_265 {sh : List sC} (H : SP sh) : Wsh sh 265 := ⟨(SP_get H (by decide)).trans rfl, (SP_get H (by decide)).trans rfl, (SP_get H (by decide)).trans rfl, (SP_get H (by decide)).trans rfl, (SP_get H (by decide)).trans rfl, (SP_get H (by decide)).trans rfl, (SP_get H (by decide)).trans rfl⟩
theorem Wsh_272 {sh : List sC} (H : SP sh) : Wsh sh 272 := ⟨(SP_get H (by decide)).trans rfl, (SP_get H (by decide)).trans rfl, (SP_get H (by decide)).trans rfl, (SP_get H (by decide)).trans rfl, (SP_get H (by decide)).trans rfl, (SP_get H (by decide)).trans rfl, (SP_get H (by decide)).trans rfl⟩
section L51
variable {sh : List sC} {D : sD} {w i : Nat}
theorem uR_so (H : Wsh sh w) : fR sh w 576 = some (w + 1) := fR_of H.1 rfl rfl
theorem uR_al (H : Wsh sh w) : fR sh w 577 = some (w + 2) := fR_of H.1 rfl rfl
theorem uI_c (H : Wsh sh w) : fI sh D w 578 = some (D w 2) := fI_of H.1 rfl (Nat.le_of_ble_eq_true rfl)
theorem uF_c (H : Wsh sh w) : oF sh w 578 = true := oF_of H.1 rfl (Nat.le_of_ble_eq_true rfl)
theorem uI_m (H : Wsh sh w) : fI sh D w 579 = some (D w 3) := fI_of H.1 rfl (Nat.le_of_ble_eq_true rfl)
theorem uF_m (H : Wsh sh w) : oF sh w 579 = true := oF_of H.1 rfl (Nat.le_of_ble_eq_true rfl)
theorem uR_or (H : Wsh sh w) : fR sh w 580 = some (w + 3) := fR_of H.1 rfl rfl
theorem uR_mb (H : Wsh sh w) : fR sh w 581 = some (w + 4) := fR_of H.1 rfl rfl
theorem uR_hb (H : Wsh sh w) : fR sh w 582 = some (w + 5) := fR_of H.1 rfl rfl
theorem uR_do (H : Wsh sh w) : fR sh w 583 = some (w + 6) := fR_of H.1 rfl rfl
theorem uO (H : Wsh sh w) : isO sh w 9 = true := isO_of H.1
theorem uA_1 (H : Wsh sh w) (hi : i < 64) : aI sh D (w + 1) (Int32.ofNat i) = some (D (w + 1) i) := aI_of (aN_of H.2.1) (by decide) hi
theorem uA_2 (H : Wsh sh w) (hi : i < 64) : aI sh D (w + 2) (Int32.ofNat i) = some (D (w + 2) i) := aI_of (aN_of H.2.2.1) (by decide) hi
theorem uA_3 (H : Wsh sh w) (hi : i < 8) : aI sh D (w + 3) (Int32.ofNat i) = some (D (w + 3) i) := aI_of (aN_of H.2.2.2.1) (by decide) hi
theorem uA_4 (H : Wsh sh w) (hi : i < 8) : aI sh D (w + 4) (Int32.ofNat i) = some (D (w + 4) i) := aI_of (aN_of H.2.2.2.2.1) (by decide) hi
theorem uA_5 (H : Wsh sh w) (hi : i < 8) : aI sh D (w + 5) (Int32.ofNat i) = some (D (w + 5) i) := aI_of (aN_of H.2.2.2.2.2.1) (by decide) hi
theorem uA_6 (H : Wsh sh w) (hi : i < 8) : aI sh D (w + 6) (Int32.ofNat i) = some (D (w + 6) i) := aI_of (aN_of H.2.2.2.2.2.2) (by decide) hi
theorem uW_1 (H : Wsh sh w) (hi : i < 64) : oA sh 0 (w + 1) (Int32.ofNat i) = true := oA_of (aN_of H.2.1) (by decide) hi
theorem uW_2 (H : Wsh sh w) (hi : i < 64) : oA sh 0 (w + 2) (Int32.ofNat i) = true := oA_of (aN_of H.2.2.1) (by decide) hi
theorem uW_3 (H : Wsh sh w) (hi : i < 8) : oA sh 0 (w + 3) (Int32.ofNat i) = true := oA_of (aN_of H.2.2.2.1) (by decide) hi
theorem uW_4 (H : Wsh sh w) (hi : i < 8) : oA sh 0 (w + 4) (Int32.ofNat i) = true := oA_of (aN_of H.2.2.2.2.1) (by decide) hi
theorem uW_5 (H : Wsh sh w) (hi : i < 8) : oA sh 0 (w + 5) (Int32.ofNat i) = true := oA_of (aN_of H.2.2.2.2.2.1) (by decide) hi
theorem uW_6 (H : Wsh sh w) (hi : i < 8) : oA sh 0 (w + 6) (Int32.ofNat i) = true := oA_of (aN_of H.2.2.2.2.2.2) (by decide) hi
end L51
theorem nS_mono (p : Nat → Bool) {n : Nat} : ∀ {m : Nat}, n ≤ m → nS p n ≤ nS p m
  | 0, h => by rw [show n = 0 by omega]; exact Nat.le_refl _
  | m + 1, h => by
    by_cases e : n = m + 1
    · rw [e]; exact Nat.le_refl _
    · rw [nS_succ]
      have := nS_mono p (n := n) (m := m) (by omega)
      omega
theorem getD_app1 {l : List Nat} {t i : Nat} : (l ++ [t]).getD i 0 = if i < l.length then l.getD i 0 else if i = l.length then t else 0 := by
  rw [List.getD_eq_getElem?_getD, List.getD_eq_getElem?_getD]
  by_cases h : i < l.length
  · rw [if_pos h, List.getElem?_append_left h]
  · rw [if_neg h, List.getElem?_append_right (by omega)]
    by_cases e : i = l.length
    · simp [e]
    · rw [if_neg e, List.getElem?_eq_none (by simp; omega)]
      rfl
section C51
variable {nx : Nat} {xs : Nat → Int32} {d c s : Nat} {sh : List sC} {D : sD} {Q : av_Q}
variable {V : sD} {a w nt ng nr nl g t : Nat}
/-- Arrays.fill -/
theorem k358 {b n : Nat} {v : Int32} (hw : WT sh) (hN : aN sh 0 b = some n) (hLn : aL sh b = some n) (hn : n < 1000)
    (kk : ∀ D', Ex b D D' → (∀ i, i < n → D' b i = v) → Q (.inl none) (mk sh D') c s) :
    Wx (tP nx xs) d 358 0 [some (.ref b), (some (.int (v))), none, none] [] (mk sh D) c s Q := by
  simp only [b358_0 hw, hLn, wi_some]
  refine up_P (W := fun i (_ : Nat) D => Wx (tP nx xs) d 358 5 [some (.ref b), (some (.int (v))), (some (.int (Int32.ofNat i))), (some (.int (Int32.ofNat n)))] [] (mk sh D) c s Q) (P := fun i _ D' => Ex b D D' ∧ ∀ j, j < i → D' b j = v) (F := fun _ x => x) n ?_ 0 D ⟨Ex.rf, fun j hj => by omega⟩ ?_
  · intro i _ D1 hi ⟨h1, h2⟩ k
    rw [b358_5 hw]
    simp only [b358_14 hw, oN_lt (show i < 2147483648 by omega) (show n < 2147483648 by omega), hi, if_true, oA_of hN (show n < 2147483648 by omega) hi, true_and, oN_tn (show i < 2147483648 by omega), oN_add]
    refine k _ ⟨h1.st, fun j hj => ?_⟩
    rw [u2_self]
    by_cases e : j = i
    · rw [if_pos e]
    · rw [if_neg e]; exact h2 j (by omega)
  · intro D1 ⟨h1, h2⟩
    simp only [b358_5 hw, oN_lt (show n < 2147483648 by omega) (show n < 2147483648 by omega), Nat.lt_irrefl, if_false]
    exact kk D1 h1 h2
theorem k85 (hw : WT sh) (H : St sh a) (hV : Vw D a V) (I : Iv V nt ng nr nl) (HW : Wsh sh w) (haw : a + 17 ≤ w) (hc : D w 2 = Int32.ofNat nt)
    (kk : ∀ D', Ex (w + 3) D D' → (∀ i, i < nt → D' (w + 3) i = Int32.ofNat ((oL V nt).getD i 0)) → Q (.inl none) (mk sh D') c s) :
    Wx (tP nx xs) d 85 0 [some (.ref w), some (.ref (a + 1)), none, none, none] [] (mk sh D) c s Q := by
  have hnt := i_nt8 I
  have hat : ∀ t, t < nt → ∃ n, n < 16 ∧ V 2 t = Int32.ofNat n := fun t ht => i_at I ht
  simp only [b85_0 hw]
  refine up_P (W := fun stop (l : List Nat) D => ∀ l4, Wx (tP nx xs) d 85 4 [some (.ref w), some (.ref (a + 1)), (some (.int (Int32.ofNat l.length))), (some (.int (Int32.ofNat stop))), l4] [] (mk sh D) c s Q) (P := fun stop l D' => l = fo (fun stop l => fo (fun t (l : List Nat) => if decide (V 2 t = Int32.ofNat stop) then l ++ [t] else l) nt 0 l) stop 0 [] ∧ Ex (w + 3) D D' ∧ ∀ i, i < l.length → D' (w + 3) i = Int32.ofNat (l.getD i 0)) (F := fun stop l => fo (fun t (l : List Nat) => if decide (V 2 t = Int32.ofNat stop) then l ++ [t] else l) nt 0 l) 16 ?_ [] D ⟨rfl, Ex.rf, fun i hi => by simp at hi⟩ ?_ none
  · intro stop l D1 hst ⟨e1, ex1, ar1⟩ k l4
    have hl : l.length = nS (fun t => decide ((V 2 t).toNatClampNeg < stop)) nt := by rw [e1]; exact oL_len hat stop (by omega)
    simp only [b85_4 hw, oN_lt (show stop < 2147483648 by omega) (show 16 < 2147483648 by omega), hst, if_true]
    refine up_P (W := fun t (l : List Nat) D => Wx (tP nx xs) d 85 13 [some (.ref w), some (.ref (a + 1)), (some (.int (Int32.ofNat l.length))), (some (.int (Int32.ofNat stop))), (some (.int (Int32.ofNat t)))] [] (mk sh D) c s Q) (P := fun t l' D' => l' = fo (fun t (l : List Nat) => if decide (V 2 t = Int32.ofNat stop) then l ++ [t] else l) t 0 l ∧ Ex (w + 3) D D' ∧ ∀ i, i < l'.length → D' (w + 3) i = Int32.ofNat (l'.getD i 0)) (F := fun t l => if decide (V 2 t = Int32.ofNat stop) then l ++ [t] else l) nt ?_ l D1 ⟨rfl, ex1, ar1⟩ ?_
    · intro t l2 D2 ht ⟨e2, ex2, ar2⟩ k2
      have hl2 : l2.length = l.length + nS (fun t => decide (V 2 t = Int32.ofNat stop)) t := by rw [e2]; exact oL_inner (nt := nt) l t (by omega)
      have ht8 : t < 8 := by omega
      have hV2 : Vw D2 a V := fun k i hk => by rw [ex2 _ (by omega)]; exact hV k i hk
      have hc2 : D2 w 2 = Int32.ofNat nt := by rw [ex2 _ (by omega)]; exact hc
      simp only [b85_13 hw, uI_c HW, sR_things H, sI_goers H, sF_goers H, sR_wish H, sR_deed H, sI_makers H, sF_makers H, sR_born H, sR_money H, sR_nerve H, sR_shuns H, sR_by H, sI_trains H, sF_trains H, sR_halts H, sR_seats H, sI_texts H, sF_texts H, sI_law H, sF_law H, sI_day H, sF_day H, sI_seed H, sF_seed H, sR_log H, sO_state H, sI_count H, sF_count H, sI_first H, sF_first H, sR_at H, sR_worth H, sR_makes H, sR_hinders H, sO_things H, sI_rows H, sF_rows H, sR_entries H, sO_log H, sA_2 H, sW_2 H, sA_3 H, sW_3 H, sA_4 H, sW_4 H, sA_5 H, sW_5 H, sA_6 H, sW_6 H, sA_7 H, sW_7 H, sA_8 H, sW_8 H, sA_9 H, sW_9 H, sA_10 H, sW_10 H, sA_11 H, sW_11 H, sA_12 H, sW_12 H, sA_13 H, sW_13 H, sA_14 H, sW_14 H, sA_16 H, sW_16 H, wi_some, or_0, or_1, bo_or, ite_boP, true_and, and_true, kN_v, kN_n, kT_v, kT_n, kT_e, Nat.add_zero, Nat.zero_add, v_0 hV2, v_1 hV2, v_2 hV2, v_3 hV2, v_4 hV2, v_5 hV2, v_6 hV2, v_7 hV2, v_8 hV2, v_9 hV2, v_10 hV2, v_11 hV2, v_12 hV2, v_13 hV2, v_14 hV2, v_15 hV2, v_16 hV2, hc2, oN_lt (show t < 2147483648 by omega) (show nt < 2147483648 by omega), ht, if_true, ht8]
      by_cases h : V 2 t = Int32.ofNat stop
      · have hlen : l2.length < 8 := by
          have h1 : nS (fun t => decide (V 2 t = Int32.ofNat stop)) (t + 1) ≤ nS (fun t => decide (V 2 t = Int32.ofNat stop)) nt := nS_mono _ (by omega)
          rw [nS_succ] at h1
          simp only [h, decide_true, if_true] at h1
          have h2 := nS_or (p := fun t => decide ((V 2 t).toNatClampNeg < stop)) (q := fun t => decide (V 2 t = Int32.ofNat stop)) (fun i ⟨h1, h2⟩ => by
            simp only [decide_eq_true_eq] at h1 h2
            rw [h2, oN_tn (by omega)] at h1
            omega) nt
          have h3 := nS_le (fun i => decide ((V 2 i).toNatClampNeg < stop) || decide (V 2 i = Int32.ofNat stop)) nt
          omega
        simp only [h, decide_true, if_true, oN_lt (show l2.length < 2147483648 by omega) (show 8 < 2147483648 by omega), hlen, uR_or HW, uW_3 HW hlen, wi_some, or_0, or_1, bo_or, ite_boP, true_and, and_true, kN_v, kN_n, kT_v, kT_n, kT_e, Nat.add_zero, Nat.zero_add, oN_tn (show l2.length < 2147483648 by omega), b85_47 hw, b85_50 hw, oN_add] at k2 ⊢
        have k2 := k2 (u2 D2 (w + 3) l2.length (Int32.ofNat t)) ⟨by rw [fo_snoc, Nat.zero_add, ← e2]; simp only [h, decide_true, if_true], ex2.st, fun i hi => by
          rw [u2_self, getD_app1]
          simp only [List.length_append, List.length_cons, List.length_nil] at hi
          by_cases e : i = l2.length
          · rw [if_pos e, if_neg (by omega), if_pos e]
          · rw [if_neg e, if_pos (by omega)]; exact ar2 i (by omega)⟩
        simpa only [List.length_append, List.length_cons, List.length_nil, Nat.zero_add] using k2
      · simp only [h, decide_false, Bool.false_eq_true, if_false, b85_50 hw, oN_add] at k2 ⊢
        exact k2 D2 ⟨by rw [fo_snoc, Nat.zero_add, ← e2]; simp only [h, decide_false, Bool.false_eq_true, if_false], ex2, ar2⟩
    · intro D2 ⟨e2, ex2, ar2⟩
      have hc2 : D2 w 2 = Int32.ofNat nt := by rw [ex2 _ (by omega)]; exact hc
      simp only [b85_13 hw, uI_c HW, wi_some, or_0, or_1, bo_or, ite_boP, true_and, and_true, kN_v, kN_n, kT_v, kT_n, kT_e, Nat.add_zero, Nat.zero_add, hc2, oN_lt (show nt < 2147483648 by omega) (show nt < 2147483648 by omega), Nat.lt_irrefl, if_false, oN_add]
      exact k D2 ⟨by rw [fo_snoc, Nat.zero_add, ← e1], ex2, ar2⟩ _
  · intro D1 ⟨e1, ex1, ar1⟩ l4
    simp only [b85_4 hw, oN_lt (show 16 < 2147483648 by omega) (show 16 < 2147483648 by omega), Nat.lt_irrefl, if_false]
    refine kk D1 ex1 fun i hi => ?_
    exact ar1 i (by have := oL_nt hat; unfold oL at this; omega)
def mbS (V : sD) (k nt t : Nat) : Int32 := bs (fun o => bt (V k o) t) nt
theorem k86 (hw : WT sh) (H : St sh a) (hV : Vw D a V) (I : Iv V nt ng nr nl) (HW : Wsh sh w) (haw : a + 17 ≤ w) (hc : D w 2 = Int32.ofNat nt)
    (kk : ∀ D', (∀ b, b ≠ w + 4 → b ≠ w + 5 → D' b = D b) → (∀ t, t < nt → D' (w + 4) t = mbS V 4 nt t ∧ D' (w + 5) t = mbS V 5 nt t) → Q (.inl none) (mk sh D') c s) :
    Wx (tP nx xs) d 86 0 [some (.ref w), some (.ref (a + 1)), none, none] [] (mk sh D) c s Q := by
  have hnt := i_nt8 I
  simp only [b86_0 hw]
  refine up_P (W := fun t (_ : Nat) D => ∀ l3, Wx (tP nx xs) d 86 2 [some (.ref w), some (.ref (a + 1)), (some (.int (Int32.ofNat t))), l3] [] (mk sh D) c s Q) (P := fun t _ D' => (∀ b, b ≠ w + 4 → b ≠ w + 5 → D' b = D b) ∧ ∀ t', t' < t → D' (w + 4) t' = mbS V 4 nt t' ∧ D' (w + 5) t' = mbS V 5 nt t') (F := fun _ x => x) nt ?_ 0 D ⟨fun _ _ _ => rfl, fun t' h => by omega⟩ ?_ none
  · intro t _ D1 ht ⟨f1, m1⟩ k l3
    have ht8 : t < 8 := by omega
    have hc1 : D1 w 2 = Int32.ofNat nt := by rw [f1 _ (by omega) (by omega)]; exact hc
    simp only [b86_2 hw, b86_17 hw, b86_24 hw, uI_c HW, uR_mb HW, uR_hb HW, wi_some, or_0, or_1, bo_or, ite_boP, true_and, and_true, kN_v, kN_n, kT_v, kT_n, kT_e, Nat.add_zero, Nat.zero_add, hc1, oN_lt (show t < 2147483648 by omega) (show nt < 2147483648 by omega), ht, if_true, uW_4 HW ht8, uW_5 HW ht8, oN_tn (show t < 2147483648 by omega)]
    refine up_P (W := fun o (_ : Nat) D => Wx (tP nx xs) d 86 26 [some (.ref w), some (.ref (a + 1)), (some (.int (Int32.ofNat t))), (some (.int (Int32.ofNat o)))] [] (mk sh D) c s Q) (P := fun o _ D' => (∀ b, b ≠ w + 4 → b ≠ w + 5 → D' b = D b) ∧ (∀ t', t' < t → D' (w + 4) t' = mbS V 4 nt t' ∧ D' (w + 5) t' = mbS V 5 nt t') ∧ D' (w + 4) t = mbS V 4 o t ∧ D' (w + 5) t = mbS V 5 o t) (F := fun _ x => x) nt ?_ 0 _ ⟨?_, ?_, ?_, ?_⟩ ?_
    · intro o _ D2 ho ⟨f2, m2, a4, a5⟩ k2
      have ho8 : o < 8 := by omega
      have hV2 : Vw D2 a V := fun k i hk => by rw [f2 _ (by omega) (by omega)]; exact hV k i hk
      have hc2 : D2 w 2 = Int32.ofNat nt := by rw [f2 _ (by omega) (by omega)]; exact hc
      have n54 : ¬ w + 5 = w + 4 := by omega
      have n55 : ¬ a + 5 = w + 4 := by omega
      rw [b86_26 hw]
      simp only [b86_55 hw, b86_76 hw, uI_c HW, uR_mb HW, uR_hb HW, sR_things H, sI_goers H, sF_goers H, sR_wish H, sR_deed H, sI_makers H, sF_makers H, sR_born H, sR_money H, sR_nerve H, sR_shuns H, sR_by H, sI_trains H, sF_trains H, sR_halts H, sR_seats H, sI_texts H, sF_texts H, sI_law H, sF_law H, sI_day H, sF_day H, sI_seed H, sF_seed H, sR_log H, sO_state H, sI_count H, sF_count H, sI_first H, sF_first H, sR_at H, sR_worth H, sR_makes H, sR_hinders H, sO_things H, sI_rows H, sF_rows H, sR_entries H, sO_log H, sA_2 H, sW_2 H, sA_3 H, sW_3 H, sA_4 H, sW_4 H, sA_5 H, sW_5 H, sA_6 H, sW_6 H, sA_7 H, sW_7 H, sA_8 H, sW_8 H, sA_9 H, sW_9 H, sA_10 H, sW_10 H, sA_11 H, sW_11 H, sA_12 H, sW_12 H, sA_13 H, sW_13 H, sA_14 H, sW_14 H, sA_16 H, sW_16 H, wi_some, or_0, or_1, bo_or, ite_boP, true_and, and_true, kN_v, kN_n, kT_v, kT_n, kT_e, Nat.add_zero, Nat.zero_add, v_0 hV2, v_1 hV2, v_2 hV2, v_3 hV2, v_4 hV2, v_5 hV2, v_6 hV2, v_7 hV2, v_8 hV2, v_9 hV2, v_10 hV2, v_11 hV2, v_12 hV2, v_13 hV2, v_14 hV2, v_15 hV2, v_16 hV2, hc2, oN_lt (show o < 2147483648 by omega) (show nt < 2147483648 by omega), ho, if_true, uA_4 HW ht8, uA_5 HW ht8, uW_4 HW ht8, uW_5 HW ht8, ho8, oN_tn (show t < 2147483648 by omega), u2_o, n54, n55, not_false_eq_true, a4, a5, jshr_b (show t < 32 by omega), or_bo, oN_add]
      refine k2 _ ⟨?_, ?_, ?_, ?_⟩
      · intro b h1 h2
        rw [← f2 b h1 h2]
        funext j
        simp only [u2_at]
        rw [if_neg (by omega), if_neg (by omega)]
      · intro t' ht'
        simp only [u2_at]
        rw [if_neg (by omega), if_neg (by omega), if_neg (by omega), if_neg (by omega)]
        exact m2 t' ht'
      · rw [u2_at, if_neg (by omega), u2_at, if_pos ⟨rfl, rfl⟩]
        unfold mbS
        rw [bs_succ]
      · rw [u2_at, if_pos ⟨rfl, rfl⟩]
        unfold mbS
        rw [bs_succ]
    · intro b h1 h2
      rw [← f1 b h1 h2]
      funext j
      simp only [u2_at]
      rw [if_neg (by omega), if_neg (by omega)]
    · intro t' ht'
      simp only [u2_at]
      rw [if_neg (by omega), if_neg (by omega), if_neg (by omega), if_neg (by omega)]
      exact m1 t' ht'
    · rw [u2_at, if_neg (by omega), u2_at, if_pos ⟨rfl, rfl⟩]
      rfl
    · rw [u2_at, if_pos ⟨rfl, rfl⟩]
      rfl
    · intro D2 ⟨f2, m2, a4, a5⟩
      have hc2 : D2 w 2 = Int32.ofNat nt := by rw [f2 _ (by omega) (by omega)]; exact hc
      simp only [b86_26 hw, uI_c HW, wi_some, or_0, or_1, bo_or, ite_boP, true_and, and_true, kN_v, kN_n, kT_v, kT_n, kT_e, Nat.add_zero, Nat.zero_add, hc2, oN_lt (show nt < 2147483648 by omega) (show nt < 2147483648 by omega), Nat.lt_irrefl, if_false, oN_add]
      refine k D2 ⟨f2, fun t' ht' => ?_⟩ _
      by_cases e : t' = t
      · subst e; exact ⟨a4, a5⟩
      · exact m2 t' (by omega)
  · intro D1 ⟨f1, m1⟩ l3
    have hc1 : D1 w 2 = Int32.ofNat nt := by rw [f1 _ (by omega) (by omega)]; exact hc
    simp only [b86_2 hw, uI_c HW, wi_some, or_0, or_1, bo_or, ite_boP, true_and, and_true, kN_v, kN_n, kT_v, kT_n, kT_e, Nat.add_zero, Nat.zero_add, hc1, oN_lt (show nt < 2147483648 by omega) (show nt < 2147483648 by omega), Nat.lt_irrefl, if_false]
    exact kk D1 f1 m1
def doP (V : sD) (t g : Nat) : Bool := decide (V 7 g = Int32.ofNat t) && decide (¬ V 2 t < V 6 g)
theorem k87 (hw : WT sh) (H : St sh a) (hV : Vw D a V) (I : Iv V nt ng nr nl) (HW : Wsh sh w) (haw : a + 17 ≤ w)
    (kk : ∀ D', Ex (w + 6) D D' → (∀ t, t < nt → D' (w + 6) t = bs (doP V t) ng) → Q (.inl none) (mk sh D') c s) :
    Wx (tP nx xs) (d + 1) 87 0 [some (.ref w), some (.ref a), none, none] [] (mk sh D) c s Q := by
  have hnt := i_nt8 I
  have hng := i_ng6 I
  simp only [b87_0 hw, uR_do HW, wi_some]
  refine k358 (n := 8) hw (aN_of HW.2.2.2.2.2.2) (aL_of HW.2.2.2.2.2.2 (by decide)) (by decide) ?_
  intro D0 f0 z0
  simp only [wi_some, or_0, or_1, bo_or, ite_boP, true_and, and_true, kN_v, kN_n, kT_v, kT_n, kT_e, Nat.add_zero, Nat.zero_add, b87_8 hw]
  refine up_P (W := fun g (_ : Nat) D => ∀ l3, Wx (tP nx xs) (d + 1) 87 10 [some (.ref w), some (.ref a), (some (.int (Int32.ofNat g))), l3] [] (mk sh D) c s Q) (P := fun g _ D' => Ex (w + 6) D D' ∧ ∀ t, t < nt → D' (w + 6) t = bs (doP V t) g) (F := fun _ x => x) ng ?_ 0 D0 ⟨f0, fun t ht => z0 t (by omega)⟩ ?_ none
  · intro g _ D1 hg ⟨f1, m1⟩ k l3
    have hg6 : g < 6 := by omega
    have hV1 : Vw D1 a V := fun k i hk => by rw [f1 _ (by omega)]; exact hV k i hk
    simp only [b87_10 hw, uR_do HW, sR_things H, sI_goers H, sF_goers H, sR_wish H, sR_deed H, sI_makers H, sF_makers H, sR_born H, sR_money H, sR_nerve H, sR_shuns H, sR_by H, sI_trains H, sF_trains H, sR_halts H, sR_seats H, sI_texts H, sF_texts H, sI_law H, sF_law H, sI_day H, sF_day H, sI_seed H, sF_seed H, sR_log H, sO_state H, sI_count H, sF_count H, sI_first H, sF_first H, sR_at H, sR_worth H, sR_makes H, sR_hinders H, sO_things H, sI_rows H, sF_rows H, sR_entries H, sO_log H, sA_2 H, sW_2 H, sA_3 H, sW_3 H, sA_4 H, sW_4 H, sA_5 H, sW_5 H, sA_6 H, sW_6 H, sA_7 H, sW_7 H, sA_8 H, sW_8 H, sA_9 H, sW_9 H, sA_10 H, sW_10 H, sA_11 H, sW_11 H, sA_12 H, sW_12 H, sA_13 H, sW_13 H, sA_14 H, sW_14 H, sA_16 H, sW_16 H, wi_some, or_0, or_1, bo_or, ite_boP, true_and, and_true, kN_v, kN_n, kT_v, kT_n, kT_e, Nat.add_zero, Nat.zero_add, v_0 hV1, v_1 hV1, v_2 hV1, v_3 hV1, v_4 hV1, v_5 hV1, v_6 hV1, v_7 hV1, v_8 hV1, v_9 hV1, v_10 hV1, v_11 hV1, v_12 hV1, v_13 hV1, v_14 hV1, v_15 hV1, v_16 hV1, i_ng I, oN_lt (show g < 2147483648 by omega) (show ng < 2147483648 by omega), hg, if_true, hg6]
    rcases i_deed I hg with hd | ⟨t, ht, hd⟩
    · simp only [hd, if_true, b87_60 hw, oN_add]
      refine k D1 ⟨f1, fun t' ht' => ?_⟩ _
      have hp : doP V t' g = false := by
        unfold doP
        have : ¬ V 7 g = Int32.ofNat t' := by
          rw [hd]
          intro e
          have h1 := oN_ne1 (show t' < 2147483648 by omega)
          rw [← h1]
          exact e.symm
        simp only [this, decide_false, Bool.false_and]
      rw [bs_succ, hp, m1 t' ht']
      rfl
    · have ht8 : t < 8 := by omega
      have hd1 : ¬ Int32.ofNat t = -1 := by rw [oN_ne1 (by omega)]; exact id
      simp only [hd, hd1, if_false, ht8, sR_things H, sI_goers H, sF_goers H, sR_wish H, sR_deed H, sI_makers H, sF_makers H, sR_born H, sR_money H, sR_nerve H, sR_shuns H, sR_by H, sI_trains H, sF_trains H, sR_halts H, sR_seats H, sI_texts H, sF_texts H, sI_law H, sF_law H, sI_day H, sF_day H, sI_seed H, sF_seed H, sR_log H, sO_state H, sI_count H, sF_count H, sI_first H, sF_first H, sR_at H, sR_worth H, sR_makes H, sR_hinders H, sO_things H, sI_rows H, sF_rows H, sR_entries H, sO_log H, sA_2 H, sW_2 H, sA_3 H, sW_3 H, sA_4 H, sW_4 H, sA_5 H, sW_5 H, sA_6 H, sW_6 H, sA_7 H, sW_7 H, sA_8 H, sW_8 H, sA_9 H, sW_9 H, sA_10 H, sW_10 H, sA_11 H, sW_11 H, sA_12 H, sW_12 H, sA_13 H, sW_13 H, sA_14 H, sW_14 H, sA_16 H, sW_16 H, uA_6 HW ht8, uW_6 HW ht8, wi_some, or_0, or_1, bo_or, ite_boP, true_and, and_true, kN_v, kN_n, kT_v, kT_n, kT_e, Nat.add_zero, Nat.zero_add, v_0 hV1, v_1 hV1, v_2 hV1, v_3 hV1, v_4 hV1, v_5 hV1, v_6 hV1, v_7 hV1, v_8 hV1, v_9 hV1, v_10 hV1, v_11 hV1, v_12 hV1, v_13 hV1, v_14 hV1, v_15 hV1, v_16 hV1, oN_tn (show t < 2147483648 by omega)]
      by_cases hat : V 2 t < V 6 g
      · simp only [hat, if_true, b87_60 hw, oN_add]
        refine k D1 ⟨f1, fun t' ht' => ?_⟩ _
        have hp : doP V t' g = false := by
          unfold doP
          by_cases e : t' = t
          · subst e; simp only [hat, not_true_eq_false, decide_false, Bool.and_false]
          · have : ¬ V 7 g = Int32.ofNat t' := by rw [hd, oN_eq (by omega) (by omega)]; exact fun h => e h.symm
            simp only [this, decide_false, Bool.false_and]
        rw [bs_succ, hp, m1 t' ht']
        rfl
      · simp only [hat, if_false, b87_60 hw, oN_add]
        refine k _ ⟨f1.st, fun t' ht' => ?_⟩ _
        rw [u2_self, bs_succ]
        by_cases e : t' = t
        · subst e
          have hp : doP V t' g = true := by unfold doP; simp only [hd, hat, not_false_eq_true, decide_true, Bool.and_self]
          rw [if_pos rfl, hp, m1 t' ht']
          rfl
        · have hp : doP V t' g = false := by
            unfold doP
            have : ¬ V 7 g = Int32.ofNat t' := by rw [hd, oN_eq (by omega) (by omega)]; exact fun h => e h.symm
            simp only [this, decide_false, Bool.false_and]
          rw [if_neg e, hp, m1 t' ht']
          rfl
  · intro D1 ⟨f1, m1⟩ l3
    have hV1 : Vw D1 a V := fun k i hk => by rw [f1 _ (by omega)]; exact hV k i hk
    simp only [b87_10 hw, sR_things H, sI_goers H, sF_goers H, sR_wish H, sR_deed H, sI_makers H, sF_makers H, sR_born H, sR_money H, sR_nerve H, sR_shuns H, sR_by H, sI_trains H, sF_trains H, sR_halts H, sR_seats H, sI_texts H, sF_texts H, sI_law H, sF_law H, sI_day H, sF_day H, sI_seed H, sF_seed H, sR_log H, sO_state H, sI_count H, sF_count H, sI_first H, sF_first H, sR_at H, sR_worth H, sR_makes H, sR_hinders H, sO_things H, sI_rows H, sF_rows H, sR_entries H, sO_log H, sA_2 H, sW_2 H, sA_3 H, sW_3 H, sA_4 H, sW_4 H, sA_5 H, sW_5 H, sA_6 H, sW_6 H, sA_7 H, sW_7 H, sA_8 H, sW_8 H, sA_9 H, sW_9 H, sA_10 H, sW_10 H, sA_11 H, sW_11 H, sA_12 H, sW_12 H, sA_13 H, sW_13 H, sA_14 H, sW_14 H, sA_16 H, sW_16 H, wi_some, or_0, or_1, bo_or, ite_boP, true_and, and_true, kN_v, kN_n, kT_v, kT_n, kT_e, Nat.add_zero, Nat.zero_add, v_0 hV1, v_1 hV1, v_2 hV1, v_3 hV1, v_4 hV1, v_5 hV1, v_6 hV1, v_7 hV1, v_8 hV1, v_9 hV1, v_10 hV1, v_11 hV1, v_12 hV1, v_13 hV1, v_14 hV1, v_15 hV1, v_16 hV1, i_ng I, oN_lt (show ng < 2147483648 by omega) (show ng < 2147483648 by omega), Nat.lt_irrefl, if_false]
    exact kk D1 f1 m1
theorem k89 {x : Int32} (hw : WT sh) (HW : Wsh sh w) : Wx (tP nx xs) d 89 0 [some (.ref w), (some (.int (x))), none] [] (mk sh D) c s Q = Q (.inl (some (.int (bo (match lastG (bt x) 6 with
    | some g => bt (D w 3) g
    | none => false))))) (mk sh D) c s := by
  simp only [b89_0 hw]
  have lp : ∀ n, n ≤ 6 → Wx (tP nx xs) d 89 2 [some (.ref w), (some (.int (x))), (some (.int (tpn n)))] [] (mk sh D) c s Q = Q (.inl (some (.int (bo (match lastG (bt x) n with
    | some g => bt (D w 3) g
    | none => false))))) (mk sh D) c s := by
    intro n
    induction n with
    | zero =>
      intro _
      rw [b89_2 hw, if_pos ((tpn_lt0 0 (by decide)).mpr rfl)]
      rfl
    | succ n ih =>
      intro hn
      have h0 : ¬ Int32.ofNat n < Int32.ofNat 0 := oN_nn (by omega)
      have hm : Int32.ofNat n + (-1) = tpn n := rfl
      rw [b89_2 hw]
      simp only [tpn_1, h0, if_false, jshr_b (show n < 32 by omega), wi_some, or_0, or_1, bo_or, ite_boP, true_and, and_true, kN_v, kN_n, kT_v, kT_n, kT_e, Nat.add_zero, Nat.zero_add, hm, uI_m HW, b89_30 hw]
      simp only [lastG]
      by_cases h : bt x n = true
      · simp only [h, if_true]
        cases bt (D w 3) n <;> rfl
      · simp only [h, if_false]
        exact ih (by omega)
  exact lp 6 (Nat.le_refl _)
end C51
