/-! ===== texts: the class's tape ===== -/
def TpC (b : Nat → Nat) (n : Nat) (D : sD) (p : Nat) : Prop := D 1 2 = Int32.ofNat p ∧ D 1 4 = Int32.ofNat n ∧ ∀ i, i < n → D 2 i = Int32.ofNat (b i)
/-- the tape's place, number and begin alone have changed -/
def F1 (D D' : sD) : Prop := ∀ a i, ¬ (a = 1 ∧ (i = 2 ∨ i = 3 ∨ i = 5)) → D' a i = D a i
theorem F1.rf {D : sD} : F1 D D := fun _ _ _ => rfl
theorem F1.tr {D D' D'' : sD} (h : F1 D D') (h' : F1 D' D'') : F1 D D'' := fun a i h1 => (h' a i h1).trans (h a i h1)
theorem TpC.f1 {b : Nat → Nat} {n p p' : Nat} {D D' : sD} (h : TpC b n D p) (f : F1 D D') (e : D' 1 2 = Int32.ofNat p') : TpC b n D' p' := ⟨e, by rw [f 1 4 (by omega)]; exact h.2.1, fun i hi => by rw [f 2 i (by omega)]; exact h.2.2 i hi⟩
def isTx (i f : Nat) (w : List Nat) : Bool := decide (f + w.length ≤ (tTx.getD i []).length) && (decide (1 ≤ w.length) && (List.range w.length).all fun j => decide ((tTx.getD i []).getD (f + j) 0 = Int32.ofNat (w.getD j 0)) && (decide (97 ≤ w.getD j 0) && decide (w.getD j 0 ≤ 122)))
theorem isTx_of {i f : Nat} {w : List Nat} (h : isTx i f w = true) : f + w.length ≤ (tTx.getD i []).length ∧ 1 ≤ w.length ∧ ∀ j, j < w.length → (tTx.getD i []).getD (f + j) 0 = Int32.ofNat (w.getD j 0) ∧ 97 ≤ w.getD j 0 ∧ w.getD j 0 ≤ 122 := by
  unfold isTx at h
  simp only [Bool.and_eq_true, decide_eq_true_eq, List.all_eq_true, List.mem_range] at h
  exact h
def isTs (i : Nat) : Nat → List (List Nat) → Bool
  | f, [] => decide (f = (tTx.getD i []).length + 1)
  | f, w :: ws => isTx i f w && ((decide (f + w.length = (tTx.getD i []).length) || decide ((tTx.getD i []).getD (f + w.length) 0 = Int32.ofNat 32)) && isTs i (f + w.length + 1) ws)
theorem tx_len : ∀ i, i < 80 → (tTx.getD i []).length < 100 := by decide +kernel
section CB1
variable {nx : Nat} {xs : Nat → Int32} {d c s : Nat} {sh : List sC} {D : sD} {Q : av_Q}
variable {b : Nat → Nat} {n p : Nat}
theorem k67 {q : Nat} (hw : WT sh) (HS : SP sh) (tb : TB b n) (h4 : D 1 4 = Int32.ofNat n) (h2 : ∀ i, i < n → D 2 i = Int32.ofNat (b i)) (hq : q ≤ n)
    (kk : ∀ D', (∀ a i, ¬ (a = 1 ∧ (i = 2 ∨ i = 5)) → D' a i = D a i) → D' 1 2 = Int32.ofNat (sk b n q) → D' 1 5 = D 1 2 → Q (.inl none) (mk sh D') c s) :
    Wx (tP nx xs) d 67 0 [some (.ref 1), (some (.int (Int32.ofNat q)))] [] (mk sh D) c s Q := by
  have hn := tb.1
  simp only [b67_0 hw, b67_8 hw, pR_bytes HS, pI_length HS, pF_length HS, pI_place HS, pF_place HS, pI_number HS, pF_number HS, pI_textLength HS, pF_textLength HS, pI_begin HS, pF_begin HS, pO HS, pA_2 HS, pW_2 HS, wi_some, or_0, or_1, bo_or, ite_boP, true_and, and_true, kN_v, kN_n, kT_v, kT_n, kT_e, Nat.add_zero, Nat.zero_add]
  have lp : ∀ r q' (D1 : sD), n - q' = r → q' ≤ n → sk b n q' = sk b n q → (∀ a i, ¬ (a = 1 ∧ (i = 2 ∨ i = 5)) → D1 a i = D a i) → D1 1 2 = Int32.ofNat q' → D1 1 5 = D 1 2 → Wx (tP nx xs) d 67 13 [some (.ref 1), (some (.int (Int32.ofNat q)))] [] (mk sh D1) c s Q := by
    intro r
    induction r with
    | zero =>
      intro q' D1 hr hq' hs f1 e2 e5
      have en : q' = n := by omega
      have es : sk b n q' = q' := ru_self (by
        cases hb : isB b n 32 32 q' with
        | false => rfl
        | true => have := isB_lt hb; omega)
      rw [b67_13 hw]
      simp only [pR_bytes HS, pI_length HS, pF_length HS, pI_place HS, pF_place HS, pI_number HS, pF_number HS, pI_textLength HS, pF_textLength HS, pI_begin HS, pF_begin HS, pO HS, pA_2 HS, pW_2 HS, wi_some, or_0, or_1, bo_or, ite_boP, true_and, and_true, kN_v, kN_n, kT_v, kT_n, kT_e, Nat.add_zero, Nat.zero_add, e2, f1 1 4 (by omega), h4, oN_lt (show q' < 2147483648 by omega) (show n < 2147483648 by omega), show ¬ q' < n by omega, if_false, b67_51 hw]
      exact kk D1 f1 (by rw [e2, ← hs, es]) e5
    | succ r ih =>
      intro q' D1 hr hq' hs f1 e2 e5
      have hqn : q' < n := by omega
      have hq4 : q' < 400 := by omega
      have hb256 := tb.2 q' hqn
      rw [b67_13 hw]
      simp only [pR_bytes HS, pI_length HS, pF_length HS, pI_place HS, pF_place HS, pI_number HS, pF_number HS, pI_textLength HS, pF_textLength HS, pI_begin HS, pF_begin HS, pO HS, pA_2 HS, pW_2 HS, wi_some, or_0, or_1, bo_or, ite_boP, true_and, and_true, kN_v, kN_n, kT_v, kT_n, kT_e, Nat.add_zero, Nat.zero_add, e2, f1 1 4 (by omega), h4, oN_lt (show q' < 2147483648 by omega) (show n < 2147483648 by omega), hqn, if_true, hq4, f1 2 q' (by omega), h2 q' hqn, oN_eq (show b q' < 2147483648 by omega) (show 32 < 2147483648 by omega)]
      by_cases h32 : b q' = 32
      · have hB : isB b n 32 32 q' = true := isB_iff.mpr ⟨hqn, by omega, by omega⟩
        simp only [h32, if_true, b67_48 hw, oN_add]
        refine ih (q' + 1) _ (by omega) (by omega) (by rw [← hs]; exact (ru_step hB).symm) (fun a i h => by rw [u2_at, if_neg (by omega)]; exact f1 a i h) (by rw [u2_at, if_pos ⟨rfl, rfl⟩]) (by rw [u2_at, if_neg (by omega)]; exact e5)
      · have es : sk b n q' = q' := ru_self (by
          cases hB : isB b n 32 32 q' with
          | false => rfl
          | true => have := isB_iff.mp hB; omega)
        simp only [h32, if_false, b67_51 hw]
        exact kk D1 f1 (by rw [e2, ← hs, es]) e5
  exact lp (n - q) q _ rfl hq rfl (fun a i h => by rw [u2_at, if_neg (by omega), u2_at, if_neg (by omega)]) (by rw [u2_at, if_pos ⟨rfl, rfl⟩]) (by rw [u2_at, if_neg (by omega), u2_at, if_pos ⟨rfl, rfl⟩])
theorem k67t {q : Nat} (hw : WT sh) (HS : SP sh) (tb : TB b n) (tc : TpC b n D p) (hq : q ≤ n)
    (kk : ∀ D', F1 D D' → TpC b n D' (sk b n q) → D' 1 3 = D 1 3 → D' 1 5 = Int32.ofNat p → Q (.inl none) (mk sh D') c s) :
    Wx (tP nx xs) d 67 0 [some (.ref 1), (some (.int (Int32.ofNat q)))] [] (mk sh D) c s Q :=
  k67 hw HS tb tc.2.1 tc.2.2 hq fun D' f e2 e5 => kk D' (fun a i h => f a i (by omega)) (tc.f1 (fun a i h => f a i (by omega)) e2) (f 1 3 (by omega)) (by rw [e5]; exact tc.1)
theorem k66 (hw : WT sh) (HS : SP sh) (tb : TB b n) (tc : TpC b n D p) (hp : p ≤ n) : Wx (tP nx xs) d 66 0 [some (.ref 1)] [] (mk sh D) c s Q = Q (.inl (some (.int (bo (decide (p = n)))))) (mk sh D) c s := by
  have hn := tb.1
  rw [b66_0 hw]
  simp only [pR_bytes HS, pI_length HS, pF_length HS, pI_place HS, pF_place HS, pI_number HS, pF_number HS, pI_textLength HS, pF_textLength HS, pI_begin HS, pF_begin HS, pO HS, pA_2 HS, pW_2 HS, wi_some, or_0, or_1, bo_or, ite_boP, true_and, and_true, kN_v, kN_n, kT_v, kT_n, kT_e, Nat.add_zero, Nat.zero_add, tc.1, tc.2.1, oN_lt (show p < 2147483648 by omega) (show n < 2147483648 by omega), b66_16 hw]
  by_cases h : p < n
  · simp only [h, if_true, show ¬ p = n by omega, decide_false, bo_f, or_0, true_and]
  · have e : p = n := by omega
    simp only [h, if_false, decide_eq_true e, bo_t, or_1, true_and]
theorem k69 {ch : Nat} (hw : WT sh) (HS : SP sh) (tb : TB b n) (tc : TpC b n D p) (hp : p ≤ n) (hch : ch < 256)
    (ky : ∀ p' D', sgq b n ch p = some p' → F1 D D' → TpC b n D' p' → D' 1 3 = D 1 3 → D' 1 5 = Int32.ofNat p → Q (.inl (some (.int (Int32.ofNat 1)))) (mk sh D') c s)
    (kn : sgq b n ch p = none → Q (.inl (some (.int (Int32.ofNat 0)))) (mk sh D) c s) :
    Wx (tP nx xs) (d + 1) 69 0 [some (.ref 1), (some (.int (Int32.ofNat ch)))] [] (mk sh D) c s Q := by
  have hn := tb.1
  unfold sgq at ky kn
  rw [b69_0 hw]
  simp only [pR_bytes HS, pI_length HS, pF_length HS, pI_place HS, pF_place HS, pI_number HS, pF_number HS, pI_textLength HS, pF_textLength HS, pI_begin HS, pF_begin HS, pO HS, pA_2 HS, pW_2 HS, wi_some, or_0, or_1, bo_or, ite_boP, true_and, and_true, kN_v, kN_n, kT_v, kT_n, kT_e, Nat.add_zero, Nat.zero_add, tc.1, tc.2.1, oN_lt (show p < 2147483648 by omega) (show n < 2147483648 by omega)]
  by_cases h : p < n
  · have hb256 := tb.2 p h
    have hp4 : p < 400 := by omega
    simp only [h, if_true, pR_bytes HS, pI_length HS, pF_length HS, pI_place HS, pF_place HS, pI_number HS, pF_number HS, pI_textLength HS, pF_textLength HS, pI_begin HS, pF_begin HS, pO HS, pA_2 HS, pW_2 HS, wi_some, or_0, or_1, bo_or, ite_boP, true_and, and_true, kN_v, kN_n, kT_v, kT_n, kT_e, Nat.add_zero, Nat.zero_add, hp4, tc.2.2 p h, oN_eq (show b p < 2147483648 by omega) (show ch < 2147483648 by omega)]
    by_cases e : b p = ch
    · have hB : isB b n ch ch p = true := isB_iff.mpr ⟨h, by omega, by omega⟩
      simp only [e, if_true, pR_bytes HS, pI_length HS, pF_length HS, pI_place HS, pF_place HS, pI_number HS, pF_number HS, pI_textLength HS, pF_textLength HS, pI_begin HS, pF_begin HS, pO HS, pA_2 HS, pW_2 HS, wi_some, or_0, or_1, bo_or, ite_boP, true_and, and_true, kN_v, kN_n, kT_v, kT_n, kT_e, Nat.add_zero, Nat.zero_add, tc.1, oN_add]
      refine k67t hw HS tb tc (by omega) ?_
      intro D' f t e3 e5
      simp only [wi_some, or_0, or_1, bo_or, ite_boP, true_and, and_true, kN_v, kN_n, kT_v, kT_n, kT_e, Nat.add_zero, Nat.zero_add, b69_36 hw]
      exact ky _ D' (by rw [hB, if_pos rfl]) f t e3 e5
    · have hB : isB b n ch ch p = false := by
        cases hB : isB b n ch ch p with
        | false => rfl
        | true => have := isB_iff.mp hB; omega
      simp only [e, if_false, b69_24 hw]
      exact kn (by rw [hB]; rfl)
  · have hB : isB b n ch ch p = false := by
      cases hB : isB b n ch ch p with
      | false => rfl
      | true => have := isB_iff.mp hB; omega
    simp only [h, if_false, b69_24 hw]
    exact kn (by rw [hB]; rfl)
theorem k72 {i f : Nat} {w : List Nat} (hw : WT sh) (HS : SP sh) (tb : TB b n) (tc : TpC b n D p) (hp : p ≤ n) (hi : i < 80) (hx : isTx i f w = true) :
    Wx (tP nx xs) d 72 0 [some (.ref 1), some (.retAddr (i + 1)), (some (.int (Int32.ofNat f))), (some (.int (Int32.ofNat (f + w.length)))), none, none] [] (mk sh D) c s Q = Q (.inl (some (.int (bo (isW b n w p))))) (mk sh D) c s := by
  have hn := tb.1
  obtain ⟨x1, x2, x3⟩ := isTx_of hx
  have x4 := tx_len i hi
  have wc := isW_c (b := b) (n := n) (p := p) (fun j hj => (x3 j hj).2)
  have es : Int32.ofNat p + Int32.ofNat (f + w.length) - Int32.ofNat f = Int32.ofNat (p + w.length) := by
    rw [oN_add, oN_sub (by omega), show p + (f + w.length) - f = p + w.length by omega]
  rw [b72_0 hw]
  simp only [pR_bytes HS, pI_length HS, pF_length HS, pI_place HS, pF_place HS, pI_number HS, pF_number HS, pI_textLength HS, pF_textLength HS, pI_begin HS, pF_begin HS, pO HS, pA_2 HS, pW_2 HS, wi_some, or_0, or_1, bo_or, ite_boP, true_and, and_true, kN_v, kN_n, kT_v, kT_n, kT_e, Nat.add_zero, Nat.zero_add, tc.1, tc.2.1, es, oN_lt (show n < 2147483648 by omega) (show p + w.length < 2147483648 by omega)]
  by_cases h : n < p + w.length
  · have : isW b n w p = false := by
      cases hW : isW b n w p with
      | false => rfl
      | true =>
        rcases wc.mp hW with h1 | h1
        · omega
        · omega
    simp only [h, if_true, this, bo_f]
  · simp only [h, if_false]
    have lp : ∀ r j, j + r = w.length → (∀ m, m < j → b (p + m) = w.getD m 0) → Wx (tP nx xs) d 72 24 [some (.ref 1), some (.retAddr (i + 1)), (some (.int (Int32.ofNat f))), (some (.int (Int32.ofNat (f + w.length)))), (some (.int (Int32.ofNat (p + w.length)))), (some (.int (Int32.ofNat (f + j))))] [] (mk sh D) c s Q = Q (.inl (some (.int (bo (isW b n w p))))) (mk sh D) c s := by
      intro r
      induction r with
      | zero =>
        intro j hj hm
        have ej : j = w.length := by omega
        subst ej
        rw [b72_24 hw]
        simp only [oN_lt (show f + w.length < 2147483648 by omega) (show f + w.length < 2147483648 by omega), Nat.lt_irrefl, if_false, pR_bytes HS, pI_length HS, pF_length HS, pI_place HS, pF_place HS, pI_number HS, pF_number HS, pI_textLength HS, pF_textLength HS, pI_begin HS, pF_begin HS, pO HS, pA_2 HS, pW_2 HS, wi_some, or_0, or_1, bo_or, ite_boP, true_and, and_true, kN_v, kN_n, kT_v, kT_n, kT_e, Nat.add_zero, Nat.zero_add, tc.2.1, oN_lt (show p + w.length < 2147483648 by omega) (show n < 2147483648 by omega)]
        have fin : isW b n w p = !isB b n 97 122 (p + w.length) := by
          cases hB : isB b n 97 122 (p + w.length) with
          | false => exact wc.mpr (Or.inl ⟨by omega, hm, hB⟩)
          | true =>
            cases hW : isW b n w p with
            | false => rfl
            | true =>
              rcases wc.mp hW with h1 | h1
              · rw [h1.2.2] at hB; cases hB
              · omega
        rw [fin]
        by_cases h1 : p + w.length < n
        · have hb256 := tb.2 _ h1
          have hp4 : p + w.length < 400 := by omega
          simp only [h1, if_true, pR_bytes HS, pI_length HS, pF_length HS, pI_place HS, pF_place HS, pI_number HS, pF_number HS, pI_textLength HS, pF_textLength HS, pI_begin HS, pF_begin HS, pO HS, pA_2 HS, pW_2 HS, wi_some, or_0, or_1, bo_or, ite_boP, true_and, and_true, kN_v, kN_n, kT_v, kT_n, kT_e, Nat.add_zero, Nat.zero_add, hp4, tc.2.2 _ h1, oN_lt (show b (p + w.length) < 2147483648 by omega) (show 97 < 2147483648 by omega), oN_lt (show 122 < 2147483648 by omega) (show b (p + w.length) < 2147483648 by omega), b72_98 hw, b72_99 hw, b72_111 hw]
          unfold isB
          by_cases h2 : b (p + w.length) < 97
          · simp only [h2, if_true, show ¬ 97 ≤ b (p + w.length) by omega, decide_false, Bool.false_and, Bool.and_false, Bool.not_false, bo_t, or_1, true_and]
          · by_cases h3 : 122 < b (p + w.length)
            · simp only [h2, h3, if_true, if_false, show ¬ b (p + w.length) ≤ 122 by omega, decide_false, Bool.and_false, Bool.not_false, bo_t, or_1, true_and]
            · simp only [h1, h2, h3, if_false, show 97 ≤ b (p + w.length) by omega, show b (p + w.length) ≤ 122 by omega, decide_true, Bool.and_true, Bool.not_true, bo_f, show ¬ (Int32.ofNat 1 : Int32) = Int32.ofNat 0 by decide, or_0, true_and]
        · have hB : isB b n 97 122 (p + w.length) = false := by
            cases hB : isB b n 97 122 (p + w.length) with
            | false => rfl
            | true => have := isB_lt hB; omega
          simp only [h1, if_false, b72_98 hw, b72_99 hw, b72_111 hw, if_true, hB, Bool.not_false, bo_t, or_1, true_and]
      | succ r ih =>
        intro j hj hm
        have hjl : j < w.length := by omega
        obtain ⟨c1, c2, c3⟩ := x3 j hjl
        have hpn : p + j < n := by omega
        have hp4 : p + j < 400 := by omega
        have hb256 := tb.2 _ hpn
        have es2 : Int32.ofNat p + Int32.ofNat (f + j) - Int32.ofNat f = Int32.ofNat (p + j) := by
          rw [oN_add, oN_sub (by omega), show p + (f + j) - f = p + j by omega]
        have hin := oN_in (show f + j < (tTx.getD i []).length by omega) (by omega)
        rw [b72_24 hw]
        simp only [oN_lt (show f + j < 2147483648 by omega) (show f + w.length < 2147483648 by omega), show f + j < f + w.length by omega, if_true, pR_bytes HS, pI_length HS, pF_length HS, pI_place HS, pF_place HS, pI_number HS, pF_number HS, pI_textLength HS, pF_textLength HS, pI_begin HS, pF_begin HS, pO HS, pA_2 HS, pW_2 HS, wi_some, or_0, or_1, bo_or, ite_boP, true_and, and_true, kN_v, kN_n, kT_v, kT_n, kT_e, Nat.add_zero, Nat.zero_add, tc.1, es2, hp4, tc.2.2 _ hpn, hin, oN_tn (show f + j < 2147483648 by omega), c1, oN_eq (show b (p + j) < 2147483648 by omega) (show w.getD j 0 < 2147483648 by omega)]
        by_cases e : b (p + j) = w.getD j 0
        · simp only [e, if_true, oN_add]
          exact ih (j + 1) (by omega) fun m hm' => by
            by_cases e2 : m = j
            · rw [e2]; exact e
            · exact hm m (by omega)
        · have : isW b n w p = false := by
            cases hW : isW b n w p with
            | false => rfl
            | true => exact absurd ((isW_iff.mp hW).2 j hjl) e
          simp only [e, if_false, this, bo_f]
    exact lp w.length 0 (by omega) fun m hm => absurd hm (Nat.not_lt_zero _)
theorem k70 {i : Nat} {w : List Nat} (hw : WT sh) (HS : SP sh) (tb : TB b n) (tc : TpC b n D p) (hp : p ≤ n) (hi : i < 80) (hx : isTx i 0 w = true) (hl : (tTx.getD i []).length = w.length)
    (ky : ∀ p' D', wrd b n w p = some p' → F1 D D' → TpC b n D' p' → D' 1 3 = D 1 3 → D' 1 5 = Int32.ofNat p → Q (.inl (some (.int (Int32.ofNat 1)))) (mk sh D') c s)
    (kn : wrd b n w p = none → Q (.inl (some (.int (Int32.ofNat 0)))) (mk sh D) c s) :
    Wx (tP nx xs) (d + 1) 70 0 [some (.ref 1), some (.retAddr (i + 1))] [] (mk sh D) c s Q := by
  obtain ⟨x1, x2, x3⟩ := isTx_of hx
  have k72' := fun Q c s => k72 (nx := nx) (xs := xs) (d := d) (Q := Q) (c := c) (s := s) hw HS tb tc hp hi hx
  rw [Nat.zero_add] at k72'
  unfold wrd at ky kn
  simp only [b70_0 hw, hl, show 0 < w.length by omega, true_and, pR_bytes HS, pI_length HS, pF_length HS, pI_place HS, pF_place HS, pI_number HS, pF_number HS, pI_textLength HS, pF_textLength HS, pI_begin HS, pF_begin HS, pO HS, pA_2 HS, pW_2 HS, wi_some, or_0, or_1, bo_or, ite_boP, true_and, and_true, kN_v, kN_n, kT_v, kT_n, kT_e, Nat.add_zero, Nat.zero_add]
  rw [k72']
  simp only [wi_some, or_0, or_1, bo_or, ite_boP, true_and, and_true, kN_v, kN_n, kT_v, kT_n, kT_e, Nat.add_zero, Nat.zero_add, b70_10 hw]
  cases hW : isW b n w p with
  | false =>
    simp only [Bool.false_eq_true, if_false]
    exact kn (by rw [hW]; rfl)
  | true =>
    have h1 := (isW_iff.mp hW).1
    have h2 : p + w.length ≤ n := by rw [← h1]; exact ru_le hp
    simp only [bo_t, show ¬ (Int32.ofNat 1 : Int32) = Int32.ofNat 0 by decide, if_false, pR_bytes HS, pI_length HS, pF_length HS, pI_place HS, pF_place HS, pI_number HS, pF_number HS, pI_textLength HS, pF_textLength HS, pI_begin HS, pF_begin HS, pO HS, pA_2 HS, pW_2 HS, wi_some, or_0, or_1, bo_or, ite_boP, true_and, and_true, kN_v, kN_n, kT_v, kT_n, kT_e, Nat.add_zero, Nat.zero_add, tc.1, hl, show 0 < w.length by omega, true_and, oN_add]
    refine k67t hw HS tb tc h2 ?_
    intro D' f t e3 e5
    simp only [wi_some, or_0, or_1, bo_or, ite_boP, true_and, and_true, kN_v, kN_n, kT_v, kT_n, kT_e, Nat.add_zero, Nat.zero_add, b70_28 hw]
    exact ky _ D' (by rw [hW, if_pos rfl]) f t e3 e5
theorem k71 {i : Nat} (hw : WT sh) (HS : SP sh) (tb : TB b n) (tc : TpC b n D p) (hp : p ≤ n) (hi : i < 80) (hlen : 0 < (tTx.getD i []).length) : ∀ (ws : List (List Nat)) (k f : Nat), isTs i f ws = true → k + ws.length < 100 →
    (∀ j p' D', oneF b n ws k p = some (j, p') → F1 D D' → TpC b n D' p' → D' 1 3 = D 1 3 → D' 1 5 = Int32.ofNat p → Q (.inl (some (.int (Int32.ofNat j)))) (mk sh D') c s) →
    (oneF b n ws k p = none → Q (.inl (some (.int (-1)))) (mk sh D) c s) →
    Wx (tP nx xs) (d + 1) 71 7 [some (.ref 1), some (.retAddr (i + 1)), (some (.int (Int32.ofNat k))), (some (.int (Int32.ofNat f))), (some (.int (Int32.ofNat f)))] [] (mk sh D) c s Q
  | [], k, f, hs, hk, ky, kn => by
    have x4 := tx_len i hi
    have hs : f = (tTx.getD i []).length + 1 := of_decide_eq_true hs
    rw [b71_7 hw]
    simp only [hlen, true_and, oN_lt (show (tTx.getD i []).length < 2147483648 by omega) (show f < 2147483648 by omega), show (tTx.getD i []).length < f by omega, if_true]
    exact kn rfl
  | w :: ws, k, f, hs, hk, ky, kn => by
    have hn := tb.1
    have x4 := tx_len i hi
    unfold isTs at hs
    simp only [Bool.and_eq_true, Bool.or_eq_true, decide_eq_true_eq] at hs
    obtain ⟨hx, hsep, hs'⟩ := hs
    obtain ⟨x1, x2, x3⟩ := isTx_of hx
    have h36 : Wx (tP nx xs) (d + 1) 71 36 [some (.ref 1), some (.retAddr (i + 1)), (some (.int (Int32.ofNat k))), (some (.int (Int32.ofNat f))), (some (.int (Int32.ofNat (f + w.length))))] [] (mk sh D) c s Q := by
      simp only [b71_36 hw, pR_bytes HS, pI_length HS, pF_length HS, pI_place HS, pF_place HS, pI_number HS, pF_number HS, pI_textLength HS, pF_textLength HS, pI_begin HS, pF_begin HS, pO HS, pA_2 HS, pW_2 HS, wi_some, or_0, or_1, bo_or, ite_boP, true_and, and_true, kN_v, kN_n, kT_v, kT_n, kT_e, Nat.add_zero, Nat.zero_add]
      rw [k72 hw HS tb tc hp hi hx]
      simp only [wi_some, or_0, or_1, bo_or, ite_boP, true_and, and_true, kN_v, kN_n, kT_v, kT_n, kT_e, Nat.add_zero, Nat.zero_add, b71_44 hw]
      unfold oneF at ky kn
      cases hW : isW b n w p with
      | false =>
        simp only [hW, Bool.false_eq_true, if_false] at ky kn
        simp only [bo_f, if_true, b71_70 hw, oN_add]
        simp only [List.length_cons] at hk
        exact k71 hw HS tb tc hp hi hlen ws (k + 1) (f + w.length + 1) hs' (by omega) ky kn
      | true =>
        have h1 := (isW_iff.mp hW).1
        have h2 : p + w.length ≤ n := by rw [← h1]; exact ru_le hp
        simp only [hW, if_true] at ky
        have es : Int32.ofNat p + Int32.ofNat (f + w.length) - Int32.ofNat f = Int32.ofNat (p + w.length) := by
          rw [oN_add, oN_sub (by omega), show p + (f + w.length) - f = p + w.length by omega]
        simp only [bo_t, show ¬ (Int32.ofNat 1 : Int32) = Int32.ofNat 0 by decide, if_false, pR_bytes HS, pI_length HS, pF_length HS, pI_place HS, pF_place HS, pI_number HS, pF_number HS, pI_textLength HS, pF_textLength HS, pI_begin HS, pF_begin HS, pO HS, pA_2 HS, pW_2 HS, wi_some, or_0, or_1, bo_or, ite_boP, true_and, and_true, kN_v, kN_n, kT_v, kT_n, kT_e, Nat.add_zero, Nat.zero_add, tc.1, es]
        refine k67t hw HS tb tc h2 ?_
        intro D' f' t e3 e5
        simp only [wi_some, or_0, or_1, bo_or, ite_boP, true_and, and_true, kN_v, kN_n, kT_v, kT_n, kT_e, Nat.add_zero, Nat.zero_add, b71_60 hw]
        exact ky _ _ D' rfl f' t e3 e5
    have at36 : Wx (tP nx xs) (d + 1) 71 7 [some (.ref 1), some (.retAddr (i + 1)), (some (.int (Int32.ofNat k))), (some (.int (Int32.ofNat f))), (some (.int (Int32.ofNat (f + w.length))))] [] (mk sh D) c s Q := by
      rw [b71_7 hw]
      simp only [hlen, true_and, oN_lt (show (tTx.getD i []).length < 2147483648 by omega) (show f + w.length < 2147483648 by omega), show ¬ (tTx.getD i []).length < f + w.length by omega, if_false, oN_eq (show f + w.length < 2147483648 by omega) (show (tTx.getD i []).length < 2147483648 by omega)]
      by_cases e : f + w.length = (tTx.getD i []).length
      · rw [if_pos e]; exact h36
      · rw [if_neg e]
        rcases hsep with h | h
        · exact absurd h e
        · refine ⟨oN_in (by omega) (by omega), ?_⟩
          rw [oN_tn (show f + w.length < 2147483648 by omega), h, if_pos rfl]
          exact h36
    have scan : ∀ r m, m + r = w.length → Wx (tP nx xs) (d + 1) 71 7 [some (.ref 1), some (.retAddr (i + 1)), (some (.int (Int32.ofNat k))), (some (.int (Int32.ofNat f))), (some (.int (Int32.ofNat (f + m))))] [] (mk sh D) c s Q := by
      intro r
      induction r with
      | zero => intro m hm; rw [show m = w.length by omega]; exact at36
      | succ r ih =>
        intro m hm
        obtain ⟨c1, c2, c3⟩ := x3 m (by omega)
        have hin := oN_in (show f + m < (tTx.getD i []).length by omega) (by omega)
        rw [b71_7 hw]
        simp only [hlen, true_and, oN_lt (show (tTx.getD i []).length < 2147483648 by omega) (show f + m < 2147483648 by omega), show ¬ (tTx.getD i []).length < f + m by omega, if_false, oN_eq (show f + m < 2147483648 by omega) (show (tTx.getD i []).length < 2147483648 by omega), show ¬ f + m = (tTx.getD i []).length by omega, hin, oN_tn (show f + m < 2147483648 by omega), c1, oN_eq (show w.getD m 0 < 2147483648 by omega) (show 32 < 2147483648 by omega), show ¬ w.getD m 0 = 32 by omega, b71_70 hw, oN_add]
        exact ih (m + 1) (by omega)
    exact scan w.length 0 (by omega)
theorem k73 {lo hb : Nat} (hw : WT sh) (HS : SP sh) (tb : TB b n) (tc : TpC b n D p) (hp : p ≤ n) (hlo : lo < 1000) (hhb : hb < 10000)
    (ky : ∀ v p' D', num b n lo hb p = some (v, p') → F1 D D' → TpC b n D' p' → D' 1 3 = Int32.ofNat v → D' 1 5 = Int32.ofNat p → Q (.inl (some (.int (Int32.ofNat 1)))) (mk sh D') c s)
    (kn : num b n lo hb p = none → Q (.inl (some (.int (Int32.ofNat 0)))) (mk sh D) c s) :
    Wx (tP nx xs) (d + 1) 73 0 [some (.ref 1), (some (.int (Int32.ofNat lo))), (some (.int (mo hb))), none, none, none] [] (mk sh D) c s Q := by
  have hn := tb.1
  have e0 : p ≤ de b n p := ru_ge
  have e1 : de b n p ≤ n := ru_le hp
  have edig : ∀ k, k < de b n p - p → p + k < n ∧ 48 ≤ b (p + k) ∧ b (p + k) ≤ 57 := fun k hk => isB_iff.mp (ru_in (b := b) (n := n) (lo := 48) (hi := 57) (p := p) (i := p + k) (by omega) (by show _ < de b n p; omega))
  have eend : isB b n 48 57 (de b n p) = false := ru_no
  unfold num at ky kn
  generalize hE : de b n p - p = e at *
  have hde : de b n p = p + e := by omega
  rw [hde] at ky kn eend
  have pe : (p + e = p) = (e = 0) := propext ⟨fun h => by omega, fun h => by omega⟩
  simp only [pe] at ky kn
  have f71 : ∀ k, k = min e 4 → Wx (tP nx xs) (d + 1) 73 71 [some (.ref 1), (some (.int (Int32.ofNat lo))), (some (.int (mo hb))), (some (.int (Int32.ofNat (p + k)))), (some (.int (Int32.ofNat (vlN b p k)))), none] [] (mk sh D) c s Q := by
    intro k hk
    have vl := vlN_lt (b := b) (p := p) k fun i hi => (edig i (by omega)).2.2
    have p10 : 10 ^ k ≤ 10 ^ 4 := Nat.pow_le_pow_right (by decide) (by omega)
    have eh : (mo hb < Int32.ofNat (vlN b p k)) = (hb ≤ vlN b p k) := by
      unfold mo
      by_cases h0 : hb = 0
      · subst h0
        rw [show (Int32.ofNat 0 - Int32.ofNat 1 : Int32) = -1 by decide]
        apply propext
        constructor
        · intro _; omega
        · intro _
          apply Int32.lt_iff_toInt_lt.mpr
          rw [oN_ti (by omega)]
          have : Int32.toInt (-1) = -1 := by decide
          omega
      · rw [oN_sub (show 1 ≤ hb by omega), oN_lt (by omega) (by omega)]
        exact propext ⟨fun h => by omega, fun h => by omega⟩
    rw [b73_71 hw]
    simp only [pR_bytes HS, pI_length HS, pF_length HS, pI_place HS, pF_place HS, pI_number HS, pF_number HS, pI_textLength HS, pF_textLength HS, pI_begin HS, pF_begin HS, pO HS, pA_2 HS, pW_2 HS, wi_some, or_0, or_1, bo_or, ite_boP, true_and, and_true, kN_v, kN_n, kT_v, kT_n, kT_e, Nat.add_zero, Nat.zero_add, tc.1, oN_sub (show p ≤ p + k by omega), show p + k - p = k by omega, oN_eq (show k < 2147483648 by omega) (show 0 < 2147483648 by omega), oN_lt (show 3 < 2147483648 by omega) (show k < 2147483648 by omega), oN_lt (show vlN b p k < 2147483648 by omega) (show lo < 2147483648 by omega), eh, b73_102 hw]
    by_cases h1 : k = 0
    · simp only [h1, if_true]; exact kn (if_pos (Or.inl (by omega)))
    · by_cases h2 : 3 < k
      · simp only [h1, h2, if_true, if_false]; exact kn (if_pos (Or.inr (Or.inl (by omega))))
      · have ek : k = e := by omega
        subst ek
        simp only [h1, h2, if_false]
        by_cases h3 : vlN b p k < lo
        · simp only [h3, if_true]; exact kn (if_pos (Or.inr (Or.inr (Or.inl h3))))
        · by_cases h4 : hb ≤ vlN b p k
          · simp only [h3, h4, if_true, if_false]; exact kn (if_pos (Or.inr (Or.inr (Or.inr h4))))
          · have hno : ¬ (k = 0 ∨ 3 < k ∨ vlN b p k < lo ∨ hb ≤ vlN b p k) := by omega
            simp only [h3, h4, if_false, b73_110 hw, pR_bytes HS, pI_length HS, pF_length HS, pI_place HS, pF_place HS, pI_number HS, pF_number HS, pI_textLength HS, pF_textLength HS, pI_begin HS, pF_begin HS, pO HS, pA_2 HS, pW_2 HS, wi_some, or_0, or_1, bo_or, ite_boP, true_and, and_true, kN_v, kN_n, kT_v, kT_n, kT_e, Nat.add_zero, Nat.zero_add]
            have tc' : TpC b n (u2 D 1 3 (Int32.ofNat (vlN b p k))) p := ⟨by rw [u2_at, if_neg (by omega)]; exact tc.1, by rw [u2_at, if_neg (by omega)]; exact tc.2.1, fun i hi => by rw [u2_at, if_neg (by omega)]; exact tc.2.2 i hi⟩
            refine k67t hw HS tb tc' (by omega) ?_
            intro D' f t e3 e5
            simp only [wi_some, or_0, or_1, bo_or, ite_boP, true_and, and_true, kN_v, kN_n, kT_v, kT_n, kT_e, Nat.add_zero, Nat.zero_add, b73_115 hw]
            exact ky _ _ D' (if_neg hno) (fun a i h => by rw [f a i h, u2_at, if_neg (by omega)]) t (by rw [e3, u2_at, if_pos ⟨rfl, rfl⟩]) e5
  have lp : ∀ r k, k + r = min e 4 → Wx (tP nx xs) (d + 1) 73 8 [some (.ref 1), (some (.int (Int32.ofNat lo))), (some (.int (mo hb))), (some (.int (Int32.ofNat (p + k)))), (some (.int (Int32.ofNat (vlN b p k)))), none] [] (mk sh D) c s Q := by
    intro r
    induction r with
    | zero =>
      intro k hk
      have f71 := f71 k (by omega)
      rw [b73_8 hw]
      simp only [pR_bytes HS, pI_length HS, pF_length HS, pI_place HS, pF_place HS, pI_number HS, pF_number HS, pI_textLength HS, pF_textLength HS, pI_begin HS, pF_begin HS, pO HS, pA_2 HS, pW_2 HS, wi_some, or_0, or_1, bo_or, ite_boP, true_and, and_true, kN_v, kN_n, kT_v, kT_n, kT_e, Nat.add_zero, Nat.zero_add, tc.1, tc.2.1, oN_lt (show p + k < 2147483648 by omega) (show n < 2147483648 by omega), oN_sub (show p ≤ p + k by omega), show p + k - p = k by omega, oN_lt (show 3 < 2147483648 by omega) (show k < 2147483648 by omega)]
      by_cases h1 : p + k < n
      · have hb256 := tb.2 _ h1
        have hp4 : p + k < 400 := by omega
        simp only [h1, if_true]
        by_cases h2 : 3 < k
        · simp only [h2, if_true]; exact f71
        · have ek : k = e := by omega
          simp only [h2, if_false, pR_bytes HS, pI_length HS, pF_length HS, pI_place HS, pF_place HS, pI_number HS, pF_number HS, pI_textLength HS, pF_textLength HS, pI_begin HS, pF_begin HS, pO HS, pA_2 HS, pW_2 HS, wi_some, or_0, or_1, bo_or, ite_boP, true_and, and_true, kN_v, kN_n, kT_v, kT_n, kT_e, Nat.add_zero, Nat.zero_add, hp4, tc.2.2 _ h1, oN_lt (show b (p + k) < 2147483648 by omega) (show 48 < 2147483648 by omega), oN_lt (show 57 < 2147483648 by omega) (show b (p + k) < 2147483648 by omega)]
          by_cases h3 : b (p + k) < 48
          · simp only [h3, if_true]; exact f71
          · by_cases h4 : 57 < b (p + k)
            · simp only [h3, h4, if_true, if_false]; exact f71
            · rw [← ek] at eend
              have := (isB_iff (b := b) (n := n) (lo := 48) (hi := 57) (p := p + k)).mpr ⟨h1, by omega, by omega⟩
              rw [eend] at this
              cases this
      · simp only [h1, if_false]; exact f71
    | succ r ih =>
      intro k hk
      obtain ⟨d1, d2, d3⟩ := edig k (by omega)
      have hp4 : p + k < 400 := by omega
      have vl := vlN_lt (b := b) (p := p) k fun i hi => (edig i (by omega)).2.2
      have p10 : 10 ^ k ≤ 10 ^ 4 := Nat.pow_le_pow_right (by decide) (by omega)
      have ih := ih (k + 1) (by omega)
      rw [show vlN b p (k + 1) = 10 * vlN b p k + (b (p + k) - 48) from rfl] at ih
      rw [b73_8 hw]
      simp only [pR_bytes HS, pI_length HS, pF_length HS, pI_place HS, pF_place HS, pI_number HS, pF_number HS, pI_textLength HS, pF_textLength HS, pI_begin HS, pF_begin HS, pO HS, pA_2 HS, pW_2 HS, wi_some, or_0, or_1, bo_or, ite_boP, true_and, and_true, kN_v, kN_n, kT_v, kT_n, kT_e, Nat.add_zero, Nat.zero_add, tc.1, tc.2.1, oN_lt (show p + k < 2147483648 by omega) (show n < 2147483648 by omega), d1, if_true, oN_sub (show p ≤ p + k by omega), show p + k - p = k by omega, oN_lt (show 3 < 2147483648 by omega) (show k < 2147483648 by omega), show ¬ 3 < k by omega, if_false, hp4, tc.2.2 _ d1, oN_lt (show b (p + k) < 2147483648 by omega) (show 48 < 2147483648 by omega), show ¬ b (p + k) < 48 by omega, oN_lt (show 57 < 2147483648 by omega) (show b (p + k) < 2147483648 by omega), show ¬ 57 < b (p + k) by omega, oN_mul, oN_add, oN_sub (show 48 ≤ 10 * vlN b p k + b (p + k) by omega)]
      rw [show 10 * vlN b p k + b (p + k) - 48 = 10 * vlN b p k + (b (p + k) - 48) by omega]
      exact ih
  simp only [b73_0 hw, pR_bytes HS, pI_length HS, pF_length HS, pI_place HS, pF_place HS, pI_number HS, pF_number HS, pI_textLength HS, pF_textLength HS, pI_begin HS, pF_begin HS, pO HS, pA_2 HS, pW_2 HS, wi_some, or_0, or_1, bo_or, ite_boP, true_and, and_true, kN_v, kN_n, kT_v, kT_n, kT_e, Nat.add_zero, Nat.zero_add, tc.1]
  exact lp (min e 4) 0 (by omega)
end CB1
