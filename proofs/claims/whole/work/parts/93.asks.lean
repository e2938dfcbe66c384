/-! ===== asks ===== -/
theorem b_nat (n i : Nat) : bt (Int32.ofNat n) i = (decide (i < 32) && n.testBit i) := BitVec.getLsbD_ofNat 32 n i
theorem bc_all : ∀ k, k < 32 → ∀ h, h < 8 → ∀ l, l < 256 → (bc (Int32.ofNat (256 * (8 * k + h) + l))).toNatClampNeg ≤ 16
  | 0, _ => bc_h0
  | 1, _ => bc_h1
  | 2, _ => bc_h2
  | 3, _ => bc_h3
  | 4, _ => bc_h4
  | 5, _ => bc_h5
  | 6, _ => bc_h6
  | 7, _ => bc_h7
  | 8, _ => bc_h8
  | 9, _ => bc_h9
  | 10, _ => bc_h10
  | 11, _ => bc_h11
  | 12, _ => bc_h12
  | 13, _ => bc_h13
  | 14, _ => bc_h14
  | 15, _ => bc_h15
  | 16, _ => bc_h16
  | 17, _ => bc_h17
  | 18, _ => bc_h18
  | 19, _ => bc_h19
  | 20, _ => bc_h20
  | 21, _ => bc_h21
  | 22, _ => bc_h22
  | 23, _ => bc_h23
  | 24, _ => bc_h24
  | 25, _ => bc_h25
  | 26, _ => bc_h26
  | 27, _ => bc_h27
  | 28, _ => bc_h28
  | 29, _ => bc_h29
  | 30, _ => bc_h30
  | 31, _ => bc_h31
  | k + 32, h => by omega
theorem and_16 (x : Int32) : x &&& Int32.ofNat 65535 = Int32.ofNat (x.toBitVec.toNat % 65536) := by
  apply b_ext
  intro i hi
  rw [b_and, show (Int32.ofNat 65535 : Int32) = 65535 from rfl, b_65535, b_nat, show (65536 : Nat) = 2 ^ 16 from rfl, Nat.testBit_mod_two_pow]
  have e : bt x i = x.toBitVec.toNat.testBit i := (BitVec.testBit_toNat x.toBitVec).symm
  rw [e]
  simp only [hi, decide_true, Bool.true_and]
  rw [Bool.and_comm]
theorem bc_16 (x : Int32) : ∃ n, n ≤ 16 ∧ bc (x &&& Int32.ofNat 65535) = Int32.ofNat n := by
  obtain ⟨z, hz, e⟩ := bc_63 (x &&& Int32.ofNat 65535)
  refine ⟨z, ?_, e⟩
  have hM : x.toBitVec.toNat % 65536 < 65536 := Nat.mod_lt _ (by decide)
  rw [and_16] at e
  generalize x.toBitVec.toNat % 65536 = M at *
  have h := bc_all (M / 256 / 8) (by omega) (M / 256 % 8) (by omega) (M % 256) (by omega)
  rw [show 256 * (8 * (M / 256 / 8) + M / 256 % 8) + M % 256 = M by omega, e, oN_tn (by omega)] at h
  exact h
def aqF (c : Int32) : Nat → Nat → Nat
  | 0, q => q
  | r + 1, q => if Int32.ofNat (2 ^ q) < c then aqF c r (q + 1) else q
theorem aq_46 : ∀ n, n < 17 → aqF (Int32.ofNat n) 6 0 = aqF (Int32.ofNat n) 4 0 ∧ aqF (Int32.ofNat n) 4 0 ≤ 4 := by decide +kernel
theorem aq_c1 : ∀ y, y < 5 → 1 ≤ y → ∀ c, c < 64 → ((aqF (Int32.ofNat c) 6 0 < y) ↔ ¬ Int32.ofNat (2 ^ (y - 1)) < Int32.ofNat c) := by decide +kernel
theorem aq_c2 : ∀ y, y < 5 → 1 ≤ y → ∀ n, n < 17 → ∀ c, c < 64 → ((aqF (Int32.ofNat n - Int32.ofNat c) 6 0 < y) ↔ ¬ Int32.ofNat (2 ^ (y - 1)) < Int32.ofNat n - Int32.ofNat c) := by decide +kernel
theorem aq_lt : ∀ n, n < 17 → ∀ c, c < 64 → ¬ Int32.ofNat 64 < Int32.ofNat n - Int32.ofNat c := by decide +kernel
theorem aq_lt1 : ∀ c, c < 64 → ¬ Int32.ofNat 64 < Int32.ofNat c := by decide +kernel
theorem aqF_le (c : Int32) : ∀ r q, aqF c r q ≤ q + r
  | 0, q => Nat.le_refl _
  | r + 1, q => by
    unfold aqF
    have := aqF_le c r (q + 1)
    split <;> omega
def mkI (i : Nat) : Int32 := jshl (Int32.ofNat 2) (Int32.ofNat i) - Int32.ofNat 1
def opP (m : Int32) (y : Nat) (i : Nat) : Bool := decide (¬ Int32.ofNat (2 ^ (y - 1)) < bc (m &&& mkI i)) && decide (¬ Int32.ofNat (2 ^ (y - 1)) < bc m - bc (m &&& mkI i))
def o_asks (x : Int32) (b : Bool) : Int32 := if b then (if aqF (bc (x &&& Int32.ofNat 65535)) 4 0 = 0 then -1 else fst1 (opP (x &&& Int32.ofNat 65535) (aqF (bc (x &&& Int32.ofNat 65535)) 4 0)) 15 0) else Int32.ofNat (aqF (bc (x &&& Int32.ofNat 65535)) 4 0)
section C93
variable {nx : Nat} {xs : Nat → Int32} {d c s : Nat} {sh : List sC} {D : sD} {Q : av_Q}
theorem k153 {n : Nat} (hw : WT sh) (hn : n ≤ 16) : Wx (tP nx xs) d 153 0 [(some (.int (Int32.ofNat n))), none, none] [] (mk sh D) c s Q = Q (.inl (some (.int (Int32.ofNat (aqF (Int32.ofNat n) 4 0))))) (mk sh D) c s := by
  simp only [b153_0 hw]
  suffices hl : ∀ r q, q + r = 4 → Wx (tP nx xs) d 153 4 [(some (.int (Int32.ofNat n))), (some (.int (Int32.ofNat q))), (some (.int (Int32.ofNat (2 ^ q))))] [] (mk sh D) c s Q = Q (.inl (some (.int (Int32.ofNat (aqF (Int32.ofNat n) r q))))) (mk sh D) c s from hl 4 0 rfl
  intro r
  induction r with
  | zero =>
    intro q hq
    have hq' : q = 4 := by omega
    subst hq'
    rw [b153_4 hw]
    simp only [oN_lt (show 2 ^ 4 < 2147483648 by omega) (show n < 2147483648 by omega), show ¬ 2 ^ 4 < n by omega, if_false, b153_25 hw]
    rfl
  | succ r ih =>
    intro q hq
    have ih := ih (q + 1) (by omega)
    have p16 : 2 ^ q < 16 := by
      have : 2 ^ q ≤ 2 ^ 3 := Nat.pow_le_pow_right (by decide) (by omega)
      omega
    rw [Nat.pow_succ] at ih
    rw [b153_4 hw]
    unfold aqF
    by_cases h : Int32.ofNat (2 ^ q) < Int32.ofNat n
    · simp only [h, if_true, oN_lt (show 2 ^ q < 2147483648 by omega) (show 16 < 2147483648 by omega), p16, oN_add, oN_mul]; exact ih
    · simp only [h, if_false, b153_25 hw]
theorem k327 {v : Int32} (hw : WT sh) (hv : ¬ Int32.ofNat 64 < v) : Wx (tP nx xs) d 327 0 [(some (.int (v))), none] [] (mk sh D) c s Q = Q (.inl (some (.int (Int32.ofNat (aqF v 6 0))))) (mk sh D) c s := by
  have sl : ∀ q, q < 7 → jshl (Int32.ofNat 1) (Int32.ofNat q) = Int32.ofNat (2 ^ q) := by decide +kernel
  simp only [b327_0 hw]
  suffices hl : ∀ r q, q + r = 6 → Wx (tP nx xs) d 327 2 [(some (.int (v))), (some (.int (Int32.ofNat q)))] [] (mk sh D) c s Q = Q (.inl (some (.int (Int32.ofNat (aqF v r q))))) (mk sh D) c s from hl 6 0 rfl
  intro r
  induction r with
  | zero =>
    intro q hq
    have hq' : q = 6 := by omega
    subst hq'
    rw [b327_2 hw, sl 6 (by decide), if_neg hv]
    rfl
  | succ r ih =>
    intro q hq
    have ih := ih (q + 1) (by omega)
    rw [b327_2 hw, sl q (by omega)]
    unfold aqF
    by_cases h : Int32.ofNat (2 ^ q) < v
    · simp only [h, if_true, oN_add]; exact ih
    · simp only [h, if_false]
end C93
