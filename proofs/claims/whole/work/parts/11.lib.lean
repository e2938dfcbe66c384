/-! ===== LAYER 2: numbers, bits, loops ===== -/
def bt (x : Int32) (i : Nat) : Bool := x.toBitVec.getLsbD i
theorem b_ext {x y : Int32} (h : ∀ i, i < 32 → bt x i = bt y i) : x = y := Int32.toBitVec_inj.mp (BitVec.eq_of_getLsbD_eq (fun i hi => h i hi))
theorem b_or (x y : Int32) (i : Nat) : bt (x ||| y) i = (bt x i || bt y i) := by unfold bt; rw [Int32.toBitVec_or, BitVec.getLsbD_or]
theorem b_and (x y : Int32) (i : Nat) : bt (x &&& y) i = (bt x i && bt y i) := by unfold bt; rw [Int32.toBitVec_and, BitVec.getLsbD_and]
theorem b_xor (x y : Int32) (i : Nat) : bt (x ^^^ y) i = (bt x i ^^ bt y i) := by unfold bt; rw [Int32.toBitVec_xor, BitVec.getLsbD_xor]
theorem b_big {x : Int32} {i : Nat} (h : 32 ≤ i) : bt x i = false := BitVec.getLsbD_of_ge _ _ h
theorem b_255 (i : Nat) : bt 255 i = decide (i < 8) := by
  rcases Nat.lt_or_ge i 32 with h | h
  · exact (by decide +kernel : ∀ i, i < 32 → bt 255 i = decide (i < 8)) i h
  · rw [b_big h, decide_eq_false (by omega)]
theorem b_65535 (i : Nat) : bt 65535 i = decide (i < 16) := by
  rcases Nat.lt_or_ge i 32 with h | h
  · exact (by decide +kernel : ∀ i, i < 32 → bt 65535 i = decide (i < 16)) i h
  · rw [b_big h, decide_eq_false (by omega)]
theorem b_m1 : ∀ i, i < 32 → bt (-1) i = true := by decide +kernel
theorem b_0 (i : Nat) : bt 0 i = false := BitVec.getLsbD_zero
theorem s_l : ∀ n, n < 32 → ((nI n &&& 31).toBitVec.smod 32).toNat = n := by decide +kernel
theorem s_u : ∀ n, n < 32 → (((nI n).toUInt32 &&& Int32.toUInt32 31).toBitVec % 32).toNat = n := by decide +kernel
theorem b_shl (n : Nat) (hn : n < 32) (x : Int32) {i : Nat} (hi : i < 32) : bt (x <<< (nI n &&& 31)) i = (decide (n ≤ i) && bt x (i - n)) := by
  unfold bt
  rw [Int32.toBitVec_shiftLeft]
  show (x.toBitVec <<< ((nI n &&& 31).toBitVec.smod 32).toNat).getLsbD i = _
  rw [s_l n hn, BitVec.getLsbD_shiftLeft]
  rcases Nat.lt_or_ge i n with h | h
  · simp [h, Nat.not_le.mpr h]
  · simp [hi, h, Nat.not_lt.mpr h]
theorem b_ushr (n : Nat) (hn : n < 32) (x : Int32) (i : Nat) : bt ((x.toUInt32 >>> ((nI n).toUInt32 &&& Int32.toUInt32 31)).toInt32) i = bt x (n + i) := by
  show (x.toUInt32 >>> ((nI n).toUInt32 &&& Int32.toUInt32 31)).toBitVec.getLsbD i = x.toUInt32.toBitVec.getLsbD (n + i)
  rw [UInt32.toBitVec_shiftRight]
  show (x.toUInt32.toBitVec >>> (((nI n).toUInt32 &&& Int32.toUInt32 31).toBitVec % 32).toNat).getLsbD i = _
  rw [s_u n hn, BitVec.getLsbD_ushiftRight]
theorem b_sshr (n : Nat) (hn : n < 32) (x : Int32) {i : Nat} (hi : i < 32) : bt (x >>> (nI n &&& 31)) i = if n + i < 32 then bt x (n + i) else bt x 31 := by
  unfold bt
  rw [Int32.toBitVec_shiftRight]
  show (x.toBitVec.sshiftRight ((nI n &&& 31).toBitVec.smod 32).toNat).getLsbD i = _
  rw [s_l n hn, BitVec.getLsbD_sshiftRight, BitVec.msb_eq_getLsbD_last]
  simp [hi]
theorem oN_add (a b : Nat) : Int32.ofNat a + Int32.ofNat b = Int32.ofNat (a + b) := (Int32.ofNat_add a b).symm
theorem oN_mul (a b : Nat) : Int32.ofNat a * Int32.ofNat b = Int32.ofNat (a * b) := (Int32.ofNat_mul a b).symm
theorem oN_sub {a b : Nat} (h : b ≤ a) : Int32.ofNat a - Int32.ofNat b = Int32.ofNat (a - b) := (Int32.ofNat_sub a b h).symm
theorem oN_tn {n : Nat} (h : n < 2147483648) : Int32.toNatClampNeg (Int32.ofNat n) = n := Int32.toNatClampNeg_ofNat_of_lt h
theorem oN_ti {n : Nat} (h : n < 2147483648) : Int32.toInt (Int32.ofNat n) = n := Int32.toInt_ofNat_of_lt h
theorem oN_lt {a b : Nat} (ha : a < 2147483648) (hb : b < 2147483648) : (Int32.ofNat a < Int32.ofNat b) = (a < b) := propext (Int32.ofNat_lt_iff_lt ha hb)
theorem oN_le {a b : Nat} (ha : a < 2147483648) (hb : b < 2147483648) : (Int32.ofNat a ≤ Int32.ofNat b) = (a ≤ b) := propext (Int32.ofNat_le_iff_le ha hb)
theorem oN_eq {a b : Nat} (ha : a < 2147483648) (hb : b < 2147483648) : (Int32.ofNat a = Int32.ofNat b) = (a = b) := propext ⟨fun h => by
  have h1 := congrArg Int32.toNatClampNeg h
  rwa [oN_tn ha, oN_tn hb] at h1, fun h => by rw [h]⟩
theorem oN_nn {a : Nat} (ha : a < 2147483648) : ¬ Int32.ofNat a < Int32.ofNat 0 := by rw [oN_lt ha (by decide)]; omega
theorem oN_ne1 {a : Nat} (ha : a < 2147483648) : (Int32.ofNat a = (-1 : Int32)) = False := by
  apply eq_false
  intro h
  have h1 := congrArg Int32.toInt h
  rw [oN_ti ha] at h1
  have h2 : Int32.toInt (-1) = -1 := by decide
  omega
theorem oN_in {i n : Nat} (hi : i < n) (hn : n < 2147483648) : av_in (Int32.ofNat i) n = true := by
  have h1 : i < 2147483648 := by omega
  have h2 : ¬ Int32.ofNat i < 0 := oN_nn h1
  unfold av_in
  rw [oN_tn h1]
  simp [h2, hi]
/-- a number that isn't below 0 -/
theorem oN_of {x : Int32} (h : ¬ x < Int32.ofNat 0) : x = Int32.ofNat x.toNatClampNeg ∧ x.toNatClampNeg < 2147483648 := by
  have h0 : 0 ≤ x := Int32.not_lt.mp h
  refine ⟨(Int32.ofNat_toNatClampNeg x h0).symm, ?_⟩
  have h1 := Int32.toInt_lt x
  have h2 : x.toNatClampNeg = x.toInt.toNat := rfl
  rw [h2]
  have h3 : x.toInt < 2147483648 := by simpa using h1
  omega
theorem jshl_1 {g i : Nat} (hg : g < 32) (hi : i < 32) : bt (jshl (Int32.ofNat 1) (Int32.ofNat g)) i = decide (i = g) := by
  have h := b_shl g hg (Int32.ofNat 1) hi
  unfold jshl
  rw [show Int32.ofNat g = nI g from rfl, h]
  by_cases e : i = g
  · subst e; simp; decide
  · simp only [e, decide_false, Bool.and_eq_false_imp, decide_eq_true_eq]
    intro hl
    have h1 : ∀ k, k < 32 → 0 < k → bt (Int32.ofNat 1) k = false := by decide +kernel
    exact h1 _ (by omega) (by omega)
theorem b_one (i : Nat) (hi : i < 32) : bt (Int32.ofNat 1) i = decide (i = 0) := by
  have h1 : ∀ k, k < 32 → bt (Int32.ofNat 1) k = decide (k = 0) := by decide +kernel
  exact h1 i hi
/-- has -/
theorem jshr_1 {x : Int32} {k : Nat} (hk : k < 32) : jshr x (Int32.ofNat k) &&& Int32.ofNat 1 = if bt x k then Int32.ofNat 1 else Int32.ofNat 0 := by
  apply b_ext
  intro i hi
  rw [b_and, b_one i hi]
  have h := b_sshr k hk x hi
  unfold jshr
  rw [show Int32.ofNat k = nI k from rfl, h]
  by_cases e : i = 0
  · subst e
    simp only [Nat.add_zero, hk, if_true, decide_true, Bool.and_true]
    cases bt x k
    · exact (b_0 0).symm
    · rfl
  · simp only [e, decide_false, Bool.and_false]
    split
    · rw [b_one i hi]; simp [e]
    · exact (b_0 i).symm
theorem ite01 {p : Bool} : ((if p then Int32.ofNat 1 else Int32.ofNat 0) = Int32.ofNat 0) = (p = false) := by cases p <;> decide
theorem ite11 {p : Bool} : ((if p then Int32.ofNat 1 else Int32.ofNat 0) = Int32.ofNat 1) = (p = true) := by cases p <;> decide
def bo (p : Bool) : Int32 := if p then Int32.ofNat 1 else Int32.ofNat 0
theorem bo_0 {p : Bool} : (bo p = Int32.ofNat 0) = (p = false) := ite01
theorem bo_1 {p : Bool} : (bo p = Int32.ofNat 1) = (p = true) := ite11
theorem bo_or {p : Bool} : (bo p = 0 ∨ bo p = 1) = True := by cases p <;> decide
theorem bo_t : bo true = Int32.ofNat 1 := rfl
theorem bo_f : bo false = Int32.ofNat 0 := rfl
theorem jshr_b {x : Int32} {k : Nat} (hk : k < 32) : jshr x (Int32.ofNat k) &&& Int32.ofNat 1 = bo (bt x k) := jshr_1 hk
/-! loops -/
def fo {α : Type} (F : Nat → α → α) : Nat → Nat → α → α
  | 0, _, x => x
  | k + 1, i, x => fo F k (i + 1) (F i x)
theorem fo_snoc {α : Type} (F : Nat → α → α) : ∀ (k i : Nat) (x : α), fo F (k + 1) i x = F (i + k) (fo F k i x)
  | 0, i, x => rfl
  | k + 1, i, x => by
    have h := fo_snoc F k (i + 1) (F i x)
    show fo F (k + 1) (i + 1) (F i x) = _
    rw [h]
    show F (i + 1 + k) _ = F (i + (k + 1)) _
    rw [show i + 1 + k = i + (k + 1) by omega]
    rfl
theorem fo_congr {α : Type} {F G : Nat → α → α} : ∀ (k i : Nat) (x : α), (∀ j x, i ≤ j → j < i + k → F j x = G j x) → fo F k i x = fo G k i x
  | 0, _, _, _ => rfl
  | k + 1, i, x, h => by
    show fo F k (i + 1) (F i x) = fo G k (i + 1) (G i x)
    rw [h i x (Nat.le_refl _) (by omega)]
    exact fo_congr k (i + 1) _ fun j x h1 h2 => h j x (by omega) (by omega)
/-- what holds at the beginning and is kept -/
theorem fo_inv {α : Type} {F : Nat → α → α} (I : Nat → α → Prop) : ∀ (k i : Nat) (x : α), I i x → (∀ j x, i ≤ j → j < i + k → I j x → I (j + 1) (F j x)) → I (i + k) (fo F k i x)
  | 0, _, _, h0, _ => h0
  | k + 1, i, x, h0, h => by
    show I (i + (k + 1)) (fo F k (i + 1) (F i x))
    rw [show i + (k + 1) = i + 1 + k by omega]
    exact fo_inv I k (i + 1) _ (h i x (Nat.le_refl _) (by omega) h0) fun j x h1 h2 => h j x (by omega) (by omega)
/-- two loops side by side -/
theorem fo_rel {α β : Type} {F : Nat → α → α} {G : Nat → β → β} (I : Nat → α → β → Prop) : ∀ (k i : Nat) (x : α) (y : β), I i x y → (∀ j x y, i ≤ j → j < i + k → I j x y → I (j + 1) (F j x) (G j y)) → I (i + k) (fo F k i x) (fo G k i y)
  | 0, _, _, _, h0, _ => h0
  | k + 1, i, x, y, h0, h => by
    show I (i + (k + 1)) (fo F k (i + 1) (F i x)) (fo G k (i + 1) (G i y))
    rw [show i + (k + 1) = i + 1 + k by omega]
    exact fo_rel I k (i + 1) _ _ (h i x y (Nat.le_refl _) (by omega) h0) fun j x y h1 h2 => h j x y (by omega) (by omega)
theorem up_loop {α : Type} {W : Nat → α → Prop} {F : Nat → α → α} (n : Nat) (hs : ∀ i x, i < n → W i x = W (i + 1) (F i x)) (x : α) : W 0 x = W n (fo F n 0 x) := by
  have h : ∀ k i x, i + k ≤ n → W i x = W (i + k) (fo F k i x) := by
    intro k
    induction k with
    | zero => intro i x _; rfl
    | succ k ih =>
      intro i x hik
      rw [hs i x (by omega), ih (i + 1) (F i x) (by omega), show i + 1 + k = i + (k + 1) by omega]
      rfl
  have h1 := h n 0 x (by omega)
  rwa [Nat.zero_add] at h1
/-- a loop from a on -/
theorem up_loopA {α : Type} {W : Nat → α → Prop} {F : Nat → α → α} (a n : Nat) (hs : ∀ i x, a ≤ i → i < a + n → W i x = W (i + 1) (F i x)) (x : α) : W a x = W (a + n) (fo F n a x) := by
  have h : ∀ k i x, a ≤ i → i + k ≤ a + n → W i x = W (i + k) (fo F k i x) := by
    intro k
    induction k with
    | zero => intro i x _ _; rfl
    | succ k ih =>
      intro i x hi hik
      rw [hs i x hi (by omega), ih (i + 1) (F i x) (by omega) (by omega), show i + 1 + k = i + (k + 1) by omega]
      rfl
  exact h n a x (Nat.le_refl _) (Nat.le_refl _)
/-- a loop downwards: from n to 0 -/
def fd {α : Type} (F : Nat → α → α) : Nat → α → α
  | 0, x => x
  | k + 1, x => fd F k (F k x)
theorem dn_loop {α : Type} {W : Nat → α → Prop} {F : Nat → α → α} : ∀ (n : Nat) (_ : ∀ i x, i < n → W (i + 1) x = W i (F i x)) (x : α), W n x = W 0 (fd F n x)
  | 0, _, x => rfl
  | n + 1, hs, x => by
    rw [hs n x (by omega), dn_loop n (fun i x hi => hs i x (by omega)) (F n x)]
    rfl
/-- the first of i, i + 1 .. (k of them) with p -/
def fst? (p : Nat → Bool) : Nat → Nat → Option Nat
  | 0, _ => none
  | k + 1, i => if p i then some i else fst? p k (i + 1)
theorem find_loop {W : Nat → Prop} {R : Nat → Prop} {p : Nat → Bool} (n : Nat) (hs : ∀ i, i < n → W i = if p i = true then R i else W (i + 1)) : W 0 = match fst? p n 0 with
    | some i => R i
    | none => W n := by
  have h : ∀ k i, i + k = n → W i = match fst? p k i with
    | some i => R i
    | none => W n := by
    intro k
    induction k with
    | zero => intro i hi; rw [← hi]; rfl
    | succ k ih =>
      intro i hik
      rw [hs i (by omega)]
      by_cases hp : p i = true
      · rw [if_pos hp]; simp [fst?, hp]
      · rw [if_neg hp, ih (i + 1) (by omega)]; simp [fst?, hp]
  exact h n 0 (by omega)
