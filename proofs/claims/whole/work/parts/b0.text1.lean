/-! ===== texts: what stands where, pure (b the bytes, n how many) ===== -/
def TB (b : Nat → Nat) (n : Nat) : Prop := n ≤ 400 ∧ ∀ i, i < n → b i < 256
def isB (b : Nat → Nat) (n lo hi p : Nat) : Bool := decide (p < n) && (decide (lo ≤ b p) && decide (b p ≤ hi))
def rnN (b : Nat → Nat) (n lo hi : Nat) : Nat → Nat → Nat
  | 0, p => p
  | k + 1, p => if isB b n lo hi p then rnN b n lo hi k (p + 1) else p
def ru (b : Nat → Nat) (n lo hi p : Nat) : Nat := rnN b n lo hi (n - p) p
section RU
variable {b : Nat → Nat} {n lo hi p q : Nat}
theorem isB_lt (h : isB b n lo hi p = true) : p < n := by unfold isB at h; rw [Bool.and_eq_true, decide_eq_true_eq] at h; exact h.1
theorem isB_iff : isB b n lo hi p = true ↔ p < n ∧ lo ≤ b p ∧ b p ≤ hi := by unfold isB; simp only [Bool.and_eq_true, decide_eq_true_eq]
theorem rnN_facts : ∀ (k p : Nat), n ≤ p + k → p ≤ rnN b n lo hi k p ∧ (p ≤ n → rnN b n lo hi k p ≤ n) ∧ isB b n lo hi (rnN b n lo hi k p) = false ∧ ∀ i, p ≤ i → i < rnN b n lo hi k p → isB b n lo hi i = true
  | 0, p, h => by
    refine ⟨Nat.le_refl _, fun h => h, ?_, fun i h1 h2 => ?_⟩
    · cases hb : isB b n lo hi p with
      | false => exact hb
      | true => have := isB_lt hb; omega
    · have h2 : i < p := h2
      omega
  | k + 1, p, h => by
    have e : rnN b n lo hi (k + 1) p = if isB b n lo hi p then rnN b n lo hi k (p + 1) else p := rfl
    rw [e]
    cases hb : isB b n lo hi p with
    | false => exact ⟨Nat.le_refl _, fun h => h, hb, fun i h1 h2 => by simp only [Bool.false_eq_true, if_false] at h2; omega⟩
    | true =>
      simp only [if_true]
      obtain ⟨a1, a2, a3, a4⟩ := rnN_facts k (p + 1) (by omega)
      have := isB_lt hb
      refine ⟨by omega, fun _ => a2 (by omega), a3, fun i h1 h2 => ?_⟩
      by_cases e : i = p
      · rw [e]; exact hb
      · exact a4 i (by omega) h2
theorem ru_ge : p ≤ ru b n lo hi p := (rnN_facts (n - p) p (by omega)).1
theorem ru_le (h : p ≤ n) : ru b n lo hi p ≤ n := (rnN_facts (n - p) p (by omega)).2.1 h
theorem ru_no : isB b n lo hi (ru b n lo hi p) = false := (rnN_facts (n - p) p (by omega)).2.2.1
theorem ru_in {i : Nat} (h1 : p ≤ i) (h2 : i < ru b n lo hi p) : isB b n lo hi i = true := (rnN_facts (n - p) p (by omega)).2.2.2 i h1 h2
theorem ru_eq (h1 : p ≤ q) (h2 : ∀ i, p ≤ i → i < q → isB b n lo hi i = true) (h3 : isB b n lo hi q = false) : ru b n lo hi p = q := by
  rcases Nat.lt_trichotomy (ru b n lo hi p) q with h | h | h
  · have := h2 _ ru_ge h
    rw [ru_no] at this; cases this
  · exact h
  · have := ru_in h1 h
    rw [h3] at this; cases this
theorem ru_self (h : isB b n lo hi p = false) : ru b n lo hi p = p := ru_eq (Nat.le_refl _) (fun i h1 h2 => by omega) h
theorem ru_ru : ru b n lo hi (ru b n lo hi p) = ru b n lo hi p := ru_self ru_no
theorem ru_step (h : isB b n lo hi p = true) : ru b n lo hi p = ru b n lo hi (p + 1) := by
  have hg : p + 1 ≤ ru b n lo hi p := by
    have h1 := ru_ge (b := b) (n := n) (lo := lo) (hi := hi) (p := p)
    rcases Nat.lt_or_ge p (ru b n lo hi p) with h2 | h2
    · exact h2
    · have e : ru b n lo hi p = p := by omega
      have := ru_no (b := b) (n := n) (lo := lo) (hi := hi) (p := p)
      rw [e, h] at this; cases this
  exact (ru_eq hg (fun i h1 h2 => ru_in (by omega) h2) ru_no).symm
end RU
/-- blanks are passed; letters; figures -/
def sk (b : Nat → Nat) (n p : Nat) : Nat := ru b n 32 32 p
def le (b : Nat → Nat) (n p : Nat) : Nat := ru b n 97 122 p
def de (b : Nat → Nat) (n p : Nat) : Nat := ru b n 48 57 p
/-- a word stands at p -/
def isW (b : Nat → Nat) (n : Nat) (w : List Nat) (p : Nat) : Bool := decide (le b n p = p + w.length) && (List.range w.length).all fun i => decide (b (p + i) = w.getD i 0)
def wrd (b : Nat → Nat) (n : Nat) (w : List Nat) (p : Nat) : Option Nat := if isW b n w p then some (sk b n (p + w.length)) else none
def sgq (b : Nat → Nat) (n ch p : Nat) : Option Nat := if isB b n ch ch p then some (sk b n (p + 1)) else none
def oneF (b : Nat → Nat) (n : Nat) : List (List Nat) → Nat → Nat → Option (Nat × Nat)
  | [], _, _ => none
  | w :: ws, k, p => if isW b n w p then some (k, sk b n (p + w.length)) else oneF b n ws (k + 1) p
def vlN (b : Nat → Nat) (p : Nat) : Nat → Nat
  | 0 => 0
  | k + 1 => 10 * vlN b p k + (b (p + k) - 48)
/-- a number from lo on, below hb -/
def num (b : Nat → Nat) (n lo hb p : Nat) : Option (Nat × Nat) := if de b n p = p ∨ 3 < de b n p - p ∨ vlN b p (de b n p - p) < lo ∨ hb ≤ vlN b p (de b n p - p) then none else some (vlN b p (de b n p - p), sk b n (de b n p))
theorem isW_iff {b : Nat → Nat} {n : Nat} {w : List Nat} {p : Nat} : isW b n w p = true ↔ le b n p = p + w.length ∧ ∀ i, i < w.length → b (p + i) = w.getD i 0 := by
  unfold isW
  simp only [Bool.and_eq_true, decide_eq_true_eq, List.all_eq_true, List.mem_range]
/-- the same, as the class looks -/
theorem isW_c {b : Nat → Nat} {n : Nat} {w : List Nat} {p : Nat} (hw : ∀ i, i < w.length → 97 ≤ w.getD i 0 ∧ w.getD i 0 ≤ 122) : isW b n w p = true ↔ p + w.length ≤ n ∧ (∀ i, i < w.length → b (p + i) = w.getD i 0) ∧ isB b n 97 122 (p + w.length) = false ∨ (w.length = 0 ∧ isB b n 97 122 p = false) := by
  rw [isW_iff]
  constructor
  · rintro ⟨h1, h2⟩
    have h3 : isB b n 97 122 (p + w.length) = false := by rw [← h1]; exact ru_no
    by_cases h0 : w.length = 0
    · exact Or.inr ⟨h0, by rw [h0, Nat.add_zero] at h3; exact h3⟩
    · refine Or.inl ⟨?_, h2, h3⟩
      have := isB_lt (ru_in (b := b) (n := n) (lo := 97) (hi := 122) (p := p) (i := p + w.length - 1) (by omega) (by show _ < le b n p; omega))
      omega
  · rintro (⟨h1, h2, h3⟩ | ⟨h0, h3⟩)
    · refine ⟨ru_eq (by omega) (fun i a1 a2 => ?_) h3, h2⟩
      have := h2 (i - p) (by omega)
      rw [show p + (i - p) = i by omega] at this
      have hh := hw (i - p) (by omega)
      exact isB_iff.mpr ⟨by omega, by omega, by omega⟩
    · refine ⟨ru_eq (by omega) (fun i a1 a2 => by omega) (by rw [h0, Nat.add_zero]; exact h3), fun i hi => by omega⟩
theorem sk_ge {b : Nat → Nat} {n p : Nat} : p ≤ sk b n p := ru_ge
theorem sk_le {b : Nat → Nat} {n p : Nat} (h : p ≤ n) : sk b n p ≤ n := ru_le h
theorem sk_sk {b : Nat → Nat} {n p : Nat} : sk b n (sk b n p) = sk b n p := ru_ru
theorem wrd_some {b : Nat → Nat} {n : Nat} {w : List Nat} {p p' : Nat} (h : wrd b n w p = some p') (hp : p ≤ n) : isW b n w p = true ∧ p' = sk b n (p + w.length) ∧ p + w.length ≤ p' ∧ p' ≤ n ∧ sk b n p' = p' := by
  unfold wrd at h
  split at h
  · next hw =>
    cases h
    have h1 := (isW_iff.mp hw).1
    have h2 : p + w.length ≤ n := by rw [← h1]; exact ru_le hp
    exact ⟨hw, rfl, sk_ge, sk_le h2, sk_sk⟩
  · cases h
theorem sgn_some {b : Nat → Nat} {n ch p p' : Nat} (h : sgq b n ch p = some p') : p < n ∧ b p = ch ∧ p' = sk b n (p + 1) ∧ p + 1 ≤ p' ∧ p' ≤ n ∧ sk b n p' = p' := by
  unfold sgq at h
  split at h
  · next hw =>
    cases h
    obtain ⟨h1, h2, h3⟩ := isB_iff.mp hw
    exact ⟨h1, by omega, rfl, sk_ge, sk_le (by omega), sk_sk⟩
  · cases h
theorem num_some {b : Nat → Nat} {n lo hb p v p' : Nat} (h : num b n lo hb p = some (v, p')) (hp : p ≤ n) : p + 1 ≤ p' ∧ p' ≤ n ∧ sk b n p' = p' ∧ lo ≤ v ∧ v < hb ∧ v = vlN b p (de b n p - p) ∧ p' = sk b n (de b n p) := by
  unfold num at h
  split at h
  · cases h
  · next hc =>
    cases h
    have a1 : p ≤ de b n p := ru_ge
    have a2 : de b n p ≤ n := ru_le hp
    have a3 : de b n p ≤ sk b n (de b n p) := sk_ge
    exact ⟨by omega, sk_le a2, sk_sk, by omega, by omega, rfl, rfl⟩
theorem oneF_some {b : Nat → Nat} {n : Nat} : ∀ (ws : List (List Nat)) (k p j p' : Nat), oneF b n ws k p = some (j, p') → p ≤ n → (∀ w, w ∈ ws → 1 ≤ w.length) → k ≤ j ∧ j < k + ws.length ∧ p + 1 ≤ p' ∧ p' ≤ n ∧ sk b n p' = p'
  | [], _, _, _, _, h, _, _ => by cases h
  | w :: ws, k, p, j, p', h, hp, hl => by
    unfold oneF at h
    split at h
    · next hw =>
      cases h
      have h1 := (isW_iff.mp hw).1
      have h2 : p + w.length ≤ n := by rw [← h1]; exact ru_le hp
      have h3 := hl w (List.mem_cons_self ..)
      have h4 : p + w.length ≤ sk b n (p + w.length) := sk_ge
      exact ⟨Nat.le_refl _, by simp only [List.length_cons]; omega, by omega, sk_le h2, sk_sk⟩
    · have := oneF_some ws (k + 1) p j p' h hp fun w hw => hl w (List.mem_cons_of_mem _ hw)
      simp only [List.length_cons]
      omega
theorem vlN_lt {b : Nat → Nat} {p : Nat} : ∀ k, (∀ i, i < k → b (p + i) ≤ 57) → vlN b p k < 10 ^ k
  | 0, _ => Nat.zero_lt_one
  | k + 1, h => by
    have ih := vlN_lt (b := b) (p := p) k fun i hi => h i (by omega)
    have := h k (by omega)
    unfold vlN
    rw [Nat.pow_succ]
    omega
