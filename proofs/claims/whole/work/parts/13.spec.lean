/-! ===== LAYER 2: sets, sums ===== -/
theorem or_0 : (Int32.ofNat 0 = 0 ∨ Int32.ofNat 0 = 1) = True := by decide
theorem or_1 : (Int32.ofNat 1 = 0 ∨ Int32.ofNat 1 = 1) = True := by decide
theorem ite_bo {α : Type} {p : Bool} {x y : α} : (if bo p = Int32.ofNat 0 then x else y) = if p then y else x := by cases p <;> rfl
theorem ite_boP {p : Bool} {x y : Prop} : (if bo p = Int32.ofNat 0 then x else y) = if p then y else x := by cases p <;> rfl
/-- those of 0 .. n - 1 with p, as bits -/
def bs (p : Nat → Bool) (n : Nat) : Int32 := fo (fun g x => if p g then x ||| jshl (Int32.ofNat 1) (Int32.ofNat g) else x) n 0 (Int32.ofNat 0)
theorem b_00 (i : Nat) : bt (Int32.ofNat 0) i = false := b_0 i
theorem bs_bt (p : Nat → Bool) {n : Nat} (hn : n ≤ 32) {k : Nat} (hk : k < 32) : bt (bs p n) k = (decide (k < n) && p k) := by
  have h := fo_inv (F := fun g x => if p g then x ||| jshl (Int32.ofNat 1) (Int32.ofNat g) else x) (fun i x => i ≤ 32 → bt x k = (decide (k < i) && p k)) n 0 (Int32.ofNat 0) (fun _ => by rw [b_00]; simp) (fun j x _ hj ih hl => by
    have ih := ih (by omega)
    by_cases hp : p j = true
    · simp only [hp, if_true]
      rw [b_or, ih, jshl_1 (by omega) hk]
      by_cases e : k = j
      · subst e; simp [hp]
      · by_cases e2 : k < j
        · simp [e, e2, show k < j + 1 by omega]
        · simp [e, e2, show ¬ k < j + 1 by omega]
    · simp only [hp]
      rw [if_neg (by simp), ih]
      by_cases e : k = j
      · subst e; simp [hp]
      · by_cases e2 : k < j
        · simp [e2, show k < j + 1 by omega]
        · simp [e2, show ¬ k < j + 1 by omega])
  rw [Nat.zero_add] at h
  exact h hn
theorem bs_congr {p q : Nat → Bool} {n : Nat} (h : ∀ g, g < n → p g = q g) : bs p n = bs q n := by
  unfold bs
  apply fo_congr
  intro j x _ hj
  rw [h j (by omega)]
/-- all of some numbers, as bits or as a sum -/
def oS (f : Nat → Int32) (n : Nat) : Int32 := fo (fun g x => x ||| f g) n 0 (Int32.ofNat 0)
def aS (f : Nat → Int32) (n : Nat) : Int32 := fo (fun g x => x + f g) n 0 (Int32.ofNat 0)
/-- how many with p -/
def nS (p : Nat → Bool) (n : Nat) : Nat := fo (fun g x => if p g then x + 1 else x) n 0 0
theorem nS_le (p : Nat → Bool) (n : Nat) : nS p n ≤ n := by
  have h := fo_inv (F := fun g x => if p g then x + 1 else x) (fun i (x : Nat) => x ≤ i) n 0 0 (Nat.le_refl _) (fun j x _ _ ih => by split <;> omega)
  rw [Nat.zero_add] at h
  exact h
theorem nS_congr {p q : Nat → Bool} {n : Nat} (h : ∀ g, g < n → p g = q g) : nS p n = nS q n := by
  unfold nS
  apply fo_congr
  intro j x _ hj
  rw [h j (by omega)]
theorem nS_succ (p : Nat → Bool) (n : Nat) : nS p (n + 1) = nS p n + if p n then 1 else 0 := by
  unfold nS
  rw [fo_snoc, Nat.zero_add]
  split <;> rfl
theorem bs_succ (p : Nat → Bool) (n : Nat) : bs p (n + 1) = if p n then bs p n ||| jshl (Int32.ofNat 1) (Int32.ofNat n) else bs p n := by
  unfold bs
  rw [fo_snoc, Nat.zero_add]
