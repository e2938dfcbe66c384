/-! ===== price, dearest ===== -/
def mnN (V : sD) (g : Nat) : Nat := (V 9 g).toNatClampNeg
def pyP (V : sD) (w p g : Nat) : Bool := (decide (V 12 g = -1) && decide (V 6 g = Int32.ofNat w)) && decide (p ≤ mnN V g)
def pyN (V : sD) (ng w p : Nat) : Nat := nS (pyP V w p) ng
def ern (V : sD) (ng w p : Nat) : Nat := p * pyN V ng w p
def bpF (V : sD) (ng w g : Nat) (z : Nat × Nat) : Nat × Nat := if z.2 < ern V ng w (mnN V g) ∨ (ern V ng w (mnN V g) = z.2 ∧ mnN V g < z.1) then (mnN V g, ern V ng w (mnN V g)) else z
def bpC (V : sD) (ng w : Nat) : Nat × Nat := fo (bpF V ng w) ng 0 (0, 0)
def bpM (V : sD) (ng w : Nat) (n : Nat) : Nat := fo (fun p b => if ern V ng w b < ern V ng w p then p else b) n 1 0
theorem pyN_le {V : sD} {ng w p : Nat} : pyN V ng w p ≤ ng := nS_le _ _
theorem bpC_inv {V : sD} {ng w : Nat} : ∀ i, (fo (bpF V ng w) i 0 (0, 0)).2 = ern V ng w (fo (bpF V ng w) i 0 (0, 0)).1 ∧ ((fo (bpF V ng w) i 0 (0, 0)).2 = 0 → (fo (bpF V ng w) i 0 (0, 0)).1 = 0) ∧ ((fo (bpF V ng w) i 0 (0, 0)).1 = 0 ∨ ∃ g, g < i ∧ (fo (bpF V ng w) i 0 (0, 0)).1 = mnN V g) ∧ ∀ g, g < i → ern V ng w (mnN V g) < (fo (bpF V ng w) i 0 (0, 0)).2 ∨ (ern V ng w (mnN V g) = (fo (bpF V ng w) i 0 (0, 0)).2 ∧ (fo (bpF V ng w) i 0 (0, 0)).1 ≤ mnN V g)
  | 0 => ⟨by simp [fo, ern], fun _ => rfl, Or.inl rfl, fun g h => by omega⟩
  | i + 1 => by
    obtain ⟨h1, h2, h3, h4⟩ := bpC_inv (V := V) (ng := ng) (w := w) i
    rw [fo_snoc, Nat.zero_add]
    generalize fo (bpF V ng w) i 0 (0, 0) = z at *
    unfold bpF
    by_cases h : z.2 < ern V ng w (mnN V i) ∨ (ern V ng w (mnN V i) = z.2 ∧ mnN V i < z.1)
    · rw [if_pos h]
      refine ⟨rfl, fun e => ?_, Or.inr ⟨i, by omega, rfl⟩, fun g hg => ?_⟩
      · simp only at e ⊢
        rw [e] at h
        have : z.2 = 0 ∧ mnN V i < z.1 := by omega
        have := h2 this.1
        omega
      · simp only
        by_cases e : g = i
        · subst e; right; exact ⟨rfl, Nat.le_refl _⟩
        · have := h4 g (by omega); omega
    · rw [if_neg h]
      refine ⟨h1, h2, ?_, fun g hg => ?_⟩
      · cases h3 with
        | inl h => exact Or.inl h
        | inr h => obtain ⟨g, hg, e⟩ := h; exact Or.inr ⟨g, by omega, e⟩
      · by_cases e : g = i
        · subst e; omega
        · exact h4 g (by omega)
theorem bpM_inv {V : sD} {ng w : Nat} : ∀ n, bpM V ng w n ≤ n ∧ ∀ p, p ≤ n → ern V ng w p < ern V ng w (bpM V ng w n) ∨ (ern V ng w p = ern V ng w (bpM V ng w n) ∧ bpM V ng w n ≤ p)
  | 0 => ⟨Nat.le_refl _, fun p hp => by rw [show p = 0 by omega]; right; exact ⟨rfl, Nat.le_refl _⟩⟩
  | n + 1 => by
    obtain ⟨h1, h2⟩ := bpM_inv (V := V) (ng := ng) (w := w) n
    have e : bpM V ng w (n + 1) = if ern V ng w (bpM V ng w n) < ern V ng w (1 + n) then 1 + n else bpM V ng w n := by unfold bpM; rw [fo_snoc]
    rw [e]
    generalize bpM V ng w n = b at *
    by_cases h : ern V ng w b < ern V ng w (1 + n)
    · rw [if_pos h]
      refine ⟨by omega, fun p hp => ?_⟩
      by_cases ep : p = 1 + n
      · subst ep; right; exact ⟨rfl, Nat.le_refl _⟩
      · have := h2 p (by omega); omega
    · rw [if_neg h]
      refine ⟨by omega, fun p hp => ?_⟩
      by_cases ep : p = 1 + n
      · subst ep; omega
      · exact h2 p (by omega)
/-- the smallest of what some have -/
theorem min_of {p : Nat → Bool} {f : Nat → Nat} : ∀ n, (∃ g, g < n ∧ p g = true) → ∃ g, g < n ∧ p g = true ∧ ∀ k, k < n → p k = true → f g ≤ f k
  | 0, h => by obtain ⟨g, hg, _⟩ := h; omega
  | n + 1, h => by
    by_cases h2 : ∃ g, g < n ∧ p g = true
    · obtain ⟨g, hg, hp, hm⟩ := min_of (f := f) n h2
      by_cases hn : p n = true ∧ f n < f g
      · refine ⟨n, by omega, hn.1, fun k hk hpk => ?_⟩
        by_cases e : k = n
        · rw [e]; exact Nat.le_refl _
        · have := hm k (by omega) hpk; omega
      · refine ⟨g, by omega, hp, fun k hk hpk => ?_⟩
        by_cases e : k = n
        · subst e
          have : ¬ f k < f g := fun h => hn ⟨hpk, h⟩
          omega
        · exact hm k (by omega) hpk
    · obtain ⟨g, hg, hp⟩ := h
      have e : g = n := by
        by_cases e : g = n
        · exact e
        · exact absurd ⟨g, by omega, hp⟩ h2
      subst e
      refine ⟨g, by omega, hp, fun k hk hpk => ?_⟩
      by_cases e : k = g
      · rw [e]; exact Nat.le_refl _
      · exact absurd ⟨k, by omega, hpk⟩ h2
theorem nS_imp {p q : Nat → Bool} : ∀ n, (∀ i, i < n → p i = true → q i = true) → nS p n ≤ nS q n
  | 0, _ => Nat.le_refl _
  | n + 1, h => by
    rw [nS_succ, nS_succ]
    have ih := nS_imp (p := p) (q := q) n fun i hi => h i (by omega)
    have := h n (by omega)
    cases hp : p n <;> cases hq : q n <;> simp [hp, hq] at this ⊢ <;> omega
theorem nS_pos {p : Nat → Bool} : ∀ n, 0 < nS p n → ∃ g, g < n ∧ p g = true
  | 0, h => absurd h (Nat.lt_irrefl _)
  | n + 1, h => by
    rw [nS_succ] at h
    by_cases hp : p n = true
    · exact ⟨n, by omega, hp⟩
    · rw [if_neg hp] at h
      obtain ⟨g, hg, e⟩ := nS_pos n (by omega)
      exact ⟨g, by omega, e⟩
theorem best_is {V : sD} {nt ng nr nl w : Nat} (I : Iv V nt ng nr nl) : (bpC V ng w).1 = bpM V ng w 999 := by
  obtain ⟨c1, c2, c3, c4⟩ := bpC_inv (V := V) (ng := ng) (w := w) ng
  obtain ⟨m1, m2⟩ := bpM_inv (V := V) (ng := ng) (w := w) 999
  have mm : ∀ g, g < ng → mnN V g ≤ 999 := fun g hg => by
    obtain ⟨n, hn, e⟩ := i_money I hg
    unfold mnN
    rw [e, oN_tn (by omega)]; omega
  have ec : bpC V ng w = fo (bpF V ng w) ng 0 (0, 0) := rfl
  rw [← ec] at c1 c2 c3 c4
  generalize bpC V ng w = z at *
  generalize bpM V ng w 999 = b at *
  have hz : z.1 ≤ 999 := by
    cases c3 with
    | inl h => omega
    | inr h => obtain ⟨g, hg, e⟩ := h; have := mm g hg; omega
  have hb := m2 z.1 hz
  by_cases h0 : ern V ng w b = 0
  · have : z.2 = 0 := by omega
    have a0 := c2 this
    have := m2 0 (by omega)
    have e0 : ern V ng w 0 = 0 := Nat.zero_mul _
    omega
  · have hpos : 0 < pyN V ng w b := by
      unfold ern at h0
      exact Nat.pos_of_ne_zero fun h => h0 (by rw [h, Nat.mul_zero])
    obtain ⟨g, hg, hp, hm⟩ := min_of (f := mnN V) ng (nS_pos ng hpos)
    have hbq : b ≤ mnN V g := by
      unfold pyP at hp
      simp only [Bool.and_eq_true, decide_eq_true_eq] at hp
      exact hp.2
    have hle : pyN V ng w b ≤ pyN V ng w (mnN V g) := nS_imp ng fun k hk hpk => by
      have := hm k hk hpk
      unfold pyP at hpk ⊢
      simp only [Bool.and_eq_true, decide_eq_true_eq] at hpk ⊢
      exact ⟨hpk.1, this⟩
    have hq := m2 (mnN V g) (mm g hg)
    have e1 : ern V ng w (mnN V g) ≤ ern V ng w b := by omega
    have e2 : b * pyN V ng w b ≤ b * pyN V ng w (mnN V g) := Nat.mul_le_mul_left _ hle
    have e3 : b * pyN V ng w (mnN V g) ≤ mnN V g * pyN V ng w (mnN V g) := Nat.mul_le_mul_right _ hbq
    have eq : mnN V g = b := by
      by_cases hlt : b < mnN V g
      · have e4 : b * pyN V ng w (mnN V g) < mnN V g * pyN V ng w (mnN V g) := Nat.mul_lt_mul_of_pos_right hlt (by omega)
        unfold ern at e1
        omega
      · omega
    have := c4 g hg
    rw [eq] at this
    omega
