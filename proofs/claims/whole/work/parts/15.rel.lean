/-! ===== LAYER 2: the reference's row and the picture ===== -/
def Rw (r : Nat → Int32) (V : sD) (nt ng nr nl : Nat) : Prop :=
  (r 0 = Int32.ofNat nt ∧ r 1 = Int32.ofNat ng ∧ r 2 = Int32.ofNat nr ∧ r 6 = Int32.ofNat nl) ∧ (r 3 = V 0 13 ∧ r 5 = V 0 15 ∧ r 7 = V 0 16) ∧
  (∀ t, t < nt → r (8 + 5 * t + 0) = V 2 t ∧ r (8 + 5 * t + 1) = bo (bt (V 1 1) t) ∧ r (8 + 5 * t + 2) = V 3 t ∧ r (8 + 5 * t + 3) = V 4 t ∧ r (8 + 5 * t + 4) = V 5 t) ∧
  (∀ g, g < ng → r (48 + 9 * g + 0) = V 6 g ∧ r (48 + 9 * g + 1) = V 7 g ∧ r (48 + 9 * g + 2) = bo (bt (V 0 4) g) ∧ r (48 + 9 * g + 3) = V 8 g ∧ r (48 + 9 * g + 4) = V 9 g ∧ r (48 + 9 * g + 5) = V 10 g ∧ r (48 + 9 * g + 6) = V 11 g ∧ r (48 + 9 * g + 7) = bo (decide (¬ V 12 g = -1)) ∧ r (48 + 9 * g + 8) = V 12 g) ∧
  (∀ t, t < nr → r (102 + 2 * t + 0) = V 13 t ∧ r (102 + 2 * t + 1) = V 14 t) ∧
  (∀ k w, k < nl → w < 4 → r (112 + 4 * k + w) = V 16 (4 * (nl - 1 - k) + w))
section R15
variable {r : Nat → Int32} {V : sD} {nt ng nr nl : Nat}
theorem r_nt (h : Rw r V nt ng nr nl) : r 0 = Int32.ofNat nt := h.1.1
theorem r_ng (h : Rw r V nt ng nr nl) : r 1 = Int32.ofNat ng := h.1.2.1
theorem r_nr (h : Rw r V nt ng nr nl) : r 2 = Int32.ofNat nr := h.1.2.2.1
theorem r_nl (h : Rw r V nt ng nr nl) : r 6 = Int32.ofNat nl := h.1.2.2.2
theorem r_tx (h : Rw r V nt ng nr nl) : r 3 = V 0 13 := h.2.1.1
theorem r_day (h : Rw r V nt ng nr nl) : r 5 = V 0 15 := h.2.1.2.1
theorem r_seed (h : Rw r V nt ng nr nl) : r 7 = V 0 16 := h.2.1.2.2
theorem r_at (h : Rw r V nt ng nr nl) {t : Nat} (ht : t < nt) : r (8 + 5 * t + 0) = V 2 t := (h.2.2.1 t ht).1
theorem r_first (h : Rw r V nt ng nr nl) {t : Nat} (ht : t < nt) : r (8 + 5 * t + 1) = bo (bt (V 1 1) t) := (h.2.2.1 t ht).2.1
theorem r_worth (h : Rw r V nt ng nr nl) {t : Nat} (ht : t < nt) : r (8 + 5 * t + 2) = V 3 t := (h.2.2.1 t ht).2.2.1
theorem r_makes (h : Rw r V nt ng nr nl) {t : Nat} (ht : t < nt) : r (8 + 5 * t + 3) = V 4 t := (h.2.2.1 t ht).2.2.2.1
theorem r_hinders (h : Rw r V nt ng nr nl) {t : Nat} (ht : t < nt) : r (8 + 5 * t + 4) = V 5 t := (h.2.2.1 t ht).2.2.2.2
theorem r_wish (h : Rw r V nt ng nr nl) {t : Nat} (ht : t < ng) : r (48 + 9 * t + 0) = V 6 t := (h.2.2.2.1 t ht).1
theorem r_deed (h : Rw r V nt ng nr nl) {t : Nat} (ht : t < ng) : r (48 + 9 * t + 1) = V 7 t := (h.2.2.2.1 t ht).2.1
theorem r_mk (h : Rw r V nt ng nr nl) {t : Nat} (ht : t < ng) : r (48 + 9 * t + 2) = bo (bt (V 0 4) t) := (h.2.2.2.1 t ht).2.2.1
theorem r_born (h : Rw r V nt ng nr nl) {t : Nat} (ht : t < ng) : r (48 + 9 * t + 3) = V 8 t := (h.2.2.2.1 t ht).2.2.2.1
theorem r_money (h : Rw r V nt ng nr nl) {t : Nat} (ht : t < ng) : r (48 + 9 * t + 4) = V 9 t := (h.2.2.2.1 t ht).2.2.2.2.1
theorem r_nerve (h : Rw r V nt ng nr nl) {t : Nat} (ht : t < ng) : r (48 + 9 * t + 5) = V 10 t := (h.2.2.2.1 t ht).2.2.2.2.2.1
theorem r_shuns (h : Rw r V nt ng nr nl) {t : Nat} (ht : t < ng) : r (48 + 9 * t + 6) = V 11 t := (h.2.2.2.1 t ht).2.2.2.2.2.2.1
theorem r_gone (h : Rw r V nt ng nr nl) {t : Nat} (ht : t < ng) : r (48 + 9 * t + 7) = bo (decide (¬ V 12 t = -1)) := (h.2.2.2.1 t ht).2.2.2.2.2.2.2.1
theorem r_by (h : Rw r V nt ng nr nl) {t : Nat} (ht : t < ng) : r (48 + 9 * t + 8) = V 12 t := (h.2.2.2.1 t ht).2.2.2.2.2.2.2.2
theorem r_halts (h : Rw r V nt ng nr nl) {t : Nat} (ht : t < nr) : r (102 + 2 * t + 0) = V 13 t := (h.2.2.2.2.1 t ht).1
theorem r_seats (h : Rw r V nt ng nr nl) {t : Nat} (ht : t < nr) : r (102 + 2 * t + 1) = V 14 t := (h.2.2.2.2.1 t ht).2
theorem r_log (h : Rw r V nt ng nr nl) {k w : Nat} (hk : k < nl) (hw : w < 4) : r (112 + 4 * k + w) = V 16 (4 * (nl - 1 - k) + w) := h.2.2.2.2.2 k w hk hw
end R15
/-! bits and how many -/
theorem bs_lt (p : Nat → Bool) {n : Nat} (hn : n ≤ 8) : ∃ m, m < 2 ^ n ∧ bs p n = Int32.ofNat m := by
  induction n with
  | zero => exact ⟨0, by decide, rfl⟩
  | succ n ih =>
    obtain ⟨m, hm, e⟩ := ih (by omega)
    rw [bs_succ]
    by_cases hp : p n = true
    · refine ⟨m + 2 ^ n, by rw [Nat.pow_succ]; omega, ?_⟩
      rw [if_pos hp, e]
      have h : ∀ j, j < 2048 → (j % 256 < 2 ^ (j / 256) → Int32.ofNat (j % 256) ||| jshl (Int32.ofNat 1) (Int32.ofNat (j / 256)) = Int32.ofNat (j % 256 + 2 ^ (j / 256))) := by decide +kernel
      have h2 : 2 ^ n ≤ 2 ^ 7 := Nat.pow_le_pow_right (by decide) (by omega)
      have h1 := h (256 * n + m) (by omega)
      rw [show (256 * n + m) % 256 = m by omega, show (256 * n + m) / 256 = n by omega] at h1
      exact h1 hm
    · exact ⟨m, by rw [Nat.pow_succ]; omega, by rw [if_neg hp, e]⟩
def bc (l0 : Int32) : Int32 := ((((((((l0 - ((jushr l0 (Int32.ofNat 1)) &&& (Int32.ofNat 1431655765))) &&& (Int32.ofNat 858993459)) + ((jushr (l0 - ((jushr l0 (Int32.ofNat 1)) &&& (Int32.ofNat 1431655765))) (Int32.ofNat 2)) &&& (Int32.ofNat 858993459))) + (jushr (((l0 - ((jushr l0 (Int32.ofNat 1)) &&& (Int32.ofNat 1431655765))) &&& (Int32.ofNat 858993459)) + ((jushr (l0 - ((jushr l0 (Int32.ofNat 1)) &&& (Int32.ofNat 1431655765))) (Int32.ofNat 2)) &&& (Int32.ofNat 858993459))) (Int32.ofNat 4))) &&& (Int32.ofNat 252645135)) + (jushr (((((l0 - ((jushr l0 (Int32.ofNat 1)) &&& (Int32.ofNat 1431655765))) &&& (Int32.ofNat 858993459)) + ((jushr (l0 - ((jushr l0 (Int32.ofNat 1)) &&& (Int32.ofNat 1431655765))) (Int32.ofNat 2)) &&& (Int32.ofNat 858993459))) + (jushr (((l0 - ((jushr l0 (Int32.ofNat 1)) &&& (Int32.ofNat 1431655765))) &&& (Int32.ofNat 858993459)) + ((jushr (l0 - ((jushr l0 (Int32.ofNat 1)) &&& (Int32.ofNat 1431655765))) (Int32.ofNat 2)) &&& (Int32.ofNat 858993459))) (Int32.ofNat 4))) &&& (Int32.ofNat 252645135)) (Int32.ofNat 8))) + (jushr ((((((l0 - ((jushr l0 (Int32.ofNat 1)) &&& (Int32.ofNat 1431655765))) &&& (Int32.ofNat 858993459)) + ((jushr (l0 - ((jushr l0 (Int32.ofNat 1)) &&& (Int32.ofNat 1431655765))) (Int32.ofNat 2)) &&& (Int32.ofNat 858993459))) + (jushr (((l0 - ((jushr l0 (Int32.ofNat 1)) &&& (Int32.ofNat 1431655765))) &&& (Int32.ofNat 858993459)) + ((jushr (l0 - ((jushr l0 (Int32.ofNat 1)) &&& (Int32.ofNat 1431655765))) (Int32.ofNat 2)) &&& (Int32.ofNat 858993459))) (Int32.ofNat 4))) &&& (Int32.ofNat 252645135)) + (jushr (((((l0 - ((jushr l0 (Int32.ofNat 1)) &&& (Int32.ofNat 1431655765))) &&& (Int32.ofNat 858993459)) + ((jushr (l0 - ((jushr l0 (Int32.ofNat 1)) &&& (Int32.ofNat 1431655765))) (Int32.ofNat 2)) &&& (Int32.ofNat 858993459))) + (jushr (((l0 - ((jushr l0 (Int32.ofNat 1)) &&& (Int32.ofNat 1431655765))) &&& (Int32.ofNat 858993459)) + ((jushr (l0 - ((jushr l0 (Int32.ofNat 1)) &&& (Int32.ofNat 1431655765))) (Int32.ofNat 2)) &&& (Int32.ofNat 858993459))) (Int32.ofNat 4))) &&& (Int32.ofNat 252645135)) (Int32.ofNat 8))) (Int32.ofNat 16))) &&& (Int32.ofNat 63))
section C15
variable {nx : Nat} {xs : Nat → Int32} {d c s : Nat} {sh : List sC} {D : sD} {Q : av_Q}
theorem k357 {x : Int32} (hw : WT sh) : Wx (tP nx xs) d 357 0 [some (.int (x))] [] (mk sh D) c s Q = Q (.inl (some (.int (bc x)))) (mk sh D) c s := b357_0 hw
end C15
theorem bc_bs (p : Nat → Bool) {n : Nat} (hn : n ≤ 8) : bc (bs p n) = Int32.ofNat (nS p n) := by
  induction n with
  | zero => show bc (Int32.ofNat 0) = Int32.ofNat 0; decide
  | succ n ih =>
    have ih := ih (by omega)
    obtain ⟨m, hm, e⟩ := bs_lt p (show n ≤ 8 by omega)
    rw [bs_succ, nS_succ]
    by_cases hp : p n = true
    · rw [if_pos hp, if_pos hp, ← oN_add, ← ih, e]
      have h : ∀ j, j < 2048 → (j % 256 < 2 ^ (j / 256) → bc (Int32.ofNat (j % 256) ||| jshl (Int32.ofNat 1) (Int32.ofNat (j / 256))) = bc (Int32.ofNat (j % 256)) + Int32.ofNat 1) := by decide +kernel
      have h2 : 2 ^ n ≤ 2 ^ 7 := Nat.pow_le_pow_right (by decide) (by omega)
      have h1 := h (256 * n + m) (by omega)
      rw [show (256 * n + m) % 256 = m by omega, show (256 * n + m) / 256 = n by omega] at h1
      exact h1 hm
    · rw [if_neg hp, if_neg hp, ih]
      rfl
