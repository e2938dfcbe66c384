/-! ===== the reference's row, changed ===== -/
section R47
variable {r r' : Nat → Int32} {V : sD} {nt ng nr nl g : Nat} {x : Int32}
theorem Rw_by (h : Rw r V nt ng nr nl) (b1 : nt ≤ 8) (b2 : ng ≤ 6) (b3 : nr ≤ 5) (hg : g < ng) (ho : ∀ i, i ≠ 48 + 9 * g + 7 → i ≠ 48 + 9 * g + 8 → r' i = r i) (h7 : r' (48 + 9 * g + 7) = bo (decide (¬ x = -1))) (h8 : r' (48 + 9 * g + 8) = x) : Rw r' (u2 V 12 g x) nt ng nr nl := by
  obtain ⟨⟨a1, a2, a3, a4⟩, ⟨a5, a6, a7⟩, h3, h4, h5, h6⟩ := h
  refine ⟨⟨?_, ?_, ?_, ?_⟩, ⟨?_, ?_, ?_⟩, ?_, ?_, ?_, ?_⟩
  · rw [ho 0 (by omega) (by omega)]; exact a1
  · rw [ho 1 (by omega) (by omega)]; exact a2
  · rw [ho 2 (by omega) (by omega)]; exact a3
  · rw [ho 6 (by omega) (by omega)]; exact a4
  · rw [ho 3 (by omega) (by omega)]; simpa [u2_at] using a5
  · rw [ho 5 (by omega) (by omega)]; simpa [u2_at] using a6
  · rw [ho 7 (by omega) (by omega)]; simpa [u2_at] using a7
  · intro t ht
    rw [ho _ (by omega) (by omega), ho _ (by omega) (by omega), ho _ (by omega) (by omega), ho _ (by omega) (by omega), ho _ (by omega) (by omega)]
    simpa [u2_at] using h3 t ht
  · intro g' hg'
    by_cases e : g' = g
    · subst e
      rw [ho _ (by omega) (by omega), ho _ (by omega) (by omega), ho _ (by omega) (by omega), ho _ (by omega) (by omega), ho _ (by omega) (by omega), ho _ (by omega) (by omega), ho _ (by omega) (by omega), h7, h8]
      have := h4 g' hg'
      simp only [u2_at]
      simpa using ⟨this.1, this.2.1, this.2.2.1, this.2.2.2.1, this.2.2.2.2.1, this.2.2.2.2.2.1, this.2.2.2.2.2.2.1⟩
    · rw [ho _ (by omega) (by omega), ho _ (by omega) (by omega), ho _ (by omega) (by omega), ho _ (by omega) (by omega), ho _ (by omega) (by omega), ho _ (by omega) (by omega), ho _ (by omega) (by omega), ho _ (by omega) (by omega), ho _ (by omega) (by omega)]
      have := h4 g' hg'
      simp only [u2_at]
      simpa [e] using this
  · intro t ht
    rw [ho _ (by omega) (by omega), ho _ (by omega) (by omega)]
    simpa [u2_at] using h5 t ht
  · intro k w hk hw
    rw [ho _ (by omega) (by omega)]
    simpa [u2_at] using h6 k w hk hw
theorem Rw_wish (h : Rw r V nt ng nr nl) (b1 : nt ≤ 8) (b2 : ng ≤ 6) (b3 : nr ≤ 5) (hg : g < ng) (ho : ∀ i, i ≠ 48 + 9 * g + 0 → r' i = r i) (h7 : r' (48 + 9 * g + 0) = x) : Rw r' (u2 V 6 g x) nt ng nr nl := by
  obtain ⟨⟨a1, a2, a3, a4⟩, ⟨a5, a6, a7⟩, h3, h4, h5, h6⟩ := h
  refine ⟨⟨?_, ?_, ?_, ?_⟩, ⟨?_, ?_, ?_⟩, ?_, ?_, ?_, ?_⟩
  · rw [ho 0 (by omega)]; exact a1
  · rw [ho 1 (by omega)]; exact a2
  · rw [ho 2 (by omega)]; exact a3
  · rw [ho 6 (by omega)]; exact a4
  · rw [ho 3 (by omega)]; simpa [u2_at] using a5
  · rw [ho 5 (by omega)]; simpa [u2_at] using a6
  · rw [ho 7 (by omega)]; simpa [u2_at] using a7
  · intro t ht
    rw [ho _ (by omega), ho _ (by omega), ho _ (by omega), ho _ (by omega), ho _ (by omega)]
    simpa [u2_at] using h3 t ht
  · intro g' hg'
    have := h4 g' hg'
    by_cases e : g' = g
    · subst e
      have hh : ∀ w, w ≠ 0 → w < 9 → r' (48 + 9 * g' + w) = r (48 + 9 * g' + w) := fun w h1 h2 => ho _ (by omega)
      simp only [u2_at]
      refine ⟨?_, ?_, ?_, ?_, ?_, ?_, ?_, ?_, ?_⟩
      · simpa using h7
      · rw [hh 1 (by decide) (by decide)]; simpa using this.2.1
      · rw [hh 2 (by decide) (by decide)]; simpa using this.2.2.1
      · rw [hh 3 (by decide) (by decide)]; simpa using this.2.2.2.1
      · rw [hh 4 (by decide) (by decide)]; simpa using this.2.2.2.2.1
      · rw [hh 5 (by decide) (by decide)]; simpa using this.2.2.2.2.2.1
      · rw [hh 6 (by decide) (by decide)]; simpa using this.2.2.2.2.2.2.1
      · rw [hh 7 (by decide) (by decide)]; simpa using this.2.2.2.2.2.2.2.1
      · rw [hh 8 (by decide) (by decide)]; simpa using this.2.2.2.2.2.2.2.2
    · rw [ho _ (by omega), ho _ (by omega), ho _ (by omega), ho _ (by omega), ho _ (by omega), ho _ (by omega), ho _ (by omega), ho _ (by omega), ho _ (by omega)]
      simp only [u2_at]
      simpa [e] using this
  · intro t ht
    rw [ho _ (by omega), ho _ (by omega)]
    simpa [u2_at] using h5 t ht
  · intro k w hk hw
    rw [ho _ (by omega)]
    simpa [u2_at] using h6 k w hk hw
theorem Rw_deed (h : Rw r V nt ng nr nl) (b1 : nt ≤ 8) (b2 : ng ≤ 6) (b3 : nr ≤ 5) (hg : g < ng) (ho : ∀ i, i ≠ 48 + 9 * g + 1 → r' i = r i) (h7 : r' (48 + 9 * g + 1) = x) : Rw r' (u2 V 7 g x) nt ng nr nl := by
  obtain ⟨⟨a1, a2, a3, a4⟩, ⟨a5, a6, a7⟩, h3, h4, h5, h6⟩ := h
  refine ⟨⟨?_, ?_, ?_, ?_⟩, ⟨?_, ?_, ?_⟩, ?_, ?_, ?_, ?_⟩
  · rw [ho 0 (by omega)]; exact a1
  · rw [ho 1 (by omega)]; exact a2
  · rw [ho 2 (by omega)]; exact a3
  · rw [ho 6 (by omega)]; exact a4
  · rw [ho 3 (by omega)]; simpa [u2_at] using a5
  · rw [ho 5 (by omega)]; simpa [u2_at] using a6
  · rw [ho 7 (by omega)]; simpa [u2_at] using a7
  · intro t ht
    rw [ho _ (by omega), ho _ (by omega), ho _ (by omega), ho _ (by omega), ho _ (by omega)]
    simpa [u2_at] using h3 t ht
  · intro g' hg'
    have := h4 g' hg'
    by_cases e : g' = g
    · subst e
      have hh : ∀ w, w ≠ 1 → w < 9 → r' (48 + 9 * g' + w) = r (48 + 9 * g' + w) := fun w h1 h2 => ho _ (by omega)
      simp only [u2_at]
      refine ⟨?_, ?_, ?_, ?_, ?_, ?_, ?_, ?_, ?_⟩
      · rw [hh 0 (by decide) (by decide)]; simpa using this.1
      · simpa using h7
      · rw [hh 2 (by decide) (by decide)]; simpa using this.2.2.1
      · rw [hh 3 (by decide) (by decide)]; simpa using this.2.2.2.1
      · rw [hh 4 (by decide) (by decide)]; simpa using this.2.2.2.2.1
      · rw [hh 5 (by decide) (by decide)]; simpa using this.2.2.2.2.2.1
      · rw [hh 6 (by decide) (by decide)]; simpa using this.2.2.2.2.2.2.1
      · rw [hh 7 (by decide) (by decide)]; simpa using this.2.2.2.2.2.2.2.1
      · rw [hh 8 (by decide) (by decide)]; simpa using this.2.2.2.2.2.2.2.2
    · rw [ho _ (by omega), ho _ (by omega), ho _ (by omega), ho _ (by omega), ho _ (by omega), ho _ (by omega), ho _ (by omega), ho _ (by omega), ho _ (by omega)]
      simp only [u2_at]
      simpa [e] using this
  · intro t ht
    rw [ho _ (by omega), ho _ (by omega)]
    simpa [u2_at] using h5 t ht
  · intro k w hk hw
    rw [ho _ (by omega)]
    simpa [u2_at] using h6 k w hk hw
theorem Rw_born (h : Rw r V nt ng nr nl) (b1 : nt ≤ 8) (b2 : ng ≤ 6) (b3 : nr ≤ 5) (hg : g < ng) (ho : ∀ i, i ≠ 48 + 9 * g + 3 → r' i = r i) (h7 : r' (48 + 9 * g + 3) = x) : Rw r' (u2 V 8 g x) nt ng nr nl := by
  obtain ⟨⟨a1, a2, a3, a4⟩, ⟨a5, a6, a7⟩, h3, h4, h5, h6⟩ := h
  refine ⟨⟨?_, ?_, ?_, ?_⟩, ⟨?_, ?_, ?_⟩, ?_, ?_, ?_, ?_⟩
  · rw [ho 0 (by omega)]; exact a1
  · rw [ho 1 (by omega)]; exact a2
  · rw [ho 2 (by omega)]; exact a3
  · rw [ho 6 (by omega)]; exact a4
  · rw [ho 3 (by omega)]; simpa [u2_at] using a5
  · rw [ho 5 (by omega)]; simpa [u2_at] using a6
  · rw [ho 7 (by omega)]; simpa [u2_at] using a7
  · intro t ht
    rw [ho _ (by omega), ho _ (by omega), ho _ (by omega), ho _ (by omega), ho _ (by omega)]
    simpa [u2_at] using h3 t ht
  · intro g' hg'
    have := h4 g' hg'
    by_cases e : g' = g
    · subst e
      have hh : ∀ w, w ≠ 3 → w < 9 → r' (48 + 9 * g' + w) = r (48 + 9 * g' + w) := fun w h1 h2 => ho _ (by omega)
      simp only [u2_at]
      refine ⟨?_, ?_, ?_, ?_, ?_, ?_, ?_, ?_, ?_⟩
      · rw [hh 0 (by decide) (by decide)]; simpa using this.1
      · rw [hh 1 (by decide) (by decide)]; simpa using this.2.1
      · rw [hh 2 (by decide) (by decide)]; simpa using this.2.2.1
      · simpa using h7
      · rw [hh 4 (by decide) (by decide)]; simpa using this.2.2.2.2.1
      · rw [hh 5 (by decide) (by decide)]; simpa using this.2.2.2.2.2.1
      · rw [hh 6 (by decide) (by decide)]; simpa using this.2.2.2.2.2.2.1
      · rw [hh 7 (by decide) (by decide)]; simpa using this.2.2.2.2.2.2.2.1
      · rw [hh 8 (by decide) (by decide)]; simpa using this.2.2.2.2.2.2.2.2
    · rw [ho _ (by omega), ho _ (by omega), ho _ (by omega), ho _ (by omega), ho _ (by omega), ho _ (by omega), ho _ (by omega), ho _ (by omega), ho _ (by omega)]
      simp only [u2_at]
      simpa [e] using this
  · intro t ht
    rw [ho _ (by omega), ho _ (by omega)]
    simpa [u2_at] using h5 t ht
  · intro k w hk hw
    rw [ho _ (by omega)]
    simpa [u2_at] using h6 k w hk hw
theorem Rw_money (h : Rw r V nt ng nr nl) (b1 : nt ≤ 8) (b2 : ng ≤ 6) (b3 : nr ≤ 5) (hg : g < ng) (ho : ∀ i, i ≠ 48 + 9 * g + 4 → r' i = r i) (h7 : r' (48 + 9 * g + 4) = x) : Rw r' (u2 V 9 g x) nt ng nr nl := by
  obtain ⟨⟨a1, a2, a3, a4⟩, ⟨a5, a6, a7⟩, h3, h4, h5, h6⟩ := h
  refine ⟨⟨?_, ?_, ?_, ?_⟩, ⟨?_, ?_, ?_⟩, ?_, ?_, ?_, ?_⟩
  · rw [ho 0 (by omega)]; exact a1
  · rw [ho 1 (by omega)]; exact a2
  · rw [ho 2 (by omega)]; exact a3
  · rw [ho 6 (by omega)]; exact a4
  · rw [ho 3 (by omega)]; simpa [u2_at] using a5
  · rw [ho 5 (by omega)]; simpa [u2_at] using a6
  · rw [ho 7 (by omega)]; simpa [u2_at] using a7
  · intro t ht
    rw [ho _ (by omega), ho _ (by omega), ho _ (by omega), ho _ (by omega), ho _ (by omega)]
    simpa [u2_at] using h3 t ht
  · intro g' hg'
    have := h4 g' hg'
    by_cases e : g' = g
    · subst e
      have hh : ∀ w, w ≠ 4 → w < 9 → r' (48 + 9 * g' + w) = r (48 + 9 * g' + w) := fun w h1 h2 => ho _ (by omega)
      simp only [u2_at]
      refine ⟨?_, ?_, ?_, ?_, ?_, ?_, ?_, ?_, ?_⟩
      · rw [hh 0 (by decide) (by decide)]; simpa using this.1
      · rw [hh 1 (by decide) (by decide)]; simpa using this.2.1
      · rw [hh 2 (by decide) (by decide)]; simpa using this.2.2.1
      · rw [hh 3 (by decide) (by decide)]; simpa using this.2.2.2.1
      · simpa using h7
      · rw [hh 5 (by decide) (by decide)]; simpa using this.2.2.2.2.2.1
      · rw [hh 6 (by decide) (by decide)]; simpa using this.2.2.2.2.2.2.1
      · rw [hh 7 (by decide) (by decide)]; simpa using this.2.2.2.2.2.2.2.1
      · rw [hh 8 (by decide) (by decide)]; simpa using this.2.2.2.2.2.2.2.2
    · rw [ho _ (by omega), ho _ (by omega), ho _ (by omega), ho _ (by omega), ho _ (by omega), ho _ (by omega), ho _ (by omega), ho _ (by omega), ho _ (by omega)]
      simp only [u2_at]
      simpa [e] using this
  · intro t ht
    rw [ho _ (by omega), ho _ (by omega)]
    simpa [u2_at] using h5 t ht
  · intro k w hk hw
    rw [ho _ (by omega)]
    simpa [u2_at] using h6 k w hk hw
theorem Rw_nerve (h : Rw r V nt ng nr nl) (b1 : nt ≤ 8) (b2 : ng ≤ 6) (b3 : nr ≤ 5) (hg : g < ng) (ho : ∀ i, i ≠ 48 + 9 * g + 5 → r' i = r i) (h7 : r' (48 + 9 * g + 5) = x) : Rw r' (u2 V 10 g x) nt ng nr nl := by
  obtain ⟨⟨a1, a2, a3, a4⟩, ⟨a5, a6, a7⟩, h3, h4, h5, h6⟩ := h
  refine ⟨⟨?_, ?_, ?_, ?_⟩, ⟨?_, ?_, ?_⟩, ?_, ?_, ?_, ?_⟩
  · rw [ho 0 (by omega)]; exact a1
  · rw [ho 1 (by omega)]; exact a2
  · rw [ho 2 (by omega)]; exact a3
  · rw [ho 6 (by omega)]; exact a4
  · rw [ho 3 (by omega)]; simpa [u2_at] using a5
  · rw [ho 5 (by omega)]; simpa [u2_at] using a6
  · rw [ho 7 (by omega)]; simpa [u2_at] using a7
  · intro t ht
    rw [ho _ (by omega), ho _ (by omega), ho _ (by omega), ho _ (by omega), ho _ (by omega)]
    simpa [u2_at] using h3 t ht
  · intro g' hg'
    have := h4 g' hg'
    by_cases e : g' = g
    · subst e
      have hh : ∀ w, w ≠ 5 → w < 9 → r' (48 + 9 * g' + w) = r (48 + 9 * g' + w) := fun w h1 h2 => ho _ (by omega)
      simp only [u2_at]
      refine ⟨?_, ?_, ?_, ?_, ?_, ?_, ?_, ?_, ?_⟩
      · rw [hh 0 (by decide) (by decide)]; simpa using this.1
      · rw [hh 1 (by decide) (by decide)]; simpa using this.2.1
      · rw [hh 2 (by decide) (by decide)]; simpa using this.2.2.1
      · rw [hh 3 (by decide) (by decide)]; simpa using this.2.2.2.1
      · rw [hh 4 (by decide) (by decide)]; simpa using this.2.2.2.2.1
      · simpa using h7
      · rw [hh 6 (by decide) (by decide)]; simpa using this.2.2.2.2.2.2.1
      · rw [hh 7 (by decide) (by decide)]; simpa using this.2.2.2.2.2.2.2.1
      · rw [hh 8 (by decide) (by decide)]; simpa using this.2.2.2.2.2.2.2.2
    · rw [ho _ (by omega), ho _ (by omega), ho _ (by omega), ho _ (by omega), ho _ (by omega), ho _ (by omega), ho _ (by omega), ho _ (by omega), ho _ (by omega)]
      simp only [u2_at]
      simpa [e] using this
  · intro t ht
    rw [ho _ (by omega), ho _ (by omega)]
    simpa [u2_at] using h5 t ht
  · intro k w hk hw
    rw [ho _ (by omega)]
    simpa [u2_at] using h6 k w hk hw
theorem Rw_shuns (h : Rw r V nt ng nr nl) (b1 : nt ≤ 8) (b2 : ng ≤ 6) (b3 : nr ≤ 5) (hg : g < ng) (ho : ∀ i, i ≠ 48 + 9 * g + 6 → r' i = r i) (h7 : r' (48 + 9 * g + 6) = x) : Rw r' (u2 V 11 g x) nt ng nr nl := by
  obtain ⟨⟨a1, a2, a3, a4⟩, ⟨a5, a6, a7⟩, h3, h4, h5, h6⟩ := h
  refine ⟨⟨?_, ?_, ?_, ?_⟩, ⟨?_, ?_, ?_⟩, ?_, ?_, ?_, ?_⟩
  · rw [ho 0 (by omega)]; exact a1
  · rw [ho 1 (by omega)]; exact a2
  · rw [ho 2 (by omega)]; exact a3
  · rw [ho 6 (by omega)]; exact a4
  · rw [ho 3 (by omega)]; simpa [u2_at] using a5
  · rw [ho 5 (by omega)]; simpa [u2_at] using a6
  · rw [ho 7 (by omega)]; simpa [u2_at] using a7
  · intro t ht
    rw [ho _ (by omega), ho _ (by omega), ho _ (by omega), ho _ (by omega), ho _ (by omega)]
    simpa [u2_at] using h3 t ht
  · intro g' hg'
    have := h4 g' hg'
    by_cases e : g' = g
    · subst e
      have hh : ∀ w, w ≠ 6 → w < 9 → r' (48 + 9 * g' + w) = r (48 + 9 * g' + w) := fun w h1 h2 => ho _ (by omega)
      simp only [u2_at]
      refine ⟨?_, ?_, ?_, ?_, ?_, ?_, ?_, ?_, ?_⟩
      · rw [hh 0 (by decide) (by decide)]; simpa using this.1
      · rw [hh 1 (by decide) (by decide)]; simpa using this.2.1
      · rw [hh 2 (by decide) (by decide)]; simpa using this.2.2.1
      · rw [hh 3 (by decide) (by decide)]; simpa using this.2.2.2.1
      · rw [hh 4 (by decide) (by decide)]; simpa using this.2.2.2.2.1
      · rw [hh 5 (by decide) (by decide)]; simpa using this.2.2.2.2.2.1
      · simpa using h7
      · rw [hh 7 (by decide) (by decide)]; simpa using this.2.2.2.2.2.2.2.1
      · rw [hh 8 (by decide) (by decide)]; simpa using this.2.2.2.2.2.2.2.2
    · rw [ho _ (by omega), ho _ (by omega), ho _ (by omega), ho _ (by omega), ho _ (by omega), ho _ (by omega), ho _ (by omega), ho _ (by omega), ho _ (by omega)]
      simp only [u2_at]
      simpa [e] using this
  · intro t ht
    rw [ho _ (by omega), ho _ (by omega)]
    simpa [u2_at] using h5 t ht
  · intro k w hk hw
    rw [ho _ (by omega)]
    simpa [u2_at] using h6 k w hk hw
theorem Rw_day (h : Rw r V nt ng nr nl) (ho : ∀ i, i ≠ 5 → r' i = r i) (h7 : r' 5 = x) : Rw r' (u2 V 0 15 x) nt ng nr nl := by
  obtain ⟨⟨a1, a2, a3, a4⟩, ⟨a5, a6, a7⟩, h3, h4, h5, h6⟩ := h
  refine ⟨⟨?_, ?_, ?_, ?_⟩, ⟨?_, ?_, ?_⟩, ?_, ?_, ?_, ?_⟩
  · rw [ho 0 (by omega)]; exact a1
  · rw [ho 1 (by omega)]; exact a2
  · rw [ho 2 (by omega)]; exact a3
  · rw [ho 6 (by omega)]; exact a4
  · rw [ho 3 (by omega)]; simpa [u2_at] using a5
  · simpa [u2_at] using h7
  · rw [ho 7 (by omega)]; simpa [u2_at] using a7
  · intro t ht
    rw [ho _ (by omega), ho _ (by omega), ho _ (by omega), ho _ (by omega), ho _ (by omega)]
    simpa [u2_at] using h3 t ht
  · intro g' hg'
    rw [ho _ (by omega), ho _ (by omega), ho _ (by omega), ho _ (by omega), ho _ (by omega), ho _ (by omega), ho _ (by omega), ho _ (by omega), ho _ (by omega)]
    simpa [u2_at] using h4 g' hg'
  · intro t ht
    rw [ho _ (by omega), ho _ (by omega)]
    simpa [u2_at] using h5 t ht
  · intro k w hk hw
    rw [ho _ (by omega)]
    simpa [u2_at] using h6 k w hk hw
theorem Rw_seed (h : Rw r V nt ng nr nl) (ho : ∀ i, i ≠ 7 → r' i = r i) (h7 : r' 7 = x) : Rw r' (u2 V 0 16 x) nt ng nr nl := by
  obtain ⟨⟨a1, a2, a3, a4⟩, ⟨a5, a6, a7⟩, h3, h4, h5, h6⟩ := h
  refine ⟨⟨?_, ?_, ?_, ?_⟩, ⟨?_, ?_, ?_⟩, ?_, ?_, ?_, ?_⟩
  · rw [ho 0 (by omega)]; exact a1
  · rw [ho 1 (by omega)]; exact a2
  · rw [ho 2 (by omega)]; exact a3
  · rw [ho 6 (by omega)]; exact a4
  · rw [ho 3 (by omega)]; simpa [u2_at] using a5
  · rw [ho 5 (by omega)]; simpa [u2_at] using a6
  · simpa [u2_at] using h7
  · intro t ht
    rw [ho _ (by omega), ho _ (by omega), ho _ (by omega), ho _ (by omega), ho _ (by omega)]
    simpa [u2_at] using h3 t ht
  · intro g' hg'
    rw [ho _ (by omega), ho _ (by omega), ho _ (by omega), ho _ (by omega), ho _ (by omega), ho _ (by omega), ho _ (by omega), ho _ (by omega), ho _ (by omega)]
    simpa [u2_at] using h4 g' hg'
  · intro t ht
    rw [ho _ (by omega), ho _ (by omega)]
    simpa [u2_at] using h5 t ht
  · intro k w hk hw
    rw [ho _ (by omega)]
    simpa [u2_at] using h6 k w hk hw
theorem Rw_texts (h : Rw r V nt ng nr nl) (ho : ∀ i, i ≠ 3 → r' i = r i) (h7 : r' 3 = x) : Rw r' (u2 V 0 13 x) nt ng nr nl := by
  obtain ⟨⟨a1, a2, a3, a4⟩, ⟨a5, a6, a7⟩, h3, h4, h5, h6⟩ := h
  refine ⟨⟨?_, ?_, ?_, ?_⟩, ⟨?_, ?_, ?_⟩, ?_, ?_, ?_, ?_⟩
  · rw [ho 0 (by omega)]; exact a1
  · rw [ho 1 (by omega)]; exact a2
  · rw [ho 2 (by omega)]; exact a3
  · rw [ho 6 (by omega)]; exact a4
  · simpa [u2_at] using h7
  · rw [ho 5 (by omega)]; simpa [u2_at] using a6
  · rw [ho 7 (by omega)]; simpa [u2_at] using a7
  · intro t ht
    rw [ho _ (by omega), ho _ (by omega), ho _ (by omega), ho _ (by omega), ho _ (by omega)]
    simpa [u2_at] using h3 t ht
  · intro g' hg'
    rw [ho _ (by omega), ho _ (by omega), ho _ (by omega), ho _ (by omega), ho _ (by omega), ho _ (by omega), ho _ (by omega), ho _ (by omega), ho _ (by omega)]
    simpa [u2_at] using h4 g' hg'
  · intro t ht
    rw [ho _ (by omega), ho _ (by omega)]
    simpa [u2_at] using h5 t ht
  · intro k w hk hw
    rw [ho _ (by omega)]
    simpa [u2_at] using h6 k w hk hw
/-- one more row of THE LOG -/
theorem Rw_log {x0 x1 x2 x3 : Int32} (h : Rw r V nt ng nr nl) (b1 : nt ≤ 8) (b2 : ng ≤ 6) (b3 : nr ≤ 5) (b4 : nl ≤ 60) (ho : ∀ i, i ≠ 6 → i < 112 → r' i = r i) (h6' : r' 6 = Int32.ofNat (min nl 59 + 1)) (h0 : r' 112 = x0) (h1 : r' 113 = x1) (h2 : r' 114 = x2) (h3' : r' 115 = x3) (hs : ∀ i, 116 ≤ i → i < 352 → r' i = r (i - 4)) : Rw r' (logV V nl x0 x1 x2 x3) nt ng nr (min nl 59 + 1) := by
  obtain ⟨⟨a1, a2, a3, a4⟩, ⟨a5, a6, a7⟩, h3, h4, h5, h6⟩ := h
  have lo : ∀ k i, k < 15 → logV V nl x0 x1 x2 x3 k i = V k i := fun k i hk => logV_o (by omega) (by omega)
  refine ⟨⟨?_, ?_, ?_, h6'⟩, ⟨?_, ?_, ?_⟩, ?_, ?_, ?_, ?_⟩
  · rw [ho 0 (by omega) (by omega)]; exact a1
  · rw [ho 1 (by omega) (by omega)]; exact a2
  · rw [ho 2 (by omega) (by omega)]; exact a3
  · rw [ho 3 (by omega) (by omega), lo 0 _ (by decide)]; exact a5
  · rw [ho 5 (by omega) (by omega), lo 0 _ (by decide)]; exact a6
  · rw [ho 7 (by omega) (by omega), lo 0 _ (by decide)]; exact a7
  · intro t ht
    rw [ho _ (by omega) (by omega), ho _ (by omega) (by omega), ho _ (by omega) (by omega), ho _ (by omega) (by omega), ho _ (by omega) (by omega), lo 1 _ (by decide), lo 2 _ (by decide), lo 3 _ (by decide), lo 4 _ (by decide), lo 5 _ (by decide)]
    exact h3 t ht
  · intro g' hg'
    rw [ho _ (by omega) (by omega), ho _ (by omega) (by omega), ho _ (by omega) (by omega), ho _ (by omega) (by omega), ho _ (by omega) (by omega), ho _ (by omega) (by omega), ho _ (by omega) (by omega), ho _ (by omega) (by omega), ho _ (by omega) (by omega), lo 0 _ (by decide), lo 6 _ (by decide), lo 7 _ (by decide), lo 8 _ (by decide), lo 9 _ (by decide), lo 10 _ (by decide), lo 11 _ (by decide), lo 12 _ (by decide)]
    exact h4 g' hg'
  · intro t ht
    rw [ho _ (by omega) (by omega), ho _ (by omega) (by omega), lo 13 _ (by decide), lo 14 _ (by decide)]
    exact h5 t ht
  · intro k w hk hw
    have e16 : ∀ i, logV V nl x0 x1 x2 x3 16 i = (if i = 4 * min nl 59 then x0 else if i = 4 * min nl 59 + 1 then x1 else if i = 4 * min nl 59 + 2 then x2 else if i = 4 * min nl 59 + 3 then x3 else if nl < 60 then V 16 i else if i < 236 then V 16 (i + 4) else V 16 i) := fun i => rfl
    rw [e16]
    by_cases k0 : k = 0
    · subst k0
      have : w = 0 ∨ w = 1 ∨ w = 2 ∨ w = 3 := by omega
      rcases this with e | e | e | e <;> subst e
      · rw [if_pos (by omega)]; exact h0
      · rw [if_neg (by omega), if_pos (by omega)]; exact h1
      · rw [if_neg (by omega), if_neg (by omega), if_pos (by omega)]; exact h2
      · rw [if_neg (by omega), if_neg (by omega), if_neg (by omega), if_pos (by omega)]; exact h3'
    · rw [if_neg (by omega), if_neg (by omega), if_neg (by omega), if_neg (by omega), hs _ (by omega) (by omega)]
      have e := h6 (k - 1) w (by omega) hw
      rw [show 112 + 4 * k + w - 4 = 112 + 4 * (k - 1) + w by omega, e]
      by_cases hn : nl < 60
      · rw [if_pos hn]
        congr 1
        omega
      · rw [if_neg hn, if_pos (by omega)]
        congr 1
        omega
end R47
/-- the reference's row has changed, and not where the law stands -/
def Rx (D D' : sD) : Prop := (∀ b, b ≠ 287 → b ≠ 294 → D' b = D b) ∧ ∀ i, (i = 4 ∨ 352 ≤ i) → D' 287 i = D 287 i
theorem Rx.rf {D : sD} : Rx D D := ⟨fun _ _ _ => rfl, fun _ _ => rfl⟩
theorem Rx.tr {D D' D'' : sD} (h : Rx D D') (h' : Rx D' D'') : Rx D D'' := ⟨fun b h1 h2 => (h'.1 b h1 h2).trans (h.1 b h1 h2), fun i hi => (h'.2 i hi).trans (h.2 i hi)⟩
theorem Ex.rx {D D' : sD} (h : Ex 294 D D') : Rx D D' := ⟨fun b _ h2 => h b h2, fun i _ => by rw [h 287 (by decide)]⟩
theorem Rx.st {D D' : sD} {i : Nat} {v : Int32} (h : Rx D D') (h1 : i ≠ 4) (h2 : i < 352) : Rx D (u2 D' 287 i v) := ⟨fun b hb hb' => by
  rw [← h.1 b hb hb']
  funext j
  simp only [u2_at]
  rw [if_neg (by omega)], fun j hj => by
  rw [u2_at, if_neg (by omega)]
  exact h.2 j hj⟩
theorem Rl.of {r r' : Nat → Int32} {lw : LW} (h : Rl r lw) (e : ∀ i, (i = 4 ∨ 352 ≤ i) → r' i = r i) : Rl r' lw := by
  cases lw with
  | none =>
    have h : r 4 = _ := h
    show r' 4 = _
    rw [e 4 (Or.inl rfl)]; exact h
  | some L =>
    obtain ⟨n, K, A, C, en⟩ := L
    obtain ⟨h4, h352, hn, h0, hl, hc, hA⟩ := h
    refine ⟨by rw [e 4 (Or.inl rfl)]; exact h4, by rw [e 352 (by omega)]; exact h352, hn, h0, ?_, ?_, hA⟩
    · intro j hj
      rw [e _ (by omega), e _ (by omega), e _ (by omega), e _ (by omega)]
      exact hl j hj
    · intro j i hj h1 h2
      rw [e _ (by omega), e _ (by omega)]
      exact hc j i hj h1 h2
theorem Rx.rl {D D' : sD} {lw : LW} (h : Rx D D') (hl : Rl (D 287) lw) : Rl (D' 287) lw := hl.of h.2
