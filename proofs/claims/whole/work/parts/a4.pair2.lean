/-! ===== pairing, pure ===== -/
def okQ (V : sD) (g o : Nat) : Bool := !bt (V 11 g) o && decide (V 6 g = V 6 o)
def cP (V : sD) (f : Nat → Bool) (g o : Nat) : Bool := (f g && f o) && okQ V g o
def clF (f : Nat → Bool) (o : Nat) : Nat → Bool := fun i => f i && decide (i ≠ o)
def pvS (V : sD) : Nat → Nat → (Nat → Bool) → Nat
  | 0, _, _ => 0
  | r + 1, g, f => fo (fun j x => if cP V f g (g + 1 + j) then max x (1 + pvS V r (g + 1) (clF f (g + 1 + j))) else x) r 0 (pvS V r (g + 1) f)
theorem pv_s {V : sD} {r g : Nat} {f : Nat → Bool} : pvS V (r + 1) g f = fo (fun j x => if cP V f g (g + 1 + j) then max x (1 + pvS V r (g + 1) (clF f (g + 1 + j))) else x) r 0 (pvS V r (g + 1) f) := rfl
def gPr (V : sD) (r g : Nat) (f : Nat → Bool) : Option Nat := if pvS V r (g + 1) f = pvS V (r + 1) g f then none else fst? (fun j => cP V f g (g + 1 + j) && decide (1 + pvS V r (g + 1) (clF f (g + 1 + j)) = pvS V (r + 1) g f)) r 0
def pwS (V : sD) : Nat → Nat → (Nat → Bool) → (Nat → Int32) → Nat → Int32
  | 0, _, _, w => w
  | r + 1, g, f, w => match gPr V r g f with
    | none => pwS V r (g + 1) f w
    | some j => pwS V r (g + 1) (clF f (g + 1 + j)) (wU (wU w g (Int32.ofNat (g + 1 + j))) (g + 1 + j) (Int32.ofNat g))
theorem pvS_c {V : sD} : ∀ (r g : Nat) (f f' : Nat → Bool), (∀ i, g ≤ i → i < g + r → f i = f' i) → pvS V r g f = pvS V r g f'
  | 0, _, _, _, _ => rfl
  | r + 1, g, f, f', h => by
    unfold pvS
    rw [pvS_c r (g + 1) f f' fun i h1 h2 => h i (by omega) (by omega)]
    apply fo_congr
    intro j x _ hj
    have e : pvS V r (g + 1) (clF f (g + 1 + j)) = pvS V r (g + 1) (clF f' (g + 1 + j)) := pvS_c r (g + 1) _ _ fun i h1 h2 => by unfold clF; rw [h i (by omega) (by omega)]
    unfold cP
    rw [e, h g (Nat.le_refl _) (by omega), h (g + 1 + j) (by omega) (by omega)]
theorem fst?_c {p q : Nat → Bool} : ∀ (k i : Nat), (∀ j, i ≤ j → j < i + k → p j = q j) → fst? p k i = fst? q k i
  | 0, _, _ => rfl
  | k + 1, i, h => by
    unfold fst?
    rw [h i (Nat.le_refl _) (by omega), fst?_c k (i + 1) fun j h1 h2 => h j (by omega) (by omega)]
theorem gPr_c {V : sD} {r g : Nat} {f f' : Nat → Bool} (h : ∀ i, g ≤ i → i < g + (r + 1) → f i = f' i) : gPr V r g f = gPr V r g f' := by
  unfold gPr
  rw [pvS_c (r + 1) g f f' h, pvS_c r (g + 1) f f' fun i h1 h2 => h i (by omega) (by omega)]
  split
  · rfl
  · apply fst?_c
    intro j _ hj
    have e : pvS V r (g + 1) (clF f (g + 1 + j)) = pvS V r (g + 1) (clF f' (g + 1 + j)) := pvS_c r (g + 1) _ _ fun i h1 h2 => by unfold clF; rw [h i (by omega) (by omega)]
    unfold cP
    rw [e, h g (Nat.le_refl _) (by omega), h (g + 1 + j) (by omega) (by omega)]
theorem fst?_some {p : Nat → Bool} : ∀ (k i j : Nat), fst? p k i = some j → i ≤ j ∧ j < i + k ∧ p j = true ∧ ∀ u, i ≤ u → u < j → p u = false
  | 0, _, _, h => by cases h
  | k + 1, i, j, h => by
    unfold fst? at h
    by_cases hp : p i = true
    · rw [if_pos hp] at h
      cases h
      exact ⟨Nat.le_refl _, by omega, hp, fun u h1 h2 => by omega⟩
    · rw [if_neg hp] at h
      obtain ⟨a, b, c, d⟩ := fst?_some k (i + 1) j h
      refine ⟨by omega, by omega, c, fun u h1 h2 => ?_⟩
      by_cases e : u = i
      · rw [e]; exact Bool.not_eq_true _ ▸ hp
      · exact d u (by omega) h2
theorem fst?_none {p : Nat → Bool} : ∀ (k i : Nat), fst? p k i = none → ∀ u, i ≤ u → u < i + k → p u = false
  | 0, _, _, _, h1, h2 => by omega
  | k + 1, i, h, u, h1, h2 => by
    unfold fst? at h
    by_cases hp : p i = true
    · rw [if_pos hp] at h; cases h
    · rw [if_neg hp] at h
      by_cases e : u = i
      · rw [e]; exact Bool.not_eq_true _ ▸ hp
      · exact fst?_none k (i + 1) h u (by omega) (by omega)
theorem fst?_of {p : Nat → Bool} {k i j : Nat} (h1 : i ≤ j) (h2 : j < i + k) (h3 : p j = true) (h4 : ∀ u, i ≤ u → u < j → p u = false) : fst? p k i = some j := by
  cases h : fst? p k i with
  | none =>
    have := fst?_none k i h j h1 h2
    rw [this] at h3; cases h3
  | some m =>
    obtain ⟨a, b, c, d⟩ := fst?_some k i m h
    rcases Nat.lt_trichotomy m j with e | e | e
    · rw [h4 m a e] at c; cases c
    · rw [e]
    · rw [d j h1 e] at h3; cases h3
/-- the first with the most -/
theorem first_max {β : Type} (c : Nat → Bool) (v : Nat → Nat) (u : Nat → β) (v0 : Nat) (u0 : β) (n : Nat) (x : Nat × β) : ∀ k,
    v0 ≤ fo (fun j y => if c j then max y (v j) else y) k 0 v0 ∧ (∀ j, j < k → c j = true → v j ≤ fo (fun j y => if c j then max y (v j) else y) k 0 v0) ∧ (v0 = fo (fun j y => if c j then max y (v j) else y) k 0 v0 ∨ ∃ j, j < k ∧ c j = true ∧ v j = fo (fun j y => if c j then max y (v j) else y) k 0 v0) ∧
    fo (fun j y => if c j then (if y.1 ≤ n + v j then (n + v j + 1, u j) else y) else y) k 0 (if x.1 ≤ n + v0 then (n + v0 + 1, u0) else x) = if x.1 ≤ n + fo (fun j y => if c j then max y (v j) else y) k 0 v0 then (n + fo (fun j y => if c j then max y (v j) else y) k 0 v0 + 1, if v0 = fo (fun j y => if c j then max y (v j) else y) k 0 v0 then u0 else match fst? (fun j => c j && decide (v j = fo (fun j y => if c j then max y (v j) else y) k 0 v0)) k 0 with
      | some j => u j
      | none => u0) else x
  | 0 => by
    refine ⟨Nat.le_refl _, fun j hj => absurd hj (Nat.not_lt_zero _), Or.inl rfl, ?_⟩
    show (if x.1 ≤ n + v0 then (n + v0 + 1, u0) else x) = if x.1 ≤ n + v0 then (n + v0 + 1, if v0 = v0 then u0 else _) else x
    rw [if_pos (show v0 = v0 from rfl)]
  | k + 1 => by
    obtain ⟨a1, a2, a3, a4⟩ := first_max c v u v0 u0 n x k
    simp only [fo_snoc, Nat.zero_add]
    rw [a4]
    generalize hM : fo (fun j y => if c j then max y (v j) else y) k 0 v0 = M at *
    cases hc : c k with
    | false =>
      simp only [Bool.false_eq_true, if_false]
      refine ⟨a1, fun j hj hcj => ?_, ?_, ?_⟩
      · by_cases e : j = k
        · rw [e, hc] at hcj; cases hcj
        · exact a2 j (by omega) hcj
      · rcases a3 with h | ⟨j, h1, h2, h3⟩
        · exact Or.inl h
        · exact Or.inr ⟨j, by omega, h2, h3⟩
      · by_cases h0 : v0 = M
        · simp only [h0, if_true]
        · obtain ⟨j, h1, h2, h3⟩ : ∃ j, j < k ∧ c j = true ∧ v j = M := by
            rcases a3 with h | h
            · exact absurd h h0
            · exact h
          cases hf : fst? (fun j => c j && decide (v j = M)) k 0 with
          | none =>
            have := fst?_none k 0 hf j (Nat.zero_le _) (by omega)
            simp only [h2, h3, decide_true, Bool.and_self] at this
            cases this
          | some m =>
            obtain ⟨b1, b2, b3, b4⟩ := fst?_some k 0 m hf
            rw [fst?_of (p := fun j => c j && decide (v j = M)) (k := k + 1) b1 (by omega) b3 b4]
    | true =>
      simp only [if_true]
      by_cases hv : M < v k
      · have em : max M (v k) = v k := by omega
        rw [em]
        refine ⟨by omega, fun j hj hcj => ?_, Or.inr ⟨k, by omega, hc, rfl⟩, ?_⟩
        · by_cases e : j = k
          · rw [e]; exact Nat.le_refl _
          · have := a2 j (by omega) hcj; omega
        · have ef : fst? (fun j => c j && decide (v j = v k)) (k + 1) 0 = some k := fst?_of (Nat.zero_le _) (by omega) (by simp [hc]) fun j _ hj => by
            cases hcj : c j with
            | false => rfl
            | true =>
              have := a2 j hj hcj
              simp only [Bool.true_and, decide_eq_false_iff_not]
              omega
          rw [ef, if_neg (show ¬ v0 = v k by omega)]
          by_cases h1 : x.1 ≤ n + M
          · rw [if_pos h1, if_pos (show x.1 ≤ n + v k by omega), if_pos (show n + M + 1 ≤ n + v k by omega)]
          · rw [if_neg h1]
      · have em : max M (v k) = M := by omega
        rw [em]
        refine ⟨a1, fun j hj hcj => ?_, ?_, ?_⟩
        · by_cases e : j = k
          · rw [e]; omega
          · exact a2 j (by omega) hcj
        · rcases a3 with h | ⟨j, h1, h2, h3⟩
          · exact Or.inl h
          · exact Or.inr ⟨j, by omega, h2, h3⟩
        · have ew : (if v0 = M then u0 else match fst? (fun j => c j && decide (v j = M)) (k + 1) 0 with
              | some j => u j
              | none => u0) = (if v0 = M then u0 else match fst? (fun j => c j && decide (v j = M)) k 0 with
              | some j => u j
              | none => u0) := by
            by_cases h0 : v0 = M
            · simp only [h0, if_true]
            · obtain ⟨j, h1, h2, h3⟩ : ∃ j, j < k ∧ c j = true ∧ v j = M := by
                rcases a3 with h | h
                · exact absurd h h0
                · exact h
              cases hf : fst? (fun j => c j && decide (v j = M)) k 0 with
              | none =>
                have := fst?_none k 0 hf j (Nat.zero_le _) (by omega)
                simp only [h2, h3, decide_true, Bool.and_self] at this
                cases this
              | some m =>
                obtain ⟨b1, b2, b3, b4⟩ := fst?_some k 0 m hf
                rw [fst?_of (p := fun j => c j && decide (v j = M)) (k := k + 1) b1 (by omega) b3 b4]
          rw [ew]
          by_cases h1 : x.1 ≤ n + M
          · rw [if_pos h1, if_neg (show ¬ n + M + 1 ≤ n + v k by omega)]
          · rw [if_neg h1, if_neg (show ¬ x.1 ≤ n + v k by omega)]
/-- what the class's search ends with -/
def paX (V : sD) (r g : Nat) (f : Nat → Bool) (w : Nat → Int32) (n : Nat) (x : seS) : seS := if x.1 ≤ n + pvS V r g f then (n + pvS V r g f + 1, pwS V r g f w) else x
theorem paX_s {V : sD} {r g n : Nat} {f : Nat → Bool} {w : Nat → Int32} {x : seS} : fo (fun j y => if cP V f g (g + 1 + j) then paX V r (g + 1) (clF f (g + 1 + j)) (wU (wU w g (Int32.ofNat (g + 1 + j))) (g + 1 + j) (Int32.ofNat g)) (n + 1) y else y) r 0 (paX V r (g + 1) f w n x) = paX V (r + 1) g f w n x := by
  have h := (first_max (fun j => cP V f g (g + 1 + j)) (fun j => 1 + pvS V r (g + 1) (clF f (g + 1 + j))) (fun j => pwS V r (g + 1) (clF f (g + 1 + j)) (wU (wU w g (Int32.ofNat (g + 1 + j))) (g + 1 + j) (Int32.ofNat g))) (pvS V r (g + 1) f) (pwS V r (g + 1) f w) n x r).2.2.2
  have e1 : fo (fun j x => if cP V f g (g + 1 + j) then max x (1 + pvS V r (g + 1) (clF f (g + 1 + j))) else x) r 0 (pvS V r (g + 1) f) = pvS V (r + 1) g f := rfl
  rw [e1] at h
  have e2 : pwS V (r + 1) g f w = (if pvS V r (g + 1) f = pvS V (r + 1) g f then pwS V r (g + 1) f w else match fst? (fun j => cP V f g (g + 1 + j) && decide (1 + pvS V r (g + 1) (clF f (g + 1 + j)) = pvS V (r + 1) g f)) r 0 with
      | some j => pwS V r (g + 1) (clF f (g + 1 + j)) (wU (wU w g (Int32.ofNat (g + 1 + j))) (g + 1 + j) (Int32.ofNat g))
      | none => pwS V r (g + 1) f w) := by
    show (match gPr V r g f with
      | none => pwS V r (g + 1) f w
      | some j => pwS V r (g + 1) (clF f (g + 1 + j)) (wU (wU w g (Int32.ofNat (g + 1 + j))) (g + 1 + j) (Int32.ofNat g))) = _
    unfold gPr
    by_cases h0 : pvS V r (g + 1) f = pvS V (r + 1) g f
    · rw [if_pos h0, if_pos h0]
    · rw [if_neg h0, if_neg h0]
      cases fst? (fun j => cP V f g (g + 1 + j) && decide (1 + pvS V r (g + 1) (clF f (g + 1 + j)) = pvS V (r + 1) g f)) r 0 <;> rfl
  unfold paX
  rw [e2, ← h]
  apply fo_congr
  intro j y _ _
  simp only [show n + 1 + pvS V r (g + 1) (clF f (g + 1 + j)) = n + (1 + pvS V r (g + 1) (clF f (g + 1 + j))) by omega]
theorem pv_none {V : sD} {r g : Nat} {f : Nat → Bool} (h : f g = false) : pvS V (r + 1) g f = pvS V r (g + 1) f := by
  rw [pv_s]
  have hc : ∀ j, cP V f g (g + 1 + j) = false := fun j => by unfold cP; rw [h]; rfl
  exact fo_inv (F := fun j x => if cP V f g (g + 1 + j) then max x (1 + pvS V r (g + 1) (clF f (g + 1 + j))) else x) (fun _ x => x = pvS V r (g + 1) f) r 0 _ rfl (fun j x _ _ ih => by rw [hc, ih]; rfl)
theorem gPr_none {V : sD} {r g : Nat} {f : Nat → Bool} (h : f g = false) : gPr V r g f = none := by
  unfold gPr
  rw [pv_none h, if_pos rfl]
theorem pw_none {V : sD} {r g : Nat} {f : Nat → Bool} {w : Nat → Int32} (h : f g = false) : pwS V (r + 1) g f w = pwS V r (g + 1) f w := by
  show (match gPr V r g f with
    | none => pwS V r (g + 1) f w
    | some j => _) = _
  rw [gPr_none h]
theorem paX_none {V : sD} {r g n : Nat} {f : Nat → Bool} {w : Nat → Int32} {x : seS} (h : f g = false) : paX V (r + 1) g f w n x = paX V r (g + 1) f w n x := by
  unfold paX
  rw [pv_none h, pw_none h]
theorem pv_skip {V : sD} {f : Nat → Bool} {r : Nat} : ∀ (k g : Nat), (∀ i, g ≤ i → i < g + k → f i = false) → pvS V (k + r) g f = pvS V r (g + k) f
  | 0, g, _ => by rw [Nat.zero_add]; rfl
  | k + 1, g, h => by
    rw [show k + 1 + r = (k + r) + 1 by omega, pv_none (h g (Nat.le_refl _) (by omega)), pv_skip k (g + 1) fun i h1 h2 => h i (by omega) (by omega), show g + 1 + k = g + (k + 1) by omega]
theorem pv_le {V : sD} : ∀ (r g : Nat) (f : Nat → Bool), pvS V r g f ≤ r
  | 0, _, _ => Nat.le_refl _
  | r + 1, g, f => by
    unfold pvS
    exact fo_inv (F := fun j x => if cP V f g (g + 1 + j) then max x (1 + pvS V r (g + 1) (clF f (g + 1 + j))) else x) (fun _ x => x ≤ r + 1) r 0 _ (Nat.le_succ_of_le (pv_le r (g + 1) f)) (fun j x _ _ ih => by
      have := pv_le (V := V) r (g + 1) (clF f (g + 1 + j))
      split
      · omega
      · exact ih)
theorem pv_mono {V : sD} : ∀ (r g : Nat) (f f' : Nat → Bool), (∀ i, f i = true → f' i = true) → pvS V r g f ≤ pvS V r g f'
  | 0, _, _, _, _ => Nat.le_refl _
  | r + 1, g, f, f', h => by
    unfold pvS
    have := fo_rel (F := fun j x => if cP V f g (g + 1 + j) then max x (1 + pvS V r (g + 1) (clF f (g + 1 + j))) else x) (G := fun j x => if cP V f' g (g + 1 + j) then max x (1 + pvS V r (g + 1) (clF f' (g + 1 + j))) else x) (fun _ x y => x ≤ y) r 0 _ _ (pv_mono (V := V) r (g + 1) f f' h) (fun j x y _ _ ih => by
      have hm := pv_mono (V := V) r (g + 1) (clF f (g + 1 + j)) (clF f' (g + 1 + j)) fun i hi => by
        unfold clF at *
        rw [Bool.and_eq_true] at hi ⊢
        exact ⟨h i hi.1, hi.2⟩
      have hc : cP V f g (g + 1 + j) = true → cP V f' g (g + 1 + j) = true := fun hc => by
        unfold cP at *
        simp only [Bool.and_eq_true] at hc ⊢
        exact ⟨⟨h _ hc.1.1, h _ hc.1.2⟩, hc.2⟩
      cases h1 : cP V f g (g + 1 + j) with
      | false =>
        simp only [Bool.false_eq_true, if_false]
        split
        · omega
        · exact ih
      | true =>
        rw [hc h1]
        simp only [if_true]
        omega)
    exact this
theorem clF_le {f : Nat → Bool} {o i : Nat} (h : clF f o i = true) : f i = true := by
  unfold clF at h
  rw [Bool.and_eq_true] at h
  exact h.1
/-- only those who are free are put two by two -/
theorem pw_keep {V : sD} : ∀ (r g : Nat) (f : Nat → Bool) (w : Nat → Int32) (i : Nat), (i < g ∨ f i = false) → pwS V r g f w i = w i
  | 0, _, _, _, _, _ => rfl
  | r + 1, g, f, w, i, h => by
    show (match gPr V r g f with
      | none => pwS V r (g + 1) f w
      | some j => pwS V r (g + 1) (clF f (g + 1 + j)) (wU (wU w g (Int32.ofNat (g + 1 + j))) (g + 1 + j) (Int32.ofNat g))) i = _
    cases hg : gPr V r g f with
    | none =>
      simp only
      exact pw_keep r (g + 1) f w i (by rcases h with h | h; exact Or.inl (by omega); exact Or.inr h)
    | some j =>
      simp only
      unfold gPr at hg
      split at hg
      · cases hg
      · obtain ⟨_, _, hp, _⟩ := fst?_some r 0 j hg
        unfold cP at hp
        simp only [Bool.and_eq_true] at hp
        have hgf := hp.1.1.1
        have hof := hp.1.1.2
        have e1 : i ≠ g := fun e => by
          rcases h with h | h
          · omega
          · rw [e, hgf] at h; cases h
        have e2 : i ≠ g + 1 + j := fun e => by
          rcases h with h | h
          · omega
          · rw [e, hof] at h; cases h
        rw [pw_keep r (g + 1) _ _ i (by
          rcases h with h | h
          · exact Or.inl (by omega)
          · exact Or.inr (by unfold clF; rw [h]; rfl)), wU_o e2, wU_o e1]
theorem pw_c {V : sD} : ∀ (r g : Nat) (f f' : Nat → Bool) (w : Nat → Int32), (∀ i, g ≤ i → i < g + r → f i = f' i) → pwS V r g f w = pwS V r g f' w
  | 0, _, _, _, _, _ => rfl
  | r + 1, g, f, f', w, h => by
    show (match gPr V r g f with
      | none => pwS V r (g + 1) f w
      | some j => pwS V r (g + 1) (clF f (g + 1 + j)) (wU (wU w g (Int32.ofNat (g + 1 + j))) (g + 1 + j) (Int32.ofNat g))) = (match gPr V r g f' with
      | none => pwS V r (g + 1) f' w
      | some j => pwS V r (g + 1) (clF f' (g + 1 + j)) (wU (wU w g (Int32.ofNat (g + 1 + j))) (g + 1 + j) (Int32.ofNat g)))
    rw [gPr_c h]
    cases gPr V r g f' with
    | none => exact pw_c r (g + 1) f f' w fun i h1 h2 => h i (by omega) (by omega)
    | some j => exact pw_c r (g + 1) _ _ _ fun i h1 h2 => by unfold clF; rw [h i (by omega) (by omega)]
/-! bits -/
def clN (z o : Nat) : Nat := (Int32.ofNat z &&& (jshl (Int32.ofNat 1) (Int32.ofNat o) ^^^ -1)).toNatClampNeg
theorem clN_of : ∀ o, o < 6 → ∀ z, z < 64 → Int32.ofNat z &&& (jshl (Int32.ofNat 1) (Int32.ofNat o) ^^^ -1) = Int32.ofNat (clN z o) ∧ clN z o ≤ z := by decide +kernel
theorem cl_bt {x : Int32} {o : Nat} (ho : o < 32) : bt (x &&& (jshl (Int32.ofNat 1) (Int32.ofNat o) ^^^ -1)) = clF (bt x) o := by
  funext i
  unfold clF
  rcases Nat.lt_or_ge i 32 with hi | hi
  · rw [b_and, b_xor, b_m1 i hi, jshl_1 ho hi]
    by_cases e : i = o <;> simp [e]
  · rw [b_big hi, b_big hi]
    rfl
theorem clN_bt {z o : Nat} (ho : o < 6) (hz : z < 64) : bt (Int32.ofNat (clN z o)) = clF (bt (Int32.ofNat z)) o := by
  rw [← (clN_of o ho z hz).1, cl_bt (by omega)]
theorem lft_cl : ∀ g, g < 6 → ∀ o, o < 6 → ∀ z, z < 64 → (g < o ∧ bt (Int32.ofNat z) g = true ∧ bt (Int32.ofNat z) o = true) → lft (clN z o) (g + 1) + 2 = lft z g := by decide +kernel
theorem pv_lft {V : sD} : ∀ (r g z : Nat), z < 64 → g + r ≤ 6 → pvS V r g (bt (Int32.ofNat z)) ≤ lft z g / 2
  | 0, _, _, _, _ => Nat.zero_le _
  | r + 1, g, z, hz, hg => by
    unfold pvS
    have l1 := lft_s g (by omega) z hz
    refine fo_inv (F := fun j x => if cP V (bt (Int32.ofNat z)) g (g + 1 + j) then max x (1 + pvS V r (g + 1) (clF (bt (Int32.ofNat z)) (g + 1 + j))) else x) (fun _ x => x ≤ lft z g / 2) r 0 _ ?_ (fun j x _ hj ih => ?_)
    · have := pv_lft (V := V) r (g + 1) z hz (by omega)
      split at l1 <;> omega
    · cases hc : cP V (bt (Int32.ofNat z)) g (g + 1 + j) with
      | false => exact ih
      | true =>
        simp only [if_true]
        unfold cP at hc
        simp only [Bool.and_eq_true] at hc
        have a1 := lft_cl g (by omega) (g + 1 + j) (by omega) z hz ⟨by omega, hc.1.1, hc.1.2⟩
        have a2 := clN_of (g + 1 + j) (by omega) z hz
        have a3 := pv_lft (V := V) r (g + 1) (clN z (g + 1 + j)) (by omega) (by omega)
        rw [clN_bt (by omega) hz] at a3
        omega
