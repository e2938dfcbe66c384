/-! ===== WORLDS, pure ===== -/
def anyN (p : Nat → Bool) (n : Nat) : Bool := fo (fun o x => x || p o) n 0 false
theorem anyN_iff (p : Nat → Bool) (n : Nat) : anyN p n = true ↔ ∃ o, o < n ∧ p o = true := by
  have h := fo_inv (F := fun o (x : Bool) => x || p o) (fun i x => x = true ↔ ∃ o, o < i ∧ p o = true) n 0 false (by simp) (fun j x _ _ ih => by
    simp only [Bool.or_eq_true, ih]
    constructor
    · rintro (⟨o, h1, h2⟩ | h)
      · exact ⟨o, by omega, h2⟩
      · exact ⟨j, by omega, h⟩
    · rintro ⟨o, h1, h2⟩
      by_cases e : o = j
      · subst e; exact Or.inr h2
      · exact Or.inl ⟨o, by omega, h2⟩)
  rw [Nat.zero_add] at h
  exact h
/-- the last of 0 .. n - 1 with p -/
def lastG (p : Nat → Bool) : Nat → Option Nat
  | 0 => none
  | k + 1 => if p k then some k else lastG p k
theorem lastG_none {p : Nat → Bool} : ∀ {n : Nat}, lastG p n = none ↔ ∀ g, g < n → p g = false
  | 0 => by simp [lastG]
  | n + 1 => by
    unfold lastG
    by_cases h : p n = true
    · rw [if_pos h]
      constructor
      · intro h; cases h
      · intro h2; rw [h2 n (by omega)] at h; cases h
    · rw [if_neg h, lastG_none]
      constructor
      · intro h2 g hg
        by_cases e : g = n
        · subst e; simpa using h
        · exact h2 g (by omega)
      · intro h2 g hg; exact h2 g (by omega)
theorem lastG_congr {p q : Nat → Bool} : ∀ {n : Nat}, (∀ g, g < n → p g = q g) → lastG p n = lastG q n
  | 0, _ => rfl
  | n + 1, h => by
    unfold lastG
    rw [h n (by omega), lastG_congr fun g hg => h g (by omega)]
/-- more places that have none -/
theorem lastG_more {p : Nat → Bool} {n : Nat} : ∀ {m : Nat}, n ≤ m → (∀ g, n ≤ g → g < m → p g = false) → lastG p m = lastG p n
  | 0, h, _ => by rw [show n = 0 by omega]
  | m + 1, h, hp => by
    by_cases e : n = m + 1
    · rw [e]
    · show (if p m then some m else lastG p m) = _
      rw [hp m (by omega) (by omega)]
      simp only [Bool.false_eq_true, if_false]
      exact (lastG_more (by omega) fun g h1 h2 => hp g h1 (by omega))
def deedP (V : sD) (set : Int32) (t g : Nat) : Bool := bt set g && (decide (V 7 g = Int32.ofNat t) && decide (¬ V 2 t < V 6 g))
def soP (V : sD) (nt ng : Nat) (first set so : Int32) (t : Nat) : Bool := match lastG (deedP V set t) ng with
  | some g => bt (V 0 4) g
  | none => (bt first t || anyN (fun o => bt so o && bt (V 4 o) t) nt) && !anyN (fun o => bt so o && bt (V 5 o) t) nt
def wStep (V : sD) (nt ng : Nat) (first set : Int32) (so : Int32) (t : Nat) : Int32 := if soP V nt ng first set so t then so ||| jshl (Int32.ofNat 1) (Int32.ofNat t) else so
def wS (V : sD) (nt ng : Nat) (first set : Int32) : Int32 := fo (fun stop so => fo (fun t so => if decide (V 2 t = Int32.ofNat stop) then wStep V nt ng first set so t else so) nt 0 so) 16 0 (Int32.ofNat 0)
def oL (V : sD) (nt : Nat) : List Nat := fo (fun stop l => fo (fun t l => if decide (V 2 t = Int32.ofNat stop) then l ++ [t] else l) nt 0 l) 16 0 []
theorem wS_oL (V : sD) (nt ng : Nat) (first set : Int32) : wS V nt ng first set = (oL V nt).foldl (wStep V nt ng first set) (Int32.ofNat 0) := by
  have h := fo_rel (F := fun stop so => fo (fun t so => if decide (V 2 t = Int32.ofNat stop) then wStep V nt ng first set so t else so) nt 0 so) (G := fun stop l => fo (fun t (l : List Nat) => if decide (V 2 t = Int32.ofNat stop) then l ++ [t] else l) nt 0 l) (fun _ so l => so = l.foldl (wStep V nt ng first set) (Int32.ofNat 0)) 16 0 (Int32.ofNat 0) [] rfl (fun stop so l _ _ ih => by
    exact fo_rel (F := fun t so => if decide (V 2 t = Int32.ofNat stop) then wStep V nt ng first set so t else so) (G := fun t (l : List Nat) => if decide (V 2 t = Int32.ofNat stop) then l ++ [t] else l) (fun _ so l => so = l.foldl (wStep V nt ng first set) (Int32.ofNat 0)) nt 0 so l ih (fun t so l _ _ ih => by
      by_cases h : V 2 t = Int32.ofNat stop
      · simp only [h, decide_true, if_true, List.foldl_append, List.foldl_cons, List.foldl_nil, ih]
      · simp only [h, decide_false, Bool.false_eq_true, if_false, ih]))
  exact h
theorem nS_or {p q : Nat → Bool} (h : ∀ i, ¬ (p i = true ∧ q i = true)) : ∀ n, nS (fun i => p i || q i) n = nS p n + nS q n
  | 0 => rfl
  | n + 1 => by
    rw [nS_succ, nS_succ, nS_succ, nS_or h n]
    have := h n
    cases hp : p n <;> cases hq : q n <;> simp [hp, hq] at this ⊢ <;> omega
theorem nS_all {p : Nat → Bool} : ∀ n, (∀ i, i < n → p i = true) → nS p n = n
  | 0, _ => rfl
  | n + 1, h => by
    rw [nS_succ, nS_all n fun i hi => h i (by omega), h n (by omega)]
    rfl
theorem nS_none {p : Nat → Bool} : ∀ n, (∀ i, i < n → p i = false) → nS p n = 0
  | 0, _ => rfl
  | n + 1, h => by
    rw [nS_succ, nS_none n fun i hi => h i (by omega), h n (by omega)]
    rfl
/-- what the order has, at each place of the loops -/
theorem oL_inner {V : sD} {nt stop : Nat} (l : List Nat) : ∀ k, k ≤ nt → (fo (fun t (l : List Nat) => if decide (V 2 t = Int32.ofNat stop) then l ++ [t] else l) k 0 l).length = l.length + nS (fun t => decide (V 2 t = Int32.ofNat stop)) k
  | 0, _ => by simp [fo, nS]
  | k + 1, hk => by
    rw [fo_snoc, nS_succ, Nat.zero_add]
    have ih := oL_inner (V := V) (nt := nt) (stop := stop) l k (by omega)
    by_cases h : V 2 k = Int32.ofNat stop
    · simp only [h, decide_true, if_true, List.length_append, List.length_cons, List.length_nil, ih]; omega
    · simp only [h, decide_false, Bool.false_eq_true, if_false, ih]; omega
theorem oL_len {V : sD} {nt : Nat} (hat : ∀ t, t < nt → ∃ n, n < 16 ∧ V 2 t = Int32.ofNat n) : ∀ m, m ≤ 16 → (fo (fun stop l => fo (fun t (l : List Nat) => if decide (V 2 t = Int32.ofNat stop) then l ++ [t] else l) nt 0 l) m 0 []).length = nS (fun t => decide ((V 2 t).toNatClampNeg < m)) nt
  | 0, _ => by simp only [fo]; rw [nS_none nt (fun i _ => by simp)]; rfl
  | m + 1, hm => by
    rw [fo_snoc, Nat.zero_add, oL_inner (nt := nt) _ nt (Nat.le_refl _), oL_len hat m (by omega)]
    rw [← nS_or]
    · apply nS_congr
      intro t ht
      obtain ⟨n, hn, e⟩ := hat t ht
      rw [e, oN_tn (by omega)]
      by_cases h : n = m
      · subst h; simp
      · have h1 : ¬ Int32.ofNat n = Int32.ofNat m := by rw [oN_eq (by omega) (by omega)]; exact h
        simp only [h1, decide_false, Bool.or_false]
        by_cases h2 : n < m
        · simp [h2, show n < m + 1 by omega]
        · simp [h2, show ¬ n < m + 1 by omega]
    · intro t ⟨h1, h2⟩
      simp only [decide_eq_true_eq] at h1 h2
      rw [h2, oN_tn (by omega)] at h1
      omega
theorem oL_nt {V : sD} {nt : Nat} (hat : ∀ t, t < nt → ∃ n, n < 16 ∧ V 2 t = Int32.ofNat n) : (oL V nt).length = nt := by
  unfold oL
  rw [oL_len hat 16 (Nat.le_refl _)]
  apply nS_all
  intro t ht
  obtain ⟨n, hn, e⟩ := hat t ht
  rw [e, oN_tn (by omega)]
  simp [hn]
theorem oL_mem {V : sD} {nt : Nat} : ∀ t, t ∈ oL V nt → t < nt := by
  have h := fo_inv (F := fun stop l => fo (fun t (l : List Nat) => if decide (V 2 t = Int32.ofNat stop) then l ++ [t] else l) nt 0 l) (fun _ (l : List Nat) => ∀ t, t ∈ l → t < nt) 16 0 [] (by simp) (fun stop l _ _ ih => by
    have h2 := fo_inv (F := fun t (l : List Nat) => if decide (V 2 t = Int32.ofNat stop) then l ++ [t] else l) (fun _ (l : List Nat) => ∀ t, t ∈ l → t < nt) nt 0 l ih (fun t l _ ht ih => by
      by_cases h : V 2 t = Int32.ofNat stop
      · simp only [h, decide_true, if_true, List.mem_append, List.mem_singleton]
        rintro t' (h | h)
        · exact ih t' h
        · omega
      · simp only [h, decide_false, Bool.false_eq_true, if_false]
        exact ih)
    exact h2)
  exact h
/-- a fold over the places of a list -/
theorem foldl_fo {α : Type} (f : α → Nat → α) (l : List Nat) (x : α) : fo (fun i x => f x (l.getD i 0)) l.length 0 x = l.foldl f x := by
  have h : ∀ (l pre : List Nat) (x : α), fo (fun i x => f x ((pre ++ l).getD i 0)) l.length pre.length x = l.foldl f x := by
    intro l
    induction l with
    | nil => intro pre x; rfl
    | cons a l ih =>
      intro pre x
      show fo (fun i x => f x ((pre ++ a :: l).getD i 0)) l.length (pre.length + 1) (f x ((pre ++ a :: l).getD pre.length 0)) = _
      have e : (pre ++ a :: l).getD pre.length 0 = a := by simp [List.getD_eq_getElem?_getD]
      have := ih (pre ++ [a]) (f x a)
      rw [List.append_assoc, List.length_append] at this
      rw [e]
      exact this
  exact h l [] x
/-- bits of a set over some -/
theorem sub_le : ∀ g, g < 64 → ∀ z, z < 64 → (Int32.ofNat z &&& (Int32.ofNat g ^^^ -1) = Int32.ofNat 0 → z ≤ g) := by decide +kernel
theorem sub_le' {s g : Nat} (hs : s < 64) (hg : g < 64) (h : Int32.ofNat s &&& (Int32.ofNat g ^^^ -1) = Int32.ofNat 0) : s ≤ g := sub_le g hg s hs h
def agP (V : sD) (nt ng : Nat) (first gone set : Int32) : Bool := decide (set &&& (gone ^^^ -1) = Int32.ofNat 0) && decide (gone &&& aliveS V ng (wS V nt ng first set) = set)
def fewer (set best : Int32) : Bool := decide (best = -1) || decide (bc set < bc best)
def cntS (V : sD) (nt ng : Nat) (first : Int32) (gone : Nat) : Nat := nS (fun z => agP V nt ng first (Int32.ofNat gone) (Int32.ofNat z)) (gone + 1)
def pastS (V : sD) (nt ng : Nat) (first : Int32) (gone : Nat) : Int32 := fo (fun z best => if agP V nt ng first (Int32.ofNat gone) (Int32.ofNat z) && fewer (Int32.ofNat z) best then Int32.ofNat z else best) (gone + 1) 0 (-1)
def nowS (V : sD) (nt ng : Nat) (first : Int32) (gone : Nat) : Int32 := wS V nt ng first (if pastS V nt ng first gone = -1 then Int32.ofNat 0 else pastS V nt ng first gone)
theorem pastS_cases (V : sD) (nt ng : Nat) (first : Int32) (gone : Nat) : pastS V nt ng first gone = -1 ∨ ∃ z, z ≤ gone ∧ pastS V nt ng first gone = Int32.ofNat z ∧ agP V nt ng first (Int32.ofNat gone) (Int32.ofNat z) = true := by
  have h := fo_inv (F := fun z best => if agP V nt ng first (Int32.ofNat gone) (Int32.ofNat z) && fewer (Int32.ofNat z) best then Int32.ofNat z else best) (fun _ best => best = -1 ∨ ∃ z, z ≤ gone ∧ best = Int32.ofNat z ∧ agP V nt ng first (Int32.ofNat gone) (Int32.ofNat z) = true) (gone + 1) 0 (-1) (Or.inl rfl) (fun j x _ hj ih => by
    split
    · next h => right; simp only [Bool.and_eq_true] at h; exact ⟨j, by omega, rfl, h.1⟩
    · exact ih)
  exact h
/-- those GONE, as a number -/
def gN (V : sD) (ng : Nat) : Nat := (goneS V ng).toNatClampNeg
theorem gN_of {V : sD} {ng : Nat} (hn : ng ≤ 6) : goneS V ng = Int32.ofNat (gN V ng) ∧ gN V ng < 2 ^ ng := by
  obtain ⟨m, hm, e⟩ := bs_lt (fun g => decide (¬ V 12 g = -1)) (show ng ≤ 8 by omega)
  have h2 : 2 ^ ng ≤ 2 ^ 6 := Nat.pow_le_pow_right (by decide) hn
  have e2 : goneS V ng = Int32.ofNat m := e
  unfold gN
  rw [e2, oN_tn (by omega)]
  exact ⟨rfl, hm⟩
theorem gN_64 {V : sD} {ng : Nat} (hn : ng ≤ 6) : gN V ng < 64 := by
  have h := (gN_of (V := V) hn).2
  have h2 : 2 ^ ng ≤ 2 ^ 6 := Nat.pow_le_pow_right (by decide) hn
  omega
