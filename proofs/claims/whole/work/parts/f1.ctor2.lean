/-! ===== the constructors: the heap they leave is a store ===== -/
def fcd (ci k : Nat) (v : Value) : Nat := match v with
  | .int _ => 0
  | .ref n => n + 3
  | .null => if ci = 6 ∧ k = 14 then 1 else 2
  | _ => 9
def fnm (v : Value) : Int32 := match v with
  | .int x => x
  | _ => 0
def shp (e : va_E) : sC := match e with
  | .inl (t, n, _) => .inl (t, n)
  | .inr (ci, fs) => .inr (ci, fs.mapIdx fun k v => fcd ci k v)
def rdE (e : va_E) : Nat → Int32 := match e with
  | .inl (_, _, .inl f) => f
  | .inl (_, _, .inr (.inr (.inr (.inr f)))) => fun i => match f i with
    | none => 0
    | some b => Int32.ofNat (b + 1)
  | .inl _ => fun _ => 0
  | .inr (_, fs) => fun k => fnm (fs.getD k .null)
def okV (v : Value) : Prop := (∃ x, v = .int x) ∨ (∃ n, v = .ref n) ∨ v = .null
def Je (e : va_E) : Prop := match e with
  | .inl (0, _, .inl _) => True
  | .inl (1, _, .inl _) => True
  | .inl (2, _, .inr (.inl f)) => f = fun _ => 0
  | .inl (3, _, .inr (.inr (.inr (.inr f)))) => ∀ i b, f i = some b → b < 1000
  | .inr (_, fs) => ∀ v, v ∈ fs → okV v
  | _ => False
def Jh (h : av_H) : Prop := ∀ (a : Nat) (e : va_E), h[a]? = some e → Je e
theorem Jh.app {h : av_H} {e : va_E} (hj : Jh h) (he : Je e) : Jh (h ++ [e]) := fun a x hx => by
  by_cases ha : a < h.length
  · rw [List.getElem?_append_left ha] at hx; exact hj a x hx
  · rw [List.getElem?_append_right (by omega)] at hx
    have := List.mem_of_getElem? hx
    rw [List.mem_singleton] at this
    rw [this]; exact he
theorem Jh.set {h : av_H} {e : va_E} {b : Nat} (hj : Jh h) (he : Je e) : Jh (h.set b e) := fun a x hx => by
  rw [List.getElem?_set] at hx
  by_cases hb : b = a
  · rw [if_pos hb] at hx
    split at hx
    · cases hx; exact he
    · cases hx
  · rw [if_neg hb] at hx
    exact hj a x hx
theorem fit_ok {t : FieldType} {v : Value} (h : av_fit t v = true) : okV v := by
  unfold av_fit at h
  split at h
  · exact Or.inl ⟨_, rfl⟩
  · exact Or.inl ⟨_, rfl⟩
  · exact Or.inr (Or.inl ⟨_, rfl⟩)
  · exact Or.inr (Or.inr rfl)
  · exact Or.inr (Or.inl ⟨_, rfl⟩)
  · exact Or.inr (Or.inr rfl)
  · cases h
