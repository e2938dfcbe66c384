/-! ===== THE LAW: signs behind one another, pure ===== -/
def bop (x a b : Int32) : Int32 := if x = Int32.ofNat 1010 then a + b else if x = Int32.ofNat 1011 then bo (decide (a < b)) else if x = Int32.ofNat 1012 then bo (decide (b < a)) else if x = Int32.ofNat 1014 then a &&& b else a ||| b
def stk1 (F : Nat → Int32) (x : Int32) (l : List Int32) : List Int32 :=
  if x < Int32.ofNat 1010 then (if x < Int32.ofNat 1000 then x else F (x - Int32.ofNat 1000).toNatClampNeg) :: l
  else if x = Int32.ofNat 1013 then (match l with
    | b :: r => (Int32.ofNat 1 - b) :: r
    | [] => [])
  else (match l with
    | b :: a :: r => bop x a b :: r
    | _ => l)
/-- the kinds on the stack: true a truth, false a number -/
def ty1 (x : Int32) (l : List Bool) : Option (List Bool) :=
  if x < Int32.ofNat 1010 then (if l.length < 32 then some (decide (¬ x < Int32.ofNat 1007) :: l) else none)
  else if x = Int32.ofNat 1013 then (match l with
    | true :: r => some (true :: r)
    | _ => none)
  else if x = Int32.ofNat 1010 then (match l with
    | false :: false :: r => some (false :: r)
    | _ => none)
  else if x = Int32.ofNat 1011 ∨ x = Int32.ofNat 1012 then (match l with
    | false :: false :: r => some (true :: r)
    | _ => none)
  else if x = Int32.ofNat 1014 ∨ x = Int32.ofNat 1015 then (match l with
    | true :: true :: r => some (true :: r)
    | _ => none)
  else none
def tyR (C : Nat → Int32) : Nat → Nat → List Bool → Option (List Bool)
  | 0, _, l => some l
  | k + 1, i, l => match ty1 (C i) l with
    | some l' => tyR C k (i + 1) l'
    | none => none
def evR (C F : Nat → Int32) : Nat → Nat → List Int32 → List Int32
  | 0, _, l => l
  | k + 1, i, l => evR C F k (i + 1) (stk1 F (C i) l)
def WfL (C : Nat → Int32) (f t : Nat) : Prop := f ≤ t ∧ t ≤ 400 ∧ (t = f ∨ tyR C (t - f) f [] = some [true])
def holdsS (C F : Nat → Int32) (f t : Nat) : Bool := match evR C F (t - f) f [] with
  | [] => true
  | b :: _ => decide (¬ b = Int32.ofNat 0)
/-- the numbers fit their kinds -/
def tyOk : List Int32 → List Bool → Prop
  | [], [] => True
  | x :: l, t :: ts => (t = true → x = Int32.ofNat 0 ∨ x = Int32.ofNat 1) ∧ tyOk l ts
  | _, _ => False
theorem tyOk_len : ∀ (l : List Int32) (ts : List Bool), tyOk l ts → l.length = ts.length
  | [], [], _ => rfl
  | _ :: l, _ :: ts, h => by simp [tyOk_len l ts h.2]
  | [], _ :: _, h => h.elim
  | _ :: _, [], h => h.elim
def facB (F : Nat → Int32) : Prop := ∀ k, 7 ≤ k → k < 10 → F k = Int32.ofNat 0 ∨ F k = Int32.ofNat 1
theorem sgn_cases {x : Int32} {l ts : List Bool} (h : ty1 x l = some ts) : x < Int32.ofNat 1010 ∨ (∃ k, 1010 ≤ k ∧ k < 1016 ∧ x = Int32.ofNat k) := by
  unfold ty1 at h
  by_cases h1 : x < Int32.ofNat 1010
  · exact Or.inl h1
  · right
    simp only [h1, if_false] at h
    by_cases h2 : x = Int32.ofNat 1013
    · exact ⟨1013, by omega, by omega, h2⟩
    · simp only [h2, if_false] at h
      by_cases h3 : x = Int32.ofNat 1010
      · exact ⟨1010, by omega, by omega, h3⟩
      · simp only [h3, if_false] at h
        by_cases h4 : x = Int32.ofNat 1011 ∨ x = Int32.ofNat 1012
        · rcases h4 with h4 | h4
          · exact ⟨1011, by omega, by omega, h4⟩
          · exact ⟨1012, by omega, by omega, h4⟩
        · simp only [h4, if_false] at h
          by_cases h5 : x = Int32.ofNat 1014 ∨ x = Int32.ofNat 1015
          · rcases h5 with h5 | h5
            · exact ⟨1014, by omega, by omega, h5⟩
            · exact ⟨1015, by omega, by omega, h5⟩
          · simp only [h5, if_false] at h
            cases h
theorem fact_ix {x : Int32} (h1 : x < Int32.ofNat 1010) (h2 : ¬ x < Int32.ofNat 1000) : ∃ k, k < 10 ∧ x = Int32.ofNat (1000 + k) ∧ x - Int32.ofNat 1000 = Int32.ofNat k ∧ (x - Int32.ofNat 1000).toNatClampNeg = k := by
  have h0 : ¬ x < Int32.ofNat 0 := by
    intro h
    apply h2
    have a : Int32.toInt x < Int32.toInt (Int32.ofNat 0) := Int32.lt_iff_toInt_lt.mp h
    apply Int32.lt_iff_toInt_lt.mpr
    rw [oN_ti (by decide)] at *
    omega
  obtain ⟨e, hb⟩ := oN_of h0
  generalize x.toNatClampNeg = n at e hb
  subst e
  rw [oN_lt hb (by decide)] at h1 h2
  refine ⟨n - 1000, by omega, by rw [show 1000 + (n - 1000) = n by omega], ?_, ?_⟩
  · exact oN_sub (by omega)
  · rw [oN_sub (by omega), oN_tn (by omega)]
/-- one sign keeps the kinds -/
theorem ty1_ok {F : Nat → Int32} (hF : facB F) {x : Int32} {l : List Int32} {ts ts' : List Bool} (h : ty1 x ts = some ts') (ho : tyOk l ts) : tyOk (stk1 F x l) ts' := by
  unfold ty1 at h
  unfold stk1
  by_cases h1 : x < Int32.ofNat 1010
  · simp only [h1, if_true] at h ⊢
    by_cases hl : ts.length < 32
    · simp only [hl, if_true, Option.some.injEq] at h
      subst h
      refine ⟨fun ht => ?_, ho⟩
      by_cases h2 : x < Int32.ofNat 1000
      · exfalso
        simp only [decide_eq_true_eq] at ht
        apply ht
        have a : Int32.toInt x < Int32.toInt (Int32.ofNat 1000) := Int32.lt_iff_toInt_lt.mp h2
        apply Int32.lt_iff_toInt_lt.mpr
        rw [oN_ti (by decide)] at *
        omega
      · simp only [h2, if_false]
        obtain ⟨k, hk, e, _, e2⟩ := fact_ix h1 h2
        rw [e2]
        apply hF k _ hk
        simp only [decide_eq_true_eq] at ht
        rw [e, oN_lt (by omega) (by decide)] at ht
        omega
    · simp only [hl, if_false] at h; cases h
  · simp only [h1, if_false] at h ⊢
    by_cases h2 : x = Int32.ofNat 1013
    · simp only [h2, if_true] at h ⊢
      rcases ts with _ | ⟨t, ts⟩
      · cases h
      · cases t
        · cases h
        · rcases l with _ | ⟨b, l⟩
          · exact ho.elim
          · simp only [Option.some.injEq] at h
            subst h
            obtain ⟨hb, ho⟩ := ho
            refine ⟨fun _ => ?_, ho⟩
            rcases hb rfl with e | e
            · right; rw [e]; rfl
            · left; rw [e]; rfl
    · simp only [h2, if_false] at h ⊢
      rcases ts with _ | ⟨t1, _ | ⟨t2, ts⟩⟩
      · by_cases a1 : x = Int32.ofNat 1010
        · simp only [a1, if_true] at h; cases h
        · by_cases a2 : x = Int32.ofNat 1011 ∨ x = Int32.ofNat 1012
          · simp only [a1, a2, if_true, if_false] at h; cases h
          · by_cases a3 : x = Int32.ofNat 1014 ∨ x = Int32.ofNat 1015
            · simp only [a1, a2, a3, if_true, if_false] at h; cases h
            · simp only [a1, a2, a3, if_false] at h; cases h
      · by_cases a1 : x = Int32.ofNat 1010
        · simp only [a1, if_true] at h; cases t1 <;> cases h
        · by_cases a2 : x = Int32.ofNat 1011 ∨ x = Int32.ofNat 1012
          · simp only [a1, a2, if_true, if_false] at h; cases t1 <;> cases h
          · by_cases a3 : x = Int32.ofNat 1014 ∨ x = Int32.ofNat 1015
            · simp only [a1, a2, a3, if_true, if_false] at h; cases t1 <;> cases h
            · simp only [a1, a2, a3, if_false] at h; cases h
      · rcases l with _ | ⟨b, _ | ⟨a, l⟩⟩
        · exact ho.elim
        · exact ho.2.elim
        · obtain ⟨hb, ha, ho⟩ := ho
          simp only
          unfold bop
          by_cases a1 : x = Int32.ofNat 1010
          · simp only [a1, if_true] at h ⊢
            cases t1 <;> cases t2 <;> simp at h
            subst h
            exact ⟨fun e => (by cases e), ho⟩
          · by_cases a2 : x = Int32.ofNat 1011 ∨ x = Int32.ofNat 1012
            · simp only [a1, a2, if_true, if_false] at h ⊢
              cases t1 <;> cases t2 <;> simp at h
              subst h
              refine ⟨fun _ => ?_, ho⟩
              rcases a2 with a2 | a2
              · simp only [a2, if_true]
                cases decide (a < b)
                · exact Or.inl rfl
                · exact Or.inr rfl
              · subst a2
                have e1 : ¬ (Int32.ofNat 1012 : Int32) = Int32.ofNat 1011 := by decide
                simp only [e1, if_true, if_false]
                cases decide (b < a)
                · exact Or.inl rfl
                · exact Or.inr rfl
            · by_cases a3 : x = Int32.ofNat 1014 ∨ x = Int32.ofNat 1015
              · simp only [a1, a2, a3, if_true, if_false] at h
                cases t1 <;> cases t2 <;> simp at h
                subst h
                refine ⟨fun _ => ?_, ho⟩
                rcases not_or.mp a2 with ⟨a4, a5⟩
                simp only [a1, a4, a5, if_false]
                rcases hb rfl with e | e <;> rcases ha rfl with e' | e' <;> rcases a3 with a3 | a3 <;> subst a3 <;> rw [e, e'] <;> decide
              · simp only [a1, a2, a3, if_false] at h; cases h
/-- a sign that stands: what the stack has -/
theorem ty1_len {x : Int32} {ts ts' : List Bool} (h : ty1 x ts = some ts') : ts'.length ≤ 32 ∨ ts'.length ≤ ts.length := by
  unfold ty1 at h
  by_cases h1 : x < Int32.ofNat 1010
  · simp only [h1, if_true] at h
    by_cases hl : ts.length < 32
    · simp only [hl, if_true, Option.some.injEq] at h; subst h; left; simp; omega
    · simp only [hl, if_false] at h; cases h
  · right
    simp only [h1, if_false] at h
    by_cases h2 : x = Int32.ofNat 1013
    · simp only [h2, if_true] at h
      rcases ts with _ | ⟨t, ts⟩
      · cases h
      · cases t <;> simp at h
        subst h; simp
    · simp only [h2, if_false] at h
      have hh : ∀ (o : Option (List Bool)), (o = none ∨ ∃ r, o = some r ∧ r.length ≤ ts.length) → o = some ts' → ts'.length ≤ ts.length := by
        rintro o (e | ⟨r, e, hr⟩) h
        · rw [e] at h; cases h
        · rw [e] at h; cases h; exact hr
      refine hh _ ?_ h
      rcases ts with _ | ⟨t1, _ | ⟨t2, ts⟩⟩
      · left; by_cases a1 : x = Int32.ofNat 1010 <;> by_cases a2 : x = Int32.ofNat 1011 ∨ x = Int32.ofNat 1012 <;> by_cases a3 : x = Int32.ofNat 1014 ∨ x = Int32.ofNat 1015 <;> simp only [a1, a2, a3, if_true, if_false]
      · left; by_cases a1 : x = Int32.ofNat 1010 <;> by_cases a2 : x = Int32.ofNat 1011 ∨ x = Int32.ofNat 1012 <;> by_cases a3 : x = Int32.ofNat 1014 ∨ x = Int32.ofNat 1015 <;> cases t1 <;> simp only [a1, a2, a3, if_true, if_false]
      · by_cases a1 : x = Int32.ofNat 1010
        · simp only [a1, if_true]; cases t1 <;> cases t2 <;> simp
        · by_cases a2 : x = Int32.ofNat 1011 ∨ x = Int32.ofNat 1012
          · simp only [a1, a2, if_true, if_false]; cases t1 <;> cases t2 <;> simp
          · by_cases a3 : x = Int32.ofNat 1014 ∨ x = Int32.ofNat 1015
            · simp only [a1, a2, a3, if_true, if_false]; cases t1 <;> cases t2 <;> simp
            · simp only [a1, a2, a3, if_false]; left; trivial
theorem evR_snoc (C F : Nat → Int32) : ∀ (k i : Nat) (l : List Int32), evR C F (k + 1) i l = stk1 F (C (i + k)) (evR C F k i l)
  | 0, i, l => rfl
  | k + 1, i, l => by
    show evR C F (k + 1) (i + 1) (stk1 F (C i) l) = _
    rw [evR_snoc C F k (i + 1), show i + 1 + k = i + (k + 1) by omega]
    rfl
