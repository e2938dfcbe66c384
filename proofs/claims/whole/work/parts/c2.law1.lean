/-! ===== texts of THE LAW, pure ===== -/
abbrev pR : Type := Nat ⊕ (Nat × List Int32)
def wCost : List Nat := [99, 111, 115, 116]
def wFear : List Nat := [102, 101, 97, 114]
def wBar : List Nat := [98, 97, 114]
def wIf : List Nat := [105, 102]
def wNot : List Nat := [110, 111, 116]
def wFull : List Nat := [102, 117, 108, 108]
def wWish : List Nat := [119, 105, 115, 104]
def wGone : List Nat := [103, 111, 110, 101]
def wAnd : List Nat := [97, 110, 100]
def wOr : List Nat := [111, 114]
def lwWs : List (List Nat) := [wCost, wFear, wBar]
def tgWs : List (List Nat) := [wBorn, wDoes, wFull]
def nmWs : List (List Nat) := [wGoer, wWish, wMoney, wNerve, wTrain, wGone, wDay]
section LWP
variable (b : Nat → Nat) (n : Nat)
def paS (p : Nat) (cs : List Int32) : pR := match num b n 0 1000 p with
  | some (v, p1) => .inr (p1, cs ++ [Int32.ofNat v])
  | none => match oneF b n nmWs 0 p with
    | some (k, p1) => .inr (p1, cs ++ [Int32.ofNat (1000 + k)])
    | none => .inl p
def moS : Nat → Nat → List Int32 → pR
  | 0, _, _ => .inl 0
  | k + 1, p, cs => match sgq b n 43 p with
    | none => .inr (p, cs)
    | some p1 => match paS b n p1 cs with
      | .inl f => .inl f
      | .inr (p2, c2) => moS k p2 (c2 ++ [Int32.ofNat 1010])
def suS (p : Nat) (cs : List Int32) : pR := match paS b n p cs with
  | .inl f => .inl f
  | .inr (p1, c1) => moS b n 400 p1 c1
def moA (A : Nat → List Int32 → pR) : Nat → Nat → List Int32 → pR
  | 0, _, _ => .inl 0
  | k + 1, p, cs => match wrd b n wAnd p with
    | none => .inr (p, cs)
    | some p1 => match A p1 cs with
      | .inl f => .inl f
      | .inr (p2, c2) => moA A k p2 (c2 ++ [Int32.ofNat 1014])
def alS (A : Nat → List Int32 → pR) (p : Nat) (cs : List Int32) : pR := match A p cs with
  | .inl f => .inl f
  | .inr (p1, c1) => moA b n A 400 p1 c1
def moO (A : Nat → List Int32 → pR) : Nat → Nat → List Int32 → pR
  | 0, _, _ => .inl 0
  | k + 1, p, cs => match wrd b n wOr p with
    | none => .inr (p, cs)
    | some p1 => match alS b n A p1 cs with
      | .inl f => .inl f
      | .inr (p2, c2) => moO A k p2 (c2 ++ [Int32.ofNat 1015])
def coS (A : Nat → List Int32 → pR) (p : Nat) (cs : List Int32) : pR := match alS b n A p cs with
  | .inl f => .inl f
  | .inr (p1, c1) => moO b n A 400 p1 c1
def thS (p1 : Nat) (c1 : List Int32) : pR := match sgq b n 60 p1 with
  | some p2 => (match suS b n p2 c1 with
    | .inl f => .inl f
    | .inr (p3, c3) => .inr (p3, c3 ++ [Int32.ofNat 1011]))
  | none => match sgq b n 62 p1 with
    | some p2 => (match suS b n p2 c1 with
      | .inl f => .inl f
      | .inr (p3, c3) => .inr (p3, c3 ++ [Int32.ofNat 1012]))
    | none => .inl p1
def atF (N C : Nat → List Int32 → pR) (dp : Bool) (p : Nat) (cs : List Int32) : pR := match wrd b n wNot p with
  | some p1 => if dp then (match N p1 cs with
    | .inl f => .inl f
    | .inr (p2, c2) => .inr (p2, c2 ++ [Int32.ofNat 1013])) else .inl p
  | none => match sgq b n 40 p with
    | some p1 => if dp then (match C p1 cs with
      | .inl f => .inl f
      | .inr (p2, c2) => match sgq b n 41 p2 with
        | some p3 => .inr (p3, c2)
        | none => .inl p2) else .inl p
    | none => match oneF b n tgWs 0 p with
      | some (k, p1) => .inr (p1, cs ++ [Int32.ofNat (1007 + k)])
      | none => match suS b n p cs with
        | .inl f => .inl f
        | .inr (p1, c1) => thS b n p1 c1
def pA : Nat → Nat → List Int32 → pR
  | 0 => atF b n (fun _ _ => .inl 0) (fun _ _ => .inl 0) false
  | d + 1 => atF b n (pA d) (coS b n (pA d)) true
end LWP
/-- how far a reading goes, and what it tells -/
def Pg (n : Nat) (p : Nat) (cs : List Int32) (x : pR) : Prop := ∀ p' c', x = .inr (p', c') → p + 1 ≤ p' ∧ p' ≤ n ∧ ∃ new, c' = cs ++ new ∧ new.length + p ≤ p'
def tyLs : List Int32 → List Bool → Option (List Bool)
  | [], l => some l
  | x :: r, l => match ty1 x l with
    | some l' => tyLs r l'
    | none => none
theorem tyLs_app : ∀ (x y : List Int32) (l m : List Bool), tyLs x l = some m → tyLs (x ++ y) l = tyLs y m
  | [], y, l, m, h => by cases h; rfl
  | a :: x, y, l, m, h => by
    show (match ty1 a l with
      | some l' => tyLs (x ++ y) l'
      | none => none) = _
    have h : (match ty1 a l with
      | some l' => tyLs x l'
      | none => none) = some m := h
    cases ht : ty1 a l with
    | none => rw [ht] at h; cases h
    | some l' =>
      rw [ht] at h
      exact tyLs_app x y l' m h
/-- what it tells is of a kind, wherever the stack stands up to h -/
def Ty (t : Bool) (h : Nat) (cs : List Int32) (x : pR) : Prop := ∀ p' c', x = .inr (p', c') → ∃ new, c' = cs ++ new ∧ ∀ l : List Bool, l.length ≤ h → tyLs new l = some (t :: l)
theorem ty1_num {v : Nat} (hv : v < 1007) {l : List Bool} (hl : l.length < 32) : ty1 (Int32.ofNat v) l = some (false :: l) := by
  unfold ty1
  have h1 : Int32.ofNat v < Int32.ofNat 1010 := by rw [oN_lt (by omega) (by decide)]; omega
  have h2 : Int32.ofNat v < Int32.ofNat 1007 := by rw [oN_lt (by omega) (by decide)]; omega
  rw [if_pos h1, if_pos hl, decide_eq_false (fun h => h h2)]
theorem ty1_tag {v : Nat} (hv : 1007 ≤ v) (hv2 : v < 1010) {l : List Bool} (hl : l.length < 32) : ty1 (Int32.ofNat v) l = some (true :: l) := by
  unfold ty1
  have h1 : Int32.ofNat v < Int32.ofNat 1010 := by rw [oN_lt (by omega) (by decide)]; omega
  have h2 : ¬ Int32.ofNat v < Int32.ofNat 1007 := by rw [oN_lt (by omega) (by decide)]; omega
  rw [if_pos h1, if_pos hl, decide_eq_true h2]
theorem ty1_add {l : List Bool} : ty1 (Int32.ofNat 1010) (false :: false :: l) = some (false :: l) := rfl
theorem ty1_less {l : List Bool} : ty1 (Int32.ofNat 1011) (false :: false :: l) = some (true :: l) := rfl
theorem ty1_more {l : List Bool} : ty1 (Int32.ofNat 1012) (false :: false :: l) = some (true :: l) := rfl
theorem ty1_not {l : List Bool} : ty1 (Int32.ofNat 1013) (true :: l) = some (true :: l) := rfl
theorem ty1_and {l : List Bool} : ty1 (Int32.ofNat 1014) (true :: true :: l) = some (true :: l) := rfl
theorem ty1_or {l : List Bool} : ty1 (Int32.ofNat 1015) (true :: true :: l) = some (true :: l) := rfl
section LWQ
variable {b : Nat → Nat} {n : Nat}
theorem Pg.mk1 {p p' : Nat} {cs : List Int32} {x : Int32} (h1 : p + 1 ≤ p') (h2 : p' ≤ n) : Pg n p cs (.inr (p', cs ++ [x])) := fun q c h => by
  cases h
  exact ⟨h1, h2, [x], rfl, by simp only [List.length_singleton]; omega⟩
theorem nm_1 : ∀ w, w ∈ nmWs → 1 ≤ w.length := by decide
theorem tg_1 : ∀ w, w ∈ tgWs → 1 ≤ w.length := by decide
theorem lw_1 : ∀ w, w ∈ lwWs → 1 ≤ w.length := by decide
theorem paS_pg {p : Nat} {cs : List Int32} (hp : p ≤ n) : Pg n p cs (paS b n p cs) ∧ Ty false 31 cs (paS b n p cs) ∧ ∀ p' c', paS b n p cs = .inr (p', c') → sk b n p' = p' := by
  unfold paS
  cases hN : num b n 0 1000 p with
  | some x =>
    obtain ⟨v, p1⟩ := x
    obtain ⟨a1, a2, a3, _, a4, _⟩ := num_some hN hp
    refine ⟨Pg.mk1 a1 a2, fun q c h => ?_, fun q c h => ?_⟩
    · cases h
      exact ⟨[Int32.ofNat v], rfl, fun l hl => by show (match ty1 (Int32.ofNat v) l with | some l' => some l' | none => none) = _; rw [ty1_num (by omega) (by omega)]⟩
    · cases h; exact a3
  | none =>
    cases hO : oneF b n nmWs 0 p with
    | some x =>
      obtain ⟨k, p1⟩ := x
      obtain ⟨_, a0, a1, a2, a3⟩ := oneF_some nmWs 0 p k p1 hO hp nm_1
      have a0 : k < 7 := by simpa [nmWs] using a0
      refine ⟨Pg.mk1 a1 a2, fun q c h => ?_, fun q c h => ?_⟩
      · cases h
        exact ⟨[Int32.ofNat (1000 + k)], rfl, fun l hl => by show (match ty1 (Int32.ofNat (1000 + k)) l with | some l' => some l' | none => none) = _; rw [ty1_num (by omega) (by omega)]⟩
      · cases h; exact a3
    | none => exact ⟨fun q c h => (by cases h), fun q c h => (by cases h), fun q c h => (by cases h)⟩
theorem moS_pg : ∀ (k p : Nat) (cs : List Int32), p ≤ n → sk b n p = p → (∀ p' c', moS b n k p cs = .inr (p', c') → p ≤ p' ∧ p' ≤ n ∧ sk b n p' = p' ∧ ∃ new, c' = cs ++ new ∧ new.length + p ≤ p' ∧ ∀ l : List Bool, l.length ≤ 30 → tyLs new (false :: l) = some (false :: l))
  | 0, _, _, _, _, _, _, h => by cases h
  | k + 1, p, cs, hp, hs, p', c', h => by
    unfold moS at h
    cases hS : sgq b n 43 p with
    | none =>
      rw [hS] at h
      cases h
      exact ⟨Nat.le_refl _, hp, hs, [], by simp, by simp, fun l _ => rfl⟩
    | some p1 =>
      obtain ⟨_, _, _, s1, s2, _⟩ := sgn_some hS
      rw [hS] at h
      simp only at h
      obtain ⟨q1, q2, q3⟩ := paS_pg (b := b) (cs := cs) s2
      cases hP : paS b n p1 cs with
      | inl f => rw [hP] at h; cases h
      | inr x =>
        obtain ⟨p2, c2⟩ := x
        rw [hP] at h
        simp only at h
        obtain ⟨r1, r2, new, r3, r4⟩ := q1 p2 c2 hP
        obtain ⟨new', r3', r5⟩ := q2 p2 c2 hP
        have en : new' = new := by rw [r3] at r3'; exact (List.append_cancel_left r3').symm
        subst en
        obtain ⟨t1, t2, t3, new2, t4, t5, t6⟩ := moS_pg k p2 _ r2 (q3 p2 c2 hP) p' c' h
        refine ⟨by omega, t2, t3, new' ++ [Int32.ofNat 1010] ++ new2, ?_, ?_, fun l hl => ?_⟩
        · rw [t4, r3]; simp only [List.append_assoc]
        · simp only [List.length_append, List.length_singleton]; omega
        · rw [List.append_assoc, tyLs_app _ _ _ _ (r5 (false :: l) (by simp only [List.length_cons]; omega))]
          show (match ty1 (Int32.ofNat 1010) (false :: false :: l) with
            | some l' => tyLs new2 l'
            | none => none) = _
          rw [ty1_add]
          exact t6 l hl
theorem suS_pg {p : Nat} {cs : List Int32} (hp : p ≤ n) : Pg n p cs (suS b n p cs) ∧ Ty false 30 cs (suS b n p cs) ∧ ∀ p' c', suS b n p cs = .inr (p', c') → sk b n p' = p' := by
  obtain ⟨q1, q2, q3⟩ := paS_pg (b := b) (cs := cs) hp
  unfold suS
  cases hP : paS b n p cs with
  | inl f => exact ⟨fun q c h => (by cases h), fun q c h => (by cases h), fun q c h => (by cases h)⟩
  | inr x =>
    obtain ⟨p1, c1⟩ := x
    simp only
    obtain ⟨r1, r2, new, r3, r4⟩ := q1 p1 c1 hP
    obtain ⟨new', r3', r5⟩ := q2 p1 c1 hP
    have en : new' = new := by rw [r3] at r3'; exact (List.append_cancel_left r3').symm
    subst en
    have t := moS_pg (b := b) 400 p1 c1 r2 (q3 p1 c1 hP)
    refine ⟨fun p' c' h => ?_, fun p' c' h => ?_, fun p' c' h => (t p' c' h).2.2.1⟩
    · obtain ⟨t1, t2, t3, new2, t4, t5, t6⟩ := t p' c' h
      exact ⟨by omega, t2, new' ++ new2, by rw [t4, r3, List.append_assoc], by rw [List.length_append]; omega⟩
    · obtain ⟨t1, t2, t3, new2, t4, t5, t6⟩ := t p' c' h
      exact ⟨new' ++ new2, by rw [t4, r3, List.append_assoc], fun l hl => by rw [tyLs_app _ _ _ _ (r5 l (by omega))]; exact t6 l hl⟩
/-- a parser of truths: it goes on, and what it tells is a truth wherever the stack stands up to h -/
def Gd (b : Nat → Nat) (n h : Nat) (A : Nat → List Int32 → pR) : Prop := ∀ p cs, p ≤ n → ∀ p' c', A p cs = .inr (p', c') → p + 1 ≤ p' ∧ p' ≤ n ∧ sk b n p' = p' ∧ ∃ new, c' = cs ++ new ∧ new.length + p ≤ p' ∧ ∀ l : List Bool, l.length ≤ h → tyLs new l = some (true :: l)
theorem Gd.le {h h' : Nat} {A : Nat → List Int32 → pR} (g : Gd b n h A) (hh : h' ≤ h) : Gd b n h' A := fun p cs hp p' c' e => by
  obtain ⟨a1, a2, a3, new, a4, a5, a6⟩ := g p cs hp p' c' e
  exact ⟨a1, a2, a3, new, a4, a5, fun l hl => a6 l (by omega)⟩
theorem moA_gd {h : Nat} {A : Nat → List Int32 → pR} (g : Gd b n (h + 1) A) : ∀ (k p : Nat) (cs : List Int32), p ≤ n → sk b n p = p → (∀ p' c', moA b n A k p cs = .inr (p', c') → p ≤ p' ∧ p' ≤ n ∧ sk b n p' = p' ∧ ∃ new, c' = cs ++ new ∧ new.length + p ≤ p' ∧ ∀ l : List Bool, l.length ≤ h → tyLs new (true :: l) = some (true :: l))
  | 0, _, _, _, _, _, _, h => by cases h
  | k + 1, p, cs, hp, hs, p', c', e => by
    unfold moA at e
    cases hS : wrd b n wAnd p with
    | none =>
      rw [hS] at e
      cases e
      exact ⟨Nat.le_refl _, hp, hs, [], by simp, by simp, fun l _ => rfl⟩
    | some p1 =>
      obtain ⟨_, _, s1, s2, _⟩ := wrd_some hS hp
      have s1 : p + 3 ≤ p1 := s1
      rw [hS] at e
      simp only at e
      cases hP : A p1 cs with
      | inl f => rw [hP] at e; cases e
      | inr x =>
        obtain ⟨p2, c2⟩ := x
        rw [hP] at e
        simp only at e
        obtain ⟨r1, r2, r0, new, r3, r4, r5⟩ := g p1 cs s2 p2 c2 hP
        obtain ⟨t1, t2, t3, new2, t4, t5, t6⟩ := moA_gd g k p2 _ r2 r0 p' c' e
        refine ⟨by omega, t2, t3, new ++ [Int32.ofNat 1014] ++ new2, ?_, ?_, fun l hl => ?_⟩
        · rw [t4, r3]; simp only [List.append_assoc]
        · simp only [List.length_append, List.length_singleton]; omega
        · rw [List.append_assoc, tyLs_app _ _ _ _ (r5 (true :: l) (by simp only [List.length_cons]; omega))]
          show (match ty1 (Int32.ofNat 1014) (true :: true :: l) with
            | some l' => tyLs new2 l'
            | none => none) = _
          rw [ty1_and]
          exact t6 l hl
theorem alS_gd {h : Nat} {A : Nat → List Int32 → pR} (g : Gd b n (h + 1) A) : Gd b n h (alS b n A) := fun p cs hp p' c' e => by
  unfold alS at e
  cases hP : A p cs with
  | inl f => rw [hP] at e; cases e
  | inr x =>
    obtain ⟨p1, c1⟩ := x
    rw [hP] at e
    simp only at e
    obtain ⟨r1, r2, r0, new, r3, r4, r5⟩ := g p cs hp p1 c1 hP
    obtain ⟨t1, t2, t3, new2, t4, t5, t6⟩ := moA_gd g 400 p1 c1 r2 r0 p' c' e
    exact ⟨by omega, t2, t3, new ++ new2, by rw [t4, r3, List.append_assoc], by rw [List.length_append]; omega, fun l hl => by rw [tyLs_app _ _ _ _ (r5 l (by omega))]; exact t6 l hl⟩
theorem moO_gd {h : Nat} {A : Nat → List Int32 → pR} (g : Gd b n (h + 2) A) : ∀ (k p : Nat) (cs : List Int32), p ≤ n → sk b n p = p → (∀ p' c', moO b n A k p cs = .inr (p', c') → p ≤ p' ∧ p' ≤ n ∧ sk b n p' = p' ∧ ∃ new, c' = cs ++ new ∧ new.length + p ≤ p' ∧ ∀ l : List Bool, l.length ≤ h → tyLs new (true :: l) = some (true :: l))
  | 0, _, _, _, _, _, _, h => by cases h
  | k + 1, p, cs, hp, hs, p', c', e => by
    unfold moO at e
    cases hS : wrd b n wOr p with
    | none =>
      rw [hS] at e
      cases e
      exact ⟨Nat.le_refl _, hp, hs, [], by simp, by simp, fun l _ => rfl⟩
    | some p1 =>
      obtain ⟨_, _, s1, s2, _⟩ := wrd_some hS hp
      have s1 : p + 2 ≤ p1 := s1
      rw [hS] at e
      simp only at e
      cases hP : alS b n A p1 cs with
      | inl f => rw [hP] at e; cases e
      | inr x =>
        obtain ⟨p2, c2⟩ := x
        rw [hP] at e
        simp only at e
        obtain ⟨r1, r2, r0, new, r3, r4, r5⟩ := alS_gd (h := h + 1) g p1 cs s2 p2 c2 hP
        obtain ⟨t1, t2, t3, new2, t4, t5, t6⟩ := moO_gd g k p2 _ r2 r0 p' c' e
        refine ⟨by omega, t2, t3, new ++ [Int32.ofNat 1015] ++ new2, ?_, ?_, fun l hl => ?_⟩
        · rw [t4, r3]; simp only [List.append_assoc]
        · simp only [List.length_append, List.length_singleton]; omega
        · rw [List.append_assoc, tyLs_app _ _ _ _ (r5 (true :: l) (by simp only [List.length_cons]; omega))]
          show (match ty1 (Int32.ofNat 1015) (true :: true :: l) with
            | some l' => tyLs new2 l'
            | none => none) = _
          rw [ty1_or]
          exact t6 l hl
theorem coS_gd {h : Nat} {A : Nat → List Int32 → pR} (g : Gd b n (h + 2) A) : Gd b n h (coS b n A) := fun p cs hp p' c' e => by
  unfold coS at e
  cases hP : alS b n A p cs with
  | inl f => rw [hP] at e; cases e
  | inr x =>
    obtain ⟨p1, c1⟩ := x
    rw [hP] at e
    simp only at e
    obtain ⟨r1, r2, r0, new, r3, r4, r5⟩ := alS_gd (h := h + 1) g p cs hp p1 c1 hP
    obtain ⟨t1, t2, t3, new2, t4, t5, t6⟩ := moO_gd g 400 p1 c1 r2 r0 p' c' e
    exact ⟨by omega, t2, t3, new ++ new2, by rw [t4, r3, List.append_assoc], by rw [List.length_append]; omega, fun l hl => by rw [tyLs_app _ _ _ _ (r5 l (by omega))]; exact t6 l hl⟩
theorem atF_gd {h : Nat} {N C : Nat → List Int32 → pR} {dp : Bool} (hh : h ≤ 28) (gN : dp = true → Gd b n h N) (gC : dp = true → Gd b n h C) : Gd b n h (atF b n N C dp) := fun p cs hp p' c' e => by
  unfold atF at e
  cases hW : wrd b n wNot p with
  | some p1 =>
    obtain ⟨_, _, s1, s2, _⟩ := wrd_some hW hp
    have s1 : p + 3 ≤ p1 := s1
    rw [hW] at e
    simp only at e
    cases dp with
    | false => simp only [Bool.false_eq_true, if_false] at e; cases e
    | true =>
      simp only [if_true] at e
      cases hP : N p1 cs with
      | inl f => rw [hP] at e; cases e
      | inr x =>
        obtain ⟨p2, c2⟩ := x
        rw [hP] at e
        cases e
        obtain ⟨r1, r2, r0, new, r3, r4, r5⟩ := gN rfl p1 cs s2 _ _ hP
        refine ⟨by omega, r2, r0, new ++ [Int32.ofNat 1013], by rw [r3, List.append_assoc], by simp only [List.length_append, List.length_singleton]; omega, fun l hl => ?_⟩
        rw [tyLs_app _ _ _ _ (r5 l hl)]
        rfl
  | none =>
    rw [hW] at e
    simp only at e
    cases hS : sgq b n 40 p with
    | some p1 =>
      obtain ⟨_, _, _, s1, s2, _⟩ := sgn_some hS
      rw [hS] at e
      simp only at e
      cases dp with
      | false => simp only [Bool.false_eq_true, if_false] at e; cases e
      | true =>
        simp only [if_true] at e
        cases hP : C p1 cs with
        | inl f => rw [hP] at e; cases e
        | inr x =>
          obtain ⟨p2, c2⟩ := x
          rw [hP] at e
          simp only at e
          obtain ⟨r1, r2, r0, new, r3, r4, r5⟩ := gC rfl p1 cs s2 _ _ hP
          cases hT : sgq b n 41 p2 with
          | none => rw [hT] at e; cases e
          | some p3 =>
            obtain ⟨_, _, _, q1, q2, q3⟩ := sgn_some hT
            rw [hT] at e
            cases e
            exact ⟨by omega, q2, q3, new, r3, by omega, r5⟩
    | none =>
      rw [hS] at e
      simp only at e
      cases hO : oneF b n tgWs 0 p with
      | some x =>
        obtain ⟨k, p1⟩ := x
        obtain ⟨_, a0, a1, a2, a3⟩ := oneF_some tgWs 0 p k p1 hO hp tg_1
        have a0 : k < 3 := by simpa [tgWs] using a0
        rw [hO] at e
        cases e
        refine ⟨a1, a2, a3, [Int32.ofNat (1007 + k)], rfl, by simp only [List.length_singleton]; omega, fun l hl => ?_⟩
        show (match ty1 (Int32.ofNat (1007 + k)) l with
          | some l' => some l'
          | none => none) = _
        rw [ty1_tag (by omega) (by omega) (by omega)]
      | none =>
        rw [hO] at e
        simp only at e
        obtain ⟨q1, q2, q3⟩ := suS_pg (b := b) (cs := cs) hp
        cases hP : suS b n p cs with
        | inl f => rw [hP] at e; cases e
        | inr x =>
          obtain ⟨p1, c1⟩ := x
          rw [hP] at e
          simp only at e
          obtain ⟨r1, r2, new, r3, r4⟩ := q1 p1 c1 hP
          obtain ⟨new', r3', r5⟩ := q2 p1 c1 hP
          have en : new' = new := by rw [r3] at r3'; exact (List.append_cancel_left r3').symm
          subst en
          have fin : ∀ (z : Int32) p2, p1 + 1 ≤ p2 → p2 ≤ n → (∀ l : List Bool, ty1 z (false :: false :: l) = some (true :: l)) → (match suS b n p2 c1 with
              | .inl f => .inl f
              | .inr (p3, c3) => .inr (p3, c3 ++ [z]) : pR) = .inr (p', c') → p + 1 ≤ p' ∧ p' ≤ n ∧ sk b n p' = p' ∧ ∃ new, c' = cs ++ new ∧ new.length + p ≤ p' ∧ ∀ l : List Bool, l.length ≤ h → tyLs new l = some (true :: l) := fun z p2 g1 g2 hz e => by
            obtain ⟨u1, u2', u3⟩ := suS_pg (b := b) (cs := c1) g2
            cases hP2 : suS b n p2 c1 with
            | inl f => rw [hP2] at e; cases e
            | inr x =>
              obtain ⟨p3, c3⟩ := x
              rw [hP2] at e
              cases e
              obtain ⟨v1, v2, nw, v3, v4⟩ := u1 _ _ hP2
              obtain ⟨nw', v3', v5⟩ := u2' _ _ hP2
              have en2 : nw' = nw := by rw [v3] at v3'; exact (List.append_cancel_left v3').symm
              subst en2
              refine ⟨by omega, v2, u3 _ _ hP2, new' ++ nw' ++ [z], by rw [v3, r3]; simp only [List.append_assoc], by simp only [List.length_append, List.length_singleton]; omega, fun l hl => ?_⟩
              rw [List.append_assoc, tyLs_app _ _ _ _ (r5 l (by omega)), tyLs_app _ _ _ _ (v5 (false :: l) (by simp only [List.length_cons]; omega))]
              show (match ty1 z (false :: false :: l) with
                | some l' => some l'
                | none => none) = _
              rw [hz]
          unfold thS at e
          cases hA : sgq b n 60 p1 with
          | some p2 =>
            obtain ⟨_, _, _, w1, w2, _⟩ := sgn_some hA
            rw [hA] at e
            exact fin (Int32.ofNat 1011) p2 w1 w2 (fun l => ty1_less) e
          | none =>
            rw [hA] at e
            simp only at e
            cases hB : sgq b n 62 p1 with
            | some p2 =>
              obtain ⟨_, _, _, w1, w2, _⟩ := sgn_some hB
              rw [hB] at e
              exact fin (Int32.ofNat 1012) p2 w1 w2 (fun l => ty1_more) e
            | none => rw [hB] at e; cases e
theorem pA_gd : ∀ d, d ≤ 6 → Gd b n (2 * (6 - d) + 2) (pA b n d)
  | 0, _ => atF_gd (by omega) (fun h => by cases h) (fun h => by cases h)
  | d + 1, hd => by
    have g := pA_gd d (by omega)
    exact atF_gd (by omega) (fun _ => g.le (by omega)) (fun _ => coS_gd (h := 2 * (6 - (d + 1)) + 2) (g.le (by omega)))
/-! as many turns as one likes -/
theorem moS_k : ∀ (k k' p : Nat) (cs : List Int32), p ≤ n → n - p < k → n - p < k' → moS b n k p cs = moS b n k' p cs
  | 0, _, _, _, _, h, _ => by omega
  | _ + 1, 0, _, _, _, _, h => by omega
  | k + 1, k' + 1, p, cs, hp, h1, h2 => by
    unfold moS
    cases hS : sgq b n 43 p with
    | none => rfl
    | some p1 =>
      obtain ⟨_, _, _, s1, s2, _⟩ := sgn_some hS
      simp only
      obtain ⟨q1, _, _⟩ := paS_pg (b := b) (cs := cs) s2
      cases hP : paS b n p1 cs with
      | inl f => rfl
      | inr x =>
        obtain ⟨p2, c2⟩ := x
        obtain ⟨r1, r2, _⟩ := q1 p2 c2 hP
        exact moS_k k k' p2 _ r2 (by omega) (by omega)
theorem moA_k {h : Nat} {A : Nat → List Int32 → pR} (g : Gd b n h A) : ∀ (k k' p : Nat) (cs : List Int32), p ≤ n → n - p < k → n - p < k' → moA b n A k p cs = moA b n A k' p cs
  | 0, _, _, _, _, h, _ => by omega
  | _ + 1, 0, _, _, _, _, h => by omega
  | k + 1, k' + 1, p, cs, hp, h1, h2 => by
    unfold moA
    cases hS : wrd b n wAnd p with
    | none => rfl
    | some p1 =>
      obtain ⟨_, _, s1, s2, _⟩ := wrd_some hS hp
      have s1 : p + 3 ≤ p1 := s1
      simp only
      cases hP : A p1 cs with
      | inl f => rfl
      | inr x =>
        obtain ⟨p2, c2⟩ := x
        obtain ⟨r1, r2, _⟩ := g p1 cs s2 p2 c2 hP
        exact moA_k g k k' p2 _ r2 (by omega) (by omega)
theorem moO_k {h : Nat} {A : Nat → List Int32 → pR} (g : Gd b n (h + 1) A) : ∀ (k k' p : Nat) (cs : List Int32), p ≤ n → n - p < k → n - p < k' → moO b n A k p cs = moO b n A k' p cs
  | 0, _, _, _, _, h, _ => by omega
  | _ + 1, 0, _, _, _, _, h => by omega
  | k + 1, k' + 1, p, cs, hp, h1, h2 => by
    unfold moO
    cases hS : wrd b n wOr p with
    | none => rfl
    | some p1 =>
      obtain ⟨_, _, s1, s2, _⟩ := wrd_some hS hp
      have s1 : p + 2 ≤ p1 := s1
      simp only
      cases hP : alS b n A p1 cs with
      | inl f => rfl
      | inr x =>
        obtain ⟨p2, c2⟩ := x
        obtain ⟨r1, r2, _⟩ := alS_gd g p1 cs s2 p2 c2 hP
        exact moO_k g k k' p2 _ r2 (by omega) (by omega)
end LWQ
