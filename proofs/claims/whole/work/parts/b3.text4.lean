/-! ===== texts of THE STATION: what they tell, pure ===== -/
def wThing : List Nat := [116, 104, 105, 110, 103]
def wMakes : List Nat := [109, 97, 107, 101, 115]
def wHinders : List Nat := [104, 105, 110, 100, 101, 114, 115]
def wGoer : List Nat := [103, 111, 101, 114]
def wShuns : List Nat := [115, 104, 117, 110, 115]
def wTrain : List Nat := [116, 114, 97, 105, 110]
def wDay : List Nat := [100, 97, 121]
def wAt : List Nat := [97, 116]
def wSo : List Nat := [115, 111]
def wWorth : List Nat := [119, 111, 114, 116, 104]
def wTo : List Nat := [116, 111]
def wMoney : List Nat := [109, 111, 110, 101, 121]
def wNerve : List Nat := [110, 101, 114, 118, 101]
def wDoes : List Nat := [100, 111, 101, 115]
def wUndoes : List Nat := [117, 110, 100, 111, 101, 115]
def wBorn : List Nat := [98, 111, 114, 110]
def wSeats : List Nat := [115, 101, 97, 116, 115]
def wStops : List Nat := [115, 116, 111, 112, 115]
def stWs : List (List Nat) := [wThing, wMakes, wHinders, wGoer, wShuns, wTrain, wDay]
abbrev sT : Type := sD × Nat × Nat × Nat
def thV (V : sD) (nt stop : Nat) (so : Bool) (wo : Nat) : sD := u2 (u2 (u2 (u2 (u2 (u2 V 2 nt (Int32.ofNat stop)) 3 nt (Int32.ofNat wo)) 4 nt (Int32.ofNat 0)) 5 nt (Int32.ofNat 0)) 1 1 (mkX (V 1 1) nt so)) 1 0 (Int32.ofNat (nt + 1))
def tiV (V : sD) (t o : Nat) (m : Bool) : sD := u2 (u2 V 4 t (mkX (V 4 t) o m)) 5 t (mkX (V 5 t) o (!m))
def gaV (V : sD) (ng stop mon : Nat) : sD := u2 (u2 (u2 (u2 (u2 (u2 (u2 (u2 (u2 V 0 1 (Int32.ofNat (ng + 1))) 6 ng (Int32.ofNat stop)) 9 ng (Int32.ofNat mon)) 10 ng (Int32.ofNat 50)) 8 ng (-1)) 11 ng (Int32.ofNat 0)) 12 ng (-1)) 7 ng (-1)) 0 4 (mkX (V 0 4) ng false)
def gnV (V : sD) (ng : Nat) (o : Option Nat) : sD := match o with
  | none => V
  | some v => u2 V 10 ng (Int32.ofNat v)
def gdV (V : sD) (ng : Nat) (o : Option (Nat × Bool)) : sD := match o with
  | none => V
  | some (x, m) => u2 (u2 V 7 ng (Int32.ofNat x)) 0 4 (mkX (V 0 4) ng m)
def gbV (V : sD) (ng : Nat) (o : Option Nat) : sD := match o with
  | none => V
  | some v => u2 V 8 ng (Int32.ofNat v)
def shV (V : sD) (g o : Nat) : sD := u2 (u2 V 11 g (mkX (V 11 g) o true)) 11 o (mkX (V 11 o) g true)
def taV (V : sD) (nr se : Nat) (x : Int32) : sD := u2 (u2 (u2 V 14 nr (Int32.ofNat se)) 13 nr x) 0 10 (Int32.ofNat (nr + 1))
/-- letters of stops -/
def slN (b : Nat → Nat) (p : Nat) : Nat → Option Int32
  | 0 => some (Int32.ofNat 0)
  | k + 1 => match slN b p k with
    | none => none
    | some x => if b (p + k) - 97 < 16 ∧ bt x (b (p + k) - 97) = false then some (x ||| jshl (Int32.ofNat 1) (Int32.ofNat (b (p + k) - 97))) else none
def stL (b : Nat → Nat) (n p : Nat) : Int32 := (slN b p (le b n p - p)).getD (Int32.ofNat 0)
def thL (b : Nat → Nat) (n : Nat) (S : sT) (p : Nat) : Nat ⊕ (sT × Nat) := match bhd b n wAt 0 16 p with
  | .inl f => .inl f
  | .inr (stop, p1) => match tld b n wWorth 100 ((wrd b n wSo p1).getD p1) with
    | .inl f => .inl f
    | .inr (o, p3) => .inr ((thV S.1 S.2.1 stop (wrd b n wSo p1).isSome (o.getD 1), S.2.1 + 1, S.2.2.1, S.2.2.2), p3)
def tiL (b : Nat → Nat) (n : Nat) (S : sT) (m : Bool) (p : Nat) : Nat ⊕ (sT × Nat) := match num b n 0 S.2.1 p with
  | none => .inl p
  | some (t, p1) => match num b n 0 S.2.1 p1 with
    | none => .inl p1
    | some (o, p2) => if S.1 2 t < S.1 2 o then .inr ((tiV S.1 t o m, S.2), p2) else .inl p1
/-- the deed of one who is told -/
def ddL (b : Nat → Nat) (n nt p : Nat) : Nat ⊕ (Option (Nat × Bool) × Nat) := match tld b n wDoes nt p with
  | .inl f => .inl f
  | .inr (some v, q) => .inr (some (v, true), q)
  | .inr (none, q) => match tld b n wUndoes nt q with
    | .inl f => .inl f
    | .inr (some v, q') => .inr (some (v, false), q')
    | .inr (none, q') => .inr (none, q')
def goL2 (b : Nat → Nat) (n : Nat) (S : sT) (p : Nat) : Nat ⊕ (sT × Nat) := match bhd b n wTo 0 16 p with
  | .inl f => .inl f
  | .inr (stop, p1) => match bhd b n wMoney 0 1000 p1 with
    | .inl f => .inl f
    | .inr (mon, p2) => match tld b n wNerve 101 p2 with
      | .inl f => .inl f
      | .inr (nv, p3) => match ddL b n S.2.1 p3 with
        | .inl f => .inl f
        | .inr (dd, p4) => match tld b n wBorn S.2.1 p4 with
          | .inl f => .inl f
          | .inr (ob, p5) => .inr ((gbV (gdV (gnV (gaV S.1 S.2.2.1 stop mon) S.2.2.1 nv) S.2.2.1 dd) S.2.2.1 ob, S.2.1, S.2.2.1 + 1, S.2.2.2), p5)
def shL (b : Nat → Nat) (n : Nat) (S : sT) (p : Nat) : Nat ⊕ (sT × Nat) := match num b n 0 S.2.2.1 p with
  | none => .inl p
  | some (g, p1) => match num b n 0 S.2.2.1 p1 with
    | none => .inl p1
    | some (o, p2) => if o = g then .inl p1 else .inr ((shV S.1 g o, S.2), p2)
def trL (b : Nat → Nat) (n : Nat) (S : sT) (p : Nat) : Nat ⊕ (sT × Nat) := match bhd b n wSeats 1 7 p with
  | .inl f => .inl f
  | .inr (se, p1) => match wrd b n wStops p1 with
    | none => .inl p1
    | some p2 => if stL b n p2 = Int32.ofNat 0 then .inl p2 else .inr ((taV S.1 S.2.2.2 se (stL b n p2), S.2.1, S.2.2.1, S.2.2.2 + 1), sk b n (le b n p2))
def dyL (b : Nat → Nat) (n : Nat) (S : sT) (p : Nat) : Nat ⊕ (sT × Nat) := match num b n 0 1000 p with
  | none => .inl p
  | some (v, p1) => .inr ((u2 S.1 0 15 (Int32.ofNat v), S.2), p1)
def lnL (b : Nat → Nat) (n : Nat) (S : sT) (p : Nat) : Nat ⊕ (sT × Nat) := match oneF b n stWs 0 p with
  | none => .inl p
  | some (0, p1) => if S.2.1 < 8 then thL b n S p1 else .inl p
  | some (1, p1) => tiL b n S true p1
  | some (2, p1) => tiL b n S false p1
  | some (3, p1) => if S.2.2.1 < 6 then goL2 b n S p1 else .inl p
  | some (4, p1) => shL b n S p1
  | some (5, p1) => if S.2.2.2 < 5 then trL b n S p1 else .inl p
  | some (_, p1) => dyL b n S p1
def lnsL (b : Nat → Nat) (n : Nat) : Nat → sT → Nat → Nat ⊕ sT
  | 0, _, p => .inl p
  | k + 1, S, p => match lnL b n S p with
    | .inl f => .inl f
    | .inr (S', p1) => match sgq b n 59 p1 with
      | some p2 => lnsL b n k S' p2
      | none => if p1 = n then .inr S' else .inl p1
def txL (b : Nat → Nat) (n : Nat) (S : sT) : Nat ⊕ sT := if sk b n 0 = n then .inr S else lnsL b n 14 S (sk b n 0)
/-! what is always so stays so -/
section IB3
variable {V V' : sD} {nt ng nr nl : Nat} {r r' : Nat → Int32}
theorem mkX_in {x : Int32} {o k : Nat} {m : Bool} (ho : o < 32) (hk : k < 32) (h : bt (mkX x o m) k = true) : k = o ∨ bt x k = true := by
  by_cases e : k = o
  · exact Or.inl e
  · rw [mkX_o ho hk e] at h; exact Or.inr h
theorem Iv_th {stop wo : Nat} {so : Bool} (I : Iv V nt ng nr nl) (h8 : nt < 8) (hs : stop < 16) : Iv (thV V nt stop so wo) (nt + 1) ng nr nl := by
  obtain ⟨a1, a2, a3, a4, a5, a6, a7, a8, a9, a10, a11, a12, a13⟩ := I
  unfold thV
  refine ⟨⟨by simp [u2_at], by omega⟩, ⟨by simp [u2_at, a2.1], a2.2⟩, ⟨by simp [u2_at, a3.1], a3.2⟩, ⟨by simp [u2_at, a4.1], a4.2⟩, ?_, ?_, ?_, ?_, ?_, ?_, ?_, ?_, ?_⟩
  · intro t ht
    by_cases e : t = nt
    · exact ⟨stop, hs, by simp [u2_at, e]⟩
    · obtain ⟨m, h1, h2⟩ := a5 t (by omega)
      exact ⟨m, h1, by simp [u2_at, e, h2]⟩
  · intro t ht k hk hb
    by_cases e : t = nt
    · have e4 : u2 (u2 (u2 (u2 (u2 (u2 V 2 nt (Int32.ofNat stop)) 3 nt (Int32.ofNat wo)) 4 nt (Int32.ofNat 0)) 5 nt (Int32.ofNat 0)) 1 1 (mkX (V 1 1) nt so)) 1 0 (Int32.ofNat (nt + 1)) 4 nt = Int32.ofNat 0 := by simp [u2_at]
      have e5 : u2 (u2 (u2 (u2 (u2 (u2 V 2 nt (Int32.ofNat stop)) 3 nt (Int32.ofNat wo)) 4 nt (Int32.ofNat 0)) 5 nt (Int32.ofNat 0)) 1 1 (mkX (V 1 1) nt so)) 1 0 (Int32.ofNat (nt + 1)) 5 nt = Int32.ofNat 0 := by simp [u2_at]
      rw [e, e4, e5, b_or, b_00] at hb
      cases hb
    · simp [u2_at, e] at hb
      obtain ⟨h1, h2⟩ := a6 t (by omega) k hk hb
      refine ⟨by omega, ?_⟩
      simp [u2_at, e, show k ≠ nt by omega]
      exact h2
  · intro g hg; obtain ⟨m, h1, h2⟩ := a7 g hg; exact ⟨m, h1, by simp [u2_at, h2]⟩
  · intro g hg
    rcases a8 g hg with h | ⟨m, h1, h2⟩
    · exact Or.inl (by simp [u2_at, h])
    · exact Or.inr ⟨m, by omega, by simp [u2_at, h2]⟩
  · intro g hg
    rcases a9 g hg with h | ⟨m, h1, h2⟩
    · exact Or.inl (by simp [u2_at, h])
    · exact Or.inr ⟨m, by omega, by simp [u2_at, h2]⟩
  · intro g hg; obtain ⟨m, h1, h2⟩ := a10 g hg; exact ⟨m, h1, by simp [u2_at, h2]⟩
  · intro g hg; obtain ⟨m, h1, h2⟩ := a11 g hg; exact ⟨m, h1, by simp [u2_at, h2]⟩
  · intro g hg
    rcases a12 g hg with h | ⟨m, h1, h2⟩
    · exact Or.inl (by simp [u2_at, h])
    · exact Or.inr ⟨m, h1, by simp [u2_at, h2]⟩
  · obtain ⟨m, h1, h2⟩ := a13; exact ⟨m, h1, by simp [u2_at, h2]⟩
theorem Iv_ti {t o : Nat} {m : Bool} (I : Iv V nt ng nr nl) (ht : t < nt) (ho : o < nt) (hlt : V 2 t < V 2 o) : Iv (tiV V t o m) nt ng nr nl := by
  obtain ⟨a1, a2, a3, a4, a5, a6, a7, a8, a9, a10, a11, a12, a13⟩ := I
  have hto : (V 2 t).toNatClampNeg < (V 2 o).toNatClampNeg := by
    obtain ⟨x, x1, x2⟩ := a5 t ht
    obtain ⟨y, y1, y2⟩ := a5 o ho
    rw [x2, y2] at hlt ⊢
    rw [oN_lt (by omega) (by omega)] at hlt
    rw [oN_tn (by omega), oN_tn (by omega)]
    exact hlt
  unfold tiV
  refine ⟨⟨by simp [u2_at, a1.1], a1.2⟩, ⟨by simp [u2_at, a2.1], a2.2⟩, ⟨by simp [u2_at, a3.1], a3.2⟩, ⟨by simp [u2_at, a4.1], a4.2⟩, ?_, ?_, ?_, ?_, ?_, ?_, ?_, ?_, ?_⟩
  · intro t' ht'; obtain ⟨m, h1, h2⟩ := a5 t' ht'; exact ⟨m, h1, by simp [u2_at, h2]⟩
  · intro t' ht' k hk hb
    have e2 : ∀ i, u2 (u2 V 4 t (mkX (V 4 t) o m)) 5 t (mkX (V 5 t) o (!m)) 2 i = V 2 i := fun i => by simp [u2_at]
    rw [e2, e2]
    by_cases e : t' = t
    · subst e
      simp [u2_at] at hb
      rw [b_or, Bool.or_eq_true] at hb
      rcases hb with hb | hb
      · rcases mkX_in (by omega) hk hb with h | h
        · subst h; exact ⟨ho, hto⟩
        · exact a6 t' ht' k hk (by rw [b_or, h]; rfl)
      · rcases mkX_in (by omega) hk hb with h | h
        · subst h; exact ⟨ho, hto⟩
        · exact a6 t' ht' k hk (by rw [b_or, h, Bool.or_true])
    · simp [u2_at, e] at hb
      exact a6 t' ht' k hk hb
  · intro g hg; obtain ⟨m, h1, h2⟩ := a7 g hg; exact ⟨m, h1, by simp [u2_at, h2]⟩
  · intro g hg
    rcases a8 g hg with h | ⟨m, h1, h2⟩
    · exact Or.inl (by simp [u2_at, h])
    · exact Or.inr ⟨m, h1, by simp [u2_at, h2]⟩
  · intro g hg
    rcases a9 g hg with h | ⟨m, h1, h2⟩
    · exact Or.inl (by simp [u2_at, h])
    · exact Or.inr ⟨m, h1, by simp [u2_at, h2]⟩
  · intro g hg; obtain ⟨m, h1, h2⟩ := a10 g hg; exact ⟨m, h1, by simp [u2_at, h2]⟩
  · intro g hg; obtain ⟨m, h1, h2⟩ := a11 g hg; exact ⟨m, h1, by simp [u2_at, h2]⟩
  · intro g hg
    rcases a12 g hg with h | ⟨m, h1, h2⟩
    · exact Or.inl (by simp [u2_at, h])
    · exact Or.inr ⟨m, h1, by simp [u2_at, h2]⟩
  · obtain ⟨m, h1, h2⟩ := a13; exact ⟨m, h1, by simp [u2_at, h2]⟩
theorem Iv_tr {se : Nat} {x : Int32} (I : Iv V nt ng nr nl) (h5 : nr < 5) : Iv (taV V nr se x) nt ng (nr + 1) nl := by
  obtain ⟨a1, a2, a3, a4, a5, a6, a7, a8, a9, a10, a11, a12, a13⟩ := I
  unfold taV
  refine ⟨⟨by simp [u2_at, a1.1], a1.2⟩, ⟨by simp [u2_at, a2.1], a2.2⟩, ⟨by simp [u2_at], by omega⟩, ⟨by simp [u2_at, a4.1], a4.2⟩, ?_, ?_, ?_, ?_, ?_, ?_, ?_, ?_, ?_⟩
  · intro t' ht'; obtain ⟨m, h1, h2⟩ := a5 t' ht'; exact ⟨m, h1, by simp [u2_at, h2]⟩
  · intro t' ht' k hk hb
    simp [u2_at] at hb ⊢
    exact a6 t' ht' k hk hb
  · intro g hg; obtain ⟨m, h1, h2⟩ := a7 g hg; exact ⟨m, h1, by simp [u2_at, h2]⟩
  · intro g hg
    rcases a8 g hg with h | ⟨m, h1, h2⟩
    · exact Or.inl (by simp [u2_at, h])
    · exact Or.inr ⟨m, h1, by simp [u2_at, h2]⟩
  · intro g hg
    rcases a9 g hg with h | ⟨m, h1, h2⟩
    · exact Or.inl (by simp [u2_at, h])
    · exact Or.inr ⟨m, h1, by simp [u2_at, h2]⟩
  · intro g hg; obtain ⟨m, h1, h2⟩ := a10 g hg; exact ⟨m, h1, by simp [u2_at, h2]⟩
  · intro g hg; obtain ⟨m, h1, h2⟩ := a11 g hg; exact ⟨m, h1, by simp [u2_at, h2]⟩
  · intro g hg
    rcases a12 g hg with h | ⟨m, h1, h2⟩
    · exact Or.inl (by simp [u2_at, h])
    · exact Or.inr ⟨m, by omega, by simp [u2_at, h2]⟩
  · obtain ⟨m, h1, h2⟩ := a13; exact ⟨m, h1, by simp [u2_at, h2]⟩
/-- one more goer -/
def GoP (V V' : sD) (ng stop mon nv : Nat) (dd bb : Int32) (m : Bool) : Prop :=
  (∀ k i, ¬ (k = 0 ∧ (i = 1 ∨ i = 4)) → ¬ (6 ≤ k ∧ k ≤ 12 ∧ i = ng) → V' k i = V k i) ∧ V' 0 1 = Int32.ofNat (ng + 1) ∧ (V' 6 ng = Int32.ofNat stop ∧ V' 7 ng = dd ∧ V' 8 ng = bb ∧ V' 9 ng = Int32.ofNat mon ∧ V' 10 ng = Int32.ofNat nv ∧ V' 11 ng = Int32.ofNat 0 ∧ V' 12 ng = -1) ∧ bt (V' 0 4) ng = m ∧ ∀ k, k < 32 → k ≠ ng → bt (V' 0 4) k = bt (V 0 4) k
theorem GoP_a {stop mon : Nat} (hg : ng < 6) : GoP V (gaV V ng stop mon) ng stop mon 50 (-1) (-1) false := by
  unfold gaV
  refine ⟨fun k i h1 h2 => ?_, by simp [u2_at], ⟨by simp [u2_at], by simp [u2_at], by simp [u2_at], by simp [u2_at], by simp [u2_at], by simp [u2_at], by simp [u2_at]⟩, ?_, fun k hk hne => ?_⟩
  · rw [u2_at, if_neg (by omega), u2_at, if_neg (by omega), u2_at, if_neg (by omega), u2_at, if_neg (by omega), u2_at, if_neg (by omega), u2_at, if_neg (by omega), u2_at, if_neg (by omega), u2_at, if_neg (by omega), u2_at, if_neg (by omega)]
  · rw [u2_at, if_pos ⟨rfl, rfl⟩]; exact mkX_g (by omega)
  · rw [u2_at, if_pos ⟨rfl, rfl⟩]; exact mkX_o (by omega) hk hne
theorem GoP.n {stop mon nv : Nat} {dd bb : Int32} {m : Bool} (h : GoP V V' ng stop mon nv dd bb m) (o : Option Nat) : GoP V (gnV V' ng o) ng stop mon (o.getD nv) dd bb m := by
  cases o with
  | none => exact h
  | some v =>
    obtain ⟨a1, a2, ⟨a3, a4, a5, a6, a7, a8, a9⟩, a10, a11⟩ := h
    show GoP V (u2 V' 10 ng (Int32.ofNat v)) ng stop mon v dd bb m
    refine ⟨fun k i h1 h2 => by rw [u2_at, if_neg (by omega)]; exact a1 k i h1 h2, by rw [u2_at, if_neg (by omega)]; exact a2, ⟨?_, ?_, ?_, ?_, ?_, ?_, ?_⟩, ?_, fun k hk hne => ?_⟩
    · rw [u2_at, if_neg (by omega)]; exact a3
    · rw [u2_at, if_neg (by omega)]; exact a4
    · rw [u2_at, if_neg (by omega)]; exact a5
    · rw [u2_at, if_neg (by omega)]; exact a6
    · rw [u2_at, if_pos ⟨rfl, rfl⟩]
    · rw [u2_at, if_neg (by omega)]; exact a8
    · rw [u2_at, if_neg (by omega)]; exact a9
    · rw [u2_at, if_neg (by omega)]; exact a10
    · rw [u2_at, if_neg (by omega)]; exact a11 k hk hne
theorem GoP.d {stop mon nv : Nat} {bb : Int32} (hg : ng < 6) (h : GoP V V' ng stop mon nv (-1) bb false) (o : Option (Nat × Bool)) : GoP V (gdV V' ng o) ng stop mon nv (match o with
    | none => -1
    | some (x, _) => Int32.ofNat x) bb (match o with
    | none => false
    | some (_, m) => m) := by
  cases o with
  | none => exact h
  | some p =>
    obtain ⟨x, m⟩ := p
    obtain ⟨a1, a2, ⟨a3, a4, a5, a6, a7, a8, a9⟩, a10, a11⟩ := h
    show GoP V (u2 (u2 V' 7 ng (Int32.ofNat x)) 0 4 (mkX (V' 0 4) ng m)) ng stop mon nv (Int32.ofNat x) bb m
    refine ⟨fun k i h1 h2 => by rw [u2_at, if_neg (by omega), u2_at, if_neg (by omega)]; exact a1 k i h1 h2, by rw [u2_at, if_neg (by omega), u2_at, if_neg (by omega)]; exact a2, ⟨?_, ?_, ?_, ?_, ?_, ?_, ?_⟩, ?_, fun k hk hne => ?_⟩
    · rw [u2_at, if_neg (by omega), u2_at, if_neg (by omega)]; exact a3
    · rw [u2_at, if_neg (by omega), u2_at, if_pos ⟨rfl, rfl⟩]
    · rw [u2_at, if_neg (by omega), u2_at, if_neg (by omega)]; exact a5
    · rw [u2_at, if_neg (by omega), u2_at, if_neg (by omega)]; exact a6
    · rw [u2_at, if_neg (by omega), u2_at, if_neg (by omega)]; exact a7
    · rw [u2_at, if_neg (by omega), u2_at, if_neg (by omega)]; exact a8
    · rw [u2_at, if_neg (by omega), u2_at, if_neg (by omega)]; exact a9
    · rw [u2_at, if_pos ⟨rfl, rfl⟩]; exact mkX_g (by omega)
    · rw [u2_at, if_pos ⟨rfl, rfl⟩, mkX_o (by omega) hk hne]; exact a11 k hk hne
theorem GoP.b {stop mon nv : Nat} {dd : Int32} {m : Bool} (h : GoP V V' ng stop mon nv dd (-1) m) (o : Option Nat) : GoP V (gbV V' ng o) ng stop mon nv dd (match o with
    | none => -1
    | some x => Int32.ofNat x) m := by
  cases o with
  | none => exact h
  | some v =>
    obtain ⟨a1, a2, ⟨a3, a4, a5, a6, a7, a8, a9⟩, a10, a11⟩ := h
    show GoP V (u2 V' 8 ng (Int32.ofNat v)) ng stop mon nv dd (Int32.ofNat v) m
    refine ⟨fun k i h1 h2 => by rw [u2_at, if_neg (by omega)]; exact a1 k i h1 h2, by rw [u2_at, if_neg (by omega)]; exact a2, ⟨?_, ?_, ?_, ?_, ?_, ?_, ?_⟩, ?_, fun k hk hne => ?_⟩
    · rw [u2_at, if_neg (by omega)]; exact a3
    · rw [u2_at, if_neg (by omega)]; exact a4
    · rw [u2_at, if_pos ⟨rfl, rfl⟩]
    · rw [u2_at, if_neg (by omega)]; exact a6
    · rw [u2_at, if_neg (by omega)]; exact a7
    · rw [u2_at, if_neg (by omega)]; exact a8
    · rw [u2_at, if_neg (by omega)]; exact a9
    · rw [u2_at, if_neg (by omega)]; exact a10
    · rw [u2_at, if_neg (by omega)]; exact a11 k hk hne
theorem Iv_go {stop mon nv : Nat} {dd bb : Int32} {m : Bool} (I : Iv V nt ng nr nl) (P : GoP V V' ng stop mon nv dd bb m) (hg : ng < 6) (h1 : stop < 16) (h2 : mon < 1000) (h3 : nv < 101) (h4 : dd = -1 ∨ ∃ x, x < nt ∧ dd = Int32.ofNat x) (h5 : bb = -1 ∨ ∃ x, x < nt ∧ bb = Int32.ofNat x) : Iv V' nt (ng + 1) nr nl := by
  obtain ⟨a1, a2, a3, a4, a5, a6, a7, a8, a9, a10, a11, a12, a13⟩ := I
  obtain ⟨p1, p2, ⟨p3, p4, p5, p6, p7, p8, p9⟩, p10, p11⟩ := P
  refine ⟨⟨by rw [p1 1 0 (by omega) (by omega)]; exact a1.1, a1.2⟩, ⟨p2, by omega⟩, ⟨by rw [p1 0 10 (by omega) (by omega)]; exact a3.1, a3.2⟩, ⟨by rw [p1 15 0 (by omega) (by omega)]; exact a4.1, a4.2⟩, ?_, ?_, ?_, ?_, ?_, ?_, ?_, ?_, ?_⟩
  · intro t ht; rw [p1 2 t (by omega) (by omega)]; exact a5 t ht
  · intro t ht k hk hb
    rw [p1 4 t (by omega) (by omega), p1 5 t (by omega) (by omega)] at hb
    rw [p1 2 t (by omega) (by omega), p1 2 k (by omega) (by omega)]
    exact a6 t ht k hk hb
  · intro g hg'
    by_cases e : g = ng
    · rw [e, p3]; exact ⟨stop, h1, rfl⟩
    · rw [p1 6 g (by omega) (by omega)]; exact a7 g (by omega)
  · intro g hg'
    by_cases e : g = ng
    · rw [e, p4]; exact h4
    · rw [p1 7 g (by omega) (by omega)]; exact a8 g (by omega)
  · intro g hg'
    by_cases e : g = ng
    · rw [e, p5]; exact h5
    · rw [p1 8 g (by omega) (by omega)]; exact a9 g (by omega)
  · intro g hg'
    by_cases e : g = ng
    · rw [e, p6]; exact ⟨mon, h2, rfl⟩
    · rw [p1 9 g (by omega) (by omega)]; exact a10 g (by omega)
  · intro g hg'
    by_cases e : g = ng
    · rw [e, p7]; exact ⟨nv, h3, rfl⟩
    · rw [p1 10 g (by omega) (by omega)]; exact a11 g (by omega)
  · intro g hg'
    by_cases e : g = ng
    · rw [e, p9]; exact Or.inl rfl
    · rw [p1 12 g (by omega) (by omega)]; exact a12 g (by omega)
  · rw [p1 0 13 (by omega) (by omega)]; exact a13
/-! the reference's row -/
theorem Rw_th {stop wo : Nat} {so : Bool} (R : Rw r V nt ng nr nl) (h8 : nt < 8) (b2 : ng ≤ 6) (b3 : nr ≤ 5) (e : ∀ i, i ≠ 0 → ¬ (8 + 5 * nt ≤ i ∧ i < 13 + 5 * nt) → r' i = r i) (e0 : r' 0 = Int32.ofNat (nt + 1)) (n0 : r' (8 + 5 * nt + 0) = Int32.ofNat stop) (n1 : r' (8 + 5 * nt + 1) = bo so) (n2 : r' (8 + 5 * nt + 2) = Int32.ofNat wo) (n3 : r' (8 + 5 * nt + 3) = Int32.ofNat 0) (n4 : r' (8 + 5 * nt + 4) = Int32.ofNat 0) : Rw r' (thV V nt stop so wo) (nt + 1) ng nr nl := by
  obtain ⟨⟨a1, a2, a3, a4⟩, ⟨a5, a6, a7⟩, a8, a9, a10, a11⟩ := R
  unfold thV
  refine ⟨⟨e0, by rw [e 1 (by omega) (by omega)]; exact a2, by rw [e 2 (by omega) (by omega)]; exact a3, by rw [e 6 (by omega) (by omega)]; exact a4⟩, ⟨by rw [e 3 (by omega) (by omega), a5]; simp [u2_at], by rw [e 5 (by omega) (by omega), a6]; simp [u2_at], by rw [e 7 (by omega) (by omega), a7]; simp [u2_at]⟩, ?_, ?_, ?_, ?_⟩
  · intro t ht
    by_cases h : t = nt
    · subst h
      rw [n0, n1, n2, n3, n4]
      refine ⟨by simp [u2_at], ?_, by simp [u2_at], by simp [u2_at], by simp [u2_at]⟩
      rw [show u2 (u2 (u2 (u2 (u2 (u2 V 2 t (Int32.ofNat stop)) 3 t (Int32.ofNat wo)) 4 t (Int32.ofNat 0)) 5 t (Int32.ofNat 0)) 1 1 (mkX (V 1 1) t so)) 1 0 (Int32.ofNat (t + 1)) 1 1 = mkX (V 1 1) t so by simp [u2_at], mkX_g (by omega)]
    · obtain ⟨c1, c2, c3, c4, c5⟩ := a8 t (by omega)
      rw [e _ (by omega) (by omega), e _ (by omega) (by omega), e _ (by omega) (by omega), e _ (by omega) (by omega), e _ (by omega) (by omega), c1, c2, c3, c4, c5]
      refine ⟨by simp [u2_at, h], ?_, by simp [u2_at, h], by simp [u2_at, h], by simp [u2_at, h]⟩
      rw [show u2 (u2 (u2 (u2 (u2 (u2 V 2 nt (Int32.ofNat stop)) 3 nt (Int32.ofNat wo)) 4 nt (Int32.ofNat 0)) 5 nt (Int32.ofNat 0)) 1 1 (mkX (V 1 1) nt so)) 1 0 (Int32.ofNat (nt + 1)) 1 1 = mkX (V 1 1) nt so by simp [u2_at], mkX_o (by omega) (by omega) h]
  · intro g hg
    rw [e _ (by omega) (by omega), e _ (by omega) (by omega), e _ (by omega) (by omega), e _ (by omega) (by omega), e _ (by omega) (by omega), e _ (by omega) (by omega), e _ (by omega) (by omega), e _ (by omega) (by omega), e _ (by omega) (by omega)]
    simpa [u2_at] using a9 g hg
  · intro t ht
    rw [e _ (by omega) (by omega), e _ (by omega) (by omega)]
    simpa [u2_at] using a10 t ht
  · intro k w hk hw
    rw [e _ (by omega) (by omega)]
    simpa [u2_at] using a11 k w hk hw
theorem Rw_ti {t o : Nat} {m : Bool} (R : Rw r V nt ng nr nl) (b1 : nt ≤ 8) (b2 : ng ≤ 6) (b3 : nr ≤ 5) (ht : t < nt) (e : ∀ i, i ≠ 8 + 5 * t + 3 → i ≠ 8 + 5 * t + 4 → r' i = r i) (n3 : r' (8 + 5 * t + 3) = mkX (V 4 t) o m) (n4 : r' (8 + 5 * t + 4) = mkX (V 5 t) o (!m)) : Rw r' (tiV V t o m) nt ng nr nl := by
  obtain ⟨⟨a1, a2, a3, a4⟩, ⟨a5, a6, a7⟩, a8, a9, a10, a11⟩ := R
  unfold tiV
  refine ⟨⟨by rw [e 0 (by omega) (by omega)]; exact a1, by rw [e 1 (by omega) (by omega)]; exact a2, by rw [e 2 (by omega) (by omega)]; exact a3, by rw [e 6 (by omega) (by omega)]; exact a4⟩, ⟨by rw [e 3 (by omega) (by omega), a5]; simp [u2_at], by rw [e 5 (by omega) (by omega), a6]; simp [u2_at], by rw [e 7 (by omega) (by omega), a7]; simp [u2_at]⟩, ?_, ?_, ?_, ?_⟩
  · intro t' ht'
    obtain ⟨c1, c2, c3, c4, c5⟩ := a8 t' ht'
    rw [e (8 + 5 * t' + 0) (by omega) (by omega), e (8 + 5 * t' + 1) (by omega) (by omega), e (8 + 5 * t' + 2) (by omega) (by omega), c1, c2, c3]
    by_cases h : t' = t
    · subst h
      rw [n3, n4]
      exact ⟨by simp [u2_at], by simp [u2_at], by simp [u2_at], by simp [u2_at], by simp [u2_at]⟩
    · rw [e _ (by omega) (by omega), e _ (by omega) (by omega), c4, c5]
      exact ⟨by simp [u2_at], by simp [u2_at], by simp [u2_at], by simp [u2_at, h], by simp [u2_at, h]⟩
  · intro g hg
    rw [e _ (by omega) (by omega), e _ (by omega) (by omega), e _ (by omega) (by omega), e _ (by omega) (by omega), e _ (by omega) (by omega), e _ (by omega) (by omega), e _ (by omega) (by omega), e _ (by omega) (by omega), e _ (by omega) (by omega)]
    simpa [u2_at] using a9 g hg
  · intro t ht
    rw [e _ (by omega) (by omega), e _ (by omega) (by omega)]
    simpa [u2_at] using a10 t ht
  · intro k w hk hw
    rw [e _ (by omega) (by omega)]
    simpa [u2_at] using a11 k w hk hw
theorem Rw_tr {se : Nat} {x : Int32} (R : Rw r V nt ng nr nl) (b1 : nt ≤ 8) (b2 : ng ≤ 6) (h5 : nr < 5) (e : ∀ i, i ≠ 2 → i ≠ 102 + 2 * nr + 0 → i ≠ 102 + 2 * nr + 1 → r' i = r i) (e0 : r' 2 = Int32.ofNat (nr + 1)) (n0 : r' (102 + 2 * nr + 0) = x) (n1 : r' (102 + 2 * nr + 1) = Int32.ofNat se) : Rw r' (taV V nr se x) nt ng (nr + 1) nl := by
  obtain ⟨⟨a1, a2, a3, a4⟩, ⟨a5, a6, a7⟩, a8, a9, a10, a11⟩ := R
  unfold taV
  refine ⟨⟨by rw [e 0 (by omega) (by omega) (by omega)]; exact a1, by rw [e 1 (by omega) (by omega) (by omega)]; exact a2, e0, by rw [e 6 (by omega) (by omega) (by omega)]; exact a4⟩, ⟨by rw [e 3 (by omega) (by omega) (by omega), a5]; simp [u2_at], by rw [e 5 (by omega) (by omega) (by omega), a6]; simp [u2_at], by rw [e 7 (by omega) (by omega) (by omega), a7]; simp [u2_at]⟩, ?_, ?_, ?_, ?_⟩
  · intro t ht
    rw [e _ (by omega) (by omega) (by omega), e _ (by omega) (by omega) (by omega), e _ (by omega) (by omega) (by omega), e _ (by omega) (by omega) (by omega), e _ (by omega) (by omega) (by omega)]
    simpa [u2_at] using a8 t ht
  · intro g hg
    rw [e _ (by omega) (by omega) (by omega), e _ (by omega) (by omega) (by omega), e _ (by omega) (by omega) (by omega), e _ (by omega) (by omega) (by omega), e _ (by omega) (by omega) (by omega), e _ (by omega) (by omega) (by omega), e _ (by omega) (by omega) (by omega), e _ (by omega) (by omega) (by omega), e _ (by omega) (by omega) (by omega)]
    simpa [u2_at] using a9 g hg
  · intro t ht
    by_cases h : t = nr
    · subst h
      rw [n0, n1]
      exact ⟨by simp [u2_at], by simp [u2_at]⟩
    · obtain ⟨c1, c2⟩ := a10 t (by omega)
      rw [e _ (by omega) (by omega) (by omega), e _ (by omega) (by omega) (by omega), c1, c2]
      exact ⟨by simp [u2_at, h], by simp [u2_at, h]⟩
  · intro k w hk hw
    rw [e _ (by omega) (by omega) (by omega)]
    simpa [u2_at] using a11 k w hk hw
theorem Rw_go {stop mon nv : Nat} {dd bb : Int32} {m : Bool} (R : Rw r V nt ng nr nl) (P : GoP V V' ng stop mon nv dd bb m) (b1 : nt ≤ 8) (hg : ng < 6) (b3 : nr ≤ 5) (b4 : nl ≤ 60) (e : ∀ i, i ≠ 1 → ¬ (48 + 9 * ng ≤ i ∧ i < 57 + 9 * ng) → r' i = r i) (e1 : r' 1 = Int32.ofNat (ng + 1)) (n0 : r' (48 + 9 * ng + 0) = Int32.ofNat stop) (n1 : r' (48 + 9 * ng + 1) = dd) (n2 : r' (48 + 9 * ng + 2) = bo m) (n3 : r' (48 + 9 * ng + 3) = bb) (n4 : r' (48 + 9 * ng + 4) = Int32.ofNat mon) (n5 : r' (48 + 9 * ng + 5) = Int32.ofNat nv) (n6 : r' (48 + 9 * ng + 6) = Int32.ofNat 0) (n7 : r' (48 + 9 * ng + 7) = Int32.ofNat 0) (n8 : r' (48 + 9 * ng + 8) = -1) : Rw r' V' nt (ng + 1) nr nl := by
  obtain ⟨⟨a1, a2, a3, a4⟩, ⟨a5, a6, a7⟩, a8, a9, a10, a11⟩ := R
  obtain ⟨p1, p2, ⟨p3, p4, p5, p6, p7, p8, p9⟩, p10, p11⟩ := P
  refine ⟨⟨by rw [e 0 (by omega) (by omega)]; exact a1, e1, by rw [e 2 (by omega) (by omega)]; exact a3, by rw [e 6 (by omega) (by omega)]; exact a4⟩, ⟨by rw [e 3 (by omega) (by omega), a5, p1 0 13 (by omega) (by omega)], by rw [e 5 (by omega) (by omega), a6, p1 0 15 (by omega) (by omega)], by rw [e 7 (by omega) (by omega), a7, p1 0 16 (by omega) (by omega)]⟩, ?_, ?_, ?_, ?_⟩
  · intro t ht
    rw [e _ (by omega) (by omega), e _ (by omega) (by omega), e _ (by omega) (by omega), e _ (by omega) (by omega), e _ (by omega) (by omega), p1 2 t (by omega) (by omega), p1 1 1 (by omega) (by omega), p1 3 t (by omega) (by omega), p1 4 t (by omega) (by omega), p1 5 t (by omega) (by omega)]
    exact a8 t ht
  · intro g hg'
    by_cases h : g = ng
    · subst h
      rw [n0, n1, n2, n3, n4, n5, n6, n7, n8, p3, p4, p5, p6, p7, p8, p9, p10]
      exact ⟨rfl, rfl, rfl, rfl, rfl, rfl, rfl, by simp [bo], rfl⟩
    · rw [e _ (by omega) (by omega), e _ (by omega) (by omega), e _ (by omega) (by omega), e _ (by omega) (by omega), e _ (by omega) (by omega), e _ (by omega) (by omega), e _ (by omega) (by omega), e _ (by omega) (by omega), e _ (by omega) (by omega), p1 6 g (by omega) (by omega), p1 7 g (by omega) (by omega), p11 g (by omega) h, p1 8 g (by omega) (by omega), p1 9 g (by omega) (by omega), p1 10 g (by omega) (by omega), p1 11 g (by omega) (by omega), p1 12 g (by omega) (by omega)]
      exact a9 g (by omega)
  · intro t ht
    rw [e _ (by omega) (by omega), e _ (by omega) (by omega), p1 13 t (by omega) (by omega), p1 14 t (by omega) (by omega)]
    exact a10 t ht
  · intro k w hk hw
    rw [e _ (by omega) (by omega), p1 16 _ (by omega) (by omega)]
    exact a11 k w hk hw
end IB3
