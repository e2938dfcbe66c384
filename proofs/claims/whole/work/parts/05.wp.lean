/-! ===== LAYER 2: weakest preconditions over a typed store. The heap is mk sh D: sh the cells' shapes, D the numbers in them ===== -/
abbrev av_Q : Type := Option Value ⊕ String → av_H → Nat → Nat → Prop
def Wx (P : av_P) (d mi pc : Nat) (L : av_L) (st : List Value) (h : av_H) (c s : Nat) (Q : av_Q) : Prop := ∃ n o h' c' s', av_rn P n d mi pc L st h c s = some (o, h', c', s') ∧ Q o h' c' s'
/-- a cell's shape: an array (kind, length), or an object (class, fields: 0 an int, 1 a pointer kept as a number, 2 null, n + 3 the cell n) -/
abbrev sC : Type := (Nat × Nat) ⊕ (Nat × List Nat)
abbrev sD : Type := Nat → Nat → Int32
def dec (x : Int32) : Value := match x.toNatClampNeg with
  | 0 => .null
  | n + 1 => .ref n
def fdv (x : Int32) (f : Nat) : Value := match f with
  | 0 => .int x
  | 1 => dec x
  | 2 => .null
  | n + 3 => .ref n
def sRf (x : Int32) : Option Nat := match x.toNatClampNeg with
  | 0 => none
  | n + 1 => some n
def cellF (g : Nat → Int32) (s : sC) : va_E := match s with
  | .inl (t, n) => if t = 0 then .inl (0, n, .inl g) else if t = 1 then .inl (1, n, .inl g) else if t = 2 then .inl (2, n, .inr (.inl fun i => (g i).toInt64)) else .inl (t, n, .inr (.inr (.inr (.inr fun i => sRf (g i)))))
  | .inr (ci, fs) => .inr (ci, fs.mapIdx fun k f => fdv (g k) f)
def cell (D : sD) (a : Nat) (s : sC) : va_E := cellF (D a) s
def mk (sh : List sC) (D : sD) : av_H := sh.mapIdx fun a s => cell D a s
def u2 (D : sD) (a k : Nat) (v : Int32) : sD := fun b i => if b = a ∧ i = k then v else D b i
def clr (D : sD) (a : Nat) : sD := fun b i => if b = a then 0 else D b i
def cp2 (D : sD) (a sp b dp n : Nat) : sD := fun e i => if e = b ∧ dp ≤ i ∧ i < dp + n then D a (sp + (i - dp)) else D e i
theorem mk_get (sh : List sC) (D : sD) (a : Nat) : (mk sh D)[a]? = (sh[a]?).map (cell D a) := by simp [mk]
theorem mk_len (sh : List sC) (D : sD) : (mk sh D).length = sh.length := by simp [mk]
theorem mk_set {sh : List sC} {D D' : sD} {a : Nat} {x : sC} (hx : sh[a]? = some x) (hD : ∀ b, b ≠ a → D' b = D b) : (mk sh D).set a (cell D' a x) = mk sh D' := by
  apply List.ext_getElem?
  intro i
  rw [List.getElem?_set, mk_get, mk_get, mk_len]
  by_cases h : a = i
  · subst h
    have hl : a < sh.length := by
      rcases Nat.lt_or_ge a sh.length with h | h
      · exact h
      · rw [List.getElem?_eq_none h] at hx; cases hx
    rw [hx]
    simp only [if_true, hl, Option.map_some]
  · simp only [h, if_false]
    cases hs : sh[i]? with
    | none => simp only [Option.map_none]
    | some y =>
      have e := hD i (fun e => h e.symm)
      simp only [Option.map_some, Option.some.injEq]
      unfold cell
      rw [e]
theorem mk_setS {sh : List sC} {D : sD} {a : Nat} {x : sC} : (mk sh D).set a (cell D a x) = mk (sh.set a x) D := by
  apply List.ext_getElem?
  intro i
  rw [List.getElem?_set, mk_get, mk_get, mk_len, List.getElem?_set]
  by_cases h : a = i
  · subst h
    simp only [if_true]
    split <;> rfl
  · simp only [h, if_false]
theorem mk_app {sh : List sC} {D : sD} {x : sC} : mk sh D ++ [cell (clr D sh.length) sh.length x] = mk (sh ++ [x]) (clr D sh.length) := by
  apply List.ext_getElem?
  intro i
  rcases Nat.lt_trichotomy i sh.length with h | h | h
  · rw [List.getElem?_append_left (by rw [mk_len]; exact h), mk_get, mk_get, List.getElem?_append_left h]
    cases hs : sh[i]? with
    | none => simp only [Option.map_none]
    | some y =>
      have hne : i ≠ sh.length := by omega
      have e : clr D sh.length i = D i := by funext j; simp [clr, hne]
      simp only [Option.map_some, Option.some.injEq]
      unfold cell
      rw [e]
  · subst h
    rw [List.getElem?_append_right (by rw [mk_len]; exact Nat.le_refl _), mk_get, List.getElem?_append_right (Nat.le_refl _)]
    simp [mk_len]
  · rw [List.getElem?_eq_none (by simp [mk_len]; omega), List.getElem?_eq_none (by simp [mk_len]; omega)]
/-! the reading of cells -/
def wi {α : Type} (o : Option α) (f : α → Prop) : Prop := match o with
  | some x => f x
  | none => False
theorem wi_some {α : Type} (x : α) (f : α → Prop) : wi (some x) f = f x := rfl
theorem wi_none {α : Type} (f : α → Prop) : wi none f = False := rfl
theorem wi_congr {α : Type} {o : Option α} {f g : α → Prop} (h : ∀ x, f x = g x) : wi o f = wi o g := by cases o with
  | none => rfl
  | some x => exact h x
theorem and_cong {p q r : Prop} (h : q = r) : (p ∧ q) = (p ∧ r) := by rw [h]
theorem ite_cong {p : Prop} [Decidable p] {a b c d : Prop} (h : a = b) (h2 : c = d) : (if p then a else c) = (if p then b else d) := by rw [h, h2]
def fI (sh : List sC) (D : sD) (a q : Nat) : Option Int32 := match sh[a]? with
  | some (.inr (ci, fs)) => if ci = q / 64 ∧ q % 64 < fs.length then some (D a (q % 64)) else none
  | _ => none
def fR (sh : List sC) (a q : Nat) : Option Nat := match sh[a]? with
  | some (.inr (ci, fs)) => if ci = q / 64 then (match fs[q % 64]? with
    | some (n + 3) => some n
    | _ => none) else none
  | _ => none
def aN (sh : List sC) (t a : Nat) : Option Nat := match sh[a]? with
  | some (.inl (t', n)) => if t' = t then some n else none
  | _ => none
def aI (sh : List sC) (D : sD) (a : Nat) (i : Int32) : Option Int32 := match aN sh 0 a with
  | some n => if av_in i n then some (D a i.toNatClampNeg) else none
  | none => none
def aB (sh : List sC) (D : sD) (a : Nat) (i : Int32) : Option Int32 := match aN sh 1 a with
  | some n => if av_in i n then some (D a i.toNatClampNeg) else none
  | none => none
def aJ (sh : List sC) (D : sD) (a : Nat) (i : Int32) : Option Int64 := match aN sh 2 a with
  | some n => if av_in i n then some (D a i.toNatClampNeg).toInt64 else none
  | none => none
/-- an array's length -/
def aL (sh : List sC) (a : Nat) : Option Nat := match sh[a]? with
  | some (.inl (t, n)) => if t < 4 then some n else none
  | _ => none
def oF (sh : List sC) (a q : Nat) : Bool := match sh[a]? with
  | some (.inr (ci, fs)) => decide (ci = q / 64 ∧ q % 64 < fs.length)
  | _ => false
def oA (sh : List sC) (t a : Nat) (i : Int32) : Bool := match aN sh t a with
  | some n => av_in i n
  | none => false
def isO (sh : List sC) (a ci : Nat) : Bool := match sh[a]? with
  | some (.inr (k, _)) => decide (k = ci)
  | _ => false
def oC (sh : List sC) (a : Nat) (sp : Int32) (b : Nat) (dp n : Int32) : Bool := match aN sh 0 a, aN sh 0 b with
  | some n0, some n1 => decide (¬ sp < 0 ∧ ¬ dp < 0 ∧ ¬ n < 0 ∧ sp.toNatClampNeg + n.toNatClampNeg ≤ n0 ∧ dp.toNatClampNeg + n.toNatClampNeg ≤ n1)
  | _, _ => false
/-- what a field is: 0 an int, 1 the pointer of State.law, 2 another one -/
def qk (q : Nat) : Nat := if q = 398 then 1 else match (tTy.getD (q / 64) [])[q % 64]? with
  | some .int => 0
  | some .boolean => 0
  | some _ => 2
  | none => 3
/-- the shapes are of their classes' types; of Law's fields some may be null yet -/
def WT1 (sh : List sC) : Prop := ∀ (a ci : Nat) (fs : List Nat), sh[a]? = some (Sum.inr (ci, fs)) → ∀ k f, fs[k]? = some f → (qk (ci * 64 + k) = 0 → f = 0) ∧ (qk (ci * 64 + k) = 1 → f = 1) ∧ (qk (ci * 64 + k) = 2 → ci ≠ 0 → 3 ≤ f)
def WT (sh : List sC) : Prop := WT1 sh ∧ ∀ (a : Nat) (fs : List Nat), sh[a]? = some (Sum.inr (0, fs)) → ∀ k f, fs[k]? = some f → qk k = 2 → 3 ≤ f
def jshl (x y : Int32) : Int32 := x <<< (y &&& 31)
def jshr (x y : Int32) : Int32 := x >>> (y &&& 31)
def jushr (x y : Int32) : Int32 := (x.toUInt32 >>> (y.toUInt32 &&& Int32.toUInt32 31)).toInt32
def jrem (x y : Int32) : Int32 := x - x / y * y
def mx (x y : Int32) : Int32 := if x < y then y else x
def mn (x y : Int32) : Int32 := if y < x then y else x
/-! the machine's steps as equations -/
section WXS
variable {P : av_P} {d mi pc : Nat} {L : av_L} {st : List Value} {h : av_H} {c s : Nat} {Q : av_Q}
theorem Wx.step {pc' : Nat} {L' : av_L} {st' : List Value} {h' : av_H} {c' s' : Nat} (hs : av_stp P mi pc L st h c s = some (.inl (pc', L', st', h', c', s'))) : Wx P d mi pc L st h c s Q = Wx P d mi pc' L' st' h' c' s' Q := by
  apply propext
  constructor
  · rintro ⟨n, o, h1, c1, s1, hr, hq⟩
    cases n with
    | zero => simp [av_rn] at hr
    | succ n => simp only [av_rn, hs] at hr; exact ⟨n, o, h1, c1, s1, hr, hq⟩
  · rintro ⟨n, o, h1, c1, s1, hr, hq⟩
    exact ⟨n + 1, o, h1, c1, s1, by simp only [av_rn, hs]; exact hr, hq⟩
theorem Wx.bad (hs : av_stp P mi pc L st h c s = none) : Wx P d mi pc L st h c s Q = False := by
  apply propext
  constructor
  · rintro ⟨n, o, h1, c1, s1, hr, hq⟩
    cases n with
    | zero => simp [av_rn] at hr
    | succ n => simp [av_rn, hs] at hr
  · intro h; exact h.elim
theorem Wx.ret {v : Option Value} (hs : av_stp P mi pc L st h c s = some (.inr (.inl v))) : Wx P d mi pc L st h c s Q = Q (.inl v) h c s := by
  apply propext
  constructor
  · rintro ⟨n, o, h1, c1, s1, hr, hq⟩
    cases n with
    | zero => simp [av_rn] at hr
    | succ n =>
      simp only [av_rn, hs, Option.some.injEq, Prod.mk.injEq] at hr
      obtain ⟨rfl, rfl, rfl, rfl⟩ := hr
      exact hq
  · intro hq; exact ⟨1, .inl v, h, c, s, by simp only [av_rn, hs], hq⟩
theorem Wx.thr {E : String} (hs : av_stp P mi pc L st h c s = some (.inr (.inr (.inr E)))) : Wx P d mi pc L st h c s Q = Q (.inr E) h (c + 1) (s + 6) := by
  apply propext
  constructor
  · rintro ⟨n, o, h1, c1, s1, hr, hq⟩
    cases n with
    | zero => simp [av_rn] at hr
    | succ n =>
      simp only [av_rn, hs, Option.some.injEq, Prod.mk.injEq] at hr
      obtain ⟨rfl, rfl, rfl, rfl⟩ := hr
      exact hq
  · intro hq; exact ⟨1, .inr E, h, c + 1, s + 6, by simp only [av_rn, hs], hq⟩
theorem Wx.go (k : Nat) {pc' : Nat} {L' : av_L} {st' : List Value} {h' : av_H} {c' s' : Nat} (hg : av_go P mi k (pc, L, st, h, c, s) = some (pc', L', st', h', c', s')) : Wx P d mi pc L st h c s Q = Wx P d mi pc' L' st' h' c' s' Q := by
  induction k generalizing pc L st h c s with
  | zero => cases hg; rfl
  | succ k ih =>
    simp only [av_go] at hg
    split at hg
    · next F hs =>
      obtain ⟨pc1, L1, st1, h1, c1, s1⟩ := F
      rw [Wx.step hs]; exact ih hg
    · cases hg
/-- what comes behind a call: of a method that doesn't throw; that may, in one without handlers; in one with handlers -/
def kN (P : av_P) (d mi pc : Nat) (L : av_L) (r : List Value) (c s : Nat) (Q : av_Q) : av_Q := fun o h' c' s' => match o with
  | .inl v => Wx P d mi pc L (v.toList ++ r) h' (c + c') (s + s') Q
  | .inr _ => False
def kT (P : av_P) (d mi pc : Nat) (L : av_L) (r : List Value) (c s : Nat) (Q : av_Q) : av_Q := fun o h' c' s' => match o with
  | .inl v => Wx P d mi pc L (v.toList ++ r) h' (c + c') (s + s') Q
  | .inr E => Q (.inr E) h' (c + c') (s + s')
def kH (P : av_P) (d mi pc : Nat) (L : av_L) (c s : Nat) (Q : av_Q) (E : String) (h' : av_H) (c' s' : Nat) : Prop := E ∈ av_es ∧ (match av_hnd pc E (av_me P mi).2.2.2.2.2.1 (av_me P mi).2.2.2.2.2.2.1 with
  | none => False
  | some t => (match av_op P mi t with
    | some (.astore i, len, _) => i < L.length ∧ Wx P d mi (t + len) (L.set i none) [] h' (c + c') (s + s') Q
    | _ => False))
def kC (P : av_P) (d mi pc : Nat) (L : av_L) (r : List Value) (c s : Nat) (Q : av_Q) : av_Q := fun o h' c' s' => match o with
  | .inl v => Wx P d mi (pc + 3) L (v.toList ++ r) h' (c + c') (s + s') Q
  | .inr E => kH P d mi pc L c s Q E h' c' s'
def kA (P : av_P) (d mi mj pc : Nat) (L : av_L) (r : List Value) (c s : Nat) (Q : av_Q) : av_Q := fun o h' c' s' => match o with
  | .inl v => Wx P d mi (pc + 3) L (v.toList ++ r) h' (c + c') (s + s') Q
  | .inr E => (av_me P mj).2.2.2.2.2.2.2.2 = true ∧ (if (av_me P mi).2.2.2.2.2.1 = [] then Q (.inr E) h' (c + c') (s + s') else kH P d mi pc L c s Q E h' c' s')
theorem Wx.call {mj : Nat} {as r : List Value} (hs : av_stp P mi pc L st h c s = some (.inr (.inr (.inl (mj, as, r))))) : Wx P (d + 1) mi pc L st h c s Q = Wx P d mj 0 (av_ent P mj as) [] h 0 0 (kA P (d + 1) mi mj pc L r c s Q) := by
  apply propext
  constructor
  · rintro ⟨n, o, h1, c1, s1, hr, hq⟩
    cases n with
    | zero => simp [av_rn] at hr
    | succ n =>
      simp only [av_rn, hs] at hr
      split at hr
      · cases hr
      · next v h' c' s' hc => exact ⟨n, .inl v, h', c', s', hc, ⟨n, o, h1, c1, s1, hr, hq⟩⟩
      · next E h' c' s' hc =>
        refine ⟨n, .inr E, h', c', s', hc, ?_⟩
        simp only [kA]
        split at hr
        · cases hr
        · next hf =>
          refine ⟨by simpa using hf, ?_⟩
          split at hr
          · next hh =>
            rw [if_pos hh]
            simp only [Option.some.injEq, Prod.mk.injEq] at hr
            obtain ⟨rfl, rfl, rfl, rfl⟩ := hr
            exact hq
          · next hh =>
            rw [if_neg hh]
            split at hr
            · cases hr
            · next hE =>
              refine ⟨by simpa using hE, ?_⟩
              split at hr
              · cases hr
              · next t ht =>
                rw [ht]
                simp only
                split at hr
                · next i len ix hop =>
                  rw [hop]
                  simp only
                  split at hr
                  · next hi => exact ⟨hi, ⟨n, o, h1, c1, s1, hr, hq⟩⟩
                  · cases hr
                · cases hr
  · rintro ⟨n, o, h1, c1, s1, hr, hq⟩
    rcases o with v | E
    · obtain ⟨n2, o2, h2, c2, s2, hr2, hq2⟩ := hq
      refine ⟨max n n2 + 1, o2, h2, c2, s2, ?_, hq2⟩
      simp only [av_rn, hs, av_rn_more n _ _ _ _ _ _ _ _ _ hr _ (Nat.le_max_left n n2)]
      exact av_rn_more n2 _ _ _ _ _ _ _ _ _ hr2 _ (Nat.le_max_right n n2)
    · obtain ⟨hmt, hq⟩ := hq
      split at hq
      · next hh =>
        refine ⟨n + 1, .inr E, h1, c + c1, s + s1, ?_, hq⟩
        simp only [av_rn, hs, hr, hmt, hh]
        simp
      · next hh =>
        obtain ⟨hE, hq⟩ := hq
        split at hq
        · exact hq.elim
        · next t ht =>
          split at hq
          · next i len ix hop =>
            obtain ⟨hi, n2, o2, h2, c2, s2, hr2, hq2⟩ := hq
            refine ⟨max n n2 + 1, o2, h2, c2, s2, ?_, hq2⟩
            simp only [av_rn, hs, av_rn_more n _ _ _ _ _ _ _ _ _ hr _ (Nat.le_max_left n n2), hmt, ht, hop, hi]
            simp only [hh, hE, not_true_eq_false, if_false, if_true, Bool.true_eq_false]
            exact av_rn_more n2 _ _ _ _ _ _ _ _ _ hr2 _ (Nat.le_max_right n n2)
          · exact hq.elim
theorem Wx.callN {mj : Nat} {as r : List Value} {Lj : av_L} (hs : av_stp P mi pc L st h c s = some (.inr (.inr (.inl (mj, as, r))))) (hf : (av_me P mj).2.2.2.2.2.2.2.2 = false) (hL : av_ent P mj as = Lj) : Wx P (d + 1) mi pc L st h c s Q = Wx P d mj 0 Lj [] h 0 0 (kN P (d + 1) mi (pc + 3) L r c s Q) := by
  rw [Wx.call hs, hL]
  congr 1
  funext o h' c' s'
  cases o with
  | inl v => rfl
  | inr E => simp [kA, kN, hf]
theorem Wx.callT {mj : Nat} {as r : List Value} {Lj : av_L} (hs : av_stp P mi pc L st h c s = some (.inr (.inr (.inl (mj, as, r))))) (hf : (av_me P mj).2.2.2.2.2.2.2.2 = true) (hh : (av_me P mi).2.2.2.2.2.1 = []) (hL : av_ent P mj as = Lj) : Wx P (d + 1) mi pc L st h c s Q = Wx P d mj 0 Lj [] h 0 0 (kT P (d + 1) mi (pc + 3) L r c s Q) := by
  rw [Wx.call hs, hL]
  congr 1
  funext o h' c' s'
  cases o with
  | inl v => rfl
  | inr E => simp [kA, kT, hf, hh]
theorem Wx.callC {mj : Nat} {as r : List Value} {Lj : av_L} (hs : av_stp P mi pc L st h c s = some (.inr (.inr (.inl (mj, as, r))))) (hf : (av_me P mj).2.2.2.2.2.2.2.2 = true) (hh : (av_me P mi).2.2.2.2.2.1 ≠ []) (hL : av_ent P mj as = Lj) : Wx P (d + 1) mi pc L st h c s Q = Wx P d mj 0 Lj [] h 0 0 (kC P (d + 1) mi pc L r c s Q) := by
  rw [Wx.call hs, hL]
  congr 1
  funext o h' c' s'
  cases o with
  | inl v => rfl
  | inr E => simp [kA, kC, hf, hh]
end WXS
