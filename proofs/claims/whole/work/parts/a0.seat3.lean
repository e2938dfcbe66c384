/-! ===== seating: ways, pure ===== -/
def pcn (z : Nat) : Nat := z % 2 + z / 2 % 2 + z / 4 % 2 + z / 8 % 2 + z / 16 % 2 + z / 32 % 2
def lft (z g : Nat) : Nat := pcn (z / 2 ^ g)
theorem lft_bc : ∀ g, g < 7 → ∀ z, z < 64 → bc (jshr (Int32.ofNat z) (Int32.ofNat g)) = Int32.ofNat (lft z g) := by decide +kernel
theorem bc_pcn : ∀ z, z < 64 → bc (Int32.ofNat z) = Int32.ofNat (pcn z) := by decide +kernel
theorem lft_s : ∀ g, g < 6 → ∀ z, z < 64 → lft z g = (if bt (Int32.ofNat z) g then 1 else 0) + lft z (g + 1) := by decide +kernel
theorem lft_0 : ∀ g, g < 7 → ∀ z, z < 64 → z < 2 ^ g → lft z g = 0 := by decide +kernel
theorem lft_6 : ∀ g, g < 7 → ∀ z, z < 64 → lft z g + g ≤ 6 := by decide +kernel
theorem pcn_6 : ∀ z, z < 64 → pcn z ≤ 6 := by decide +kernel
def mo (m : Nat) : Int32 := Int32.ofNat m - Int32.ofNat 1
theorem mo_lt : ∀ m, m < 16 → ∀ k, k < 16 → ((mo m < Int32.ofNat k) ↔ m ≤ k) := by decide +kernel
theorem mo_lt2 : ∀ m, m < 16 → ∀ k, k < 16 → ((mo m < mo k) ↔ m < k) := by decide +kernel
theorem mo_eq : ∀ m, m < 16 → ∀ k, k < 16 → ((mo m = Int32.ofNat k) ↔ m = k + 1) := by decide +kernel
theorem mo_s (n : Nat) : mo (n + 1) = Int32.ofNat n := oN_sub (by omega)
theorem mo_0 : mo 0 = -1 := by decide
def w0 : Nat → Int32 := fun _ => Int32.ofNat 0
def wU (w : Nat → Int32) (g : Nat) (v : Int32) : Nat → Int32 := fun i => if i = g then v else w i
theorem wU_o {w : Nat → Int32} {g i : Nat} {v : Int32} (h : i ≠ g) : wU w g v i = w i := if_neg h
theorem wU_s {w : Nat → Int32} {g : Nat} {v : Int32} : wU w g v g = v := if_pos rfl
def rmW (V : sD) (w : Nat → Int32) (g t : Nat) : Bool := rmP V (bs (fun o => decide (w o = Int32.ofNat t)) g) g t
theorem rmW_c {V : sD} {w w' : Nat → Int32} {g t : Nat} (h : ∀ i, i < g → w' i = w i) : rmW V w' g t = rmW V w g t := by
  unfold rmW
  rw [bs_congr fun o ho => by rw [h o ho]]
abbrev seS : Type := Nat × (Nat → Int32)
def seatP (V : sD) (nr z : Nat) : Nat → Nat → (Nat → Int32) → Nat → seS → seS
  | 0, g, w, n, st => if n + lft z g < st.1 then st else (n + 1, w)
  | r + 1, g, w, n, st => if n + lft z g < st.1 then st else
      seatP V nr z r (g + 1) (wU w g (-1)) n (if bt (Int32.ofNat z) g then fo (fun t st => if rmW V w g t then seatP V nr z r (g + 1) (wU w g (Int32.ofNat t)) (n + 1) st else st) nr 0 st else st)
theorem seatP_le {V : sD} {nr z B : Nat} : ∀ (r g : Nat) (w : Nat → Int32) (n : Nat) (st : seS), st.1 ≤ B → n + r + 1 ≤ B → (seatP V nr z r g w n st).1 ≤ B
  | 0, g, w, n, st, h, h2 => by
    unfold seatP
    split
    · exact h
    · exact h2
  | r + 1, g, w, n, st, h, h2 => by
    unfold seatP
    split
    · exact h
    · apply seatP_le r _ _ _ _ ?_ (by omega)
      split
      · exact fo_inv (F := fun t st => if rmW V w g t then seatP V nr z r (g + 1) (wU w g (Int32.ofNat t)) (n + 1) st else st) (fun _ (x : seS) => x.1 ≤ B) nr 0 st h (fun t x _ _ ih => by
          split
          · exact seatP_le r _ _ _ _ ih (by omega)
          · exact ih)
      · exact h
/-! all ways, in their order -/
theorem fo_app {α : Type} (F : Nat → α → α) (b : Nat) : ∀ (a i : Nat) (x : α), fo F (a + b) i x = fo F b (i + a) (fo F a i x)
  | 0, i, x => by rw [Nat.zero_add]; rfl
  | a + 1, i, x => by
    rw [show a + 1 + b = (a + b) + 1 by omega]
    show fo F (a + b) (i + 1) (F i x) = fo F b (i + (a + 1)) (fo F a (i + 1) (F i x))
    rw [fo_app F b a (i + 1), show i + 1 + a = i + (a + 1) by omega]
theorem fo_shift {α : Type} (F : Nat → α → α) : ∀ (k i j : Nat) (x : α), fo F k (i + j) x = fo (fun t => F (j + t)) k i x
  | 0, _, _, _ => rfl
  | k + 1, i, j, x => by
    show fo F k (i + j + 1) (F (i + j) x) = fo (fun t => F (j + t)) k (i + 1) (F (j + i) x)
    rw [show i + j + 1 = (i + 1) + j by omega, fo_shift F k (i + 1) j, Nat.add_comm i j]
theorem fo_mul {α : Type} (F : Nat → α → α) (m : Nat) : ∀ (a : Nat) (x : α), fo F (a * m) 0 x = fo (fun t x => fo (fun i x => F (t * m + i) x) m 0 x) a 0 x
  | 0, x => by rw [Nat.zero_mul]; rfl
  | a + 1, x => by
    rw [Nat.succ_mul, fo_app, fo_mul F m a, fo_snoc, fo_shift F m 0 (a * m), Nat.zero_add]
def dg (nr t : Nat) : Int32 := if t = nr then -1 else Int32.ofNat t
def stpW (V : sD) (z : Nat) (w : Nat → Int32) (g x : Nat) : Nat := if x = 0 then 0 else if w g = -1 then x else if bt (Int32.ofNat z) g && rmW V w g (w g).toNatClampNeg then x + 1 else 0
def cnW (V : sD) (z ng : Nat) (w : Nat → Int32) : Nat := fo (stpW V z w) ng 0 1
def lfW (V : sD) (z ng : Nat) (w : Nat → Int32) (st : seS) : seS := if st.1 < cnW V z ng w then (cnW V z ng w, w) else st
def enW (V : sD) (z nr ng : Nat) : Nat → Nat → (Nat → Int32) → seS → seS
  | 0, _, w, st => lfW V z ng w st
  | r + 1, g, w, st => fo (fun t st => enW V z nr ng r (g + 1) (wU w g (dg nr t)) st) (nr + 1) 0 st
theorem en_s {V : sD} {z nr ng r g : Nat} {w : Nat → Int32} {st : seS} : enW V z nr ng (r + 1) g w st = fo (fun t st => enW V z nr ng r (g + 1) (wU w g (dg nr t)) st) (nr + 1) 0 st := rfl
def fgW (nr : Nat) : Nat → Nat → (Nat → Int32) → Nat → Nat → Int32
  | 0, _, w, _ => w
  | r + 1, g, w, f => fgW nr r (g + 1) (wU w g (dg nr (f / (nr + 1) ^ r))) (f % (nr + 1) ^ r)
theorem en_fg {V : sD} {z nr ng : Nat} : ∀ (r g : Nat) (w : Nat → Int32) (st : seS), enW V z nr ng r g w st = fo (fun f st => lfW V z ng (fgW nr r g w f) st) ((nr + 1) ^ r) 0 st
  | 0, g, w, st => rfl
  | r + 1, g, w, st => by
    rw [Nat.pow_succ, Nat.mul_comm, fo_mul]
    unfold enW
    apply fo_congr
    intro t x _ _
    rw [en_fg r (g + 1)]
    apply fo_congr
    intro i y _ hi
    have hp : 0 < (nr + 1) ^ r := Nat.pow_pos (by omega)
    rw [Nat.zero_add] at hi
    show lfW V z ng (fgW nr r (g + 1) (wU w g (dg nr t)) i) y = lfW V z ng (fgW nr r (g + 1) (wU w g (dg nr ((t * (nr + 1) ^ r + i) / (nr + 1) ^ r))) ((t * (nr + 1) ^ r + i) % (nr + 1) ^ r)) y
    rw [show (t * (nr + 1) ^ r + i) / (nr + 1) ^ r = t by rw [Nat.mul_comm, Nat.mul_add_div hp, Nat.div_eq_of_lt hi, Nat.add_zero], show (t * (nr + 1) ^ r + i) % (nr + 1) ^ r = i by rw [Nat.mul_comm, Nat.mul_add_mod, Nat.mod_eq_of_lt hi]]
theorem fgW_lo {nr : Nat} : ∀ (r g : Nat) (w : Nat → Int32) (f i : Nat), i < g → fgW nr r g w f i = w i
  | 0, _, _, _, _, _ => rfl
  | r + 1, g, w, f, i, h => by
    show fgW nr r (g + 1) _ _ i = _
    rw [fgW_lo r (g + 1) _ _ i (by omega), wU_o (by omega)]
theorem md_dg {b r k f : Nat} (hb : 0 < b) (h : k < r) : f % b ^ r / b ^ k % b = f / b ^ k % b := by
  obtain ⟨m, rfl⟩ : ∃ m, r = k + (m + 1) := ⟨r - k - 1, by omega⟩
  rw [Nat.pow_add, Nat.mod_mul_right_div_self, Nat.pow_succ, Nat.mul_comm (b ^ m) b, Nat.mod_mul_right_mod]
theorem fgW_at {nr : Nat} : ∀ (r g : Nat) (w : Nat → Int32) (f : Nat), f < (nr + 1) ^ r → ∀ j, j < r → fgW nr r g w f (g + j) = dg nr (f / (nr + 1) ^ (r - 1 - j) % (nr + 1))
  | 0, _, _, _, _, j, h => by omega
  | r + 1, g, w, f, hf, j, h => by
    have hp : 0 < (nr + 1) ^ r := Nat.pow_pos (by omega)
    show fgW nr r (g + 1) _ _ (g + j) = _
    cases j with
    | zero =>
      show fgW nr r (g + 1) (wU w g (dg nr (f / (nr + 1) ^ r))) (f % (nr + 1) ^ r) g = _
      rw [fgW_lo r (g + 1) _ _ g (by omega), wU_s, show r + 1 - 1 - 0 = r by omega, Nat.mod_eq_of_lt]
      rw [Nat.pow_succ, Nat.mul_comm] at hf
      exact Nat.div_lt_of_lt_mul (by rw [Nat.mul_comm]; exact hf)
    | succ j =>
      rw [show g + (j + 1) = (g + 1) + j by omega, fgW_at r (g + 1) _ _ (Nat.mod_lt _ hp) j (by omega), show r + 1 - 1 - (j + 1) = r - 1 - j by omega, md_dg (by omega) (by omega)]
/-! the class's search is the same -/
theorem stpW_c {V : sD} {z : Nat} {w w' : Nat → Int32} {g : Nat} (h : ∀ i, i ≤ g → w' i = w i) (x : Nat) : stpW V z w' g x = stpW V z w g x := by
  unfold stpW
  rw [h g (Nat.le_refl _), rmW_c fun i hi => h i (by omega)]
theorem pre_c {V : sD} {z : Nat} {w w' : Nat → Int32} {g : Nat} (h : ∀ i, i < g → w' i = w i) : fo (stpW V z w') g 0 1 = fo (stpW V z w) g 0 1 := by
  apply fo_congr
  intro j x _ hj
  exact stpW_c (fun i hi => h i (by omega)) x
theorem pre_s {V : sD} {z : Nat} {w : Nat → Int32} {g : Nat} : fo (stpW V z w) (g + 1) 0 1 = stpW V z w g (fo (stpW V z w) g 0 1) := by rw [fo_snoc, Nat.zero_add]
theorem cn_le {V : sD} {z : Nat} {w : Nat → Int32} (hz : z < 64) {g r x : Nat} (hg : g + r ≤ 6) : fo (stpW V z w) r g x ≤ x + lft z g := by
  have h := fo_inv (F := stpW V z w) (fun i y => i ≤ 6 → y + lft z i ≤ x + lft z g) r g x (fun _ => Nat.le_refl _) (fun j y h1 h2 ih h6 => by
    have ih := ih (by omega)
    have e := lft_s j (by omega) z hz
    unfold stpW
    split
    · omega
    · split
      · omega
      · split
        · next hb =>
          rw [Bool.and_eq_true] at hb
          rw [if_pos hb.1] at e
          omega
        · omega)
  have := h (by omega)
  omega
theorem cn_0 {V : sD} {z : Nat} {w : Nat → Int32} {g : Nat} : ∀ r, fo (stpW V z w) r g 0 = 0 := by
  intro r
  exact fo_inv (F := stpW V z w) (fun _ y => y = 0) r g 0 rfl (fun j y _ _ ih => by rw [ih]; rfl)
theorem en_skip {V : sD} {z nr ng : Nat} : ∀ (r g : Nat) (w : Nat → Int32) (st : seS), (∀ w', (∀ i, i < g → w' i = w i) → cnW V z ng w' ≤ st.1) → enW V z nr ng r g w st = st
  | 0, g, w, st, h => by
    unfold enW lfW
    rw [if_neg (Nat.not_lt.mpr (h w fun _ _ => rfl))]
  | r + 1, g, w, st, h => by
    unfold enW
    exact fo_inv (F := fun t st => enW V z nr ng r (g + 1) (wU w g (dg nr t)) st) (fun _ x => x = st) (nr + 1) 0 st rfl (fun t x _ _ ih => by
      subst ih
      exact en_skip r (g + 1) _ _ fun w' h' => h w' fun i hi => by rw [h' i (by omega), wU_o (by omega)])
theorem seat_en {V : sD} {z nr ng : Nat} (hz : z < 64) (hng : ng ≤ 6) (hnr : nr ≤ 5) : ∀ (r g : Nat) (w : Nat → Int32) (n : Nat) (st : seS), g + r = ng → z < 2 ^ ng → fo (stpW V z w) g 0 1 = n + 1 → seatP V nr z r g w n st = enW V z nr ng r g w st
  | 0, g, w, n, st, hg, h2, hp => by
    unfold seatP enW lfW cnW
    rw [Nat.add_zero] at hg
    subst hg
    rw [hp, lft_0 g (by omega) z hz h2]
    by_cases h : n + 0 < st.1
    · rw [if_pos h, if_neg (by omega)]
    · rw [if_neg h, if_pos (by omega)]
  | r + 1, g, w, n, st, hg, h2, hp => by
    unfold seatP
    by_cases h : n + lft z g < st.1
    · rw [if_pos h, en_skip]
      intro w' hw'
      have e : cnW V z ng w' = fo (stpW V z w') (r + 1) g (n + 1) := by
        unfold cnW
        rw [← hg, fo_app, pre_c hw', hp, Nat.zero_add]
      rw [e]
      have := cn_le (V := V) (w := w') (x := n + 1) hz (show g + (r + 1) ≤ 6 by omega)
      omega
    · rw [if_neg h]
      have pm : ∀ v, fo (stpW V z (wU w g v)) g 0 1 = n + 1 := fun v => by rw [pre_c (w := w) fun i hi => wU_o (by omega)]; exact hp
      have e1 : fo (stpW V z (wU w g (-1))) (g + 1) 0 1 = n + 1 := by
        rw [pre_s, pm]
        unfold stpW
        rw [wU_s, if_neg (by omega), if_pos rfl]
      rw [seat_en hz hng hnr r (g + 1) _ n _ (by omega) h2 e1]
      rw [en_s, fo_snoc, Nat.zero_add, show dg nr nr = -1 from if_pos rfl]
      congr 1
      have es : ∀ t x, t < nr → enW V z nr ng r (g + 1) (wU w g (dg nr t)) x = if bt (Int32.ofNat z) g && rmW V w g t then seatP V nr z r (g + 1) (wU w g (Int32.ofNat t)) (n + 1) x else x := fun t x ht => by
        rw [show dg nr t = Int32.ofNat t from if_neg (by omega)]
        have ne : ¬ Int32.ofNat t = (-1 : Int32) := by rw [oN_ne1 (by omega)]; exact id
        have e2 : fo (stpW V z (wU w g (Int32.ofNat t))) (g + 1) 0 1 = if bt (Int32.ofNat z) g && rmW V w g t then n + 1 + 1 else 0 := by
          rw [pre_s, pm]
          unfold stpW
          rw [wU_s, if_neg (by omega), if_neg ne, oN_tn (by omega), rmW_c (w := w) fun i hi => wU_o (by omega)]
        by_cases hb : (bt (Int32.ofNat z) g && rmW V w g t) = true
        · rw [if_pos hb] at e2 ⊢
          exact (seat_en hz hng hnr r (g + 1) _ (n + 1) _ (by omega) h2 e2).symm
        · rw [if_neg hb] at e2 ⊢
          apply en_skip
          intro w' hw'
          have e : cnW V z ng w' = 0 := by
            unfold cnW
            rw [show ng = (g + 1) + r by omega, fo_app, pre_c hw', e2]
            exact cn_0 r
          rw [e]
          exact Nat.zero_le _
      rw [fo_congr (G := fun t x => if bt (Int32.ofNat z) g && rmW V w g t then seatP V nr z r (g + 1) (wU w g (Int32.ofNat t)) (n + 1) x else x) nr 0 st fun t x _ ht => es t x (by omega)]
      cases bt (Int32.ofNat z) g with
      | true => simp only [Bool.true_and, if_true]
      | false =>
        simp only [Bool.false_and, Bool.false_eq_true, if_false]
        exact (fo_inv (F := fun (_ : Nat) (x : seS) => x) (fun _ x => x = st) nr 0 st rfl (fun _ _ _ _ ih => ih)).symm
/-! whether all of a set can go -/
def canG (V : sD) (nr z : Nat) : Nat → Nat → (Nat → Int32) → Bool
  | 0, _, _ => true
  | r + 1, g, w => if bt (Int32.ofNat z) g then anyN (fun t => rmW V w g t && canG V nr z r (g + 1) (wU w g (Int32.ofNat t))) nr else canG V nr z r (g + 1) (wU w g (-1))
theorem anyN_s (p : Nat → Bool) (n : Nat) : anyN p (n + 1) = (anyN p n || p n) := by
  unfold anyN
  rw [fo_snoc, Nat.zero_add]
theorem seat_can {V : sD} {z nr ng : Nat} (hz : z < 64) (hng : ng ≤ 6) : ∀ (r g : Nat) (w : Nat → Int32) (n : Nat) (st : seS), g + r = ng → z < 2 ^ ng → st.1 = n + lft z g → (seatP V nr z r g w n st).1 = if canG V nr z r g w then st.1 + 1 else st.1
  | 0, g, w, n, st, hg, h2, hs => by
    unfold seatP canG
    rw [hs, lft_0 g (by omega) z hz (by rw [show g = ng by omega]; exact h2), if_neg (by omega), if_pos rfl]
  | r + 1, g, w, n, st, hg, h2, hs => by
    have es := lft_s g (by omega) z hz
    unfold seatP canG
    rw [if_neg (by omega)]
    have pr : ∀ (w : Nat → Int32) (n : Nat) (x : seS), n + lft z (g + 1) < x.1 → seatP V nr z r (g + 1) w n x = x := fun w n x h => by
      cases r with
      | zero => unfold seatP; rw [if_pos h]
      | succ r => unfold seatP; rw [if_pos h]
    cases hb : bt (Int32.ofNat z) g with
    | false =>
      rw [hb] at es
      simp only [Bool.false_eq_true, if_false, Nat.zero_add] at es ⊢
      exact seat_can hz hng r (g + 1) _ n st (by omega) h2 (by omega)
    | true =>
      rw [hb] at es
      simp only [if_true] at es ⊢
      have hl := fo_inv (F := fun t st => if rmW V w g t then seatP V nr z r (g + 1) (wU w g (Int32.ofNat t)) (n + 1) st else st) (fun t (x : seS) => x.1 = if anyN (fun t => rmW V w g t && canG V nr z r (g + 1) (wU w g (Int32.ofNat t))) t then st.1 + 1 else st.1) nr 0 st rfl (fun t x _ _ ih => by
        rw [anyN_s]
        cases ha : anyN (fun t => rmW V w g t && canG V nr z r (g + 1) (wU w g (Int32.ofNat t))) t with
        | true =>
          rw [ha] at ih
          simp only [if_true, Bool.true_or] at ih ⊢
          cases rmW V w g t with
          | false => exact ih
          | true => simp only [if_true]; rw [pr _ _ _ (by omega)]; exact ih
        | false =>
          rw [ha] at ih
          simp only [Bool.false_eq_true, if_false, Bool.false_or] at ih ⊢
          cases rmW V w g t with
          | false => exact ih
          | true =>
            simp only [if_true, Bool.true_and]
            rw [seat_can hz hng r (g + 1) _ (n + 1) x (by omega) h2 (by omega), ih])
      rw [Nat.zero_add] at hl
      rw [pr _ _ _ (by rw [hl]; split <;> omega)]
      exact hl
/-! what the rows held before doesn't matter -/
def seR (x y : seS) : Prop := x.1 = y.1 ∧ (0 < x.1 → x.2 = y.2)
theorem seatP_rl {V : sD} {nr z : Nat} : ∀ (r g : Nat) (w : Nat → Int32) (n : Nat) (x y : seS), seR x y → seR (seatP V nr z r g w n x) (seatP V nr z r g w n y)
  | 0, g, w, n, x, y, h => by
    unfold seatP
    rw [← h.1]
    split
    · exact h
    · exact ⟨rfl, fun _ => rfl⟩
  | r + 1, g, w, n, x, y, h => by
    unfold seatP
    rw [← h.1]
    split
    · exact h
    · apply seatP_rl r
      split
      · exact fo_rel (F := fun t st => if rmW V w g t then seatP V nr z r (g + 1) (wU w g (Int32.ofNat t)) (n + 1) st else st) (G := fun t st => if rmW V w g t then seatP V nr z r (g + 1) (wU w g (Int32.ofNat t)) (n + 1) st else st) (fun _ x y => seR x y) nr 0 x y h (fun t x y _ _ ih => by
          show seR (if rmW V w g t then _ else _) (if rmW V w g t then _ else _)
          split
          · exact seatP_rl r _ _ _ _ _ ih
          · exact ih)
      · exact h
theorem seatP_pos {V : sD} {nr z : Nat} : ∀ (r g : Nat) (w : Nat → Int32) (n : Nat) (x : seS), 0 < (seatP V nr z r g w n x).1
  | 0, g, w, n, x => by
    unfold seatP
    split
    · omega
    · exact Nat.succ_pos n
  | r + 1, g, w, n, x => by
    unfold seatP
    split
    · omega
    · exact seatP_pos r _ _ _ _
def seX (V : sD) (ng nr z : Nat) : seS := seatP V nr z ng 0 w0 0 (0, w0)
theorem seX_of (V : sD) (ng nr z : Nat) (b : Nat → Int32) : (seatP V nr z ng 0 w0 0 (0, b)).1 = (seX V ng nr z).1 ∧ (seatP V nr z ng 0 w0 0 (0, b)).2 = (seX V ng nr z).2 := by
  have h := seatP_rl (V := V) (nr := nr) (z := z) ng 0 w0 0 (0, b) (0, w0) ⟨rfl, fun h => absurd h (Nat.lt_irrefl 0)⟩
  exact ⟨h.1, h.2 (seatP_pos _ _ _ _ _)⟩
theorem seX_en {V : sD} {ng nr z : Nat} (hz : z < 64) (hng : ng ≤ 6) (hnr : nr ≤ 5) (hzn : z < 2 ^ ng) (b : Nat → Int32) : (fo (fun f st => lfW V z ng (fgW nr ng 0 w0 f) st) ((nr + 1) ^ ng) 0 (0, b)).1 = (seX V ng nr z).1 ∧ (fo (fun f st => lfW V z ng (fgW nr ng 0 w0 f) st) ((nr + 1) ^ ng) 0 (0, b)).2 = (seX V ng nr z).2 := by
  rw [← en_fg, ← seat_en (V := V) hz hng hnr ng 0 w0 0 (0, b) (by omega) hzn rfl]
  exact seX_of V ng nr z b
theorem seX_7 {V : sD} {ng nr z : Nat} (hng : ng ≤ 6) : (seX V ng nr z).1 ≤ 7 := seatP_le ng 0 _ 0 _ (Nat.zero_le _) (by omega)
