/-! ===== LAYER 2: a State's numbers, as one picture V: V k i is the i-th number of its k-th cell ===== -/
def Vw (D : sD) (a : Nat) (V : sD) : Prop := ∀ k i, k < 17 → D (a + k) i = V k i
/-- nothing but the State at a has changed -/
def Fr (a : Nat) (D D' : sD) : Prop := ∀ b, (b < a ∨ a + 17 ≤ b) → D' b = D b
/-- .. and the rows of the law at p in which it reckons -/
def Fl (a p : Nat) (D D' : sD) : Prop := ∀ b, (b < a ∨ a + 17 ≤ b) → b ≠ p + 5 → b ≠ p + 6 → D' b = D b
/-- nothing but the rows in which the law at p reckons -/
def Sc (p : Nat) (D D' : sD) : Prop := ∀ b, b ≠ p + 5 → b ≠ p + 6 → D' b = D b
theorem u2_at (D : sD) (a k : Nat) (v : Int32) (b i : Nat) : u2 D a k v b i = if b = a ∧ i = k then v else D b i := rfl
section V14
variable {D D' D'' V : sD} {a b p : Nat}
theorem Vw.self : Vw D a (fun k i => D (a + k) i) := fun _ _ _ => rfl
theorem v_0 (h : Vw D a V) (i : Nat) : D a i = V 0 i := h 0 i (by decide)
theorem v_1 (h : Vw D a V) (i : Nat) : D (a + 1) i = V 1 i := h 1 i (by decide)
theorem v_2 (h : Vw D a V) (i : Nat) : D (a + 2) i = V 2 i := h 2 i (by decide)
theorem v_3 (h : Vw D a V) (i : Nat) : D (a + 3) i = V 3 i := h 3 i (by decide)
theorem v_4 (h : Vw D a V) (i : Nat) : D (a + 4) i = V 4 i := h 4 i (by decide)
theorem v_5 (h : Vw D a V) (i : Nat) : D (a + 5) i = V 5 i := h 5 i (by decide)
theorem v_6 (h : Vw D a V) (i : Nat) : D (a + 6) i = V 6 i := h 6 i (by decide)
theorem v_7 (h : Vw D a V) (i : Nat) : D (a + 7) i = V 7 i := h 7 i (by decide)
theorem v_8 (h : Vw D a V) (i : Nat) : D (a + 8) i = V 8 i := h 8 i (by decide)
theorem v_9 (h : Vw D a V) (i : Nat) : D (a + 9) i = V 9 i := h 9 i (by decide)
theorem v_10 (h : Vw D a V) (i : Nat) : D (a + 10) i = V 10 i := h 10 i (by decide)
theorem v_11 (h : Vw D a V) (i : Nat) : D (a + 11) i = V 11 i := h 11 i (by decide)
theorem v_12 (h : Vw D a V) (i : Nat) : D (a + 12) i = V 12 i := h 12 i (by decide)
theorem v_13 (h : Vw D a V) (i : Nat) : D (a + 13) i = V 13 i := h 13 i (by decide)
theorem v_14 (h : Vw D a V) (i : Nat) : D (a + 14) i = V 14 i := h 14 i (by decide)
theorem v_15 (h : Vw D a V) (i : Nat) : D (a + 15) i = V 15 i := h 15 i (by decide)
theorem v_16 (h : Vw D a V) (i : Nat) : D (a + 16) i = V 16 i := h 16 i (by decide)
theorem Vw.st (h : Vw D a V) {k i : Nat} (hk : k < 17) (v : Int32) : Vw (u2 D (a + k) i v) a (u2 V k i v) := by
  intro j m hj
  simp only [u2_at]
  rw [h j m hj]
  simp
theorem Vw.st0 (h : Vw D a V) {i : Nat} (v : Int32) : Vw (u2 D a i v) a (u2 V 0 i v) := h.st (k := 0) (by decide) v
theorem Vw.fr (h : Vw D b V) (hf : Fr a D D') (hd : b + 17 ≤ a ∨ a + 17 ≤ b) : Vw D' b V := by
  intro k i hk
  rw [hf (b + k) (by omega)]
  exact h k i hk
theorem Vw.fl (h : Vw D b V) (hf : Fl a p D D') (hd : b + 17 ≤ a ∨ a + 17 ≤ b) (hp : b + 17 ≤ p) : Vw D' b V := by
  intro k i hk
  rw [hf (b + k) (by omega) (by omega) (by omega)]
  exact h k i hk
theorem Vw.sc (h : Vw D b V) (hf : Sc p D D') (hp : b + 17 ≤ p) : Vw D' b V := by
  intro k i hk
  rw [hf (b + k) (by omega) (by omega)]
  exact h k i hk
theorem Fr.rf : Fr a D D := fun _ _ => rfl
theorem Sc.rf : Sc p D D := fun _ _ _ => rfl
theorem Fl.rf : Fl a p D D := fun _ _ _ _ => rfl
theorem Fr.tr (h : Fr a D D') (h' : Fr a D' D'') : Fr a D D'' := fun b hb => (h' b hb).trans (h b hb)
theorem Sc.tr (h : Sc p D D') (h' : Sc p D' D'') : Sc p D D'' := fun b h1 h2 => (h' b h1 h2).trans (h b h1 h2)
theorem Fl.tr (h : Fl a p D D') (h' : Fl a p D' D'') : Fl a p D D'' := fun b hb h1 h2 => (h' b hb h1 h2).trans (h b hb h1 h2)
theorem Fr.fl (h : Fr a D D') : Fl a p D D' := fun b hb _ _ => h b hb
theorem Sc.fl (h : Sc p D D') : Fl a p D D' := fun b _ h1 h2 => h b h1 h2
theorem Fr.st {k i : Nat} {v : Int32} (hk : k < 17) (h : Fr a D D') : Fr a D (u2 D' (a + k) i v) := by
  intro b hb
  rw [← h b hb]
  funext j
  simp only [u2_at]
  rw [if_neg (by omega)]
theorem Fr.st0 {i : Nat} {v : Int32} (h : Fr a D D') : Fr a D (u2 D' a i v) := Fr.st (k := 0) (by decide) h
end V14
/-- what is always so of a State's numbers: nt THINGS, ng GOERS, nr TRAINS, nl rows of THE LOG -/
def Iv (V : sD) (nt ng nr nl : Nat) : Prop :=
  (V 1 0 = Int32.ofNat nt ∧ nt ≤ 8) ∧ (V 0 1 = Int32.ofNat ng ∧ ng ≤ 6) ∧ (V 0 10 = Int32.ofNat nr ∧ nr ≤ 5) ∧ (V 15 0 = Int32.ofNat nl ∧ nl ≤ 60) ∧
  (∀ t, t < nt → ∃ n, n < 16 ∧ V 2 t = Int32.ofNat n) ∧
  (∀ t, t < nt → ∀ k, k < 32 → bt (V 4 t ||| V 5 t) k = true → k < nt ∧ (V 2 t).toNatClampNeg < (V 2 k).toNatClampNeg) ∧
  (∀ g, g < ng → ∃ n, n < 16 ∧ V 6 g = Int32.ofNat n) ∧
  (∀ g, g < ng → V 7 g = -1 ∨ ∃ n, n < nt ∧ V 7 g = Int32.ofNat n) ∧
  (∀ g, g < ng → V 8 g = -1 ∨ ∃ n, n < nt ∧ V 8 g = Int32.ofNat n) ∧
  (∀ g, g < ng → ∃ n, n < 1000 ∧ V 9 g = Int32.ofNat n) ∧
  (∀ g, g < ng → ∃ n, n < 101 ∧ V 10 g = Int32.ofNat n) ∧
  (∀ g, g < ng → V 12 g = -1 ∨ ∃ n, n < nr ∧ V 12 g = Int32.ofNat n) ∧
  (∃ n, n ≤ 12 ∧ V 0 13 = Int32.ofNat n)
section I14
variable {V : sD} {nt ng nr nl : Nat}
theorem i_nt (h : Iv V nt ng nr nl) : V 1 0 = Int32.ofNat nt := h.1.1
theorem i_nt8 (h : Iv V nt ng nr nl) : nt ≤ 8 := h.1.2
theorem i_ng (h : Iv V nt ng nr nl) : V 0 1 = Int32.ofNat ng := h.2.1.1
theorem i_ng6 (h : Iv V nt ng nr nl) : ng ≤ 6 := h.2.1.2
theorem i_nr (h : Iv V nt ng nr nl) : V 0 10 = Int32.ofNat nr := h.2.2.1.1
theorem i_nr5 (h : Iv V nt ng nr nl) : nr ≤ 5 := h.2.2.1.2
theorem i_nl (h : Iv V nt ng nr nl) : V 15 0 = Int32.ofNat nl := h.2.2.2.1.1
theorem i_nl60 (h : Iv V nt ng nr nl) : nl ≤ 60 := h.2.2.2.1.2
theorem i_at (h : Iv V nt ng nr nl) {t : Nat} (ht : t < nt) : ∃ n, n < 16 ∧ V 2 t = Int32.ofNat n := h.2.2.2.2.1 t ht
theorem i_tie (h : Iv V nt ng nr nl) {t : Nat} (ht : t < nt) {k : Nat} (hk : k < 32) (hb : bt (V 4 t ||| V 5 t) k = true) : k < nt ∧ (V 2 t).toNatClampNeg < (V 2 k).toNatClampNeg := h.2.2.2.2.2.1 t ht k hk hb
theorem i_wish (h : Iv V nt ng nr nl) {t : Nat} (ht : t < ng) : ∃ n, n < 16 ∧ V 6 t = Int32.ofNat n := h.2.2.2.2.2.2.1 t ht
theorem i_deed (h : Iv V nt ng nr nl) {t : Nat} (ht : t < ng) : V 7 t = -1 ∨ ∃ n, n < nt ∧ V 7 t = Int32.ofNat n := h.2.2.2.2.2.2.2.1 t ht
theorem i_born (h : Iv V nt ng nr nl) {t : Nat} (ht : t < ng) : V 8 t = -1 ∨ ∃ n, n < nt ∧ V 8 t = Int32.ofNat n := h.2.2.2.2.2.2.2.2.1 t ht
theorem i_money (h : Iv V nt ng nr nl) {t : Nat} (ht : t < ng) : ∃ n, n < 1000 ∧ V 9 t = Int32.ofNat n := h.2.2.2.2.2.2.2.2.2.1 t ht
theorem i_nerve (h : Iv V nt ng nr nl) {t : Nat} (ht : t < ng) : ∃ n, n < 101 ∧ V 10 t = Int32.ofNat n := h.2.2.2.2.2.2.2.2.2.2.1 t ht
theorem i_by (h : Iv V nt ng nr nl) {t : Nat} (ht : t < ng) : V 12 t = -1 ∨ ∃ n, n < nr ∧ V 12 t = Int32.ofNat n := h.2.2.2.2.2.2.2.2.2.2.2.1 t ht
theorem i_tx (h : Iv V nt ng nr nl) : ∃ n, n ≤ 12 ∧ V 0 13 = Int32.ofNat n := h.2.2.2.2.2.2.2.2.2.2.2.2
end I14
