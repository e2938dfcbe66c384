/-! ===== THE LAW in the class: Law.holds, sumOf, lookAt ===== -/
def Lsh (sh : List sC) (p n m : Nat) : Prop := sh[p]? = some (Sum.inr (0, [0, p + 1 + 3, p + 2 + 3, p + 3 + 3, p + 4 + 3, p + 5 + 3, p + 6 + 3])) ∧ sh[p + 1]? = some (Sum.inl (0, n)) ∧ sh[p + 2]? = some (Sum.inl (0, n)) ∧ sh[p + 3]? = some (Sum.inl (0, n)) ∧ sh[p + 4]? = some (Sum.inl (0, m)) ∧ sh[p + 5]? = some (Sum.inl (0, 10)) ∧ sh[p + 6]? = some (Sum.inl (0, 32)) ∧ n ≤ 12 ∧ m ≤ 400
section L41
variable {sh : List sC} {D : sD} {p n m i : Nat}
theorem qI_0 (H : Lsh sh p n m) : fI sh D p 0 = some (D p 0) := fI_of H.1 rfl (Nat.le_of_ble_eq_true rfl)
theorem qR_1 (H : Lsh sh p n m) : fR sh p 1 = some (p + 1) := fR_of H.1 rfl rfl
theorem qR_2 (H : Lsh sh p n m) : fR sh p 2 = some (p + 2) := fR_of H.1 rfl rfl
theorem qR_3 (H : Lsh sh p n m) : fR sh p 3 = some (p + 3) := fR_of H.1 rfl rfl
theorem qR_4 (H : Lsh sh p n m) : fR sh p 4 = some (p + 4) := fR_of H.1 rfl rfl
theorem qR_5 (H : Lsh sh p n m) : fR sh p 5 = some (p + 5) := fR_of H.1 rfl rfl
theorem qR_6 (H : Lsh sh p n m) : fR sh p 6 = some (p + 6) := fR_of H.1 rfl rfl
theorem qO (H : Lsh sh p n m) : isO sh p 0 = true := isO_of H.1
theorem qA_1 (H : Lsh sh p n m) (hi : i < n) : aI sh D (p + 1) (Int32.ofNat i) = some (D (p + 1) i) := aI_of (aN_of H.2.1) (by have := H.2.2.2.2.2.2.2.1; omega) hi
theorem qA_2 (H : Lsh sh p n m) (hi : i < n) : aI sh D (p + 2) (Int32.ofNat i) = some (D (p + 2) i) := aI_of (aN_of H.2.2.1) (by have := H.2.2.2.2.2.2.2.1; omega) hi
theorem qA_3 (H : Lsh sh p n m) (hi : i < n) : aI sh D (p + 3) (Int32.ofNat i) = some (D (p + 3) i) := aI_of (aN_of H.2.2.2.1) (by have := H.2.2.2.2.2.2.2.1; omega) hi
theorem qA_4 (H : Lsh sh p n m) (hi : i < m) : aI sh D (p + 4) (Int32.ofNat i) = some (D (p + 4) i) := aI_of (aN_of H.2.2.2.2.1) (by have := H.2.2.2.2.2.2.2.2; omega) hi
theorem qA_5 (H : Lsh sh p n m) (hi : i < 10) : aI sh D (p + 5) (Int32.ofNat i) = some (D (p + 5) i) := aI_of (aN_of H.2.2.2.2.2.1) (by decide) hi
theorem qA_6 (H : Lsh sh p n m) (hi : i < 32) : aI sh D (p + 6) (Int32.ofNat i) = some (D (p + 6) i) := aI_of (aN_of H.2.2.2.2.2.2.1) (by decide) hi
theorem qW_5 (H : Lsh sh p n m) (hi : i < 10) : oA sh 0 (p + 5) (Int32.ofNat i) = true := oA_of (aN_of H.2.2.2.2.2.1) (by decide) hi
theorem qW_6 (H : Lsh sh p n m) (hi : i < 32) : oA sh 0 (p + 6) (Int32.ofNat i) = true := oA_of (aN_of H.2.2.2.2.2.2.1) (by decide) hi
end L41
/-- the stack's row -/
def stR (S : Nat → Int32) : List Int32 → Prop
  | [] => True
  | x :: l => S l.length = x ∧ stR S l
theorem stR_of {S S' : Nat → Int32} : ∀ (l : List Int32), stR S l → (∀ j, j < l.length → S' j = S j) → stR S' l
  | [], _, _ => trivial
  | x :: l, h, hs => ⟨(hs l.length (by simp)).trans h.1, stR_of l h.2 fun j hj => hs j (by simp; omega)⟩
def tpn (n : Nat) : Int32 := Int32.ofNat n + (-1)
theorem tpn_1 (n : Nat) : tpn (n + 1) = Int32.ofNat n := by
  unfold tpn
  rw [← oN_add, Int32.add_assoc]
  have : (Int32.ofNat 1 + (-1 : Int32)) = 0 := by decide
  rw [this, Int32.add_zero]
theorem tpn_a (n : Nat) : tpn n + Int32.ofNat 1 = Int32.ofNat n := by
  unfold tpn
  rw [Int32.add_assoc]
  have : ((-1 : Int32) + Int32.ofNat 1) = 0 := by decide
  rw [this, Int32.add_zero]
theorem oN_m1 (n : Nat) : Int32.ofNat (n + 1) + (-1) = Int32.ofNat n := tpn_1 n
theorem oN_m1' (n : Nat) : Int32.ofNat (n + 1) - Int32.ofNat 1 = Int32.ofNat n := oN_sub (by omega)
theorem tpn_lt0 : ∀ n, n < 40 → (tpn n < Int32.ofNat 0 ↔ n = 0) := by decide +kernel
theorem tpn_lt1 : ∀ n, n < 40 → (tpn n < Int32.ofNat 1 ↔ n < 2) := by decide +kernel
/-- nothing but one row has changed -/
def Ex (b : Nat) (D D' : sD) : Prop := ∀ a, a ≠ b → D' a = D a
theorem Ex.rf {b : Nat} {D : sD} : Ex b D D := fun _ _ => rfl
theorem Ex.st {b i : Nat} {v : Int32} {D D' : sD} (h : Ex b D D') : Ex b D (u2 D' b i v) := by
  intro a ha
  rw [← h a ha]
  funext j
  simp only [u2_at]
  rw [if_neg (by omega)]
theorem u2_self {D : sD} {b i j : Nat} {v : Int32} : u2 D b i v b j = if j = i then v else D b j := by simp [u2]
theorem up_P {α : Type} {W : Nat → α → sD → Prop} {P : Nat → α → sD → Prop} {F : Nat → α → α} (n : Nat) (hs : ∀ i x D, i < n → P i x D → (∀ D', P (i + 1) (F i x) D' → W (i + 1) (F i x) D') → W i x D) (x : α) (D : sD) (hP : P 0 x D) (k : ∀ D', P n (fo F n 0 x) D' → W n (fo F n 0 x) D') : W 0 x D := by
  have h : ∀ k i x D, i + k = n → P i x D → (∀ D', P n (fo F k i x) D' → W n (fo F k i x) D') → W i x D := by
    intro k
    induction k with
    | zero => intro i x D hi hp hk; rw [show i = n by omega] at hp ⊢; exact hk D hp
    | succ k ih =>
      intro i x D hi hp hk
      exact hs i x D (by omega) hp fun D' hp' => ih (i + 1) (F i x) D' (by omega) hp' hk
  exact h n 0 x D (by omega) hP k
/-- the law at p has n lines, m signs; the j-th line's signs end at e (j + 1) -/
def LawE (D : sD) (p n m : Nat) (e : Nat → Nat) : Prop := D p 0 = Int32.ofNat n ∧ e 0 = 0 ∧ ∀ j, j < n → D (p + 3) j = Int32.ofNat (e (j + 1)) ∧ e (j + 1) ≤ m ∧ WfL (D (p + 4)) (e j) (e (j + 1))
def lawSum (K A C F : Nat → Int32) (e : Nat → Nat) (n : Nat) (kind : Int32) : Int32 := fo (fun j x => if decide (K j = kind) && holdsS C F (e j) (e (j + 1)) then x + A j else x) n 0 (Int32.ofNat 0)
theorem u2_o {D : sD} {a k b i : Nat} {v : Int32} (h : ¬ b = a) : u2 D a k v b i = D b i := by simp only [u2_at]; rw [if_neg (by omega)]
theorem tn0 : Int32.toNatClampNeg (Int32.ofNat 0) = 0 := by decide
theorem tn1 : Int32.toNatClampNeg (Int32.ofNat 1) = 1 := by decide
theorem tn2 : Int32.toNatClampNeg (Int32.ofNat 2) = 2 := by decide
theorem tn3 : Int32.toNatClampNeg (Int32.ofNat 3) = 3 := by decide
theorem tn4 : Int32.toNatClampNeg (Int32.ofNat 4) = 4 := by decide
theorem tn5 : Int32.toNatClampNeg (Int32.ofNat 5) = 5 := by decide
theorem tn6 : Int32.toNatClampNeg (Int32.ofNat 6) = 6 := by decide
theorem tn7 : Int32.toNatClampNeg (Int32.ofNat 7) = 7 := by decide
theorem tn8 : Int32.toNatClampNeg (Int32.ofNat 8) = 8 := by decide
theorem tn9 : Int32.toNatClampNeg (Int32.ofNat 9) = 9 := by decide
theorem tn10 : Int32.toNatClampNeg (Int32.ofNat 10) = 10 := by decide
theorem tn11 : Int32.toNatClampNeg (Int32.ofNat 11) = 11 := by decide
theorem tn12 : Int32.toNatClampNeg (Int32.ofNat 12) = 12 := by decide
section C41
variable {nx : Nat} {xs : Nat → Int32} {d c s : Nat} {sh : List sC} {D : sD} {Q : av_Q}
variable {p n m : Nat} {D0 : sD}
theorem k3_loop (hw : WT sh) (HL : Lsh sh p n m) {f t : Nat} (hF : facB (D0 (p + 5))) (ht : t ≤ m) :
    ∀ (k i : Nat) (l : List Int32) (ts ts' : List Bool) (D : sD) (l5 l6 l7 : Option Value), i + k = t → tyR (D0 (p + 4)) k i ts = some ts' → tyOk l ts → ts.length ≤ 32 → stR (D (p + 6)) l → Ex (p + 6) D0 D →
    (∀ D' l5 l6 l7, Ex (p + 6) D0 D' → stR (D' (p + 6)) (evR (D0 (p + 4)) (D0 (p + 5)) k i l) → tyOk (evR (D0 (p + 4)) (D0 (p + 5)) k i l) ts' → Wx (tP nx xs) d 3 5 [some (.ref p), (some (.int (Int32.ofNat f))), (some (.int (Int32.ofNat t))), (some (.int (tpn (evR (D0 (p + 4)) (D0 (p + 5)) k i l).length))), (some (.int (Int32.ofNat t))), l5, l6, l7] [] (mk sh D') c s Q) →
    Wx (tP nx xs) d 3 5 [some (.ref p), (some (.int (Int32.ofNat f))), (some (.int (Int32.ofNat t))), (some (.int (tpn l.length))), (some (.int (Int32.ofNat i))), l5, l6, l7] [] (mk sh D) c s Q := by
  intro k
  induction k with
  | zero =>
    intro i l ts ts' D l5 l6 l7 hik hty hok hlen hst hex kk
    have e : i = t := by omega
    subst e
    simp only [tyR, Option.some.injEq] at hty
    subst hty
    exact kk D l5 l6 l7 hex hst hok
  | succ k ih =>
    intro i l ts ts' D l5 l6 l7 hik hty hok hlen hst hex kk
    have hit : i < t := by omega
    have hm := HL.2.2.2.2.2.2.2.2
    have him : i < m := by omega
    simp only [tyR] at hty
    split at hty
    · next ts1 h1 =>
      have hok1 := ty1_ok hF h1 hok
      have hl := tyOk_len _ _ hok
      have hl1 : ts1.length ≤ 32 := by rcases ty1_len h1 with h | h <;> omega
      have ih := fun D l5 l6 l7 hst hex => ih (i + 1) (stk1 (D0 (p + 5)) (D0 (p + 4) i) l) ts1 ts' D l5 l6 l7 (by omega) hty hok1 hl1 hst hex kk
      have e4 : D (p + 4) = D0 (p + 4) := hex _ (by omega)
      have e5 : D (p + 5) = D0 (p + 5) := hex _ (by omega)
      rw [b3_5 hw]
      simp only [oN_lt (show i < 2147483648 by omega) (show t < 2147483648 by omega), hit, if_true, qR_4 HL, qR_5 HL, qR_6 HL, wi_some, qA_4 HL him, e4]
      generalize hx : D0 (p + 4) i = x at *
      by_cases c1 : x < Int32.ofNat 1010
      · have hn : l.length < 32 := by
          unfold ty1 at h1
          simp only [c1, if_true] at h1
          by_cases hq : ts.length < 32
          · omega
          · simp only [hq, if_false] at h1; cases h1
        simp only [c1, if_true, tpn_a, oN_lt (show l.length < 2147483648 by omega) (show 32 < 2147483648 by omega), hn]
        have key : ∀ v, (if x < Int32.ofNat 1000 then x else D0 (p + 5) (x - Int32.ofNat 1000).toNatClampNeg) = v → Wx (tP nx xs) d 3 68 [some (.ref p), (some (.int (Int32.ofNat f))), (some (.int (Int32.ofNat t))), (some (.int (Int32.ofNat l.length))), (some (.int (Int32.ofNat i))), (some (.int (x))), l6, l7] [.int v, .int (Int32.ofNat l.length), .ref (p + 6)] (mk sh D) c s Q := by
          intro v hv
          simp only [b3_68 hw, b3_69 hw, b3_241 hw, qW_6 HL hn, true_and, oN_tn (show l.length < 2147483648 by omega), oN_add]
          have e : stk1 (D0 (p + 5)) x l = v :: l := by unfold stk1; rw [if_pos c1, hv]
          rw [e] at ih
          have h9 := ih (u2 D (p + 6) l.length v) (some (.int (x))) l6 l7 ⟨by simp [u2_self], stR_of l hst fun j hj => by rw [u2_self, if_neg (by omega)]⟩ hex.st
          simpa only [List.length_cons, tpn_1] using h9
        by_cases c2 : x < Int32.ofNat 1000
        · simp only [c2, if_true]
          exact key x (by rw [if_pos c2])
        · simp only [c2, if_false]
          obtain ⟨j, hj, _, e6, e7⟩ := fact_ix c1 c2
          simp only [e6, qA_5 HL hj, wi_some, e5]
          exact key _ (by rw [if_neg c2, e7])
      · have hlt : l.length < 40 := by omega
        rcases sgn_cases h1 with h | ⟨q, hq1, hq2, hq3⟩
        · exact absurd h c1
        simp only [c1, if_false]
        by_cases c2 : x = Int32.ofNat 1013
        · simp only [c2, if_true]
          rcases l with _ | ⟨b, l⟩
          · exfalso
            rcases ts with _ | ⟨a, ts⟩
            · unfold ty1 at h1; rw [if_neg c1, if_pos c2] at h1; cases h1
            · exact hok.elim
          · have h0 : ¬ Int32.ofNat l.length < Int32.ofNat 0 := oN_nn (by simp at hlt; omega)
            have hn : l.length < 32 := by simp at hl; omega
            have hS : D (p + 6) l.length = b := hst.1
            simp only [h0, if_false, List.length_cons, tpn_1, qA_6 HL hn, qW_6 HL hn, wi_some, true_and, b3_98 hw, b3_241 hw, oN_tn (show l.length < 2147483648 by omega), oN_add, hS]
            have e : stk1 (D0 (p + 5)) x (b :: l) = (Int32.ofNat 1 - b) :: l := by unfold stk1; rw [if_neg c1, if_pos c2]
            rw [e] at ih
            have h9 := ih (u2 D (p + 6) l.length (Int32.ofNat 1 - b)) (some (.int (Int32.ofNat 1013))) l6 l7 ⟨by simp [u2_self], stR_of l hst.2 fun j hj => by rw [u2_self, if_neg (by omega)]⟩ hex.st
            simpa only [List.length_cons, tpn_1] using h9
        · simp only [c2, if_false]
          have h2 : 2 ≤ l.length := by
            rcases Nat.lt_or_ge l.length 2 with h | h
            · exfalso
              unfold ty1 at h1
              simp only [c1, c2, if_false] at h1
              rcases ts with _ | ⟨t1, _ | ⟨t2, ts⟩⟩
              · by_cases a1 : x = Int32.ofNat 1010 <;> by_cases a2 : x = Int32.ofNat 1011 ∨ x = Int32.ofNat 1012 <;> by_cases a3 : x = Int32.ofNat 1014 ∨ x = Int32.ofNat 1015 <;> simp only [a1, a2, a3, if_true, if_false] at h1 <;> cases h1
              · by_cases a1 : x = Int32.ofNat 1010 <;> by_cases a2 : x = Int32.ofNat 1011 ∨ x = Int32.ofNat 1012 <;> by_cases a3 : x = Int32.ofNat 1014 ∨ x = Int32.ofNat 1015 <;> cases t1 <;> simp only [a1, a2, a3, if_true, if_false] at h1 <;> cases h1
              · simp at hl; omega
            · exact h
          rcases l with _ | ⟨b, _ | ⟨a, l⟩⟩
          · simp at h2
          · simp at h2
          · have h0 : ¬ Int32.ofNat (l.length + 1) < Int32.ofNat 1 := by rw [oN_lt (by simp at hlt; omega) (by decide)]; omega
            have hn1 : l.length + 1 < 32 := by simp at hl; omega
            have hn : l.length < 32 := by omega
            have hS : D (p + 6) (l.length + 1) = b := by simpa using hst.1
            have hS2 : D (p + 6) l.length = a := hst.2.1
            have e : stk1 (D0 (p + 5)) x (b :: a :: l) = bop x a b :: l := by unfold stk1; rw [if_neg c1, if_neg c2]
            rw [e] at ih
            have key : ∀ v l6 l7, bop x a b = v → Wx (tP nx xs) d 3 241 [some (.ref p), (some (.int (Int32.ofNat f))), (some (.int (Int32.ofNat t))), (some (.int (Int32.ofNat l.length))), (some (.int (Int32.ofNat i))), (some (.int (x))), l6, l7] [] (mk sh (u2 D (p + 6) l.length v)) c s Q := by
              intro v l6 l7 hv
              simp only [b3_241 hw, oN_add]
              rw [hv] at ih
              have h9 := ih (u2 D (p + 6) l.length v) (some (.int (x))) l6 l7 ⟨by simp [u2_self], stR_of l hst.2.2 fun j hj => by rw [u2_self, if_neg (by omega)]⟩ hex.st
              simpa only [List.length_cons, tpn_1] using h9
            simp only [h0, if_false, List.length_cons, tpn_1, oN_m1, qA_6 HL hn, qA_6 HL hn1, qW_6 HL hn, wi_some, true_and, hS, hS2]
            have hq : q = 1010 ∨ q = 1011 ∨ q = 1012 ∨ q = 1014 ∨ q = 1015 := by
              have : q ≠ 1013 := fun e => c2 (by rw [hq3, e])
              omega
            rcases hq with e | e | e | e | e <;> subst e <;> subst hq3
            · have e1 : ¬ (Int32.toInt (Int32.ofNat 1010) < 1010 ∨ 1014 < Int32.toInt (Int32.ofNat 1010)) := by decide
              simp only [e1, if_false]
              show Wx (tP nx xs) d 3 160 _ _ _ _ _ _
              simp only [b3_160 hw, b3_171 hw, qR_6 HL, qW_6 HL hn, wi_some, true_and, oN_tn (show l.length < 2147483648 by omega)]
              exact key _ _ _ rfl
            · have e1 : ¬ (Int32.toInt (Int32.ofNat 1011) < 1010 ∨ 1014 < Int32.toInt (Int32.ofNat 1011)) := by decide
              simp only [e1, if_false]
              show Wx (tP nx xs) d 3 174 _ _ _ _ _ _
              have ev : bop (Int32.ofNat 1011) a b = bo (decide (a < b)) := rfl
              simp only [b3_174 hw, b3_191 hw, b3_192 hw, qR_6 HL, qW_6 HL hn, wi_some, true_and, oN_tn (show l.length < 2147483648 by omega)]
              by_cases h : a < b
              · simp only [h, if_true]; exact key _ _ _ (by rw [ev]; simp [h, bo])
              · simp only [h, if_false]; exact key _ _ _ (by rw [ev]; simp [h, bo])
            · have e1 : ¬ (Int32.toInt (Int32.ofNat 1012) < 1010 ∨ 1014 < Int32.toInt (Int32.ofNat 1012)) := by decide
              simp only [e1, if_false]
              show Wx (tP nx xs) d 3 195 _ _ _ _ _ _
              have ev : bop (Int32.ofNat 1012) a b = bo (decide (b < a)) := rfl
              simp only [b3_195 hw, b3_212 hw, b3_213 hw, qR_6 HL, qW_6 HL hn, wi_some, true_and, oN_tn (show l.length < 2147483648 by omega)]
              by_cases h : b < a
              · simp only [h, if_true]; exact key _ _ _ (by rw [ev]; simp [h, bo])
              · simp only [h, if_false]; exact key _ _ _ (by rw [ev]; simp [h, bo])
            · have e1 : ¬ (Int32.toInt (Int32.ofNat 1014) < 1010 ∨ 1014 < Int32.toInt (Int32.ofNat 1014)) := by decide
              simp only [e1, if_false]
              show Wx (tP nx xs) d 3 216 _ _ _ _ _ _
              simp only [b3_216 hw, b3_227 hw, qR_6 HL, qW_6 HL hn, wi_some, true_and, oN_tn (show l.length < 2147483648 by omega)]
              exact key _ _ _ rfl
            · have e1 : (Int32.toInt (Int32.ofNat 1015) < 1010 ∨ 1014 < Int32.toInt (Int32.ofNat 1015)) := by decide
              simp only [e1, if_true]
              simp only [b3_230 hw, qR_6 HL, qW_6 HL hn, wi_some, true_and, oN_tn (show l.length < 2147483648 by omega)]
              exact key _ _ _ rfl
    · cases hty
set_option maxRecDepth 4000 in
theorem k3 (hw : WT sh) (HL : Lsh sh p n m) {f t : Nat} (hF : facB (D (p + 5))) (ht : t ≤ m) (hwf : WfL (D (p + 4)) f t)
    (kk : ∀ D', Ex (p + 6) D D' → Q (.inl (some (.int (bo (holdsS (D (p + 4)) (D (p + 5)) f t))))) (mk sh D') c s) :
    Wx (tP nx xs) d 3 0 [some (.ref p), (some (.int (Int32.ofNat f))), (some (.int (Int32.ofNat t))), none, none, none, none, none] [] (mk sh D) c s Q := by
  obtain ⟨h1, h2, h3⟩ := hwf
  simp only [b3_0 hw]
  have fin : ∀ ts', tyR (D (p + 4)) (t - f) f [] = some ts' → (ts' = [] ∨ ts' = [true]) → Wx (tP nx xs) d 3 5 [some (.ref p), (some (.int (Int32.ofNat f))), (some (.int (Int32.ofNat t))), (some (.int ((-1 : Int32)))), (some (.int (Int32.ofNat f))), none, none, none] [] (mk sh D) c s Q := by
    intro ts' hty hts
    refine k3_loop (D0 := D) (f := f) hw HL hF ht (t - f) f [] [] ts' D none none none (by omega) hty trivial (by simp) trivial Ex.rf ?_
    intro D' l5 l6 l7 hex hst hok
    have kk := kk D' hex
    rw [b3_5 hw]
    simp only [oN_lt (show t < 2147483648 by omega) (show t < 2147483648 by omega), Nat.lt_irrefl, if_false]
    have hl := tyOk_len _ _ hok
    have fin2 : ∀ l, evR (D (p + 4)) (D (p + 5)) (t - f) f [] = l → l.length < 2 := by
      intro l hl2
      rw [hl2] at hl
      cases hts with
      | inl e => rw [e] at hl; simp at hl; simp [hl]
      | inr e => rw [e] at hl; simp at hl; omega
    unfold holdsS at kk
    cases hev : evR (D (p + 4)) (D (p + 5)) (t - f) f [] with
    | nil =>
      rw [hev] at kk
      have h0 : tpn ([] : List Int32).length < Int32.ofNat 0 := (tpn_lt0 0 (by decide)).mpr rfl
      simp only [h0, if_true, b3_260 hw, b3_265 hw, or_1, true_and]
      exact kk
    | cons b l =>
      rw [hev] at kk hst
      have e1 := fin2 _ hev
      have e2 : l = [] := by
        cases l with
        | nil => rfl
        | cons a l => simp at e1; omega
      subst e2
      have h0 : ¬ Int32.ofNat 0 < Int32.ofNat 0 := by decide +kernel
      have e0 : tpn [b].length = Int32.ofNat 0 := tpn_1 0
      have hS : D' (p + 6) 0 = b := hst.1
      have h32 : 0 < 32 := by decide
      simp only [e0, h0, if_false, qR_6 HL, wi_some, qA_6 HL h32, hS, b3_260 hw, b3_265 hw, or_1, or_0, true_and]
      by_cases hb : b = Int32.ofNat 0
      · simp only [hb, if_true, b3_265 hw, or_0, true_and, not_true_eq_false, decide_false, bo_f] at kk ⊢
        exact kk
      · simp only [hb, if_false, not_false_eq_true, decide_true, bo_t] at kk ⊢
        exact kk
  rcases h3 with h3 | h3
  · subst h3
    exact fin [] (by rw [Nat.sub_self]; rfl) (Or.inl rfl)
  · exact fin [true] h3 (Or.inr rfl)
theorem k2 {e : Nat → Nat} {kind : Int32} (hw : WT sh) (HL : Lsh sh p n m) (hE : LawE D p n m e) (hF : facB (D (p + 5)))
    (kk : ∀ D', Ex (p + 6) D D' → Q (.inl (some (.int (lawSum (D (p + 1)) (D (p + 2)) (D (p + 4)) (D (p + 5)) e n kind)))) (mk sh D') c s) :
    Wx (tP nx xs) (d + 1) 2 0 [some (.ref p), (some (.int (kind))), none, none, none] [] (mk sh D) c s Q := by
  have hn := HL.2.2.2.2.2.2.2.1
  have hm := HL.2.2.2.2.2.2.2.2
  simp only [b2_0 hw]
  have goal : Wx (tP nx xs) (d + 1) 2 7 [some (.ref p), (some (.int (kind))), (some (.int (Int32.ofNat 0))), (some (.int (Int32.ofNat (e 0)))), (some (.int (Int32.ofNat 0)))] [] (mk sh D) c s Q := ?_
  · rw [hE.2.1] at goal; exact goal
  refine up_P (W := fun i x D => Wx (tP nx xs) (d + 1) 2 7 [some (.ref p), (some (.int (kind))), (some (.int (x))), (some (.int (Int32.ofNat (e i)))), (some (.int (Int32.ofNat i)))] [] (mk sh D) c s Q) (P := fun _ _ D' => Ex (p + 6) D D') (F := fun j x => if decide (D (p + 1) j = kind) && holdsS (D (p + 4)) (D (p + 5)) (e j) (e (j + 1)) then x + D (p + 2) j else x) n ?_ _ D Ex.rf ?_
  · intro i x D1 hi hex k
    obtain ⟨h1, h2, h3⟩ := hE.2.2 i hi
    have e0 : D1 p = D p := hex _ (by omega)
    have e1 : D1 (p + 1) = D (p + 1) := hex _ (by omega)
    have e2 : D1 (p + 2) = D (p + 2) := hex _ (by omega)
    have e3 : D1 (p + 3) = D (p + 3) := hex _ (by omega)
    have e4 : D1 (p + 4) = D (p + 4) := hex _ (by omega)
    have e5 : D1 (p + 5) = D (p + 5) := hex _ (by omega)
    rw [b2_7 hw]
    simp only [qI_0 HL, qR_1 HL, qR_3 HL, wi_some, e0, e1, e3, hE.1, oN_lt (show i < 2147483648 by omega) (show n < 2147483648 by omega), hi, if_true, qA_1 HL hi, qA_3 HL hi, h1, qO HL, true_and]
    have nxt : ∀ D2 x', Ex (p + 6) D1 D2 → (if decide (D (p + 1) i = kind) && holdsS (D (p + 4)) (D (p + 5)) (e i) (e (i + 1)) then x + D (p + 2) i else x) = x' → Wx (tP nx xs) (d + 1) 2 52 [some (.ref p), (some (.int (kind))), (some (.int (x'))), (some (.int (Int32.ofNat (e i)))), (some (.int (Int32.ofNat i)))] [] (mk sh D2) c s Q := by
      intro D2 x' hex2 hx
      have e3' : D2 (p + 3) = D (p + 3) := (hex2 _ (by omega)).trans e3
      simp only [b2_52 hw, qR_3 HL, wi_some, qA_3 HL hi, e3', h1, oN_add]
      have := k D2 (fun a ha => (hex2 a ha).trans (hex a ha))
      rw [hx] at this
      exact this
    by_cases hk : D (p + 1) i = kind
    · simp only [hk, if_true]
      refine k3 hw HL (by rw [e5]; exact hF) h2 (by rw [e4]; exact h3) ?_
      intro D2 hex2
      simp only [kN_v, Nat.add_zero, b2_39 hw, e4, e5]
      have e2' : D2 (p + 2) = D (p + 2) := (hex2 _ (by omega)).trans e2
      by_cases hh : holdsS (D (p + 4)) (D (p + 5)) (e i) (e (i + 1)) = true
      · simp only [hh, bo_t, show ¬ (Int32.ofNat 1 : Int32) = Int32.ofNat 0 by decide, if_false, qR_2 HL, wi_some, qA_2 HL hi, e2']
        exact nxt D2 _ hex2 (by simp only [hk, hh, decide_true, Bool.and_self, if_true])
      · have hh : holdsS (D (p + 4)) (D (p + 5)) (e i) (e (i + 1)) = false := by simpa using hh
        simp only [hh, bo_f, if_true]
        exact nxt D2 _ hex2 (by simp only [hh, Bool.and_false, Bool.false_eq_true, if_false])
    · simp only [hk, if_false]
      exact nxt D1 _ Ex.rf (by simp only [hk, decide_false, Bool.false_and, Bool.false_eq_true, if_false])
  · intro D' hex
    have e0 : D' p = D p := hex _ (by omega)
    rw [b2_7 hw]
    simp only [qI_0 HL, wi_some, e0, hE.1, oN_lt (show n < 2147483648 by omega) (show n < 2147483648 by omega), Nat.lt_irrefl, if_false]
    exact kk D' hex
/-- what the law looks at -/
def facV (V : sD) (ng g t : Nat) : Nat → Int32
  | 0 => Int32.ofNat g
  | 1 => V 6 g
  | 2 => V 9 g
  | 3 => V 10 g
  | 4 => Int32.ofNat t
  | 5 => bc (ridS V ng (Int32.ofNat t))
  | 6 => jrem (V 0 15) (Int32.ofNat 100)
  | 7 => bo (decide (¬ V 8 g = -1))
  | 8 => bo (decide (¬ V 7 g = -1))
  | 9 => bo (decide (¬ bc (ridS V ng (Int32.ofNat t)) < V 14 t))
  | _ => Int32.ofNat 0
theorem facV_B {V : sD} {ng g t : Nat} : facB (facV V ng g t) := by
  intro k h1 h2
  have hb : ∀ p : Bool, bo p = Int32.ofNat 0 ∨ bo p = Int32.ofNat 1 := fun p => by cases p <;> simp [bo]
  rcases (show k = 7 ∨ k = 8 ∨ k = 9 by omega) with e | e | e <;> subst e <;> exact hb _
theorem k1 {V : sD} {a nt ng nr nl g t : Nat} (hw : WT sh) (H : St sh a) (hV : Vw D a V) (I : Iv V nt ng nr nl) (HL : Lsh sh p n m) (hap : a + 17 ≤ p) (hg : g < ng) (ht : t < nr)
    (kk : ∀ D', Ex (p + 5) D D' → (∀ k, k < 10 → D' (p + 5) k = facV V ng g t k) → Q (.inl none) (mk sh D') c s) :
    Wx (tP nx xs) (d + 1) 1 0 [some (.ref p), some (.ref a), (some (.int (Int32.ofNat g))), (some (.int (Int32.ofNat t))), none] [] (mk sh D) c s Q := by
  have hg6 : g < 6 := by have := i_ng6 I; omega
  have ht5 : t < 5 := by have := i_nr5 I; omega
  have w0 : 0 < 10 := by decide
  have w1 : 1 < 10 := by decide
  have w2 : 2 < 10 := by decide
  have w3 : 3 < 10 := by decide
  have w4 : 4 < 10 := by decide
  have w5 : 5 < 10 := by decide
  have w6 : 6 < 10 := by decide
  have w7 : 7 < 10 := by decide
  have w8 : 8 < 10 := by decide
  have w9 : 9 < 10 := by decide
  have hne : ∀ k, k < 17 → a + k ≠ p + 5 := fun k hk => by omega
  have ne0 : ¬ a = p + 5 := by omega
  have ne6 : ¬ a + 6 = p + 5 := by omega
  have ne7 : ¬ a + 7 = p + 5 := by omega
  have ne8 : ¬ a + 8 = p + 5 := by omega
  have ne9 : ¬ a + 9 = p + 5 := by omega
  have ne10 : ¬ a + 10 = p + 5 := by omega
  have ne14 : ¬ a + 14 = p + 5 := by omega
  have key : ∀ x7 x8 x9, x7 = bo (decide (¬ V 8 g = -1)) → x8 = bo (decide (¬ V 7 g = -1)) → x9 = bo (decide (¬ bc (ridS V ng (Int32.ofNat t)) < V 14 t)) → Q (.inl none) (mk sh (u2 (u2 (u2 (u2 (u2 (u2 (u2 (u2 (u2 (u2 D (p + 5) 0 (Int32.ofNat g)) (p + 5) 1 (V 6 g)) (p + 5) 2 (V 9 g)) (p + 5) 3 (V 10 g)) (p + 5) 4 (Int32.ofNat t)) (p + 5) 5 (bc (ridS V ng (Int32.ofNat t)))) (p + 5) 6 (jrem (V 0 15) (Int32.ofNat 100))) (p + 5) 7 x7) (p + 5) 8 x8) (p + 5) 9 x9)) c s := by
    intro x7 x8 x9 h7 h8 h9
    refine kk _ (Ex.st (Ex.st (Ex.st (Ex.st (Ex.st (Ex.st (Ex.st (Ex.st (Ex.st (Ex.st Ex.rf)))))))))) ?_
    intro k hk
    rcases (show k = 0 ∨ k = 1 ∨ k = 2 ∨ k = 3 ∨ k = 4 ∨ k = 5 ∨ k = 6 ∨ k = 7 ∨ k = 8 ∨ k = 9 by omega) with e | e | e | e | e | e | e | e | e | e <;> subst e <;> simp [u2_self, facV, h7, h8, h9]
  simp only [b1_0 hw, b1_5 hw, b1_8 hw, b1_17 hw, b1_29 hw, b1_41 hw, b1_53 hw, b1_60 hw, b1_68 hw, b1_82 hw, b1_103 hw, b1_104 hw, b1_125 hw, b1_126 hw, b1_148 hw, b1_149 hw, sR_things H, sI_goers H, sF_goers H, sR_wish H, sR_deed H, sI_makers H, sF_makers H, sR_born H, sR_money H, sR_nerve H, sR_shuns H, sR_by H, sI_trains H, sF_trains H, sR_halts H, sR_seats H, sI_texts H, sF_texts H, sI_law H, sF_law H, sI_day H, sF_day H, sI_seed H, sF_seed H, sR_log H, sO_state H, sI_count H, sF_count H, sI_first H, sF_first H, sR_at H, sR_worth H, sR_makes H, sR_hinders H, sO_things H, sI_rows H, sF_rows H, sR_entries H, sO_log H, sA_2 H, sW_2 H, sA_3 H, sW_3 H, sA_4 H, sW_4 H, sA_5 H, sW_5 H, sA_6 H, sW_6 H, sA_7 H, sW_7 H, sA_8 H, sW_8 H, sA_9 H, sW_9 H, sA_10 H, sW_10 H, sA_11 H, sW_11 H, sA_12 H, sW_12 H, sA_13 H, sW_13 H, sA_14 H, sW_14 H, sA_16 H, sW_16 H, wi_some, or_0, or_1, bo_or, ite_boP, true_and, and_true, kN_v, kN_n, kT_v, kT_n, kT_e, Nat.add_zero, Nat.zero_add, k39 hw H hV I, k357 hw, qR_5 HL, qW_5 HL, w0, w1, w2, w3, w4, w5, w6, w7, w8, w9, tn0, tn1, tn2, tn3, tn4, tn5, tn6, tn7, tn8, tn9, u2_o, ne0, ne6, ne7, ne8, ne9, ne10, ne14, hg6, ht5, not_false_eq_true, v_0 hV, v_1 hV, v_2 hV, v_3 hV, v_4 hV, v_5 hV, v_6 hV, v_7 hV, v_8 hV, v_9 hV, v_10 hV, v_11 hV, v_12 hV, v_13 hV, v_14 hV, v_15 hV, v_16 hV]
  by_cases h8 : V 8 g = -1 <;> by_cases h7 : V 7 g = -1 <;> by_cases h9 : bc (ridS V ng (Int32.ofNat t)) < V 14 t <;> simp only [h8, h7, h9, if_true, if_false] <;> refine key _ _ _ ?_ ?_ ?_ <;> simp only [h8, h7, h9, not_true_eq_false, not_false_eq_true, decide_true, decide_false, bo_t, bo_f]
end C41
