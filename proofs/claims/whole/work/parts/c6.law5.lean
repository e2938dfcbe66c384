/-! ===== a new THE LAW in the class ===== -/
def okT (tl : List sC) : Prop := ∀ x, x ∈ tl → ∃ t n, x = .inl (t, n)
def Nw (sh : List sC) (fs : List Nat) (tl : List sC) : List sC := sh ++ (.inr (0, fs) :: tl)
theorem okT.ap {tl : List sC} {t n : Nat} (h : okT tl) : okT (tl ++ [.inl (t, n)]) := fun x hx => by
  rcases List.mem_append.mp hx with h1 | h1
  · exact h x h1
  · rw [List.mem_singleton] at h1; exact ⟨t, n, h1⟩
theorem okT.nil : okT [] := fun x hx => (by cases hx)
theorem Nw_len {sh : List sC} {fs : List Nat} {tl : List sC} : (Nw sh fs tl).length = sh.length + 1 + tl.length := by
  unfold Nw; rw [List.length_append, List.length_cons]; omega
theorem Nw_ap {sh : List sC} {fs : List Nat} {tl : List sC} {x : sC} : Nw sh fs tl ++ [x] = Nw sh fs (tl ++ [x]) := by
  unfold Nw; simp only [List.append_assoc, List.cons_append]
theorem Nw_at {sh : List sC} {fs : List Nat} {tl : List sC} : (Nw sh fs tl)[sh.length]? = some (.inr (0, fs)) := by
  unfold Nw; simp
theorem Nw_tl {sh : List sC} {fs : List Nat} {tl : List sC} {k : Nat} : (Nw sh fs tl)[sh.length + (k + 1)]? = tl[k]? := by
  unfold Nw
  rw [List.getElem?_append_right (by omega), show sh.length + (k + 1) - sh.length = k + 1 by omega]
  rfl
theorem Nw_old {sh : List sC} {fs : List Nat} {tl : List sC} {a : Nat} (h : a < sh.length) : (Nw sh fs tl)[a]? = sh[a]? := by
  unfold Nw; rw [List.getElem?_append_left h]
theorem Nw_set {sh : List sC} {fs fs' : List Nat} {tl : List sC} : List.set (Nw sh fs tl) sh.length (.inr (0, fs')) = Nw sh fs' tl := by
  unfold Nw; simp
theorem Nw_SP {sh : List sC} {fs : List Nat} {tl : List sC} (h : SP sh) : SP (Nw sh fs tl) := by
  obtain ⟨r, rfl⟩ := h
  exact ⟨r ++ (.inr (0, fs) :: tl), by unfold Nw; rw [List.append_assoc]⟩
theorem qk7 : qk 0 = 0 ∧ qk 1 = 2 ∧ qk 2 = 2 ∧ qk 3 = 2 ∧ qk 4 = 2 ∧ qk 5 = 2 ∧ qk 6 = 2 := by decide
theorem okF7 {a b c d e g : Nat} : ∀ (k f : Nat), [0, a, b, c, d, e, g][k]? = some f → (qk k = 0 → f = 0) ∧ (qk k = 1 → f = 1) := by
  obtain ⟨q0, q1, q2, q3, q4, q5, q6⟩ := qk7
  intro k f h
  match k with
  | 0 => simp at h; subst h; exact ⟨fun _ => rfl, fun h => (by rw [q0] at h; cases h)⟩
  | 1 => exact ⟨fun h => (by rw [q1] at h; cases h), fun h => (by rw [q1] at h; cases h)⟩
  | 2 => exact ⟨fun h => (by rw [q2] at h; cases h), fun h => (by rw [q2] at h; cases h)⟩
  | 3 => exact ⟨fun h => (by rw [q3] at h; cases h), fun h => (by rw [q3] at h; cases h)⟩
  | 4 => exact ⟨fun h => (by rw [q4] at h; cases h), fun h => (by rw [q4] at h; cases h)⟩
  | 5 => exact ⟨fun h => (by rw [q5] at h; cases h), fun h => (by rw [q5] at h; cases h)⟩
  | 6 => exact ⟨fun h => (by rw [q6] at h; cases h), fun h => (by rw [q6] at h; cases h)⟩
  | k + 7 => simp at h
theorem Nw_ob {sh : List sC} {fs : List Nat} {tl : List sC} (ht : okT tl) {a ci : Nat} {fs' : List Nat} (h : (Nw sh fs tl)[a]? = some (Sum.inr (ci, fs'))) : sh[a]? = some (Sum.inr (ci, fs')) ∨ (ci = 0 ∧ fs' = fs) := by
  by_cases ha : a < sh.length
  · rw [Nw_old ha] at h; exact Or.inl h
  · by_cases ha2 : a = sh.length
    · rw [ha2, Nw_at] at h; cases h; exact Or.inr ⟨rfl, rfl⟩
    · rw [show a = sh.length + ((a - sh.length - 1) + 1) by omega, Nw_tl] at h
      obtain ⟨t, n, e⟩ := ht _ (List.mem_of_getElem? h)
      cases e
theorem Nw_W1 {sh : List sC} {tl : List sC} {a b c d e g : Nat} (hw : WT1 sh) (ht : okT tl) : WT1 (Nw sh [0, a, b, c, d, e, g] tl) := by
  intro x ci fs h k f hk
  rcases Nw_ob ht h with h | ⟨h1, h2⟩
  · exact hw x ci fs h k f hk
  · subst h1 h2
    have := okF7 k f hk
    rw [Nat.zero_mul, Nat.zero_add]
    exact ⟨this.1, this.2, fun _ h => absurd rfl h⟩
theorem Nw_WT {sh : List sC} {tl : List sC} {a b c d e g : Nat} (hw : WT sh) (ht : okT tl) : WT (Nw sh [0, a + 3, b + 3, c + 3, d + 3, e + 3, g + 3] tl) := by
  refine ⟨Nw_W1 hw.1 ht, fun x fs h k f hk hq => ?_⟩
  rcases Nw_ob ht h with h | ⟨h1, h2⟩
  · exact hw.2 x fs h k f hk hq
  · subst h2
    obtain ⟨q0, _⟩ := qk7
    match k with
    | 0 => rw [q0] at hq; cases hq
    | 1 => simp at hk; omega
    | 2 => simp at hk; omega
    | 3 => simp at hk; omega
    | 4 => simp at hk; omega
    | 5 => simp at hk; omega
    | 6 => simp at hk; omega
    | k + 7 => simp at hk
theorem gS_of {sh : List sC} {a q : Nat} {fs : List Nat} (h : sh[a]? = some (Sum.inr (0, fs))) (h1 : q / 64 = 0) (h2 : q % 64 < fs.length) : gS sh a q = some fs := by
  unfold gS; rw [h]; simp only; rw [if_pos ⟨h1.symm, h2⟩]
theorem aN_get {sh : List sC} {t a n : Nat} (h : aN sh t a = some n) : sh[a]? = some (Sum.inl (t, n)) := by
  unfold aN at h
  split at h
  · next t' n' e =>
    split at h
    · next e2 => cases h; rw [e, e2]
    · cases h
  · cases h
section CC6
variable {nx : Nat} {xs : Nat → Int32} {d c s : Nat} {sh : List sC} {D : sD} {Q : av_Q}
theorem k359 {a N n q : Nat} {l2 : Option Value} (hw : WT1 sh) (ha : aN sh 0 a = some N) (hN : N ≤ 400) (hn : n ≤ N) (hq : sh.length = q)
    (kk : ∀ D', (∀ e, e ≠ q → D' e = D e) → (∀ i, i < n → D' q i = D a i) → Q (.inl (some (.ref q))) (mk (sh ++ [.inl (0, n)]) D') (c + 1) (s + n)) :
    Wx (tP nx xs) d 359 0 [some (.ref a), (some (.int (Int32.ofNat n))), l2] [] (mk sh D) c s Q := by
  have g := aN_get ha
  have lt := lt_of_get g
  have tn := oN_tn (show n < 2147483648 by omega)
  have w2 : WT1 (sh ++ [.inl (0, n)]) := by
    intro x ci fs h k f hk
    by_cases hx : x < sh.length
    · rw [List.getElem?_append_left hx] at h; exact hw x ci fs h k f hk
    · rw [List.getElem?_append_right (by omega)] at h
      have := List.mem_of_getElem? h
      rw [List.mem_singleton] at this
      cases this
  have nq : (sh ++ [.inl (0, n)] : List sC)[q]? = some (.inl (0, n)) := by rw [← hq]; simp
  rw [b359_0 hw, aL_of g (by decide)]
  simp only [wi_some, or_0, or_1, bo_or, ite_boP, true_and, and_true, kN_v, kN_n, kT_v, kT_n, kT_e, Nat.add_zero, Nat.zero_add, oN_eq (show n < 2147483648 by omega) (show N < 2147483648 by omega)]
  by_cases h : n = N
  · subst h
    simp only [if_true, ha, wi_some, or_0, or_1, bo_or, ite_boP, true_and, and_true, kN_v, kN_n, kT_v, kT_n, kT_e, Nat.add_zero, Nat.zero_add, hq]
    refine ⟨by omega, ?_⟩
    rw [b359_10 w2, aN_of nq]
    simp only [wi_some, or_0, or_1, bo_or, ite_boP, true_and, and_true, kN_v, kN_n, kT_v, kT_n, kT_e, Nat.add_zero, Nat.zero_add]
    exact kk _ (fun e he => by unfold cl2; funext i; rw [if_neg he]) (fun i _ => by unfold cl2; rw [if_pos rfl])
  · have nn : ¬ Int32.ofNat n < 0 := by rw [show (0 : Int32) = Int32.ofNat 0 from rfl, oN_lt (by omega) (by decide)]; omega
    have em : mn (Int32.ofNat N) (Int32.ofNat n) = Int32.ofNat n := by unfold mn; rw [if_pos (by rw [oN_lt (by omega) (by omega)]; omega)]
    have ag : (sh ++ [.inl (0, n)] : List sC)[a]? = some (.inl (0, N)) := ap_old g
    have o0 := oN_tn (show 0 < 2147483648 by decide)
    simp only [h, if_false, tn, hq]
    refine ⟨⟨nn, by omega⟩, ?_⟩
    rw [b359_17 w2, aL_of ag (by decide)]
    simp only [wi_some, or_0, or_1, bo_or, ite_boP, true_and, and_true, kN_v, kN_n, kT_v, kT_n, kT_e, Nat.add_zero, Nat.zero_add, em, tn, o0]
    rw [oC_of (aN_of ag) (aN_of nq) (by omega) (by omega) (by omega) (by omega), b359_31 w2]
    refine ⟨rfl, kk _ (fun e he => ?_) (fun i hi => ?_)⟩
    · funext i
      unfold cp2 clr
      rw [if_neg (by omega), if_neg he]
    · unfold cp2 clr
      rw [if_pos ⟨rfl, by omega, by omega⟩, if_neg (by omega), show 0 + (i - 0) = i by omega]
def LB (p n m : Nat) : List sC := [.inl (0, n), .inl (0, n), .inl (0, n), .inl (0, m), .inl (0, 10), .inl (0, 32)]
def LF (p : Nat) : List Nat := [0, p + 1 + 3, p + 2 + 3, p + 3 + 3, p + 4 + 3, p + 5 + 3, p + 6 + 3]
theorem k5 {n m p : Nat} (hw : WT1 sh) (HS : SP sh) (h0 : D 260 0 = Int32.ofNat n) (h1 : D 260 1 = Int32.ofNat m) (hn : n ≤ 12) (hm : m ≤ 400) (hp : sh.length = p)
    (kk : ∀ D', (∀ e, e < p → D' e = D e) → D' p 0 = Int32.ofNat n → (∀ i, i < n → D' (p + 1) i = D 261 i) → (∀ i, i < n → D' (p + 2) i = D 262 i) → (∀ i, i < n → D' (p + 3) i = D 263 i) → (∀ i, i < m → D' (p + 4) i = D 264 i) → Q (.inl (some (.ref p))) (mk (Nw sh (LF p) (LB p n m)) D') (c + 7) (s + (49 + 3 * n + m))) :
    Wx (tP nx xs) (d + 1) 5 0 [some (.ref 260)] [] (mk sh D) c s Q := by
  have h3 := HS.len
  rw [b5_0 hw, hp]
  have e1 : ∀ e, e < p → clr D p e = D e := fun e he => by unfold clr; funext i; rw [if_neg (by omega)]
  have f1 : sh ++ [.inr (0, [0, 2, 2, 2, 2, 2, 2])] = Nw sh [0, 2, 2, 2, 2, 2, 2] [] := rfl
  rw [f1]
  generalize clr D p = D1 at *
  have s1 : SP (Nw sh [0, 2, 2, 2, 2, 2, 2] []) := Nw_SP HS
  have w1 : WT1 (Nw sh [0, 2, 2, 2, 2, 2, 2] []) := Nw_W1 hw okT.nil
  simp only [b5_3 w1, lI_lines s1, lF_lines s1, lI_signs s1, lF_signs s1, lR_kinds s1, lR_amounts s1, lR_ends s1, lR_code s1, lO s1, lA_261 s1, lW_261 s1, lA_262 s1, lW_262 s1, lA_263 s1, lW_263 s1, lA_264 s1, lW_264 s1, wi_some, or_0, or_1, bo_or, ite_boP, true_and, and_true, kN_v, kN_n, kT_v, kT_n, kT_e, Nat.add_zero, Nat.zero_add, e1 260 (by omega), h0]
  refine k359 w1 (lN_261 s1) (by decide) hn (show _ = p + 1 by rw [Nw_len, hp]; rfl) ?_
  intro D2 a2 r2
  have t2 : okT ([] ++ [.inl (0, n)]) := okT.nil.ap
  rw [Nw_ap]
  have s2 : SP (Nw sh [0, 2, 2, 2, 2, 2, 2] ([] ++ [.inl (0, n)])) := Nw_SP HS
  have w2 : WT1 (Nw sh [0, 2, 2, 2, 2, 2, 2] ([] ++ [.inl (0, n)])) := Nw_W1 hw t2
  have e2 : ∀ e, e < p → D2 e = D e := fun e he => by rw [a2 e (by omega), e1 e he]
  simp only [wi_some, or_0, or_1, bo_or, ite_boP, true_and, and_true, kN_v, kN_n, kT_v, kT_n, kT_e, Nat.add_zero, Nat.zero_add, b5_19 w2, lI_lines s2, lF_lines s2, lI_signs s2, lF_signs s2, lR_kinds s2, lR_amounts s2, lR_ends s2, lR_code s2, lO s2, lA_261 s2, lW_261 s2, lA_262 s2, lW_262 s2, lA_263 s2, lW_263 s2, lA_264 s2, lW_264 s2, e2 260 (by omega), h0]
  refine k359 w2 (lN_262 s2) (by decide) hn (show _ = p + 2 by rw [Nw_len, hp]; rfl) ?_
  intro D3 a3 r3
  have t3 := t2.ap (t := 0) (n := n)
  rw [Nw_ap]
  have s3 : SP (Nw sh [0, 2, 2, 2, 2, 2, 2] ([] ++ [.inl (0, n)] ++ [.inl (0, n)])) := Nw_SP HS
  have w3 : WT1 (Nw sh [0, 2, 2, 2, 2, 2, 2] ([] ++ [.inl (0, n)] ++ [.inl (0, n)])) := Nw_W1 hw t3
  have e3 : ∀ e, e < p → D3 e = D e := fun e he => by rw [a3 e (by omega), e2 e he]
  simp only [wi_some, or_0, or_1, bo_or, ite_boP, true_and, and_true, kN_v, kN_n, kT_v, kT_n, kT_e, Nat.add_zero, Nat.zero_add, b5_30 w3, lI_lines s3, lF_lines s3, lI_signs s3, lF_signs s3, lR_kinds s3, lR_amounts s3, lR_ends s3, lR_code s3, lO s3, lA_261 s3, lW_261 s3, lA_262 s3, lW_262 s3, lA_263 s3, lW_263 s3, lA_264 s3, lW_264 s3, e3 260 (by omega), h0]
  refine k359 w3 (lN_263 s3) (by decide) hn (show _ = p + 3 by rw [Nw_len, hp]; rfl) ?_
  intro D4 a4 r4
  have t4 := t3.ap (t := 0) (n := n)
  rw [Nw_ap]
  have s4 : SP (Nw sh [0, 2, 2, 2, 2, 2, 2] ([] ++ [.inl (0, n)] ++ [.inl (0, n)] ++ [.inl (0, n)])) := Nw_SP HS
  have w4 : WT1 (Nw sh [0, 2, 2, 2, 2, 2, 2] ([] ++ [.inl (0, n)] ++ [.inl (0, n)] ++ [.inl (0, n)])) := Nw_W1 hw t4
  have e4 : ∀ e, e < p → D4 e = D e := fun e he => by rw [a4 e (by omega), e3 e he]
  simp only [wi_some, or_0, or_1, bo_or, ite_boP, true_and, and_true, kN_v, kN_n, kT_v, kT_n, kT_e, Nat.add_zero, Nat.zero_add, b5_41 w4, lI_lines s4, lF_lines s4, lI_signs s4, lF_signs s4, lR_kinds s4, lR_amounts s4, lR_ends s4, lR_code s4, lO s4, lA_261 s4, lW_261 s4, lA_262 s4, lW_262 s4, lA_263 s4, lW_263 s4, lA_264 s4, lW_264 s4, e4 260 (by omega), h1]
  refine k359 w4 (lN_264 s4) (by decide) hm (show _ = p + 4 by rw [Nw_len, hp]; rfl) ?_
  intro D5 a5 r5
  have t5 := t4.ap (t := 0) (n := m)
  rw [Nw_ap]
  have e5 : ∀ e, e < p → D5 e = D e := fun e he => by rw [a5 e (by omega), e4 e he]
  have R1 : ∀ i, i < n → D5 (p + 1) i = D 261 i := fun i hi => by rw [a5 _ (by omega), a4 _ (by omega), a3 _ (by omega), r2 i hi, e1 _ (by omega)]
  have R2 : ∀ i, i < n → D5 (p + 2) i = D 262 i := fun i hi => by rw [a5 _ (by omega), a4 _ (by omega), r3 i hi, e2 _ (by omega)]
  have R3 : ∀ i, i < n → D5 (p + 3) i = D 263 i := fun i hi => by rw [a5 _ (by omega), r4 i hi, e3 _ (by omega)]
  have R4 : ∀ i, i < m → D5 (p + 4) i = D 264 i := fun i hi => by rw [r5 i hi, e4 _ (by omega)]
  generalize hT : ([] ++ [.inl (0, n)] ++ [.inl (0, n)] ++ [.inl (0, n)] ++ [.inl (0, m)] : List sC) = T at *
  have lT5 : T.length = 4 := by rw [← hT]; rfl
  have w5 : ∀ {a b c d e g : Nat}, WT1 (Nw sh [0, a, b, c, d, e, g] T) := Nw_W1 hw t5
  have n10 : ¬ (Int32.ofNat 10 : Int32) < 0 := by decide
  have n32 : ¬ (Int32.ofNat 32 : Int32) < 0 := by decide
  have tn10 : (Int32.ofNat 10 : Int32).toNatClampNeg = 10 := by decide
  have tn32 : (Int32.ofNat 32 : Int32).toNatClampNeg = 32 := by decide
  simp only [wi_some, or_0, or_1, bo_or, ite_boP, true_and, and_true, kN_v, kN_n, kT_v, kT_n, kT_e, Nat.add_zero, Nat.zero_add, b5_52 w5, b0_0 w5, n10, tn10, not_false_eq_true, show 10 ≤ 60000 by decide, Nw_ap]
  have t6 := t5.ap (t := 0) (n := 10)
  have lT6 : (T ++ [.inl (0, 10)] : List sC).length = 5 := by rw [List.length_append, lT5]; rfl
  have w6 : ∀ {a b c d e g : Nat}, WT1 (Nw sh [0, a, b, c, d, e, g] (T ++ [.inl (0, 10)])) := Nw_W1 hw t6
  have t7 := t6.ap (t := 0) (n := 32)
  have w7 : ∀ {a b c d e g : Nat}, WT1 (Nw sh [0, a, b, c, d, e, g] (T ++ [.inl (0, 10)] ++ [.inl (0, 32)])) := Nw_W1 hw t7
  have gs : ∀ {a b c d e g q : Nat} {tl : List sC}, q < 7 → gS (Nw sh [0, a, b, c, d, e, g] tl) p q = some [0, a, b, c, d, e, g] := fun {a b c d e g q tl} h => gS_of (by rw [← hp]; exact Nw_at) (by omega) (by show _ < 7; omega)
  have st : ∀ {fs fs' : List Nat} {tl : List sC}, List.set (Nw sh fs tl) p (.inr (0, fs')) = Nw sh fs' tl := by rw [← hp]; exact Nw_set
  have oF0 : ∀ {a b c d e g : Nat} {tl : List sC}, oF (Nw sh [0, a, b, c, d, e, g] tl) p 0 = true := fun {a b c d e g tl} => oF_of (by rw [← hp]; exact Nw_at) rfl (by show 0 < 7; decide)
  have l5 : ∀ {fs : List Nat}, (Nw sh fs T).length = p + 5 := by intro fs; rw [Nw_len, hp, lT5]
  have l6 : ∀ {fs : List Nat}, (Nw sh fs (T ++ [.inl (0, 10)])).length = p + 6 := by intro fs; rw [Nw_len, hp, lT6]
  simp only [l5, b0_9 w6, gs (show 5 < 7 by decide), wi_some, or_0, or_1, bo_or, ite_boP, true_and, and_true, kN_v, kN_n, kT_v, kT_n, kT_e, Nat.add_zero, Nat.zero_add, st, List.set, b0_12 w6, n32, tn32, not_false_eq_true, show 32 ≤ 60000 by decide, Nw_ap, l6, b0_17 w7, gs (show 6 < 7 by decide), b0_20 w7, oF0, b0_25 w7, gs (show 1 < 7 by decide), b0_30 w7, gs (show 2 < 7 by decide), b0_35 w7, gs (show 3 < 7 by decide), b0_41 w7, gs (show 4 < 7 by decide), b0_47 w7, b5_55 w7]
  have kk := kk (u2 (clr (clr D5 (p + 5)) (p + 6)) p 0 (Int32.ofNat n))
  have rd : ∀ e i, e < p + 5 → ¬ (e = p ∧ i = 0) → u2 (clr (clr D5 (p + 5)) (p + 6)) p 0 (Int32.ofNat n) e i = D5 e i := fun e i h h' => by
    rw [u2_at, if_neg h']
    unfold clr
    rw [if_neg (by omega), if_neg (by omega)]
  have kk := kk (fun e he => by funext i; rw [rd e i (by omega) (by omega), e5 e he]) (by rw [u2_at, if_pos ⟨rfl, rfl⟩]) (fun i hi => by rw [rd _ i (by omega) (by omega)]; exact R1 i hi) (fun i hi => by rw [rd _ i (by omega) (by omega)]; exact R2 i hi) (fun i hi => by rw [rd _ i (by omega) (by omega)]; exact R3 i hi) (fun i hi => by rw [rd _ i (by omega) (by omega)]; exact R4 i hi)
  rw [show LB p n m = T ++ [.inl (0, 10)] ++ [.inl (0, 32)] by rw [← hT]; rfl] at kk
  have ec : c + 1 + 1 + 1 + 1 + 1 + (1 + 1) = c + 7 := by omega
  have es : s + 7 + n + n + n + m + (10 + 32) = s + (49 + 3 * n + m) := by omega
  rw [ec, es]
  exact kk
end CC6
