/-! ===== texts of THE LAW: the class reads (2) ===== -/
section CC4
variable {nx : Nat} {xs : Nat → Int32} {sh : List sC}
/-- what a method that reads a truth does: at e deep, told by A -/
def RdC (nx : Nat) (xs : Nat → Int32) (sh : List sC) (b : Nat → Nat) (n δ mi e : Nat) (tl : List (Option Value)) (A : Nat → List Int32 → pR) : Prop := ∀ (p : Nat) (cs : List Int32) (D : sD) (c s : Nat) (Q : av_Q), LC b n D p cs →
    (∀ f D', A p cs = .inl f → FL D D' → D' 1 2 = Int32.ofNat f → Q (.inl (some (.int (Int32.ofNat 0)))) (mk sh D') c s) →
    (∀ p' c' D', A p cs = .inr (p', c') → FL D D' → LC b n D' p' c' → Q (.inl (some (.int (Int32.ofNat 1)))) (mk sh D') c s) →
    Wx (tP nx xs) δ mi 0 ([some (.ref 260), some (.ref 1), (some (.int (Int32.ofNat e)))] ++ tl) [] (mk sh D) c s Q
variable {b : Nat → Nat} {n : Nat}
def rB (b : Nat → Nat) (n : Nat) (A : Nat → List Int32 → pR) (bO : Bool) (x : pR) : pR := match x with
  | .inl f => .inl f
  | .inr (p2, c2) => moO b n A 400 p2 (if bO then c2 ++ [Int32.ofNat 1015] else c2)
def rA (b : Nat → Nat) (n : Nat) (A : Nat → List Int32 → pR) (bA bO : Bool) (p : Nat) (cs : List Int32) : pR := match A p cs with
  | .inl f => .inl f
  | .inr (p1, c1) => rB b n A bO (moA b n A 400 p1 (if bA then c1 ++ [Int32.ofNat 1014] else c1))
theorem co_rA {A : Nat → List Int32 → pR} {p : Nat} {cs : List Int32} : coS b n A p cs = rA b n A false false p cs := by
  unfold coS alS rA rB
  cases A p cs with
  | inl f => rfl
  | inr x =>
    obtain ⟨p1, c1⟩ := x
    simp only [Bool.false_eq_true, if_false]
    cases moA b n A 400 p1 c1 <;> rfl
theorem k9 {δ e h : Nat} {A : Nat → List Int32 → pR} (hw : WT sh) (HS : SP sh) (tb : TB b n) (he : e < 100) (g : Gd b n (h + 2) A) (hA : RdC nx xs sh b n (δ + 2) 10 e [none, none] A) : RdC nx xs sh b n (δ + 3) 9 e [none, none, none] (coS b n A) := by
  intro p0 cs0 D c s Q lc kf ky
  have n10 : ¬ (Int32.ofNat 1 : Int32) = Int32.ofNat 0 := by decide
  have hn := tb.1
  show Wx (tP nx xs) (δ + 3) 9 0 [some (.ref 260), some (.ref 1), (some (.int (Int32.ofNat e))), none, none, none] [] (mk sh D) c s Q
  simp only [b9_0 hw]
  have lp : ∀ r (j : Nat) p cs (bA bO : Bool) D1, n - p < r → FL D D1 → TpC b n D1 p → LQ D1 cs → cs.length + 3 + (if bA then 1 else 0) + (if bO then 1 else 0) ≤ p → p ≤ n → j + 3 ≤ p →
      (∀ f D', rA b n A bA bO p cs = .inl f → FL D D' → D' 1 2 = Int32.ofNat f → Q (.inl (some (.int (Int32.ofNat 0)))) (mk sh D') c s) →
      (∀ p' c' D', rA b n A bA bO p cs = .inr (p', c') → FL D D' → TpC b n D' p' → LQ D' c' → Q (.inl (some (.int (Int32.ofNat 1)))) (mk sh D') c s) →
      Wx (tP nx xs) (δ + 3) 9 8 [some (.ref 260), some (.ref 1), (some (.int (Int32.ofNat e))), (some (.int (bo bA))), (some (.int (bo bO))), (some (.int (Int32.ofNat j)))] [] (mk sh D1) c s Q := by
    intro r
    induction r with
    | zero => intro j p cs bA bO D1 h; omega
    | succ r ih =>
      intro j p cs bA bO D1 hr f1 t1 q1 hb hp hj kf ky
      have hj4 : j < 400 := by omega
      rw [b9_8 hw]
      simp only [oN_lt (show j < 2147483648 by omega) (show 400 < 2147483648 by omega), hj4, if_true, lI_lines HS, lF_lines HS, lI_signs HS, lF_signs HS, lR_kinds HS, lR_amounts HS, lR_ends HS, lR_code HS, lO HS, lA_261 HS, lW_261 HS, lA_262 HS, lW_262 HS, lA_263 HS, lW_263 HS, lA_264 HS, lW_264 HS, wi_some, or_0, or_1, bo_or, ite_boP, true_and, and_true, kN_v, kN_n, kT_v, kT_n, kT_e, Nat.add_zero, Nat.zero_add]
      refine hA p cs D1 0 0 _ ⟨t1, q1, by omega, hp⟩ ?_ ?_
      · intro f D2 hP g2 e2
        simp only [wi_some, or_0, or_1, bo_or, ite_boP, true_and, and_true, kN_v, kN_n, kT_v, kT_n, kT_e, Nat.add_zero, Nat.zero_add, b9_22 hw, if_true]
        exact kf f D2 (by unfold rA; rw [hP]) (f1.tr g2) e2
      intro p1 c1 D2 hP g2 lc2
      obtain ⟨a1, a2, a0, new, a3, a4, _⟩ := g p cs hp p1 c1 hP
      have l1 : c1.length + 3 + (if bA then 1 else 0) + (if bO then 1 else 0) ≤ p1 := by rw [a3, List.length_append]; omega
      have eR : rA b n A bA bO p cs = rB b n A bO (moA b n A 400 p1 (if bA then c1 ++ [Int32.ofNat 1014] else c1)) := by unfold rA; rw [hP]
      rw [eR] at kf ky
      -- behind an atom, with what it closes told
      have aft : ∀ D3 c3, FL D D3 → TpC b n D3 p1 → LQ D3 c3 → c3 = (if bA then c1 ++ [Int32.ofNat 1014] else c1) → c3.length + 3 + (if bO then 1 else 0) ≤ p1 → Wx (tP nx xs) (δ + 3) 9 38 [some (.ref 260), some (.ref 1), (some (.int (Int32.ofNat e))), (some (.int (bo bA))), (some (.int (bo bO))), (some (.int (Int32.ofNat j)))] [] (mk sh D3) c s Q := by
        intro D3 c3 f3 t3 q3 e3 l3
        rw [← e3] at kf ky
        have eM : moA b n A 400 p1 c3 = (match wrd b n wAnd p1 with
          | none => .inr (p1, c3)
          | some p2 => match A p2 c3 with
            | .inl f => .inl f
            | .inr (p4, c4) => moA b n A 399 p4 (c4 ++ [Int32.ofNat 1014])) := rfl
        simp only [b9_38 hw, pR_bytes HS, pI_length HS, pF_length HS, pI_place HS, pF_place HS, pI_number HS, pF_number HS, pI_textLength HS, pF_textLength HS, pI_begin HS, pF_begin HS, pO HS, pA_2 HS, pW_2 HS, wi_some, or_0, or_1, bo_or, ite_boP, true_and, and_true, kN_v, kN_n, kT_v, kT_n, kT_e, Nat.add_zero, Nat.zero_add]
        refine k70 (i := 19) (w := wAnd) hw HS tb t3 a2 (by decide) (by decide +kernel) (by decide +kernel) ?_ ?_
        · intro p2 D4 hW f4 t4 e43 e45
          obtain ⟨_, _, s1, s2, _⟩ := wrd_some hW a2
          have s1 : p1 + 3 ≤ p2 := s1
          have eN : rB b n A bO (moA b n A 400 p1 c3) = rA b n A true bO p2 c3 := by
            rw [eM, hW]
            unfold rA
            simp only
            cases hP2 : A p2 c3 with
            | inl f => rfl
            | inr x =>
              obtain ⟨p4, c4⟩ := x
              obtain ⟨b1, b2, _⟩ := g p2 c3 s2 p4 c4 hP2
              simp only [if_true]
              rw [moA_k g 399 400 p4 _ b2 (by omega) (by omega)]
          rw [eN] at kf ky
          simp only [wi_some, or_0, or_1, bo_or, ite_boP, true_and, and_true, kN_v, kN_n, kT_v, kT_n, kT_e, Nat.add_zero, Nat.zero_add, b9_44 hw, n10, if_false, b9_76 hw, oN_add]
          exact ih (j + 1) p2 c3 true bO D4 (by omega) (f3.tr f4.fl) t4 (q3.f1 f4) (by simp only [if_true]; omega) s2 (by omega) kf ky
        · intro hW
          have eN : rB b n A bO (moA b n A 400 p1 c3) = moO b n A 400 p1 (if bO then c3 ++ [Int32.ofNat 1015] else c3) := by
            rw [eM, hW]
            rfl
          rw [eN] at kf ky
          simp only [wi_some, or_0, or_1, bo_or, ite_boP, true_and, and_true, kN_v, kN_n, kT_v, kT_n, kT_e, Nat.add_zero, Nat.zero_add, b9_44 hw, if_true]
          have go : ∀ D4 c4, FL D D4 → TpC b n D4 p1 → LQ D4 c4 → c4 = (if bO then c3 ++ [Int32.ofNat 1015] else c3) → c4.length + 3 ≤ p1 → Wx (tP nx xs) (δ + 3) 9 61 [some (.ref 260), some (.ref 1), (some (.int (Int32.ofNat e))), (some (.int (Int32.ofNat 0))), (some (.int (bo bO))), (some (.int (Int32.ofNat j)))] [] (mk sh D4) c s Q := by
            intro D4 c4 f4 t4 q4 e4 l4
            rw [← e4] at kf ky
            have eO : moO b n A 400 p1 c4 = (match wrd b n wOr p1 with
              | none => .inr (p1, c4)
              | some p2 => match alS b n A p2 c4 with
                | .inl f => .inl f
                | .inr (p5, c5) => moO b n A 399 p5 (c5 ++ [Int32.ofNat 1015])) := rfl
            simp only [b9_61 hw, pR_bytes HS, pI_length HS, pF_length HS, pI_place HS, pF_place HS, pI_number HS, pF_number HS, pI_textLength HS, pF_textLength HS, pI_begin HS, pF_begin HS, pO HS, pA_2 HS, pW_2 HS, wi_some, or_0, or_1, bo_or, ite_boP, true_and, and_true, kN_v, kN_n, kT_v, kT_n, kT_e, Nat.add_zero, Nat.zero_add]
            refine k70 (i := 20) (w := wOr) hw HS tb t4 a2 (by decide) (by decide +kernel) (by decide +kernel) ?_ ?_
            · intro p2 D5 hW2 f5 t5 e53 e55
              obtain ⟨_, _, s1, s2, _⟩ := wrd_some hW2 a2
              have s1 : p1 + 2 ≤ p2 := s1
              have eP : moO b n A 400 p1 c4 = rA b n A false true p2 c4 := by
                rw [eO, hW2]
                unfold rA
                simp only
                cases hP2 : alS b n A p2 c4 with
                | inl f =>
                  unfold alS at hP2
                  cases hP3 : A p2 c4 with
                  | inl f' => rw [hP3] at hP2; cases hP2; rfl
                  | inr x =>
                    obtain ⟨p5, c5⟩ := x
                    rw [hP3] at hP2
                    simp only at hP2
                    simp only [Bool.false_eq_true, if_false]
                    rw [hP2]
                    rfl
                | inr x =>
                  obtain ⟨p6, c6⟩ := x
                  obtain ⟨b1, b2, _⟩ := alS_gd (h := h + 1) g p2 c4 s2 p6 c6 hP2
                  unfold alS at hP2
                  cases hP3 : A p2 c4 with
                  | inl f' => rw [hP3] at hP2; cases hP2
                  | inr x =>
                    obtain ⟨p5, c5⟩ := x
                    rw [hP3] at hP2
                    simp only at hP2
                    simp only [Bool.false_eq_true, if_false]
                    rw [hP2]
                    show _ = moO b n A 400 p6 (if true then c6 ++ [Int32.ofNat 1015] else c6)
                    rw [if_pos rfl]
                    exact moO_k (h := h + 1) g 399 400 p6 _ b2 (by omega) (by omega)
              rw [eP] at kf ky
              simp only [wi_some, or_0, or_1, bo_or, ite_boP, true_and, and_true, kN_v, kN_n, kT_v, kT_n, kT_e, Nat.add_zero, Nat.zero_add, b9_67 hw, n10, if_false, b9_76 hw, oN_add]
              exact ih (j + 1) p2 c4 false true D5 (by omega) (f4.tr f5.fl) t5 (q4.f1 f5) (by simp only [if_true, Bool.false_eq_true, if_false]; omega) s2 (by omega) kf ky
            · intro hW2
              rw [eO, hW2] at ky
              simp only [wi_some, or_0, or_1, bo_or, ite_boP, true_and, and_true, kN_v, kN_n, kT_v, kT_n, kT_e, Nat.add_zero, Nat.zero_add, b9_67 hw, if_true]
              exact ky p1 c4 D4 rfl f4 t4 q4
          cases bO with
          | true =>
            simp only [if_true] at l3
            simp only [bo_t, n10, if_false, lI_lines HS, lF_lines HS, lI_signs HS, lF_signs HS, lR_kinds HS, lR_amounts HS, lR_ends HS, lR_code HS, lO HS, lA_261 HS, lW_261 HS, lA_262 HS, lW_262 HS, lA_263 HS, lW_263 HS, lA_264 HS, lW_264 HS, wi_some, or_0, or_1, bo_or, ite_boP, true_and, and_true, kN_v, kN_n, kT_v, kT_n, kT_e, Nat.add_zero, Nat.zero_add]
            refine k8 hw HS q3 (by omega) ?_
            intro D4 f4 q4
            simp only [wi_some, or_0, or_1, bo_or, ite_boP, true_and, and_true, kN_v, kN_n, kT_v, kT_n, kT_e, Nat.add_zero, Nat.zero_add]
            exact go D4 _ (f3.tr f4.fl) (t3.f8 f4) q4 (by rw [if_pos rfl]) (by rw [List.length_append, List.length_singleton]; omega)
          | false =>
            simp only [Bool.false_eq_true, if_false, Nat.add_zero] at l3
            simp only [bo_f, if_true]
            exact go D3 c3 f3 t3 q3 (by simp only [Bool.false_eq_true, if_false]) l3
      cases bA with
      | true =>
        simp only [if_true] at l1
        simp only [wi_some, or_0, or_1, bo_or, ite_boP, true_and, and_true, kN_v, kN_n, kT_v, kT_n, kT_e, Nat.add_zero, Nat.zero_add, b9_22 hw, n10, if_false, bo_t, lI_lines HS, lF_lines HS, lI_signs HS, lF_signs HS, lR_kinds HS, lR_amounts HS, lR_ends HS, lR_code HS, lO HS, lA_261 HS, lW_261 HS, lA_262 HS, lW_262 HS, lA_263 HS, lW_263 HS, lA_264 HS, lW_264 HS]
        refine k8 hw HS lc2.2.1 (by omega) ?_
        intro D3 f3 q3
        simp only [wi_some, or_0, or_1, bo_or, ite_boP, true_and, and_true, kN_v, kN_n, kT_v, kT_n, kT_e, Nat.add_zero, Nat.zero_add]
        exact aft D3 _ ((f1.tr g2).tr f3.fl) (lc2.1.f8 f3) q3 (by rw [if_pos rfl]) (by rw [List.length_append, List.length_singleton]; omega)
      | false =>
        simp only [Bool.false_eq_true, if_false, Nat.add_zero] at l1
        simp only [wi_some, or_0, or_1, bo_or, ite_boP, true_and, and_true, kN_v, kN_n, kT_v, kT_n, kT_e, Nat.add_zero, Nat.zero_add, b9_22 hw, n10, if_false, bo_f, if_true]
        exact aft D2 c1 (f1.tr g2) lc2.1 lc2.2.1 (by simp only [Bool.false_eq_true, if_false]) l1
  obtain ⟨l1, l2, l3, l4⟩ := lc
  rw [co_rA] at kf ky
  refine lp (n - p0 + 1) 0 p0 cs0 false false D (by omega) FL.rf l1 l2 (by simp only [Bool.false_eq_true, if_false]; omega) l4 (by omega) kf (fun p' c' D' hh g1 g2 g3 => ?_)
  rw [← co_rA] at hh
  obtain ⟨a1, a2, a0, new, a3, a4, _⟩ := coS_gd g p0 cs0 l4 p' c' hh
  exact ky p' c' D' (by rw [← co_rA]; exact hh) g1 ⟨g2, g3, by rw [a3, List.length_append]; omega, a2⟩
theorem k10 (hw : WT sh) (HS : SP sh) (tb : TB b n) : ∀ d, d ≤ 6 → ∀ δ, RdC nx xs sh b n (δ + 3 + 2 * d) 10 (6 - d) [none, none] (pA b n d) := by
  have n10 : ¬ (Int32.ofNat 1 : Int32) = Int32.ofNat 0 := by decide
  have hn := tb.1
  -- behind what goes deeper
  have base : ∀ (ε e : Nat) (N C : Nat → List Int32 → pR) (dp : Bool), e ≤ 6 → (dp = true ↔ e < 6) → Gd b n 0 (atF b n N C dp) → (dp = true → RdC nx xs sh b n (ε + 2) 10 (e + 1) [none, none] N) → (dp = true → RdC nx xs sh b n (ε + 2) 9 (e + 1) [none, none, none] C) → RdC nx xs sh b n (ε + 3) 10 e [none, none] (atF b n N C dp) := by
    intro ε e N C dp he hdp gA hN hC p cs D c s Q lc kf ky
    show Wx (tP nx xs) (ε + 3) 10 0 [some (.ref 260), some (.ref 1), (some (.int (Int32.ofNat e))), none, none] [] (mk sh D) c s Q
    obtain ⟨t0, q0, l0, hp⟩ := lc
    have ky : ∀ p' c' D', atF b n N C dp p cs = .inr (p', c') → FL D D' → TpC b n D' p' → LQ D' c' → Q (.inl (some (.int (Int32.ofNat 1)))) (mk sh D') c s := fun p' c' D' hh g1 g2 g3 => by
      obtain ⟨a1, a2, a0, new, a3, a4, _⟩ := gA p cs hp p' c' hh
      exact ky p' c' D' hh g1 ⟨g2, g3, by rw [a3, List.length_append]; omega, a2⟩
    unfold atF at kf ky
    rw [b10_0 hw]
    simp only [pR_bytes HS, pI_length HS, pF_length HS, pI_place HS, pF_place HS, pI_number HS, pF_number HS, pI_textLength HS, pF_textLength HS, pI_begin HS, pF_begin HS, pO HS, pA_2 HS, pW_2 HS, wi_some, or_0, or_1, bo_or, ite_boP, true_and, and_true, kN_v, kN_n, kT_v, kT_n, kT_e, Nat.add_zero, Nat.zero_add]
    refine k70 (i := 16) (w := wNot) hw HS tb t0 hp (by decide) (by decide +kernel) (by decide +kernel) ?_ ?_
    · intro p1 D1 hW f1 t1 e3 e5
      obtain ⟨_, _, s1, s2, _⟩ := wrd_some hW hp
      have s1 : p + 3 ≤ p1 := s1
      simp only [hW] at kf ky
      simp only [wi_some, or_0, or_1, bo_or, ite_boP, true_and, and_true, kN_v, kN_n, kT_v, kT_n, kT_e, Nat.add_zero, Nat.zero_add, b10_6 hw, n10, if_false, oN_lt (show e < 2147483648 by omega) (show 6 < 2147483648 by omega)]
      cases dp with
      | false =>
        have h6 : ¬ e < 6 := fun h => by have := hdp.mpr h; cases this
        simp only [Bool.false_eq_true, if_false] at kf
        simp only [h6, if_false, pR_bytes HS, pI_length HS, pF_length HS, pI_place HS, pF_place HS, pI_number HS, pF_number HS, pI_textLength HS, pF_textLength HS, pI_begin HS, pF_begin HS, pO HS, pA_2 HS, pW_2 HS, wi_some, or_0, or_1, bo_or, ite_boP, true_and, and_true, kN_v, kN_n, kT_v, kT_n, kT_e, Nat.add_zero, Nat.zero_add, k68 hw HS, b10_19 hw, e5]
        exact kf _ _ rfl (f1.tr F1.rfs).fl (by rw [u2_at, if_pos ⟨rfl, rfl⟩])
      | true =>
        have h6 : e < 6 := hdp.mp rfl
        simp only [if_true] at kf ky
        simp only [h6, if_true, lI_lines HS, lF_lines HS, lI_signs HS, lF_signs HS, lR_kinds HS, lR_amounts HS, lR_ends HS, lR_code HS, lO HS, lA_261 HS, lW_261 HS, lA_262 HS, lW_262 HS, lA_263 HS, lW_263 HS, lA_264 HS, lW_264 HS, wi_some, or_0, or_1, bo_or, ite_boP, true_and, and_true, kN_v, kN_n, kT_v, kT_n, kT_e, Nat.add_zero, Nat.zero_add, oN_add]
        refine hN rfl p1 cs D1 0 0 _ ⟨t1, q0.f1 f1, by omega, s2⟩ ?_ ?_
        · intro f D2 hP g2 e2
          simp only [hP] at kf
          simp only [wi_some, or_0, or_1, bo_or, ite_boP, true_and, and_true, kN_v, kN_n, kT_v, kT_n, kT_e, Nat.add_zero, Nat.zero_add, b10_28 hw, if_true]
          exact kf f D2 rfl (f1.fl.tr g2) e2
        · intro p2 c2 D2 hP g2 lc2
          simp only [hP] at ky
          simp only [wi_some, or_0, or_1, bo_or, ite_boP, true_and, and_true, kN_v, kN_n, kT_v, kT_n, kT_e, Nat.add_zero, Nat.zero_add, b10_28 hw, n10, if_false, lI_lines HS, lF_lines HS, lI_signs HS, lF_signs HS, lR_kinds HS, lR_amounts HS, lR_ends HS, lR_code HS, lO HS, lA_261 HS, lW_261 HS, lA_262 HS, lW_262 HS, lA_263 HS, lW_263 HS, lA_264 HS, lW_264 HS]
          refine k8 hw HS lc2.2.1 (by have := lc2.2.2; omega) ?_
          intro D3 f3 q3
          simp only [wi_some, or_0, or_1, bo_or, ite_boP, true_and, and_true, kN_v, kN_n, kT_v, kT_n, kT_e, Nat.add_zero, Nat.zero_add, b10_40 hw]
          exact ky p2 _ D3 rfl ((f1.fl.tr g2).tr f3.fl) (lc2.1.f8 f3) q3
    intro hW
    simp only [hW] at kf ky
    simp only [wi_some, or_0, or_1, bo_or, ite_boP, true_and, and_true, kN_v, kN_n, kT_v, kT_n, kT_e, Nat.add_zero, Nat.zero_add, b10_6 hw, if_true, pR_bytes HS, pI_length HS, pF_length HS, pI_place HS, pF_place HS, pI_number HS, pF_number HS, pI_textLength HS, pF_textLength HS, pI_begin HS, pF_begin HS, pO HS, pA_2 HS, pW_2 HS]
    refine k69 hw HS tb t0 hp (by decide) ?_ ?_
    · intro p1 D1 hS f1 t1 e3 e5
      obtain ⟨_, _, _, s1, s2, _⟩ := sgn_some hS
      simp only [hS] at kf ky
      simp only [wi_some, or_0, or_1, bo_or, ite_boP, true_and, and_true, kN_v, kN_n, kT_v, kT_n, kT_e, Nat.add_zero, Nat.zero_add, b10_48 hw, n10, if_false, oN_lt (show e < 2147483648 by omega) (show 6 < 2147483648 by omega)]
      cases dp with
      | false =>
        have h6 : ¬ e < 6 := fun h => by have := hdp.mpr h; cases this
        simp only [Bool.false_eq_true, if_false] at kf
        simp only [h6, if_false, pR_bytes HS, pI_length HS, pF_length HS, pI_place HS, pF_place HS, pI_number HS, pF_number HS, pI_textLength HS, pF_textLength HS, pI_begin HS, pF_begin HS, pO HS, pA_2 HS, pW_2 HS, wi_some, or_0, or_1, bo_or, ite_boP, true_and, and_true, kN_v, kN_n, kT_v, kT_n, kT_e, Nat.add_zero, Nat.zero_add, k68 hw HS, b10_61 hw, e5]
        exact kf _ _ rfl (f1.tr F1.rfs).fl (by rw [u2_at, if_pos ⟨rfl, rfl⟩])
      | true =>
        have h6 : e < 6 := hdp.mp rfl
        simp only [if_true] at kf ky
        simp only [h6, if_true, lI_lines HS, lF_lines HS, lI_signs HS, lF_signs HS, lR_kinds HS, lR_amounts HS, lR_ends HS, lR_code HS, lO HS, lA_261 HS, lW_261 HS, lA_262 HS, lW_262 HS, lA_263 HS, lW_263 HS, lA_264 HS, lW_264 HS, wi_some, or_0, or_1, bo_or, ite_boP, true_and, and_true, kN_v, kN_n, kT_v, kT_n, kT_e, Nat.add_zero, Nat.zero_add, oN_add]
        refine hC rfl p1 cs D1 0 0 _ ⟨t1, q0.f1 f1, by omega, s2⟩ ?_ ?_
        · intro f D2 hP g2 e2
          simp only [hP] at kf
          simp only [wi_some, or_0, or_1, bo_or, ite_boP, true_and, and_true, kN_v, kN_n, kT_v, kT_n, kT_e, Nat.add_zero, Nat.zero_add, b10_70 hw, if_true, b10_86 hw, b10_87 hw]
          exact kf f D2 rfl (f1.fl.tr g2) e2
        · intro p2 c2 D2 hP g2 lc2
          simp only [hP] at kf ky
          simp only [wi_some, or_0, or_1, bo_or, ite_boP, true_and, and_true, kN_v, kN_n, kT_v, kT_n, kT_e, Nat.add_zero, Nat.zero_add, b10_70 hw, n10, if_false, pR_bytes HS, pI_length HS, pF_length HS, pI_place HS, pF_place HS, pI_number HS, pF_number HS, pI_textLength HS, pF_textLength HS, pI_begin HS, pF_begin HS, pO HS, pA_2 HS, pW_2 HS]
          refine k69 hw HS tb lc2.1 lc2.2.2.2 (by decide) ?_ ?_
          · intro p3 D3 hT f3 t3 e33 e35
            simp only [hT] at ky
            simp only [wi_some, or_0, or_1, bo_or, ite_boP, true_and, and_true, kN_v, kN_n, kT_v, kT_n, kT_e, Nat.add_zero, Nat.zero_add, b10_79 hw, n10, if_false, b10_87 hw]
            exact ky p3 c2 D3 rfl ((f1.fl.tr g2).tr f3.fl) t3 (lc2.2.1.f1 f3)
          · intro hT
            simp only [hT] at kf
            simp only [wi_some, or_0, or_1, bo_or, ite_boP, true_and, and_true, kN_v, kN_n, kT_v, kT_n, kT_e, Nat.add_zero, Nat.zero_add, b10_79 hw, if_true, b10_86 hw, b10_87 hw]
            exact kf p2 D2 rfl (f1.fl.tr g2) lc2.1.1
    intro hS
    simp only [hS] at kf ky
    simp only [wi_some, or_0, or_1, bo_or, ite_boP, true_and, and_true, kN_v, kN_n, kT_v, kT_n, kT_e, Nat.add_zero, Nat.zero_add, b10_48 hw, if_true, pR_bytes HS, pI_length HS, pF_length HS, pI_place HS, pF_place HS, pI_number HS, pF_number HS, pI_textLength HS, pF_textLength HS, pI_begin HS, pF_begin HS, pO HS, pA_2 HS, pW_2 HS, b71_0 hw]
    refine k71 (i := 17) hw HS tb t0 hp (by decide) (by decide +kernel) tgWs 0 0 (by decide +kernel) (by decide) ?_ ?_
    · intro k p1 D1 hO f1 t1 e3 e5
      obtain ⟨_, a0, _⟩ := oneF_some tgWs 0 p k p1 hO hp tg_1
      have a0 : k < 3 := by simpa [tgWs] using a0
      have nm : ¬ Int32.ofNat k = (-1 : Int32) := by rw [oN_ne1 (by omega)]; exact id
      simp only [hO] at ky
      simp only [wi_some, or_0, or_1, bo_or, ite_boP, true_and, and_true, kN_v, kN_n, kT_v, kT_n, kT_e, Nat.add_zero, Nat.zero_add, b10_94 hw, nm, if_false, lI_lines HS, lF_lines HS, lI_signs HS, lF_signs HS, lR_kinds HS, lR_amounts HS, lR_ends HS, lR_code HS, lO HS, lA_261 HS, lW_261 HS, lA_262 HS, lW_262 HS, lA_263 HS, lW_263 HS, lA_264 HS, lW_264 HS, oN_add]
      refine k8 hw HS (q0.f1 f1) (by omega) ?_
      intro D2 f2 q2
      simp only [wi_some, or_0, or_1, bo_or, ite_boP, true_and, and_true, kN_v, kN_n, kT_v, kT_n, kT_e, Nat.add_zero, Nat.zero_add, b10_109 hw]
      exact ky p1 _ D2 rfl (f1.fl.tr f2.fl) (t1.f8 f2) q2
    intro hO
    simp only [hO] at kf ky
    simp only [wi_some, or_0, or_1, bo_or, ite_boP, true_and, and_true, kN_v, kN_n, kT_v, kT_n, kT_e, Nat.add_zero, Nat.zero_add, b10_94 hw, if_true, lI_lines HS, lF_lines HS, lI_signs HS, lF_signs HS, lR_kinds HS, lR_amounts HS, lR_ends HS, lR_code HS, lO HS, lA_261 HS, lW_261 HS, lA_262 HS, lW_262 HS, lA_263 HS, lW_263 HS, lA_264 HS, lW_264 HS]
    refine k11 hw HS tb ⟨t0, q0, l0, hp⟩ ?_ ?_
    · intro f D1 hP g1 e1
      simp only [hP] at kf
      simp only [wi_some, or_0, or_1, bo_or, ite_boP, true_and, and_true, kN_v, kN_n, kT_v, kT_n, kT_e, Nat.add_zero, Nat.zero_add, b10_116 hw, if_true]
      exact kf f D1 rfl g1 e1
    intro p1 c1 D1 hP g1 lc1
    simp only [hP] at kf ky
    unfold thS at kf ky
    simp only [wi_some, or_0, or_1, bo_or, ite_boP, true_and, and_true, kN_v, kN_n, kT_v, kT_n, kT_e, Nat.add_zero, Nat.zero_add, b10_116 hw, n10, if_false, pR_bytes HS, pI_length HS, pF_length HS, pI_place HS, pF_place HS, pI_number HS, pF_number HS, pI_textLength HS, pF_textLength HS, pI_begin HS, pF_begin HS, pO HS, pA_2 HS, pW_2 HS]
    have tail : ∀ (z : Int32) p2 D2 (l3 : Int32), ¬ z = -1 → FL D D2 → LC b n D2 p2 c1 → (∀ f D', suS b n p2 c1 = .inl f → FL D D' → D' 1 2 = Int32.ofNat f → Q (.inl (some (.int (Int32.ofNat 0)))) (mk sh D') c s) → (∀ p3 c3 D', suS b n p2 c1 = .inr (p3, c3) → FL D D' → TpC b n D' p3 → LQ D' (c3 ++ [z]) → Q (.inl (some (.int (Int32.ofNat 1)))) (mk sh D') c s) → Wx (tP nx xs) (ε + 3) 10 152 [some (.ref 260), some (.ref 1), (some (.int (Int32.ofNat e))), (some (.int (l3))), none] [.int z] (mk sh D2) c s Q := by
      intro z p2 D2 l3 hz g2 lc2 kf ky
      simp only [b10_152 hw, hz, if_false, lI_lines HS, lF_lines HS, lI_signs HS, lF_signs HS, lR_kinds HS, lR_amounts HS, lR_ends HS, lR_code HS, lO HS, lA_261 HS, lW_261 HS, lA_262 HS, lW_262 HS, lA_263 HS, lW_263 HS, lA_264 HS, lW_264 HS, wi_some, or_0, or_1, bo_or, ite_boP, true_and, and_true, kN_v, kN_n, kT_v, kT_n, kT_e, Nat.add_zero, Nat.zero_add]
      refine k11 hw HS tb lc2 ?_ ?_
      · intro f D3 hP g3 e3
        simp only [wi_some, or_0, or_1, bo_or, ite_boP, true_and, and_true, kN_v, kN_n, kT_v, kT_n, kT_e, Nat.add_zero, Nat.zero_add, b10_165 hw, if_true, b10_168 hw]
        exact kf f D3 hP (g2.tr g3) e3
      · intro p3 c3 D3 hP g3 lc3
        simp only [wi_some, or_0, or_1, bo_or, ite_boP, true_and, and_true, kN_v, kN_n, kT_v, kT_n, kT_e, Nat.add_zero, Nat.zero_add, b10_165 hw, n10, if_false, lI_lines HS, lF_lines HS, lI_signs HS, lF_signs HS, lR_kinds HS, lR_amounts HS, lR_ends HS, lR_code HS, lO HS, lA_261 HS, lW_261 HS, lA_262 HS, lW_262 HS, lA_263 HS, lW_263 HS, lA_264 HS, lW_264 HS]
        refine k8 hw HS lc3.2.1 (by have := lc3.2.2; omega) ?_
        intro D4 f4 q4
        simp only [wi_some, or_0, or_1, bo_or, ite_boP, true_and, and_true, kN_v, kN_n, kT_v, kT_n, kT_e, Nat.add_zero, Nat.zero_add, b10_176 hw]
        exact ky p3 c3 D4 hP ((g2.tr g3).tr f4.fl) (lc3.1.f8 f4) q4
    refine k69 hw HS tb lc1.1 lc1.2.2.2 (by decide) ?_ ?_
    · intro p2 D2 hA f2 t2 e23 e25
      obtain ⟨_, _, _, s1, s2, _⟩ := sgn_some hA
      simp only [hA] at kf ky
      simp only [wi_some, or_0, or_1, bo_or, ite_boP, true_and, and_true, kN_v, kN_n, kT_v, kT_n, kT_e, Nat.add_zero, Nat.zero_add, b10_127 hw, n10, if_false]
      refine tail (Int32.ofNat 1011) p2 D2 _ (by decide) (g1.tr f2.fl) ⟨t2, lc1.2.1.f1 f2, by have := lc1.2.2; omega, s2⟩ (fun f D' h => kf f D' (by rw [h])) (fun p3 c3 D' h => ky p3 _ D' (by rw [h]))
    intro hA
    simp only [hA] at kf ky
    simp only [wi_some, or_0, or_1, bo_or, ite_boP, true_and, and_true, kN_v, kN_n, kT_v, kT_n, kT_e, Nat.add_zero, Nat.zero_add, b10_127 hw, if_true, pR_bytes HS, pI_length HS, pF_length HS, pI_place HS, pF_place HS, pI_number HS, pF_number HS, pI_textLength HS, pF_textLength HS, pI_begin HS, pF_begin HS, pO HS, pA_2 HS, pW_2 HS]
    refine k69 hw HS tb lc1.1 lc1.2.2.2 (by decide) ?_ ?_
    · intro p2 D2 hB f2 t2 e23 e25
      obtain ⟨_, _, _, s1, s2, _⟩ := sgn_some hB
      simp only [hB] at kf ky
      simp only [wi_some, or_0, or_1, bo_or, ite_boP, true_and, and_true, kN_v, kN_n, kT_v, kT_n, kT_e, Nat.add_zero, Nat.zero_add, b10_142 hw, n10, if_false]
      refine tail (Int32.ofNat 1012) p2 D2 _ (by decide) (g1.tr f2.fl) ⟨t2, lc1.2.1.f1 f2, by have := lc1.2.2; omega, s2⟩ (fun f D' h => kf f D' (by rw [h])) (fun p3 c3 D' h => ky p3 _ D' (by rw [h]))
    · intro hB
      simp only [hB] at kf
      simp only [wi_some, or_0, or_1, bo_or, ite_boP, true_and, and_true, kN_v, kN_n, kT_v, kT_n, kT_e, Nat.add_zero, Nat.zero_add, b10_142 hw, if_true, b10_152 hw, b10_168 hw]
      exact kf p1 D1 rfl g1 lc1.1.1
  intro d
  induction d with
  | zero =>
    intro _ δ
    exact base δ 6 _ _ false (by omega) ⟨fun h => (by cases h), fun h => (by omega)⟩ ((pA_gd (b := b) (n := n) 0 (by omega)).le (by omega)) (fun h => (by cases h)) (fun h => (by cases h))
  | succ d ih =>
    intro hd δ
    have ih := ih (by omega)
    have gd := pA_gd (b := b) (n := n) d (by omega)
    have e6 : 6 - (d + 1) + 1 = 6 - d := by omega
    have hb := base (δ + 2 + 2 * d) (6 - (d + 1)) (pA b n d) (coS b n (pA b n d)) true (by omega) ⟨fun _ => (by omega), fun _ => rfl⟩ ((pA_gd (b := b) (n := n) (d + 1) hd).le (by omega))
    rw [e6] at hb
    rw [show δ + 3 + 2 * (d + 1) = δ + 2 + 2 * d + 3 by omega]
    refine hb (fun _ => ?_) (fun _ => ?_)
    · rw [show δ + 2 + 2 * d + 2 = (δ + 1) + 3 + 2 * d by omega]
      exact ih (δ + 1)
    · have := k9 (δ := δ + 1 + 2 * d) (e := 6 - d) (h := 0) hw HS tb (by omega) (gd.le (by omega)) (by rw [show δ + 1 + 2 * d + 2 = δ + 3 + 2 * d by omega]; exact ih δ)
      rw [show δ + 2 + 2 * d + 2 = δ + 1 + 2 * d + 3 by omega]
      exact this
end CC4
