/-! ===== texts of THE LAW: the class reads ===== -/
def LQ (D : sD) (cs : List Int32) : Prop := D 260 1 = Int32.ofNat cs.length ∧ ∀ i, i < cs.length → D 264 i = cs.getD i 0
def F8 (D D' : sD) : Prop := ∀ e i, ¬ (e = 260 ∧ i = 1) → e ≠ 264 → D' e i = D e i
def FL (D D' : sD) : Prop := ∀ e i, ¬ (e = 1 ∧ (i = 2 ∨ i = 3 ∨ i = 5)) → ¬ (e = 260 ∧ i = 1) → e ≠ 264 → D' e i = D e i
theorem FL.rf {D : sD} : FL D D := fun _ _ _ _ _ => rfl
theorem FL.tr {D D' D'' : sD} (h : FL D D') (h' : FL D' D'') : FL D D'' := fun e i h1 h2 h3 => (h' e i h1 h2 h3).trans (h e i h1 h2 h3)
theorem F8.fl {D D' : sD} (h : F8 D D') : FL D D' := fun e i _ h2 h3 => h e i h2 h3
theorem F1.fl {D D' : sD} (h : F1 D D') : FL D D' := fun e i h1 _ _ => h e i h1
theorem LQ.f1 {D D' : sD} {cs : List Int32} (h : LQ D cs) (f : F1 D D') : LQ D' cs := ⟨by rw [f 260 1 (by omega)]; exact h.1, fun i hi => by rw [f 264 i (by omega)]; exact h.2 i hi⟩
theorem TpC.f8 {b : Nat → Nat} {n p : Nat} {D D' : sD} (h : TpC b n D p) (f : F8 D D') : TpC b n D' p := ⟨by rw [f 1 2 (by omega) (by decide)]; exact h.1, by rw [f 1 4 (by omega) (by decide)]; exact h.2.1, fun i hi => by rw [f 2 i (by omega) (by decide)]; exact h.2.2 i hi⟩
def LC (b : Nat → Nat) (n : Nat) (D : sD) (p : Nat) (cs : List Int32) : Prop := TpC b n D p ∧ LQ D cs ∧ cs.length + 3 ≤ p ∧ p ≤ n
theorem getD_app {l : List Int32} {x : Int32} {i : Nat} : (l ++ [x]).getD i 0 = if i < l.length then l.getD i 0 else if i = l.length then x else 0 := by
  simp only [List.getD_eq_getElem?_getD, List.getElem?_append]
  by_cases h : i < l.length
  · simp only [h, if_true]
  · simp only [h, if_false]
    by_cases e : i = l.length
    · subst e; simp
    · rw [if_neg e, List.getElem?_eq_none (by simp only [List.length_singleton]; omega)]; rfl
section CC3
variable {nx : Nat} {xs : Nat → Int32} {d c s : Nat} {sh : List sC} {D : sD} {Q : av_Q}
variable {b : Nat → Nat} {n p : Nat} {cs : List Int32}
theorem k8 {x : Int32} (hw : WT sh) (HS : SP sh) (lq : LQ D cs) (h4 : cs.length < 400) (kk : ∀ D', F8 D D' → LQ D' (cs ++ [x]) → Q (.inl none) (mk sh D') c s) : Wx (tP nx xs) d 8 0 [some (.ref 260), (some (.int (x)))] [] (mk sh D) c s Q := by
  have tn := oN_tn (show cs.length < 2147483648 by omega)
  have e1 : ∀ v, u2 D 264 cs.length v 260 1 = Int32.ofNat cs.length := fun v => by rw [u2_at, if_neg (by omega)]; exact lq.1
  rw [b8_0 hw]
  simp only [lI_lines HS, lF_lines HS, lI_signs HS, lF_signs HS, lR_kinds HS, lR_amounts HS, lR_ends HS, lR_code HS, lO HS, lA_261 HS, lW_261 HS, lA_262 HS, lW_262 HS, lA_263 HS, lW_263 HS, lA_264 HS, lW_264 HS, lL_264 HS, wi_some, or_0, or_1, bo_or, ite_boP, true_and, and_true, kN_v, kN_n, kT_v, kT_n, kT_e, Nat.add_zero, Nat.zero_add, lq.1, oN_lt (show cs.length < 2147483648 by omega) (show 400 < 2147483648 by omega), h4, if_true, tn]
  rw [b8_22 hw]
  simp only [lI_lines HS, lF_lines HS, lI_signs HS, lF_signs HS, lR_kinds HS, lR_amounts HS, lR_ends HS, lR_code HS, lO HS, lA_261 HS, lW_261 HS, lA_262 HS, lW_262 HS, lA_263 HS, lW_263 HS, lA_264 HS, lW_264 HS, wi_some, or_0, or_1, bo_or, ite_boP, true_and, and_true, kN_v, kN_n, kT_v, kT_n, kT_e, Nat.add_zero, Nat.zero_add, e1, oN_add, b8_32 hw]
  refine kk _ (fun e i h1 h2 => by rw [u2_at, if_neg (by omega), u2_at, if_neg (by omega)]) ⟨?_, fun i hi => ?_⟩
  · rw [u2_at, if_pos ⟨rfl, rfl⟩, List.length_append]; rfl
  · rw [List.length_append, List.length_singleton] at hi
    rw [u2_at, if_neg (by omega), u2_at, getD_app]
    by_cases e : i = cs.length
    · rw [if_pos ⟨rfl, e⟩, if_neg (by omega), if_pos e]
    · rw [if_neg (by omega), if_pos (by omega)]; exact lq.2 i (by omega)
theorem k11 (hw : WT sh) (HS : SP sh) (tb : TB b n) (lc : LC b n D p cs)
    (kf : ∀ f D', suS b n p cs = .inl f → FL D D' → D' 1 2 = Int32.ofNat f → Q (.inl (some (.int (Int32.ofNat 0)))) (mk sh D') c s)
    (ky : ∀ p' c' D', suS b n p cs = .inr (p', c') → FL D D' → LC b n D' p' c' → Q (.inl (some (.int (Int32.ofNat 1)))) (mk sh D') c s) :
    Wx (tP nx xs) (d + 2) 11 0 [some (.ref 260), some (.ref 1), none, none] [] (mk sh D) c s Q := by
  have n10 : ¬ (Int32.ofNat 1 : Int32) = Int32.ofNat 0 := by decide
  have hn := tb.1
  simp only [b11_0 hw]
  have lp : ∀ r (j : Nat) p cs D1 (l3 : Option Value), n - p < r → FL D D1 → TpC b n D1 p → LQ D1 cs → cs.length + 3 + (if 0 < j then 1 else 0) ≤ p → p ≤ n → j + 3 ≤ p →
      (∀ f D', (match paS b n p cs with
        | .inl f => .inl f
        | .inr (p2, c2) => moS b n 400 p2 (if 0 < j then c2 ++ [Int32.ofNat 1010] else c2) : pR) = .inl f → FL D D' → D' 1 2 = Int32.ofNat f → Q (.inl (some (.int (Int32.ofNat 0)))) (mk sh D') c s) →
      (∀ p' c' D', (match paS b n p cs with
        | .inl f => .inl f
        | .inr (p2, c2) => moS b n 400 p2 (if 0 < j then c2 ++ [Int32.ofNat 1010] else c2) : pR) = .inr (p', c') → FL D D' → TpC b n D' p' → LQ D' c' → Q (.inl (some (.int (Int32.ofNat 1)))) (mk sh D') c s) →
      Wx (tP nx xs) (d + 2) 11 2 [some (.ref 260), some (.ref 1), (some (.int (Int32.ofNat j))), l3] [] (mk sh D1) c s Q := by
    intro r
    induction r with
    | zero => intro j p cs D1 l3 h; omega
    | succ r ih =>
      intro j p cs D1 l3 hr f1 t1 q1 hb hp hj kf ky
      have hc4 : cs.length < 400 := by omega
      have hj4 : j < 400 := by omega
      -- behind a part
      have aft : ∀ p2 c2 D2 (l3 : Option Value), paS b n p cs = .inr (p2, c2) → FL D D2 → TpC b n D2 p2 → LQ D2 c2 → Wx (tP nx xs) (d + 2) 11 54 [some (.ref 260), some (.ref 1), (some (.int (Int32.ofNat j))), l3] [] (mk sh D2) c s Q := by
        intro p2 c2 D2 l3 hP f2 t2 q2
        obtain ⟨g1, _, _⟩ := paS_pg (b := b) (cs := cs) hp
        obtain ⟨a1, a2, new, a3, a4⟩ := g1 p2 c2 hP
        have hlen : c2.length + 3 + (if 0 < j then 1 else 0) ≤ p2 := by rw [a3, List.length_append]; omega
        simp only [hP] at kf ky
        have go : ∀ D3 c3, FL D D3 → TpC b n D3 p2 → LQ D3 c3 → c3 = (if 0 < j then c2 ++ [Int32.ofNat 1010] else c2) → c3.length + 3 ≤ p2 → Wx (tP nx xs) (d + 2) 11 65 [some (.ref 260), some (.ref 1), (some (.int (Int32.ofNat j))), l3] [] (mk sh D3) c s Q := by
          intro D3 c3 f3 t3 q3 e3 hl3
          rw [← e3] at kf ky
          rw [show (400 : Nat) = 399 + 1 from rfl] at kf ky
          unfold moS at kf ky
          simp only [b11_65 hw, pR_bytes HS, pI_length HS, pF_length HS, pI_place HS, pF_place HS, pI_number HS, pF_number HS, pI_textLength HS, pF_textLength HS, pI_begin HS, pF_begin HS, pO HS, pA_2 HS, pW_2 HS, wi_some, or_0, or_1, bo_or, ite_boP, true_and, and_true, kN_v, kN_n, kT_v, kT_n, kT_e, Nat.add_zero, Nat.zero_add]
          refine k69 hw HS tb t3 a2 (by decide) ?_ ?_
          · intro p3 D4 hS f4 t4 e43 e45
            obtain ⟨_, _, _, s1, s2, _⟩ := sgn_some hS
            simp only [hS] at kf ky
            simp only [wi_some, or_0, or_1, bo_or, ite_boP, true_and, and_true, kN_v, kN_n, kT_v, kT_n, kT_e, Nat.add_zero, Nat.zero_add, b11_71 hw, n10, if_false, oN_add]
            refine ih (j + 1) p3 c3 D4 l3 (by omega) (f3.tr f4.fl) t4 (q3.f1 f4) (by rw [if_pos (by omega)]; omega) s2 (by omega) (fun f D' h => kf f D' ?_) (fun p' c' D' h => ky p' c' D' ?_)
            · rw [← h]
              cases hP3 : paS b n p3 c3 with
              | inl f => rfl
              | inr x =>
                obtain ⟨p4, c4⟩ := x
                obtain ⟨g3, _, _⟩ := paS_pg (b := b) (cs := c3) s2
                obtain ⟨b1, b2, _⟩ := g3 p4 c4 hP3
                simp only [if_pos (show 0 < j + 1 by omega)]
                exact moS_k 399 400 p4 _ b2 (by omega) (by omega)
            · rw [← h]
              cases hP3 : paS b n p3 c3 with
              | inl f => rfl
              | inr x =>
                obtain ⟨p4, c4⟩ := x
                obtain ⟨g3, _, _⟩ := paS_pg (b := b) (cs := c3) s2
                obtain ⟨b1, b2, _⟩ := g3 p4 c4 hP3
                simp only [if_pos (show 0 < j + 1 by omega)]
                exact moS_k 399 400 p4 _ b2 (by omega) (by omega)
          · intro hS
            simp only [hS] at ky
            simp only [wi_some, or_0, or_1, bo_or, ite_boP, true_and, and_true, kN_v, kN_n, kT_v, kT_n, kT_e, Nat.add_zero, Nat.zero_add, b11_71 hw, if_true]
            exact ky p2 c3 D3 rfl f3 t3 q3
        simp only [b11_54 hw, oN_lt (show 0 < 2147483648 by omega) (show j < 2147483648 by omega)]
        by_cases h0 : 0 < j
        · simp only [h0, if_true, lI_lines HS, lF_lines HS, lI_signs HS, lF_signs HS, lR_kinds HS, lR_amounts HS, lR_ends HS, lR_code HS, lO HS, lA_261 HS, lW_261 HS, lA_262 HS, lW_262 HS, lA_263 HS, lW_263 HS, lA_264 HS, lW_264 HS, wi_some, or_0, or_1, bo_or, ite_boP, true_and, and_true, kN_v, kN_n, kT_v, kT_n, kT_e, Nat.add_zero, Nat.zero_add]
          rw [if_pos h0] at hlen
          refine k8 hw HS q2 (by omega) ?_
          intro D3 f3 q3
          simp only [wi_some, or_0, or_1, bo_or, ite_boP, true_and, and_true, kN_v, kN_n, kT_v, kT_n, kT_e, Nat.add_zero, Nat.zero_add]
          exact go D3 _ (f2.tr f3.fl) (t2.f8 f3) q3 (by rw [if_pos h0]) (by rw [List.length_append, List.length_singleton]; omega)
        · simp only [h0, if_false]
          exact go D2 c2 f2 t2 q2 (by rw [if_neg h0]) (by omega)
      rw [b11_2 hw]
      simp only [oN_lt (show j < 2147483648 by omega) (show 400 < 2147483648 by omega), hj4, if_true, pR_bytes HS, pI_length HS, pF_length HS, pI_place HS, pF_place HS, pI_number HS, pF_number HS, pI_textLength HS, pF_textLength HS, pI_begin HS, pF_begin HS, pO HS, pA_2 HS, pW_2 HS, wi_some, or_0, or_1, bo_or, ite_boP, true_and, and_true, kN_v, kN_n, kT_v, kT_n, kT_e, Nat.add_zero, Nat.zero_add]
      refine k73c hw HS tb t1 hp (by decide) (by decide) ?_ ?_
      · intro v p2 D2 hN f2 t2 e23 e25
        have hP : paS b n p cs = .inr (p2, cs ++ [Int32.ofNat v]) := by unfold paS; rw [hN]
        simp only [wi_some, or_0, or_1, bo_or, ite_boP, true_and, and_true, kN_v, kN_n, kT_v, kT_n, kT_e, Nat.add_zero, Nat.zero_add, b11_17 hw, n10, if_false, pR_bytes HS, pI_length HS, pF_length HS, pI_place HS, pF_place HS, pI_number HS, pF_number HS, pI_textLength HS, pF_textLength HS, pI_begin HS, pF_begin HS, pO HS, pA_2 HS, pW_2 HS, e23, lI_lines HS, lF_lines HS, lI_signs HS, lF_signs HS, lR_kinds HS, lR_amounts HS, lR_ends HS, lR_code HS, lO HS, lA_261 HS, lW_261 HS, lA_262 HS, lW_262 HS, lA_263 HS, lW_263 HS, lA_264 HS, lW_264 HS]
        refine k8 hw HS (q1.f1 f2) hc4 ?_
        intro D3 f3 q3
        simp only [wi_some, or_0, or_1, bo_or, ite_boP, true_and, and_true, kN_v, kN_n, kT_v, kT_n, kT_e, Nat.add_zero, Nat.zero_add, b11_28 hw]
        exact aft p2 _ D3 l3 hP ((f1.tr f2.fl).tr f3.fl) (t2.f8 f3) q3
      · intro hN
        simp only [wi_some, or_0, or_1, bo_or, ite_boP, true_and, and_true, kN_v, kN_n, kT_v, kT_n, kT_e, Nat.add_zero, Nat.zero_add, b11_17 hw, if_true, pR_bytes HS, pI_length HS, pF_length HS, pI_place HS, pF_place HS, pI_number HS, pF_number HS, pI_textLength HS, pF_textLength HS, pI_begin HS, pF_begin HS, pO HS, pA_2 HS, pW_2 HS, b71_0 hw]
        refine k71 (i := 18) hw HS tb t1 hp (by decide) (by decide +kernel) nmWs 0 0 (by decide +kernel) (by decide) ?_ ?_
        · intro k p2 D2 hO f2 t2 e23 e25
          obtain ⟨_, a0, _⟩ := oneF_some nmWs 0 p k p2 hO hp nm_1
          have a0 : k < 7 := by simpa [nmWs] using a0
          have nm : ¬ Int32.ofNat k = (-1 : Int32) := by rw [oN_ne1 (by omega)]; exact id
          have hP : paS b n p cs = .inr (p2, cs ++ [Int32.ofNat (1000 + k)]) := by unfold paS; rw [hN]; simp only; rw [hO]
          simp only [wi_some, or_0, or_1, bo_or, ite_boP, true_and, and_true, kN_v, kN_n, kT_v, kT_n, kT_e, Nat.add_zero, Nat.zero_add, b11_37 hw, nm, if_false, lI_lines HS, lF_lines HS, lI_signs HS, lF_signs HS, lR_kinds HS, lR_amounts HS, lR_ends HS, lR_code HS, lO HS, lA_261 HS, lW_261 HS, lA_262 HS, lW_262 HS, lA_263 HS, lW_263 HS, lA_264 HS, lW_264 HS, oN_add]
          refine k8 hw HS (q1.f1 f2) hc4 ?_
          intro D3 f3 q3
          simp only [wi_some, or_0, or_1, bo_or, ite_boP, true_and, and_true, kN_v, kN_n, kT_v, kT_n, kT_e, Nat.add_zero, Nat.zero_add]
          exact aft p2 _ D3 _ hP ((f1.tr f2.fl).tr f3.fl) (t2.f8 f3) q3
        · intro hO
          have hP : paS b n p cs = .inl p := by unfold paS; rw [hN]; simp only; rw [hO]
          simp only [hP] at kf
          simp only [wi_some, or_0, or_1, bo_or, ite_boP, true_and, and_true, kN_v, kN_n, kT_v, kT_n, kT_e, Nat.add_zero, Nat.zero_add, b11_37 hw, if_true]
          exact kf p D1 rfl f1 t1.1
  obtain ⟨l1, l2, l3, l4⟩ := lc
  refine lp (n - p + 1) 0 p cs D none (by omega) FL.rf l1 l2 (by simp only [Nat.lt_irrefl, if_false]; omega) l4 (by omega) (fun f D' h => kf f D' ?_) (fun p' c' D' h g1 g2 g3 => ?_)
  · unfold suS; rw [← h]; cases paS b n p cs <;> simp only [Nat.lt_irrefl, if_false]
  · have hs : suS b n p cs = .inr (p', c') := by unfold suS; rw [← h]; cases paS b n p cs <;> simp only [Nat.lt_irrefl, if_false]
    obtain ⟨g, _, _⟩ := suS_pg (b := b) (cs := cs) l4
    obtain ⟨a1, a2, new, a3, a4⟩ := g p' c' hs
    exact ky p' c' D' hs g1 ⟨g2, g3, by rw [a3, List.length_append]; omega, a2⟩
end CC3
