/-! ===== texts of THE LAW: lines, and the class reads them ===== -/
abbrev lT : Type := List (Nat × Nat × Nat) × List Int32
abbrev lR : Type := Nat ⊕ (Nat × List Int32 × Nat × Nat)
section LNP
variable (b : Nat → Nat) (n : Nat)
def amS (k p : Nat) : Option (Nat × Nat) := if k = 2 then some (1, p) else num b n 0 201 p
def ifS (k a p : Nat) (cs : List Int32) : lR := match wrd b n wIf p with
  | none => .inr (p, cs, k, a)
  | some p3 => match coS b n (pA b n 6) p3 cs with
    | .inl f => .inl f
    | .inr (p4, c4) => .inr (p4, c4, k, a)
def liS (p : Nat) (cs : List Int32) : lR := match oneF b n lwWs 0 p with
  | none => .inl p
  | some (k, p1) => match amS b n k p1 with
    | none => .inl p1
    | some (a, p2) => ifS b n k a p2 cs
def lisS : Nat → List (Nat × Nat × Nat) → Nat → List Int32 → Nat ⊕ lT
  | 0, _, p, _ => .inl p
  | k + 1, ls, p, cs => match liS b n p cs with
    | .inl f => .inl f
    | .inr (p1, c1, kd, a) => match sgq b n 59 p1 with
      | some p2 => lisS k (ls ++ [(kd, a, c1.length)]) p2 c1
      | none => if p1 = n then .inr (ls ++ [(kd, a, c1.length)], c1) else .inl p1
def lwS : Nat ⊕ lT := if sk b n 0 = n then .inr ([], []) else lisS b n 12 [] (sk b n 0) []
end LNP
/-- what a line tells: it goes on; a kind, an amount, and a truth or nothing -/
theorem liS_gd {b : Nat → Nat} {n p : Nat} {cs : List Int32} (hp : p ≤ n) : ∀ p' c' kd a, liS b n p cs = .inr (p', c', kd, a) → p + 1 ≤ p' ∧ p' ≤ n ∧ kd < 3 ∧ a ≤ 200 ∧ (kd = 2 → a = 1) ∧ ∃ new, c' = cs ++ new ∧ new.length + p + 1 ≤ p' ∧ (new = [] ∨ tyLs new [] = some [true]) := by
  intro p' c' kd a h
  unfold liS at h
  cases hO : oneF b n lwWs 0 p with
  | none => rw [hO] at h; cases h
  | some x =>
    obtain ⟨k, p1⟩ := x
    obtain ⟨_, a0, a1, a2, a3⟩ := oneF_some lwWs 0 p k p1 hO hp lw_1
    have a0 : k < 3 := by simpa [lwWs] using a0
    rw [hO] at h
    simp only at h
    cases hA : amS b n k p1 with
    | none => rw [hA] at h; cases h
    | some x =>
      obtain ⟨am, p2⟩ := x
      have hA2 : p1 ≤ p2 ∧ p2 ≤ n ∧ am ≤ 200 ∧ (k = 2 → am = 1) := by
        unfold amS at hA
        by_cases h2 : k = 2
        · rw [if_pos h2] at hA; cases hA; exact ⟨Nat.le_refl _, a2, by decide, fun _ => rfl⟩
        · rw [if_neg h2] at hA
          obtain ⟨b1, b2, _, _, b3, _⟩ := num_some hA a2
          exact ⟨by omega, b2, by omega, fun h => absurd h h2⟩
      obtain ⟨q1, q2, q3, q4⟩ := hA2
      rw [hA] at h
      simp only at h
      unfold ifS at h
      cases hW : wrd b n wIf p2 with
      | none =>
        rw [hW] at h
        cases h
        exact ⟨by omega, q2, a0, q3, q4, [], by simp, by simp only [List.length_nil]; omega, Or.inl rfl⟩
      | some p3 =>
        obtain ⟨_, _, s1, s2, _⟩ := wrd_some hW q2
        have s1 : p2 + 2 ≤ p3 := s1
        rw [hW] at h
        simp only at h
        cases hC : coS b n (pA b n 6) p3 cs with
        | inl f => rw [hC] at h; cases h
        | inr x =>
          obtain ⟨p4, c4⟩ := x
          rw [hC] at h
          cases h
          obtain ⟨t1, t2, t0, new, t3, t4, t5⟩ := coS_gd (h := 0) (pA_gd (b := b) (n := n) 6 (by omega)) p3 cs s2 _ _ hC
          exact ⟨by omega, t2, a0, q3, q4, new, t3, by omega, Or.inr (t5 [] (Nat.le_refl _))⟩
def FK (j : Nat) (D D' : sD) : Prop := ∀ e i, ¬ (e = 1 ∧ (i = 2 ∨ i = 3 ∨ i = 5)) → ¬ (e = 260 ∧ i = 1) → e ≠ 264 → ¬ ((e = 261 ∨ e = 262 ∨ e = 263) ∧ i = j) → D' e i = D e i
theorem FK.tr {j : Nat} {D D' D'' : sD} (h : FK j D D') (h' : FK j D' D'') : FK j D D'' := fun e i h1 h2 h3 h4 => (h' e i h1 h2 h3 h4).trans (h e i h1 h2 h3 h4)
theorem FL.fk {j : Nat} {D D' : sD} (h : FL D D') : FK j D D' := fun e i h1 h2 h3 _ => h e i h1 h2 h3
theorem F1.fk {j : Nat} {D D' : sD} (h : F1 D D') : FK j D D' := h.fl.fk
theorem FK.u2 {j a : Nat} {v : Int32} {D : sD} (h : a = 261 ∨ a = 262 ∨ a = 263) : FK j D (u2 D a j v) := fun e i _ _ _ h4 => by rw [u2_at, if_neg (fun x => h4 ⟨by omega, x.2⟩)]
theorem TpC.w {b : Nat → Nat} {n p a j : Nat} {v : Int32} {D : sD} (h : TpC b n D p) (ha : 3 ≤ a) : TpC b n (u2 D a j v) p := ⟨by rw [u2_at, if_neg (by omega)]; exact h.1, by rw [u2_at, if_neg (by omega)]; exact h.2.1, fun i hi => by rw [u2_at, if_neg (by omega)]; exact h.2.2 i hi⟩
theorem LQ.w {a j : Nat} {v : Int32} {cs : List Int32} {D : sD} (h : LQ D cs) (ha : a ≠ 260) (ha' : a ≠ 264) : LQ (u2 D a j v) cs := ⟨by rw [u2_at, if_neg (by omega)]; exact h.1, fun i hi => by rw [u2_at, if_neg (by omega)]; exact h.2 i hi⟩
section CC5
variable {nx : Nat} {xs : Nat → Int32} {d c s : Nat} {sh : List sC} {D : sD} {Q : av_Q}
variable {b : Nat → Nat} {n p j : Nat} {cs : List Int32}
theorem k7 (hw : WT sh) (HS : SP sh) (tb : TB b n) (hj : j < 12) (t0 : TpC b n D p) (q0 : LQ D cs) (l0 : cs.length ≤ p) (hp : p ≤ n)
    (kf : ∀ f D', liS b n p cs = .inl f → FK j D D' → D' 1 2 = Int32.ofNat f → Q (.inl (some (.int (Int32.ofNat 0)))) (mk sh D') c s)
    (ky : ∀ p' c' kd a D', liS b n p cs = .inr (p', c', kd, a) → FK j D D' → TpC b n D' p' → LQ D' c' → D' 261 j = Int32.ofNat kd → D' 262 j = Int32.ofNat a → D' 263 j = Int32.ofNat c'.length → Q (.inl (some (.int (Int32.ofNat 1)))) (mk sh D') c s) :
    Wx (tP nx xs) (d + 17) 7 0 [some (.ref 260), some (.ref 1), (some (.int (Int32.ofNat j))), none] [] (mk sh D) c s Q := by
  have n10 : ¬ (Int32.ofNat 1 : Int32) = Int32.ofNat 0 := by decide
  have hn := tb.1
  have tn := oN_tn (show j < 2147483648 by omega)
  unfold liS at kf ky
  rw [b7_0 hw]
  simp only [pR_bytes HS, pI_length HS, pF_length HS, pI_place HS, pF_place HS, pI_number HS, pF_number HS, pI_textLength HS, pF_textLength HS, pI_begin HS, pF_begin HS, pO HS, pA_2 HS, pW_2 HS, wi_some, or_0, or_1, bo_or, ite_boP, true_and, and_true, kN_v, kN_n, kT_v, kT_n, kT_e, Nat.add_zero, Nat.zero_add, b71_0 hw]
  refine k71 (i := 14) hw HS tb t0 hp (by decide) (by decide +kernel) lwWs 0 0 (by decide +kernel) (by decide) ?_ ?_
  · intro k p1 D1 hO f1 t1 e13 e15
    obtain ⟨_, a0, a1, a2, _⟩ := oneF_some lwWs 0 p k p1 hO hp lw_1
    have a0 : k < 3 := by simpa [lwWs] using a0
    have nm : ¬ Int32.ofNat k = (-1 : Int32) := by rw [oN_ne1 (by omega)]; exact id
    simp only [hO] at kf ky
    simp only [wi_some, or_0, or_1, bo_or, ite_boP, true_and, and_true, kN_v, kN_n, kT_v, kT_n, kT_e, Nat.add_zero, Nat.zero_add, b7_6 hw, nm, if_false, lI_lines HS, lF_lines HS, lI_signs HS, lF_signs HS, lR_kinds HS, lR_amounts HS, lR_ends HS, lR_code HS, lO HS, lA_261 HS, lW_261 HS, lA_262 HS, lW_262 HS, lA_263 HS, lW_263 HS, lA_264 HS, lW_264 HS, hj, tn, b7_21 hw]
    -- the amount stands; behind it, a condition or none
    have aft : ∀ am p2 D2, amS b n k p1 = some (am, p2) → p1 ≤ p2 → p2 ≤ n → FK j D D2 → TpC b n D2 p2 → LQ D2 cs → D2 261 j = Int32.ofNat k → D2 262 j = Int32.ofNat am → Wx (tP nx xs) (d + 17) 7 56 [some (.ref 260), some (.ref 1), (some (.int (Int32.ofNat j))), (some (.int (Int32.ofNat k)))] [] (mk sh D2) c s Q := by
      intro am p2 D2 hA g1 g2 f2 t2 q2 x1 x2
      simp only [hA] at kf ky
      unfold ifS at kf ky
      -- at the end of the line
      have fin : ∀ p3 c3 D3, (∀ D', FK j D D' → TpC b n D' p3 → LQ D' c3 → D' 261 j = Int32.ofNat k → D' 262 j = Int32.ofNat am → D' 263 j = Int32.ofNat c3.length → Q (.inl (some (.int (Int32.ofNat 1)))) (mk sh D') c s) → FK j D D3 → TpC b n D3 p3 → LQ D3 c3 → D3 261 j = Int32.ofNat k → D3 262 j = Int32.ofNat am → Wx (tP nx xs) (d + 17) 7 76 [some (.ref 260), some (.ref 1), (some (.int (Int32.ofNat j))), (some (.int (Int32.ofNat k)))] [] (mk sh D3) c s Q := by
        intro p3 c3 D3 ky f3 t3 q3 y1 y2
        simp only [b7_76 hw, lI_lines HS, lF_lines HS, lI_signs HS, lF_signs HS, lR_kinds HS, lR_amounts HS, lR_ends HS, lR_code HS, lO HS, lA_261 HS, lW_261 HS, lA_262 HS, lW_262 HS, lA_263 HS, lW_263 HS, lA_264 HS, lW_264 HS, wi_some, or_0, or_1, bo_or, ite_boP, true_and, and_true, kN_v, kN_n, kT_v, kT_n, kT_e, Nat.add_zero, Nat.zero_add, hj, tn, q3.1, b7_86 hw]
        refine ky _ (f3.tr (FK.u2 (by decide))) (t3.w (by decide)) (q3.w (by decide) (by decide)) ?_ ?_ ?_
        · rw [u2_at, if_neg (by omega)]; exact y1
        · rw [u2_at, if_neg (by omega)]; exact y2
        · rw [u2_at, if_pos ⟨rfl, rfl⟩]
      simp only [b7_56 hw, pR_bytes HS, pI_length HS, pF_length HS, pI_place HS, pF_place HS, pI_number HS, pF_number HS, pI_textLength HS, pF_textLength HS, pI_begin HS, pF_begin HS, pO HS, pA_2 HS, pW_2 HS, wi_some, or_0, or_1, bo_or, ite_boP, true_and, and_true, kN_v, kN_n, kT_v, kT_n, kT_e, Nat.add_zero, Nat.zero_add]
      refine k70 (i := 15) (w := wIf) hw HS tb t2 g2 (by decide) (by decide +kernel) (by decide +kernel) ?_ ?_
      · intro p3 D3 hW f3 t3 e33 e35
        obtain ⟨_, _, s1, s2, _⟩ := wrd_some hW g2
        have s1 : p2 + 2 ≤ p3 := s1
        simp only [hW] at kf ky
        simp only [wi_some, or_0, or_1, bo_or, ite_boP, true_and, and_true, kN_v, kN_n, kT_v, kT_n, kT_e, Nat.add_zero, Nat.zero_add, b7_62 hw, n10, if_false, lI_lines HS, lF_lines HS, lI_signs HS, lF_signs HS, lR_kinds HS, lR_amounts HS, lR_ends HS, lR_code HS, lO HS, lA_261 HS, lW_261 HS, lA_262 HS, lW_262 HS, lA_263 HS, lW_263 HS, lA_264 HS, lW_264 HS]
        refine k9 (δ := d + 13) (e := 0) (h := 0) hw HS tb (by decide) ((pA_gd (b := b) (n := n) 6 (by omega)).le (by omega)) (k10 (nx := nx) (xs := xs) hw HS tb 6 (Nat.le_refl _) d) p3 cs D3 0 0 _ ⟨t3, q2.f1 f3, by omega, s2⟩ ?_ ?_
        · intro f D4 hP g4 e4
          simp only [hP] at kf
          simp only [wi_some, or_0, or_1, bo_or, ite_boP, true_and, and_true, kN_v, kN_n, kT_v, kT_n, kT_e, Nat.add_zero, Nat.zero_add, b7_71 hw, if_true]
          exact kf f D4 rfl ((f2.tr f3.fk).tr g4.fk) e4
        · intro p4 c4 D4 hP g4 lc4
          simp only [hP] at ky
          simp only [wi_some, or_0, or_1, bo_or, ite_boP, true_and, and_true, kN_v, kN_n, kT_v, kT_n, kT_e, Nat.add_zero, Nat.zero_add, b7_71 hw, n10, if_false]
          refine fin p4 c4 D4 (fun D' => ky p4 c4 k am D' rfl) ((f2.tr f3.fk).tr g4.fk) lc4.1 lc4.2.1 ?_ ?_
          · rw [g4 261 j (by omega) (by omega) (by decide), f3 261 j (by omega)]; exact x1
          · rw [g4 262 j (by omega) (by omega) (by decide), f3 262 j (by omega)]; exact x2
      · intro hW
        simp only [hW] at ky
        simp only [wi_some, or_0, or_1, bo_or, ite_boP, true_and, and_true, kN_v, kN_n, kT_v, kT_n, kT_e, Nat.add_zero, Nat.zero_add, b7_62 hw, if_true]
        exact fin p2 cs D2 (fun D' => ky p2 cs k am D' rfl) f2 t2 q2 x1 x2
    have t2 : TpC b n (u2 (u2 D1 261 j (Int32.ofNat k)) 262 j (Int32.ofNat 1)) p1 := (t1.w (by decide)).w (by decide)
    have q2 : LQ (u2 (u2 D1 261 j (Int32.ofNat k)) 262 j (Int32.ofNat 1)) cs := ((q0.f1 f1).w (by decide) (by decide)).w (by decide) (by decide)
    have f2 : FK j D (u2 (u2 D1 261 j (Int32.ofNat k)) 262 j (Int32.ofNat 1)) := (f1.fk.tr (FK.u2 (by decide))).tr (FK.u2 (by decide))
    have x1 : u2 (u2 D1 261 j (Int32.ofNat k)) 262 j (Int32.ofNat 1) 261 j = Int32.ofNat k := by rw [u2_at, if_neg (by omega), u2_at, if_pos ⟨rfl, rfl⟩]
    have x2 : u2 (u2 D1 261 j (Int32.ofNat k)) 262 j (Int32.ofNat 1) 262 j = Int32.ofNat 1 := by rw [u2_at, if_pos ⟨rfl, rfl⟩]
    generalize u2 (u2 D1 261 j (Int32.ofNat k)) 262 j (Int32.ofNat 1) = D2 at *
    simp only [b7_28 hw, oN_eq (show k < 2147483648 by omega) (show 2 < 2147483648 by omega)]
    by_cases h2 : k = 2
    · simp only [h2, if_true]
      rw [h2] at aft x1
      exact aft 1 p1 D2 (by unfold amS; rw [if_pos rfl]) (Nat.le_refl _) a2 f2 t2 q2 x1 x2
    · simp only [h2, if_false, pR_bytes HS, pI_length HS, pF_length HS, pI_place HS, pF_place HS, pI_number HS, pF_number HS, pI_textLength HS, pF_textLength HS, pI_begin HS, pF_begin HS, pO HS, pA_2 HS, pW_2 HS, wi_some, or_0, or_1, bo_or, ite_boP, true_and, and_true, kN_v, kN_n, kT_v, kT_n, kT_e, Nat.add_zero, Nat.zero_add]
      refine k73c hw HS tb t2 a2 (by decide) (by decide) ?_ ?_
      · intro v p2 D3 hN f3 t3 e33 e35
        obtain ⟨b1, b2, _⟩ := num_some hN a2
        simp only [wi_some, or_0, or_1, bo_or, ite_boP, true_and, and_true, kN_v, kN_n, kT_v, kT_n, kT_e, Nat.add_zero, Nat.zero_add, b7_41 hw, n10, if_false, lI_lines HS, lF_lines HS, lI_signs HS, lF_signs HS, lR_kinds HS, lR_amounts HS, lR_ends HS, lR_code HS, lO HS, lA_261 HS, lW_261 HS, lA_262 HS, lW_262 HS, lA_263 HS, lW_263 HS, lA_264 HS, lW_264 HS, pR_bytes HS, pI_length HS, pF_length HS, pI_place HS, pF_place HS, pI_number HS, pF_number HS, pI_textLength HS, pF_textLength HS, pI_begin HS, pF_begin HS, pO HS, pA_2 HS, pW_2 HS, hj, tn, e33]
        refine aft v p2 _ (by unfold amS; rw [if_neg h2]; exact hN) (by omega) b2 ((f2.tr f3.fk).tr (FK.u2 (by decide))) (t3.w (by decide)) ((q2.f1 f3).w (by decide) (by decide)) ?_ ?_
        · rw [u2_at, if_neg (by omega), f3 261 j (by omega)]; exact x1
        · rw [u2_at, if_pos ⟨rfl, rfl⟩]
      · intro hN
        have hA : amS b n k p1 = none := by unfold amS; rw [if_neg h2]; exact hN
        simp only [hA] at kf
        simp only [wi_some, or_0, or_1, bo_or, ite_boP, true_and, and_true, kN_v, kN_n, kT_v, kT_n, kT_e, Nat.add_zero, Nat.zero_add, b7_41 hw, if_true]
        exact kf p1 D2 rfl f2 t2.1
  · intro hO
    simp only [hO] at kf
    simp only [wi_some, or_0, or_1, bo_or, ite_boP, true_and, and_true, kN_v, kN_n, kT_v, kT_n, kT_e, Nat.add_zero, Nat.zero_add, b7_6 hw, if_true]
    exact kf p D rfl (fun _ _ _ _ _ _ => rfl) t0.1
/-- the lines as they stand -/
def LN (D : sD) (ls : List (Nat × Nat × Nat)) : Prop := ∀ j, j < ls.length → D 261 j = Int32.ofNat (ls.getD j (0, 0, 0)).1 ∧ D 262 j = Int32.ofNat (ls.getD j (0, 0, 0)).2.1 ∧ D 263 j = Int32.ofNat (ls.getD j (0, 0, 0)).2.2
def FT (D D' : sD) : Prop := ∀ e i, ¬ (e = 1 ∧ (i = 2 ∨ i = 3 ∨ i = 5)) → ¬ (260 ≤ e ∧ e < 265) → D' e i = D e i
theorem FT.tr {D D' D'' : sD} (h : FT D D') (h' : FT D' D'') : FT D D'' := fun e i h1 h2 => (h' e i h1 h2).trans (h e i h1 h2)
theorem FK.ft {j : Nat} {D D' : sD} (h : FK j D D') : FT D D' := fun e i h1 h2 => h e i h1 (by omega) (by omega) (by omega)
theorem F1.ft {D D' : sD} (h : F1 D D') : FT D D' := fun e i h1 _ => h e i h1
theorem FT.u2 {i a : Nat} {v : Int32} {D : sD} (h : 260 ≤ a ∧ a < 265) : FT D (u2 D a i v) := fun e i _ h4 => by rw [u2_at, if_neg (fun x => h4 (by omega))]
theorem gDl_app {l : List (Nat × Nat × Nat)} {x : Nat × Nat × Nat} {i : Nat} (hi : i < l.length + 1) : (l ++ [x]).getD i (0, 0, 0) = if i = l.length then x else l.getD i (0, 0, 0) := by
  simp only [List.getD_eq_getElem?_getD, List.getElem?_append]
  by_cases e : i = l.length
  · subst e; simp
  · rw [if_neg e, if_pos (by omega)]
theorem k6 (hw : WT sh) (HS : SP sh) (tb : TB b n) (t0 : TpC b n D (sk b n 0))
    (kf : ∀ f D', lwS b n = .inl f → FT D D' → D' 1 2 = Int32.ofNat f → Q (.inl (some (.int (Int32.ofNat 0)))) (mk sh D') c s)
    (ky : ∀ ls cs D', lwS b n = .inr (ls, cs) → FT D D' → LQ D' cs → LN D' ls → D' 260 0 = Int32.ofNat ls.length → Q (.inl (some (.int (Int32.ofNat 1)))) (mk sh D') c s) :
    Wx (tP nx xs) (d + 18) 6 0 [some (.ref 260), some (.ref 1), none] [] (mk sh D) c s Q := by
  have n10 : ¬ (Int32.ofNat 1 : Int32) = Int32.ofNat 0 := by decide
  have hn := tb.1
  have hs : sk b n 0 ≤ n := sk_le (Nat.zero_le _)
  unfold lwS at kf ky
  simp only [b6_0 hw, b6_5 hw, b6_10 hw, lI_lines HS, lF_lines HS, lI_signs HS, lF_signs HS, lR_kinds HS, lR_amounts HS, lR_ends HS, lR_code HS, lO HS, lA_261 HS, lW_261 HS, lA_262 HS, lW_262 HS, lA_263 HS, lW_263 HS, lA_264 HS, lW_264 HS, pR_bytes HS, pI_length HS, pF_length HS, pI_place HS, pF_place HS, pI_number HS, pF_number HS, pI_textLength HS, pF_textLength HS, pI_begin HS, pF_begin HS, pO HS, pA_2 HS, pW_2 HS, wi_some, or_0, or_1, bo_or, ite_boP, true_and, and_true, kN_v, kN_n, kT_v, kT_n, kT_e, Nat.add_zero, Nat.zero_add]
  have f0 : FT D (u2 (u2 D 260 0 (Int32.ofNat 0)) 260 1 (Int32.ofNat 0)) := (FT.u2 (by decide)).tr (FT.u2 (by decide))
  have t1 : TpC b n (u2 (u2 D 260 0 (Int32.ofNat 0)) 260 1 (Int32.ofNat 0)) (sk b n 0) := (t0.w (by decide)).w (by decide)
  have q1 : LQ (u2 (u2 D 260 0 (Int32.ofNat 0)) 260 1 (Int32.ofNat 0)) [] := ⟨by rw [u2_at, if_pos ⟨rfl, rfl⟩]; rfl, fun i hi => absurd hi (Nat.not_lt_zero _)⟩
  have x1 : u2 (u2 D 260 0 (Int32.ofNat 0)) 260 1 (Int32.ofNat 0) 260 0 = Int32.ofNat 0 := by rw [u2_at, if_neg (by omega), u2_at, if_pos ⟨rfl, rfl⟩]
  generalize u2 (u2 D 260 0 (Int32.ofNat 0)) 260 1 (Int32.ofNat 0) = D1 at *
  rw [k66 hw HS tb t1 hs]
  simp only [wi_some, or_0, or_1, bo_or, ite_boP, true_and, and_true, kN_v, kN_n, kT_v, kT_n, kT_e, Nat.add_zero, Nat.zero_add, b6_14 hw]
  by_cases hE : sk b n 0 = n
  · simp only [hE, if_true] at ky
    simp only [hE, decide_true, bo_t, n10, if_false]
    exact ky [] [] D1 rfl f0 q1 (fun j hj => absurd hj (Nat.not_lt_zero _)) x1
  simp only [hE, if_false] at kf ky
  simp only [hE, decide_false, bo_f, if_true]
  have lp : ∀ k (ls : List (Nat × Nat × Nat)) p cs D2, ls.length + k = 12 → FT D D2 → TpC b n D2 p → LQ D2 cs → LN D2 ls → cs.length ≤ p → p ≤ n → (∀ f D', lisS b n k ls p cs = .inl f → FT D D' → D' 1 2 = Int32.ofNat f → Q (.inl (some (.int (Int32.ofNat 0)))) (mk sh D') c s) →
      (∀ ls' cs' D', lisS b n k ls p cs = .inr (ls', cs') → FT D D' → LQ D' cs' → LN D' ls' → D' 260 0 = Int32.ofNat ls'.length → Q (.inl (some (.int (Int32.ofNat 1)))) (mk sh D') c s) →
      Wx (tP nx xs) (d + 18) 6 21 [some (.ref 260), some (.ref 1), (some (.int (Int32.ofNat ls.length)))] [] (mk sh D2) c s Q := by
    intro k
    induction k with
    | zero =>
      intro ls p cs D2 hk f2 t2 q2 n2 l2 hp kf ky
      rw [b6_21 hw]
      simp only [oN_lt (show ls.length < 2147483648 by omega) (show 12 < 2147483648 by omega), show ¬ ls.length < 12 by omega, if_false]
      exact kf p D2 rfl f2 t2.1
    | succ k ih =>
      intro ls p cs D2 hk f2 t2 q2 n2 l2 hp kf ky
      have hj : ls.length < 12 := by omega
      unfold lisS at kf ky
      rw [b6_21 hw]
      simp only [oN_lt (show ls.length < 2147483648 by omega) (show 12 < 2147483648 by omega), hj, if_true, lI_lines HS, lF_lines HS, lI_signs HS, lF_signs HS, lR_kinds HS, lR_amounts HS, lR_ends HS, lR_code HS, lO HS, lA_261 HS, lW_261 HS, lA_262 HS, lW_262 HS, lA_263 HS, lW_263 HS, lA_264 HS, lW_264 HS, wi_some, or_0, or_1, bo_or, ite_boP, true_and, and_true, kN_v, kN_n, kT_v, kT_n, kT_e, Nat.add_zero, Nat.zero_add]
      refine k7 hw HS tb hj t2 q2 l2 hp ?_ ?_
      · intro f D3 hP g3 e3
        simp only [hP] at kf
        simp only [wi_some, or_0, or_1, bo_or, ite_boP, true_and, and_true, kN_v, kN_n, kT_v, kT_n, kT_e, Nat.add_zero, Nat.zero_add, b6_33 hw, if_true]
        exact kf f D3 rfl (f2.tr g3.ft) e3
      intro p1 c1 kd a D3 hP g3 t3 q3 y1 y2 y3
      obtain ⟨a1, a2, a3, a4, _, new, a5, a6, _⟩ := liS_gd hp p1 c1 kd a hP
      simp only [hP] at kf ky
      simp only [wi_some, or_0, or_1, bo_or, ite_boP, true_and, and_true, kN_v, kN_n, kT_v, kT_n, kT_e, Nat.add_zero, Nat.zero_add, b6_33 hw, n10, if_false, lI_lines HS, lF_lines HS, lI_signs HS, lF_signs HS, lR_kinds HS, lR_amounts HS, lR_ends HS, lR_code HS, lO HS, lA_261 HS, lW_261 HS, lA_262 HS, lW_262 HS, lA_263 HS, lW_263 HS, lA_264 HS, lW_264 HS, oN_add, b6_45 hw, pR_bytes HS, pI_length HS, pF_length HS, pI_place HS, pF_place HS, pI_number HS, pF_number HS, pI_textLength HS, pF_textLength HS, pI_begin HS, pF_begin HS, pO HS, pA_2 HS, pW_2 HS]
      have f4 : FT D (u2 D3 260 0 (Int32.ofNat (ls.length + 1))) := (f2.tr g3.ft).tr (FT.u2 (by decide))
      have t4 : TpC b n (u2 D3 260 0 (Int32.ofNat (ls.length + 1))) p1 := t3.w (by decide)
      have q4 : LQ (u2 D3 260 0 (Int32.ofNat (ls.length + 1))) c1 := ⟨by rw [u2_at, if_neg (by omega)]; exact q3.1, fun i hi => by rw [u2_at, if_neg (by omega)]; exact q3.2 i hi⟩
      have n4 : LN (u2 D3 260 0 (Int32.ofNat (ls.length + 1))) (ls ++ [(kd, a, c1.length)]) := fun j hj => by
        rw [List.length_append, List.length_singleton] at hj
        rw [gDl_app hj]
        simp only [u2_at, show ¬ ((261 : Nat) = 260 ∧ j = 0) by omega, show ¬ ((262 : Nat) = 260 ∧ j = 0) by omega, show ¬ ((263 : Nat) = 260 ∧ j = 0) by omega, if_false]
        by_cases e : j = ls.length
        · subst e; simp only [if_true]; exact ⟨y1, y2, y3⟩
        · rw [if_neg e, g3 261 j (by omega) (by omega) (by decide) (by omega), g3 262 j (by omega) (by omega) (by decide) (by omega), g3 263 j (by omega) (by omega) (by decide) (by omega)]
          exact n2 j (by omega)
      have x4 : u2 D3 260 0 (Int32.ofNat (ls.length + 1)) 260 0 = Int32.ofNat (ls.length + 1) := by rw [u2_at, if_pos ⟨rfl, rfl⟩]
      generalize u2 D3 260 0 (Int32.ofNat (ls.length + 1)) = D4 at *
      have hl : (ls ++ [(kd, a, c1.length)]).length = ls.length + 1 := by rw [List.length_append, List.length_singleton]
      have hc : c1.length ≤ p1 := by rw [a5, List.length_append]; omega
      refine k69 hw HS tb t4 a2 (by decide) ?_ ?_
      · intro p2 D5 hS f5 t5 e53 e55
        obtain ⟨_, _, _, s1, s2, _⟩ := sgn_some hS
        simp only [hS] at kf ky
        simp only [wi_some, or_0, or_1, bo_or, ite_boP, true_and, and_true, kN_v, kN_n, kT_v, kT_n, kT_e, Nat.add_zero, Nat.zero_add, b6_51 hw, n10, if_false, oN_add]
        rw [← hl]
        refine ih _ p2 c1 D5 (by rw [hl]; omega) (f4.tr f5.ft) t5 (q4.f1 f5) (fun j hj => ?_) (by omega) s2 kf ky
        rw [f5 261 j (by omega), f5 262 j (by omega), f5 263 j (by omega)]
        exact n4 j hj
      · intro hS
        simp only [hS] at kf ky
        simp only [wi_some, or_0, or_1, bo_or, ite_boP, true_and, and_true, kN_v, kN_n, kT_v, kT_n, kT_e, Nat.add_zero, Nat.zero_add, b6_51 hw, if_true, pR_bytes HS, pI_length HS, pF_length HS, pI_place HS, pF_place HS, pI_number HS, pF_number HS, pI_textLength HS, pF_textLength HS, pI_begin HS, pF_begin HS, pO HS, pA_2 HS, pW_2 HS]
        rw [k66 hw HS tb t4 a2]
        simp only [wi_some, or_0, or_1, bo_or, ite_boP, true_and, and_true, kN_v, kN_n, kT_v, kT_n, kT_e, Nat.add_zero, Nat.zero_add, b6_58 hw]
        by_cases hE2 : p1 = n
        · simp only [hE2, if_true] at ky
          simp only [hE2, decide_true, bo_t]
          exact ky _ _ D4 rfl f4 q4 n4 (by rw [hl]; exact x4)
        · simp only [hE2, if_false] at kf
          simp only [hE2, decide_false, bo_f]
          exact kf p1 D4 rfl f4 t4.1
  exact lp 12 [] (sk b n 0) [] D1 rfl f0 t1 q1 (fun j hj => absurd hj (Nat.not_lt_zero _)) (Nat.zero_le _) hs kf ky
end CC5
