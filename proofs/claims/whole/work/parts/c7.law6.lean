/-! ===== law, in the class ===== -/
def enL (ls : List (Nat × Nat × Nat)) : Nat → Nat
  | 0 => 0
  | j + 1 => (ls.getD j (0, 0, 0)).2.2
theorem tyR_tyLs {C : Nat → Int32} : ∀ (new : List Int32) (i : Nat) (l : List Bool), (∀ x, x < new.length → C (i + x) = new.getD x 0) → tyR C new.length i l = tyLs new l
  | [], _, _, _ => rfl
  | a :: r, i, l, h => by
    have h0 : C i = a := h 0 (by simp)
    have hr : ∀ x, x < r.length → C (i + 1 + x) = r.getD x 0 := fun x hx => by
      have := h (x + 1) (by simp only [List.length_cons]; omega)
      rw [show i + 1 + x = i + (x + 1) by omega, this]
      rfl
    show (match ty1 (C i) l with
      | some l' => tyR C r.length (i + 1) l'
      | none => none) = (match ty1 a l with
      | some l' => tyLs r l'
      | none => none)
    rw [h0]
    cases ty1 a l with
    | none => rfl
    | some l' => exact tyR_tyLs r (i + 1) l' hr
def LsOk (ls : List (Nat × Nat × Nat)) (cs : List Int32) : Prop := enL ls ls.length = cs.length ∧ ∀ j, j < ls.length → (ls.getD j (0, 0, 0)).1 < 3 ∧ (ls.getD j (0, 0, 0)).2.1 ≤ 200 ∧ ((ls.getD j (0, 0, 0)).1 = 2 → (ls.getD j (0, 0, 0)).2.1 = 1) ∧ enL ls j ≤ enL ls (j + 1) ∧ enL ls (j + 1) ≤ cs.length ∧ ∀ C : Nat → Int32, (∀ i, i < cs.length → C i = cs.getD i 0) → enL ls (j + 1) = enL ls j ∨ tyR C (enL ls (j + 1) - enL ls j) (enL ls j) [] = some [true]
theorem enL_app {ls : List (Nat × Nat × Nat)} {x : Nat × Nat × Nat} {j : Nat} (hj : j ≤ ls.length) : enL (ls ++ [x]) j = enL ls j := by
  cases j with
  | zero => rfl
  | succ j => show ((ls ++ [x]).getD j (0, 0, 0)).2.2 = _; rw [gDl_app (by omega), if_neg (by omega)]; rfl
theorem enL_last {ls : List (Nat × Nat × Nat)} {x : Nat × Nat × Nat} : enL (ls ++ [x]) (ls.length + 1) = x.2.2 := by
  show ((ls ++ [x]).getD ls.length (0, 0, 0)).2.2 = _
  rw [gDl_app (by omega), if_pos rfl]
theorem getD_apl {l r : List Int32} {i : Nat} (hi : i < l.length) : (l ++ r).getD i 0 = l.getD i 0 := by
  simp only [List.getD_eq_getElem?_getD, List.getElem?_append_left hi]
theorem getD_apr {l r : List Int32} {i : Nat} : (l ++ r).getD (l.length + i) 0 = r.getD i 0 := by
  simp only [List.getD_eq_getElem?_getD]
  rw [List.getElem?_append_right (by omega), show l.length + i - l.length = i by omega]
section LOK
variable {b : Nat → Nat} {n : Nat}
theorem LsOk.app {ls : List (Nat × Nat × Nat)} {cs : List Int32} {p p1 kd a : Nat} {c1 : List Int32} (h : LsOk ls cs) (hp : p ≤ n) (hP : liS b n p cs = .inr (p1, c1, kd, a)) : LsOk (ls ++ [(kd, a, c1.length)]) c1 := by
  obtain ⟨h1, h2⟩ := h
  obtain ⟨a1, a2, a3, a4, a5, new, a6, a7, a8⟩ := liS_gd hp p1 c1 kd a hP
  have hl : (ls ++ [(kd, a, c1.length)]).length = ls.length + 1 := by rw [List.length_append, List.length_singleton]
  refine ⟨by rw [hl, enL_last], fun j hj => ?_⟩
  rw [hl] at hj
  rw [gDl_app hj, enL_app (show j ≤ ls.length by omega)]
  by_cases e : j = ls.length
  · rw [if_pos e]
    subst e
    rw [enL_last, h1]
    refine ⟨a3, a4, a5, ?_, Nat.le_refl _, fun C hC => ?_⟩
    · show cs.length ≤ c1.length
      rw [a6, List.length_append]; omega
    · show c1.length = cs.length ∨ tyR C (c1.length - cs.length) cs.length [] = some [true]
      have el : c1.length = cs.length + new.length := by rw [a6, List.length_append]
      cases a8 with
      | inl e => left; rw [el, e]; rfl
      | inr e =>
        right
        rw [el, show cs.length + new.length - cs.length = new.length by omega, tyR_tyLs new cs.length [] (fun x hx => ?_)]
        · exact e
        · rw [hC _ (by omega), a6, getD_apr]
  · rw [if_neg e, enL_app (show j + 1 ≤ ls.length by omega)]
    obtain ⟨b1, b2, b3, b4, b5, b6⟩ := h2 j (by omega)
    refine ⟨b1, b2, b3, b4, by rw [a6, List.length_append]; omega, fun C hC => b6 C fun i hi => ?_⟩
    rw [hC i (by rw [a6, List.length_append]; omega), a6, getD_apl hi]
theorem lisS_ok : ∀ (k : Nat) (ls : List (Nat × Nat × Nat)) (p : Nat) (cs : List Int32), p ≤ n → cs.length ≤ p → ls.length + k ≤ 12 → LsOk ls cs → ∀ ls' cs', lisS b n k ls p cs = .inr (ls', cs') → LsOk ls' cs' ∧ ls'.length ≤ 12 ∧ cs'.length ≤ n
  | 0, _, _, _, _, _, _, _, _, _, h => by cases h
  | k + 1, ls, p, cs, hp, hc, hk, ok, ls', cs', h => by
    unfold lisS at h
    cases hP : liS b n p cs with
    | inl f => rw [hP] at h; cases h
    | inr x =>
      obtain ⟨p1, c1, kd, a⟩ := x
      obtain ⟨a1, a2, a3, a4, _, new, a5, a6, _⟩ := liS_gd hp p1 c1 kd a hP
      have hc1 : c1.length ≤ p1 := by rw [a5, List.length_append]; omega
      have ok1 := ok.app hp hP
      have hl : (ls ++ [(kd, a, c1.length)]).length = ls.length + 1 := by rw [List.length_append, List.length_singleton]
      rw [hP] at h
      simp only at h
      cases hS : sgq b n 59 p1 with
      | some p2 =>
        obtain ⟨_, _, _, s1, s2, _⟩ := sgn_some hS
        rw [hS] at h
        exact lisS_ok k _ p2 c1 s2 (by omega) (by rw [hl]; omega) ok1 ls' cs' h
      | none =>
        rw [hS] at h
        simp only at h
        by_cases hE : p1 = n
        · rw [if_pos hE] at h
          cases h
          exact ⟨ok1, by rw [hl]; omega, by omega⟩
        · rw [if_neg hE] at h; cases h
theorem lwS_ok {ls : List (Nat × Nat × Nat)} {cs : List Int32} (h : lwS b n = .inr (ls, cs)) : LsOk ls cs ∧ ls.length ≤ 12 ∧ cs.length ≤ n := by
  unfold lwS at h
  have o0 : LsOk [] [] := ⟨rfl, fun j hj => absurd hj (Nat.not_lt_zero _)⟩
  by_cases hE : sk b n 0 = n
  · rw [if_pos hE] at h; cases h; exact ⟨o0, by decide, Nat.zero_le _⟩
  · rw [if_neg hE] at h
    exact lisS_ok 12 [] _ [] (sk_le (Nat.zero_le _)) (Nat.zero_le _) (by decide) o0 ls cs h
end LOK
theorem sRf_of {p : Nat} (hp : p + 1 < 2147483648) : sRf (Int32.ofNat (p + 1)) = some p := by
  unfold sRf; rw [oN_tn hp]
theorem Lc.nw {sh : List sC} {D D' : sD} {fs : List Nat} {tl : List sC} {y : Int32} {lw : LW} (h : Lc sh D y lw) (hD : ∀ b, 301 ≤ b → b < sh.length → D' b = D b) : Lc (Nw sh fs tl) D' y lw := by
  cases lw with
  | none => exact h
  | some L =>
    obtain ⟨n, K, A, C, e⟩ := L
    have h' := h
    obtain ⟨p, m, hp, h3, hs, _⟩ := h
    have hl := lt_of_get hs.2.2.2.2.2.2.1
    have h2 : Lc sh D' y (some (n, K, A, C, e)) := h'.of fun p' hp' k hk => hD _ (by rw [hp] at hp'; cases hp'; omega) (by rw [hp] at hp'; cases hp'; omega)
    obtain ⟨p', m', hp', h3', hs', r⟩ := h2
    have o : ∀ {a : Nat} {x : sC}, sh[a]? = some x → (Nw sh fs tl)[a]? = some x := fun {a x} h => by rw [Nw_old (lt_of_get h)]; exact h
    exact ⟨p', m', hp', h3', ⟨o hs'.1, o hs'.2.1, o hs'.2.2.1, o hs'.2.2.2.1, o hs'.2.2.2.2.1, o hs'.2.2.2.2.2.1, o hs'.2.2.2.2.2.2.1, hs'.2.2.2.2.2.2.2⟩, r⟩
def lwG (G : GT) (x : Int32) (K A C : Nat → Int32) (ls : List (Nat × Nat × Nat)) : GT := ((u2 (gV G.1) 0 14 x, (gt G.1), (gg G.1), (gr G.1), (gl G.1), some (ls.length, K, A, C, enL ls)), G.2.1, [], G.2.2.2.1, 0, -1)
section CC7
variable {nx : Nat} {xs : Nat → Int32} {d c s : Nat} {sh : List sC} {D : sD} {Q : av_Q}
variable {G : GT}
theorem c_law {p : Nat} (hv : GV G) (h : GC sh D G) (hp : sh.length = p) (hpp : p < 2000000)
    (kf : ∀ f D', lwS (tv G) (tl G) = .inl f → GC sh D' (txG G (Int32.ofNat f)) → Fc D D' → Q (.inr xIA) (mk sh D') (c + 1) (s + 6))
    (ky : ∀ ls cs K A C D', lwS (tv G) (tl G) = .inr (ls, cs) → (∀ j, j < ls.length → K j = Int32.ofNat (ls.getD j (0, 0, 0)).1 ∧ A j = Int32.ofNat (ls.getD j (0, 0, 0)).2.1) → (∀ i, i < cs.length → C i = cs.getD i 0) → GC (Nw sh (LF p) (LB p ls.length cs.length)) D' (lwG G (Int32.ofNat (p + 1)) K A C ls) → Fc D D' → Q (.inl (some (.int (Int32.ofNat ls.length)))) (mk (Nw sh (LF p) (LB p ls.length cs.length)) D') (c + 7) (s + (49 + 3 * ls.length + cs.length))) :
    Wx (tP nx xs) (d + 19) 98 0 [some (.ref 0)] [] (mk sh D) c s Q := by
  have hw := h.1.2
  have HS := h.1.1
  have H := St_state HS
  have I := hv.1
  have hV := h.2.1.1
  have hng := i_ng6 I
  have hnt := i_nt8 I
  have hnr := i_nr5 I
  have hnl := i_nl60 I
  have hx := h.L
  have hL := h.2.1.2
  have n10 : ¬ (Int32.ofNat 1 : Int32) = Int32.ofNat 0 := by decide
  have h3 := HS.len
  have tb : TB (tv G) (tl G) := ⟨hv.2.2.2.2.1, fun i hi => (tv_of hv hi).1⟩
  have g9 : D 1 1 = Int32.ofNat (tl G) := h.2.2.2.2.1.1
  have g10 : ∀ i, i < tl G → D 2 i = Int32.ofNat (tv G i) := fun i hi => by rw [h.2.2.2.2.1.2 i hi]; exact (tv_of hv hi).2
  simp only [b98_0 hw, xR_tape HS, xI_wrongAt HS, xF_wrongAt HS, xR_state HS, xR_image HS, xI_imageKept HS, xF_imageKept HS, xR_draft HS, xR_memory HS, xR_lawText HS, xR_worlds HS, xI_worldsFresh HS, xF_worldsFresh HS, xR_otherWorlds HS, xR_seating HS, xR_pairing HS, xI_toldSo HS, xF_toldSo HS, xI_toldNot HS, xF_toldNot HS, xO HS, wi_some, or_0, or_1, bo_or, ite_boP, true_and, and_true, kN_v, kN_n, kT_v, kT_n, kT_e, Nat.add_zero, Nat.zero_add, pR_bytes HS, pI_length HS, pF_length HS, pI_place HS, pF_place HS, pI_number HS, pF_number HS, pI_textLength HS, pF_textLength HS, pI_begin HS, pF_begin HS, pO HS, pA_2 HS, pW_2 HS]
  refine k65 hw HS tb g9 g10 ?_
  intro D2 f2 t2 l2
  simp only [wi_some, or_0, or_1, bo_or, ite_boP, true_and, and_true, kN_v, kN_n, kT_v, kT_n, kT_e, Nat.add_zero, Nat.zero_add, b98_7 hw, xR_tape HS, xI_wrongAt HS, xF_wrongAt HS, xR_state HS, xR_image HS, xI_imageKept HS, xF_imageKept HS, xR_draft HS, xR_memory HS, xR_lawText HS, xR_worlds HS, xI_worldsFresh HS, xF_worldsFresh HS, xR_otherWorlds HS, xR_seating HS, xR_pairing HS, xI_toldSo HS, xF_toldSo HS, xI_toldNot HS, xF_toldNot HS, xO HS, lI_lines HS, lF_lines HS, lI_signs HS, lF_signs HS, lR_kinds HS, lR_amounts HS, lR_ends HS, lR_code HS, lO HS, lA_261 HS, lW_261 HS, lA_262 HS, lW_262 HS, lA_263 HS, lW_263 HS, lA_264 HS, lW_264 HS]
  refine k6 hw HS tb t2 ?_ ?_
  · intro f D3 hf f3 e3
    simp only [wi_some, or_0, or_1, bo_or, ite_boP, true_and, and_true, kN_v, kN_n, kT_v, kT_n, kT_e, Nat.add_zero, Nat.zero_add, b98_19 hw, xR_tape HS, xI_wrongAt HS, xF_wrongAt HS, xR_state HS, xR_image HS, xI_imageKept HS, xF_imageKept HS, xR_draft HS, xR_memory HS, xR_lawText HS, xR_worlds HS, xI_worldsFresh HS, xF_worldsFresh HS, xR_otherWorlds HS, xR_seating HS, xR_pairing HS, xI_toldSo HS, xF_toldSo HS, xI_toldNot HS, xF_toldNot HS, xO HS, b99_0 hw, if_true, pR_bytes HS, pI_length HS, pF_length HS, pI_place HS, pF_place HS, pI_number HS, pF_number HS, pI_textLength HS, pF_textLength HS, pI_begin HS, pF_begin HS, pO HS, pA_2 HS, pW_2 HS, e3, b99_16 hw, b99_19 hw]
    have d3 : ∀ e i, ¬ e = 1 → ¬ (260 ≤ e ∧ e < 265) → ¬ (e = 0 ∧ i = 1) → u2 D3 0 1 (Int32.ofNat f) e i = D e i := fun e i a1 a2 a3 => by rw [u2_at, if_neg (by omega), f3 e i (by omega) (by omega), f2 e i a1]
    refine kf f _ hf (h.txt (fun e i a1 _ a2 a3 => d3 e i a1 a2 a3) ?_ ?_) (fun e a1 a2 => funext fun i => d3 e i (by omega) (by omega) (by omega))
    · rw [u2_at, if_neg (by omega), f3 1 1 (by omega) (by omega)]; exact l2
    · rw [u2_at, if_pos ⟨rfl, rfl⟩]
  intro ls cs D3 hf f3 q3 n3 x3
  obtain ⟨ok, o1, o2⟩ := lwS_ok hf
  have htl := hv.2.2.2.2.1
  have o2 : cs.length ≤ 400 := Nat.le_trans o2 htl
  simp only [wi_some, or_0, or_1, bo_or, ite_boP, true_and, and_true, kN_v, kN_n, kT_v, kT_n, kT_e, Nat.add_zero, Nat.zero_add, b98_19 hw, xR_tape HS, xI_wrongAt HS, xF_wrongAt HS, xR_state HS, xR_image HS, xI_imageKept HS, xF_imageKept HS, xR_draft HS, xR_memory HS, xR_lawText HS, xR_worlds HS, xI_worldsFresh HS, xF_worldsFresh HS, xR_otherWorlds HS, xR_seating HS, xR_pairing HS, xI_toldSo HS, xF_toldSo HS, xI_toldNot HS, xF_toldNot HS, xO HS, b99_0 hw, n10, if_false, b99_16 hw, b99_19 hw]
  have d3 : ∀ e i, ¬ e = 1 → ¬ (260 ≤ e ∧ e < 265) → ¬ (e = 0 ∧ i = 1) → u2 D3 0 1 (-1) e i = D e i := fun e i a1 a2 a3 => by rw [u2_at, if_neg (by omega), f3 e i (by omega) (by omega), f2 e i a1]
  have h4 : GC sh (u2 D3 0 1 (-1)) (txG G (-1)) := h.txt (fun e i a1 _ a2 a3 => d3 e i a1 a2 a3) (by rw [u2_at, if_neg (by omega), f3 1 1 (by omega) (by omega)]; exact l2) (by rw [u2_at, if_pos ⟨rfl, rfl⟩])
  have r4 : ∀ e i, 2 ≤ e → u2 D3 0 1 (-1) e i = D3 e i := fun e i he => by rw [u2_at, if_neg (by omega)]
  generalize hD4 : u2 D3 0 1 (-1) = D4 at *
  simp only [wi_some, or_0, or_1, bo_or, ite_boP, true_and, and_true, kN_v, kN_n, kT_v, kT_n, kT_e, Nat.add_zero, Nat.zero_add, b98_22 hw, xR_tape HS, xI_wrongAt HS, xF_wrongAt HS, xR_state HS, xR_image HS, xI_imageKept HS, xF_imageKept HS, xR_draft HS, xR_memory HS, xR_lawText HS, xR_worlds HS, xI_worldsFresh HS, xF_worldsFresh HS, xR_otherWorlds HS, xR_seating HS, xR_pairing HS, xI_toldSo HS, xF_toldSo HS, xI_toldNot HS, xF_toldNot HS, xO HS, lI_lines HS, lF_lines HS, lI_signs HS, lF_signs HS, lR_kinds HS, lR_amounts HS, lR_ends HS, lR_code HS, lO HS, lA_261 HS, lW_261 HS, lA_262 HS, lW_262 HS, lA_263 HS, lW_263 HS, lA_264 HS, lW_264 HS]
  refine k5 hw.1 HS (by rw [r4 _ _ (by decide)]; exact x3) (by rw [r4 _ _ (by decide)]; exact q3.1) o1 o2 hp ?_
  intro D5 a5 b0 b1 b2 b3 b4
  have hw5 : WT (Nw sh (LF p) (LB p ls.length cs.length)) := Nw_WT hw (by
    unfold LB
    intro x hx
    simp only [List.mem_cons, List.not_mem_nil, or_false] at hx
    rcases hx with e | e | e | e | e | e <;> exact ⟨_, _, e⟩)
  have HS5 : SP (Nw sh (LF p) (LB p ls.length cs.length)) := Nw_SP HS
  have H5 := St_state HS5
  have at5 : (Nw sh (LF p) (LB p ls.length cs.length))[p]? = some (.inr (0, LF p)) := by rw [← hp]; exact Nw_at
  simp only [wi_some, or_0, or_1, bo_or, ite_boP, true_and, and_true, kN_v, kN_n, kT_v, kT_n, kT_e, Nat.add_zero, Nat.zero_add]
  rw [b98_33 hw5 (by omega)]
  simp only [sR_things H5, sI_goers H5, sF_goers H5, sR_wish H5, sR_deed H5, sI_makers H5, sF_makers H5, sR_born H5, sR_money H5, sR_nerve H5, sR_shuns H5, sR_by H5, sI_trains H5, sF_trains H5, sR_halts H5, sR_seats H5, sI_texts H5, sF_texts H5, sI_law H5, sF_law H5, sI_day H5, sF_day H5, sI_seed H5, sF_seed H5, sR_log H5, sO_state H5, sI_count H5, sF_count H5, sI_first H5, sF_first H5, sR_at H5, sR_worth H5, sR_makes H5, sR_hinders H5, sO_things H5, sI_rows H5, sF_rows H5, sR_entries H5, sO_log H5, sA_2 H5, sW_2 H5, sA_3 H5, sW_3 H5, sA_4 H5, sW_4 H5, sA_5 H5, sW_5 H5, sA_6 H5, sW_6 H5, sA_7 H5, sW_7 H5, sA_8 H5, sW_8 H5, sA_9 H5, sW_9 H5, sA_10 H5, sW_10 H5, sA_11 H5, sW_11 H5, sA_12 H5, sW_12 H5, sA_13 H5, sW_13 H5, sA_14 H5, sW_14 H5, sA_16 H5, sW_16 H5, wi_some, or_0, or_1, bo_or, ite_boP, true_and, and_true, kN_v, kN_n, kT_v, kT_n, kT_e, Nat.add_zero, Nat.zero_add, b98_36 hw5, xR_tape HS5, xI_wrongAt HS5, xF_wrongAt HS5, xR_state HS5, xR_image HS5, xI_imageKept HS5, xF_imageKept HS5, xR_draft HS5, xR_memory HS5, xR_lawText HS5, xR_worlds HS5, xI_worldsFresh HS5, xF_worldsFresh HS5, xR_otherWorlds HS5, xR_seating HS5, xR_pairing HS5, xI_toldSo HS5, xF_toldSo HS5, xI_toldNot HS5, xF_toldNot HS5, xO HS5, k100 hw5 HS5, b98_40 hw5]
  have eR : u2 (u2 (u2 D5 3 14 (Int32.ofNat (p + 1))) 54 0 (Int32.ofNat 0)) 0 9 (Int32.ofNat 0) 3 14 = Int32.ofNat (p + 1) := by rw [u2_at, if_neg (by omega), u2_at, if_neg (by omega), u2_at, if_pos ⟨rfl, rfl⟩]
  rw [b98_44 hw5 (p0 := p) (by rw [eR]; exact sRf_of (by omega))]
  have rd : ∀ e i, ¬ (e = 3 ∧ i = 14) → ¬ (e = 54 ∧ i = 0) → ¬ (e = 0 ∧ i = 9) → u2 (u2 (u2 D5 3 14 (Int32.ofNat (p + 1))) 54 0 (Int32.ofNat 0)) 0 9 (Int32.ofNat 0) e i = D5 e i := fun e i c1 c2 c3 => by rw [u2_at, if_neg c3, u2_at, if_neg c2, u2_at, if_neg c1]
  have rd4 : ∀ e i, e < p → ¬ (e = 3 ∧ i = 14) → ¬ (e = 54 ∧ i = 0) → ¬ (e = 0 ∧ i = 9) → u2 (u2 (u2 D5 3 14 (Int32.ofNat (p + 1))) 54 0 (Int32.ofNat 0)) 0 9 (Int32.ofNat 0) e i = D4 e i := fun e i c0 c1 c2 c3 => by rw [rd e i c1 c2 c3, a5 e c0]
  simp only [sR_things H5, sI_goers H5, sF_goers H5, sR_wish H5, sR_deed H5, sI_makers H5, sF_makers H5, sR_born H5, sR_money H5, sR_nerve H5, sR_shuns H5, sR_by H5, sI_trains H5, sF_trains H5, sR_halts H5, sR_seats H5, sI_texts H5, sF_texts H5, sI_law H5, sF_law H5, sI_day H5, sF_day H5, sI_seed H5, sF_seed H5, sR_log H5, sO_state H5, sI_count H5, sF_count H5, sI_first H5, sF_first H5, sR_at H5, sR_worth H5, sR_makes H5, sR_hinders H5, sO_things H5, sI_rows H5, sF_rows H5, sR_entries H5, sO_log H5, sA_2 H5, sW_2 H5, sA_3 H5, sW_3 H5, sA_4 H5, sW_4 H5, sA_5 H5, sW_5 H5, sA_6 H5, sW_6 H5, sA_7 H5, sW_7 H5, sA_8 H5, sW_8 H5, sA_9 H5, sW_9 H5, sA_10 H5, sW_10 H5, sA_11 H5, sW_11 H5, sA_12 H5, sW_12 H5, sA_13 H5, sW_13 H5, sA_14 H5, sW_14 H5, sA_16 H5, sW_16 H5, wi_some, or_0, or_1, bo_or, ite_boP, true_and, and_true, kN_v, kN_n, kT_v, kT_n, kT_e, Nat.add_zero, Nat.zero_add, fI_of at5 (show 0 = 0 / 64 from rfl) (show 0 % 64 < 7 by decide), rd p 0 (by omega) (by omega) (by omega), b0]
  have e54 : u2 (u2 (u2 D5 3 14 (Int32.ofNat (p + 1))) 54 0 (Int32.ofNat 0)) 0 9 (Int32.ofNat 0) 54 0 = Int32.ofNat 0 := by rw [u2_at, if_neg (by omega), u2_at, if_pos ⟨rfl, rfl⟩]
  have e09 : u2 (u2 (u2 D5 3 14 (Int32.ofNat (p + 1))) 54 0 (Int32.ofNat 0)) 0 9 (Int32.ofNat 0) 0 9 = Int32.ofNat 0 := by rw [u2_at, if_pos ⟨rfl, rfl⟩]
  generalize hD7 : u2 (u2 (u2 D5 3 14 (Int32.ofNat (p + 1))) 54 0 (Int32.ofNat 0)) 0 9 (Int32.ofNat 0) = D7 at *
  have q1 : ∀ i, i < ls.length → D7 (p + 1) i = Int32.ofNat (ls.getD i (0, 0, 0)).1 := fun i hi => by rw [rd _ i (by omega) (by omega) (by omega), b1 i hi, r4 _ _ (by decide)]; exact (n3 i hi).1
  have q2 : ∀ i, i < ls.length → D7 (p + 2) i = Int32.ofNat (ls.getD i (0, 0, 0)).2.1 := fun i hi => by rw [rd _ i (by omega) (by omega) (by omega), b2 i hi, r4 _ _ (by decide)]; exact (n3 i hi).2.1
  have q3' : ∀ i, i < ls.length → D7 (p + 3) i = Int32.ofNat (enL ls (i + 1)) := fun i hi => by rw [rd _ i (by omega) (by omega) (by omega), b3 i hi, r4 _ _ (by decide)]; exact (n3 i hi).2.2
  have q4 : ∀ i, i < cs.length → D7 (p + 4) i = cs.getD i 0 := fun i hi => by rw [rd _ i (by omega) (by omega) (by omega), b4 i hi, r4 _ _ (by decide)]; exact q3.2 i hi
  obtain ⟨h0, ⟨g1, g2⟩, ⟨g3, g4⟩, ⟨g5, g6, q, hq, g7, g8⟩, ⟨g9', g10'⟩, g11, g12⟩ := h4
  have lc : ∀ {x lw}, Lc sh D4 x lw → Lc (Nw sh (LF p) (LB p ls.length cs.length)) D7 x lw := fun {x lw} hl => hl.nw fun b hb1 hb2 => funext fun i => rd4 b i (by omega) (by omega) (by omega) (by omega)
  have gT : ∀ {k : Nat} {x : sC}, (LB p ls.length cs.length)[k]? = some x → (Nw sh (LF p) (LB p ls.length cs.length))[p + (k + 1)]? = some x := fun {k x} hx => by rw [← hp, Nw_tl, hp]; exact hx
  have HL : Lsh (Nw sh (LF p) (LB p ls.length cs.length)) p ls.length cs.length := ⟨at5, gT (k := 0) rfl, gT (k := 1) rfl, gT (k := 2) rfl, gT (k := 3) rfl, gT (k := 4) rfl, gT (k := 5) rfl, o1, o2⟩
  refine ky ls cs (D7 (p + 1)) (D7 (p + 2)) (D7 (p + 4)) D7 hf (fun j hj => ⟨q1 j hj, q2 j hj⟩) q4 ⟨⟨HS5, hw5⟩, ⟨?_, ?_⟩, ⟨?_, ?_⟩, ⟨?_, ?_, q, hq, ?_, ?_⟩, ⟨?_, ?_⟩, ?_, ⟨fun t ht => by rw [rd4 282 t (by omega) (by omega) (by omega) (by omega)]; exact g12.1 t ht, Or.inl e09⟩⟩ (fun e a1 a2 => funext fun i => by rw [rd4 e i (by omega) (by omega) (by omega) (by omega)]; exact d3 e i (by omega) (by omega) (by omega))
  · intro k i hk
    show D7 (3 + k) i = u2 (gV G.1) 0 14 _ k i
    rw [u2_at]
    by_cases e : k = 0 ∧ i = 14
    · rw [if_pos e, e.1, e.2]; exact eR
    · rw [if_neg e, rd4 (3 + k) i (by omega) (by omega) (by omega) (by omega)]; exact g1 k i hk
  · show Lc _ D7 (u2 (gV G.1) 0 14 (Int32.ofNat (p + 1)) 0 14) _
    rw [u2_at, if_pos ⟨rfl, rfl⟩]
    refine ⟨p, cs.length, sRf_of (by omega), by omega, HL, ⟨?_, rfl, fun j hj => ⟨q3' j hj, (ok.2 j hj).2.2.2.2.1, (ok.2 j hj).2.2.2.1, ?_, (ok.2 j hj).2.2.2.2.2 _ q4⟩⟩, rfl, rfl, rfl, fun j hj => ⟨_, (ok.2 j hj).2.1, q2 j hj⟩⟩
    · rw [rd p 0 (by omega) (by omega) (by omega)]; exact b0
    · exact Nat.le_trans (ok.2 j hj).2.2.2.2.1 o2
  · rw [rd4 0 4 (by omega) (by omega) (by omega) (by omega)]; exact g3
  · intro Si hSi
    obtain ⟨c1, c2, c3⟩ := g4 Si hSi
    refine ⟨fun k i hk => by rw [rd4 (20 + k) i (by omega) (by omega) (by omega) (by omega)]; exact c1 k i hk, lc c2, ?_⟩
    show Sep (u2 (gV G.1) 0 14 (Int32.ofNat (p + 1)) 0 14) _
    rw [u2_at, if_pos ⟨rfl, rfl⟩]
    intro p' q' hp' hq'
    rw [sRf_of (by omega)] at hp'
    cases hp'
    right; right
    cases hw' : gw Si with
    | none =>
      rw [hw'] at c2
      have c2 : (gV Si 0 14).toNatClampNeg = 0 := c2
      have := sRf_pos hq'
      omega
    | some L =>
      obtain ⟨n', K', A', C', e'⟩ := L
      rw [hw'] at c2
      obtain ⟨p'', m'', y1, y2, y3, _⟩ := c2
      rw [y1] at hq'
      cases hq'
      have := lt_of_get y3.2.2.2.2.2.2.1
      omega
  · exact e54
  · intro i hi; rw [rd4 55 i (by omega) (by omega) (by omega) (by omega)]; exact g6 i hi
  · rw [rd4 54 1 (by omega) (by omega) (by omega) (by omega)]; exact g7
  · intro j Sj hj; cases hj
  · rw [rd4 1 1 (by omega) (by omega) (by omega) (by omega)]; exact g9'
  · intro i hi; exact absurd hi (Nat.not_lt_zero _)
  · rw [rd4 0 1 (by omega) (by omega) (by omega) (by omega)]; exact g11
end CC7
