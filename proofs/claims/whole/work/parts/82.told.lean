/-! ===== what is told: rows of (thing, 0 or 1) on the tape ===== -/
def tkG (G : GT) : GT := (G.1, G.2.1, G.2.2.1, G.2.2.2.1, 0, G.2.2.2.2.2)
def tv (G : GT) (i : Nat) : Nat := (G.2.2.2.1 i).toNatClampNeg
def tl (G : GT) : Nat := G.2.2.2.2.1
def okP (G : GT) (k : Nat) : Bool := decide (tv G (2 * k) < (gt G.1)) && decide (tv G (2 * k + 1) ≤ 1)
def okN (G : GT) : Nat → Bool
  | 0 => true
  | k + 1 => okN G k && okP G k
def tlOk (G : GT) : Bool := decide (tl G ≤ 40 ∧ tl G % 2 = 0) && okN G (tl G / 2)
def soM (G : GT) (j : Nat) : Int32 := fo (fun k m => if tv G (2 * k + 1) = 1 then m ||| jshl (Int32.ofNat 1) (Int32.ofNat (tv G (2 * k))) else m) j 0 (Int32.ofNat 0)
def noM (G : GT) (j : Nat) : Int32 := fo (fun k m => if tv G (2 * k + 1) = 1 then m else m ||| jshl (Int32.ofNat 1) (Int32.ofNat (tv G (2 * k)))) j 0 (Int32.ofNat 0)
def tdP (G : GT) (x : Int32) : Nat → Bool
  | 0 => true
  | k + 1 => tdP G x k && decide (bt x (tv G (2 * k)) = decide (tv G (2 * k + 1) = 1))
def toldP (G : GT) (x : Int32) : Bool := tdP G x (tl G / 2)
theorem GV.tk {G : GT} (hv : GV G) : GV (tkG G) := ⟨hv.1, hv.2.1, hv.2.2.1, hv.2.2.2.1, Nat.zero_le _, fun i hi => absurd hi (Nat.not_lt_zero _)⟩
theorem tv_of {G : GT} (hv : GV G) {i : Nat} (hi : i < tl G) : tv G i < 256 ∧ G.2.2.2.1 i = Int32.ofNat (tv G i) := by
  obtain ⟨b, hb, e⟩ := hv.2.2.2.2.2 i hi
  unfold tv
  rw [e, oN_tn (by omega)]
  exact ⟨hb, rfl⟩
theorem okN_all {G : GT} : ∀ {j}, okN G j = true → ∀ k, k < j → okP G k = true
  | 0, _, k, hk => by omega
  | j + 1, h, k, hk => by
    unfold okN at h
    rw [Bool.and_eq_true] at h
    by_cases e : k = j
    · rw [e]; exact h.2
    · exact okN_all h.1 k (by omega)
theorem okN_mono {G : GT} {j : Nat} : ∀ {m}, j ≤ m → okN G j = false → okN G m = false
  | 0, h, e => by rw [show j = 0 by omega] at e; exact e
  | m + 1, h, e => by
    by_cases e' : j = m + 1
    · rw [← e']; exact e
    · unfold okN
      rw [okN_mono (by omega) e, Bool.false_and]
theorem x_or_bit {x m : Int32} {t : Nat} (ht : t < 32) : (x &&& (m ||| jshl (Int32.ofNat 1) (Int32.ofNat t)) = m ||| jshl (Int32.ofNat 1) (Int32.ofNat t)) ↔ (x &&& m = m ∧ bt x t = true) := by
  constructor
  · intro h
    have hb : ∀ i, i < 32 → (bt x i && (bt m i || decide (i = t))) = (bt m i || decide (i = t)) := fun i hi => by
      have := congrArg (fun y => bt y i) h
      simp only [b_and, b_or, jshl_1 ht hi] at this
      exact this
    refine ⟨?_, ?_⟩
    · apply b_ext
      intro i hi
      have := hb i hi
      rw [b_and]
      revert this
      generalize bt x i = p
      generalize bt m i = q
      generalize decide (i = t) = r
      cases p <;> cases q <;> cases r <;> decide
    · have := hb t ht
      simp at this
      exact this
  · intro ⟨h1, h2⟩
    apply b_ext
    intro i hi
    have := congrArg (fun y => bt y i) h1
    simp only [b_and] at this
    rw [b_and, b_or, jshl_1 ht hi]
    by_cases e : i = t
    · subst e; rw [h2]; simp
    · simp only [e, decide_false, Bool.or_false]; exact this
theorem x_or_no {x m : Int32} {t : Nat} (ht : t < 32) : (x &&& (m ||| jshl (Int32.ofNat 1) (Int32.ofNat t)) = Int32.ofNat 0) ↔ (x &&& m = Int32.ofNat 0 ∧ bt x t = false) := by
  constructor
  · intro h
    have hb : ∀ i, i < 32 → (bt x i && (bt m i || decide (i = t))) = false := fun i hi => by
      have := congrArg (fun y => bt y i) h
      simp only [b_and, b_or, jshl_1 ht hi, b_00] at this
      exact this
    refine ⟨?_, ?_⟩
    · apply b_ext
      intro i hi
      have := hb i hi
      rw [b_and, b_00]
      revert this
      generalize bt x i = p
      generalize bt m i = q
      generalize decide (i = t) = r
      cases p <;> cases q <;> cases r <;> decide
    · have := hb t ht
      simp at this
      exact this
  · intro ⟨h1, h2⟩
    apply b_ext
    intro i hi
    have := congrArg (fun y => bt y i) h1
    simp only [b_and, b_00] at this
    rw [b_and, b_or, jshl_1 ht hi, b_00]
    by_cases e : i = t
    · subst e; rw [h2]; simp
    · simp only [e, decide_false, Bool.or_false]; exact this
theorem told_eq {G : GT} (hv : GV G) (x : Int32) : ∀ j, (∀ k, k < j → tv G (2 * k) < 32) → (decide (x &&& soM G j = soM G j) && decide (x &&& noM G j = Int32.ofNat 0)) = tdP G x j
  | 0, _ => by
    have e : x &&& Int32.ofNat 0 = Int32.ofNat 0 := by apply b_ext; intro i _; rw [b_and, b_00, Bool.and_false]
    show (decide (x &&& Int32.ofNat 0 = Int32.ofNat 0) && decide (x &&& Int32.ofNat 0 = Int32.ofNat 0)) = true
    rw [e]; rfl
  | j + 1, h => by
    have ih := told_eq hv x j fun k hk => h k (by omega)
    have hj := h j (by omega)
    have e1 : soM G (j + 1) = if tv G (2 * j + 1) = 1 then soM G j ||| jshl (Int32.ofNat 1) (Int32.ofNat (tv G (2 * j))) else soM G j := by unfold soM; rw [fo_snoc, Nat.zero_add]
    have e2 : noM G (j + 1) = if tv G (2 * j + 1) = 1 then noM G j else noM G j ||| jshl (Int32.ofNat 1) (Int32.ofNat (tv G (2 * j))) := by unfold noM; rw [fo_snoc, Nat.zero_add]
    show _ = (tdP G x j && decide (bt x (tv G (2 * j)) = decide (tv G (2 * j + 1) = 1)))
    rw [← ih, e1, e2]
    by_cases e : tv G (2 * j + 1) = 1
    · simp only [e, if_true, decide_true, x_or_bit hj]
      by_cases a : x &&& soM G j = soM G j <;> by_cases b : x &&& noM G j = Int32.ofNat 0 <;> cases bt x (tv G (2 * j)) <;> simp [a, b]
    · simp only [e, if_false, decide_false, x_or_no hj]
      by_cases a : x &&& soM G j = soM G j <;> by_cases b : x &&& noM G j = Int32.ofNat 0 <;> cases bt x (tv G (2 * j)) <;> simp [a, b]
theorem told_ok {G : GT} (hv : GV G) (h : tlOk G = true) (x : Int32) : (decide (x &&& soM G (tl G / 2) = soM G (tl G / 2)) && decide (x &&& noM G (tl G / 2) = Int32.ofNat 0)) = toldP G x := by
  unfold tlOk at h
  rw [Bool.and_eq_true] at h
  have hnt := i_nt8 hv.1
  exact told_eq hv x _ fun k hk => by
    have := okN_all h.2 k hk
    unfold okP at this
    simp only [Bool.and_eq_true, decide_eq_true_eq] at this
    omega
section C82
variable {nx : Nat} {xs : Nat → Int32} {d c s : Nat} {sh : List sC} {D : sD} {Q : av_Q}
variable {G : GT}
theorem GC.tk {D' : sD} (h : GC sh D G) (f : ∀ b i, ¬ (b = 1 ∧ i = 1) → ¬ (b = 0 ∧ (i = 13 ∨ i = 14)) → D' b i = D b i) (h1 : D' 1 1 = Int32.ofNat 0) : GC sh D' (tkG G) := by
  obtain ⟨h0, ⟨g1, g2⟩, ⟨g3, g4⟩, ⟨g5, g6, q, hq, g7, g8⟩, ⟨g9, g10⟩, g11, g12⟩ := h
  have vw : ∀ {a V}, Vw D a V → 2 ≤ a → Vw D' a V := fun {a V} hv ha k i hk => by rw [f (a + k) i (by omega) (by omega)]; exact hv k i hk
  have lc : ∀ {x lw}, Lc sh D x lw → Lc sh D' x lw := fun {x lw} hl => hl.of fun p hp k hk => funext fun i => f _ i (by have := Lc_301 hl p hp; omega) (by have := Lc_301 hl p hp; omega)
  refine ⟨h0, ⟨vw g1 (by decide), lc g2⟩, ⟨?_, ?_⟩, ⟨?_, ?_, q, hq, ?_, ?_⟩, ⟨h1, fun i hi => absurd hi (Nat.not_lt_zero _)⟩, ?_, ?_⟩
  · rw [f 0 4 (by omega) (by omega)]; exact g3
  · intro Si hSi
    obtain ⟨a1, a2, a3⟩ := g4 Si hSi
    exact ⟨vw a1 (by decide), lc a2, a3⟩
  · rw [f 54 0 (by omega) (by omega)]; exact g5
  · intro i hi; rw [f 55 i (by omega) (by omega)]; exact g6 i hi
  · rw [f 54 1 (by omega) (by omega)]; exact g7
  · intro j Sj hj; exact vw (g8 j Sj hj) (by omega)
  · rw [f 0 1 (by omega) (by omega)]; exact g11
  · unfold frW Wf at *
    refine ⟨fun t ht => by rw [f 282 t (by omega) (by omega)]; exact g12.1 t ht, ?_⟩
    rw [f 0 9 (by omega) (by omega)]
    cases g12.2 with
    | inl g => exact Or.inl g
    | inr g =>
      refine Or.inr ⟨g.1, fun z hz hs => ?_⟩
      rw [f (265 + 1) z (by omega) (by omega), f (265 + 2) z (by omega) (by omega)]
      exact g.2 z hz hs
def Tk (D D' : sD) : Prop := ∀ b i, ¬ (b = 1 ∧ i = 1) → ¬ (b = 0 ∧ (i = 13 ∨ i = 14)) → D' b i = D b i
theorem k135 (hv : GV G) (h : GC sh D G)
    (kk : tlOk G = true → ∀ D', GC sh D' (tkG G) → Fc D D' → D' 0 13 = soM G (tl G / 2) → D' 0 14 = noM G (tl G / 2) → Q (.inl none) (mk sh D') c s)
    (kx : tlOk G = false → ∀ D', GC sh D' (tkG G) → Fc D D' → Q (.inr xIA) (mk sh D') (c + 1) (s + 6)) :
    Wx (tP nx xs) d 135 0 [some (.ref 0), none, none, none, none, none] [] (mk sh D) c s Q := by
  have hw := h.1.2
  have HS := h.1.1
  have H := St_state HS
  have I := hv.1
  have hV := h.2.1.1
  have hng := i_ng6 I
  have hnt := i_nt8 I
  have hnr := i_nr5 I
  have hnl := i_nl60 I
  have hx := h.L
  have hL := h.2.1.2
  obtain ⟨g9, g10⟩ := h.2.2.2.2.1
  have h400 : tl G ≤ 400 := hv.2.2.2.2.1
  have g9 : D 1 1 = Int32.ofNat (tl G) := g9
  simp only [b135_0 hw, b135_16 hw, b135_21 hw, b135_26 hw, xR_tape HS, xI_wrongAt HS, xF_wrongAt HS, xR_state HS, xR_image HS, xI_imageKept HS, xF_imageKept HS, xR_draft HS, xR_memory HS, xR_lawText HS, xR_worlds HS, xI_worldsFresh HS, xF_worldsFresh HS, xR_otherWorlds HS, xR_seating HS, xR_pairing HS, xI_toldSo HS, xF_toldSo HS, xI_toldNot HS, xF_toldNot HS, xO HS, pR_bytes HS, pI_length HS, pF_length HS, pI_place HS, pF_place HS, pI_number HS, pF_number HS, pI_textLength HS, pF_textLength HS, pI_begin HS, pF_begin HS, pO HS, pA_2 HS, pW_2 HS, wi_some, or_0, or_1, bo_or, ite_boP, true_and, and_true, kN_v, kN_n, kT_v, kT_n, kT_e, Nat.add_zero, Nat.zero_add, g9]
  have f0 : Tk D (u2 (u2 (u2 D 1 1 (Int32.ofNat 0)) 0 13 (Int32.ofNat 0)) 0 14 (Int32.ofNat 0)) := fun b i h1 h2 => by rw [u2_at, if_neg (by omega), u2_at, if_neg (by omega), u2_at, if_neg (by omega)]
  have s0 : u2 (u2 (u2 D 1 1 (Int32.ofNat 0)) 0 13 (Int32.ofNat 0)) 0 14 (Int32.ofNat 0) 0 13 = soM G 0 := by simp [u2_at]; rfl
  have n0 : u2 (u2 (u2 D 1 1 (Int32.ofNat 0)) 0 13 (Int32.ofNat 0)) 0 14 (Int32.ofNat 0) 0 14 = noM G 0 := by simp [u2_at]; rfl
  have t0 : u2 (u2 (u2 D 1 1 (Int32.ofNat 0)) 0 13 (Int32.ofNat 0)) 0 14 (Int32.ofNat 0) 1 1 = Int32.ofNat 0 := by simp [u2_at]
  generalize u2 (u2 (u2 D 1 1 (Int32.ofNat 0)) 0 13 (Int32.ofNat 0)) 0 14 (Int32.ofNat 0) = D0 at *
  have fc : ∀ D1, Tk D D1 → Fc D D1 := fun D1 f b h1 h2 => funext fun i => f b i (by omega) (by omega)
  have jr : ∀ n, n < 41 → (jrem (Int32.ofNat n) (Int32.ofNat 2) = Int32.ofNat 0 ↔ n % 2 = 0) := by decide +kernel
  have n10 : ¬ (Int32.ofNat 1 : Int32) = Int32.ofNat 0 := by decide
  have bad : tlOk G = false → ∀ D1 l3 l4 l5, Tk D D1 → D1 1 1 = Int32.ofNat 0 → Wx (tP nx xs) d 135 46 [some (.ref 0), (some (.int (Int32.ofNat (tl G)))), (some (.int (Int32.ofNat 0))), (some (.int (l3))), l4, l5] [] (mk sh D1) c s Q := by
    intro hb D1 l3 l4 l5 f1 t1
    rw [b135_46 hw]
    simp only [if_true, b135_149 hw]
    exact kx hb D1 (h.tk f1 t1) (fc D1 f1)
  by_cases h40 : tl G ≤ 40
  rotate_left
  · have hb : tlOk G = false := by unfold tlOk; rw [decide_eq_false (fun h => h40 h.1), Bool.false_and]
    simp only [oN_lt (show 40 < 2147483648 by omega) (show tl G < 2147483648 by omega), show 40 < tl G by omega, if_true, b135_42 hw, b135_43 hw]
    exact bad hb D0 _ _ _ f0 t0
  by_cases hev : tl G % 2 = 0
  rotate_left
  · have hb : tlOk G = false := by unfold tlOk; rw [decide_eq_false (fun h => hev h.2), Bool.false_and]
    simp only [oN_lt (show 40 < 2147483648 by omega) (show tl G < 2147483648 by omega), show ¬ 40 < tl G by omega, if_false, jr _ (show tl G < 41 by omega), hev, b135_42 hw, b135_43 hw]
    exact bad hb D0 _ _ _ f0 t0
  have ok : tlOk G = okN G (tl G / 2) := by unfold tlOk; rw [decide_eq_true ⟨h40, hev⟩, Bool.true_and]
  simp only [oN_lt (show 40 < 2147483648 by omega) (show tl G < 2147483648 by omega), show ¬ 40 < tl G by omega, if_false, jr _ (show tl G < 41 by omega), hev, if_true, b135_43 hw]
  have loop : ∀ r k (D1 : sD) l4 l5, k + r = tl G / 2 → okN G k = true → Tk D D1 → D1 1 1 = Int32.ofNat 0 → D1 0 13 = soM G k → D1 0 14 = noM G k → Wx (tP nx xs) d 135 46 [some (.ref 0), (some (.int (Int32.ofNat (tl G)))), (some (.int (Int32.ofNat 1))), (some (.int (Int32.ofNat (2 * k)))), l4, l5] [] (mk sh D1) c s Q := by
    intro r
    induction r with
    | zero =>
      intro k D1 l4 l5 hk o1 f1 t1 s1 n1
      have hk' : k = tl G / 2 := by omega
      rw [b135_46 hw]
      simp only [n10, if_false, oN_add, oN_lt (show 2 * k + 1 < 2147483648 by omega) (show tl G < 2147483648 by omega), show ¬ 2 * k + 1 < tl G by omega, b135_149 hw]
      rw [hk'] at s1 n1 o1
      exact kk (by rw [ok]; exact o1) D1 (h.tk f1 t1) (fc D1 f1) s1 n1
    | succ r ih =>
      intro k D1 l4 l5 hk o1 f1 t1 s1 n1
      have hk1 : 2 * k + 1 < tl G := by omega
      have hV1 : Vw D1 3 (gV G.1) := fun j i hj => by rw [f1 (3 + j) i (by omega) (by omega)]; exact hV j i hj
      obtain ⟨v1, e1⟩ := tv_of hv (show 2 * k < tl G by omega)
      obtain ⟨v2, e2⟩ := tv_of hv (show 2 * k + 1 < tl G by omega)
      have r1 : D1 2 (2 * k) = Int32.ofNat (tv G (2 * k)) := by rw [f1 2 _ (by omega) (by omega), g10 _ (show 2 * k < tl G by omega), e1]
      have r2 : D1 2 (2 * k + 1) = Int32.ofNat (tv G (2 * k + 1)) := by rw [f1 2 _ (by omega) (by omega), g10 _ (show 2 * k + 1 < tl G by omega), e2]
      have b1 : 2 * k < 400 := by omega
      have b2 : 2 * k + 1 < 400 := by omega
      have es : soM G (k + 1) = if tv G (2 * k + 1) = 1 then soM G k ||| jshl (Int32.ofNat 1) (Int32.ofNat (tv G (2 * k))) else soM G k := by unfold soM; rw [fo_snoc, Nat.zero_add]
      have en : noM G (k + 1) = if tv G (2 * k + 1) = 1 then noM G k else noM G k ||| jshl (Int32.ofNat 1) (Int32.ofNat (tv G (2 * k))) := by unfold noM; rw [fo_snoc, Nat.zero_add]
      rw [b135_46 hw]
      simp only [n10, if_false, oN_add, oN_lt (show 2 * k + 1 < 2147483648 by omega) (show tl G < 2147483648 by omega), hk1, if_true, xR_tape HS, xI_wrongAt HS, xF_wrongAt HS, xR_state HS, xR_image HS, xI_imageKept HS, xF_imageKept HS, xR_draft HS, xR_memory HS, xR_lawText HS, xR_worlds HS, xI_worldsFresh HS, xF_worldsFresh HS, xR_otherWorlds HS, xR_seating HS, xR_pairing HS, xI_toldSo HS, xF_toldSo HS, xI_toldNot HS, xF_toldNot HS, xO HS, pR_bytes HS, pI_length HS, pF_length HS, pI_place HS, pF_place HS, pI_number HS, pF_number HS, pI_textLength HS, pF_textLength HS, pI_begin HS, pF_begin HS, pO HS, pA_2 HS, pW_2 HS, sR_things H, sI_goers H, sF_goers H, sR_wish H, sR_deed H, sI_makers H, sF_makers H, sR_born H, sR_money H, sR_nerve H, sR_shuns H, sR_by H, sI_trains H, sF_trains H, sR_halts H, sR_seats H, sI_texts H, sF_texts H, sI_law H, sF_law H, sI_day H, sF_day H, sI_seed H, sF_seed H, sR_log H, sO_state H, sI_count H, sF_count H, sI_first H, sF_first H, sR_at H, sR_worth H, sR_makes H, sR_hinders H, sO_things H, sI_rows H, sF_rows H, sR_entries H, sO_log H, sA_2 H, sW_2 H, sA_3 H, sW_3 H, sA_4 H, sW_4 H, sA_5 H, sW_5 H, sA_6 H, sW_6 H, sA_7 H, sW_7 H, sA_8 H, sW_8 H, sA_9 H, sW_9 H, sA_10 H, sW_10 H, sA_11 H, sW_11 H, sA_12 H, sW_12 H, sA_13 H, sW_13 H, sA_14 H, sW_14 H, sA_16 H, sW_16 H, wi_some, or_0, or_1, bo_or, ite_boP, true_and, and_true, kN_v, kN_n, kT_v, kT_n, kT_e, Nat.add_zero, Nat.zero_add, b1, b2, r1, r2, v_0 hV1, v_1 hV1, v_2 hV1, v_3 hV1, v_4 hV1, v_5 hV1, v_6 hV1, v_7 hV1, v_8 hV1, v_9 hV1, v_10 hV1, v_11 hV1, v_12 hV1, v_13 hV1, v_14 hV1, v_15 hV1, v_16 hV1, i_nt I, oN_lt (show tv G (2 * k) < 2147483648 by omega) (show (gt G.1) < 2147483648 by omega), oN_lt (show 1 < 2147483648 by omega) (show tv G (2 * k + 1) < 2147483648 by omega), b135_106 hw, b135_107 hw, oN_eq (show tv G (2 * k + 1) < 2147483648 by omega) (show 1 < 2147483648 by omega), s1, n1, b135_127 hw, b135_143 hw]
      have go : ∀ (v : Int32) (D2 : sD), (v = if okP G k then Int32.ofNat 1 else Int32.ofNat 0) → Tk D D2 → D2 1 1 = Int32.ofNat 0 → D2 0 13 = soM G (k + 1) → D2 0 14 = noM G (k + 1) → Wx (tP nx xs) d 135 46 [some (.ref 0), (some (.int (Int32.ofNat (tl G)))), (some (.int (v))), (some (.int (Int32.ofNat (2 * k + 2)))), (some (.int (Int32.ofNat (tv G (2 * k))))), (some (.int (Int32.ofNat (tv G (2 * k + 1)))))] [] (mk sh D2) c s Q := by
        intro v D2 hvv f2 t2 s2 n2
        cases hok : okP G k with
        | true =>
          rw [hok] at hvv
          simp only [if_true] at hvv
          rw [hvv]
          exact ih (k + 1) D2 _ _ (by omega) (by unfold okN; rw [o1, hok]; rfl) f2 t2 s2 n2
        | false =>
          rw [hok] at hvv
          simp only [Bool.false_eq_true, if_false] at hvv
          rw [hvv]
          refine bad ?_ D2 _ _ _ f2 t2
          rw [ok]
          exact okN_mono (show k + 1 ≤ tl G / 2 by omega) (by unfold okN; rw [hok, Bool.and_false])
      have okv : okP G k = (decide (tv G (2 * k) < (gt G.1)) && decide (tv G (2 * k + 1) ≤ 1)) := rfl
      have fin : ∀ v : Int32, (v = if okP G k then Int32.ofNat 1 else Int32.ofNat 0) → (if tv G (2 * k + 1) = 1 then Wx (tP nx xs) d 135 46 [some (.ref 0), (some (.int (Int32.ofNat (tl G)))), (some (.int (v))), (some (.int (Int32.ofNat (2 * k + 2)))), (some (.int (Int32.ofNat (tv G (2 * k))))), (some (.int (Int32.ofNat (tv G (2 * k + 1)))))] [] (mk sh (u2 D1 0 13 (soM G k ||| jshl (Int32.ofNat 1) (Int32.ofNat (tv G (2 * k)))))) c s Q else Wx (tP nx xs) d 135 46 [some (.ref 0), (some (.int (Int32.ofNat (tl G)))), (some (.int (v))), (some (.int (Int32.ofNat (2 * k + 2)))), (some (.int (Int32.ofNat (tv G (2 * k))))), (some (.int (Int32.ofNat (tv G (2 * k + 1)))))] [] (mk sh (u2 D1 0 14 (noM G k ||| jshl (Int32.ofNat 1) (Int32.ofNat (tv G (2 * k)))))) c s Q) := by
        intro v hvv
        by_cases h3 : tv G (2 * k + 1) = 1
        · rw [if_pos h3]
          refine go v _ hvv (fun b i a1 a2 => by rw [u2_at, if_neg (by omega)]; exact f1 b i a1 a2) (by rw [u2_at, if_neg (by omega)]; exact t1) ?_ ?_
          · rw [es, if_pos h3, u2_at, if_pos ⟨rfl, rfl⟩]
          · rw [en, if_pos h3, u2_at, if_neg (by omega)]; exact n1
        · rw [if_neg h3]
          refine go v _ hvv (fun b i a1 a2 => by rw [u2_at, if_neg (by omega)]; exact f1 b i a1 a2) (by rw [u2_at, if_neg (by omega)]; exact t1) ?_ ?_
          · rw [es, if_neg h3, u2_at, if_neg (by omega)]; exact s1
          · rw [en, if_neg h3, u2_at, if_pos ⟨rfl, rfl⟩]
      by_cases h1 : tv G (2 * k) < (gt G.1)
      · by_cases h2 : 1 < tv G (2 * k + 1)
        · simp only [h1, h2, if_true]
          exact fin (Int32.ofNat 0) (by rw [okv, decide_eq_false (show ¬ tv G (2 * k + 1) ≤ 1 by omega), Bool.and_false]; rfl)
        · simp only [h1, h2, if_true, if_false]
          exact fin (Int32.ofNat 1) (by rw [okv, decide_eq_true h1, decide_eq_true (show tv G (2 * k + 1) ≤ 1 by omega)]; rfl)
      · simp only [h1, if_false]
        exact fin (Int32.ofNat 0) (by rw [okv, decide_eq_false h1, Bool.false_and]; rfl)
  exact loop (tl G / 2) 0 D0 none none (by omega) rfl f0 t0 s0 n0
end C82
