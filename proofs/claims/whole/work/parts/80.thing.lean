/-! ===== thing ===== -/
theorem WT.ap {sh : List sC} {t n : Nat} (h : WT sh) : WT (sh ++ [.inl (t, n)]) := by
  have g : ∀ (a : Nat) (ci : Nat) (fs : List Nat), (sh ++ [.inl (t, n)])[a]? = some (Sum.inr (ci, fs)) → sh[a]? = some (Sum.inr (ci, fs)) := by
    intro a ci fs e
    by_cases ha : a < sh.length
    · rwa [List.getElem?_append_left ha] at e
    · rw [List.getElem?_append_right (by omega)] at e
      by_cases h0 : a - sh.length = 0
      · rw [h0] at e; cases e
      · rw [show a - sh.length = (a - sh.length - 1) + 1 by omega] at e; cases e
  exact ⟨fun a ci fs e => h.1 a ci fs (g a ci fs e), fun a fs e => h.2 a fs (g a 0 fs e)⟩
theorem SP.ap {sh : List sC} {x : sC} (h : SP sh) : SP (sh ++ [x]) := by
  obtain ⟨tl, rfl⟩ := h
  exact ⟨tl ++ [x], by rw [List.append_assoc]⟩
theorem SP.len {sh : List sC} (h : SP sh) : 301 ≤ sh.length := by
  obtain ⟨tl, rfl⟩ := h
  rw [List.length_append, SH0_len]; omega
theorem ap_old {sh : List sC} {x y : sC} {a : Nat} (h : sh[a]? = some y) : (sh ++ [x])[a]? = some y := by
  have : a < sh.length := by
    by_cases ha : a < sh.length
    · exact ha
    · rw [List.getElem?_eq_none (by omega)] at h; cases h
  rw [List.getElem?_append_left this]; exact h
theorem lt_of_get {sh : List sC} {y : sC} {a : Nat} (h : sh[a]? = some y) : a < sh.length := by
  by_cases ha : a < sh.length
  · exact ha
  · rw [List.getElem?_eq_none (by omega)] at h; cases h
theorem Lsh.ap {sh : List sC} {x : sC} {p n m : Nat} (h : Lsh sh p n m) : Lsh (sh ++ [x]) p n m := ⟨ap_old h.1, ap_old h.2.1, ap_old h.2.2.1, ap_old h.2.2.2.1, ap_old h.2.2.2.2.1, ap_old h.2.2.2.2.2.1, ap_old h.2.2.2.2.2.2.1, h.2.2.2.2.2.2.2⟩
theorem Lc.ap {sh : List sC} {D D' : sD} {x : sC} {y : Int32} {lw : LW} (h : Lc sh D y lw) (hD : ∀ b, b < sh.length → D' b = D b) : Lc (sh ++ [x]) D' y lw := by
  cases lw with
  | none => exact h
  | some L =>
    obtain ⟨n, K, A, C, e⟩ := L
    have h' := h
    obtain ⟨p, m, hp, h3, hs, _⟩ := h
    have hl := lt_of_get hs.2.2.2.2.2.2.1
    have h2 : Lc sh D' y (some (n, K, A, C, e)) := h'.of fun p' hp' k hk => hD _ (by rw [hp] at hp'; cases hp'; omega)
    obtain ⟨p', m', hp', h3', hs', r⟩ := h2
    exact ⟨p', m', hp', h3', hs'.ap, r⟩
theorem GC.ap {sh : List sC} {D D' : sD} {G : GT} {t n : Nat} (h : GC sh D G) (hD : ∀ b, b < sh.length → D' b = D b) : GC (sh ++ [.inl (t, n)]) D' G := by
  have hl := h.1.1.len
  obtain ⟨⟨p1, p2⟩, ⟨h1, h2⟩, ⟨h3, h4⟩, ⟨h5, h6, q, hq, h7, h8⟩, ⟨h9, h10⟩, h11, hf⟩ := h
  have rd : ∀ b, b < 301 → D' b = D b := fun b hb => hD b (by omega)
  have vw : ∀ {a V}, Vw D a V → a + 17 ≤ 286 → Vw D' a V := fun {a V} hv ha k i hk => by rw [rd (a + k) (by omega)]; exact hv k i hk
  refine ⟨⟨p1.ap, p2.ap⟩, ⟨vw h1 (by decide), h2.ap hD⟩, ⟨?_, ?_⟩, ⟨?_, ?_, q, hq, ?_, ?_⟩, ⟨?_, ?_⟩, ?_, ?_⟩
  · rw [rd 0 (by decide)]; exact h3
  · intro Si hSi
    obtain ⟨a1, a2, a3⟩ := h4 Si hSi
    exact ⟨vw a1 (by decide), a2.ap hD, a3⟩
  · rw [rd 54 (by decide)]; exact h5
  · rw [rd 55 (by decide)]; exact h6
  · rw [rd 54 (by decide)]; exact h7
  · intro j Sj hj; exact vw (h8 j Sj hj) (by omega)
  · rw [rd 1 (by decide)]; exact h9
  · rw [rd 2 (by decide)]; exact h10
  · rw [rd 0 (by decide)]; exact h11
  · unfold frW Wf at *
    rw [rd 0 (by decide), rd (265 + 1) (by decide), rd (265 + 2) (by decide), rd 282 (by decide)]
    exact hf
theorem oN_mx {x y : Nat} (hx : x < 2147483648) (hy : y < 2147483648) : mx (Int32.ofNat x) (Int32.ofNat y) = Int32.ofNat (max x y) := by
  unfold mx
  simp only [oN_lt hx hy]
  by_cases h : x < y
  · rw [if_pos h, show max x y = y by omega]
  · rw [if_neg h, show max x y = x by omega]
def mxA (V : sD) (L : Nat → Nat) (u j : Nat) : Nat := fo (fun o x => if bt (V 4 o ||| V 5 o) u then max x (L o) else x) j 0 0
def lvF (V : sD) (nt : Nat) : Nat → Nat → Nat
  | 0, _ => 0
  | k + 1, u => 1 + mxA V (lvF V nt k) u nt
def lvN (V : sD) (nt : Nat) (u : Nat) : Nat := lvF V nt 16 u
theorem mxA_le {V : sD} {L : Nat → Nat} {u B : Nat} (h : ∀ o, L o ≤ B) : ∀ j, mxA V L u j ≤ B
  | 0 => Nat.zero_le _
  | j + 1 => by
    have ih := mxA_le (V := V) (L := L) (u := u) h j
    unfold mxA at ih ⊢
    rw [fo_snoc, Nat.zero_add]
    have := h j
    by_cases hb : bt (V 4 j ||| V 5 j) u = true
    · rw [if_pos hb]; omega
    · rw [if_neg hb]; exact ih
theorem mxA_congr {V : sD} {L L' : Nat → Nat} {u j : Nat} (h : ∀ o, o < j → bt (V 4 o ||| V 5 o) u = true → L o = L' o) : mxA V L u j = mxA V L' u j := by
  unfold mxA
  refine fo_congr j 0 0 fun o x _ ho => ?_
  by_cases hb : bt (V 4 o ||| V 5 o) u = true
  · rw [if_pos hb, if_pos hb, h o (by omega) hb]
  · rw [if_neg hb, if_neg hb]
theorem lvF_le {V : sD} {nt : Nat} : ∀ k u, lvF V nt k u ≤ k
  | 0, _ => Nat.le_refl _
  | k + 1, u => by
    have := mxA_le (V := V) (u := u) (lvF_le (V := V) (nt := nt) k) nt
    unfold lvF
    omega
theorem lvF_st {V : sD} {nt ng nr nl : Nat} (I : Iv V nt ng nr nl) : ∀ k u, u < nt → (V 2 u).toNatClampNeg < k → lvF V nt (k + 1) u = lvF V nt k u
  | 0, u, _, h => by omega
  | k + 1, u, hu, h => by
    have hnt := i_nt8 I
    show 1 + mxA V (lvF V nt (k + 1)) u nt = 1 + mxA V (lvF V nt k) u nt
    rw [mxA_congr fun o ho hb => ?_]
    have := i_tie I ho (show u < 32 by omega) hb
    exact lvF_st I k o ho (by omega)
theorem lvN_fix {V : sD} {nt ng nr nl u : Nat} (I : Iv V nt ng nr nl) (hu : u < nt) : lvN V nt u = 1 + mxA V (lvN V nt) u nt := by
  obtain ⟨n, hn, e⟩ := i_at I hu
  have := lvF_st I 16 u hu (by rw [e, oN_tn (by omega)]; omega)
  exact this.symm
theorem lvN_le {V : sD} {nt : Nat} (u : Nat) : lvN V nt u ≤ 16 := lvF_le 16 u
section C80
variable {nx : Nat} {xs : Nat → Int32} {d c s : Nat} {sh : List sC} {D : sD} {Q : av_Q}
variable {G : GT} {V : sD} {a nt ng nr nl : Nat}
theorem k82 {L : Nat → Nat} {u p : Nat} (hw : WT sh) (H : St sh a) (hV : Vw D a V) (I : Iv V nt ng nr nl) (hP : aN sh 0 p = some 8) (hu : u < 8) (hb : ∀ o, L o ≤ 16) (hA : ∀ o, o < nt → bt (V 4 o ||| V 5 o) u = true → D p o = Int32.ofNat (L o)) : Wx (tP nx xs) d 82 0 [some (.ref (a + 1)), (some (.int (Int32.ofNat u))), some (.ref p), none, none] [] (mk sh D) c s Q = Q (.inl (some (.int (Int32.ofNat (mxA V L u nt))))) (mk sh D) c s := by
  have hnt := i_nt8 I
  simp only [b82_0 hw]
  refine (up_loop (W := fun i (x : Nat) => Wx (tP nx xs) d 82 5 [some (.ref (a + 1)), (some (.int (Int32.ofNat u))), some (.ref p), (some (.int (Int32.ofNat (mxA V L u i)))), (some (.int (Int32.ofNat i)))] [] (mk sh D) c s Q) (F := fun _ x => x) nt (fun i x hi => ?_) 0).trans ?_
  · have hi8 : i < 8 := by omega
    have e : mxA V L u (i + 1) = if bt (V 4 i ||| V 5 i) u then max (mxA V L u i) (L i) else mxA V L u i := by
      unfold mxA; rw [fo_snoc, Nat.zero_add]
    rw [b82_5 hw, e]
    simp only [sR_things H, sI_goers H, sF_goers H, sR_wish H, sR_deed H, sI_makers H, sF_makers H, sR_born H, sR_money H, sR_nerve H, sR_shuns H, sR_by H, sI_trains H, sF_trains H, sR_halts H, sR_seats H, sI_texts H, sF_texts H, sI_law H, sF_law H, sI_day H, sF_day H, sI_seed H, sF_seed H, sR_log H, sO_state H, sI_count H, sF_count H, sI_first H, sF_first H, sR_at H, sR_worth H, sR_makes H, sR_hinders H, sO_things H, sI_rows H, sF_rows H, sR_entries H, sO_log H, sA_2 H, sW_2 H, sA_3 H, sW_3 H, sA_4 H, sW_4 H, sA_5 H, sW_5 H, sA_6 H, sW_6 H, sA_7 H, sW_7 H, sA_8 H, sW_8 H, sA_9 H, sW_9 H, sA_10 H, sW_10 H, sA_11 H, sW_11 H, sA_12 H, sW_12 H, sA_13 H, sW_13 H, sA_14 H, sW_14 H, sA_16 H, sW_16 H, wi_some, or_0, or_1, bo_or, ite_boP, true_and, and_true, kN_v, kN_n, kT_v, kT_n, kT_e, Nat.add_zero, Nat.zero_add, v_0 hV, v_1 hV, v_2 hV, v_3 hV, v_4 hV, v_5 hV, v_6 hV, v_7 hV, v_8 hV, v_9 hV, v_10 hV, v_11 hV, v_12 hV, v_13 hV, v_14 hV, v_15 hV, v_16 hV, i_nt I, hi8, oN_lt (show i < 2147483648 by omega) (show nt < 2147483648 by omega), hi, if_true, jshr_b (show u < 32 by omega), b82_45 hw, oN_add]
    cases hbt : bt (V 4 i ||| V 5 i) u with
    | false => simp only [Bool.false_eq_true, if_false, if_true, bo_f]
    | true =>
      have h1 := mxA_le (V := V) (u := u) hb i
      have h2 := hb i
      simp only [if_true, aI_of hP (by decide) hi8, wi_some, or_0, or_1, bo_or, ite_boP, true_and, and_true, kN_v, kN_n, kT_v, kT_n, kT_e, Nat.add_zero, Nat.zero_add, hA i hi hbt, oN_mx (show mxA V L u i < 2147483648 by omega) (show L i < 2147483648 by omega), bo_t, show ¬ (Int32.ofNat 1 : Int32) = Int32.ofNat 0 by decide, if_false]
  · rw [b82_5 hw]
    simp only [sR_things H, sI_goers H, sF_goers H, sR_wish H, sR_deed H, sI_makers H, sF_makers H, sR_born H, sR_money H, sR_nerve H, sR_shuns H, sR_by H, sI_trains H, sF_trains H, sR_halts H, sR_seats H, sI_texts H, sF_texts H, sI_law H, sF_law H, sI_day H, sF_day H, sI_seed H, sF_seed H, sR_log H, sO_state H, sI_count H, sF_count H, sI_first H, sF_first H, sR_at H, sR_worth H, sR_makes H, sR_hinders H, sO_things H, sI_rows H, sF_rows H, sR_entries H, sO_log H, sA_2 H, sW_2 H, sA_3 H, sW_3 H, sA_4 H, sW_4 H, sA_5 H, sW_5 H, sA_6 H, sW_6 H, sA_7 H, sW_7 H, sA_8 H, sW_8 H, sA_9 H, sW_9 H, sA_10 H, sW_10 H, sA_11 H, sW_11 H, sA_12 H, sW_12 H, sA_13 H, sW_13 H, sA_14 H, sW_14 H, sA_16 H, sW_16 H, wi_some, or_0, or_1, bo_or, ite_boP, true_and, and_true, kN_v, kN_n, kT_v, kT_n, kT_e, Nat.add_zero, Nat.zero_add, v_0 hV, v_1 hV, v_2 hV, v_3 hV, v_4 hV, v_5 hV, v_6 hV, v_7 hV, v_8 hV, v_9 hV, v_10 hV, v_11 hV, v_12 hV, v_13 hV, v_14 hV, v_15 hV, v_16 hV, i_nt I, oN_lt (show nt < 2147483648 by omega) (show nt < 2147483648 by omega), Nat.lt_irrefl, if_false]
theorem k81 {t : Nat} (hv : GV G) (h : GC sh D G) (ht : t < (gt G.1)) (kk : ∀ D', GC (sh ++ [.inl (0, 8)]) D' G → Fc D D' → Q (.inl (some (.int (Int32.ofNat (lvN (gV G.1) (gt G.1) t))))) (mk (sh ++ [.inl (0, 8)]) D') (c + 1) (s + 8)) : Wx (tP nx xs) (d + 1) 81 0 [some (.ref 4), (some (.int (Int32.ofNat t))), none, none, none] [] (mk sh D) c s Q := by
  have hw := h.1.2
  have HS := h.1.1
  have H := St_state HS
  have I := hv.1
  have hV := h.2.1.1
  have hng := i_ng6 I
  have hnt := i_nt8 I
  have hnr := i_nr5 I
  have hnl := i_nl60 I
  have hx := h.L
  have hL := h.2.1.2
  have hl := HS.len
  have h1 : GC (sh ++ [.inl (0, 8)]) (clr D sh.length) G := h.ap fun b hb => by funext i; unfold clr; rw [if_neg (by omega)]
  have f1 : Fc D (clr D sh.length) := fun b h1 h2 => by funext i; unfold clr; rw [if_neg (by omega)]
  have hP : aN (sh ++ [.inl (0, 8)]) 0 sh.length = some 8 := by
    unfold aN
    rw [List.getElem?_append_right (Nat.le_refl _), Nat.sub_self]
    rfl
  have t8 : Int32.toNatClampNeg (Int32.ofNat 8) = 8 := by decide
  simp only [b81_0 hw, t8, show ¬ (Int32.ofNat 8 : Int32) < 0 by decide, show 8 ≤ 60000 by decide, wi_some, or_0, or_1, bo_or, ite_boP, true_and, and_true, kN_v, kN_n, kT_v, kT_n, kT_e, Nat.add_zero, Nat.zero_add, not_false_eq_true]
  have hw' : WT (sh ++ [.inl (0, 8)]) := hw.ap
  have H' : St (sh ++ [.inl (0, 8)]) 3 := St_state HS.ap
  simp only [b81_4 hw']
  generalize hsh : sh ++ [.inl (0, 8)] = sh1 at *
  generalize hD1 : clr D sh.length = D1 at *
  generalize hp : sh.length = p at *
  have atv : ∀ w, w < (gt G.1) → ∃ n, n < 16 ∧ (gV G.1) 2 w = Int32.ofNat n := fun w hw => i_at I hw
  obtain ⟨at0, hat, eat⟩ := atv t ht
  have ht8 : t < 8 := by omega
  refine up_P (W := fun i (_ : Nat) D => ∀ l4, Wx (tP nx xs) (d + 1) 81 7 [some (.ref 4), (some (.int (Int32.ofNat t))), some (.ref p), (some (.int (Int32.ofNat i))), l4] [] (mk sh1 D) (c + 1) (s + 8) Q) (P := fun i _ D' => (∀ b, b ≠ p → D' b = D1 b) ∧ ∀ w, w < (gt G.1) → ((gV G.1) 2 w).toNatClampNeg < i → D' p w = Int32.ofNat (lvN (gV G.1) (gt G.1) w)) (F := fun _ x => x) (at0 + 1) ?_ 0 D1 ⟨fun _ _ => rfl, fun _ _ h => by omega⟩ ?_ none
  · intro i _ D2 hi ⟨f2, a2⟩ k l4
    have vr : ∀ (D3 : sD), (∀ b, b ≠ p → D3 b = D1 b) → Vw D3 3 (gV G.1) := fun D3 f3 k i hk => by rw [f3 _ (by omega)]; exact h1.2.1.1 k i hk
    have hV2 := vr D2 f2
    rw [b81_7 hw']
    simp only [sR_things H', sI_goers H', sF_goers H', sR_wish H', sR_deed H', sI_makers H', sF_makers H', sR_born H', sR_money H', sR_nerve H', sR_shuns H', sR_by H', sI_trains H', sF_trains H', sR_halts H', sR_seats H', sI_texts H', sF_texts H', sI_law H', sF_law H', sI_day H', sF_day H', sI_seed H', sF_seed H', sR_log H', sO_state H', sI_count H', sF_count H', sI_first H', sF_first H', sR_at H', sR_worth H', sR_makes H', sR_hinders H', sO_things H', sI_rows H', sF_rows H', sR_entries H', sO_log H', sA_2 H', sW_2 H', sA_3 H', sW_3 H', sA_4 H', sW_4 H', sA_5 H', sW_5 H', sA_6 H', sW_6 H', sA_7 H', sW_7 H', sA_8 H', sW_8 H', sA_9 H', sW_9 H', sA_10 H', sW_10 H', sA_11 H', sW_11 H', sA_12 H', sW_12 H', sA_13 H', sW_13 H', sA_14 H', sW_14 H', sA_16 H', sW_16 H', wi_some, or_0, or_1, bo_or, ite_boP, true_and, and_true, kN_v, kN_n, kT_v, kT_n, kT_e, Nat.add_zero, Nat.zero_add, v_0 hV2, v_1 hV2, v_2 hV2, v_3 hV2, v_4 hV2, v_5 hV2, v_6 hV2, v_7 hV2, v_8 hV2, v_9 hV2, v_10 hV2, v_11 hV2, v_12 hV2, v_13 hV2, v_14 hV2, v_15 hV2, v_16 hV2, ht8, eat, oN_lt (show at0 < 2147483648 by omega) (show i < 2147483648 by omega), show ¬ at0 < i by omega, if_false]
    refine up_P (W := fun u (_ : Nat) D => Wx (tP nx xs) (d + 1) 81 20 [some (.ref 4), (some (.int (Int32.ofNat t))), some (.ref p), (some (.int (Int32.ofNat i))), (some (.int (Int32.ofNat u)))] [] (mk sh1 D) (c + 1) (s + 8) Q) (P := fun u _ D' => (∀ b, b ≠ p → D' b = D1 b) ∧ ∀ w, w < (gt G.1) → (((gV G.1) 2 w).toNatClampNeg < i ∨ (((gV G.1) 2 w).toNatClampNeg = i ∧ w < u)) → D' p w = Int32.ofNat (lvN (gV G.1) (gt G.1) w)) (F := fun _ x => x) (gt G.1) ?_ 0 D2 ⟨f2, fun w hw h => a2 w hw (by omega)⟩ ?_
    · intro u _ D3 hu ⟨f3, a3⟩ k3
      have hu8 : u < 8 := by omega
      obtain ⟨n, hn, en⟩ := atv u hu
      have tn : ((gV G.1) 2 u).toNatClampNeg = n := by rw [en, oN_tn (by omega)]
      have hV3 := vr D3 f3
      rw [b81_20 hw']
      simp only [sR_things H', sI_goers H', sF_goers H', sR_wish H', sR_deed H', sI_makers H', sF_makers H', sR_born H', sR_money H', sR_nerve H', sR_shuns H', sR_by H', sI_trains H', sF_trains H', sR_halts H', sR_seats H', sI_texts H', sF_texts H', sI_law H', sF_law H', sI_day H', sF_day H', sI_seed H', sF_seed H', sR_log H', sO_state H', sI_count H', sF_count H', sI_first H', sF_first H', sR_at H', sR_worth H', sR_makes H', sR_hinders H', sO_things H', sI_rows H', sF_rows H', sR_entries H', sO_log H', sA_2 H', sW_2 H', sA_3 H', sW_3 H', sA_4 H', sW_4 H', sA_5 H', sW_5 H', sA_6 H', sW_6 H', sA_7 H', sW_7 H', sA_8 H', sW_8 H', sA_9 H', sW_9 H', sA_10 H', sW_10 H', sA_11 H', sW_11 H', sA_12 H', sW_12 H', sA_13 H', sW_13 H', sA_14 H', sW_14 H', sA_16 H', sW_16 H', wi_some, or_0, or_1, bo_or, ite_boP, true_and, and_true, kN_v, kN_n, kT_v, kT_n, kT_e, Nat.add_zero, Nat.zero_add, v_0 hV3, v_1 hV3, v_2 hV3, v_3 hV3, v_4 hV3, v_5 hV3, v_6 hV3, v_7 hV3, v_8 hV3, v_9 hV3, v_10 hV3, v_11 hV3, v_12 hV3, v_13 hV3, v_14 hV3, v_15 hV3, v_16 hV3, i_nt I, hu8, oN_lt (show u < 2147483648 by omega) (show (gt G.1) < 2147483648 by omega), hu, if_true, en, oN_eq (show n < 2147483648 by omega) (show i < 2147483648 by omega)]
      by_cases e : n = i
      · have e82 := k82 (nx := nx) (xs := xs) (d := d) (c := 0) (s := 0) (Q := kN (tP nx xs) (d + 1) 81 51 [some (.ref 4), (some (.int (Int32.ofNat t))), some (.ref p), (some (.int (Int32.ofNat i))), (some (.int (Int32.ofNat u)))] [.int (Int32.ofNat 1), .int (Int32.ofNat u), .ref p] (c + 1) (s + 8) Q) (L := lvN (gV G.1) (gt G.1)) (u := u) (p := p) hw' H' (vr D3 f3) I hP hu8 lvN_le (fun o ho hb => a3 o ho (by
          have := i_tie I ho (show u < 32 by omega) hb
          omega))
        simp only [e, if_true]
        refine Eq.mpr e82 ?_
        simp only [b81_51 hw', b81_53 hw', oA_of hP (by decide) hu8, wi_some, or_0, or_1, bo_or, ite_boP, true_and, and_true, kN_v, kN_n, kT_v, kT_n, kT_e, Nat.add_zero, Nat.zero_add, oN_tn (show u < 2147483648 by omega), oN_add, ← lvN_fix I hu]
        refine k3 _ ⟨fun b hb => ?_, fun w hw hw2 => ?_⟩
        · rw [← f3 b hb]; funext x; rw [u2_at, if_neg (by omega)]
        · rw [u2_at]
          by_cases ew : w = u
          · rw [if_pos ⟨rfl, ew⟩, ew]
          · rw [if_neg (by omega)]; exact a3 w hw (by omega)
      · simp only [e, if_false, b81_53 hw', oN_add]
        refine k3 _ ⟨f3, fun w hw hw2 => a3 w hw ?_⟩
        by_cases ew : w = u
        · subst ew; omega
        · omega
    · intro D3 ⟨f3, a3⟩
      have hV3 := vr D3 f3
      rw [b81_20 hw']
      simp only [sR_things H', sI_goers H', sF_goers H', sR_wish H', sR_deed H', sI_makers H', sF_makers H', sR_born H', sR_money H', sR_nerve H', sR_shuns H', sR_by H', sI_trains H', sF_trains H', sR_halts H', sR_seats H', sI_texts H', sF_texts H', sI_law H', sF_law H', sI_day H', sF_day H', sI_seed H', sF_seed H', sR_log H', sO_state H', sI_count H', sF_count H', sI_first H', sF_first H', sR_at H', sR_worth H', sR_makes H', sR_hinders H', sO_things H', sI_rows H', sF_rows H', sR_entries H', sO_log H', sA_2 H', sW_2 H', sA_3 H', sW_3 H', sA_4 H', sW_4 H', sA_5 H', sW_5 H', sA_6 H', sW_6 H', sA_7 H', sW_7 H', sA_8 H', sW_8 H', sA_9 H', sW_9 H', sA_10 H', sW_10 H', sA_11 H', sW_11 H', sA_12 H', sW_12 H', sA_13 H', sW_13 H', sA_14 H', sW_14 H', sA_16 H', sW_16 H', wi_some, or_0, or_1, bo_or, ite_boP, true_and, and_true, kN_v, kN_n, kT_v, kT_n, kT_e, Nat.add_zero, Nat.zero_add, v_0 hV3, v_1 hV3, v_2 hV3, v_3 hV3, v_4 hV3, v_5 hV3, v_6 hV3, v_7 hV3, v_8 hV3, v_9 hV3, v_10 hV3, v_11 hV3, v_12 hV3, v_13 hV3, v_14 hV3, v_15 hV3, v_16 hV3, i_nt I, oN_lt (show (gt G.1) < 2147483648 by omega) (show (gt G.1) < 2147483648 by omega), Nat.lt_irrefl, if_false, oN_add]
      exact k D3 ⟨f3, fun w hw hw2 => a3 w hw (by have : ((gV G.1) 2 w).toNatClampNeg < i + 1 := hw2; obtain ⟨n, hn, en⟩ := atv w hw; omega)⟩ _
  · intro D2 ⟨f2, a2⟩ l4
    have hV2 : Vw D2 3 (gV G.1) := fun k i hk => by rw [f2 _ (by omega)]; exact h1.2.1.1 k i hk
    rw [b81_7 hw']
    simp only [sR_things H', sI_goers H', sF_goers H', sR_wish H', sR_deed H', sI_makers H', sF_makers H', sR_born H', sR_money H', sR_nerve H', sR_shuns H', sR_by H', sI_trains H', sF_trains H', sR_halts H', sR_seats H', sI_texts H', sF_texts H', sI_law H', sF_law H', sI_day H', sF_day H', sI_seed H', sF_seed H', sR_log H', sO_state H', sI_count H', sF_count H', sI_first H', sF_first H', sR_at H', sR_worth H', sR_makes H', sR_hinders H', sO_things H', sI_rows H', sF_rows H', sR_entries H', sO_log H', sA_2 H', sW_2 H', sA_3 H', sW_3 H', sA_4 H', sW_4 H', sA_5 H', sW_5 H', sA_6 H', sW_6 H', sA_7 H', sW_7 H', sA_8 H', sW_8 H', sA_9 H', sW_9 H', sA_10 H', sW_10 H', sA_11 H', sW_11 H', sA_12 H', sW_12 H', sA_13 H', sW_13 H', sA_14 H', sW_14 H', sA_16 H', sW_16 H', wi_some, or_0, or_1, bo_or, ite_boP, true_and, and_true, kN_v, kN_n, kT_v, kT_n, kT_e, Nat.add_zero, Nat.zero_add, v_0 hV2, v_1 hV2, v_2 hV2, v_3 hV2, v_4 hV2, v_5 hV2, v_6 hV2, v_7 hV2, v_8 hV2, v_9 hV2, v_10 hV2, v_11 hV2, v_12 hV2, v_13 hV2, v_14 hV2, v_15 hV2, v_16 hV2, ht8, eat, oN_lt (show at0 < 2147483648 by omega) (show at0 + 1 < 2147483648 by omega), Nat.lt_succ_self, if_true, aI_of hP (by decide) ht8, a2 t ht (by rw [eat, oN_tn (by omega)]; omega)]
    refine kk D2 ?_ (f1.tr fun b h1 h2 => f2 b (by omega))
    rw [← hsh]
    refine GC.ap h fun b hb => ?_
    rw [f2 b (by omega), ← hD1]
    funext i; unfold clr; rw [if_neg (by omega)]
/-- SinglesPast.latestStop -/
def ltS (M : Int32) (n : Nat) : Int32 := match lastG (bt M) n with
  | some k => Int32.ofNat k
  | none => -1
theorem ltS_succ {M : Int32} {i : Nat} : ltS M (i + 1) = if bt M i then Int32.ofNat i else ltS M i := by
  unfold ltS
  show (match (if bt M i then some i else lastG (bt M) i) with | some k => Int32.ofNat k | none => -1) = _
  cases bt M i <;> rfl
theorem k105 {t : Nat} (hv : GV G) (h : GC sh D G) (ht : t < (gt G.1)) : Wx (tP nx xs) (d + 1) 105 0 [some (.ref 0), (some (.int (Int32.ofNat t))), none, none] [] (mk sh D) c s Q = Q (.inl (some (.int (ltS (oS ((gV G.1) 13) (gr G.1)) (((gV G.1) 2 t).toNatClampNeg + 1))))) (mk sh D) c s := by
  have hw := h.1.2
  have HS := h.1.1
  have H := St_state HS
  have I := hv.1
  have hV := h.2.1.1
  have hng := i_ng6 I
  have hnt := i_nt8 I
  have hnr := i_nr5 I
  have hnl := i_nl60 I
  have hx := h.L
  have hL := h.2.1.2
  have ht8 : t < 8 := by omega
  obtain ⟨n, hn, en⟩ := i_at I ht
  simp only [b105_0 hw, b105_7 hw, xR_tape HS, xI_wrongAt HS, xF_wrongAt HS, xR_state HS, xR_image HS, xI_imageKept HS, xF_imageKept HS, xR_draft HS, xR_memory HS, xR_lawText HS, xR_worlds HS, xI_worldsFresh HS, xF_worldsFresh HS, xR_otherWorlds HS, xR_seating HS, xR_pairing HS, xI_toldSo HS, xF_toldSo HS, xI_toldNot HS, xF_toldNot HS, xO HS, sR_things H, sI_goers H, sF_goers H, sR_wish H, sR_deed H, sI_makers H, sF_makers H, sR_born H, sR_money H, sR_nerve H, sR_shuns H, sR_by H, sI_trains H, sF_trains H, sR_halts H, sR_seats H, sI_texts H, sF_texts H, sI_law H, sF_law H, sI_day H, sF_day H, sI_seed H, sF_seed H, sR_log H, sO_state H, sI_count H, sF_count H, sI_first H, sF_first H, sR_at H, sR_worth H, sR_makes H, sR_hinders H, sO_things H, sI_rows H, sF_rows H, sR_entries H, sO_log H, sA_2 H, sW_2 H, sA_3 H, sW_3 H, sA_4 H, sW_4 H, sA_5 H, sW_5 H, sA_6 H, sW_6 H, sA_7 H, sW_7 H, sA_8 H, sW_8 H, sA_9 H, sW_9 H, sA_10 H, sW_10 H, sA_11 H, sW_11 H, sA_12 H, sW_12 H, sA_13 H, sW_13 H, sA_14 H, sW_14 H, sA_16 H, sW_16 H, wi_some, or_0, or_1, bo_or, ite_boP, true_and, and_true, kN_v, kN_n, kT_v, kT_n, kT_e, Nat.add_zero, Nat.zero_add, v_0 hV, v_1 hV, v_2 hV, v_3 hV, v_4 hV, v_5 hV, v_6 hV, v_7 hV, v_8 hV, v_9 hV, v_10 hV, v_11 hV, v_12 hV, v_13 hV, v_14 hV, v_15 hV, v_16 hV, ht8, k40 hw H hV I, en, oN_tn (show n < 2147483648 by omega)]
  have loop : ∀ j, j ≤ 16 → Wx (tP nx xs) (d + 1) 105 21 [some (.ref 0), (some (.int (Int32.ofNat t))), (some (.int (oS ((gV G.1) 13) (gr G.1)))), (some (.int (Int32.ofNat j + (-1))))] [] (mk sh D) c s Q = Q (.inl (some (.int (ltS (oS ((gV G.1) 13) (gr G.1)) j)))) (mk sh D) c s := by
    intro j
    induction j with
    | zero =>
      intro _
      rw [b105_21 hw, if_pos (by decide)]
      rfl
    | succ j ih =>
      intro hj
      have ih := ih (by omega)
      rw [b105_21 hw]
      simp only [oN_m1, oN_lt (show j < 2147483648 by omega) (show 0 < 2147483648 by omega), Nat.not_lt_zero, if_false, jshr_b (show j < 32 by omega), ih]
      rw [ltS_succ]
      cases hb : bt (oS ((gV G.1) 13) (gr G.1)) j with
      | false => simp only [bo_f, if_true, Bool.false_eq_true, if_false]
      | true => simp only [bo_t, show ¬ (Int32.ofNat 1 : Int32) = Int32.ofNat 0 by decide, if_true, if_false]
  have := loop (n + 1) (by omega)
  rw [oN_m1] at this
  exact this
/-! the reference -/
theorem k284 {t : Nat} (hw : WT sh) (HS : SP sh) (R : Rw (D 287) V nt ng nr nl) (I : Iv V nt ng nr nl) (ht : t < nt) : Wx (tP nx xs) (d + 3) 284 0 [some (.ref 286), (some (.int (Int32.ofNat t))), none, none] [] (mk sh D) c s Q = Q (.inl (some (.int (ltS (oS (V 13) nr) ((V 2 t).toNatClampNeg + 1))))) (mk sh D) c s := by
  have hnt := i_nt8 I
  have hnr := i_nr5 I
  have ht8 : t < 8 := by omega
  have z0 : 0 < 8 := by decide
  obtain ⟨n, hn, en⟩ := i_at I ht
  have tn : (V 2 t).toNatClampNeg = n := by rw [en, oN_tn (by omega)]
  rw [tn]
  simp only [b284_0 hw]
  refine (up_loop (W := fun i (_ : Nat) => Wx (tP nx xs) (d + 3) 284 4 [some (.ref 286), (some (.int (Int32.ofNat t))), (some (.int (ltS (oS (V 13) nr) i))), (some (.int (Int32.ofNat i)))] [] (mk sh D) c s Q) (F := fun _ x => x) (n + 1) (fun i x hi => ?_) 0).trans ?_
  · rw [b284_4 hw]
    simp only [mI_thrown HS, mF_thrown HS, mR_row HS, mR_image HS, mR_earlier HS, mR_trial HS, mR_acts HS, mI_hasImage HS, mF_hasImage HS, mI_remembered HS, mF_remembered HS, mR_tape HS, mI_taped HS, mF_taped HS, mI_point HS, mF_point HS, mI_end HS, mF_end HS, mI_begin HS, mF_begin HS, mI_deep HS, mF_deep HS, mI_faultAt HS, mF_faultAt HS, mR_five HS, mI_codes HS, mF_codes HS, mR_value HS, mI_so HS, mF_so HS, mR_lines HS, mR_chosen HS, mR_best HS, mR_members HS, mR_paired HS, mO HS, mA_287 HS, mW_287 HS, mA_288 HS, mW_288 HS, mA_289 HS, mW_289 HS, mA_290 HS, mW_290 HS, mA_291 HS, mW_291 HS, mA_292 HS, mW_292 HS, mA_293 HS, mW_293 HS, mA_294 HS, mW_294 HS, mA_295 HS, mW_295 HS, mA_296 HS, mW_296 HS, mA_297 HS, mW_297 HS, mA_298 HS, mW_298 HS, mA_299 HS, mW_299 HS, wi_some, or_0, or_1, bo_or, ite_boP, true_and, and_true, kN_v, kN_n, kT_v, kT_n, kT_e, Nat.add_zero, Nat.zero_add, k201 hw HS ht8 z0, r_at0 R ht, en, b284_11 hw, oN_lt (show n < 2147483648 by omega) (show i < 2147483648 by omega), show ¬ n < i by omega, if_false, k283 hw HS R hnr, b284_18 hw, k189 hw (show i < 32 by omega), b284_22 hw, b284_30 hw, oN_add]
    rw [ltS_succ]
    cases bt (oS (V 13) nr) i with
    | false => simp only [if_true, Bool.false_eq_true, if_false]
    | true => simp only [if_true, if_false]
  · rw [b284_4 hw]
    simp only [mI_thrown HS, mF_thrown HS, mR_row HS, mR_image HS, mR_earlier HS, mR_trial HS, mR_acts HS, mI_hasImage HS, mF_hasImage HS, mI_remembered HS, mF_remembered HS, mR_tape HS, mI_taped HS, mF_taped HS, mI_point HS, mF_point HS, mI_end HS, mF_end HS, mI_begin HS, mF_begin HS, mI_deep HS, mF_deep HS, mI_faultAt HS, mF_faultAt HS, mR_five HS, mI_codes HS, mF_codes HS, mR_value HS, mI_so HS, mF_so HS, mR_lines HS, mR_chosen HS, mR_best HS, mR_members HS, mR_paired HS, mO HS, mA_287 HS, mW_287 HS, mA_288 HS, mW_288 HS, mA_289 HS, mW_289 HS, mA_290 HS, mW_290 HS, mA_291 HS, mW_291 HS, mA_292 HS, mW_292 HS, mA_293 HS, mW_293 HS, mA_294 HS, mW_294 HS, mA_295 HS, mW_295 HS, mA_296 HS, mW_296 HS, mA_297 HS, mW_297 HS, mA_298 HS, mW_298 HS, mA_299 HS, mW_299 HS, wi_some, or_0, or_1, bo_or, ite_boP, true_and, and_true, kN_v, kN_n, kT_v, kT_n, kT_e, Nat.add_zero, Nat.zero_add, k201 hw HS ht8 z0, r_at0 R ht, en, b284_11 hw, oN_lt (show n < 2147483648 by omega) (show n + 1 < 2147483648 by omega), Nat.lt_succ_self, if_true]
theorem k282 {t : Nat} (hw : WT sh) (HS : SP sh) (R : Rw (D 287) V nt ng nr nl) (I : Iv V nt ng nr nl) (ht : t < nt)
    (kk : ∀ D', Ex 295 D D' → Q (.inl (some (.int (Int32.ofNat (lvN V nt t))))) (mk sh D') c s) : Wx (tP nx xs) (d + 2) 282 0 [some (.ref 286), (some (.int (Int32.ofNat t))), none, none, none] [] (mk sh D) c s Q := by
  have hnt := i_nt8 I
  have ht8 : t < 8 := by omega
  have z0 : 0 < 8 := by decide
  have z3 : 3 < 8 := by decide
  have z4 : 4 < 8 := by decide
  have atv : ∀ w, w < nt → ∃ n, n < 16 ∧ V 2 w = Int32.ofNat n := fun w hw => i_at I hw
  simp only [b282_0 hw]
  refine up_P (W := fun i (_ : Nat) D => Wx (tP nx xs) (d + 2) 282 2 [some (.ref 286), (some (.int (Int32.ofNat t))), (some (.int (Int32.ofNat i))), none, none] [] (mk sh D) c s Q) (P := fun i _ D' => Ex 295 D D' ∧ ∀ w, w < i → D' 295 w = Int32.ofNat 1) (F := fun _ x => x) 8 ?_ 0 D ⟨Ex.rf, fun _ h => by omega⟩ ?_
  · intro i _ D2 hi ⟨f2, a2⟩ k
    rw [b282_2 hw]
    simp only [mI_thrown HS, mF_thrown HS, mR_row HS, mR_image HS, mR_earlier HS, mR_trial HS, mR_acts HS, mI_hasImage HS, mF_hasImage HS, mI_remembered HS, mF_remembered HS, mR_tape HS, mI_taped HS, mF_taped HS, mI_point HS, mF_point HS, mI_end HS, mF_end HS, mI_begin HS, mF_begin HS, mI_deep HS, mF_deep HS, mI_faultAt HS, mF_faultAt HS, mR_five HS, mI_codes HS, mF_codes HS, mR_value HS, mI_so HS, mF_so HS, mR_lines HS, mR_chosen HS, mR_best HS, mR_members HS, mR_paired HS, mO HS, mA_287 HS, mW_287 HS, mA_288 HS, mW_288 HS, mA_289 HS, mW_289 HS, mA_290 HS, mW_290 HS, mA_291 HS, mW_291 HS, mA_292 HS, mW_292 HS, mA_293 HS, mW_293 HS, mA_294 HS, mW_294 HS, mA_295 HS, mW_295 HS, mA_296 HS, mW_296 HS, mA_297 HS, mW_297 HS, mA_298 HS, mW_298 HS, mA_299 HS, mW_299 HS, wi_some, or_0, or_1, bo_or, ite_boP, true_and, and_true, kN_v, kN_n, kT_v, kT_n, kT_e, Nat.add_zero, Nat.zero_add, oN_lt (show i < 2147483648 by omega) (show 8 < 2147483648 by omega), hi, if_true, b282_15 hw, oN_add, oN_tn (show i < 2147483648 by omega)]
    refine k _ ⟨f2.st, fun w hw => ?_⟩
    rw [u2_at]
    by_cases e : w = i
    · rw [if_pos ⟨rfl, e⟩]
    · rw [if_neg (by omega)]; exact a2 w (by omega)
  · intro D2 ⟨f2, a2⟩
    rw [b282_2 hw]
    simp only [oN_lt (show 8 < 2147483648 by omega) (show 8 < 2147483648 by omega), Nat.lt_irrefl, if_false]
    have Re : ∀ (D3 : sD), Ex 295 D D3 → Rw (D3 287) V nt ng nr nl := fun D3 f3 => by rw [f3 287 (by decide)]; exact R
    refine up_P (W := fun i (_ : Nat) D => ∀ l3 l4, Wx (tP nx xs) (d + 2) 282 23 [some (.ref 286), (some (.int (Int32.ofNat t))), (some (.int (Int32.ofNat i))), l3, l4] [] (mk sh D) c s Q) (P := fun i _ D' => Ex 295 D D' ∧ ∀ w, w < nt → D' 295 w = if (V 2 w).toNatClampNeg < i then Int32.ofNat (lvN V nt w) else Int32.ofNat 1) (F := fun _ x => x) 16 ?_ 0 D2 ⟨f2, fun w hw => by rw [if_neg (by omega)]; exact a2 w (by omega)⟩ ?_ none none
    · intro i _ D3 hi ⟨f3, a3⟩ k l3 l4
      rw [b282_23 hw]
      simp only [oN_lt (show i < 2147483648 by omega) (show 16 < 2147483648 by omega), hi, if_true]
      refine up_P (W := fun u (_ : Nat) D => ∀ l4, Wx (tP nx xs) (d + 2) 282 31 [some (.ref 286), (some (.int (Int32.ofNat t))), (some (.int (Int32.ofNat i))), (some (.int (Int32.ofNat u))), l4] [] (mk sh D) c s Q) (P := fun u _ D' => Ex 295 D D' ∧ ∀ w, w < nt → D' 295 w = if (V 2 w).toNatClampNeg < i ∨ ((V 2 w).toNatClampNeg = i ∧ w < u) then Int32.ofNat (lvN V nt w) else Int32.ofNat 1) (F := fun _ x => x) nt ?_ 0 D3 ⟨f3, fun w hw => by
        rw [a3 w hw]
        by_cases e : (V 2 w).toNatClampNeg < i
        · rw [if_pos e, if_pos (Or.inl e)]
        · rw [if_neg e, if_neg (by omega)]⟩ ?_ l4
      · intro u _ D4 hu ⟨f4, a4⟩ k4 l4
        have hu8 : u < 8 := by omega
        obtain ⟨n, hn, en⟩ := atv u hu
        have tn : (V 2 u).toNatClampNeg = n := by rw [en, oN_tn (by omega)]
        have R4 := Re D4 f4
        rw [b282_31 hw]
        simp only [mI_thrown HS, mF_thrown HS, mR_row HS, mR_image HS, mR_earlier HS, mR_trial HS, mR_acts HS, mI_hasImage HS, mF_hasImage HS, mI_remembered HS, mF_remembered HS, mR_tape HS, mI_taped HS, mF_taped HS, mI_point HS, mF_point HS, mI_end HS, mF_end HS, mI_begin HS, mF_begin HS, mI_deep HS, mF_deep HS, mI_faultAt HS, mF_faultAt HS, mR_five HS, mI_codes HS, mF_codes HS, mR_value HS, mI_so HS, mF_so HS, mR_lines HS, mR_chosen HS, mR_best HS, mR_members HS, mR_paired HS, mO HS, mA_287 HS, mW_287 HS, mA_288 HS, mW_288 HS, mA_289 HS, mW_289 HS, mA_290 HS, mW_290 HS, mA_291 HS, mW_291 HS, mA_292 HS, mW_292 HS, mA_293 HS, mW_293 HS, mA_294 HS, mW_294 HS, mA_295 HS, mW_295 HS, mA_296 HS, mW_296 HS, mA_297 HS, mW_297 HS, mA_298 HS, mW_298 HS, mA_299 HS, mW_299 HS, wi_some, or_0, or_1, bo_or, ite_boP, true_and, and_true, kN_v, kN_n, kT_v, kT_n, kT_e, Nat.add_zero, Nat.zero_add, k197 hw HS, r_nt R4, b282_36 hw, oN_lt (show u < 2147483648 by omega) (show nt < 2147483648 by omega), hu, if_true]
        by_cases e : n = i
        · subst e
          refine up_P (W := fun o (_ : Nat) D => Wx (tP nx xs) (d + 2) 282 42 [some (.ref 286), (some (.int (Int32.ofNat t))), (some (.int (Int32.ofNat n))), (some (.int (Int32.ofNat u))), (some (.int (Int32.ofNat o)))] [] (mk sh D) c s Q) (P := fun o _ D' => Ex 295 D D' ∧ D' 295 u = Int32.ofNat (1 + mxA V (lvN V nt) u o) ∧ ∀ w, w < nt → w ≠ u → D' 295 w = if (V 2 w).toNatClampNeg < n ∨ ((V 2 w).toNatClampNeg = n ∧ w < u) then Int32.ofNat (lvN V nt w) else Int32.ofNat 1) (F := fun _ x => x) nt ?_ 0 D4 ⟨f4, by rw [a4 u hu, if_neg (by omega)]; rfl, fun w hw _ => a4 w hw⟩ ?_
          · intro o _ D5 ho ⟨f5, b5, a5⟩ k5
            have ho8 : o < 8 := by omega
            have R5 := Re D5 f5
            have em : mxA V (lvN V nt) u (o + 1) = if bt (V 4 o ||| V 5 o) u then max (mxA V (lvN V nt) u o) (lvN V nt o) else mxA V (lvN V nt) u o := by
              unfold mxA; rw [fo_snoc, Nat.zero_add]
            rw [b282_42 hw]
            simp only [mI_thrown HS, mF_thrown HS, mR_row HS, mR_image HS, mR_earlier HS, mR_trial HS, mR_acts HS, mI_hasImage HS, mF_hasImage HS, mI_remembered HS, mF_remembered HS, mR_tape HS, mI_taped HS, mF_taped HS, mI_point HS, mF_point HS, mI_end HS, mF_end HS, mI_begin HS, mF_begin HS, mI_deep HS, mF_deep HS, mI_faultAt HS, mF_faultAt HS, mR_five HS, mI_codes HS, mF_codes HS, mR_value HS, mI_so HS, mF_so HS, mR_lines HS, mR_chosen HS, mR_best HS, mR_members HS, mR_paired HS, mO HS, mA_287 HS, mW_287 HS, mA_288 HS, mW_288 HS, mA_289 HS, mW_289 HS, mA_290 HS, mW_290 HS, mA_291 HS, mW_291 HS, mA_292 HS, mW_292 HS, mA_293 HS, mW_293 HS, mA_294 HS, mW_294 HS, mA_295 HS, mW_295 HS, mA_296 HS, mW_296 HS, mA_297 HS, mW_297 HS, mA_298 HS, mW_298 HS, mA_299 HS, mW_299 HS, wi_some, or_0, or_1, bo_or, ite_boP, true_and, and_true, kN_v, kN_n, kT_v, kT_n, kT_e, Nat.add_zero, Nat.zero_add, k197 hw HS, r_nt R5, b282_48 hw, oN_lt (show o < 2147483648 by omega) (show nt < 2147483648 by omega), ho, if_true, k201 hw HS hu8 z0, r_at0 R5 hu, en, b282_57 hw, k201 hw HS ho8 z3, r_makes R5 ho, b282_68 hw, k201 hw HS ho8 z4, r_hinders R5 ho, b282_75 hw, k189 hw (show u < 32 by omega), b282_80 hw, b282_107 hw, oN_add, hu8, ho8, oN_tn (show u < 2147483648 by omega), b5]
            cases hb : bt (V 4 o ||| V 5 o) u with
            | false =>
              simp only [Bool.false_eq_true, if_false, if_true]
              rw [hb] at em
              simp only [Bool.false_eq_true, if_false] at em
              exact k5 _ ⟨f5, by rw [em]; exact b5, a5⟩
            | true =>
              have tie := i_tie I ho (show u < 32 by omega) hb
              have m1 := mxA_le (V := V) (u := u) (lvN_le (V := V) (nt := nt)) o
              have m2 := lvN_le (V := V) (nt := nt) o
              have eo : D5 295 o = Int32.ofNat (lvN V nt o) := by
                rw [a5 o ho (by intro e; subst e; omega), if_pos (by omega)]
              simp only [if_false, if_true, eo, oN_add, oN_mx (show 1 + mxA V (lvN V nt) u o < 2147483648 by omega) (show lvN V nt o + 1 < 2147483648 by omega)]
              rw [hb] at em
              simp only [if_true] at em
              refine k5 _ ⟨f5.st, ?_, fun w hw hne => ?_⟩
              · rw [u2_at, if_pos ⟨rfl, rfl⟩, em]
                congr 1; omega
              · rw [u2_at, if_neg (by omega)]; exact a5 w hw hne
          · intro D5 ⟨f5, b5, a5⟩
            have R5 := Re D5 f5
            rw [b282_42 hw]
            simp only [mI_thrown HS, mF_thrown HS, mR_row HS, mR_image HS, mR_earlier HS, mR_trial HS, mR_acts HS, mI_hasImage HS, mF_hasImage HS, mI_remembered HS, mF_remembered HS, mR_tape HS, mI_taped HS, mF_taped HS, mI_point HS, mF_point HS, mI_end HS, mF_end HS, mI_begin HS, mF_begin HS, mI_deep HS, mF_deep HS, mI_faultAt HS, mF_faultAt HS, mR_five HS, mI_codes HS, mF_codes HS, mR_value HS, mI_so HS, mF_so HS, mR_lines HS, mR_chosen HS, mR_best HS, mR_members HS, mR_paired HS, mO HS, mA_287 HS, mW_287 HS, mA_288 HS, mW_288 HS, mA_289 HS, mW_289 HS, mA_290 HS, mW_290 HS, mA_291 HS, mW_291 HS, mA_292 HS, mW_292 HS, mA_293 HS, mW_293 HS, mA_294 HS, mW_294 HS, mA_295 HS, mW_295 HS, mA_296 HS, mW_296 HS, mA_297 HS, mW_297 HS, mA_298 HS, mW_298 HS, mA_299 HS, mW_299 HS, wi_some, or_0, or_1, bo_or, ite_boP, true_and, and_true, kN_v, kN_n, kT_v, kT_n, kT_e, Nat.add_zero, Nat.zero_add, k197 hw HS, r_nt R5, b282_48 hw, oN_lt (show nt < 2147483648 by omega) (show nt < 2147483648 by omega), Nat.lt_irrefl, if_false, b282_113 hw, oN_add]
            refine k4 D5 ⟨f5, fun w hw => ?_⟩ _
            by_cases ew : w = u
            · subst ew
              rw [b5, if_pos (by omega), lvN_fix I hw]
            · rw [a5 w hw ew]
              by_cases e : (V 2 w).toNatClampNeg < n ∨ ((V 2 w).toNatClampNeg = n ∧ w < u)
              · rw [if_pos e, if_pos (by omega)]
              · rw [if_neg e, if_neg (by omega)]
        · rw [b282_42 hw]
          simp only [mI_thrown HS, mF_thrown HS, mR_row HS, mR_image HS, mR_earlier HS, mR_trial HS, mR_acts HS, mI_hasImage HS, mF_hasImage HS, mI_remembered HS, mF_remembered HS, mR_tape HS, mI_taped HS, mF_taped HS, mI_point HS, mF_point HS, mI_end HS, mF_end HS, mI_begin HS, mF_begin HS, mI_deep HS, mF_deep HS, mI_faultAt HS, mF_faultAt HS, mR_five HS, mI_codes HS, mF_codes HS, mR_value HS, mI_so HS, mF_so HS, mR_lines HS, mR_chosen HS, mR_best HS, mR_members HS, mR_paired HS, mO HS, mA_287 HS, mW_287 HS, mA_288 HS, mW_288 HS, mA_289 HS, mW_289 HS, mA_290 HS, mW_290 HS, mA_291 HS, mW_291 HS, mA_292 HS, mW_292 HS, mA_293 HS, mW_293 HS, mA_294 HS, mW_294 HS, mA_295 HS, mW_295 HS, mA_296 HS, mW_296 HS, mA_297 HS, mW_297 HS, mA_298 HS, mW_298 HS, mA_299 HS, mW_299 HS, wi_some, or_0, or_1, bo_or, ite_boP, true_and, and_true, kN_v, kN_n, kT_v, kT_n, kT_e, Nat.add_zero, Nat.zero_add, k197 hw HS, r_nt R4, b282_48 hw, oN_lt (show 0 < 2147483648 by omega) (show nt < 2147483648 by omega), show 0 < nt by omega, if_true, k201 hw HS hu8 z0, r_at0 R4 hu, en, b282_57 hw, oN_eq (show n < 2147483648 by omega) (show i < 2147483648 by omega), e, if_false, b282_113 hw, oN_add]
          refine k4 D4 ⟨f4, fun w hw => ?_⟩ _
          rw [a4 w hw]
          by_cases ew : w = u
          · subst ew
            by_cases e' : n < i
            · rw [if_pos (by omega), if_pos (by omega)]
            · rw [if_neg (by omega), if_neg (by omega)]
          · by_cases e : (V 2 w).toNatClampNeg < i ∨ ((V 2 w).toNatClampNeg = i ∧ w < u)
            · rw [if_pos e, if_pos (by omega)]
            · rw [if_neg e, if_neg (by omega)]
      · intro D4 ⟨f4, a4⟩ l4
        have R4 := Re D4 f4
        rw [b282_31 hw]
        simp only [mI_thrown HS, mF_thrown HS, mR_row HS, mR_image HS, mR_earlier HS, mR_trial HS, mR_acts HS, mI_hasImage HS, mF_hasImage HS, mI_remembered HS, mF_remembered HS, mR_tape HS, mI_taped HS, mF_taped HS, mI_point HS, mF_point HS, mI_end HS, mF_end HS, mI_begin HS, mF_begin HS, mI_deep HS, mF_deep HS, mI_faultAt HS, mF_faultAt HS, mR_five HS, mI_codes HS, mF_codes HS, mR_value HS, mI_so HS, mF_so HS, mR_lines HS, mR_chosen HS, mR_best HS, mR_members HS, mR_paired HS, mO HS, mA_287 HS, mW_287 HS, mA_288 HS, mW_288 HS, mA_289 HS, mW_289 HS, mA_290 HS, mW_290 HS, mA_291 HS, mW_291 HS, mA_292 HS, mW_292 HS, mA_293 HS, mW_293 HS, mA_294 HS, mW_294 HS, mA_295 HS, mW_295 HS, mA_296 HS, mW_296 HS, mA_297 HS, mW_297 HS, mA_298 HS, mW_298 HS, mA_299 HS, mW_299 HS, wi_some, or_0, or_1, bo_or, ite_boP, true_and, and_true, kN_v, kN_n, kT_v, kT_n, kT_e, Nat.add_zero, Nat.zero_add, k197 hw HS, r_nt R4, b282_36 hw, oN_lt (show nt < 2147483648 by omega) (show nt < 2147483648 by omega), Nat.lt_irrefl, if_false, oN_add]
        refine k D4 ⟨f4, fun w hw => ?_⟩ _ _
        rw [a4 w hw]
        by_cases e : (V 2 w).toNatClampNeg < i + 1
        · rw [if_pos e, if_pos (by omega)]
        · rw [if_neg e, if_neg (by omega)]
    · intro D3 ⟨f3, a3⟩ l3 l4
      obtain ⟨n, hn, en⟩ := atv t ht
      have tn : (V 2 t).toNatClampNeg = n := by rw [en, oN_tn (by omega)]
      rw [b282_23 hw]
      simp only [oN_lt (show 16 < 2147483648 by omega) (show 16 < 2147483648 by omega), Nat.lt_irrefl, if_false, mI_thrown HS, mF_thrown HS, mR_row HS, mR_image HS, mR_earlier HS, mR_trial HS, mR_acts HS, mI_hasImage HS, mF_hasImage HS, mI_remembered HS, mF_remembered HS, mR_tape HS, mI_taped HS, mF_taped HS, mI_point HS, mF_point HS, mI_end HS, mF_end HS, mI_begin HS, mF_begin HS, mI_deep HS, mF_deep HS, mI_faultAt HS, mF_faultAt HS, mR_five HS, mI_codes HS, mF_codes HS, mR_value HS, mI_so HS, mF_so HS, mR_lines HS, mR_chosen HS, mR_best HS, mR_members HS, mR_paired HS, mO HS, mA_287 HS, mW_287 HS, mA_288 HS, mW_288 HS, mA_289 HS, mW_289 HS, mA_290 HS, mW_290 HS, mA_291 HS, mW_291 HS, mA_292 HS, mW_292 HS, mA_293 HS, mW_293 HS, mA_294 HS, mW_294 HS, mA_295 HS, mW_295 HS, mA_296 HS, mW_296 HS, mA_297 HS, mW_297 HS, mA_298 HS, mW_298 HS, mA_299 HS, mW_299 HS, wi_some, or_0, or_1, bo_or, ite_boP, true_and, and_true, kN_v, kN_n, kT_v, kT_n, kT_e, Nat.add_zero, Nat.zero_add, ht8, a3 t ht, tn, hn, if_true]
      exact kk D3 f3
/-! thing -/
def o_thing (G : GT) (x y : Int32) : Int32 ⊕ Nat := match ixO x (gt G.1) with
  | none => .inr 1
  | some t => match ixO y 8 with
    | none => .inr 2
    | some 0 => .inl ((gV G.1) 2 t)
    | some 1 => .inl (bo (bt ((gV G.1) 1 1) t))
    | some 2 => .inl ((gV G.1) 3 t)
    | some 3 => .inl ((gV G.1) 4 t)
    | some 4 => .inl ((gV G.1) 5 t)
    | some 5 => .inl (bo (bt (nowS (gV G.1) (gt G.1) (gg G.1) ((gV G.1) 1 1) (gN (gV G.1) (gg G.1))) t))
    | some 6 => .inl (Int32.ofNat (lvN (gV G.1) (gt G.1) t))
    | some _ => .inl (ltS (oS ((gV G.1) 13) (gr G.1)) (((gV G.1) 2 t).toNatClampNeg + 1))
theorem c_thing {x y : Int32} (hv : GV G) (h : GC sh D G) (kk : ∀ sh' D' c' s', GC sh' D' G → Fc D D' → sh'.length ≤ sh.length + 1 → c' ≤ c + 1 → s' ≤ s + 8 → Q (oQ (e2 xIO xNS) (o_thing G x y)) (mk sh' D') c' s') : Wx (tP nx xs) (d + 5) 102 0 [some (.ref 0), (some (.int (x))), (some (.int (y)))] [] (mk sh D) c s Q := by
  have hw := h.1.2
  have HS := h.1.1
  have H := St_state HS
  have I := hv.1
  have hV := h.2.1.1
  have hng := i_ng6 I
  have hnt := i_nt8 I
  have hnr := i_nr5 I
  have hnl := i_nl60 I
  have hx := h.L
  have hL := h.2.1.2
  unfold o_thing at kk
  simp only [b102_0 hw, xR_tape HS, xI_wrongAt HS, xF_wrongAt HS, xR_state HS, xR_image HS, xI_imageKept HS, xF_imageKept HS, xR_draft HS, xR_memory HS, xR_lawText HS, xR_worlds HS, xI_worldsFresh HS, xF_worldsFresh HS, xR_otherWorlds HS, xR_seating HS, xR_pairing HS, xI_toldSo HS, xF_toldSo HS, xI_toldNot HS, xF_toldNot HS, xO HS, wi_some, or_0, or_1, bo_or, ite_boP, true_and, and_true, kN_v, kN_n, kT_v, kT_n, kT_e, Nat.add_zero, Nat.zero_add, k180 hv h]
  cases hi : ixO x (gt G.1) with
  | none => simp only [hi, oQ, wi_some, or_0, or_1, bo_or, ite_boP, true_and, and_true, kN_v, kN_n, kT_v, kT_n, kT_e, Nat.add_zero, Nat.zero_add] at kk ⊢; exact kk sh D _ _ h Fc.rf (by omega) (by omega) (by omega)
  | some t =>
    obtain ⟨ht, rfl⟩ := ixO_some (by omega) hi
    have ht8 : t < 8 := by omega
    simp only [wi_some, or_0, or_1, bo_or, ite_boP, true_and, and_true, kN_v, kN_n, kT_v, kT_n, kT_e, Nat.add_zero, Nat.zero_add, b102_5 hw]
    cases hj : ixO y 8 with
    | none =>
      have h1 := sw_out (by decide) hj
      rw [if_pos (by omega)]
      simp only [hi, hj, oQ, b102_146 hw] at kk ⊢
      exact kk sh D _ _ h Fc.rf (by omega) (by omega) (by omega)
    | some k =>
      obtain ⟨hk, rfl⟩ := ixO_some (by decide) hj
      have e3 : ¬ (Int32.toInt (Int32.ofNat k) < 0 ∨ 7 < Int32.toInt (Int32.ofNat k)) := by rw [oN_ti (by omega)]; omega
      rw [if_neg e3]
      have fin := kk sh D c s h Fc.rf (by omega) (by omega) (by omega)
      simp only [hi, hj, oQ] at kk fin
      have cs : k = 0 ∨ k = 1 ∨ k = 2 ∨ k = 3 ∨ k = 4 ∨ k = 5 ∨ k = 6 ∨ k = 7 := by omega
      rcases cs with e | e | e | e | e | e | e | e <;> subst e
      · show Wx (tP nx xs) (d + 5) 102 52 _ _ _ _ _ _
        simp only [b102_52 hw, xR_tape HS, xI_wrongAt HS, xF_wrongAt HS, xR_state HS, xR_image HS, xI_imageKept HS, xF_imageKept HS, xR_draft HS, xR_memory HS, xR_lawText HS, xR_worlds HS, xI_worldsFresh HS, xF_worldsFresh HS, xR_otherWorlds HS, xR_seating HS, xR_pairing HS, xI_toldSo HS, xF_toldSo HS, xI_toldNot HS, xF_toldNot HS, xO HS, sR_things H, sI_goers H, sF_goers H, sR_wish H, sR_deed H, sI_makers H, sF_makers H, sR_born H, sR_money H, sR_nerve H, sR_shuns H, sR_by H, sI_trains H, sF_trains H, sR_halts H, sR_seats H, sI_texts H, sF_texts H, sI_law H, sF_law H, sI_day H, sF_day H, sI_seed H, sF_seed H, sR_log H, sO_state H, sI_count H, sF_count H, sI_first H, sF_first H, sR_at H, sR_worth H, sR_makes H, sR_hinders H, sO_things H, sI_rows H, sF_rows H, sR_entries H, sO_log H, sA_2 H, sW_2 H, sA_3 H, sW_3 H, sA_4 H, sW_4 H, sA_5 H, sW_5 H, sA_6 H, sW_6 H, sA_7 H, sW_7 H, sA_8 H, sW_8 H, sA_9 H, sW_9 H, sA_10 H, sW_10 H, sA_11 H, sW_11 H, sA_12 H, sW_12 H, sA_13 H, sW_13 H, sA_14 H, sW_14 H, sA_16 H, sW_16 H, wi_some, or_0, or_1, bo_or, ite_boP, true_and, and_true, kN_v, kN_n, kT_v, kT_n, kT_e, Nat.add_zero, Nat.zero_add, v_0 hV, v_1 hV, v_2 hV, v_3 hV, v_4 hV, v_5 hV, v_6 hV, v_7 hV, v_8 hV, v_9 hV, v_10 hV, v_11 hV, v_12 hV, v_13 hV, v_14 hV, v_15 hV, v_16 hV, ht8]; exact fin
      · show Wx (tP nx xs) (d + 5) 102 65 _ _ _ _ _ _
        simp only [b102_65 hw, xR_tape HS, xI_wrongAt HS, xF_wrongAt HS, xR_state HS, xR_image HS, xI_imageKept HS, xF_imageKept HS, xR_draft HS, xR_memory HS, xR_lawText HS, xR_worlds HS, xI_worldsFresh HS, xF_worldsFresh HS, xR_otherWorlds HS, xR_seating HS, xR_pairing HS, xI_toldSo HS, xF_toldSo HS, xI_toldNot HS, xF_toldNot HS, xO HS, sR_things H, sI_goers H, sF_goers H, sR_wish H, sR_deed H, sI_makers H, sF_makers H, sR_born H, sR_money H, sR_nerve H, sR_shuns H, sR_by H, sI_trains H, sF_trains H, sR_halts H, sR_seats H, sI_texts H, sF_texts H, sI_law H, sF_law H, sI_day H, sF_day H, sI_seed H, sF_seed H, sR_log H, sO_state H, sI_count H, sF_count H, sI_first H, sF_first H, sR_at H, sR_worth H, sR_makes H, sR_hinders H, sO_things H, sI_rows H, sF_rows H, sR_entries H, sO_log H, sA_2 H, sW_2 H, sA_3 H, sW_3 H, sA_4 H, sW_4 H, sA_5 H, sW_5 H, sA_6 H, sW_6 H, sA_7 H, sW_7 H, sA_8 H, sW_8 H, sA_9 H, sW_9 H, sA_10 H, sW_10 H, sA_11 H, sW_11 H, sA_12 H, sW_12 H, sA_13 H, sW_13 H, sA_14 H, sW_14 H, sA_16 H, sW_16 H, wi_some, or_0, or_1, bo_or, ite_boP, true_and, and_true, kN_v, kN_n, kT_v, kT_n, kT_e, Nat.add_zero, Nat.zero_add, v_0 hV, v_1 hV, v_2 hV, v_3 hV, v_4 hV, v_5 hV, v_6 hV, v_7 hV, v_8 hV, v_9 hV, v_10 hV, v_11 hV, v_12 hV, v_13 hV, v_14 hV, v_15 hV, v_16 hV, jshr_b (show t < 32 by omega)]; exact fin
      · show Wx (tP nx xs) (d + 5) 102 80 _ _ _ _ _ _
        simp only [b102_80 hw, xR_tape HS, xI_wrongAt HS, xF_wrongAt HS, xR_state HS, xR_image HS, xI_imageKept HS, xF_imageKept HS, xR_draft HS, xR_memory HS, xR_lawText HS, xR_worlds HS, xI_worldsFresh HS, xF_worldsFresh HS, xR_otherWorlds HS, xR_seating HS, xR_pairing HS, xI_toldSo HS, xF_toldSo HS, xI_toldNot HS, xF_toldNot HS, xO HS, sR_things H, sI_goers H, sF_goers H, sR_wish H, sR_deed H, sI_makers H, sF_makers H, sR_born H, sR_money H, sR_nerve H, sR_shuns H, sR_by H, sI_trains H, sF_trains H, sR_halts H, sR_seats H, sI_texts H, sF_texts H, sI_law H, sF_law H, sI_day H, sF_day H, sI_seed H, sF_seed H, sR_log H, sO_state H, sI_count H, sF_count H, sI_first H, sF_first H, sR_at H, sR_worth H, sR_makes H, sR_hinders H, sO_things H, sI_rows H, sF_rows H, sR_entries H, sO_log H, sA_2 H, sW_2 H, sA_3 H, sW_3 H, sA_4 H, sW_4 H, sA_5 H, sW_5 H, sA_6 H, sW_6 H, sA_7 H, sW_7 H, sA_8 H, sW_8 H, sA_9 H, sW_9 H, sA_10 H, sW_10 H, sA_11 H, sW_11 H, sA_12 H, sW_12 H, sA_13 H, sW_13 H, sA_14 H, sW_14 H, sA_16 H, sW_16 H, wi_some, or_0, or_1, bo_or, ite_boP, true_and, and_true, kN_v, kN_n, kT_v, kT_n, kT_e, Nat.add_zero, Nat.zero_add, v_0 hV, v_1 hV, v_2 hV, v_3 hV, v_4 hV, v_5 hV, v_6 hV, v_7 hV, v_8 hV, v_9 hV, v_10 hV, v_11 hV, v_12 hV, v_13 hV, v_14 hV, v_15 hV, v_16 hV, ht8]; exact fin
      · show Wx (tP nx xs) (d + 5) 102 93 _ _ _ _ _ _
        simp only [b102_93 hw, xR_tape HS, xI_wrongAt HS, xF_wrongAt HS, xR_state HS, xR_image HS, xI_imageKept HS, xF_imageKept HS, xR_draft HS, xR_memory HS, xR_lawText HS, xR_worlds HS, xI_worldsFresh HS, xF_worldsFresh HS, xR_otherWorlds HS, xR_seating HS, xR_pairing HS, xI_toldSo HS, xF_toldSo HS, xI_toldNot HS, xF_toldNot HS, xO HS, sR_things H, sI_goers H, sF_goers H, sR_wish H, sR_deed H, sI_makers H, sF_makers H, sR_born H, sR_money H, sR_nerve H, sR_shuns H, sR_by H, sI_trains H, sF_trains H, sR_halts H, sR_seats H, sI_texts H, sF_texts H, sI_law H, sF_law H, sI_day H, sF_day H, sI_seed H, sF_seed H, sR_log H, sO_state H, sI_count H, sF_count H, sI_first H, sF_first H, sR_at H, sR_worth H, sR_makes H, sR_hinders H, sO_things H, sI_rows H, sF_rows H, sR_entries H, sO_log H, sA_2 H, sW_2 H, sA_3 H, sW_3 H, sA_4 H, sW_4 H, sA_5 H, sW_5 H, sA_6 H, sW_6 H, sA_7 H, sW_7 H, sA_8 H, sW_8 H, sA_9 H, sW_9 H, sA_10 H, sW_10 H, sA_11 H, sW_11 H, sA_12 H, sW_12 H, sA_13 H, sW_13 H, sA_14 H, sW_14 H, sA_16 H, sW_16 H, wi_some, or_0, or_1, bo_or, ite_boP, true_and, and_true, kN_v, kN_n, kT_v, kT_n, kT_e, Nat.add_zero, Nat.zero_add, v_0 hV, v_1 hV, v_2 hV, v_3 hV, v_4 hV, v_5 hV, v_6 hV, v_7 hV, v_8 hV, v_9 hV, v_10 hV, v_11 hV, v_12 hV, v_13 hV, v_14 hV, v_15 hV, v_16 hV, ht8]; exact fin
      · show Wx (tP nx xs) (d + 5) 102 106 _ _ _ _ _ _
        simp only [b102_106 hw, xR_tape HS, xI_wrongAt HS, xF_wrongAt HS, xR_state HS, xR_image HS, xI_imageKept HS, xF_imageKept HS, xR_draft HS, xR_memory HS, xR_lawText HS, xR_worlds HS, xI_worldsFresh HS, xF_worldsFresh HS, xR_otherWorlds HS, xR_seating HS, xR_pairing HS, xI_toldSo HS, xF_toldSo HS, xI_toldNot HS, xF_toldNot HS, xO HS, sR_things H, sI_goers H, sF_goers H, sR_wish H, sR_deed H, sI_makers H, sF_makers H, sR_born H, sR_money H, sR_nerve H, sR_shuns H, sR_by H, sI_trains H, sF_trains H, sR_halts H, sR_seats H, sI_texts H, sF_texts H, sI_law H, sF_law H, sI_day H, sF_day H, sI_seed H, sF_seed H, sR_log H, sO_state H, sI_count H, sF_count H, sI_first H, sF_first H, sR_at H, sR_worth H, sR_makes H, sR_hinders H, sO_things H, sI_rows H, sF_rows H, sR_entries H, sO_log H, sA_2 H, sW_2 H, sA_3 H, sW_3 H, sA_4 H, sW_4 H, sA_5 H, sW_5 H, sA_6 H, sW_6 H, sA_7 H, sW_7 H, sA_8 H, sW_8 H, sA_9 H, sW_9 H, sA_10 H, sW_10 H, sA_11 H, sW_11 H, sA_12 H, sW_12 H, sA_13 H, sW_13 H, sA_14 H, sW_14 H, sA_16 H, sW_16 H, wi_some, or_0, or_1, bo_or, ite_boP, true_and, and_true, kN_v, kN_n, kT_v, kT_n, kT_e, Nat.add_zero, Nat.zero_add, v_0 hV, v_1 hV, v_2 hV, v_3 hV, v_4 hV, v_5 hV, v_6 hV, v_7 hV, v_8 hV, v_9 hV, v_10 hV, v_11 hV, v_12 hV, v_13 hV, v_14 hV, v_15 hV, v_16 hV, ht8]; exact fin
      · show Wx (tP nx xs) (d + 5) 102 119 _ _ _ _ _ _
        simp only [b102_119 hw, xR_tape HS, xI_wrongAt HS, xF_wrongAt HS, xR_state HS, xR_image HS, xI_imageKept HS, xF_imageKept HS, xR_draft HS, xR_memory HS, xR_lawText HS, xR_worlds HS, xI_worldsFresh HS, xF_worldsFresh HS, xR_otherWorlds HS, xR_seating HS, xR_pairing HS, xI_toldSo HS, xF_toldSo HS, xI_toldNot HS, xF_toldNot HS, xO HS, wi_some, or_0, or_1, bo_or, ite_boP, true_and, and_true, kN_v, kN_n, kT_v, kT_n, kT_e, Nat.add_zero, Nat.zero_add]
        refine k129 hv h ?_
        intro D1 c1 h1
        simp only [b102_123 hw, wi_some, or_0, or_1, bo_or, ite_boP, true_and, and_true, kN_v, kN_n, kT_v, kT_n, kT_e, Nat.add_zero, Nat.zero_add, jshr_b (show t < 32 by omega)]
        exact kk sh D1 c s h1 (c1.fc hx) (by omega) (by omega) (by omega)
      · show Wx (tP nx xs) (d + 5) 102 128 _ _ _ _ _ _
        simp only [b102_128 hw, xR_tape HS, xI_wrongAt HS, xF_wrongAt HS, xR_state HS, xR_image HS, xI_imageKept HS, xF_imageKept HS, xR_draft HS, xR_memory HS, xR_lawText HS, xR_worlds HS, xI_worldsFresh HS, xF_worldsFresh HS, xR_otherWorlds HS, xR_seating HS, xR_pairing HS, xI_toldSo HS, xF_toldSo HS, xI_toldNot HS, xF_toldNot HS, xO HS, sR_things H, sI_goers H, sF_goers H, sR_wish H, sR_deed H, sI_makers H, sF_makers H, sR_born H, sR_money H, sR_nerve H, sR_shuns H, sR_by H, sI_trains H, sF_trains H, sR_halts H, sR_seats H, sI_texts H, sF_texts H, sI_law H, sF_law H, sI_day H, sF_day H, sI_seed H, sF_seed H, sR_log H, sO_state H, sI_count H, sF_count H, sI_first H, sF_first H, sR_at H, sR_worth H, sR_makes H, sR_hinders H, sO_things H, sI_rows H, sF_rows H, sR_entries H, sO_log H, sA_2 H, sW_2 H, sA_3 H, sW_3 H, sA_4 H, sW_4 H, sA_5 H, sW_5 H, sA_6 H, sW_6 H, sA_7 H, sW_7 H, sA_8 H, sW_8 H, sA_9 H, sW_9 H, sA_10 H, sW_10 H, sA_11 H, sW_11 H, sA_12 H, sW_12 H, sA_13 H, sW_13 H, sA_14 H, sW_14 H, sA_16 H, sW_16 H, wi_some, or_0, or_1, bo_or, ite_boP, true_and, and_true, kN_v, kN_n, kT_v, kT_n, kT_e, Nat.add_zero, Nat.zero_add]
        refine k81 hv h ht ?_
        intro D1 h1 f1
        simp only [b102_139 (WT.ap hw), wi_some, or_0, or_1, bo_or, ite_boP, true_and, and_true, kN_v, kN_n, kT_v, kT_n, kT_e, Nat.add_zero, Nat.zero_add]
        exact kk _ D1 _ _ h1 f1 (by rw [List.length_append]; exact Nat.le_refl _) (by omega) (by omega)
      · show Wx (tP nx xs) (d + 5) 102 140 _ _ _ _ _ _
        simp only [b102_140 hw, b102_145 hw, xR_tape HS, xI_wrongAt HS, xF_wrongAt HS, xR_state HS, xR_image HS, xI_imageKept HS, xF_imageKept HS, xR_draft HS, xR_memory HS, xR_lawText HS, xR_worlds HS, xI_worldsFresh HS, xF_worldsFresh HS, xR_otherWorlds HS, xR_seating HS, xR_pairing HS, xI_toldSo HS, xF_toldSo HS, xI_toldNot HS, xF_toldNot HS, xO HS, wi_some, or_0, or_1, bo_or, ite_boP, true_and, and_true, kN_v, kN_n, kT_v, kT_n, kT_e, Nat.add_zero, Nat.zero_add, k105 hv h ht]; exact fin
theorem m_thing {x y : Int32} (hw : WT sh) (HS : SP sh) (hv : GV G) (h : GR D G) (kk : ∀ D', Ms D D' → D' 286 0 = Int32.ofNat (th (o_thing G x y)) → Q (.inl (some (.int (rv (o_thing G x y))))) (mk sh D') c s) : Wx (tP nx xs) (d + 8) 285 0 [some (.ref 286), (some (.int (x))), (some (.int (y)))] [] (mk sh D) c s Q := by
  have h1 := h.ms hv (Ms.rf.th (v := Int32.ofNat 0))
  have R1 := h1.1.1
  have I := hv.1
  have hng := i_ng6 hv.1
  have hnt := i_nt8 hv.1
  have n10 : ¬ (Int32.ofNat 1 : Int32) = Int32.ofNat 0 := by decide
  have e := in_n (y := y) (n := 8) (by decide) (by decide)
  unfold o_thing at kk
  simp only [b285_0 hw, b285_5 hw, b285_11 hw, mI_thrown HS, mF_thrown HS, mR_row HS, mR_image HS, mR_earlier HS, mR_trial HS, mR_acts HS, mI_hasImage HS, mF_hasImage HS, mI_remembered HS, mF_remembered HS, mR_tape HS, mI_taped HS, mF_taped HS, mI_point HS, mF_point HS, mI_end HS, mF_end HS, mI_begin HS, mF_begin HS, mI_deep HS, mF_deep HS, mI_faultAt HS, mF_faultAt HS, mR_five HS, mI_codes HS, mF_codes HS, mR_value HS, mI_so HS, mF_so HS, mR_lines HS, mR_chosen HS, mR_best HS, mR_members HS, mR_paired HS, mO HS, mA_287 HS, mW_287 HS, mA_288 HS, mW_288 HS, mA_289 HS, mW_289 HS, mA_290 HS, mW_290 HS, mA_291 HS, mW_291 HS, mA_292 HS, mW_292 HS, mA_293 HS, mW_293 HS, mA_294 HS, mW_294 HS, mA_295 HS, mW_295 HS, mA_296 HS, mW_296 HS, mA_297 HS, mW_297 HS, mA_298 HS, mW_298 HS, mA_299 HS, mW_299 HS, wi_some, or_0, or_1, bo_or, ite_boP, true_and, and_true, kN_v, kN_n, kT_v, kT_n, kT_e, Nat.add_zero, Nat.zero_add, k210 hw HS hv h1, k187 hw HS, b285_15 hw]
  cases hi : ixO x (gt G.1) with
  | none =>
    simp only [hi, Option.isNone_none, if_true, th, rv, b285_41 hw] at kk ⊢
    exact kk _ Ms.rf.th.th (by simp [u2_at])
  | some t =>
    obtain ⟨ht, rfl⟩ := ixO_some (by omega) hi
    have ht8 : t < 8 := by omega
    simp only [hi, Option.isNone_some, Bool.false_eq_true, if_false, k188 hw, wi_some, or_0, or_1, bo_or, ite_boP, true_and, and_true, kN_v, kN_n, kT_v, kT_n, kT_e, Nat.add_zero, Nat.zero_add, b285_26 hw, b285_34 hw, mI_thrown HS, mF_thrown HS, mR_row HS, mR_image HS, mR_earlier HS, mR_trial HS, mR_acts HS, mI_hasImage HS, mF_hasImage HS, mI_remembered HS, mF_remembered HS, mR_tape HS, mI_taped HS, mF_taped HS, mI_point HS, mF_point HS, mI_end HS, mF_end HS, mI_begin HS, mF_begin HS, mI_deep HS, mF_deep HS, mI_faultAt HS, mF_faultAt HS, mR_five HS, mI_codes HS, mF_codes HS, mR_value HS, mI_so HS, mF_so HS, mR_lines HS, mR_chosen HS, mR_best HS, mR_members HS, mR_paired HS, mO HS, mA_287 HS, mW_287 HS, mA_288 HS, mW_288 HS, mA_289 HS, mW_289 HS, mA_290 HS, mW_290 HS, mA_291 HS, mW_291 HS, mA_292 HS, mW_292 HS, mA_293 HS, mW_293 HS, mA_294 HS, mW_294 HS, mA_295 HS, mW_295 HS, mA_296 HS, mW_296 HS, mA_297 HS, mW_297 HS, mA_298 HS, mW_298 HS, mA_299 HS, mW_299 HS] at kk ⊢
    rw [show (Int32.ofNat 7 : Int32) = Int32.ofNat (8 - 1) from rfl, e]
    cases hj : ixO y 8 with
    | none =>
      simp only [hj, Option.isSome_none, Bool.false_eq_true, if_false, k187t hw HS, wi_some, or_0, or_1, bo_or, ite_boP, true_and, and_true, kN_v, kN_n, kT_v, kT_n, kT_e, Nat.add_zero, Nat.zero_add, b285_38 hw, n10, b285_41 hw, th, rv] at kk ⊢
      exact kk _ Ms.rf.th.th (by simp [u2_at])
    | some k =>
      obtain ⟨hk, rfl⟩ := ixO_some (by decide) hj
      simp only [Option.isSome_some, if_true, k187f hw HS, wi_some, or_0, or_1, bo_or, ite_boP, true_and, and_true, kN_v, kN_n, kT_v, kT_n, kT_e, Nat.add_zero, Nat.zero_add, b285_38 hw, mI_thrown HS, mF_thrown HS, mR_row HS, mR_image HS, mR_earlier HS, mR_trial HS, mR_acts HS, mI_hasImage HS, mF_hasImage HS, mI_remembered HS, mF_remembered HS, mR_tape HS, mI_taped HS, mF_taped HS, mI_point HS, mF_point HS, mI_end HS, mF_end HS, mI_begin HS, mF_begin HS, mI_deep HS, mF_deep HS, mI_faultAt HS, mF_faultAt HS, mR_five HS, mI_codes HS, mF_codes HS, mR_value HS, mI_so HS, mF_so HS, mR_lines HS, mR_chosen HS, mR_best HS, mR_members HS, mR_paired HS, mO HS, mA_287 HS, mW_287 HS, mA_288 HS, mW_288 HS, mA_289 HS, mW_289 HS, mA_290 HS, mW_290 HS, mA_291 HS, mW_291 HS, mA_292 HS, mW_292 HS, mA_293 HS, mW_293 HS, mA_294 HS, mW_294 HS, mA_295 HS, mW_295 HS, mA_296 HS, mW_296 HS, mA_297 HS, mW_297 HS, mA_298 HS, mW_298 HS, mA_299 HS, mW_299 HS]
      have m1 : Ms D (u2 D 286 0 (Int32.ofNat 0)) := Ms.rf.th
      have t1 : u2 D 286 0 (Int32.ofNat 0) 286 0 = Int32.ofNat 0 := by simp [u2_at]
      generalize u2 D 286 0 (Int32.ofNat 0) = D1 at *
      simp only [hj] at kk
      have lo : k < 5 → Int32.toInt (Int32.ofNat k) < 5 ∨ 7 < Int32.toInt (Int32.ofNat k) := fun h => by rw [oN_ti (by omega)]; omega
      have hi' : ¬ k < 5 → ¬ (Int32.toInt (Int32.ofNat k) < 5 ∨ 7 < Int32.toInt (Int32.ofNat k)) := fun h => by rw [oN_ti (by omega)]; omega
      have fin := kk D1 m1
      have cs : k = 0 ∨ k = 1 ∨ k = 2 ∨ k = 3 ∨ k = 4 ∨ k = 5 ∨ k = 6 ∨ k = 7 := by omega
      rcases cs with e | e | e | e | e | e | e | e <;> subst e
      · rw [if_pos (lo (by decide))]
        simp only [b285_97 hw, mI_thrown HS, mF_thrown HS, mR_row HS, mR_image HS, mR_earlier HS, mR_trial HS, mR_acts HS, mI_hasImage HS, mF_hasImage HS, mI_remembered HS, mF_remembered HS, mR_tape HS, mI_taped HS, mF_taped HS, mI_point HS, mF_point HS, mI_end HS, mF_end HS, mI_begin HS, mF_begin HS, mI_deep HS, mF_deep HS, mI_faultAt HS, mF_faultAt HS, mR_five HS, mI_codes HS, mF_codes HS, mR_value HS, mI_so HS, mF_so HS, mR_lines HS, mR_chosen HS, mR_best HS, mR_members HS, mR_paired HS, mO HS, mA_287 HS, mW_287 HS, mA_288 HS, mW_288 HS, mA_289 HS, mW_289 HS, mA_290 HS, mW_290 HS, mA_291 HS, mW_291 HS, mA_292 HS, mW_292 HS, mA_293 HS, mW_293 HS, mA_294 HS, mW_294 HS, mA_295 HS, mW_295 HS, mA_296 HS, mW_296 HS, mA_297 HS, mW_297 HS, mA_298 HS, mW_298 HS, mA_299 HS, mW_299 HS, wi_some, or_0, or_1, bo_or, ite_boP, true_and, and_true, kN_v, kN_n, kT_v, kT_n, kT_e, Nat.add_zero, Nat.zero_add, k201 hw HS ht8 hk, b285_103 hw, r_at0 R1 ht]; exact fin t1
      · rw [if_pos (lo (by decide))]
        simp only [b285_97 hw, mI_thrown HS, mF_thrown HS, mR_row HS, mR_image HS, mR_earlier HS, mR_trial HS, mR_acts HS, mI_hasImage HS, mF_hasImage HS, mI_remembered HS, mF_remembered HS, mR_tape HS, mI_taped HS, mF_taped HS, mI_point HS, mF_point HS, mI_end HS, mF_end HS, mI_begin HS, mF_begin HS, mI_deep HS, mF_deep HS, mI_faultAt HS, mF_faultAt HS, mR_five HS, mI_codes HS, mF_codes HS, mR_value HS, mI_so HS, mF_so HS, mR_lines HS, mR_chosen HS, mR_best HS, mR_members HS, mR_paired HS, mO HS, mA_287 HS, mW_287 HS, mA_288 HS, mW_288 HS, mA_289 HS, mW_289 HS, mA_290 HS, mW_290 HS, mA_291 HS, mW_291 HS, mA_292 HS, mW_292 HS, mA_293 HS, mW_293 HS, mA_294 HS, mW_294 HS, mA_295 HS, mW_295 HS, mA_296 HS, mW_296 HS, mA_297 HS, mW_297 HS, mA_298 HS, mW_298 HS, mA_299 HS, mW_299 HS, wi_some, or_0, or_1, bo_or, ite_boP, true_and, and_true, kN_v, kN_n, kT_v, kT_n, kT_e, Nat.add_zero, Nat.zero_add, k201 hw HS ht8 hk, b285_103 hw, r_first R1 ht]; exact fin t1
      · rw [if_pos (lo (by decide))]
        simp only [b285_97 hw, mI_thrown HS, mF_thrown HS, mR_row HS, mR_image HS, mR_earlier HS, mR_trial HS, mR_acts HS, mI_hasImage HS, mF_hasImage HS, mI_remembered HS, mF_remembered HS, mR_tape HS, mI_taped HS, mF_taped HS, mI_point HS, mF_point HS, mI_end HS, mF_end HS, mI_begin HS, mF_begin HS, mI_deep HS, mF_deep HS, mI_faultAt HS, mF_faultAt HS, mR_five HS, mI_codes HS, mF_codes HS, mR_value HS, mI_so HS, mF_so HS, mR_lines HS, mR_chosen HS, mR_best HS, mR_members HS, mR_paired HS, mO HS, mA_287 HS, mW_287 HS, mA_288 HS, mW_288 HS, mA_289 HS, mW_289 HS, mA_290 HS, mW_290 HS, mA_291 HS, mW_291 HS, mA_292 HS, mW_292 HS, mA_293 HS, mW_293 HS, mA_294 HS, mW_294 HS, mA_295 HS, mW_295 HS, mA_296 HS, mW_296 HS, mA_297 HS, mW_297 HS, mA_298 HS, mW_298 HS, mA_299 HS, mW_299 HS, wi_some, or_0, or_1, bo_or, ite_boP, true_and, and_true, kN_v, kN_n, kT_v, kT_n, kT_e, Nat.add_zero, Nat.zero_add, k201 hw HS ht8 hk, b285_103 hw, r_worth R1 ht]; exact fin t1
      · rw [if_pos (lo (by decide))]
        simp only [b285_97 hw, mI_thrown HS, mF_thrown HS, mR_row HS, mR_image HS, mR_earlier HS, mR_trial HS, mR_acts HS, mI_hasImage HS, mF_hasImage HS, mI_remembered HS, mF_remembered HS, mR_tape HS, mI_taped HS, mF_taped HS, mI_point HS, mF_point HS, mI_end HS, mF_end HS, mI_begin HS, mF_begin HS, mI_deep HS, mF_deep HS, mI_faultAt HS, mF_faultAt HS, mR_five HS, mI_codes HS, mF_codes HS, mR_value HS, mI_so HS, mF_so HS, mR_lines HS, mR_chosen HS, mR_best HS, mR_members HS, mR_paired HS, mO HS, mA_287 HS, mW_287 HS, mA_288 HS, mW_288 HS, mA_289 HS, mW_289 HS, mA_290 HS, mW_290 HS, mA_291 HS, mW_291 HS, mA_292 HS, mW_292 HS, mA_293 HS, mW_293 HS, mA_294 HS, mW_294 HS, mA_295 HS, mW_295 HS, mA_296 HS, mW_296 HS, mA_297 HS, mW_297 HS, mA_298 HS, mW_298 HS, mA_299 HS, mW_299 HS, wi_some, or_0, or_1, bo_or, ite_boP, true_and, and_true, kN_v, kN_n, kT_v, kT_n, kT_e, Nat.add_zero, Nat.zero_add, k201 hw HS ht8 hk, b285_103 hw, r_makes R1 ht]; exact fin t1
      · rw [if_pos (lo (by decide))]
        simp only [b285_97 hw, mI_thrown HS, mF_thrown HS, mR_row HS, mR_image HS, mR_earlier HS, mR_trial HS, mR_acts HS, mI_hasImage HS, mF_hasImage HS, mI_remembered HS, mF_remembered HS, mR_tape HS, mI_taped HS, mF_taped HS, mI_point HS, mF_point HS, mI_end HS, mF_end HS, mI_begin HS, mF_begin HS, mI_deep HS, mF_deep HS, mI_faultAt HS, mF_faultAt HS, mR_five HS, mI_codes HS, mF_codes HS, mR_value HS, mI_so HS, mF_so HS, mR_lines HS, mR_chosen HS, mR_best HS, mR_members HS, mR_paired HS, mO HS, mA_287 HS, mW_287 HS, mA_288 HS, mW_288 HS, mA_289 HS, mW_289 HS, mA_290 HS, mW_290 HS, mA_291 HS, mW_291 HS, mA_292 HS, mW_292 HS, mA_293 HS, mW_293 HS, mA_294 HS, mW_294 HS, mA_295 HS, mW_295 HS, mA_296 HS, mW_296 HS, mA_297 HS, mW_297 HS, mA_298 HS, mW_298 HS, mA_299 HS, mW_299 HS, wi_some, or_0, or_1, bo_or, ite_boP, true_and, and_true, kN_v, kN_n, kT_v, kT_n, kT_e, Nat.add_zero, Nat.zero_add, k201 hw HS ht8 hk, b285_103 hw, r_hinders R1 ht]; exact fin t1
      · rw [if_neg (hi' (by decide))]
        show Wx (tP nx xs) (d + 8) 285 72 _ _ _ _ _ _
        obtain ⟨g1, g2⟩ := gN_of (V := (gV G.1)) hng
        have := everyN I
        simp only [b285_72 hw, mI_thrown HS, mF_thrown HS, mR_row HS, mR_image HS, mR_earlier HS, mR_trial HS, mR_acts HS, mI_hasImage HS, mF_hasImage HS, mI_remembered HS, mF_remembered HS, mR_tape HS, mI_taped HS, mF_taped HS, mI_point HS, mF_point HS, mI_end HS, mF_end HS, mI_begin HS, mF_begin HS, mI_deep HS, mF_deep HS, mI_faultAt HS, mF_faultAt HS, mR_five HS, mI_codes HS, mF_codes HS, mR_value HS, mI_so HS, mF_so HS, mR_lines HS, mR_chosen HS, mR_best HS, mR_members HS, mR_paired HS, mO HS, mA_287 HS, mW_287 HS, mA_288 HS, mW_288 HS, mA_289 HS, mW_289 HS, mA_290 HS, mW_290 HS, mA_291 HS, mW_291 HS, mA_292 HS, mW_292 HS, mA_293 HS, mW_293 HS, mA_294 HS, mW_294 HS, mA_295 HS, mW_295 HS, mA_296 HS, mW_296 HS, mA_297 HS, mW_297 HS, mA_298 HS, mW_298 HS, mA_299 HS, mW_299 HS, wi_some, or_0, or_1, bo_or, ite_boP, true_and, and_true, kN_v, kN_n, kT_v, kT_n, kT_e, Nat.add_zero, Nat.zero_add, k208 hw HS R1 hng, b285_77 hw, g1]
        refine k269 hw HS R1 I (by omega) ?_
        intro D2 s2
        simp only [b285_80 hw, wi_some, or_0, or_1, bo_or, ite_boP, true_and, and_true, kN_v, kN_n, kT_v, kT_n, kT_e, Nat.add_zero, Nat.zero_add, jshr_b (show t < 32 by omega)]
        exact kk D2 (m1.tr s2.ms) (by rw [s2 286 0 (by omega), t1]; rfl)
      · rw [if_neg (hi' (by decide))]
        show Wx (tP nx xs) (d + 8) 285 85 _ _ _ _ _ _
        simp only [b285_85 hw, mI_thrown HS, mF_thrown HS, mR_row HS, mR_image HS, mR_earlier HS, mR_trial HS, mR_acts HS, mI_hasImage HS, mF_hasImage HS, mI_remembered HS, mF_remembered HS, mR_tape HS, mI_taped HS, mF_taped HS, mI_point HS, mF_point HS, mI_end HS, mF_end HS, mI_begin HS, mF_begin HS, mI_deep HS, mF_deep HS, mI_faultAt HS, mF_faultAt HS, mR_five HS, mI_codes HS, mF_codes HS, mR_value HS, mI_so HS, mF_so HS, mR_lines HS, mR_chosen HS, mR_best HS, mR_members HS, mR_paired HS, mO HS, mA_287 HS, mW_287 HS, mA_288 HS, mW_288 HS, mA_289 HS, mW_289 HS, mA_290 HS, mW_290 HS, mA_291 HS, mW_291 HS, mA_292 HS, mW_292 HS, mA_293 HS, mW_293 HS, mA_294 HS, mW_294 HS, mA_295 HS, mW_295 HS, mA_296 HS, mW_296 HS, mA_297 HS, mW_297 HS, mA_298 HS, mW_298 HS, mA_299 HS, mW_299 HS, wi_some, or_0, or_1, bo_or, ite_boP, true_and, and_true, kN_v, kN_n, kT_v, kT_n, kT_e, Nat.add_zero, Nat.zero_add]
        have := k282 (nx := nx) (xs := xs) (d := d + 5) (c := 0) (s := 0) (D := D1) (Q := kN (tP nx xs) (d + 7 + 1) 285 90 [some (.ref 286), (some (.int (Int32.ofNat t))), (some (.int (Int32.ofNat 6)))] [] c s Q) hw HS R1 I ht
        refine this ?_
        intro D2 s2
        simp only [b285_90 hw, wi_some, or_0, or_1, bo_or, ite_boP, true_and, and_true, kN_v, kN_n, kT_v, kT_n, kT_e, Nat.add_zero, Nat.zero_add]
        exact kk D2 (m1.tr (Ex.ms (by decide) (by decide) s2)) (by rw [s2 286 (by omega), t1]; rfl)
      · rw [if_neg (hi' (by decide))]
        show Wx (tP nx xs) (d + 8) 285 91 _ _ _ _ _ _
        have e284 := k284 (nx := nx) (xs := xs) (d := d + 4) (c := 0) (s := 0) (D := D1) (Q := kN (tP nx xs) (d + 7 + 1) 285 96 [some (.ref 286), (some (.int (Int32.ofNat t))), (some (.int (Int32.ofNat 7)))] [] c s Q) hw HS R1 I ht
        simp only [b285_91 hw, mI_thrown HS, mF_thrown HS, mR_row HS, mR_image HS, mR_earlier HS, mR_trial HS, mR_acts HS, mI_hasImage HS, mF_hasImage HS, mI_remembered HS, mF_remembered HS, mR_tape HS, mI_taped HS, mF_taped HS, mI_point HS, mF_point HS, mI_end HS, mF_end HS, mI_begin HS, mF_begin HS, mI_deep HS, mF_deep HS, mI_faultAt HS, mF_faultAt HS, mR_five HS, mI_codes HS, mF_codes HS, mR_value HS, mI_so HS, mF_so HS, mR_lines HS, mR_chosen HS, mR_best HS, mR_members HS, mR_paired HS, mO HS, mA_287 HS, mW_287 HS, mA_288 HS, mW_288 HS, mA_289 HS, mW_289 HS, mA_290 HS, mW_290 HS, mA_291 HS, mW_291 HS, mA_292 HS, mW_292 HS, mA_293 HS, mW_293 HS, mA_294 HS, mW_294 HS, mA_295 HS, mW_295 HS, mA_296 HS, mW_296 HS, mA_297 HS, mW_297 HS, mA_298 HS, mW_298 HS, mA_299 HS, mW_299 HS, wi_some, or_0, or_1, bo_or, ite_boP, true_and, and_true, kN_v, kN_n, kT_v, kT_n, kT_e, Nat.add_zero, Nat.zero_add]
        refine Eq.mpr e284 ?_
        simp only [b285_96 hw, wi_some, or_0, or_1, bo_or, ite_boP, true_and, and_true, kN_v, kN_n, kT_v, kT_n, kT_e, Nat.add_zero, Nat.zero_add]; exact fin t1
end C80
