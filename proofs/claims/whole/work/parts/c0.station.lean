/-! ===== station ===== -/
theorem in_sum {α β : Type} {x y : α} (h : (Sum.inl x : α ⊕ β) = .inl y) : x = y := by cases h; rfl
theorem thV_0 {V : sD} {nt stop wo i : Nat} {so : Bool} : thV V nt stop so wo 0 i = V 0 i := by
  unfold thV
  rw [u2_at, if_neg (by omega), u2_at, if_neg (by omega), u2_at, if_neg (by omega), u2_at, if_neg (by omega), u2_at, if_neg (by omega), u2_at, if_neg (by omega)]
theorem tiV_0 {V : sD} {t o i : Nat} {m : Bool} : tiV V t o m 0 i = V 0 i := by
  unfold tiV
  rw [u2_at, if_neg (by omega), u2_at, if_neg (by omega)]
theorem shV_0 {V : sD} {t o i : Nat} : shV V t o 0 i = V 0 i := by
  unfold shV
  rw [u2_at, if_neg (by omega), u2_at, if_neg (by omega)]
theorem taV_0 {V : sD} {nr se i : Nat} {x : Int32} (h : i ≠ 10) : taV V nr se x 0 i = V 0 i := by
  unfold taV
  rw [u2_at, if_neg (by omega), u2_at, if_neg (by omega), u2_at, if_neg (by omega)]
theorem gaV_0 {V : sD} {ng stop mon i : Nat} (h1 : i ≠ 1) (h4 : i ≠ 4) : gaV V ng stop mon 0 i = V 0 i := by
  unfold gaV
  rw [u2_at, if_neg (by omega), u2_at, if_neg (by omega), u2_at, if_neg (by omega), u2_at, if_neg (by omega), u2_at, if_neg (by omega), u2_at, if_neg (by omega), u2_at, if_neg (by omega), u2_at, if_neg (by omega), u2_at, if_neg (by omega)]
section KB
variable {b : Nat → Nat} {n p p' : Nat} {S S' : sT}
theorem th_keep (h : thL b n S p = .inr (S', p')) {i : Nat} : S'.1 0 i = S.1 0 i := by
  unfold thL at h
  split at h
  · cases h
  · split at h
    · cases h
    · cases h
      simp only [thV_0]
theorem ti_keep {m : Bool} (h : tiL b n S m p = .inr (S', p')) {i : Nat} : S'.1 0 i = S.1 0 i := by
  unfold tiL at h
  split at h
  · cases h
  · split at h
    · cases h
    · split at h
      · cases h
        simp only [tiV_0]
      · cases h
theorem go_keep (h : goL2 b n S p = .inr (S', p')) {i : Nat} (h1 : i ≠ 1) (h4 : i ≠ 4) : S'.1 0 i = S.1 0 i := by
  have k1 : ∀ (V : sD) ng o, gbV V ng o 0 i = V 0 i := fun V ng o => by
    cases o with
    | none => rfl
    | some v => show u2 V 8 ng _ 0 i = _; rw [u2_at, if_neg (by omega)]
  have k2 : ∀ (V : sD) ng o, gdV V ng o 0 i = V 0 i := fun V ng o => by
    cases o with
    | none => rfl
    | some v => show u2 (u2 V 7 ng _) 0 4 _ 0 i = _; rw [u2_at, if_neg (by omega), u2_at, if_neg (by omega)]
  have k3 : ∀ (V : sD) ng o, gnV V ng o 0 i = V 0 i := fun V ng o => by
    cases o with
    | none => rfl
    | some v => show u2 V 10 ng _ 0 i = _; rw [u2_at, if_neg (by omega)]
  unfold goL2 at h
  split at h
  · cases h
  · split at h
    · cases h
    · split at h
      · cases h
      · split at h
        · cases h
        · split at h
          · cases h
          · cases h
            exact (k1 _ _ _).trans ((k2 _ _ _).trans ((k3 _ _ _).trans (gaV_0 h1 h4)))
theorem sh_keep (h : shL b n S p = .inr (S', p')) {i : Nat} : S'.1 0 i = S.1 0 i := by
  unfold shL at h
  split at h
  · cases h
  · split at h
    · cases h
    · split at h
      · cases h
      · cases h
        simp only [shV_0]
theorem tr_keep (h : trL b n S p = .inr (S', p')) {i : Nat} (h10 : i ≠ 10) : S'.1 0 i = S.1 0 i := by
  unfold trL at h
  split at h
  · cases h
  · split at h
    · cases h
    · split at h
      · cases h
      · cases h
        simp only [taV_0 h10]
theorem dy_keep (h : dyL b n S p = .inr (S', p')) {i : Nat} (h15 : i ≠ 15) : S'.1 0 i = S.1 0 i := by
  unfold dyL at h
  split at h
  · cases h
  · cases h
    show u2 _ 0 15 _ 0 i = _
    rw [u2_at, if_neg (by omega)]
theorem ln_keep (h : lnL b n S p = .inr (S', p')) {i : Nat} (h1 : i ≠ 1) (h4 : i ≠ 4) (h10 : i ≠ 10) (h15 : i ≠ 15) : S'.1 0 i = S.1 0 i := by
  unfold lnL at h
  split at h
  · cases h
  · split at h
    · exact th_keep h
    · cases h
  · exact ti_keep h
  · exact ti_keep h
  · split at h
    · exact go_keep h h1 h4
    · cases h
  · exact sh_keep h
  · split at h
    · exact tr_keep h h10
    · cases h
  · exact dy_keep h h15
theorem lns_keep {i : Nat} (h1 : i ≠ 1) (h4 : i ≠ 4) (h10 : i ≠ 10) (h15 : i ≠ 15) : ∀ (k : Nat) (S S' : sT) (p : Nat), lnsL b n k S p = .inr S' → S'.1 0 i = S.1 0 i
  | 0, _, _, _, h => by cases h
  | k + 1, S, S', p, h => by
    unfold lnsL at h
    split at h
    · cases h
    · next S1 p1 h' =>
      have e := ln_keep h' h1 h4 h10 h15
      split at h
      · rw [lns_keep h1 h4 h10 h15 k _ _ _ h, e]
      · split at h
        · cases h; exact e
        · cases h
theorem tx_keep {i : Nat} (h1 : i ≠ 1) (h4 : i ≠ 4) (h10 : i ≠ 10) (h15 : i ≠ 15) (h : txL b n S = .inr S') : S'.1 0 i = S.1 0 i := by
  unfold txL at h
  split at h
  · cases h; rfl
  · exact lns_keep h1 h4 h10 h15 14 S S' _ h
end KB
def stS0 (G : GT) (V0 : sD) : sT := (V0, (gt G.1), (gg G.1), (gr G.1))
def stnR (G : GT) (V0 : sD) : Nat ⊕ sT := txL (tv G) (tl G) (stS0 G V0)
def o_station (G : GT) (V0 : sD) : Int32 ⊕ Nat := match stnR G V0 with
  | .inl _ => .inr 1
  | .inr _ => if (gV G.1) 0 13 = Int32.ofNat 12 then .inr 2 else .inl ((gV G.1) 0 13 + Int32.ofNat 1)
def stV (G : GT) (V0 : sD) : sD := match stnR G V0 with
  | .inl _ => (gV G.1)
  | .inr S' => if (gV G.1) 0 13 = Int32.ofNat 12 then (gV G.1) else u2 S'.1 0 13 ((gV G.1) 0 13 + Int32.ofNat 1)
def txG (G : GT) (x : Int32) : GT := (G.1, G.2.1, G.2.2.1, G.2.2.2.1, 0, x)
def stG (G : GT) (V0 V' : sD) : GT := match stnR G V0 with
  | .inl f => txG G (Int32.ofNat f)
  | .inr S' => if (gV G.1) 0 13 = Int32.ofNat 12 then txG G (-1) else ((V', S'.2.1, S'.2.2.1, S'.2.2.2, (gl G.1), (gw G.1)), G.2.1, [], G.2.2.2.1, 0, -1)
theorem Iv_texts {V : sD} {nt ng nr nl m : Nat} (I : Iv V nt ng nr nl) (hm : m ≤ 12) : Iv (u2 V 0 13 (Int32.ofNat m)) nt ng nr nl := by
  obtain ⟨a1, a2, a3, a4, a5, a6, a7, a8, a9, a10, a11, a12, a13⟩ := I
  refine ⟨⟨by simp [u2_at, a1.1], a1.2⟩, ⟨by simp [u2_at, a2.1], a2.2⟩, ⟨by simp [u2_at, a3.1], a3.2⟩, ⟨by simp [u2_at, a4.1], a4.2⟩, ?_, ?_, ?_, ?_, ?_, ?_, ?_, ?_, ⟨m, hm, by simp [u2_at]⟩⟩
  · intro t ht; simpa [u2_at] using a5 t ht
  · intro t ht k hk hb; simp [u2_at] at hb ⊢; exact a6 t ht k hk hb
  · intro g hg; simpa [u2_at] using a7 g hg
  · intro g hg; simpa [u2_at] using a8 g hg
  · intro g hg; simpa [u2_at] using a9 g hg
  · intro g hg; simpa [u2_at] using a10 g hg
  · intro g hg; simpa [u2_at] using a11 g hg
  · intro g hg; simpa [u2_at] using a12 g hg
theorem GV.txt {G : GT} {x : Int32} (hv : GV G) : GV (txG G x) := ⟨hv.1, hv.2.1, hv.2.2.1, hv.2.2.2.1, Nat.zero_le _, fun i hi => absurd hi (Nat.not_lt_zero _)⟩
theorem v_tx {G : GT} (hv : GV G) : ∃ m, m ≤ 12 ∧ (gV G.1) 0 13 = Int32.ofNat m := i_tx hv.1
section CC0
variable {nx : Nat} {xs : Nat → Int32} {d c s : Nat} {sh : List sC} {D : sD} {Q : av_Q}
variable {G : GT}
theorem GC.txt {D' : sD} {x : Int32} (h : GC sh D G) (f : ∀ e i, ¬ (e = 1) → ¬ (37 ≤ e ∧ e < 54) → ¬ (260 ≤ e ∧ e < 265) → ¬ (e = 0 ∧ i = 1) → D' e i = D e i) (h1 : D' 1 1 = Int32.ofNat 0) (hx : D' 0 1 = x) : GC sh D' (txG G x) := by
  obtain ⟨h0, ⟨g1, g2⟩, ⟨g3, g4⟩, ⟨g5, g6, q, hq, g7, g8⟩, ⟨g9, g10⟩, g11, g12⟩ := h
  have vw : ∀ {a V}, Vw D a V → 2 ≤ a → (a + 17 ≤ 37 ∨ (54 ≤ a ∧ a + 17 ≤ 260)) → Vw D' a V := fun {a V} hv ha hb k i hk => by rw [f (a + k) i (by omega) (by omega) (by omega) (by omega)]; exact hv k i hk
  have lc : ∀ {x lw}, Lc sh D x lw → Lc sh D' x lw := fun {x lw} hl => hl.of fun p hp k hk => funext fun i => f _ i (by have := Lc_301 hl p hp; omega) (by have := Lc_301 hl p hp; omega) (by have := Lc_301 hl p hp; omega) (by have := Lc_301 hl p hp; omega)
  refine ⟨h0, ⟨vw g1 (by decide) (by decide), lc g2⟩, ⟨?_, ?_⟩, ⟨?_, ?_, q, hq, ?_, ?_⟩, ⟨h1, fun i hi => absurd hi (Nat.not_lt_zero _)⟩, hx, ?_⟩
  · rw [f 0 4 (by omega) (by omega) (by omega) (by omega)]; exact g3
  · intro Si hSi
    obtain ⟨a1, a2, a3⟩ := g4 Si hSi
    exact ⟨vw a1 (by decide) (by decide), lc a2, a3⟩
  · rw [f 54 0 (by omega) (by omega) (by omega) (by omega)]; exact g5
  · intro i hi; rw [f 55 i (by omega) (by omega) (by omega) (by omega)]; exact g6 i hi
  · rw [f 54 1 (by omega) (by omega) (by omega) (by omega)]; exact g7
  · intro j Sj hj; exact vw (g8 j Sj hj) (by omega) (by omega)
  · unfold frW Wf at *
    refine ⟨fun t ht => by rw [f 282 t (by omega) (by omega) (by omega) (by omega)]; exact g12.1 t ht, ?_⟩
    rw [f 0 9 (by omega) (by omega) (by omega) (by omega)]
    cases g12.2 with
    | inl g => exact Or.inl g
    | inr g =>
      refine Or.inr ⟨g.1, fun z hz hs => ?_⟩
      rw [f (265 + 1) z (by omega) (by omega) (by omega) (by omega), f (265 + 2) z (by omega) (by omega) (by omega) (by omega)]
      exact g.2 z hz hs
theorem k65 {b : Nat → Nat} {n : Nat} (hw : WT sh) (HS : SP sh) (tb : TB b n) (h1 : D 1 1 = Int32.ofNat n) (h2 : ∀ i, i < n → D 2 i = Int32.ofNat (b i)) (kk : ∀ D', (∀ e i, ¬ e = 1 → D' e i = D e i) → TpC b n D' (sk b n 0) → D' 1 1 = Int32.ofNat 0 → Q (.inl none) (mk sh D') c s) : Wx (tP nx xs) (d + 1) 65 0 [some (.ref 1)] [] (mk sh D) c s Q := by
  have hn := tb.1
  have em : mn (Int32.ofNat n) (Int32.ofNat 400) = Int32.ofNat n := by
    unfold mn
    rw [if_neg (by rw [oN_lt (by decide) (by omega)]; omega)]
  simp only [b65_0 hw, b65_14 hw, b65_19 hw, pR_bytes HS, pI_length HS, pF_length HS, pI_place HS, pF_place HS, pI_number HS, pF_number HS, pI_textLength HS, pF_textLength HS, pI_begin HS, pF_begin HS, pO HS, pA_2 HS, pW_2 HS, wi_some, or_0, or_1, bo_or, ite_boP, true_and, and_true, kN_v, kN_n, kT_v, kT_n, kT_e, Nat.add_zero, Nat.zero_add, h1, em]
  refine k67 (q := 0) hw HS tb ?_ ?_ (Nat.zero_le _) ?_
  · rw [u2_at, if_neg (by omega), u2_at, if_pos ⟨rfl, rfl⟩]
  · intro i hi; rw [u2_at, if_neg (by omega), u2_at, if_neg (by omega)]; exact h2 i hi
  · intro D' f e2 e5
    have rd : ∀ e i, ¬ e = 1 → D' e i = D e i := fun e i he => by rw [f e i (by omega), u2_at, if_neg (by omega), u2_at, if_neg (by omega)]
    simp only [wi_some, or_0, or_1, bo_or, ite_boP, true_and, and_true, kN_v, kN_n, kT_v, kT_n, kT_e, Nat.add_zero, Nat.zero_add, b65_24 hw]
    exact kk D' rd ⟨e2, by rw [f 1 4 (by omega), u2_at, if_neg (by omega), u2_at, if_pos ⟨rfl, rfl⟩], fun i hi => by rw [rd 2 i (by decide)]; exact h2 i hi⟩ (by rw [f 1 1 (by omega), u2_at, if_pos ⟨rfl, rfl⟩])
theorem c_station (hv : GV G) (h : GC sh D G) (kk : ∀ D' V0 V', VE (gV G.1) V0 → VE (stV G V0) V' → GC sh D' (stG G V0 V') → Fc D D' → Q (oQ (e2 xIA xUO) (o_station G V0)) (mk sh D') (c + o1 (o_station G V0)) (s + 6 * o1 (o_station G V0))) : Wx (tP nx xs) (d + 6) 97 0 [some (.ref 0)] [] (mk sh D) c s Q := by
  have hw := h.1.2
  have HS := h.1.1
  have H := St_state HS
  have I := hv.1
  have hV := h.2.1.1
  have hng := i_ng6 I
  have hnt := i_nt8 I
  have hnr := i_nr5 I
  have hnl := i_nl60 I
  have hx := h.L
  have hL := h.2.1.2
  have Hd := St_draft HS
  have n10 : ¬ (Int32.ofNat 1 : Int32) = Int32.ofNat 0 := by decide
  have tb : TB (tv G) (tl G) := ⟨hv.2.2.2.2.1, fun i hi => (tv_of hv hi).1⟩
  obtain ⟨tx, tx1, tx2⟩ := v_tx hv
  have g9 : D 1 1 = Int32.ofNat (tl G) := h.2.2.2.2.1.1
  have g10 : ∀ i, i < tl G → D 2 i = Int32.ofNat (tv G i) := fun i hi => by rw [h.2.2.2.2.1.2 i hi]; exact (tv_of hv hi).2
  simp only [b97_0 hw, xR_tape HS, xI_wrongAt HS, xF_wrongAt HS, xR_state HS, xR_image HS, xI_imageKept HS, xF_imageKept HS, xR_draft HS, xR_memory HS, xR_lawText HS, xR_worlds HS, xI_worldsFresh HS, xF_worldsFresh HS, xR_otherWorlds HS, xR_seating HS, xR_pairing HS, xI_toldSo HS, xF_toldSo HS, xI_toldNot HS, xF_toldNot HS, xO HS, wi_some, or_0, or_1, bo_or, ite_boP, true_and, and_true, kN_v, kN_n, kT_v, kT_n, kT_e, Nat.add_zero, Nat.zero_add, sO_state Hd]
  refine k31 hw Hd H (by decide) hV ?_
  intro D1 f1 e1
  simp only [wi_some, or_0, or_1, bo_or, ite_boP, true_and, and_true, kN_v, kN_n, kT_v, kT_n, kT_e, Nat.add_zero, Nat.zero_add, b97_11 hw, xR_tape HS, xI_wrongAt HS, xF_wrongAt HS, xR_state HS, xR_image HS, xI_imageKept HS, xF_imageKept HS, xR_draft HS, xR_memory HS, xR_lawText HS, xR_worlds HS, xI_worldsFresh HS, xF_worldsFresh HS, xR_otherWorlds HS, xR_seating HS, xR_pairing HS, xI_toldSo HS, xF_toldSo HS, xI_toldNot HS, xF_toldNot HS, xO HS, pR_bytes HS, pI_length HS, pF_length HS, pI_place HS, pF_place HS, pI_number HS, pF_number HS, pI_textLength HS, pF_textLength HS, pI_begin HS, pF_begin HS, pO HS, pA_2 HS, pW_2 HS]
  refine k65 hw HS tb (by rw [f1 1 (by omega)]; exact g9) (fun i hi => by rw [f1 2 (by omega)]; exact g10 i hi) ?_
  intro D2 f2 t2 l2
  have kk := fun D' V' => kk D' (fun k i => D1 (37 + k) i) V' e1
  have hV2 : Vw D2 37 (fun k i => D1 (37 + k) i) := fun k i hk => f2 (37 + k) i (by omega)
  generalize hV0 : (fun k i => D1 (37 + k) i : sD) = V0 at *
  have I0 : Iv V0 (gt G.1) (gg G.1) (gr G.1) (gl G.1) := Iv.ve I e1
  simp only [wi_some, or_0, or_1, bo_or, ite_boP, true_and, and_true, kN_v, kN_n, kT_v, kT_n, kT_e, Nat.add_zero, Nat.zero_add, b97_18 hw, xR_tape HS, xI_wrongAt HS, xF_wrongAt HS, xR_state HS, xR_image HS, xI_imageKept HS, xF_imageKept HS, xR_draft HS, xR_memory HS, xR_lawText HS, xR_worlds HS, xI_worldsFresh HS, xF_worldsFresh HS, xR_otherWorlds HS, xR_seating HS, xR_pairing HS, xI_toldSo HS, xF_toldSo HS, xI_toldNot HS, xF_toldNot HS, xO HS]
  have d2 : ∀ e i, ¬ e = 1 → ¬ (37 ≤ e ∧ e < 54) → D2 e i = D e i := fun e i a1 a2 => by rw [f2 e i a1, f1 e (by omega)]
  unfold stG stV o_station stnR at kk
  refine k53 (S := stS0 G V0) (nl := (gl G.1)) hw HS Hd (by decide) tb ⟨t2, hV2, I0⟩ ?_ ?_
  · intro f D3 hf f3 e3
    simp only [hf] at kk
    simp only [wi_some, or_0, or_1, bo_or, ite_boP, true_and, and_true, kN_v, kN_n, kT_v, kT_n, kT_e, Nat.add_zero, Nat.zero_add, b97_30 hw, xR_tape HS, xI_wrongAt HS, xF_wrongAt HS, xR_state HS, xR_image HS, xI_imageKept HS, xF_imageKept HS, xR_draft HS, xR_memory HS, xR_lawText HS, xR_worlds HS, xI_worldsFresh HS, xF_worldsFresh HS, xR_otherWorlds HS, xR_seating HS, xR_pairing HS, xI_toldSo HS, xF_toldSo HS, xI_toldNot HS, xF_toldNot HS, xO HS, b99_0 hw, if_true, pR_bytes HS, pI_length HS, pF_length HS, pI_place HS, pF_place HS, pI_number HS, pF_number HS, pI_textLength HS, pF_textLength HS, pI_begin HS, pF_begin HS, pO HS, pA_2 HS, pW_2 HS, e3, b99_16 hw, b99_19 hw]
    have d3 : ∀ e i, ¬ e = 1 → ¬ (37 ≤ e ∧ e < 54) → ¬ (e = 0 ∧ i = 1) → u2 D3 0 1 (Int32.ofNat f) e i = D e i := fun e i a1 a2 a3 => by rw [u2_at, if_neg (by omega), f3 e i (by omega) (by omega), d2 e i a1 a2]
    refine kk _ _ VE.rf (h.txt (fun e i a1 a2 _ a3 => d3 e i a1 a2 a3) ?_ ?_) (fun e a1 a2 => funext fun i => d3 e i (by omega) (by omega) (by omega))
    · rw [u2_at, if_neg (by omega), f3 1 1 (by omega) (by omega)]; exact l2
    · rw [u2_at, if_pos ⟨rfl, rfl⟩]
  · intro S' D3 hf f3 v3 I3
    have k13 : S'.1 0 13 = (gV G.1) 0 13 := (tx_keep (by decide) (by decide) (by decide) (by decide) hf).trans (e1 0 13 (by unfold inR; omega))
    have k14 : S'.1 0 14 = (gV G.1) 0 14 := (tx_keep (by decide) (by decide) (by decide) (by decide) hf).trans (e1 0 14 (by unfold inR; omega))
    simp only [hf] at kk
    simp only [wi_some, or_0, or_1, bo_or, ite_boP, true_and, and_true, kN_v, kN_n, kT_v, kT_n, kT_e, Nat.add_zero, Nat.zero_add, b97_30 hw, xR_tape HS, xI_wrongAt HS, xF_wrongAt HS, xR_state HS, xR_image HS, xI_imageKept HS, xF_imageKept HS, xR_draft HS, xR_memory HS, xR_lawText HS, xR_worlds HS, xI_worldsFresh HS, xF_worldsFresh HS, xR_otherWorlds HS, xR_seating HS, xR_pairing HS, xI_toldSo HS, xF_toldSo HS, xI_toldNot HS, xF_toldNot HS, xO HS, b99_0 hw, n10, if_false, b99_16 hw, b99_19 hw]
    have d3 : ∀ e i, ¬ e = 1 → ¬ (37 ≤ e ∧ e < 54) → ¬ (e = 0 ∧ i = 1) → u2 D3 0 1 (-1) e i = D e i := fun e i a1 a2 a3 => by rw [u2_at, if_neg (by omega), f3 e i (by omega) (by omega), d2 e i a1 a2]
    have h4 : GC sh (u2 D3 0 1 (-1)) (txG G (-1)) := h.txt (fun e i a1 a2 _ a3 => d3 e i a1 a2 a3) (by rw [u2_at, if_neg (by omega), f3 1 1 (by omega) (by omega)]; exact l2) (by rw [u2_at, if_pos ⟨rfl, rfl⟩])
    have hV4 : Vw (u2 D3 0 1 (-1)) 3 (gV G.1) := h4.2.1.1
    have v4 : Vw (u2 D3 0 1 (-1)) 37 S'.1 := fun k i hk => by rw [u2_at, if_neg (by omega)]; exact v3 k i hk
    have c4 : u2 D3 0 1 (-1) 3 13 = Int32.ofNat tx := by rw [v_0 hV4, tx2]
    have c5 : u2 D3 0 1 (-1) 37 13 = Int32.ofNat tx := by rw [v_0 v4, k13, tx2]
    simp only [tx2] at kk
    simp only [wi_some, or_0, or_1, bo_or, ite_boP, true_and, and_true, kN_v, kN_n, kT_v, kT_n, kT_e, Nat.add_zero, Nat.zero_add, b97_33 hw, xR_tape HS, xI_wrongAt HS, xF_wrongAt HS, xR_state HS, xR_image HS, xI_imageKept HS, xF_imageKept HS, xR_draft HS, xR_memory HS, xR_lawText HS, xR_worlds HS, xI_worldsFresh HS, xF_worldsFresh HS, xR_otherWorlds HS, xR_seating HS, xR_pairing HS, xI_toldSo HS, xF_toldSo HS, xI_toldNot HS, xF_toldNot HS, xO HS, sR_things H, sI_goers H, sF_goers H, sR_wish H, sR_deed H, sI_makers H, sF_makers H, sR_born H, sR_money H, sR_nerve H, sR_shuns H, sR_by H, sI_trains H, sF_trains H, sR_halts H, sR_seats H, sI_texts H, sF_texts H, sI_law H, sF_law H, sI_day H, sF_day H, sI_seed H, sF_seed H, sR_log H, sO_state H, sI_count H, sF_count H, sI_first H, sF_first H, sR_at H, sR_worth H, sR_makes H, sR_hinders H, sO_things H, sI_rows H, sF_rows H, sR_entries H, sO_log H, sA_2 H, sW_2 H, sA_3 H, sW_3 H, sA_4 H, sW_4 H, sA_5 H, sW_5 H, sA_6 H, sW_6 H, sA_7 H, sW_7 H, sA_8 H, sW_8 H, sA_9 H, sW_9 H, sA_10 H, sW_10 H, sA_11 H, sW_11 H, sA_12 H, sW_12 H, sA_13 H, sW_13 H, sA_14 H, sW_14 H, sA_16 H, sW_16 H, sR_things Hd, sI_goers Hd, sF_goers Hd, sR_wish Hd, sR_deed Hd, sI_makers Hd, sF_makers Hd, sR_born Hd, sR_money Hd, sR_nerve Hd, sR_shuns Hd, sR_by Hd, sI_trains Hd, sF_trains Hd, sR_halts Hd, sR_seats Hd, sI_texts Hd, sF_texts Hd, sI_law Hd, sF_law Hd, sI_day Hd, sF_day Hd, sI_seed Hd, sF_seed Hd, sR_log Hd, sO_state Hd, sI_count Hd, sF_count Hd, sI_first Hd, sF_first Hd, sR_at Hd, sR_worth Hd, sR_makes Hd, sR_hinders Hd, sO_things Hd, sI_rows Hd, sF_rows Hd, sR_entries Hd, sO_log Hd, sA_2 Hd, sW_2 Hd, sA_3 Hd, sW_3 Hd, sA_4 Hd, sW_4 Hd, sA_5 Hd, sW_5 Hd, sA_6 Hd, sW_6 Hd, sA_7 Hd, sW_7 Hd, sA_8 Hd, sW_8 Hd, sA_9 Hd, sW_9 Hd, sA_10 Hd, sW_10 Hd, sA_11 Hd, sW_11 Hd, sA_12 Hd, sW_12 Hd, sA_13 Hd, sW_13 Hd, sA_14 Hd, sW_14 Hd, sA_16 Hd, sW_16 Hd, c4, c5, oN_lt (show tx < 2147483648 by omega) (show 12 < 2147483648 by omega), oN_add]
    by_cases h12 : tx = 12
    · simp only [h12, if_true, oQ, o1] at kk
      simp only [show ¬ tx < 12 by omega, if_false]
      exact kk _ _ VE.rf h4 (fun e a1 a2 => funext fun i => d3 e i (by omega) (by omega) (by omega))
    · have hne : ¬ Int32.ofNat tx = Int32.ofNat 12 := by rw [oN_eq (by omega) (by decide)]; exact h12
      simp only [hne, if_false, oQ, o1, oN_add, Nat.mul_zero, Nat.add_zero] at kk
      simp only [show tx < 12 by omega, if_true, b97_68 hw, xR_tape HS, xI_wrongAt HS, xF_wrongAt HS, xR_state HS, xR_image HS, xI_imageKept HS, xF_imageKept HS, xR_draft HS, xR_memory HS, xR_lawText HS, xR_worlds HS, xI_worldsFresh HS, xF_worldsFresh HS, xR_otherWorlds HS, xR_seating HS, xR_pairing HS, xI_toldSo HS, xF_toldSo HS, xI_toldNot HS, xF_toldNot HS, xO HS, wi_some, or_0, or_1, bo_or, ite_boP, true_and, and_true, kN_v, kN_n, kT_v, kT_n, kT_e, Nat.add_zero, Nat.zero_add, sO_state H]
      have v5 := v4.st0 (i := 13) (Int32.ofNat (tx + 1))
      generalize hD4 : u2 D3 0 1 (-1) = D4 at *
      refine k31 hw H Hd (by decide) v5 ?_
      intro D6 f6 e6
      simp only [wi_some, or_0, or_1, bo_or, ite_boP, true_and, and_true, kN_v, kN_n, kT_v, kT_n, kT_e, Nat.add_zero, Nat.zero_add, b97_79 hw, xR_tape HS, xI_wrongAt HS, xF_wrongAt HS, xR_state HS, xR_image HS, xI_imageKept HS, xF_imageKept HS, xR_draft HS, xR_memory HS, xR_lawText HS, xR_worlds HS, xI_worldsFresh HS, xF_worldsFresh HS, xR_otherWorlds HS, xR_seating HS, xR_pairing HS, xI_toldSo HS, xF_toldSo HS, xI_toldNot HS, xF_toldNot HS, xO HS, k100 hw HS, b97_83 hw, sR_things H, sI_goers H, sF_goers H, sR_wish H, sR_deed H, sI_makers H, sF_makers H, sR_born H, sR_money H, sR_nerve H, sR_shuns H, sR_by H, sI_trains H, sF_trains H, sR_halts H, sR_seats H, sI_texts H, sF_texts H, sI_law H, sF_law H, sI_day H, sF_day H, sI_seed H, sF_seed H, sR_log H, sO_state H, sI_count H, sF_count H, sI_first H, sF_first H, sR_at H, sR_worth H, sR_makes H, sR_hinders H, sO_things H, sI_rows H, sF_rows H, sR_entries H, sO_log H, sA_2 H, sW_2 H, sA_3 H, sW_3 H, sA_4 H, sW_4 H, sA_5 H, sW_5 H, sA_6 H, sW_6 H, sA_7 H, sW_7 H, sA_8 H, sW_8 H, sA_9 H, sW_9 H, sA_10 H, sW_10 H, sA_11 H, sW_11 H, sA_12 H, sW_12 H, sA_13 H, sW_13 H, sA_14 H, sW_14 H, sA_16 H, sW_16 H]
      have ep : D6 (3 + 0) 14 = (gV G.1) 0 14 := (e6 0 14 (by unfold inR; omega)).trans (by rw [u2_at, if_neg (by omega)]; exact k14)
      have er : u2 (u2 D6 54 0 (Int32.ofNat 0)) 0 9 (Int32.ofNat 0) 3 13 = Int32.ofNat (tx + 1) := by
        rw [u2_at, if_neg (by omega), u2_at, if_neg (by omega)]
        exact (e6 0 13 (by unfold inR; omega)).trans (by rw [u2_at, if_pos ⟨rfl, rfl⟩])
      rw [er]
      have rd : ∀ e i, ¬ (3 ≤ e ∧ e < 20) → ¬ (e = 37 ∧ i = 13) → ¬ (e = 0 ∧ i = 9) → ¬ (e = 54 ∧ i = 0) → u2 (u2 D6 54 0 (Int32.ofNat 0)) 0 9 (Int32.ofNat 0) e i = D4 e i := fun e i a1 a2 a3 a4 => by rw [u2_at, if_neg a3, u2_at, if_neg a4, f6 e (by omega), u2_at, if_neg a2]
      obtain ⟨h0, ⟨g1, g2⟩, ⟨g3, g4⟩, ⟨g5, g6, q, hq, g7, g8⟩, ⟨g9', g10'⟩, g11, g12⟩ := h4
      have lc : ∀ {x lw}, Lc sh D4 x lw → Lc sh (u2 (u2 D6 54 0 (Int32.ofNat 0)) 0 9 (Int32.ofNat 0)) x lw := fun {x lw} hl => hl.of fun p hp k hk => funext fun i => rd _ i (by have := Lc_301 hl p hp; omega) (by have := Lc_301 hl p hp; omega) (by have := Lc_301 hl p hp; omega) (by have := Lc_301 hl p hp; omega)
      refine kk _ (fun k i => D6 (3 + k) i) e6 ⟨h0, ⟨?_, ?_⟩, ⟨?_, ?_⟩, ⟨?_, ?_, q, hq, ?_, ?_⟩, ⟨?_, ?_⟩, ?_, ⟨fun t ht => by rw [rd 282 t (by omega) (by omega) (by omega) (by omega)]; exact g12.1 t ht, Or.inl (by rw [u2_at, if_pos ⟨rfl, rfl⟩])⟩⟩ (fun e a1 a2 => funext fun i => by rw [rd e i (by omega) (by omega) (by omega) (by omega)]; exact d3 e i (by omega) (by omega) (by omega))
      · intro k i hk
        rw [u2_at, if_neg (by omega), u2_at, if_neg (by omega)]
        rfl
      · show Lc sh _ (D6 (3 + 0) 14) (gw G.1)
        rw [ep]; exact lc g2
      · rw [rd 0 4 (by omega) (by omega) (by omega) (by omega)]; exact g3
      · intro Si hSi
        obtain ⟨b1, b2, b3⟩ := g4 Si hSi
        refine ⟨fun k i hk => by rw [rd (20 + k) i (by omega) (by omega) (by omega) (by omega)]; exact b1 k i hk, lc b2, ?_⟩
        show Sep (D6 (3 + 0) 14) _
        rw [ep]; exact b3
      · rw [u2_at, if_neg (by omega), u2_at, if_pos ⟨rfl, rfl⟩]; rfl
      · intro i hi; rw [rd 55 i (by omega) (by omega) (by omega) (by omega)]; exact g6 i hi
      · rw [rd 54 1 (by omega) (by omega) (by omega) (by omega)]; exact g7
      · intro j Sj hj; cases hj
      · rw [rd 1 1 (by omega) (by omega) (by omega) (by omega)]; exact g9'
      · intro i hi; exact absurd hi (Nat.not_lt_zero _)
      · rw [rd 0 1 (by omega) (by omega) (by omega) (by omega)]; exact g11
end CC0
