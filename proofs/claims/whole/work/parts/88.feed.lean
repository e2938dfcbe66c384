/-! ===== feed, end ===== -/
def tpG (G : GT) (T : Nat → Int32) (n : Nat) : GT := (G.1, G.2.1, G.2.2.1, T, n, G.2.2.2.2.2)
theorem and_255 (x : Int32) : ∃ z, z < 256 ∧ x &&& Int32.ofNat 255 = Int32.ofNat z := by
  have h : x &&& Int32.ofNat 255 = bs (fun g => bt x g) 8 := by
    apply b_ext
    intro i hi
    rw [b_and, bs_bt _ (by omega) hi, show (Int32.ofNat 255 : Int32) = 255 from rfl, b_255, Bool.and_comm]
  obtain ⟨m, hm, e⟩ := bs_lt (fun g => bt x g) (show 8 ≤ 8 by omega)
  exact ⟨m, hm, h.trans e⟩
theorem by8_def (y : Int32) : by8 y = Int8.toInt32 (Int32.toInt8 y) := rfl
theorem b_toI8 (y : Int32) (i : Nat) (hi : i < 8) : (Int32.toInt8 y).toBitVec.getLsbD i = bt y i := by
  rw [Int32.toBitVec_toInt8, BitVec.getLsbD_signExtend]
  simp only [hi, decide_true, Bool.true_and]
  rw [if_pos (by omega)]
  rfl
theorem toI8_ext {x y : Int32} (h : ∀ i, i < 8 → bt x i = bt y i) : Int32.toInt8 x = Int32.toInt8 y := by
  apply Int8.toBitVec_inj.mp
  apply BitVec.eq_of_getLsbD_eq
  intro i hi
  rw [b_toI8 x i hi, b_toI8 y i hi]
  exact h i hi
theorem by8_byte (x : Int32) {k : Nat} (hk : k < 4) : vp_nar .byte (Int8.toInt32 (Int32.toInt8 (jshr x (Int32.ofNat (8 * k))))) = by8 (jushr x (Int32.ofNat (8 * k)) &&& Int32.ofNat 255) := by
  have e : ∀ z : Int8, Int32.toInt8 (Int8.toInt32 z) = z := fun z => Int8.toInt8_toInt32 z
  show by8 (Int8.toInt32 (Int32.toInt8 (jshr x (Int32.ofNat (8 * k))))) = _
  rw [by8_def, by8_def, e]
  congr 1
  apply toI8_ext
  intro i hi
  rw [b_and, show (Int32.ofNat 255 : Int32) = 255 from rfl, b_255, decide_eq_true hi, Bool.and_true]
  unfold jshr jushr
  have h1 := b_sshr (8 * k) (by omega) x (show i < 32 by omega)
  have h2 := b_ushr (8 * k) (by omega) x i
  have e1 : nI (8 * k) = Int32.ofNat (8 * k) := rfl
  rw [e1] at h1 h2
  rw [h1, h2, if_pos (by omega)]
section C88
variable {nx : Nat} {xs : Nat → Int32} {d c s : Nat} {sh : List sC} {D : sD} {Q : av_Q}
variable {G : GT}
theorem GC.tape {D' : sD} {T : Nat → Int32} {n : Nat} (h : GC sh D G) (f : ∀ b i, b ≠ 2 → ¬ (b = 1 ∧ i = 1) → D' b i = D b i) (h1 : D' 1 1 = Int32.ofNat n) (h2 : ∀ i, i < n → D' 2 i = T i) : GC sh D' (tpG G T n) := by
  obtain ⟨h0, ⟨g1, g2⟩, ⟨g3, g4⟩, ⟨g5, g6, q, hq, g7, g8⟩, ⟨g9, g10⟩, g11, g12⟩ := h
  have vw : ∀ {a V}, Vw D a V → 3 ≤ a → Vw D' a V := fun {a V} hv ha k i hk => by rw [f (a + k) i (by omega) (by omega)]; exact hv k i hk
  have lc : ∀ {x lw}, Lc sh D x lw → Lc sh D' x lw := fun {x lw} hl => hl.of fun p hp k hk => funext fun i => f _ i (by have := Lc_301 hl p hp; omega) (by have := Lc_301 hl p hp; omega)
  refine ⟨h0, ⟨vw g1 (by decide), lc g2⟩, ⟨?_, ?_⟩, ⟨?_, ?_, q, hq, ?_, ?_⟩, ⟨h1, h2⟩, ?_, ?_⟩
  · rw [f 0 4 (by omega) (by omega)]; exact g3
  · intro Si hSi
    obtain ⟨a1, a2, a3⟩ := g4 Si hSi
    exact ⟨vw a1 (by decide), lc a2, a3⟩
  · rw [f 54 0 (by omega) (by omega)]; exact g5
  · intro i hi; rw [f 55 i (by omega) (by omega)]; exact g6 i hi
  · rw [f 54 1 (by omega) (by omega)]; exact g7
  · intro j Sj hj; exact vw (g8 j Sj hj) (by omega)
  · rw [f 0 1 (by omega) (by omega)]; exact g11
  · unfold frW Wf at *
    refine ⟨fun t ht => by rw [f 282 t (by omega) (by omega)]; exact g12.1 t ht, ?_⟩
    rw [f 0 9 (by omega) (by omega)]
    cases g12.2 with
    | inl g => exact Or.inl g
    | inr g =>
      refine Or.inr ⟨g.1, fun z hz hs => ?_⟩
      rw [f (265 + 1) z (by omega) (by omega), f (265 + 2) z (by omega) (by omega)]
      exact g.2 z hz hs
theorem GR.tape {D' : sD} {T : Nat → Int32} {n : Nat} (h : GR D G) (f : ∀ b i, b ≠ 292 → b ≠ 293 → ¬ (b = 286 ∧ (i = 0 ∨ i = 9)) → D' b i = D b i) (h1 : D' 286 9 = Int32.ofNat n) (h2 : ∀ i, i < n → D' 292 i = by8 (T i)) : GR D' (tpG G T n) := by
  obtain ⟨⟨a1, a2⟩, ⟨a3, a4⟩, ⟨a5, a6⟩, ⟨a7, a8⟩, a9⟩ := h
  have r : ∀ b, b ≠ 286 → b ≠ 292 → b ≠ 293 → D' b = D b := fun b hb h2 h3 => funext fun i => f b i h2 h3 (by omega)
  refine ⟨⟨by rw [r 287 (by decide) (by decide) (by decide)]; exact a1, by rw [r 287 (by decide) (by decide) (by decide)]; exact a2⟩, ⟨?_, ?_⟩, ⟨?_, ?_⟩, ⟨h1, h2⟩, ?_⟩
  · rw [f 286 6 (by decide) (by decide) (by omega)]; exact a3
  · rw [r 288 (by decide) (by decide) (by decide)]; exact a4
  · rw [f 286 7 (by decide) (by decide) (by omega)]; exact a5
  · rw [r 291 (by decide) (by decide) (by decide), r 287 (by decide) (by decide) (by decide)]; exact a6
  · rw [f 286 14 (by decide) (by decide) (by omega)]; exact a9
theorem GV.tape {T : Nat → Int32} {n : Nat} (hv : GV G) (hn : n ≤ 400) (hT : ∀ i, i < n → ∃ b, b < 256 ∧ T i = Int32.ofNat b) : GV (tpG G T n) := ⟨hv.1, hv.2.1, hv.2.2.1, hv.2.2.2.1, hn, hT⟩
/-! end -/
def endB (G : GT) (x : Int32) : Bool := decide (¬ x < Int32.ofNat 0) && decide (¬ Int32.ofNat (tl G) < x)
def endG (G : GT) (x : Int32) : GT := if endB G x then tpG G G.2.2.2.1 x.toNatClampNeg else G
theorem end_of {x : Int32} (hv : GV G) (h : endB G x = true) : x = Int32.ofNat x.toNatClampNeg ∧ x.toNatClampNeg ≤ tl G := by
  unfold endB at h
  simp only [Bool.and_eq_true, decide_eq_true_eq] at h
  obtain ⟨e, hb⟩ := oN_of h.1
  have h400 : tl G ≤ 400 := hv.2.2.2.2.1
  generalize x.toNatClampNeg = i at *
  subst e
  have h2 := h.2
  rw [oN_lt (by omega) hb] at h2
  exact ⟨rfl, by omega⟩
theorem GV.end_ {x : Int32} (hv : GV G) : GV (endG G x) := by
  unfold endG
  cases hb : endB G x with
  | false => exact hv
  | true =>
    have := (end_of hv hb).2
    have h400 : tl G ≤ 400 := hv.2.2.2.2.1
    exact hv.tape (by omega) fun i hi => hv.2.2.2.2.2 i (by have : i < tl G := by omega
                                                            exact this)
theorem c_end {x : Int32} (hv : GV G) (h : GC sh D G) (kk : ∀ D', GC sh D' (endG G x) → Fc D D' → Q (.inl (some (.int (bo (endB G x))))) (mk sh D') c s) : Wx (tP nx xs) d 96 0 [some (.ref 0), (some (.int (x)))] [] (mk sh D) c s Q := by
  have hw := h.1.2
  have HS := h.1.1
  have H := St_state HS
  have I := hv.1
  have hV := h.2.1.1
  have hng := i_ng6 I
  have hnt := i_nt8 I
  have hnr := i_nr5 I
  have hnl := i_nl60 I
  have hx := h.L
  have hL := h.2.1.2
  have g9 : D 1 1 = Int32.ofNat (tl G) := h.2.2.2.2.1.1
  have g10 := h.2.2.2.2.1.2
  simp only [b96_0 hw, xR_tape HS, xI_wrongAt HS, xF_wrongAt HS, xR_state HS, xR_image HS, xI_imageKept HS, xF_imageKept HS, xR_draft HS, xR_memory HS, xR_lawText HS, xR_worlds HS, xI_worldsFresh HS, xF_worldsFresh HS, xR_otherWorlds HS, xR_seating HS, xR_pairing HS, xI_toldSo HS, xF_toldSo HS, xI_toldNot HS, xF_toldNot HS, xO HS, pR_bytes HS, pI_length HS, pF_length HS, pI_place HS, pF_place HS, pI_number HS, pF_number HS, pI_textLength HS, pF_textLength HS, pI_begin HS, pF_begin HS, pO HS, pA_2 HS, pW_2 HS, wi_some, or_0, or_1, bo_or, ite_boP, true_and, and_true, kN_v, kN_n, kT_v, kT_n, kT_e, Nat.add_zero, Nat.zero_add, g9, b96_15 hw, b96_25 hw]
  cases hb : endB G x with
  | false =>
    unfold endG at kk
    simp only [hb, Bool.false_eq_true, if_false, bo_f] at kk
    unfold endB at hb
    by_cases h1 : x < Int32.ofNat 0
    · simp only [h1, if_true]; exact kk D h Fc.rf
    · have h2 : Int32.ofNat (tl G) < x := by simp only [h1, not_false_eq_true, decide_true, Bool.true_and, decide_eq_false_iff_not, Classical.not_not] at hb; exact hb
      simp only [h1, h2, if_true, if_false]; exact kk D h Fc.rf
  | true =>
    unfold endG at kk
    simp only [hb, if_true, bo_t] at kk
    have hb' := hb
    unfold endB at hb'
    simp only [Bool.and_eq_true, decide_eq_true_eq] at hb'
    obtain ⟨e, hle⟩ := end_of hv hb
    simp only [hb'.1, hb'.2, if_false]
    refine kk _ (h.tape (fun b i h1 h2 => by rw [u2_at, if_neg (by omega)]) (by rw [u2_at, if_pos ⟨rfl, rfl⟩]; exact e) fun i hi => ?_) (fun b h1 h2 => funext fun i => by rw [u2_at, if_neg (by omega)])
    rw [u2_at, if_neg (by omega)]
    exact g10 i (show i < tl G by omega)
theorem m_end {x : Int32} (hw : WT sh) (HS : SP sh) (hv : GV G) (h : GR D G) (kk : ∀ D', GR D' (endG G x) → Fm D D' → D' 286 0 = Int32.ofNat 0 → Q (.inl (some (.int (bo (endB G x))))) (mk sh D') c s) : Wx (tP nx xs) d 216 0 [some (.ref 286), (some (.int (x)))] [] (mk sh D) c s Q := by
  have g9 : D 286 9 = Int32.ofNat (tl G) := h.2.2.2.1.1
  have g10 := h.2.2.2.1.2
  have m1 : Ms D (u2 D 286 0 (Int32.ofNat 0)) := Ms.rf.th
  have e9 : u2 D 286 0 (Int32.ofNat 0) 286 9 = Int32.ofNat (tl G) := by rw [u2_at, if_neg (by omega)]; exact g9
  simp only [b216_0 hw, b216_5 hw, mI_thrown HS, mF_thrown HS, mR_row HS, mR_image HS, mR_earlier HS, mR_trial HS, mR_acts HS, mI_hasImage HS, mF_hasImage HS, mI_remembered HS, mF_remembered HS, mR_tape HS, mI_taped HS, mF_taped HS, mI_point HS, mF_point HS, mI_end HS, mF_end HS, mI_begin HS, mF_begin HS, mI_deep HS, mF_deep HS, mI_faultAt HS, mF_faultAt HS, mR_five HS, mI_codes HS, mF_codes HS, mR_value HS, mI_so HS, mF_so HS, mR_lines HS, mR_chosen HS, mR_best HS, mR_members HS, mR_paired HS, mO HS, mA_287 HS, mW_287 HS, mA_288 HS, mW_288 HS, mA_289 HS, mW_289 HS, mA_290 HS, mW_290 HS, mA_291 HS, mW_291 HS, mA_292 HS, mW_292 HS, mA_293 HS, mW_293 HS, mA_294 HS, mW_294 HS, mA_295 HS, mW_295 HS, mA_296 HS, mW_296 HS, mA_297 HS, mW_297 HS, mA_298 HS, mW_298 HS, mA_299 HS, mW_299 HS, wi_some, or_0, or_1, bo_or, ite_boP, true_and, and_true, kN_v, kN_n, kT_v, kT_n, kT_e, Nat.add_zero, Nat.zero_add, e9, b216_17 hw, b216_24 hw]
  cases hb : endB G x with
  | false =>
    unfold endG at kk
    simp only [hb, Bool.false_eq_true, if_false, bo_f] at kk
    have fin := kk _ (h.ms hv m1) m1.1 (by simp [u2_at])
    unfold endB at hb
    by_cases h1 : x < Int32.ofNat 0
    · simp only [h1, if_true]; exact fin
    · have h2 : Int32.ofNat (tl G) < x := by simp only [h1, not_false_eq_true, decide_true, Bool.true_and, decide_eq_false_iff_not, Classical.not_not] at hb; exact hb
      simp only [h1, h2, if_true, if_false]; exact fin
  | true =>
    unfold endG at kk
    simp only [hb, if_true, bo_t] at kk
    have hb' := hb
    unfold endB at hb'
    simp only [Bool.and_eq_true, decide_eq_true_eq] at hb'
    obtain ⟨e, hle⟩ := end_of hv hb
    simp only [hb'.1, hb'.2, if_false]
    refine kk _ (h.tape (fun b i h1 h2 h3 => by rw [u2_at, if_neg (by omega), u2_at, if_neg (by omega)]) (by rw [u2_at, if_pos ⟨rfl, rfl⟩]; exact e) fun i hi => ?_) (fun b h1 => funext fun i => by rw [u2_at, if_neg (by omega), u2_at, if_neg (by omega)]) (by simp [u2_at])
    rw [u2_at, if_neg (by omega), u2_at, if_neg (by omega)]
    exact g10 i (show i < tl G by omega)
end C88
