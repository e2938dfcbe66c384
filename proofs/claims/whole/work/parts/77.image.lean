/-! ===== image, back ===== -/
def imgG (G : GT) (V' : sD) : GT := (G.1, some (repV G.1 V'), G.2.2)
def backG (G : GT) (V' : sD) : GT := match G.2.1 with
  | none => G
  | some Si => (repV Si V', some Si, [], G.2.2.2)
def backV (G : GT) : sD := match G.2.1 with
  | none => (gV G.1)
  | some Si => gV Si
theorem GV.img {G : GT} {V' : sD} (hv : GV G) (e : VE (gV G.1) V') : GV (imgG G V') := by
  obtain ⟨h1, h2, h3, h4, h5, h6⟩ := hv
  exact ⟨h1, fun Si h => by cases h; exact h1.ve e, h3, h4, h5, h6⟩
theorem GV.back {G : GT} {V' : sD} (hv : GV G) (e : VE (backV G) V') : GV (backG G V') := by
  unfold backG backV at *
  obtain ⟨h1, h2, h3, h4, h5, h6⟩ := hv
  cases hm : G.2.1 with
  | none => exact ⟨h1, h2, h3, h4, h5, h6⟩
  | some Si =>
    rw [hm] at e
    exact ⟨(h2 Si hm).ve e, fun Sj h => (by cases h; exact h2 Si hm), fun Sj hj => (by cases hj), (by show 0 ≤ 12; omega), h5, h6⟩
section C77
variable {nx : Nat} {xs : Nat → Int32} {d c s : Nat} {sh : List sC} {D : sD} {Q : av_Q}
variable {G : GT}
theorem c_image (hv : GV G) (h : GC sh D G) (kk : ∀ D' V', VE (gV G.1) V' → GC sh D' (imgG G V') → Fc D D' → Q (.inl none) (mk sh D') c s) : Wx (tP nx xs) (d + 2) 176 0 [some (.ref 0)] [] (mk sh D) c s Q := by
  have hw := h.1.2
  have HS := h.1.1
  have H := St_state HS
  have I := hv.1
  have hV := h.2.1.1
  have hng := i_ng6 I
  have hnt := i_nt8 I
  have hnr := i_nr5 I
  have hnl := i_nl60 I
  have hx := h.L
  have hL := h.2.1.2
  have Hi := St_image HS
  simp only [b176_0 hw, xR_tape HS, xI_wrongAt HS, xF_wrongAt HS, xR_state HS, xR_image HS, xI_imageKept HS, xF_imageKept HS, xR_draft HS, xR_memory HS, xR_lawText HS, xR_worlds HS, xI_worldsFresh HS, xF_worldsFresh HS, xR_otherWorlds HS, xR_seating HS, xR_pairing HS, xI_toldSo HS, xF_toldSo HS, xI_toldNot HS, xF_toldNot HS, xO HS, wi_some, or_0, or_1, bo_or, ite_boP, true_and, and_true, kN_v, kN_n, kT_v, kT_n, kT_e, Nat.add_zero, Nat.zero_add, sO_state Hi]
  refine k31 hw Hi H (by decide) hV ?_
  intro D1 f1 e1
  simp only [b176_11 hw, b176_16 hw, xR_tape HS, xI_wrongAt HS, xF_wrongAt HS, xR_state HS, xR_image HS, xI_imageKept HS, xF_imageKept HS, xR_draft HS, xR_memory HS, xR_lawText HS, xR_worlds HS, xI_worldsFresh HS, xF_worldsFresh HS, xR_otherWorlds HS, xR_seating HS, xR_pairing HS, xI_toldSo HS, xF_toldSo HS, xI_toldNot HS, xF_toldNot HS, xO HS, wi_some, or_0, or_1, bo_or, ite_boP, true_and, and_true, kN_v, kN_n, kT_v, kT_n, kT_e, Nat.add_zero, Nat.zero_add]
  have rd : ∀ b i, (b < 20 ∨ 37 ≤ b) → ¬ (b = 0 ∧ i = 4) → u2 D1 0 4 (Int32.ofNat 1) b i = D b i := fun b i h1 h3 => by rw [u2_at, if_neg h3, f1 b (by omega)]
  obtain ⟨h0, ⟨g1, g2⟩, _, ⟨g5, g6, q, hq, g7, g8⟩, ⟨g9, g10⟩, g11, g12⟩ := h
  have vw : ∀ {a V}, Vw D a V → 1 ≤ a → (a + 17 ≤ 20 ∨ 37 ≤ a) → Vw (u2 D1 0 4 (Int32.ofNat 1)) a V := fun {a V} hv h1 h2 k i hk => by rw [rd (a + k) i (by omega) (by omega)]; exact hv k i hk
  have lc : ∀ {x lw}, Lc sh D x lw → Lc sh (u2 D1 0 4 (Int32.ofNat 1)) x lw := fun {x lw} hl => hl.of fun p hp k hk => funext fun i => rd _ i (by have := Lc_301 hl p hp; omega) (by have := Lc_301 hl p hp; omega)
  have ep : D1 (20 + 0) 14 = (gV G.1) 0 14 := e1 0 14 (by unfold inR; omega)
  refine kk _ (fun k i => D1 (20 + k) i) e1 ⟨h0, ⟨vw g1 (by decide) (by decide), lc g2⟩, ⟨?_, ?_⟩, ⟨?_, ?_, q, hq, ?_, ?_⟩, ⟨?_, ?_⟩, ?_, ?_⟩ (fun b h1 h2 => funext fun i => rd b i (by omega) (by omega))
  · show u2 D1 0 4 (Int32.ofNat 1) 0 4 = bo true
    simp [u2_at, bo]
  · intro Si hSi
    cases hSi
    refine ⟨?_, ?_, ?_⟩
    · intro k i hk
      rw [u2_at, if_neg (by omega)]
      rfl
    · show Lc sh _ (D1 (20 + 0) 14) (gw G.1)
      rw [ep]; exact lc g2
    · show Sep ((gV G.1) 0 14) (D1 (20 + 0) 14)
      rw [ep]; exact Sep.rf
  · rw [rd 54 0 (by omega) (by omega)]; exact g5
  · intro i hi; rw [rd 55 i (by omega) (by omega)]; exact g6 i hi
  · rw [rd 54 1 (by omega) (by omega)]; exact g7
  · intro j Sj hj; exact vw (g8 j Sj hj) (by omega) (by omega)
  · rw [rd 1 1 (by omega) (by omega)]; exact g9
  · intro i hi; rw [rd 2 i (by omega) (by omega)]; exact g10 i hi
  · rw [rd 0 1 (by omega) (by omega)]; exact g11
  · unfold frW Wf at *
    refine ⟨fun t ht => by rw [rd 282 t (by omega) (by omega)]; exact g12.1 t ht, ?_⟩
    rw [rd 0 9 (by omega) (by omega)]
    rcases g12.2 with g | ⟨g, gw⟩
    · exact Or.inl g
    · refine Or.inr ⟨g, fun z hz hs => ?_⟩
      rw [rd (265 + 1) z (by omega) (by omega), rd (265 + 2) z (by omega) (by omega)]
      exact gw z hz hs
theorem m_image {V' : sD} (hw : WT sh) (HS : SP sh) (hv : GV G) (h : GR D G) (e : VE (gV G.1) V') (kk : ∀ D', GR D' (imgG G V') → Fm D D' → Q (.inl none) (mk sh D') c s) : Wx (tP nx xs) d 191 0 [some (.ref 286), none] [] (mk sh D) c s Q := by
  have m1 : Ms D (u2 D 286 0 (Int32.ofNat 0)) := Ms.rf.th
  have h1 := h.ms hv m1
  simp only [b191_0 hw, b191_5 hw, mI_thrown HS, mF_thrown HS, mR_row HS, mR_image HS, mR_earlier HS, mR_trial HS, mR_acts HS, mI_hasImage HS, mF_hasImage HS, mI_remembered HS, mF_remembered HS, mR_tape HS, mI_taped HS, mF_taped HS, mI_point HS, mF_point HS, mI_end HS, mF_end HS, mI_begin HS, mF_begin HS, mI_deep HS, mF_deep HS, mI_faultAt HS, mF_faultAt HS, mR_five HS, mI_codes HS, mF_codes HS, mR_value HS, mI_so HS, mF_so HS, mR_lines HS, mR_chosen HS, mR_best HS, mR_members HS, mR_paired HS, mO HS, mA_287 HS, mW_287 HS, mA_288 HS, mW_288 HS, mA_289 HS, mW_289 HS, mA_290 HS, mW_290 HS, mA_291 HS, mW_291 HS, mA_292 HS, mW_292 HS, mA_293 HS, mW_293 HS, mA_294 HS, mW_294 HS, mA_295 HS, mW_295 HS, mA_296 HS, mW_296 HS, mA_297 HS, mW_297 HS, mA_298 HS, mW_298 HS, mA_299 HS, mW_299 HS, wi_some, or_0, or_1, bo_or, ite_boP, true_and, and_true, kN_v, kN_n, kT_v, kT_n, kT_e, Nat.add_zero, Nat.zero_add]
  generalize hD1 : u2 D 286 0 (Int32.ofNat 0) = D1 at *
  refine up_P (W := fun i (_ : Nat) D => Wx (tP nx xs) d 191 7 [some (.ref 286), (some (.int (Int32.ofNat i)))] [] (mk sh D) c s Q) (P := fun i _ D' => (∀ b, b ≠ 288 → D' b = D1 b) ∧ ∀ j, D' 288 j = if j < i then D1 287 j else D1 288 j) (F := fun _ x => x) 1201 ?_ 0 D1 ⟨fun _ _ => rfl, fun j => by rw [if_neg (by omega)]⟩ ?_
  · intro i _ D2 hi ⟨f2, a2⟩ k
    have b2 : i < 2050 := by omega
    have er : D2 287 i = D1 287 i := by rw [f2 287 (by decide)]
    rw [b191_7 hw]
    simp only [b191_26 hw, mI_thrown HS, mF_thrown HS, mR_row HS, mR_image HS, mR_earlier HS, mR_trial HS, mR_acts HS, mI_hasImage HS, mF_hasImage HS, mI_remembered HS, mF_remembered HS, mR_tape HS, mI_taped HS, mF_taped HS, mI_point HS, mF_point HS, mI_end HS, mF_end HS, mI_begin HS, mF_begin HS, mI_deep HS, mF_deep HS, mI_faultAt HS, mF_faultAt HS, mR_five HS, mI_codes HS, mF_codes HS, mR_value HS, mI_so HS, mF_so HS, mR_lines HS, mR_chosen HS, mR_best HS, mR_members HS, mR_paired HS, mO HS, mA_287 HS, mW_287 HS, mA_288 HS, mW_288 HS, mA_289 HS, mW_289 HS, mA_290 HS, mW_290 HS, mA_291 HS, mW_291 HS, mA_292 HS, mW_292 HS, mA_293 HS, mW_293 HS, mA_294 HS, mW_294 HS, mA_295 HS, mW_295 HS, mA_296 HS, mW_296 HS, mA_297 HS, mW_297 HS, mA_298 HS, mW_298 HS, mA_299 HS, mW_299 HS, wi_some, or_0, or_1, bo_or, ite_boP, true_and, and_true, kN_v, kN_n, kT_v, kT_n, kT_e, Nat.add_zero, Nat.zero_add, oN_lt (show i < 2147483648 by omega) (show 1201 < 2147483648 by omega), hi, if_true, oN_add, b2, oN_tn (show i < 2147483648 by omega), er]
    refine k _ ⟨fun b hb => ?_, fun j => ?_⟩
    · rw [← f2 b hb]
      funext x
      rw [u2_at, if_neg (by omega)]
    · rw [u2_at]
      by_cases e : j = i
      · rw [if_pos ⟨rfl, e⟩, if_pos (by omega), e]
      · rw [if_neg (by omega), a2 j]
        by_cases h : j < i
        · rw [if_pos h, if_pos (by omega)]
        · rw [if_neg h, if_neg (by omega)]
  · intro D2 ⟨f2, a2⟩
    rw [b191_7 hw]
    simp only [oN_lt (show 1201 < 2147483648 by omega) (show 1201 < 2147483648 by omega), Nat.lt_irrefl, if_false, mI_thrown HS, mF_thrown HS, mR_row HS, mR_image HS, mR_earlier HS, mR_trial HS, mR_acts HS, mI_hasImage HS, mF_hasImage HS, mI_remembered HS, mF_remembered HS, mR_tape HS, mI_taped HS, mF_taped HS, mI_point HS, mF_point HS, mI_end HS, mF_end HS, mI_begin HS, mF_begin HS, mI_deep HS, mF_deep HS, mI_faultAt HS, mF_faultAt HS, mR_five HS, mI_codes HS, mF_codes HS, mR_value HS, mI_so HS, mF_so HS, mR_lines HS, mR_chosen HS, mR_best HS, mR_members HS, mR_paired HS, mO HS, mA_287 HS, mW_287 HS, mA_288 HS, mW_288 HS, mA_289 HS, mW_289 HS, mA_290 HS, mW_290 HS, mA_291 HS, mW_291 HS, mA_292 HS, mW_292 HS, mA_293 HS, mW_293 HS, mA_294 HS, mW_294 HS, mA_295 HS, mW_295 HS, mA_296 HS, mW_296 HS, mA_297 HS, mW_297 HS, mA_298 HS, mW_298 HS, mA_299 HS, mW_299 HS, wi_some, or_0, or_1, bo_or, ite_boP, true_and, and_true, kN_v, kN_n, kT_v, kT_n, kT_e, Nat.add_zero, Nat.zero_add, b191_37 hw]
    have all : ∀ b i, b ≠ 288 → ¬ (b = 286 ∧ i = 6) → u2 D2 286 6 (Int32.ofNat 1) b i = D1 b i := fun b i h1 h2 => by rw [u2_at, if_neg h2, f2 b h1]
    have I := hv.1
    obtain ⟨⟨R, hL⟩, _, ⟨g5, g6⟩, ⟨g7, g8⟩, g9⟩ := h1
    have e7 : u2 D2 286 6 (Int32.ofNat 1) 287 = D1 287 := funext fun i => all 287 i (by decide) (by omega)
    have e88 : ∀ i, i < 1201 → u2 D2 286 6 (Int32.ofNat 1) 288 i = D1 287 i := fun i hi => by rw [u2_at, if_neg (by omega), a2, if_pos hi]
    refine kk _ ⟨⟨by rw [e7]; exact R, by rw [e7]; exact hL⟩, ⟨?_, ?_⟩, ⟨?_, ?_⟩, ⟨?_, ?_⟩, ?_⟩ (m1.1.tr fun b hb => funext fun i => all b i (by omega) (by omega))
    · show u2 D2 286 6 (Int32.ofNat 1) 286 6 = bo true
      simp [u2_at, bo]
    · intro Si hSi
      cases hSi
      exact ⟨(R.ve (i_nt8 I) (i_ng6 I) (i_nr5 I) (i_nl60 I) e).of (i_nt8 I) (i_ng6 I) (i_nr5 I) (i_nl60 I) fun i hi => e88 i (by omega), hL.of2 e88⟩
    · rw [all 286 7 (by decide) (by omega)]; exact g5
    · rw [show u2 D2 286 6 (Int32.ofNat 1) 291 = D1 291 from funext fun i => all 291 i (by decide) (by omega), e7]; exact g6
    · rw [all 286 9 (by decide) (by omega)]; exact g7
    · rw [show u2 D2 286 6 (Int32.ofNat 1) 292 = D1 292 from funext fun i => all 292 i (by decide) (by omega)]; exact g8
    · rw [all 286 14 (by decide) (by omega)]; exact g9
theorem k100 (hw : WT sh) (HS : SP sh) : Wx (tP nx xs) (d + 1) 100 0 [some (.ref 0)] [] (mk sh D) c s Q = Q (.inl none) (mk sh (u2 (u2 D 54 0 (Int32.ofNat 0)) 0 9 (Int32.ofNat 0))) c s := by
  simp only [b100_0 hw, b100_7 hw, b100_12 hw, b21_0 hw, b21_5 hw, xR_tape HS, xI_wrongAt HS, xF_wrongAt HS, xR_state HS, xR_image HS, xI_imageKept HS, xF_imageKept HS, xR_draft HS, xR_memory HS, xR_lawText HS, xR_worlds HS, xI_worldsFresh HS, xF_worldsFresh HS, xR_otherWorlds HS, xR_seating HS, xR_pairing HS, xI_toldSo HS, xF_toldSo HS, xI_toldNot HS, xF_toldNot HS, xO HS, eI_kept HS, eF_kept HS, eI_next HS, eF_next HS, eR_before HS, eO HS, eW_55 HS, wi_some, or_0, or_1, bo_or, ite_boP, true_and, and_true, kN_v, kN_n, kT_v, kT_n, kT_e, Nat.add_zero, Nat.zero_add]
theorem c_back (hv : GV G) (h : GC sh D G) (kk : ∀ D' V', VE (backV G) V' → GC sh D' (backG G V') → Fc D D' → Q (.inl (some (.int (bo G.2.1.isSome)))) (mk sh D') c s) : Wx (tP nx xs) (d + 2) 177 0 [some (.ref 0)] [] (mk sh D) c s Q := by
  have hw := h.1.2
  have HS := h.1.1
  have H := St_state HS
  have I := hv.1
  have hV := h.2.1.1
  have hng := i_ng6 I
  have hnt := i_nt8 I
  have hnr := i_nr5 I
  have hnl := i_nl60 I
  have hx := h.L
  have hL := h.2.1.2
  have Hi := St_image HS
  obtain ⟨g3, g4⟩ := h.2.2.1
  unfold backG backV at kk
  simp only [b177_0 hw, xR_tape HS, xI_wrongAt HS, xF_wrongAt HS, xR_state HS, xR_image HS, xI_imageKept HS, xF_imageKept HS, xR_draft HS, xR_memory HS, xR_lawText HS, xR_worlds HS, xI_worldsFresh HS, xF_worldsFresh HS, xR_otherWorlds HS, xR_seating HS, xR_pairing HS, xI_toldSo HS, xF_toldSo HS, xI_toldNot HS, xF_toldNot HS, xO HS, wi_some, or_0, or_1, bo_or, ite_boP, true_and, and_true, kN_v, kN_n, kT_v, kT_n, kT_e, Nat.add_zero, Nat.zero_add, g3]
  cases him : G.2.1 with
  | none =>
    simp only [him, Option.isSome_none, bo_f, Bool.false_eq_true, if_false] at kk ⊢
    exact kk D _ VE.rf h Fc.rf
  | some Si =>
    simp only [him, Option.isSome_some, bo_t] at kk
    obtain ⟨a1, a2, a3⟩ := g4 Si him
    simp only [Option.isSome_some, if_true, sO_state H, wi_some, or_0, or_1, bo_or, ite_boP, true_and, and_true, kN_v, kN_n, kT_v, kT_n, kT_e, Nat.add_zero, Nat.zero_add]
    refine k31 hw H Hi (by decide) a1 ?_
    intro D1 f1 e1
    simp only [b177_20 hw, b177_24 hw, xR_tape HS, xI_wrongAt HS, xF_wrongAt HS, xR_state HS, xR_image HS, xI_imageKept HS, xF_imageKept HS, xR_draft HS, xR_memory HS, xR_lawText HS, xR_worlds HS, xI_worldsFresh HS, xF_worldsFresh HS, xR_otherWorlds HS, xR_seating HS, xR_pairing HS, xI_toldSo HS, xF_toldSo HS, xI_toldNot HS, xF_toldNot HS, xO HS, wi_some, or_0, or_1, bo_or, ite_boP, true_and, and_true, kN_v, kN_n, kT_v, kT_n, kT_e, Nat.add_zero, Nat.zero_add, k100 hw HS]
    have rd : ∀ b i, (b < 3 ∨ 20 ≤ b) → ¬ (b = 0 ∧ i = 9) → ¬ (b = 54 ∧ i = 0) → u2 (u2 D1 54 0 (Int32.ofNat 0)) 0 9 (Int32.ofNat 0) b i = D b i := fun b i h1 h2 h3 => by rw [u2_at, if_neg h2, u2_at, if_neg h3, f1 b (by omega)]
    obtain ⟨h0, ⟨g1, g2⟩, _, ⟨g5, g6, q, hq, g7, g8⟩, ⟨g9, g10⟩, g11, g12⟩ := h
    have lc : ∀ {x lw}, Lc sh D x lw → Lc sh (u2 (u2 D1 54 0 (Int32.ofNat 0)) 0 9 (Int32.ofNat 0)) x lw := fun {x lw} hl => hl.of fun p hp k hk => funext fun i => rd _ i (by have := Lc_301 hl p hp; omega) (by have := Lc_301 hl p hp; omega) (by have := Lc_301 hl p hp; omega)
    have ep : D1 (3 + 0) 14 = gV Si 0 14 := e1 0 14 (by unfold inR; omega)
    refine kk _ (fun k i => D1 (3 + k) i) e1 ⟨h0, ⟨?_, ?_⟩, ⟨?_, ?_⟩, ⟨?_, ?_, q, hq, ?_, ?_⟩, ⟨?_, ?_⟩, ?_, ⟨fun t ht => by rw [rd 282 t (by omega) (by omega) (by omega)]; exact g12.1 t ht, Or.inl (by simp [u2_at])⟩⟩ (fun b h1 h2 => funext fun i => rd b i (by omega) (by omega) (by omega))
    · intro k i hk
      rw [u2_at, if_neg (by omega), u2_at, if_neg (by omega)]
      rfl
    · show Lc sh _ (D1 (3 + 0) 14) (gw Si)
      rw [ep]; exact lc a2
    · show _ = bo true
      rw [rd 0 4 (by omega) (by omega) (by omega), g3, him]; rfl
    · intro Sj hSj
      cases hSj
      refine ⟨?_, lc a2, ?_⟩
      · intro k i hk
        rw [rd (20 + k) i (by omega) (by omega) (by omega)]
        exact a1 k i hk
      · show Sep (D1 (3 + 0) 14) _
        rw [ep]; exact Sep.rf
    · show u2 (u2 D1 54 0 (Int32.ofNat 0)) 0 9 (Int32.ofNat 0) 54 0 = Int32.ofNat 0
      simp [u2_at]
    · intro i hi; rw [rd 55 i (by omega) (by omega) (by omega)]; exact g6 i hi
    · rw [rd 54 1 (by omega) (by omega) (by omega)]; exact g7
    · intro j Sj hj; cases hj
    · rw [rd 1 1 (by omega) (by omega) (by omega)]; exact g9
    · intro i hi; rw [rd 2 i (by omega) (by omega) (by omega)]; exact g10 i hi
    · rw [rd 0 1 (by omega) (by omega) (by omega)]; exact g11
theorem m_back {V' : sD} (hw : WT sh) (HS : SP sh) (hv : GV G) (h : GR D G) (e : VE (backV G) V') (kk : ∀ D', GR D' (backG G V') → Fm D D' → Q (.inl (some (.int (bo G.2.1.isSome)))) (mk sh D') c s) : Wx (tP nx xs) d 192 0 [some (.ref 286), none] [] (mk sh D) c s Q := by
  have m1 : Ms D (u2 D 286 0 (Int32.ofNat 0)) := Ms.rf.th
  have h1 := h.ms hv m1
  simp only [b192_0 hw, b192_5 hw, mI_thrown HS, mF_thrown HS, mR_row HS, mR_image HS, mR_earlier HS, mR_trial HS, mR_acts HS, mI_hasImage HS, mF_hasImage HS, mI_remembered HS, mF_remembered HS, mR_tape HS, mI_taped HS, mF_taped HS, mI_point HS, mF_point HS, mI_end HS, mF_end HS, mI_begin HS, mF_begin HS, mI_deep HS, mF_deep HS, mI_faultAt HS, mF_faultAt HS, mR_five HS, mI_codes HS, mF_codes HS, mR_value HS, mI_so HS, mF_so HS, mR_lines HS, mR_chosen HS, mR_best HS, mR_members HS, mR_paired HS, mO HS, mA_287 HS, mW_287 HS, mA_288 HS, mW_288 HS, mA_289 HS, mW_289 HS, mA_290 HS, mW_290 HS, mA_291 HS, mW_291 HS, mA_292 HS, mW_292 HS, mA_293 HS, mW_293 HS, mA_294 HS, mW_294 HS, mA_295 HS, mW_295 HS, mA_296 HS, mW_296 HS, mA_297 HS, mW_297 HS, mA_298 HS, mW_298 HS, mA_299 HS, mW_299 HS, wi_some, or_0, or_1, bo_or, ite_boP, true_and, and_true, kN_v, kN_n, kT_v, kT_n, kT_e, Nat.add_zero, Nat.zero_add]
  generalize hD1 : u2 D 286 0 (Int32.ofNat 0) = D1 at *
  have h1' := h1
  obtain ⟨⟨R, hL⟩, ⟨g3, g4⟩, ⟨g5, g6⟩, ⟨g7, g8⟩, g9⟩ := h1
  unfold backG backV at *
  simp only [g3, wi_some, or_0, or_1, bo_or, ite_boP, true_and, and_true, kN_v, kN_n, kT_v, kT_n, kT_e, Nat.add_zero, Nat.zero_add]
  cases him : G.2.1 with
  | none =>
    simp only [him, Option.isSome_none, bo_f, Bool.false_eq_true, if_false] at kk ⊢
    exact kk D1 h1' m1.1
  | some Si =>
    simp only [him] at e
    simp only [him, Option.isSome_some, bo_t] at kk
    obtain ⟨a1, a3⟩ := g4 Si him
    have Ii := hv.2.1 Si him
    simp only [Option.isSome_some, if_true]
    refine up_P (W := fun i (_ : Nat) D => Wx (tP nx xs) d 192 16 [some (.ref 286), (some (.int (Int32.ofNat i)))] [] (mk sh D) c s Q) (P := fun i _ D' => (∀ b, b ≠ 287 → D' b = D1 b) ∧ ∀ j, D' 287 j = if j < i then D1 288 j else D1 287 j) (F := fun _ x => x) 1201 ?_ 0 D1 ⟨fun _ _ => rfl, fun j => by rw [if_neg (by omega)]⟩ ?_
    · intro i _ D2 hi ⟨f2, a2⟩ k
      have b2 : i < 2050 := by omega
      have b1 : i < 1201 := hi
      have er : D2 288 i = D1 288 i := by rw [f2 288 (by decide)]
      rw [b192_16 hw]
      simp only [b192_35 hw, mI_thrown HS, mF_thrown HS, mR_row HS, mR_image HS, mR_earlier HS, mR_trial HS, mR_acts HS, mI_hasImage HS, mF_hasImage HS, mI_remembered HS, mF_remembered HS, mR_tape HS, mI_taped HS, mF_taped HS, mI_point HS, mF_point HS, mI_end HS, mF_end HS, mI_begin HS, mF_begin HS, mI_deep HS, mF_deep HS, mI_faultAt HS, mF_faultAt HS, mR_five HS, mI_codes HS, mF_codes HS, mR_value HS, mI_so HS, mF_so HS, mR_lines HS, mR_chosen HS, mR_best HS, mR_members HS, mR_paired HS, mO HS, mA_287 HS, mW_287 HS, mA_288 HS, mW_288 HS, mA_289 HS, mW_289 HS, mA_290 HS, mW_290 HS, mA_291 HS, mW_291 HS, mA_292 HS, mW_292 HS, mA_293 HS, mW_293 HS, mA_294 HS, mW_294 HS, mA_295 HS, mW_295 HS, mA_296 HS, mW_296 HS, mA_297 HS, mW_297 HS, mA_298 HS, mW_298 HS, mA_299 HS, mW_299 HS, wi_some, or_0, or_1, bo_or, ite_boP, true_and, and_true, kN_v, kN_n, kT_v, kT_n, kT_e, Nat.add_zero, Nat.zero_add, oN_lt (show i < 2147483648 by omega) (show 1201 < 2147483648 by omega), hi, if_true, oN_add, b2, oN_tn (show i < 2147483648 by omega), er]
      refine k _ ⟨fun b hb => ?_, fun j => ?_⟩
      · rw [← f2 b hb]
        funext x
        rw [u2_at, if_neg (by omega)]
      · rw [u2_at]
        by_cases e : j = i
        · rw [if_pos ⟨rfl, e⟩, if_pos (by omega), e]
        · rw [if_neg (by omega), a2 j]
          by_cases h : j < i
          · rw [if_pos h, if_pos (by omega)]
          · rw [if_neg h, if_neg (by omega)]
    · intro D2 ⟨f2, a2⟩
      rw [b192_16 hw]
      simp only [oN_lt (show 1201 < 2147483648 by omega) (show 1201 < 2147483648 by omega), Nat.lt_irrefl, if_false, mI_thrown HS, mF_thrown HS, mR_row HS, mR_image HS, mR_earlier HS, mR_trial HS, mR_acts HS, mI_hasImage HS, mF_hasImage HS, mI_remembered HS, mF_remembered HS, mR_tape HS, mI_taped HS, mF_taped HS, mI_point HS, mF_point HS, mI_end HS, mF_end HS, mI_begin HS, mF_begin HS, mI_deep HS, mF_deep HS, mI_faultAt HS, mF_faultAt HS, mR_five HS, mI_codes HS, mF_codes HS, mR_value HS, mI_so HS, mF_so HS, mR_lines HS, mR_chosen HS, mR_best HS, mR_members HS, mR_paired HS, mO HS, mA_287 HS, mW_287 HS, mA_288 HS, mW_288 HS, mA_289 HS, mW_289 HS, mA_290 HS, mW_290 HS, mA_291 HS, mW_291 HS, mA_292 HS, mW_292 HS, mA_293 HS, mW_293 HS, mA_294 HS, mW_294 HS, mA_295 HS, mW_295 HS, mA_296 HS, mW_296 HS, mA_297 HS, mW_297 HS, mA_298 HS, mW_298 HS, mA_299 HS, mW_299 HS, wi_some, or_0, or_1, bo_or, ite_boP, true_and, and_true, kN_v, kN_n, kT_v, kT_n, kT_e, Nat.add_zero, Nat.zero_add, b192_46 hw]
      have all : ∀ b i, b ≠ 287 → ¬ (b = 286 ∧ i = 7) → u2 D2 286 7 (Int32.ofNat 0) b i = D1 b i := fun b i h1 h2 => by rw [u2_at, if_neg h2, f2 b h1]
      have e7 : ∀ i, i < 1201 → u2 D2 286 7 (Int32.ofNat 0) 287 i = D1 288 i := fun i hi => by rw [u2_at, if_neg (by omega), a2, if_pos hi]
      have e88 : u2 D2 286 7 (Int32.ofNat 0) 288 = D1 288 := funext fun i => all 288 i (by decide) (by omega)
      refine kk _ ⟨⟨(a1.ve (i_nt8 Ii) (i_ng6 Ii) (i_nr5 Ii) (i_nl60 Ii) e).of (i_nt8 Ii) (i_ng6 Ii) (i_nr5 Ii) (i_nl60 Ii) fun i hi => e7 i (by omega), a3.of2 e7⟩, ⟨?_, ?_⟩, ⟨?_, ?_⟩, ⟨?_, ?_⟩, ?_⟩ (m1.1.tr fun b hb => funext fun i => all b i (by omega) (by omega))
      · show _ = bo true
        rw [all 286 6 (by decide) (by omega), g3, him]; rfl
      · rw [e88]; intro Sj hj; cases hj; exact ⟨a1, a3⟩
      · show u2 D2 286 7 (Int32.ofNat 0) 286 7 = Int32.ofNat 0
        simp [u2_at]
      · intro j Sj hj; cases hj
      · rw [all 286 9 (by decide) (by omega)]; exact g7
      · rw [show u2 D2 286 7 (Int32.ofNat 0) 292 = D1 292 from funext fun i => all 292 i (by decide) (by omega)]; exact g8
      · rw [all 286 14 (by decide) (by omega)]; exact g9
end C77
