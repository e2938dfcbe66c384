/-! ===== what is remembered ===== -/
def repV (S : GS) (V' : sD) : GS := (V', S.2)
def keepG (G : GT) (V' : sD) : GT := (G.1, G.2.1, (repV G.1 V' :: G.2.2.1).take 12, G.2.2.2)
/-- what stands is changed -/
def setG (G : GT) (S : GS) : GT := (S, G.2)
theorem gV_rep {S : GS} {V' : sD} : gV (repV S V') = V' := rfl
theorem IvS.ve {S : GS} {V' : sD} (I : IvS S) (e : VE (gV S) V') : IvS (repV S V') := Iv.ve I e
theorem GV.keep {G : GT} {V' : sD} (hv : GV G) (e : VE (gV G.1) V') : GV (keepG G V') := by
  obtain ⟨h1, h2, h3, h4, h5, h6⟩ := hv
  refine ⟨h1, h2, ?_, ?_, h5, h6⟩
  · intro Sj hj
    have hj := List.mem_of_mem_take hj
    rcases List.mem_cons.mp hj with e' | hj
    · subst e'
      exact ⟨h1.ve e, e 0 14 (by unfold inR; omega), rfl⟩
    · exact h3 Sj hj
  · show (List.take 12 _).length ≤ 12
    rw [List.length_take]
    omega
theorem GV.set {G : GT} {S : GS} (hv : GV G) (I : IvS S) (hp : gV S 0 14 = gV G.1 0 14) (hl : gw S = gw G.1) : GV (setG G S) := by
  obtain ⟨h1, h2, h3, h4, h5, h6⟩ := hv
  refine ⟨I, h2, ?_, h4, h5, h6⟩
  intro Sj hj
  obtain ⟨a1, a2, a3⟩ := h3 Sj hj
  exact ⟨a1, a2.trans hp.symm, a3.trans hl.symm⟩
/-- the State that stands has changed, and nothing else but rows in which the law reckons; worlds are not fresh -/
theorem GC.set {sh : List sC} {D D' : sD} {G : GT} {S : GS} (h : GC sh D G) (hf : Fx 3 (gV G.1 0 14) D D') (hV : Vw D' 3 (gV S)) (hp : gV S 0 14 = gV G.1 0 14) (hl : gw S = gw G.1) (h9 : D 0 9 = Int32.ofNat 0) : GC sh D' (setG G S) := by
  have hx := h.L
  obtain ⟨h0, ⟨h1, h2⟩, ⟨h3, h4⟩, ⟨h5, h6, q, hq, h7, h8⟩, ⟨h9', h10⟩, h11, gF⟩ := h
  have lo : ∀ b, (b < 3 ∨ (20 ≤ b ∧ b ≤ 300)) → D' b = D b := fun b hb => hf b (by omega) fun p hp => by have := hx p hp; omega
  have vw : ∀ {a V}, Vw D a V → 20 ≤ a → a + 17 ≤ 301 → Vw D' a V := fun {a V} hv h1 h2 k i hk => by rw [lo (a + k) (by omega)]; exact hv k i hk
  refine ⟨h0, ⟨hV, ?_⟩, ⟨?_, ?_⟩, ⟨?_, ?_, q, hq, ?_, ?_⟩, ⟨?_, ?_⟩, ?_, ?_⟩
  · show Lc sh D' (gV S 0 14) (gw S)
    rw [hp, hl]
    exact h2.fx (by decide) hf
  · rw [lo 0 (by decide)]; exact h3
  · intro Si hSi
    obtain ⟨a1, a2, a3⟩ := h4 Si hSi
    refine ⟨vw a1 (by decide) (by decide), ?_, ?_⟩
    · exact a2.of fun p hp' k hk => hf _ (by have := Lc_301 a2 p hp'; omega) fun p2 hp2 => by
        have := a3 p2 p hp2 hp'
        omega
    · show Sep (gV S 0 14) _
      rw [hp]; exact a3
  · rw [lo 54 (by decide)]; exact h5
  · rw [lo 55 (by decide)]; exact h6
  · rw [lo 54 (by decide)]; exact h7
  · intro j Sj hj; exact vw (h8 j Sj hj) (by omega) (by omega)
  · rw [lo 1 (by decide)]; exact h9'
  · rw [lo 2 (by decide)]; exact h10
  · rw [lo 0 (by decide)]; exact h11
  · exact ⟨fun t ht => by rw [lo 282 (by decide)]; exact gF.1 t ht, Or.inl (by rw [lo 0 (by decide)]; exact h9)⟩
theorem jr12 : ∀ q, q < 12 → jrem (Int32.ofNat (q + 1)) (Int32.ofNat 12) = Int32.ofNat ((q + 1) % 12) := by decide +kernel
theorem jr12b : ∀ q, q < 12 → jrem (Int32.ofNat (q + 12) - Int32.ofNat 1) (Int32.ofNat 12) = Int32.ofNat ((q + 11) % 12) := by decide +kernel
theorem mn12 : ∀ m, m < 13 → mn (Int32.ofNat 12) (Int32.ofNat (m + 1)) = Int32.ofNat (min 12 (m + 1)) := by decide +kernel
theorem take_get {α : Type} {x y : α} {l : List α} {j : Nat} (hl : l.length ≤ 12) (h : ((x :: l).take 12)[j]? = some y) : (j = 0 ∧ x = y) ∨ (1 ≤ j ∧ j < 12 ∧ l[j - 1]? = some y) := by
  rw [List.getElem?_take] at h
  split at h
  · next hj =>
    cases j with
    | zero => left; simp at h; exact ⟨rfl, h⟩
    | succ j => right; simp at h; exact ⟨by omega, hj, by simpa using h⟩
  · cases h
theorem take_len {α : Type} {x : α} {l : List α} (hl : l.length ≤ 12) : ((x :: l).take 12).length = min 12 (l.length + 1) := by rw [List.length_take]; rfl
section C71
variable {nx : Nat} {xs : Nat → Int32} {d c s : Nat} {sh : List sC} {D : sD} {Q : av_Q}
variable {G : GT}
theorem k119 (hv : GV G) (h : GC sh D G)
    (kk : ∀ D' V', VE (gV G.1) V' → GC sh D' (keepG G V') → Fc D D' → D' 0 9 = Int32.ofNat 0 → Q (.inl none) (mk sh D') c s) :
    Wx (tP nx xs) (d + 3) 119 0 [some (.ref 0)] [] (mk sh D) c s Q := by
  have hw := h.1.2
  have HS := h.1.1
  have H := St_state HS
  have I := hv.1
  have hV := h.2.1.1
  have hng := i_ng6 I
  have hnt := i_nt8 I
  have hnr := i_nr5 I
  have hnl := i_nl60 I
  have hx := h.L
  have hL := h.2.1.2
  obtain ⟨h5, h6, q, hq, h7, h8⟩ := h.2.2.2.1
  have hm := hv.2.2.2.1
  have hp6 := h6 q hq
  have Hq := St_mem HS hq
  have tq : Int32.toNatClampNeg (Int32.ofNat q) = q := oN_tn (by omega)
  have hp : sRf (D 55 (Int32.toNatClampNeg (Int32.ofNat q))) = some (56 + 17 * q) := by rw [tq]; exact hp6
  simp only [b119_0 hw, b19_0 hw, b19_8 hw hp, xR_tape HS, xI_wrongAt HS, xF_wrongAt HS, xR_state HS, xR_image HS, xI_imageKept HS, xF_imageKept HS, xR_draft HS, xR_memory HS, xR_lawText HS, xR_worlds HS, xI_worldsFresh HS, xF_worldsFresh HS, xR_otherWorlds HS, xR_seating HS, xR_pairing HS, xI_toldSo HS, xF_toldSo HS, xI_toldNot HS, xF_toldNot HS, xO HS, eI_kept HS, eF_kept HS, eI_next HS, eF_next HS, eR_before HS, eO HS, eW_55 HS, wi_some, or_0, or_1, bo_or, ite_boP, true_and, and_true, kN_v, kN_n, kT_v, kT_n, kT_e, Nat.add_zero, Nat.zero_add, h7, hq, sO_state Hq]
  refine k31 hw Hq H (by omega) hV ?_
  intro D1 f1 e1
  have n54 : ∀ i, D1 54 i = D 54 i := fun i => by rw [f1 54 (by omega)]
  have e54 : ∀ v, u2 D1 54 1 v 54 0 = Int32.ofNat G.2.2.1.length := fun v => by rw [u2_at, if_neg (by omega), n54]; exact h5
  simp only [b19_13 hw, b19_26 hw, b19_41 hw, b119_11 hw, b119_16 hw, xR_tape HS, xI_wrongAt HS, xF_wrongAt HS, xR_state HS, xR_image HS, xI_imageKept HS, xF_imageKept HS, xR_draft HS, xR_memory HS, xR_lawText HS, xR_worlds HS, xI_worldsFresh HS, xF_worldsFresh HS, xR_otherWorlds HS, xR_seating HS, xR_pairing HS, xI_toldSo HS, xF_toldSo HS, xI_toldNot HS, xF_toldNot HS, xO HS, eI_kept HS, eF_kept HS, eI_next HS, eF_next HS, eR_before HS, eO HS, eW_55 HS, wi_some, or_0, or_1, bo_or, ite_boP, true_and, and_true, kN_v, kN_n, kT_v, kT_n, kT_e, Nat.add_zero, Nat.zero_add, n54, h7, oN_add, jr12 q hq, e54, mn12 _ (show G.2.2.1.length < 13 by omega)]
  generalize hD2 : u2 (u2 (u2 D1 54 1 (Int32.ofNat ((q + 1) % 12))) 54 0 (Int32.ofNat (min 12 (G.2.2.1.length + 1)))) 0 9 (Int32.ofNat 0) = D2
  have rd : ∀ b i, ¬ (b = 54 ∧ i = 1) → ¬ (b = 54 ∧ i = 0) → ¬ (b = 0 ∧ i = 9) → D2 b i = D1 b i := fun b i h1 h2 h3 => by
    rw [← hD2, u2_at, if_neg h3, u2_at, if_neg h2, u2_at, if_neg h1]
  have far : ∀ b i, (b < 56 + 17 * q ∨ 56 + 17 * q + 17 ≤ b) → ¬ (b = 54 ∧ i = 1) → ¬ (b = 54 ∧ i = 0) → ¬ (b = 0 ∧ i = 9) → D2 b i = D b i := fun b i h0 h1 h2 h3 => by rw [rd b i h1 h2 h3, f1 b h0]
  refine kk D2 (fun k i => D1 (56 + 17 * q + k) i) e1 ?_ ?_ (by rw [← hD2]; simp [u2_at])
  · have vw : ∀ {a V}, Vw D a V → 1 ≤ a → (a + 17 ≤ 54 ∨ (56 ≤ a ∧ (a + 17 ≤ 56 + 17 * q ∨ 56 + 17 * q + 17 ≤ a))) → Vw D2 a V := fun {a V} hv h1 h2 k i hk => by rw [far (a + k) i (by omega) (by omega) (by omega) (by omega)]; exact hv k i hk
    have lc : ∀ {x lw}, Lc sh D x lw → Lc sh D2 x lw := fun {x lw} hl => hl.of fun p hp k hk => by
      have := Lc_301 hl p hp
      exact funext fun i => far _ i (by omega) (by omega) (by omega) (by omega)
    obtain ⟨h0, ⟨g1, g2⟩, ⟨g3, g4⟩, _, ⟨g9, g10⟩, g11, gF⟩ := h
    refine ⟨h0, ⟨vw g1 (by omega) (by omega), lc g2⟩, ⟨?_, ?_⟩, ⟨?_, ?_, (q + 1) % 12, by omega, ?_, ?_⟩, ⟨?_, ?_⟩, ?_, ⟨fun t ht => by rw [far 282 t (by omega) (by omega) (by omega) (by omega)]; exact gF.1 t ht, Or.inl (by rw [← hD2]; simp [u2_at])⟩⟩
    · rw [far 0 4 (by omega) (by omega) (by omega) (by omega)]; exact g3
    · intro Si hSi
      obtain ⟨a1, a2, a3⟩ := g4 Si hSi
      exact ⟨vw a1 (by omega) (by omega), lc a2, a3⟩
    · show D2 54 0 = Int32.ofNat ((repV G.1 _ :: G.2.2.1).take 12).length
      rw [take_len hm, ← hD2]
      simp [u2_at]
    · intro i hi; rw [far 55 i (by omega) (by omega) (by omega) (by omega)]; exact h6 i hi
    · rw [← hD2]; simp [u2_at]
    · intro j Sj hj
      rcases take_get hm hj with ⟨e, e'⟩ | ⟨h1, h2, h3⟩
      · subst e e'
        intro k i hk
        rw [show ((q + 1) % 12 + 11 - 0) % 12 = q by omega, rd _ i (by omega) (by omega) (by omega)]
        rfl
      · have hlt : j - 1 < G.2.2.1.length := by
          rcases Nat.lt_or_ge (j - 1) G.2.2.1.length with h | h
          · exact h
          · rw [List.getElem?_eq_none h] at h3; cases h3
        have hh := h8 (j - 1) Sj h3
        rw [show ((q + 1) % 12 + 11 - j) % 12 = (q + 11 - (j - 1)) % 12 by omega]
        exact vw hh (by omega) (Or.inr ⟨by omega, by omega⟩)
    · rw [far 1 1 (by omega) (by omega) (by omega) (by omega)]; exact g9
    · intro i hi; rw [far 2 i (by omega) (by omega) (by omega) (by omega)]; exact g10 i hi
    · rw [far 0 1 (by omega) (by omega) (by omega) (by omega)]; exact g11
  · intro b h1 h2
    funext i
    exact far b i (by omega) (by omega) (by omega) (by omega)
theorem k193 {V' : sD} (hw : WT sh) (HS : SP sh) (hv : GV G) (h : GR D G) (e : VE (gV G.1) V')
    (kk : ∀ D', GR D' (keepG G V') → Fm D D' → D' 286 0 = D 286 0 → D' 287 = D 287 → Q (.inl none) (mk sh D') c s) :
    Wx (tP nx xs) d 193 0 [some (.ref 286), none] [] (mk sh D) c s Q := by
  have R := h.1.1
  have hL := h.1.2
  have I := hv.1
  have hng := i_ng6 I
  have hnt := i_nt8 I
  have hnr := i_nr5 I
  have hnl := i_nl60 I
  obtain ⟨⟨_, _⟩, ⟨g3, g4⟩, ⟨g5, g6⟩, ⟨g7, g8⟩, g9⟩ := h
  have hm := hv.2.2.2.1
  generalize hML : G.2.2.1.length = m at *
  have t352 : Int32.toNatClampNeg (Int32.ofNat 352) = 352 := by decide
  have fin : ∀ (D1 : sD) (m' : Nat) (l1 : Option Value), m' = min 12 (m + 1) → D1 286 7 = Int32.ofNat m' → (∀ b i, b ≠ 291 → ¬ (b = 286 ∧ i = 7) → D1 b i = D b i) → (∀ j Sj, 1 ≤ j → j < 12 → G.2.2.1[j - 1]? = some Sj → ∀ i, i < 352 → D1 291 (352 * (m' - 1 - j) + i) = D 291 (352 * (m - 1 - (j - 1)) + i)) → Wx (tP nx xs) d 193 53 [some (.ref 286), l1] [] (mk sh D1) c s Q := by
    intro D1 m' l1 hm' h7 hb ho
    simp only [b193_53 hw]
    refine up_P (W := fun i (_ : Nat) D => Wx (tP nx xs) d 193 55 [some (.ref 286), (some (.int (Int32.ofNat i)))] [] (mk sh D) c s Q) (P := fun i _ D' => (∀ b, b ≠ 291 → D' b = D1 b) ∧ ∀ j, D' 291 j = if 352 * (m' - 1) ≤ j ∧ j < 352 * (m' - 1) + i then D 287 (j - 352 * (m' - 1)) else D1 291 j) (F := fun _ x => x) 352 ?_ 0 D1 ⟨fun _ _ => rfl, fun j => by rw [if_neg (by omega)]⟩ ?_
    · intro i _ D2 hi ⟨f2, a2⟩ k
      have b1 : 352 * (m' - 1) + i < 4224 := by omega
      have b2 : i < 2050 := by omega
      have e7 : D2 286 7 = Int32.ofNat m' := by rw [f2 286 (by decide)]; exact h7
      have er : D2 287 i = D 287 i := by rw [f2 287 (by decide)]; exact hb 287 i (by decide) (by omega)
      rw [b193_55 hw]
      simp only [b193_85 hw, mI_thrown HS, mF_thrown HS, mR_row HS, mR_image HS, mR_earlier HS, mR_trial HS, mR_acts HS, mI_hasImage HS, mF_hasImage HS, mI_remembered HS, mF_remembered HS, mR_tape HS, mI_taped HS, mF_taped HS, mI_point HS, mF_point HS, mI_end HS, mF_end HS, mI_begin HS, mF_begin HS, mI_deep HS, mF_deep HS, mI_faultAt HS, mF_faultAt HS, mR_five HS, mI_codes HS, mF_codes HS, mR_value HS, mI_so HS, mF_so HS, mR_lines HS, mR_chosen HS, mR_best HS, mR_members HS, mR_paired HS, mO HS, mA_287 HS, mW_287 HS, mA_288 HS, mW_288 HS, mA_289 HS, mW_289 HS, mA_290 HS, mW_290 HS, mA_291 HS, mW_291 HS, mA_292 HS, mW_292 HS, mA_293 HS, mW_293 HS, mA_294 HS, mW_294 HS, mA_295 HS, mW_295 HS, mA_296 HS, mW_296 HS, mA_297 HS, mW_297 HS, mA_298 HS, mW_298 HS, mA_299 HS, mW_299 HS, wi_some, or_0, or_1, bo_or, ite_boP, true_and, and_true, kN_v, kN_n, kT_v, kT_n, kT_e, Nat.add_zero, Nat.zero_add, oN_lt (show i < 2147483648 by omega) (show 352 < 2147483648 by omega), hi, if_true, e7, oN_sub (show 1 ≤ m' by omega), oN_mul, oN_add, b1, b2, oN_tn (show 352 * (m' - 1) + i < 2147483648 by omega), er]
      refine k _ ⟨fun b hb => ?_, fun j => ?_⟩
      · rw [← f2 b hb]
        funext x
        rw [u2_at, if_neg (by omega)]
      · rw [u2_at]
        by_cases e : j = 352 * (m' - 1) + i
        · rw [if_pos ⟨rfl, e⟩, if_pos (by omega), e, show 352 * (m' - 1) + i - 352 * (m' - 1) = i by omega]
        · rw [if_neg (by omega), a2 j]
          by_cases h : 352 * (m' - 1) ≤ j ∧ j < 352 * (m' - 1) + i
          · rw [if_pos h, if_pos (by omega)]
          · rw [if_neg h, if_neg (by omega)]
    · intro D2 ⟨f2, a2⟩
      rw [b193_55 hw]
      simp only [oN_lt (show 352 < 2147483648 by omega) (show 352 < 2147483648 by omega), Nat.lt_irrefl, if_false]
      have all : ∀ b i, b ≠ 291 → ¬ (b = 286 ∧ i = 7) → D2 b i = D b i := fun b i h1 h2 => by rw [f2 b h1]; exact hb b i h1 h2
      have r7 : D2 287 = D 287 := funext fun i => all 287 i (by decide) (by omega)
      refine kk D2 ⟨⟨by rw [r7]; exact R, by rw [r7]; exact hL⟩, ⟨?_, ?_⟩, ⟨?_, ?_⟩, ⟨?_, ?_⟩, ?_⟩ (fun b hb' => funext fun i => all b i (by omega) (by omega)) (all 286 0 (by decide) (by omega)) r7
      · rw [all 286 6 (by decide) (by omega)]; exact g3
      · rw [show D2 288 = D 288 from funext fun i => all 288 i (by decide) (by omega)]; exact g4
      · rw [f2 286 (by decide), h7]
        show _ = Int32.ofNat ((repV G.1 V' :: G.2.2.1).take 12).length
        rw [take_len (by omega), hML, hm']
      · intro j Sj hj
        have hlen : ((repV G.1 V' :: G.2.2.1).take 12).length = m' := by rw [take_len (by omega), hML, hm']
        show Rw (fun i => D2 291 (352 * (((repV G.1 V' :: G.2.2.1).take 12).length - 1 - j) + i)) _ _ _ _ _ ∧ D2 291 (352 * (((repV G.1 V' :: G.2.2.1).take 12).length - 1 - j) + 4) = D2 287 4
        rw [hlen]
        rcases take_get (by omega) hj with ⟨e1, e2⟩ | ⟨h1, h2, h3⟩
        · subst e1 e2
          have rd : ∀ i, i < 352 → D2 291 (352 * (m' - 1 - 0) + i) = D 287 i := fun i hi => by rw [a2, if_pos (by omega), show 352 * (m' - 1 - 0) + i - 352 * (m' - 1) = i by omega]
          refine ⟨?_, by rw [rd 4 (by decide), r7]⟩
          exact (R.ve hnt hng hnr hnl e).of hnt hng hnr hnl fun i hi => rd i hi
        · have hlt : j - 1 < m := by
            rcases Nat.lt_or_ge (j - 1) G.2.2.1.length with h | h
            · omega
            · rw [List.getElem?_eq_none h] at h3; cases h3
          have rd : ∀ i, i < 352 → D2 291 (352 * (m' - 1 - j) + i) = D 291 (352 * (m - 1 - (j - 1)) + i) := fun i hi => by rw [a2, if_neg (by omega)]; exact ho j Sj h1 h2 h3 i hi
          obtain ⟨q1, q2⟩ := g6 (j - 1) Sj h3
          have Ij := (hv.2.2.1 Sj (List.mem_of_getElem? h3)).1
          refine ⟨?_, by rw [rd 4 (by decide), r7]; exact q2⟩
          exact q1.of (i_nt8 Ij) (i_ng6 Ij) (i_nr5 Ij) (i_nl60 Ij) fun i hi => rd i hi
      · rw [all 286 9 (by decide) (by omega)]; exact g7
      · rw [show D2 292 = D 292 from funext fun i => all 292 i (by decide) (by omega)]; exact g8
      · rw [all 286 14 (by decide) (by omega)]; exact g9
  rw [b193_0 hw]
  simp only [mI_thrown HS, mF_thrown HS, mR_row HS, mR_image HS, mR_earlier HS, mR_trial HS, mR_acts HS, mI_hasImage HS, mF_hasImage HS, mI_remembered HS, mF_remembered HS, mR_tape HS, mI_taped HS, mF_taped HS, mI_point HS, mF_point HS, mI_end HS, mF_end HS, mI_begin HS, mF_begin HS, mI_deep HS, mF_deep HS, mI_faultAt HS, mF_faultAt HS, mR_five HS, mI_codes HS, mF_codes HS, mR_value HS, mI_so HS, mF_so HS, mR_lines HS, mR_chosen HS, mR_best HS, mR_members HS, mR_paired HS, mO HS, mA_287 HS, mW_287 HS, mA_288 HS, mW_288 HS, mA_289 HS, mW_289 HS, mA_290 HS, mW_290 HS, mA_291 HS, mW_291 HS, mA_292 HS, mW_292 HS, mA_293 HS, mW_293 HS, mA_294 HS, mW_294 HS, mA_295 HS, mW_295 HS, mA_296 HS, mW_296 HS, mA_297 HS, mW_297 HS, mA_298 HS, mW_298 HS, mA_299 HS, mW_299 HS, wi_some, or_0, or_1, bo_or, ite_boP, true_and, and_true, kN_v, kN_n, kT_v, kT_n, kT_e, Nat.add_zero, Nat.zero_add, g5]
  by_cases hm12 : m = 12
  · have e12 : Int32.ofNat m = Int32.ofNat 12 := by rw [hm12]
    simp only [e12, if_true]
    refine up_P (W := fun i (_ : Nat) D => Wx (tP nx xs) d 193 11 [some (.ref 286), (some (.int (Int32.ofNat i)))] [] (mk sh D) c s Q) (P := fun i _ D' => (∀ b, b ≠ 291 → D' b = D b) ∧ ∀ j, D' 291 j = if j < i then D 291 (j + 352) else D 291 j) (F := fun _ x => x) 3872 ?_ 0 D ⟨fun _ _ => rfl, fun j => by rw [if_neg (by omega)]⟩ ?_
    · intro i _ D2 hi ⟨f2, a2⟩ k
      have b1 : i + 352 < 4224 := by omega
      have b2 : i < 4224 := by omega
      have er : D2 291 (i + 352) = D 291 (i + 352) := by rw [a2, if_neg (by omega)]
      rw [b193_11 hw]
      simp only [b193_34 hw, mI_thrown HS, mF_thrown HS, mR_row HS, mR_image HS, mR_earlier HS, mR_trial HS, mR_acts HS, mI_hasImage HS, mF_hasImage HS, mI_remembered HS, mF_remembered HS, mR_tape HS, mI_taped HS, mF_taped HS, mI_point HS, mF_point HS, mI_end HS, mF_end HS, mI_begin HS, mF_begin HS, mI_deep HS, mF_deep HS, mI_faultAt HS, mF_faultAt HS, mR_five HS, mI_codes HS, mF_codes HS, mR_value HS, mI_so HS, mF_so HS, mR_lines HS, mR_chosen HS, mR_best HS, mR_members HS, mR_paired HS, mO HS, mA_287 HS, mW_287 HS, mA_288 HS, mW_288 HS, mA_289 HS, mW_289 HS, mA_290 HS, mW_290 HS, mA_291 HS, mW_291 HS, mA_292 HS, mW_292 HS, mA_293 HS, mW_293 HS, mA_294 HS, mW_294 HS, mA_295 HS, mW_295 HS, mA_296 HS, mW_296 HS, mA_297 HS, mW_297 HS, mA_298 HS, mW_298 HS, mA_299 HS, mW_299 HS, wi_some, or_0, or_1, bo_or, ite_boP, true_and, and_true, kN_v, kN_n, kT_v, kT_n, kT_e, Nat.add_zero, Nat.zero_add, oN_lt (show i < 2147483648 by omega) (show 3872 < 2147483648 by omega), hi, if_true, oN_add, b1, b2, oN_tn (show i < 2147483648 by omega), er]
      refine k _ ⟨fun b hb => ?_, fun j => ?_⟩
      · rw [← f2 b hb]
        funext x
        rw [u2_at, if_neg (by omega)]
      · rw [u2_at]
        by_cases e : j = i
        · rw [if_pos ⟨rfl, e⟩, if_pos (by omega), e]
        · rw [if_neg (by omega), a2 j]
          by_cases h : j < i
          · rw [if_pos h, if_pos (by omega)]
          · rw [if_neg h, if_neg (by omega)]
    · intro D2 ⟨f2, a2⟩
      rw [b193_11 hw]
      simp only [oN_lt (show 3872 < 2147483648 by omega) (show 3872 < 2147483648 by omega), Nat.lt_irrefl, if_false]
      refine fin D2 12 _ (by omega) (by rw [f2 286 (by decide), g5, hm12]) (fun b i h1 _ => by rw [f2 b h1]) ?_
      intro j Sj h1 h2 h3 i hi
      rw [a2, if_pos (by omega)]
      congr 1
      omega
  · have n12 : ¬ Int32.ofNat m = Int32.ofNat 12 := by rw [oN_eq (by omega) (by decide)]; exact hm12
    simp only [n12, if_false, oN_add]
    refine fin _ (m + 1) _ (by omega) (by simp [u2_at]) (fun b i _ h2 => by rw [u2_at, if_neg (by omega)]) ?_
    intro j Sj h1 h2 h3 i hi
    rw [u2_at, if_neg (by omega)]
    congr 1
    omega
end C71
