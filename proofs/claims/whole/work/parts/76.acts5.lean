/-! ===== undo, image, back; days ahead ===== -/
theorem jr12c : ∀ q, q < 12 → jrem (Int32.ofNat (q + 11)) (Int32.ofNat 12) = Int32.ofNat ((q + 11) % 12) := by decide +kernel
section C76
variable {nx : Nat} {xs : Nat → Int32} {d c s : Nat} {sh : List sC} {D : sD} {Q : av_Q}
variable {G : GT}
/-! undo -/
def undoG (G : GT) (V' : sD) : GT := match G.2.2.1 with
  | [] => G
  | Sj :: me => (repV Sj V', G.2.1, me, G.2.2.2)
def undoV (G : GT) : sD := match G.2.2.1 with
  | [] => (gV G.1)
  | Sj :: _ => gV Sj
theorem GV.undo {V' : sD} (hv : GV G) (e : VE (undoV G) V') : GV (undoG G V') := by
  unfold undoG undoV at *
  obtain ⟨h1, h2, h3, h4, h5, h6⟩ := hv
  cases hm : G.2.2.1 with
  | nil => exact ⟨h1, h2, h3, h4, h5, h6⟩
  | cons Sj me =>
    rw [hm] at h3 h4 e
    obtain ⟨a1, a2, a3⟩ := h3 Sj (by simp)
    refine ⟨a1.ve e, h2, ?_, by simp at h4; show me.length ≤ 12; omega, h5, h6⟩
    intro Sk hk
    obtain ⟨b1, b2, b3⟩ := h3 Sk (by simp [show Sk ∈ me from hk])
    refine ⟨b1, ?_, b3.trans a3.symm⟩
    show gV Sk 0 14 = V' 0 14
    rw [e 0 14 (by unfold inR; omega), b2]
    exact a2.symm
theorem c_undo (hv : GV G) (h : GC sh D G) (kk : ∀ D' V', VE (undoV G) V' → GC sh D' (undoG G V') → Fc D D' → Q (.inl (some (.int (bo (!G.2.2.1.isEmpty))))) (mk sh D') c s) : Wx (tP nx xs) (d + 3) 175 0 [some (.ref 0), none] [] (mk sh D) c s Q := by
  have hw := h.1.2
  have HS := h.1.1
  have H := St_state HS
  have I := hv.1
  have hV := h.2.1.1
  have hng := i_ng6 I
  have hnt := i_nt8 I
  have hnr := i_nr5 I
  have hnl := i_nl60 I
  have hx := h.L
  have hL := h.2.1.2
  obtain ⟨h5, h6, q, hq, h7, h8⟩ := h.2.2.2.1
  have hm := hv.2.2.2.1
  simp only [b175_0 hw, b20_0 hw, xR_tape HS, xI_wrongAt HS, xF_wrongAt HS, xR_state HS, xR_image HS, xI_imageKept HS, xF_imageKept HS, xR_draft HS, xR_memory HS, xR_lawText HS, xR_worlds HS, xI_worldsFresh HS, xF_worldsFresh HS, xR_otherWorlds HS, xR_seating HS, xR_pairing HS, xI_toldSo HS, xF_toldSo HS, xI_toldNot HS, xF_toldNot HS, xO HS, eI_kept HS, eF_kept HS, eI_next HS, eF_next HS, eR_before HS, eO HS, eW_55 HS, wi_some, or_0, or_1, bo_or, ite_boP, true_and, and_true, kN_v, kN_n, kT_v, kT_n, kT_e, Nat.add_zero, Nat.zero_add, h5]
  unfold undoG undoV at kk
  cases hme : G.2.2.1 with
  | nil =>
    simp only [hme, List.length_nil, List.isEmpty_nil, Bool.not_true, bo_f] at kk ⊢
    simp only [if_true, wi_some, or_0, or_1, bo_or, ite_boP, true_and, and_true, kN_v, kN_n, kT_v, kT_n, kT_e, Nat.add_zero, Nat.zero_add, b175_11 hw, b175_28 hw, b175_29 hw, b175_32 hw, xR_tape HS, xI_wrongAt HS, xF_wrongAt HS, xR_state HS, xR_image HS, xI_imageKept HS, xF_imageKept HS, xR_draft HS, xR_memory HS, xR_lawText HS, xR_worlds HS, xI_worldsFresh HS, xF_worldsFresh HS, xR_otherWorlds HS, xR_seating HS, xR_pairing HS, xI_toldSo HS, xF_toldSo HS, xI_toldNot HS, xF_toldNot HS, xO HS]
    rcases h.2.2.2.2.2.2.2 with hf | ⟨hf, hwf⟩
    · simp only [hf, if_true]
      have e0 : u2 D 0 9 (Int32.ofNat 0) = D := by
        funext b i
        rw [u2_at]
        by_cases e : b = 0 ∧ i = 9
        · rw [if_pos e, e.1, e.2, hf]
        · rw [if_neg e]
      rw [e0]
      exact kk D _ VE.rf h Fc.rf
    · simp only [hf, show ¬ (Int32.ofNat 1 : Int32) = Int32.ofNat 0 by decide, if_false]
      have e0 : u2 D 0 9 (Int32.ofNat 1) = D := by
        funext b i
        rw [u2_at]
        by_cases e : b = 0 ∧ i = 9
        · rw [if_pos e, e.1, e.2, hf]
        · rw [if_neg e]
      rw [e0]
      exact kk D _ VE.rf h Fc.rf
  | cons Sj me =>
    rw [hme] at h8 hm
    simp only [hme, List.isEmpty_cons, Bool.not_false, bo_t] at kk
    have nl : ¬ Int32.ofNat (me.length + 1) = Int32.ofNat 0 := by rw [oN_eq (by simp at hm; omega) (by decide)]; omega
    have e54 : ∀ v, u2 D 54 0 v 54 1 = Int32.ofNat q := fun v => by rw [u2_at, if_neg (by omega)]; exact h7
    have q' : (q + 11) % 12 < 12 := Nat.mod_lt _ (by decide)
    have tq : Int32.toNatClampNeg (Int32.ofNat ((q + 11) % 12)) = (q + 11) % 12 := oN_tn (by omega)
    have e54b : ∀ v w, u2 (u2 D 54 0 v) 54 1 w 54 1 = w := fun v w => by simp [u2_at]
    have hp : ∀ v w, sRf (u2 (u2 D 54 0 v) 54 1 w 55 (Int32.toNatClampNeg (Int32.ofNat ((q + 11) % 12)))) = some (56 + 17 * ((q + 11) % 12)) := fun v w => by
      rw [tq, u2_at, if_neg (by omega), u2_at, if_neg (by omega)]; exact h6 _ q'
    have Hq := St_mem HS q'
    simp only [nl, if_false, b20_19 hw, b20_35 hw, eI_kept HS, eF_kept HS, eI_next HS, eF_next HS, eR_before HS, eO HS, eW_55 HS, wi_some, or_0, or_1, bo_or, ite_boP, true_and, and_true, kN_v, kN_n, kT_v, kT_n, kT_e, Nat.add_zero, Nat.zero_add, e54, oN_add, jr12c q hq, e54b, b20_44 hw (hp _ _), q', sO_state H, List.length_cons, oN_m1']
    generalize hD1 : u2 (u2 D 54 0 (Int32.ofNat me.length)) 54 1 (Int32.ofNat ((q + 11) % 12)) = D1
    have f1 : ∀ b, b ≠ 54 → D1 b = D b := fun b hb => by
      rw [← hD1]; funext i; rw [u2_at, if_neg (by omega), u2_at, if_neg (by omega)]
    have hVj : Vw D1 (56 + 17 * ((q + 11) % 12)) (gV Sj) := fun k i hk => by
      rw [f1 _ (by omega)]
      exact h8 0 Sj (by simp) k i hk
    refine k31 hw H Hq (by omega) hVj ?_
    intro D2 f2 e2
    simp only [b20_48 hw, wi_some, or_0, or_1, bo_or, ite_boP, true_and, and_true, kN_v, kN_n, kT_v, kT_n, kT_e, Nat.add_zero, Nat.zero_add, b175_11 hw, b175_28 hw, b175_29 hw, b175_32 hw, xR_tape HS, xI_wrongAt HS, xF_wrongAt HS, xR_state HS, xR_image HS, xI_imageKept HS, xF_imageKept HS, xR_draft HS, xR_memory HS, xR_lawText HS, xR_worlds HS, xI_worldsFresh HS, xF_worldsFresh HS, xR_otherWorlds HS, xR_seating HS, xR_pairing HS, xI_toldSo HS, xF_toldSo HS, xI_toldNot HS, xF_toldNot HS, xO HS, show ¬ (Int32.ofNat 1 : Int32) = Int32.ofNat 0 by decide, if_false]
    have e9 : ∀ (x : Int32) (A : Prop), (if x = Int32.ofNat 0 then A else A) = A := fun x A => by split <;> rfl
    rw [e9]
    have rd : ∀ b i, (b < 3 ∨ 20 ≤ b) → b ≠ 54 → ¬ (b = 0 ∧ i = 9) → u2 D2 0 9 (Int32.ofNat 0) b i = D b i := fun b i h1 h2 h3 => by rw [u2_at, if_neg h3, f2 b (by omega), f1 b h2]
    obtain ⟨a1, a2, a3⟩ := hv.2.2.1 Sj (by rw [hme]; simp)
    have ep : D2 (3 + 0) 14 = (gV G.1) 0 14 := (e2 0 14 (by unfold inR; omega)).trans a2
    obtain ⟨h0, ⟨g1, g2⟩, ⟨g3, g4⟩, _, ⟨g9, g10⟩, g11, gF⟩ := h
    have vw : ∀ {a V}, Vw D a V → 20 ≤ a → (a + 17 ≤ 54 ∨ 55 ≤ a) → Vw (u2 D2 0 9 (Int32.ofNat 0)) a V := fun {a V} hv h1 h2 k i hk => by rw [rd (a + k) i (by omega) (by omega) (by omega)]; exact hv k i hk
    have lc : ∀ {x lw}, Lc sh D x lw → Lc sh (u2 D2 0 9 (Int32.ofNat 0)) x lw := fun {x lw} hl => hl.of fun p hp k hk => funext fun i => rd _ i (by have := Lc_301 hl p hp; omega) (by have := Lc_301 hl p hp; omega) (by have := Lc_301 hl p hp; omega)
    refine kk (u2 D2 0 9 (Int32.ofNat 0)) (fun k i => D2 (3 + k) i) e2 ⟨h0, ⟨?_, ?_⟩, ⟨?_, ?_⟩, ⟨?_, ?_, (q + 11) % 12, q', ?_, ?_⟩, ⟨?_, ?_⟩, ?_, ⟨fun t ht => by rw [rd 282 t (by omega) (by omega) (by omega)]; exact gF.1 t ht, Or.inl (by simp [u2_at])⟩⟩ ?_
    · intro k i hk
      rw [u2_at, if_neg (by omega)]
      rfl
    · show Lc sh _ (D2 (3 + 0) 14) (gw Sj)
      rw [ep, a3]
      exact lc g2
    · rw [rd 0 4 (by omega) (by omega) (by omega)]; exact g3
    · intro Si hSi
      obtain ⟨b1, b2, b3⟩ := g4 Si hSi
      refine ⟨vw b1 (by decide) (by decide), lc b2, ?_⟩
      show Sep (D2 (3 + 0) 14) _
      rw [ep]; exact b3
    · show u2 D2 0 9 (Int32.ofNat 0) 54 0 = Int32.ofNat me.length
      rw [u2_at, if_neg (by omega), f2 54 (by omega), ← hD1]
      simp [u2_at]
    · intro i hi; rw [rd 55 i (by omega) (by omega) (by omega)]; exact h6 i hi
    · rw [u2_at, if_neg (by omega), f2 54 (by omega), ← hD1]
      simp [u2_at]
    · intro j Sk hj
      have hj : me[j]? = some Sk := hj
      have hlt : j < me.length := by
        rcases Nat.lt_or_ge j me.length with h | h
        · exact h
        · rw [List.getElem?_eq_none h] at hj; cases hj
      have hh := h8 (j + 1) Sk (by simpa using hj)
      simp only [List.length_cons] at hm
      rw [show ((q + 11) % 12 + 11 - j) % 12 = (q + 11 - (j + 1)) % 12 by omega]
      exact vw hh (by omega) (by omega)
    · rw [rd 1 1 (by omega) (by omega) (by omega)]; exact g9
    · intro i hi; rw [rd 2 i (by omega) (by omega) (by omega)]; exact g10 i hi
    · rw [rd 0 1 (by omega) (by omega) (by omega)]; exact g11
    · intro b h1 h2
      funext i
      exact rd b i (by omega) (by omega) (by omega)
theorem m_undo {V' : sD} (hw : WT sh) (HS : SP sh) (hv : GV G) (h : GR D G) (e : VE (undoV G) V') (kk : ∀ D', GR D' (undoG G V') → Fm D D' → Q (.inl (some (.int (bo (!G.2.2.1.isEmpty))))) (mk sh D') c s) : Wx (tP nx xs) d 194 0 [some (.ref 286), none] [] (mk sh D) c s Q := by
  have m1 : Ms D (u2 D 286 0 (Int32.ofNat 0)) := Ms.rf.th
  have h1 := h.ms hv m1
  obtain ⟨⟨R, hL⟩, ⟨g3, g4⟩, ⟨g5, g6⟩, ⟨g7, g8⟩, g9⟩ := h1
  have hm := hv.2.2.2.1
  simp only [b194_0 hw, b194_5 hw, mI_thrown HS, mF_thrown HS, mR_row HS, mR_image HS, mR_earlier HS, mR_trial HS, mR_acts HS, mI_hasImage HS, mF_hasImage HS, mI_remembered HS, mF_remembered HS, mR_tape HS, mI_taped HS, mF_taped HS, mI_point HS, mF_point HS, mI_end HS, mF_end HS, mI_begin HS, mF_begin HS, mI_deep HS, mF_deep HS, mI_faultAt HS, mF_faultAt HS, mR_five HS, mI_codes HS, mF_codes HS, mR_value HS, mI_so HS, mF_so HS, mR_lines HS, mR_chosen HS, mR_best HS, mR_members HS, mR_paired HS, mO HS, mA_287 HS, mW_287 HS, mA_288 HS, mW_288 HS, mA_289 HS, mW_289 HS, mA_290 HS, mW_290 HS, mA_291 HS, mW_291 HS, mA_292 HS, mW_292 HS, mA_293 HS, mW_293 HS, mA_294 HS, mW_294 HS, mA_295 HS, mW_295 HS, mA_296 HS, mW_296 HS, mA_297 HS, mW_297 HS, mA_298 HS, mW_298 HS, mA_299 HS, mW_299 HS, wi_some, or_0, or_1, bo_or, ite_boP, true_and, and_true, kN_v, kN_n, kT_v, kT_n, kT_e, Nat.add_zero, Nat.zero_add, g5]
  unfold undoG undoV at *
  cases hme : G.2.2.1 with
  | nil =>
    simp only [hme, List.length_nil, List.isEmpty_nil, Bool.not_true, bo_f] at kk ⊢
    simp only [if_true]
    exact kk _ (h.ms hv m1) m1.1
  | cons Sj me =>
    rw [hme] at g6 hm
    simp only [hme] at e
    simp only [hme, List.isEmpty_cons, Bool.not_false, bo_t] at kk
    have nl : ¬ Int32.ofNat (me.length + 1) = Int32.ofNat 0 := by rw [oN_eq (by simp at hm; omega) (by decide)]; omega
    simp only [nl, if_false, List.length_cons, oN_m1', b194_24 hw, mI_thrown HS, mF_thrown HS, mR_row HS, mR_image HS, mR_earlier HS, mR_trial HS, mR_acts HS, mI_hasImage HS, mF_hasImage HS, mI_remembered HS, mF_remembered HS, mR_tape HS, mI_taped HS, mF_taped HS, mI_point HS, mF_point HS, mI_end HS, mF_end HS, mI_begin HS, mF_begin HS, mI_deep HS, mF_deep HS, mI_faultAt HS, mF_faultAt HS, mR_five HS, mI_codes HS, mF_codes HS, mR_value HS, mI_so HS, mF_so HS, mR_lines HS, mR_chosen HS, mR_best HS, mR_members HS, mR_paired HS, mO HS, mA_287 HS, mW_287 HS, mA_288 HS, mW_288 HS, mA_289 HS, mW_289 HS, mA_290 HS, mW_290 HS, mA_291 HS, mW_291 HS, mA_292 HS, mW_292 HS, mA_293 HS, mW_293 HS, mA_294 HS, mW_294 HS, mA_295 HS, mW_295 HS, mA_296 HS, mW_296 HS, mA_297 HS, mW_297 HS, mA_298 HS, mW_298 HS, mA_299 HS, mW_299 HS, wi_some, or_0, or_1, bo_or, ite_boP, true_and, and_true, kN_v, kN_n, kT_v, kT_n, kT_e, Nat.add_zero, Nat.zero_add]
    simp only [List.length_cons] at hm
    generalize hD1 : u2 (u2 D 286 0 (Int32.ofNat 0)) 286 7 (Int32.ofNat me.length) = D1
    have f1 : ∀ b i, ¬ (b = 286 ∧ i = 0) → ¬ (b = 286 ∧ i = 7) → D1 b i = D b i := fun b i h1 h2 => by rw [← hD1, u2_at, if_neg h2, u2_at, if_neg h1]
    have e7 : D1 286 7 = Int32.ofNat me.length := by rw [← hD1]; simp [u2_at]
    refine up_P (W := fun i (_ : Nat) D => Wx (tP nx xs) d 194 26 [some (.ref 286), (some (.int (Int32.ofNat i)))] [] (mk sh D) c s Q) (P := fun i _ D' => (∀ b, b ≠ 287 → D' b = D1 b) ∧ ∀ j, D' 287 j = if j < i then D1 291 (352 * me.length + j) else D1 287 j) (F := fun _ x => x) 352 ?_ 0 D1 ⟨fun _ _ => rfl, fun j => by rw [if_neg (by omega)]⟩ ?_
    · intro i _ D2 hi ⟨f2, a2⟩ k
      have b1 : 352 * me.length + i < 4224 := by omega
      have b2 : i < 2050 := by omega
      have e72 : D2 286 7 = Int32.ofNat me.length := by rw [f2 286 (by decide)]; exact e7
      have er : D2 291 (352 * me.length + i) = D1 291 (352 * me.length + i) := by rw [f2 291 (by decide)]
      rw [b194_26 hw]
      simp only [b194_54 hw, mI_thrown HS, mF_thrown HS, mR_row HS, mR_image HS, mR_earlier HS, mR_trial HS, mR_acts HS, mI_hasImage HS, mF_hasImage HS, mI_remembered HS, mF_remembered HS, mR_tape HS, mI_taped HS, mF_taped HS, mI_point HS, mF_point HS, mI_end HS, mF_end HS, mI_begin HS, mF_begin HS, mI_deep HS, mF_deep HS, mI_faultAt HS, mF_faultAt HS, mR_five HS, mI_codes HS, mF_codes HS, mR_value HS, mI_so HS, mF_so HS, mR_lines HS, mR_chosen HS, mR_best HS, mR_members HS, mR_paired HS, mO HS, mA_287 HS, mW_287 HS, mA_288 HS, mW_288 HS, mA_289 HS, mW_289 HS, mA_290 HS, mW_290 HS, mA_291 HS, mW_291 HS, mA_292 HS, mW_292 HS, mA_293 HS, mW_293 HS, mA_294 HS, mW_294 HS, mA_295 HS, mW_295 HS, mA_296 HS, mW_296 HS, mA_297 HS, mW_297 HS, mA_298 HS, mW_298 HS, mA_299 HS, mW_299 HS, wi_some, or_0, or_1, bo_or, ite_boP, true_and, and_true, kN_v, kN_n, kT_v, kT_n, kT_e, Nat.add_zero, Nat.zero_add, oN_lt (show i < 2147483648 by omega) (show 352 < 2147483648 by omega), hi, if_true, e72, oN_mul, oN_add, b1, b2, oN_tn (show i < 2147483648 by omega), er]
      refine k _ ⟨fun b hb => ?_, fun j => ?_⟩
      · rw [← f2 b hb]
        funext x
        rw [u2_at, if_neg (by omega)]
      · rw [u2_at]
        by_cases e : j = i
        · rw [if_pos ⟨rfl, e⟩, if_pos (by omega), e]
        · rw [if_neg (by omega), a2 j]
          by_cases h : j < i
          · rw [if_pos h, if_pos (by omega)]
          · rw [if_neg h, if_neg (by omega)]
    · intro D2 ⟨f2, a2⟩
      rw [b194_26 hw]
      simp only [oN_lt (show 352 < 2147483648 by omega) (show 352 < 2147483648 by omega), Nat.lt_irrefl, if_false]
      have all : ∀ b i, b ≠ 287 → ¬ (b = 286 ∧ i = 0) → ¬ (b = 286 ∧ i = 7) → D2 b i = D b i := fun b i h1 h2 h3 => by rw [f2 b h1]; exact f1 b i h2 h3
      have u0 : ∀ b i, ¬ (b = 286 ∧ i = 0) → u2 D 286 0 (Int32.ofNat 0) b i = D b i := fun b i h => by rw [u2_at, if_neg h]
      obtain ⟨q1, q2⟩ := g6 0 Sj (by simp)
      simp only [List.length_cons, show me.length + 1 - 1 - 0 = me.length by omega] at q1 q2
      obtain ⟨a1, a2', a3⟩ := hv.2.2.1 Sj (by rw [hme]; simp)
      have r7 : ∀ i, i < 352 → D2 287 i = D 291 (352 * me.length + i) := fun i hi => by rw [a2, if_pos hi]; exact f1 291 _ (by omega) (by omega)
      have r7' : ∀ i, 352 ≤ i → D2 287 i = D 287 i := fun i hi => by rw [a2, if_neg (by omega)]; exact f1 287 _ (by omega) (by omega)
      have r4 : D2 287 4 = D 287 4 := by
        rw [r7 4 (by decide)]
        rw [u0 291 _ (by omega), u0 287 4 (by omega)] at q2
        exact q2
      refine kk D2 ⟨⟨?_, ?_⟩, ⟨?_, ?_⟩, ⟨?_, ?_⟩, ⟨?_, ?_⟩, ?_⟩ (fun b hb' => funext fun i => all b i (by omega) (by omega) (by omega))
      · refine (q1.ve (i_nt8 a1) (i_ng6 a1) (i_nr5 a1) (i_nl60 a1) e).of (i_nt8 a1) (i_ng6 a1) (i_nr5 a1) (i_nl60 a1) ?_
        intro i hi
        rw [r7 i hi, u0 291 _ (by omega)]
      · show Rl (D2 287) (gw Sj)
        rw [a3]
        refine hL.of fun i hi => ?_
        rw [u0 287 i (by omega)]
        rcases hi with hi | hi
        · rw [hi]; exact r4
        · exact r7' i hi
      · rw [all 286 6 (by decide) (by omega) (by omega)]; rw [u0 286 6 (by omega)] at g3; exact g3
      · rw [show D2 288 = D 288 from funext fun i => all 288 i (by decide) (by omega) (by omega)]; rw [show u2 D 286 0 (Int32.ofNat 0) 288 = D 288 from funext fun i => u0 288 i (by omega)] at g4; exact g4
      · show D2 286 7 = Int32.ofNat me.length
        rw [f2 286 (by decide)]; exact e7
      · intro j Sk hj
        have hj : me[j]? = some Sk := hj
        have hlt : j < me.length := by
          rcases Nat.lt_or_ge j me.length with h | h
          · exact h
          · rw [List.getElem?_eq_none h] at hj; cases hj
        obtain ⟨p1, p2⟩ := g6 (j + 1) Sk (by simpa using hj)
        simp only [List.length_cons, show me.length + 1 - 1 - (j + 1) = me.length - 1 - j by omega] at p1 p2
        show Rw (fun i => D2 291 (352 * (me.length - 1 - j) + i)) _ _ _ _ _ ∧ D2 291 (352 * (me.length - 1 - j) + 4) = D2 287 4
        have ea : D2 291 = u2 D 286 0 (Int32.ofNat 0) 291 := funext fun i => by rw [all 291 i (by decide) (by omega) (by omega), u0 291 i (by omega)]
        rw [ea, r4]
        rw [u0 287 4 (by omega)] at p2
        exact ⟨p1, p2⟩
      · rw [all 286 9 (by decide) (by omega) (by omega)]; rw [u0 286 9 (by omega)] at g7; exact g7
      · rw [show D2 292 = D 292 from funext fun i => all 292 i (by decide) (by omega) (by omega)]; rw [show u2 D 286 0 (Int32.ofNat 0) 292 = D 292 from funext fun i => u0 292 i (by omega)] at g8; exact g8
      · rw [all 286 14 (by decide) (by omega) (by omega)]; rw [u0 286 14 (by omega)] at g9; exact g9
end C76
