/-! ===== feed ===== -/
def fiv (a b c d e : Int32) (k : Nat) : Int32 := if k = 0 then a else if k = 1 then b else if k = 2 then c else if k = 3 then d else e
def fdT (G : GT) (x : Nat → Int32) (i : Nat) : Int32 := if i < tl G then G.2.2.2.1 i else jushr (x ((i - tl G) / 4)) (Int32.ofNat (8 * (3 - (i - tl G) % 4))) &&& Int32.ofNat 255
def fdG (G : GT) (x : Nat → Int32) : GT := if tl G ≤ 380 then tpG G (fdT G x) (tl G + 20) else G
def o_feed (G : GT) : Int32 := if tl G ≤ 380 then Int32.ofNat (tl G + 20) else -1
theorem GV.feed {G : GT} {x : Nat → Int32} (hv : GV G) : GV (fdG G x) := by
  unfold fdG
  by_cases h : tl G ≤ 380
  · rw [if_pos h]
    refine hv.tape (by omega) fun i hi => ?_
    unfold fdT
    by_cases h2 : i < tl G
    · rw [if_pos h2]; exact hv.2.2.2.2.2 i h2
    · rw [if_neg h2]; exact and_255 _
  · rw [if_neg h]; exact hv
section C89
variable {nx : Nat} {xs : Nat → Int32} {d c s : Nat} {sh : List sC} {D : sD} {Q : av_Q}
variable {G : GT}
def Tp (D D' : sD) : Prop := ∀ b i, b ≠ 2 → ¬ (b = 1 ∧ i = 1) → D' b i = D b i
theorem k64 {x : Int32} {n : Nat} (hw : WT sh) (HS : SP sh) (hn : n + 4 ≤ 400) (h1 : D 1 1 = Int32.ofNat n) (kk : ∀ D', Tp D D' → D' 1 1 = Int32.ofNat (n + 4) → (∀ i, i < n → D' 2 i = D 2 i) → (∀ j, j < 4 → D' 2 (n + j) = jushr x (Int32.ofNat (8 * (3 - j))) &&& Int32.ofNat 255) → Q (.inl none) (mk sh D') c s) : Wx (tP nx xs) d 64 0 [some (.ref 1), (some (.int (x))), none] [] (mk sh D) c s Q := by
  have ej : ∀ j, j < 4 → Int32.ofNat (8 * (4 - j)) + (-8) = Int32.ofNat (8 * (3 - j)) := by decide
  simp only [b64_0 hw]
  suffices hl : Wx (tP nx xs) d 64 3 [some (.ref 1), (some (.int (x))), (some (.int (Int32.ofNat (8 * (4 - 0)) + (-8))))] [] (mk sh D) c s Q by
    rw [ej 0 (by decide)] at hl; exact hl
  refine up_P (W := fun j (_ : Nat) D => Wx (tP nx xs) d 64 3 [some (.ref 1), (some (.int (x))), (some (.int (Int32.ofNat (8 * (4 - j)) + (-8))))] [] (mk sh D) c s Q) (P := fun j _ D' => Tp D D' ∧ D' 1 1 = Int32.ofNat (n + j) ∧ (∀ i, i < n → D' 2 i = D 2 i) ∧ ∀ i, i < j → D' 2 (n + i) = jushr x (Int32.ofNat (8 * (3 - i))) &&& Int32.ofNat 255) (F := fun _ x => x) 4 ?_ 0 D ⟨fun _ _ _ _ => rfl, h1, fun _ _ => rfl, fun _ h => by omega⟩ ?_
  · intro j _ D1 hj ⟨f1, t1, o1, a1⟩ k
    have hb : n + j < 400 := by omega
    rw [b64_3 hw, ej j hj]
    simp only [oN_lt (show 8 * (3 - j) < 2147483648 by omega) (show 0 < 2147483648 by omega), Nat.not_lt_zero, if_false, pR_bytes HS, pI_length HS, pF_length HS, pI_place HS, pF_place HS, pI_number HS, pF_number HS, pI_textLength HS, pF_textLength HS, pI_begin HS, pF_begin HS, pO HS, pA_2 HS, pW_2 HS, wi_some, or_0, or_1, bo_or, ite_boP, true_and, and_true, kN_v, kN_n, kT_v, kT_n, kT_e, Nat.add_zero, Nat.zero_add, t1, oN_lt (show n + j < 2147483648 by omega) (show 400 < 2147483648 by omega), hb, if_true, b64_33 hw, b64_43 hw, oN_tn (show n + j < 2147483648 by omega)]
    have e11 : u2 D1 2 (n + j) (jushr x (Int32.ofNat (8 * (3 - j))) &&& Int32.ofNat 255) 1 1 = Int32.ofNat (n + j) := by rw [u2_at, if_neg (by omega)]; exact t1
    simp only [e11, oN_add]
    have k := k (u2 (u2 D1 2 (n + j) (jushr x (Int32.ofNat (8 * (3 - j))) &&& Int32.ofNat 255)) 1 1 (Int32.ofNat (n + j + 1))) ⟨fun b i hb hb2 => by rw [u2_at, if_neg (by omega), u2_at, if_neg (by omega)]; exact f1 b i hb hb2, by rw [u2_at, if_pos ⟨rfl, rfl⟩]; rfl, fun i hi => by rw [u2_at, if_neg (by omega), u2_at, if_neg (by omega)]; exact o1 i hi, fun i hi => by
      rw [u2_at, if_neg (by omega), u2_at]
      by_cases e : i = j
      · subst e; rw [if_pos ⟨rfl, rfl⟩]
      · rw [if_neg (by omega)]; exact a1 i (by omega)⟩
    rw [show 4 - (j + 1) = 3 - j by omega] at k
    exact k
  · intro D1 ⟨f1, t1, o1, a1⟩
    rw [b64_3 hw]
    rw [if_pos (by decide)]
    simp only [b64_49 hw]
    exact kk D1 f1 t1 o1 a1
theorem fd_step {D D' : sD} {x : Nat → Int32} {k : Nat} (hA : ∀ i, i < tl G + 4 * k → D 2 i = fdT G x i) (o1 : ∀ i, i < tl G + 4 * k → D' 2 i = D 2 i) (a1 : ∀ j, j < 4 → D' 2 (tl G + 4 * k + j) = jushr (x k) (Int32.ofNat (8 * (3 - j))) &&& Int32.ofNat 255) : ∀ i, i < tl G + 4 * k + 4 → D' 2 i = fdT G x i := by
  intro i hi
  by_cases h : i < tl G + 4 * k
  · rw [o1 i h, hA i h]
  · have e := a1 (i - (tl G + 4 * k)) (by omega)
    rw [show tl G + 4 * k + (i - (tl G + 4 * k)) = i by omega] at e
    rw [e]
    unfold fdT
    rw [if_neg (by omega), show (i - tl G) / 4 = k by omega, show i - (tl G + 4 * k) = (i - tl G) % 4 by omega]
theorem c_feed {a b c' d' e : Int32} (hv : GV G) (h : GC sh D G) (kk : ∀ D', GC sh D' (fdG G (fiv a b c' d' e)) → Fc D D' → Q (.inl (some (.int (o_feed G)))) (mk sh D') c s) : Wx (tP nx xs) (d + 1) 95 0 [some (.ref 0), (some (.int (a))), (some (.int (b))), (some (.int (c'))), (some (.int (d'))), (some (.int (e)))] [] (mk sh D) c s Q := by
  have hw := h.1.2
  have HS := h.1.1
  have H := St_state HS
  have I := hv.1
  have hV := h.2.1.1
  have hng := i_ng6 I
  have hnt := i_nt8 I
  have hnr := i_nr5 I
  have hnl := i_nl60 I
  have hx := h.L
  have hL := h.2.1.2
  have g9 : D 1 1 = Int32.ofNat (tl G) := h.2.2.2.2.1.1
  have g10 := h.2.2.2.2.1.2
  have h400 : tl G ≤ 400 := hv.2.2.2.2.1
  unfold fdG o_feed at kk
  simp only [b95_0 hw, xR_tape HS, xI_wrongAt HS, xF_wrongAt HS, xR_state HS, xR_image HS, xI_imageKept HS, xF_imageKept HS, xR_draft HS, xR_memory HS, xR_lawText HS, xR_worlds HS, xI_worldsFresh HS, xF_worldsFresh HS, xR_otherWorlds HS, xR_seating HS, xR_pairing HS, xI_toldSo HS, xF_toldSo HS, xI_toldNot HS, xF_toldNot HS, xO HS, pR_bytes HS, pI_length HS, pF_length HS, pI_place HS, pF_place HS, pI_number HS, pF_number HS, pI_textLength HS, pF_textLength HS, pI_begin HS, pF_begin HS, pO HS, pA_2 HS, pW_2 HS, wi_some, or_0, or_1, bo_or, ite_boP, true_and, and_true, kN_v, kN_n, kT_v, kT_n, kT_e, Nat.add_zero, Nat.zero_add, g9, oN_add, oN_lt (show 400 < 2147483648 by omega) (show tl G + 20 < 2147483648 by omega)]
  by_cases h3 : tl G ≤ 380
  rotate_left
  · simp only [h3, if_false] at kk
    simp only [show 400 < tl G + 20 by omega, if_true]
    exact kk D h Fc.rf
  simp only [h3, if_true] at kk
  simp only [show ¬ 400 < tl G + 20 by omega, if_false]
  refine k64 hw HS (n := tl G) (by omega) g9 ?_
  intro D1 f1 t1 o1 a1
  have A1 : ∀ i, i < tl G + 4 * 0 + 4 → D1 2 i = fdT G (fiv a b c' d' e) i := fd_step (G := G) (k := 0) (x := fiv a b c' d' e) (D := D) (fun i hi => by
    unfold fdT; rw [if_pos (by omega)]; exact g10 i (show i < tl G by omega)) o1 a1
  simp only [b95_26 hw, xR_tape HS, xI_wrongAt HS, xF_wrongAt HS, xR_state HS, xR_image HS, xI_imageKept HS, xF_imageKept HS, xR_draft HS, xR_memory HS, xR_lawText HS, xR_worlds HS, xI_worldsFresh HS, xF_worldsFresh HS, xR_otherWorlds HS, xR_seating HS, xR_pairing HS, xI_toldSo HS, xF_toldSo HS, xI_toldNot HS, xF_toldNot HS, xO HS, pR_bytes HS, pI_length HS, pF_length HS, pI_place HS, pF_place HS, pI_number HS, pF_number HS, pI_textLength HS, pF_textLength HS, pI_begin HS, pF_begin HS, pO HS, pA_2 HS, pW_2 HS, wi_some, or_0, or_1, bo_or, ite_boP, true_and, and_true, kN_v, kN_n, kT_v, kT_n, kT_e, Nat.add_zero, Nat.zero_add]
  refine k64 hw HS (n := tl G + 4) (by omega) t1 ?_
  intro D2 f2 t2 o2 a2
  have A2 : ∀ i, i < tl G + 4 * 1 + 4 → D2 2 i = fdT G (fiv a b c' d' e) i := fd_step (G := G) (k := 1) (x := fiv a b c' d' e) (D := D1) A1 o2 a2
  simp only [b95_34 hw, xR_tape HS, xI_wrongAt HS, xF_wrongAt HS, xR_state HS, xR_image HS, xI_imageKept HS, xF_imageKept HS, xR_draft HS, xR_memory HS, xR_lawText HS, xR_worlds HS, xI_worldsFresh HS, xF_worldsFresh HS, xR_otherWorlds HS, xR_seating HS, xR_pairing HS, xI_toldSo HS, xF_toldSo HS, xI_toldNot HS, xF_toldNot HS, xO HS, pR_bytes HS, pI_length HS, pF_length HS, pI_place HS, pF_place HS, pI_number HS, pF_number HS, pI_textLength HS, pF_textLength HS, pI_begin HS, pF_begin HS, pO HS, pA_2 HS, pW_2 HS, wi_some, or_0, or_1, bo_or, ite_boP, true_and, and_true, kN_v, kN_n, kT_v, kT_n, kT_e, Nat.add_zero, Nat.zero_add]
  refine k64 hw HS (n := tl G + 4 + 4) (by omega) t2 ?_
  intro D3 f3 t3 o3 a3
  have A3 : ∀ i, i < tl G + 4 * 2 + 4 → D3 2 i = fdT G (fiv a b c' d' e) i := fd_step (G := G) (k := 2) (x := fiv a b c' d' e) (D := D2) A2 o3 a3
  simp only [b95_42 hw, xR_tape HS, xI_wrongAt HS, xF_wrongAt HS, xR_state HS, xR_image HS, xI_imageKept HS, xF_imageKept HS, xR_draft HS, xR_memory HS, xR_lawText HS, xR_worlds HS, xI_worldsFresh HS, xF_worldsFresh HS, xR_otherWorlds HS, xR_seating HS, xR_pairing HS, xI_toldSo HS, xF_toldSo HS, xI_toldNot HS, xF_toldNot HS, xO HS, pR_bytes HS, pI_length HS, pF_length HS, pI_place HS, pF_place HS, pI_number HS, pF_number HS, pI_textLength HS, pF_textLength HS, pI_begin HS, pF_begin HS, pO HS, pA_2 HS, pW_2 HS, wi_some, or_0, or_1, bo_or, ite_boP, true_and, and_true, kN_v, kN_n, kT_v, kT_n, kT_e, Nat.add_zero, Nat.zero_add]
  refine k64 hw HS (n := tl G + 4 + 4 + 4) (by omega) t3 ?_
  intro D4 f4 t4 o4 a4
  have A4 : ∀ i, i < tl G + 4 * 3 + 4 → D4 2 i = fdT G (fiv a b c' d' e) i := fd_step (G := G) (k := 3) (x := fiv a b c' d' e) (D := D3) A3 o4 a4
  simp only [b95_51 hw, xR_tape HS, xI_wrongAt HS, xF_wrongAt HS, xR_state HS, xR_image HS, xI_imageKept HS, xF_imageKept HS, xR_draft HS, xR_memory HS, xR_lawText HS, xR_worlds HS, xI_worldsFresh HS, xF_worldsFresh HS, xR_otherWorlds HS, xR_seating HS, xR_pairing HS, xI_toldSo HS, xF_toldSo HS, xI_toldNot HS, xF_toldNot HS, xO HS, pR_bytes HS, pI_length HS, pF_length HS, pI_place HS, pF_place HS, pI_number HS, pF_number HS, pI_textLength HS, pF_textLength HS, pI_begin HS, pF_begin HS, pO HS, pA_2 HS, pW_2 HS, wi_some, or_0, or_1, bo_or, ite_boP, true_and, and_true, kN_v, kN_n, kT_v, kT_n, kT_e, Nat.add_zero, Nat.zero_add]
  refine k64 hw HS (n := tl G + 4 + 4 + 4 + 4) (by omega) t4 ?_
  intro D5 f5 t5 o5 a5
  have A5 : ∀ i, i < tl G + 4 * 4 + 4 → D5 2 i = fdT G (fiv a b c' d' e) i := fd_step (G := G) (k := 4) (x := fiv a b c' d' e) (D := D4) A4 o5 a5
  simp only [b95_60 hw, xR_tape HS, xI_wrongAt HS, xF_wrongAt HS, xR_state HS, xR_image HS, xI_imageKept HS, xF_imageKept HS, xR_draft HS, xR_memory HS, xR_lawText HS, xR_worlds HS, xI_worldsFresh HS, xF_worldsFresh HS, xR_otherWorlds HS, xR_seating HS, xR_pairing HS, xI_toldSo HS, xF_toldSo HS, xI_toldNot HS, xF_toldNot HS, xO HS, pR_bytes HS, pI_length HS, pF_length HS, pI_place HS, pF_place HS, pI_number HS, pF_number HS, pI_textLength HS, pF_textLength HS, pI_begin HS, pF_begin HS, pO HS, pA_2 HS, pW_2 HS, wi_some, or_0, or_1, bo_or, ite_boP, true_and, and_true, kN_v, kN_n, kT_v, kT_n, kT_e, Nat.add_zero, Nat.zero_add, t5]
  have ff : Tp D D5 := fun b i h1 h2 => by rw [f5 b i h1 h2, f4 b i h1 h2, f3 b i h1 h2, f2 b i h1 h2, f1 b i h1 h2]
  exact kk D5 (h.tape ff t5 fun i hi => A5 i (by omega)) (fun b h1 h2 => funext fun i => ff b i (by omega) (by omega))
theorem m_feed {a b c' d' e : Int32} (hw : WT sh) (HS : SP sh) (hv : GV G) (h : GR D G) (kk : ∀ D', GR D' (fdG G (fiv a b c' d' e)) → Fm D D' → D' 286 0 = Int32.ofNat 0 → Q (.inl (some (.int (o_feed G)))) (mk sh D') c s) : Wx (tP nx xs) d 215 0 [some (.ref 286), (some (.int (a))), (some (.int (b))), (some (.int (c'))), (some (.int (d'))), (some (.int (e))), none] [] (mk sh D) c s Q := by
  have g9 : D 286 9 = Int32.ofNat (tl G) := h.2.2.2.1.1
  have g10 := h.2.2.2.1.2
  have h400 : tl G ≤ 400 := hv.2.2.2.2.1
  have m1 : Ms D (u2 D 286 0 (Int32.ofNat 0)) := Ms.rf.th
  have e9 : u2 D 286 0 (Int32.ofNat 0) 286 9 = Int32.ofNat (tl G) := by rw [u2_at, if_neg (by omega)]; exact g9
  unfold fdG o_feed at kk
  simp only [b215_0 hw, b215_5 hw, mI_thrown HS, mF_thrown HS, mR_row HS, mR_image HS, mR_earlier HS, mR_trial HS, mR_acts HS, mI_hasImage HS, mF_hasImage HS, mI_remembered HS, mF_remembered HS, mR_tape HS, mI_taped HS, mF_taped HS, mI_point HS, mF_point HS, mI_end HS, mF_end HS, mI_begin HS, mF_begin HS, mI_deep HS, mF_deep HS, mI_faultAt HS, mF_faultAt HS, mR_five HS, mI_codes HS, mF_codes HS, mR_value HS, mI_so HS, mF_so HS, mR_lines HS, mR_chosen HS, mR_best HS, mR_members HS, mR_paired HS, mO HS, mA_287 HS, mW_287 HS, mA_288 HS, mW_288 HS, mA_289 HS, mW_289 HS, mA_290 HS, mW_290 HS, mA_291 HS, mW_291 HS, mA_292 HS, mW_292 HS, mA_293 HS, mW_293 HS, mA_294 HS, mW_294 HS, mA_295 HS, mW_295 HS, mA_296 HS, mW_296 HS, mA_297 HS, mW_297 HS, mA_298 HS, mW_298 HS, mA_299 HS, mW_299 HS, wi_some, or_0, or_1, bo_or, ite_boP, true_and, and_true, kN_v, kN_n, kT_v, kT_n, kT_e, Nat.add_zero, Nat.zero_add, e9, oN_add, oN_lt (show 400 < 2147483648 by omega) (show tl G + 20 < 2147483648 by omega)]
  by_cases h3 : tl G ≤ 380
  rotate_left
  · simp only [h3, if_false] at kk
    simp only [show 400 < tl G + 20 by omega, if_true]
    exact kk _ (h.ms hv m1) m1.1 (by simp [u2_at])
  simp only [h3, if_true] at kk
  have z0 : 0 < 5 := by decide
  have z1 : 1 < 5 := by decide
  have z2 : 2 < 5 := by decide
  have z3 : 3 < 5 := by decide
  have z4 : 4 < 5 := by decide
  simp only [show ¬ 400 < tl G + 20 by omega, if_false, z0, z1, z2, z3, z4, b215_27 hw, b215_34 hw, b215_41 hw, b215_49 hw, b215_57 hw, mI_thrown HS, mF_thrown HS, mR_row HS, mR_image HS, mR_earlier HS, mR_trial HS, mR_acts HS, mI_hasImage HS, mF_hasImage HS, mI_remembered HS, mF_remembered HS, mR_tape HS, mI_taped HS, mF_taped HS, mI_point HS, mF_point HS, mI_end HS, mF_end HS, mI_begin HS, mF_begin HS, mI_deep HS, mF_deep HS, mI_faultAt HS, mF_faultAt HS, mR_five HS, mI_codes HS, mF_codes HS, mR_value HS, mI_so HS, mF_so HS, mR_lines HS, mR_chosen HS, mR_best HS, mR_members HS, mR_paired HS, mO HS, mA_287 HS, mW_287 HS, mA_288 HS, mW_288 HS, mA_289 HS, mW_289 HS, mA_290 HS, mW_290 HS, mA_291 HS, mW_291 HS, mA_292 HS, mW_292 HS, mA_293 HS, mW_293 HS, mA_294 HS, mW_294 HS, mA_295 HS, mW_295 HS, mA_296 HS, mW_296 HS, mA_297 HS, mW_297 HS, mA_298 HS, mW_298 HS, mA_299 HS, mW_299 HS, wi_some, or_0, or_1, bo_or, ite_boP, true_and, and_true, kN_v, kN_n, kT_v, kT_n, kT_e, Nat.add_zero, Nat.zero_add, show Int32.toNatClampNeg (Int32.ofNat 0) = 0 by decide, show Int32.toNatClampNeg (Int32.ofNat 1) = 1 by decide, show Int32.toNatClampNeg (Int32.ofNat 2) = 2 by decide, show Int32.toNatClampNeg (Int32.ofNat 3) = 3 by decide, show Int32.toNatClampNeg (Int32.ofNat 4) = 4 by decide]
  have r1 : ∀ bb i, bb ≠ 293 → ¬ (bb = 286 ∧ i = 0) → u2 (u2 (u2 (u2 (u2 (u2 D 286 0 (Int32.ofNat 0)) 293 0 a) 293 1 b) 293 2 c') 293 3 d') 293 4 e bb i = D bb i := fun bb i h1 h2 => by
    rw [u2_at, if_neg (by omega), u2_at, if_neg (by omega), u2_at, if_neg (by omega), u2_at, if_neg (by omega), u2_at, if_neg (by omega), u2_at, if_neg (by omega)]
  have r2 : ∀ k, k < 5 → u2 (u2 (u2 (u2 (u2 (u2 D 286 0 (Int32.ofNat 0)) 293 0 a) 293 1 b) 293 2 c') 293 3 d') 293 4 e 293 k = fiv a b c' d' e k := fun k hk => by
    have cs : k = 0 ∨ k = 1 ∨ k = 2 ∨ k = 3 ∨ k = 4 := by omega
    rcases cs with e | e | e | e | e <;> subst e <;> simp [u2_at, fiv]
  have r0 : u2 (u2 (u2 (u2 (u2 (u2 D 286 0 (Int32.ofNat 0)) 293 0 a) 293 1 b) 293 2 c') 293 3 d') 293 4 e 286 0 = Int32.ofNat 0 := by simp [u2_at]
  generalize u2 (u2 (u2 (u2 (u2 (u2 D 286 0 (Int32.ofNat 0)) 293 0 a) 293 1 b) 293 2 c') 293 3 d') 293 4 e = D1 at *
  have ej : ∀ j, j < 20 → Int32.ofNat j / Int32.ofNat 4 = Int32.ofNat (j / 4) ∧ Int32.ofNat 24 - Int32.ofNat 8 * jrem (Int32.ofNat j) (Int32.ofNat 4) = Int32.ofNat (8 * (3 - j % 4)) := by decide +kernel
  refine up_P (W := fun j (_ : Nat) D => Wx (tP nx xs) d 215 60 [some (.ref 286), (some (.int (a))), (some (.int (b))), (some (.int (c'))), (some (.int (d'))), (some (.int (e))), (some (.int (Int32.ofNat j)))] [] (mk sh D) c s Q) (P := fun j _ D' => (∀ bb i, bb ≠ 292 → D' bb i = D1 bb i) ∧ ∀ i, i < tl G + j → D' 292 i = by8 (fdT G (fiv a b c' d' e) i)) (F := fun _ x => x) 20 ?_ 0 D1 ⟨fun _ _ _ => rfl, fun i hi => ?_⟩ ?_
  · intro j _ D2 hj ⟨f2, a2⟩ k
    have hb : tl G + j < 400 := by omega
    have hj5 : j / 4 < 5 := by omega
    have e9 : D2 286 9 = Int32.ofNat (tl G) := by rw [f2 286 9 (by decide), r1 286 9 (by decide) (by omega)]; exact g9
    have e5 : D2 293 (j / 4) = fiv a b c' d' e (j / 4) := by rw [f2 293 _ (by decide), r2 _ hj5]
    rw [b215_60 hw]
    simp only [oN_lt (show j < 2147483648 by omega) (show 20 < 2147483648 by omega), hj, if_true, mI_thrown HS, mF_thrown HS, mR_row HS, mR_image HS, mR_earlier HS, mR_trial HS, mR_acts HS, mI_hasImage HS, mF_hasImage HS, mI_remembered HS, mF_remembered HS, mR_tape HS, mI_taped HS, mF_taped HS, mI_point HS, mF_point HS, mI_end HS, mF_end HS, mI_begin HS, mF_begin HS, mI_deep HS, mF_deep HS, mI_faultAt HS, mF_faultAt HS, mR_five HS, mI_codes HS, mF_codes HS, mR_value HS, mI_so HS, mF_so HS, mR_lines HS, mR_chosen HS, mR_best HS, mR_members HS, mR_paired HS, mO HS, mA_287 HS, mW_287 HS, mA_288 HS, mW_288 HS, mA_289 HS, mW_289 HS, mA_290 HS, mW_290 HS, mA_291 HS, mW_291 HS, mA_292 HS, mW_292 HS, mA_293 HS, mW_293 HS, mA_294 HS, mW_294 HS, mA_295 HS, mW_295 HS, mA_296 HS, mW_296 HS, mA_297 HS, mW_297 HS, mA_298 HS, mW_298 HS, mA_299 HS, mW_299 HS, wi_some, or_0, or_1, bo_or, ite_boP, true_and, and_true, kN_v, kN_n, kT_v, kT_n, kT_e, Nat.add_zero, Nat.zero_add, e9, (ej j hj).1, (ej j hj).2, hj5, e5, oN_add, hb, oN_tn (show tl G + j < 2147483648 by omega), b215_100 hw, by8_byte _ (show 3 - j % 4 < 4 by omega)]
    refine k _ ⟨fun bb i h => by rw [u2_at, if_neg (by omega)]; exact f2 bb i h, fun i hi => ?_⟩
    rw [u2_at]
    by_cases ei : i = tl G + j
    · rw [if_pos ⟨rfl, ei⟩]
      unfold fdT
      rw [if_neg (by omega), show i - tl G = j by omega]
    · rw [if_neg (by omega)]; exact a2 i (by omega)
  · rw [r1 292 i (by decide) (by omega), g10 i (show i < tl G by omega)]
    unfold fdT
    rw [if_pos (by omega)]
  · intro D2 ⟨f2, a2⟩
    have e9 : D2 286 9 = Int32.ofNat (tl G) := by rw [f2 286 9 (by decide), r1 286 9 (by decide) (by omega)]; exact g9
    have e99 : u2 D2 286 9 (Int32.ofNat (tl G + 20)) 286 9 = Int32.ofNat (tl G + 20) := by simp [u2_at]
    rw [b215_60 hw]
    simp only [oN_lt (show 20 < 2147483648 by omega) (show 20 < 2147483648 by omega), Nat.lt_irrefl, if_false, mI_thrown HS, mF_thrown HS, mR_row HS, mR_image HS, mR_earlier HS, mR_trial HS, mR_acts HS, mI_hasImage HS, mF_hasImage HS, mI_remembered HS, mF_remembered HS, mR_tape HS, mI_taped HS, mF_taped HS, mI_point HS, mF_point HS, mI_end HS, mF_end HS, mI_begin HS, mF_begin HS, mI_deep HS, mF_deep HS, mI_faultAt HS, mF_faultAt HS, mR_five HS, mI_codes HS, mF_codes HS, mR_value HS, mI_so HS, mF_so HS, mR_lines HS, mR_chosen HS, mR_best HS, mR_members HS, mR_paired HS, mO HS, mA_287 HS, mW_287 HS, mA_288 HS, mW_288 HS, mA_289 HS, mW_289 HS, mA_290 HS, mW_290 HS, mA_291 HS, mW_291 HS, mA_292 HS, mW_292 HS, mA_293 HS, mW_293 HS, mA_294 HS, mW_294 HS, mA_295 HS, mW_295 HS, mA_296 HS, mW_296 HS, mA_297 HS, mW_297 HS, mA_298 HS, mW_298 HS, mA_299 HS, mW_299 HS, wi_some, or_0, or_1, bo_or, ite_boP, true_and, and_true, kN_v, kN_n, kT_v, kT_n, kT_e, Nat.add_zero, Nat.zero_add, e9, oN_add, b215_117 hw, e99]
    refine kk _ (h.tape (fun bb i h1 h2 h3 => by rw [u2_at, if_neg (by omega), f2 bb i h1, r1 bb i h2 (by omega)]) e99 fun i hi => by rw [u2_at, if_neg (by omega)]; exact a2 i hi) (fun bb h1 => funext fun i => by rw [u2_at, if_neg (by omega), f2 bb i (by omega), r1 bb i (by omega) (by omega)]) (by rw [u2_at, if_neg (by omega), f2 286 0 (by decide), r0])
end C89
