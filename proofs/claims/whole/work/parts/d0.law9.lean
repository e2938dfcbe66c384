/-! ===== texts of THE LAW: the reference reads lines, and law ===== -/
theorem Rw.o4 {r r' : Nat → Int32} {V : sD} {nt ng nr nl : Nat} (h : Rw r V nt ng nr nl) (b1 : nt ≤ 8) (b2 : ng ≤ 6) (b3 : nr ≤ 5) (b4 : nl ≤ 60) (e : ∀ i, i < 352 → i ≠ 4 → r' i = r i) : Rw r' V nt ng nr nl := by
  obtain ⟨⟨a1, a2, a3, a4⟩, ⟨a5, a6, a7⟩, h3, h4, h5, h6⟩ := h
  refine ⟨⟨by rw [e 0 (by omega) (by omega)]; exact a1, by rw [e 1 (by omega) (by omega)]; exact a2, by rw [e 2 (by omega) (by omega)]; exact a3, by rw [e 6 (by omega) (by omega)]; exact a4⟩, ⟨by rw [e 3 (by omega) (by omega)]; exact a5, by rw [e 5 (by omega) (by omega)]; exact a6, by rw [e 7 (by omega) (by omega)]; exact a7⟩, ?_, ?_, ?_, ?_⟩
  · intro t ht
    rw [e (8 + 5 * t + 0) (by omega) (by omega), e (8 + 5 * t + 1) (by omega) (by omega), e (8 + 5 * t + 2) (by omega) (by omega), e (8 + 5 * t + 3) (by omega) (by omega), e (8 + 5 * t + 4) (by omega) (by omega)]
    exact h3 t ht
  · intro g hg
    rw [e (48 + 9 * g + 0) (by omega) (by omega), e (48 + 9 * g + 1) (by omega) (by omega), e (48 + 9 * g + 2) (by omega) (by omega), e (48 + 9 * g + 3) (by omega) (by omega), e (48 + 9 * g + 4) (by omega) (by omega), e (48 + 9 * g + 5) (by omega) (by omega), e (48 + 9 * g + 6) (by omega) (by omega), e (48 + 9 * g + 7) (by omega) (by omega), e (48 + 9 * g + 8) (by omega) (by omega)]
    exact h4 g hg
  · intro t ht
    rw [e (102 + 2 * t + 0) (by omega) (by omega), e (102 + 2 * t + 1) (by omega) (by omega)]
    exact h5 t ht
  · intro k w hk hw
    rw [e (112 + 4 * k + w) (by omega) (by omega)]
    exact h6 k w hk hw
theorem Rw_14 {r : Nat → Int32} {V : sD} {nt ng nr nl : Nat} {x : Int32} (h : Rw r V nt ng nr nl) : Rw r (u2 V 0 14 x) nt ng nr nl := by
  unfold Rw at *
  simpa [u2_at] using h
def MK (j : Nat) (D D' : sD) : Prop := ∀ e i, ¬ (e = 286 ∧ (i = 10 ∨ i = 12 ∨ i = 13 ∨ i = 16)) → ¬ (e = 287 ∧ (1250 ≤ i ∨ (1202 + 4 * j ≤ i ∧ i < 1202 + 4 * j + 4))) → D' e i = D e i
theorem MK.tr {j : Nat} {D D' D'' : sD} (h : MK j D D') (h' : MK j D' D'') : MK j D D'' := fun e i h1 h2 => (h' e i h1 h2).trans (h e i h1 h2)
theorem ML.mk' {j : Nat} {D D' : sD} (h : ML D D') : MK j D D' := fun e i h1 h2 => h e i h1 (by omega)
theorem M1.mk' {j : Nat} {D D' : sD} (h : M1 D D') : MK j D D' := h.ml.mk'
theorem MK.u7 {j k : Nat} {v : Int32} {D : sD} (h : k < 4) : MK j D (u2 D 287 (1202 + 4 * j + k) v) := fun e i _ h2 => by rw [u2_at, if_neg (by omega)]
theorem LQr.lo {D : sD} {cs : List Int32} {i : Nat} {v : Int32} (h : LQr D cs) (hi : i < 1250) : LQr (u2 D 287 i v) cs := ⟨by rw [u2_at, if_neg (by omega)]; exact h.1, fun k hk => by rw [u2_at, if_neg (by omega), u2_at, if_neg (by omega)]; exact h.2 k hk⟩
theorem XR.z {b : Nat → Nat} {n p : Nat} {D : sD} {cs : List Int32} (t : TpR b n D p) (q : LQr D cs) : XR b n 0 (u2 D 286 13 (Int32.ofNat 0)) p cs := ⟨t.u6 (by decide) (by decide), ⟨by rw [u2_at, if_neg (by omega)]; exact q.1, fun i hi => by rw [u2_at, if_neg (by omega), u2_at, if_neg (by omega)]; exact q.2 i hi⟩, by rw [u2_at, if_pos ⟨rfl, rfl⟩]⟩
section CD0
variable {nx : Nat} {xs : Nat → Int32} {d c s : Nat} {sh : List sC} {D : sD} {Q : av_Q}
variable {b : Nat → Nat} {n p j : Nat} {cs : List Int32}
theorem k244 (hw : WT sh) (HS : SP sh) (tb : TB b n) (hj : j < 12) (rb : RB b n D) (hp : p ≤ n) (e10 : D 286 10 = Int32.ofNat (le b n p)) (e12 : D 286 12 = Int32.ofNat p) (q0 : LQr D cs) (l0 : cs.length ≤ p)
    (kf : ∀ f D', liS b n p cs = .inl f → MK j D D' → D' 286 12 = Int32.ofNat f → Q (.inl (some (.int (Int32.ofNat 0)))) (mk sh D') c s)
    (ky : ∀ p' c' kd a D', liS b n p cs = .inr (p', c', kd, a) → MK j D D' → TpR b n D' p' → LQr D' c' → D' 287 (1202 + 4 * j) = Int32.ofNat kd → (¬ kd = 2 → D' 287 (1202 + 4 * j + 1) = Int32.ofNat a) → D' 287 (1202 + 4 * j + 2) = Int32.ofNat cs.length → D' 287 (1202 + 4 * j + 3) = Int32.ofNat c'.length → Q (.inl (some (.int (Int32.ofNat 1)))) (mk sh D') c s) :
    Wx (tP nx xs) (d + 26) 244 0 [some (.ref 286), (some (.int (Int32.ofNat j))), none] [] (mk sh D) c s Q := by
  have n10 : ¬ (Int32.ofNat 1 : Int32) = Int32.ofNat 0 := by decide
  have nm1 : (-1 : Int32) < Int32.ofNat 0 := by decide
  have hn := tb.1
  have l1 : le b n p ≤ n := ru_le hp
  have a0 : 1202 + 4 * j < 2050 := by omega
  have a1 : 1202 + 4 * j + 1 < 2050 := by omega
  have a2 : 1202 + 4 * j + 2 < 2050 := by omega
  have a3 : 1202 + 4 * j + 3 < 2050 := by omega
  have t0 := oN_tn (show 1202 + 4 * j < 2147483648 by omega)
  have t1 := oN_tn (show 1202 + 4 * j + 1 < 2147483648 by omega)
  have t2 := oN_tn (show 1202 + 4 * j + 2 < 2147483648 by omega)
  have t3 := oN_tn (show 1202 + 4 * j + 3 < 2147483648 by omega)
  have w1 := fun (nx : Nat) (xs : Nat → Int32) (c s : Nat) (Q : av_Q) => k220 (nx := nx) (xs := xs) (d := d + 25) (c := c) (s := s) (Q := Q) (i := 59) (w := wCost) hw HS tb rb hp e10 e12 (by decide) (by decide +kernel) (by decide +kernel)
  have w2 := fun (nx : Nat) (xs : Nat → Int32) (c s : Nat) (Q : av_Q) => k220 (nx := nx) (xs := xs) (d := d + 25) (c := c) (s := s) (Q := Q) (i := 60) (w := wFear) hw HS tb rb hp e10 e12 (by decide) (by decide +kernel) (by decide +kernel)
  have w3 := fun (nx : Nat) (xs : Nat → Int32) (c s : Nat) (Q : av_Q) => k220 (nx := nx) (xs := xs) (d := d + 25) (c := c) (s := s) (Q := Q) (i := 61) (w := wBar) hw HS tb rb hp e10 e12 (by decide) (by decide +kernel) (by decide +kernel)
  unfold liS at kf ky
  -- the amount stands (or none is asked)
  have aft : ∀ k am p2 D2 (x : Int32), (∀ f D', ifS b n k am p2 cs = .inl f → MK j D D' → D' 286 12 = Int32.ofNat f → Q (.inl (some (.int (Int32.ofNat 0)))) (mk sh D') c s) → (∀ p' c' D', ifS b n k am p2 cs = .inr (p', c', k, am) → MK j D D' → TpR b n D' p' → LQr D' c' → D' 287 (1202 + 4 * j) = Int32.ofNat k → (¬ k = 2 → D' 287 (1202 + 4 * j + 1) = Int32.ofNat am) → D' 287 (1202 + 4 * j + 2) = Int32.ofNat cs.length → D' 287 (1202 + 4 * j + 3) = Int32.ofNat c'.length → Q (.inl (some (.int (Int32.ofNat 1)))) (mk sh D') c s) → p + 1 ≤ p2 → p2 ≤ n → MK j D D2 → TpR b n D2 p2 → LQr D2 cs → D2 287 (1202 + 4 * j) = Int32.ofNat k → ¬ x < Int32.ofNat 0 → D2 287 (1202 + 4 * j + 1) = x → (¬ k = 2 → x = Int32.ofNat am) → Wx (tP nx xs) (d + 26) 244 98 [some (.ref 286), (some (.int (Int32.ofNat j))), (some (.int (Int32.ofNat (1202 + 4 * j))))] [] (mk sh D2) c s Q := by
    intro k am p2 D2 x kf ky g1 g2 m2 tr2 q2 r0 hx r1 hxa
    unfold ifS at kf ky
    have fin : ∀ p3 c3 D3, (∀ D', MK j D D' → TpR b n D' p3 → LQr D' c3 → D' 287 (1202 + 4 * j) = Int32.ofNat k → (¬ k = 2 → D' 287 (1202 + 4 * j + 1) = Int32.ofNat am) → D' 287 (1202 + 4 * j + 2) = Int32.ofNat cs.length → D' 287 (1202 + 4 * j + 3) = Int32.ofNat c3.length → Q (.inl (some (.int (Int32.ofNat 1)))) (mk sh D') c s) → MK j D D3 → TpR b n D3 p3 → LQr D3 c3 → D3 287 (1202 + 4 * j) = Int32.ofNat k → (¬ k = 2 → D3 287 (1202 + 4 * j + 1) = Int32.ofNat am) → D3 287 (1202 + 4 * j + 2) = Int32.ofNat cs.length → Wx (tP nx xs) (d + 26) 244 147 [some (.ref 286), (some (.int (Int32.ofNat j))), (some (.int (Int32.ofNat (1202 + 4 * j))))] [] (mk sh D3) c s Q := by
      intro p3 c3 D3 ky m3 tr3 q3 y0 y1 y2
      simp only [b244_147 hw, mI_thrown HS, mF_thrown HS, mR_row HS, mR_image HS, mR_earlier HS, mR_trial HS, mR_acts HS, mI_hasImage HS, mF_hasImage HS, mI_remembered HS, mF_remembered HS, mR_tape HS, mI_taped HS, mF_taped HS, mI_point HS, mF_point HS, mI_end HS, mF_end HS, mI_begin HS, mF_begin HS, mI_deep HS, mF_deep HS, mI_faultAt HS, mF_faultAt HS, mR_five HS, mI_codes HS, mF_codes HS, mR_value HS, mI_so HS, mF_so HS, mR_lines HS, mR_chosen HS, mR_best HS, mR_members HS, mR_paired HS, mO HS, mA_287 HS, mW_287 HS, mA_288 HS, mW_288 HS, mA_289 HS, mW_289 HS, mA_290 HS, mW_290 HS, mA_291 HS, mW_291 HS, mA_292 HS, mW_292 HS, mA_293 HS, mW_293 HS, mA_294 HS, mW_294 HS, mA_295 HS, mW_295 HS, mA_296 HS, mW_296 HS, mA_297 HS, mW_297 HS, mA_298 HS, mW_298 HS, mA_299 HS, mW_299 HS, wi_some, or_0, or_1, bo_or, ite_boP, true_and, and_true, kN_v, kN_n, kT_v, kT_n, kT_e, Nat.add_zero, Nat.zero_add, oN_add, a3, t3, q3.1, b244_159 hw]
      refine ky _ (m3.tr (MK.u7 (by decide))) tr3.st (q3.lo (by omega)) ?_ (fun h => ?_) ?_ ?_
      · rw [u2_at, if_neg (by omega)]; exact y0
      · rw [u2_at, if_neg (by omega)]; exact y1 h
      · rw [u2_at, if_neg (by omega)]; exact y2
      · rw [u2_at, if_pos ⟨rfl, rfl⟩]
    simp only [b244_98 hw, mI_thrown HS, mF_thrown HS, mR_row HS, mR_image HS, mR_earlier HS, mR_trial HS, mR_acts HS, mI_hasImage HS, mF_hasImage HS, mI_remembered HS, mF_remembered HS, mR_tape HS, mI_taped HS, mF_taped HS, mI_point HS, mF_point HS, mI_end HS, mF_end HS, mI_begin HS, mF_begin HS, mI_deep HS, mF_deep HS, mI_faultAt HS, mF_faultAt HS, mR_five HS, mI_codes HS, mF_codes HS, mR_value HS, mI_so HS, mF_so HS, mR_lines HS, mR_chosen HS, mR_best HS, mR_members HS, mR_paired HS, mO HS, mA_287 HS, mW_287 HS, mA_288 HS, mW_288 HS, mA_289 HS, mW_289 HS, mA_290 HS, mW_290 HS, mA_291 HS, mW_291 HS, mA_292 HS, mW_292 HS, mA_293 HS, mW_293 HS, mA_294 HS, mW_294 HS, mA_295 HS, mW_295 HS, mA_296 HS, mW_296 HS, mA_297 HS, mW_297 HS, mA_298 HS, mW_298 HS, mA_299 HS, mW_299 HS, wi_some, or_0, or_1, bo_or, ite_boP, true_and, and_true, kN_v, kN_n, kT_v, kT_n, kT_e, Nat.add_zero, Nat.zero_add, oN_add, a1, r1, hx, if_false, a2, t2, q2.1, b244_123 hw, b244_128 hw]
    have x3 : XR b n 0 (u2 (u2 D2 287 (1202 + 4 * j + 2) (Int32.ofNat cs.length)) 286 13 (Int32.ofNat 0)) p2 cs := XR.z tr2.st (q2.lo (by omega))
    have m3 : MK j D (u2 (u2 D2 287 (1202 + 4 * j + 2) (Int32.ofNat cs.length)) 286 13 (Int32.ofNat 0)) := (m2.tr (MK.u7 (by decide))).tr (ML.u6 (by decide)).mk'
    have y0 : u2 (u2 D2 287 (1202 + 4 * j + 2) (Int32.ofNat cs.length)) 286 13 (Int32.ofNat 0) 287 (1202 + 4 * j) = Int32.ofNat k := by rw [u2_at, if_neg (by omega), u2_at, if_neg (by omega)]; exact r0
    have y1 : ¬ k = 2 → u2 (u2 D2 287 (1202 + 4 * j + 2) (Int32.ofNat cs.length)) 286 13 (Int32.ofNat 0) 287 (1202 + 4 * j + 1) = Int32.ofNat am := fun h => by rw [u2_at, if_neg (by omega), u2_at, if_neg (by omega), r1]; exact hxa h
    have y2 : u2 (u2 D2 287 (1202 + 4 * j + 2) (Int32.ofNat cs.length)) 286 13 (Int32.ofNat 0) 287 (1202 + 4 * j + 2) = Int32.ofNat cs.length := by rw [u2_at, if_neg (by omega), u2_at, if_pos ⟨rfl, rfl⟩]
    generalize u2 (u2 D2 287 (1202 + 4 * j + 2) (Int32.ofNat cs.length)) 286 13 (Int32.ofNat 0) = D3 at *
    refine k221 (i := 62) (w := wIf) hw HS tb x3.1 (by decide) (by decide +kernel) (by decide +kernel) ?_ ?_
    · intro p3 D4 hW m4 t4 e4
      obtain ⟨_, _, s1, s2, _⟩ := wrd_some hW g2
      have s1 : p2 + 2 ≤ p3 := s1
      simp only [hW] at kf ky
      have x4 := x3.m1 m4 t4
      simp only [wi_some, or_0, or_1, bo_or, ite_boP, true_and, and_true, kN_v, kN_n, kT_v, kT_n, kT_e, Nat.add_zero, Nat.zero_add, b244_135 hw, n10, if_false, mI_thrown HS, mF_thrown HS, mR_row HS, mR_image HS, mR_earlier HS, mR_trial HS, mR_acts HS, mI_hasImage HS, mF_hasImage HS, mI_remembered HS, mF_remembered HS, mR_tape HS, mI_taped HS, mF_taped HS, mI_point HS, mF_point HS, mI_end HS, mF_end HS, mI_begin HS, mF_begin HS, mI_deep HS, mF_deep HS, mI_faultAt HS, mF_faultAt HS, mR_five HS, mI_codes HS, mF_codes HS, mR_value HS, mI_so HS, mF_so HS, mR_lines HS, mR_chosen HS, mR_best HS, mR_members HS, mR_paired HS, mO HS, mA_287 HS, mW_287 HS, mA_288 HS, mW_288 HS, mA_289 HS, mW_289 HS, mA_290 HS, mW_290 HS, mA_291 HS, mW_291 HS, mA_292 HS, mW_292 HS, mA_293 HS, mW_293 HS, mA_294 HS, mW_294 HS, mA_295 HS, mW_295 HS, mA_296 HS, mW_296 HS, mA_297 HS, mW_297 HS, mA_298 HS, mW_298 HS, mA_299 HS, mW_299 HS]
      refine k243 (δ := d + 20) (e := 0) (h := 0) hw HS tb ((pA_gd (b := b) (n := n) 6 (by omega)).le (by omega)) (k241 (nx := nx) (xs := xs) hw HS tb 6 (Nat.le_refl _) d) p3 cs D4 0 0 _ x4 (by omega) ?_ ?_
      · intro f D5 hP m5 e5
        simp only [hP] at kf
        simp only [wi_some, or_0, or_1, bo_or, ite_boP, true_and, and_true, kN_v, kN_n, kT_v, kT_n, kT_e, Nat.add_zero, Nat.zero_add, b244_142 hw, if_true]
        exact kf f D5 rfl ((m3.tr m4.mk').tr m5.mk') e5
      · intro p4 c4 D5 hP m5 x5
        simp only [hP] at ky
        simp only [wi_some, or_0, or_1, bo_or, ite_boP, true_and, and_true, kN_v, kN_n, kT_v, kT_n, kT_e, Nat.add_zero, Nat.zero_add, b244_142 hw, n10, if_false]
        have rd : ∀ i, i < 1250 → D5 287 i = D3 287 i := fun i hi => by rw [m5 287 i (by omega) (by omega), m4 287 i (by omega)]
        exact fin p4 c4 D5 (fun D' => ky p4 c4 D' rfl) ((m3.tr m4.mk').tr m5.mk') x5.1 x5.2.1 (by rw [rd _ (by omega)]; exact y0) (fun h => by rw [rd _ (by omega)]; exact y1 h) (by rw [rd _ (by omega)]; exact y2)
    · intro D4 hW m4 t4 e4
      simp only [hW] at ky
      simp only [wi_some, or_0, or_1, bo_or, ite_boP, true_and, and_true, kN_v, kN_n, kT_v, kT_n, kT_e, Nat.add_zero, Nat.zero_add, b244_135 hw, if_true]
      have rd : ∀ i, i < 1250 → D4 287 i = D3 287 i := fun i hi => by rw [m4 287 i (by omega)]
      exact fin p2 cs D4 (fun D' => ky p2 cs D' rfl) (m3.tr m4.mk') t4 (x3.2.1.m1 m4) (by rw [rd _ (by omega)]; exact y0) (fun h => by rw [rd _ (by omega)]; exact y1 h) (by rw [rd _ (by omega)]; exact y2)
  -- a kind is told
  have hit : ∀ k, k < 3 → oneF b n lwWs 0 p = some (k, sk b n (le b n p)) → Wx (tP nx xs) (d + 26) 244 56 [some (.ref 286), (some (.int (Int32.ofNat j))), (some (.int (Int32.ofNat (1202 + 4 * j))))] [.int (Int32.ofNat k), .int (Int32.ofNat (1202 + 4 * j)), .ref 287] (mk sh D) c s Q := by
    intro k hk hO
    obtain ⟨_, _, o1, o2, o3⟩ := oneF_some lwWs 0 p k _ hO hp lw_1
    simp only [hO] at kf ky
    have tr1 : TpR b n (u2 D 287 (1202 + 4 * j) (Int32.ofNat k)) (sk b n (le b n p)) := (TpR.of rb M1.rf l1 rfl e10).st
    have q1 : LQr (u2 D 287 (1202 + 4 * j) (Int32.ofNat k)) cs := q0.lo (by omega)
    have m1 : MK j D (u2 D 287 (1202 + 4 * j) (Int32.ofNat k)) := MK.u7 (k := 0) (by decide)
    have r1 : u2 D 287 (1202 + 4 * j) (Int32.ofNat k) 287 (1202 + 4 * j) = Int32.ofNat k := by rw [u2_at, if_pos ⟨rfl, rfl⟩]
    simp only [b244_56 hw, mI_thrown HS, mF_thrown HS, mR_row HS, mR_image HS, mR_earlier HS, mR_trial HS, mR_acts HS, mI_hasImage HS, mF_hasImage HS, mI_remembered HS, mF_remembered HS, mR_tape HS, mI_taped HS, mF_taped HS, mI_point HS, mF_point HS, mI_end HS, mF_end HS, mI_begin HS, mF_begin HS, mI_deep HS, mF_deep HS, mI_faultAt HS, mF_faultAt HS, mR_five HS, mI_codes HS, mF_codes HS, mR_value HS, mI_so HS, mF_so HS, mR_lines HS, mR_chosen HS, mR_best HS, mR_members HS, mR_paired HS, mO HS, mA_287 HS, mW_287 HS, mA_288 HS, mW_288 HS, mA_289 HS, mW_289 HS, mA_290 HS, mW_290 HS, mA_291 HS, mW_291 HS, mA_292 HS, mW_292 HS, mA_293 HS, mW_293 HS, mA_294 HS, mW_294 HS, mA_295 HS, mW_295 HS, mA_296 HS, mW_296 HS, mA_297 HS, mW_297 HS, mA_298 HS, mW_298 HS, mA_299 HS, mW_299 HS, wi_some, or_0, or_1, bo_or, ite_boP, true_and, and_true, kN_v, kN_n, kT_v, kT_n, kT_e, Nat.add_zero, Nat.zero_add, a0, t0]
    generalize u2 D 287 (1202 + 4 * j) (Int32.ofNat k) = D1 at *
    simp only [b244_57 hw, mI_thrown HS, mF_thrown HS, mR_row HS, mR_image HS, mR_earlier HS, mR_trial HS, mR_acts HS, mI_hasImage HS, mF_hasImage HS, mI_remembered HS, mF_remembered HS, mR_tape HS, mI_taped HS, mF_taped HS, mI_point HS, mF_point HS, mI_end HS, mF_end HS, mI_begin HS, mF_begin HS, mI_deep HS, mF_deep HS, mI_faultAt HS, mF_faultAt HS, mR_five HS, mI_codes HS, mF_codes HS, mR_value HS, mI_so HS, mF_so HS, mR_lines HS, mR_chosen HS, mR_best HS, mR_members HS, mR_paired HS, mO HS, mA_287 HS, mW_287 HS, mA_288 HS, mW_288 HS, mA_289 HS, mW_289 HS, mA_290 HS, mW_290 HS, mA_291 HS, mW_291 HS, mA_292 HS, mW_292 HS, mA_293 HS, mW_293 HS, mA_294 HS, mW_294 HS, mA_295 HS, mW_295 HS, mA_296 HS, mW_296 HS, mA_297 HS, mW_297 HS, mA_298 HS, mW_298 HS, mA_299 HS, mW_299 HS, wi_some, or_0, or_1, bo_or, ite_boP, true_and, and_true, kN_v, kN_n, kT_v, kT_n, kT_e, Nat.add_zero, Nat.zero_add, a0, r1, oN_nn (show k < 2147483648 by omega), if_false, oN_eq (show k < 2147483648 by omega) (show 2 < 2147483648 by omega), oN_add]
    by_cases h2 : k = 2
    · have hA : amS b n k (sk b n (le b n p)) = some (1, sk b n (le b n p)) := by unfold amS; rw [if_pos h2]
      simp only [hA] at kf ky
      simp only [h2, if_true, b244_97 hw, mI_thrown HS, mF_thrown HS, mR_row HS, mR_image HS, mR_earlier HS, mR_trial HS, mR_acts HS, mI_hasImage HS, mF_hasImage HS, mI_remembered HS, mF_remembered HS, mR_tape HS, mI_taped HS, mF_taped HS, mI_point HS, mF_point HS, mI_end HS, mF_end HS, mI_begin HS, mF_begin HS, mI_deep HS, mF_deep HS, mI_faultAt HS, mF_faultAt HS, mR_five HS, mI_codes HS, mF_codes HS, mR_value HS, mI_so HS, mF_so HS, mR_lines HS, mR_chosen HS, mR_best HS, mR_members HS, mR_paired HS, mO HS, mA_287 HS, mW_287 HS, mA_288 HS, mW_288 HS, mA_289 HS, mW_289 HS, mA_290 HS, mW_290 HS, mA_291 HS, mW_291 HS, mA_292 HS, mW_292 HS, mA_293 HS, mW_293 HS, mA_294 HS, mW_294 HS, mA_295 HS, mW_295 HS, mA_296 HS, mW_296 HS, mA_297 HS, mW_297 HS, mA_298 HS, mW_298 HS, mA_299 HS, mW_299 HS, wi_some, or_0, or_1, bo_or, ite_boP, true_and, and_true, kN_v, kN_n, kT_v, kT_n, kT_e, Nat.add_zero, Nat.zero_add, a1, t1]
      refine aft k 1 _ _ (Int32.ofNat 0) (fun f D' => kf f D') (fun p' c' D' => ky p' c' k 1 D') o1 o2 (m1.tr (MK.u7 (by decide))) tr1.st (q1.lo (by omega)) (by rw [u2_at, if_neg (by omega)]; exact r1) (by decide) (by rw [u2_at, if_pos ⟨rfl, rfl⟩]) (fun h => absurd h2 h)
    · simp only [h2, if_false, mI_thrown HS, mF_thrown HS, mR_row HS, mR_image HS, mR_earlier HS, mR_trial HS, mR_acts HS, mI_hasImage HS, mF_hasImage HS, mI_remembered HS, mF_remembered HS, mR_tape HS, mI_taped HS, mF_taped HS, mI_point HS, mF_point HS, mI_end HS, mF_end HS, mI_begin HS, mF_begin HS, mI_deep HS, mF_deep HS, mI_faultAt HS, mF_faultAt HS, mR_five HS, mI_codes HS, mF_codes HS, mR_value HS, mI_so HS, mF_so HS, mR_lines HS, mR_chosen HS, mR_best HS, mR_members HS, mR_paired HS, mO HS, mA_287 HS, mW_287 HS, mA_288 HS, mW_288 HS, mA_289 HS, mW_289 HS, mA_290 HS, mW_290 HS, mA_291 HS, mW_291 HS, mA_292 HS, mW_292 HS, mA_293 HS, mW_293 HS, mA_294 HS, mW_294 HS, mA_295 HS, mW_295 HS, mA_296 HS, mW_296 HS, mA_297 HS, mW_297 HS, mA_298 HS, mW_298 HS, mA_299 HS, mW_299 HS, wi_some, or_0, or_1, bo_or, ite_boP, true_and, and_true, kN_v, kN_n, kT_v, kT_n, kT_e, Nat.add_zero, Nat.zero_add]
      refine k223c hw HS tb tr1 (by decide) (by decide) ?_ ?_
      · intro v p2 D2 hN m2 tr2 e2
        obtain ⟨v1, v2, _, _, v3, _⟩ := num_some hN o2
        have hA : amS b n k (sk b n (le b n p)) = some (v, p2) := by unfold amS; rw [if_neg h2]; exact hN
        simp only [hA] at kf ky
        simp only [wi_some, or_0, or_1, bo_or, ite_boP, true_and, and_true, kN_v, kN_n, kT_v, kT_n, kT_e, Nat.add_zero, Nat.zero_add, b244_97 hw, mI_thrown HS, mF_thrown HS, mR_row HS, mR_image HS, mR_earlier HS, mR_trial HS, mR_acts HS, mI_hasImage HS, mF_hasImage HS, mI_remembered HS, mF_remembered HS, mR_tape HS, mI_taped HS, mF_taped HS, mI_point HS, mF_point HS, mI_end HS, mF_end HS, mI_begin HS, mF_begin HS, mI_deep HS, mF_deep HS, mI_faultAt HS, mF_faultAt HS, mR_five HS, mI_codes HS, mF_codes HS, mR_value HS, mI_so HS, mF_so HS, mR_lines HS, mR_chosen HS, mR_best HS, mR_members HS, mR_paired HS, mO HS, mA_287 HS, mW_287 HS, mA_288 HS, mW_288 HS, mA_289 HS, mW_289 HS, mA_290 HS, mW_290 HS, mA_291 HS, mW_291 HS, mA_292 HS, mW_292 HS, mA_293 HS, mW_293 HS, mA_294 HS, mW_294 HS, mA_295 HS, mW_295 HS, mA_296 HS, mW_296 HS, mA_297 HS, mW_297 HS, mA_298 HS, mW_298 HS, mA_299 HS, mW_299 HS, a1, t1]
        refine aft k v p2 _ (Int32.ofNat v) (fun f D' => kf f D') (fun p' c' D' => ky p' c' k v D') (by omega) v2 ((m1.tr m2.mk').tr (MK.u7 (by decide))) tr2.st ((q1.m1 m2).lo (by omega)) (by rw [u2_at, if_neg (by omega), m2 287 _ (by omega)]; exact r1) (oN_nn (by omega)) (by rw [u2_at, if_pos ⟨rfl, rfl⟩]) (fun _ => rfl)
      · intro D2 hN m2 rb2 e2
        have hA : amS b n k (sk b n (le b n p)) = none := by unfold amS; rw [if_neg h2]; exact hN
        simp only [hA] at kf
        have r2 : u2 D2 287 (1202 + 4 * j + 1) (-1) 287 (1202 + 4 * j + 1) = -1 := by rw [u2_at, if_pos ⟨rfl, rfl⟩]
        simp only [wi_some, or_0, or_1, bo_or, ite_boP, true_and, and_true, kN_v, kN_n, kT_v, kT_n, kT_e, Nat.add_zero, Nat.zero_add, b244_97 hw, mI_thrown HS, mF_thrown HS, mR_row HS, mR_image HS, mR_earlier HS, mR_trial HS, mR_acts HS, mI_hasImage HS, mF_hasImage HS, mI_remembered HS, mF_remembered HS, mR_tape HS, mI_taped HS, mF_taped HS, mI_point HS, mF_point HS, mI_end HS, mF_end HS, mI_begin HS, mF_begin HS, mI_deep HS, mF_deep HS, mI_faultAt HS, mF_faultAt HS, mR_five HS, mI_codes HS, mF_codes HS, mR_value HS, mI_so HS, mF_so HS, mR_lines HS, mR_chosen HS, mR_best HS, mR_members HS, mR_paired HS, mO HS, mA_287 HS, mW_287 HS, mA_288 HS, mW_288 HS, mA_289 HS, mW_289 HS, mA_290 HS, mW_290 HS, mA_291 HS, mW_291 HS, mA_292 HS, mW_292 HS, mA_293 HS, mW_293 HS, mA_294 HS, mW_294 HS, mA_295 HS, mW_295 HS, mA_296 HS, mW_296 HS, mA_297 HS, mW_297 HS, mA_298 HS, mW_298 HS, mA_299 HS, mW_299 HS, a1, t1, b244_98 hw, oN_add, r2, nm1, if_true]
        exact kf _ _ rfl ((m1.tr m2.mk').tr (MK.u7 (by decide))) (by rw [u2_at, if_neg (by omega)]; exact e2)
  simp only [b244_0 hw, mI_thrown HS, mF_thrown HS, mR_row HS, mR_image HS, mR_earlier HS, mR_trial HS, mR_acts HS, mI_hasImage HS, mF_hasImage HS, mI_remembered HS, mF_remembered HS, mR_tape HS, mI_taped HS, mF_taped HS, mI_point HS, mF_point HS, mI_end HS, mF_end HS, mI_begin HS, mF_begin HS, mI_deep HS, mF_deep HS, mI_faultAt HS, mF_faultAt HS, mR_five HS, mI_codes HS, mF_codes HS, mR_value HS, mI_so HS, mF_so HS, mR_lines HS, mR_chosen HS, mR_best HS, mR_members HS, mR_paired HS, mO HS, mA_287 HS, mW_287 HS, mA_288 HS, mW_288 HS, mA_289 HS, mW_289 HS, mA_290 HS, mW_290 HS, mA_291 HS, mW_291 HS, mA_292 HS, mW_292 HS, mA_293 HS, mW_293 HS, mA_294 HS, mW_294 HS, mA_295 HS, mW_295 HS, mA_296 HS, mW_296 HS, mA_297 HS, mW_297 HS, mA_298 HS, mW_298 HS, mA_299 HS, mW_299 HS, wi_some, or_0, or_1, bo_or, ite_boP, true_and, and_true, kN_v, kN_n, kT_v, kT_n, kT_e, Nat.add_zero, Nat.zero_add, oN_add, oN_mul]
  rw [w1]
  simp only [wi_some, or_0, or_1, bo_or, ite_boP, true_and, and_true, kN_v, kN_n, kT_v, kT_n, kT_e, Nat.add_zero, Nat.zero_add, b244_20 hw]
  cases h1 : isW b n wCost p with
  | true => simp only [bo_t, n10, if_false]; exact hit 0 (by decide) (oneF_hit h1)
  | false =>
    simp only [bo_f, if_true, mI_thrown HS, mF_thrown HS, mR_row HS, mR_image HS, mR_earlier HS, mR_trial HS, mR_acts HS, mI_hasImage HS, mF_hasImage HS, mI_remembered HS, mF_remembered HS, mR_tape HS, mI_taped HS, mF_taped HS, mI_point HS, mF_point HS, mI_end HS, mF_end HS, mI_begin HS, mF_begin HS, mI_deep HS, mF_deep HS, mI_faultAt HS, mF_faultAt HS, mR_five HS, mI_codes HS, mF_codes HS, mR_value HS, mI_so HS, mF_so HS, mR_lines HS, mR_chosen HS, mR_best HS, mR_members HS, mR_paired HS, mO HS, mA_287 HS, mW_287 HS, mA_288 HS, mW_288 HS, mA_289 HS, mW_289 HS, mA_290 HS, mW_290 HS, mA_291 HS, mW_291 HS, mA_292 HS, mW_292 HS, mA_293 HS, mW_293 HS, mA_294 HS, mW_294 HS, mA_295 HS, mW_295 HS, mA_296 HS, mW_296 HS, mA_297 HS, mW_297 HS, mA_298 HS, mW_298 HS, mA_299 HS, mW_299 HS, wi_some, or_0, or_1, bo_or, ite_boP, true_and, and_true, kN_v, kN_n, kT_v, kT_n, kT_e, Nat.add_zero, Nat.zero_add]
    rw [w2]
    simp only [wi_some, or_0, or_1, bo_or, ite_boP, true_and, and_true, kN_v, kN_n, kT_v, kT_n, kT_e, Nat.add_zero, Nat.zero_add, b244_34 hw]
    cases h2 : isW b n wFear p with
    | true => simp only [bo_t, n10, if_false]; exact hit 1 (by decide) (by unfold lwWs; rw [oneF_miss h1, oneF_hit h2])
    | false =>
      simp only [bo_f, if_true, mI_thrown HS, mF_thrown HS, mR_row HS, mR_image HS, mR_earlier HS, mR_trial HS, mR_acts HS, mI_hasImage HS, mF_hasImage HS, mI_remembered HS, mF_remembered HS, mR_tape HS, mI_taped HS, mF_taped HS, mI_point HS, mF_point HS, mI_end HS, mF_end HS, mI_begin HS, mF_begin HS, mI_deep HS, mF_deep HS, mI_faultAt HS, mF_faultAt HS, mR_five HS, mI_codes HS, mF_codes HS, mR_value HS, mI_so HS, mF_so HS, mR_lines HS, mR_chosen HS, mR_best HS, mR_members HS, mR_paired HS, mO HS, mA_287 HS, mW_287 HS, mA_288 HS, mW_288 HS, mA_289 HS, mW_289 HS, mA_290 HS, mW_290 HS, mA_291 HS, mW_291 HS, mA_292 HS, mW_292 HS, mA_293 HS, mW_293 HS, mA_294 HS, mW_294 HS, mA_295 HS, mW_295 HS, mA_296 HS, mW_296 HS, mA_297 HS, mW_297 HS, mA_298 HS, mW_298 HS, mA_299 HS, mW_299 HS, wi_some, or_0, or_1, bo_or, ite_boP, true_and, and_true, kN_v, kN_n, kT_v, kT_n, kT_e, Nat.add_zero, Nat.zero_add]
      rw [w3]
      simp only [wi_some, or_0, or_1, bo_or, ite_boP, true_and, and_true, kN_v, kN_n, kT_v, kT_n, kT_e, Nat.add_zero, Nat.zero_add, b244_48 hw]
      cases h3 : isW b n wBar p with
      | true => simp only [bo_t, n10, if_false]; exact hit 2 (by decide) (by unfold lwWs; rw [oneF_miss h1, oneF_miss h2, oneF_hit h3])
      | false =>
        have hO : oneF b n lwWs 0 p = none := by unfold lwWs; rw [oneF_miss h1, oneF_miss h2, oneF_miss h3]; rfl
        simp only [hO] at kf
        have r1 : u2 D 287 (1202 + 4 * j) (-1) 287 (1202 + 4 * j) = -1 := by rw [u2_at, if_pos ⟨rfl, rfl⟩]
        simp only [bo_f, if_true, b244_56 hw, mI_thrown HS, mF_thrown HS, mR_row HS, mR_image HS, mR_earlier HS, mR_trial HS, mR_acts HS, mI_hasImage HS, mF_hasImage HS, mI_remembered HS, mF_remembered HS, mR_tape HS, mI_taped HS, mF_taped HS, mI_point HS, mF_point HS, mI_end HS, mF_end HS, mI_begin HS, mF_begin HS, mI_deep HS, mF_deep HS, mI_faultAt HS, mF_faultAt HS, mR_five HS, mI_codes HS, mF_codes HS, mR_value HS, mI_so HS, mF_so HS, mR_lines HS, mR_chosen HS, mR_best HS, mR_members HS, mR_paired HS, mO HS, mA_287 HS, mW_287 HS, mA_288 HS, mW_288 HS, mA_289 HS, mW_289 HS, mA_290 HS, mW_290 HS, mA_291 HS, mW_291 HS, mA_292 HS, mW_292 HS, mA_293 HS, mW_293 HS, mA_294 HS, mW_294 HS, mA_295 HS, mW_295 HS, mA_296 HS, mW_296 HS, mA_297 HS, mW_297 HS, mA_298 HS, mW_298 HS, mA_299 HS, mW_299 HS, wi_some, or_0, or_1, bo_or, ite_boP, true_and, and_true, kN_v, kN_n, kT_v, kT_n, kT_e, Nat.add_zero, Nat.zero_add, a0, t0, b244_57 hw, r1, nm1]
        exact kf p _ rfl (MK.u7 (k := 0) (by decide)) (by rw [u2_at, if_neg (by omega)]; exact e12)
end CD0
