/-! ===== law, the dispatcher, the loop ===== -/
section JE7
variable {nx : Nat} {xs : Nat → Int32} {d c s : Nat} {sh : List sC} {D : sD} {Q : av_Q}
variable {G : GT} {i : Nat} {l5 l6 : Option Value}
theorem j_law (hv : GV G) (h : GC sh D G) (hr : GR D G) (hi : i + 6 ≤ nx) (hn : nx ≤ 3072) (hz : sh.length < 1900000) (go : GoOn nx xs (d + 40) i Q sh c s) : Wx (tP nx xs) (d + 40) 395 446 [some (.retAddr 0), some (.ref 0), some (.ref 286), some (.ref 300), (some (.int (Int32.ofNat i))), l5, l6] [] (mk sh D) c s Q := by
  have hw := h.1.2
  have HS := h.1.1
  have a1 := jI (k := 1) hi hn (by decide)
  have a2 := jI (k := 2) hi hn (by decide)
  have a3 := jI (k := 3) hi hn (by decide)
  have a4 := jI (k := 4) hi hn (by decide)
  have a5 := jI (k := 5) hi hn (by decide)
  have n10 : ¬ (Int32.ofNat 1 : Int32) = Int32.ofNat 0 := by decide
  have n20 : ¬ (Int32.ofNat 2 : Int32) = Int32.ofNat 0 := by decide
  have t0 : (Int32.ofNat 0 : Int32).toNatClampNeg = 0 := by decide
  have w0 := oW_300 HS (show 0 < 1 by decide)
  have htl := hv.2.2.2.2.1
  simp only [b395_446 hw, b361_0 hw, xR_tape HS, xI_wrongAt HS, xF_wrongAt HS, xR_state HS, xR_image HS, xI_imageKept HS, xF_imageKept HS, xR_draft HS, xR_memory HS, xR_lawText HS, xR_worlds HS, xI_worldsFresh HS, xF_worldsFresh HS, xR_otherWorlds HS, xR_seating HS, xR_pairing HS, xI_toldSo HS, xF_toldSo HS, xI_toldNot HS, xF_toldNot HS, xO HS, wi_some, or_0, or_1, bo_or, ite_boP, true_and, and_true, kN_v, kN_n, kT_v, kT_n, kT_e, Nat.add_zero, Nat.zero_add]
  refine c_law hv h rfl (by omega) ?_ ?_
  · intro f D1 hf h1 f1
    simp only [kC_e, hK361_1, wi_some, or_0, or_1, bo_or, ite_boP, true_and, and_true, kN_v, kN_n, kT_v, kT_n, kT_e, Nat.add_zero, Nat.zero_add, b361_12 hw, b395_451 hw, mI_thrown HS, mF_thrown HS, mR_row HS, mR_image HS, mR_earlier HS, mR_trial HS, mR_acts HS, mI_hasImage HS, mF_hasImage HS, mI_remembered HS, mF_remembered HS, mR_tape HS, mI_taped HS, mF_taped HS, mI_point HS, mF_point HS, mI_end HS, mF_end HS, mI_begin HS, mF_begin HS, mI_deep HS, mF_deep HS, mI_faultAt HS, mF_faultAt HS, mR_five HS, mI_codes HS, mF_codes HS, mR_value HS, mI_so HS, mF_so HS, mR_lines HS, mR_chosen HS, mR_best HS, mR_members HS, mR_paired HS, mO HS, mA_287 HS, mW_287 HS, mA_288 HS, mW_288 HS, mA_289 HS, mW_289 HS, mA_290 HS, mW_290 HS, mA_291 HS, mW_291 HS, mA_292 HS, mW_292 HS, mA_293 HS, mW_293 HS, mA_294 HS, mW_294 HS, mA_295 HS, mW_295 HS, mA_296 HS, mW_296 HS, mA_297 HS, mW_297 HS, mA_298 HS, mW_298 HS, mA_299 HS, mW_299 HS]
    refine m_law hw HS hv (hr.fc f1) ?_ ?_
    · intro f' D2 hf' r2 m2 t2
      rw [hf] at hf'
      cases hf'
      simp only [wi_some, or_0, or_1, bo_or, ite_boP, true_and, and_true, kN_v, kN_n, kT_v, kT_n, kT_e, Nat.add_zero, Nat.zero_add, b395_457 hw, mI_thrown HS, mF_thrown HS, mR_row HS, mR_image HS, mR_earlier HS, mR_trial HS, mR_acts HS, mI_hasImage HS, mF_hasImage HS, mI_remembered HS, mF_remembered HS, mR_tape HS, mI_taped HS, mF_taped HS, mI_point HS, mF_point HS, mI_end HS, mF_end HS, mI_begin HS, mF_begin HS, mI_deep HS, mF_deep HS, mI_faultAt HS, mF_faultAt HS, mR_five HS, mI_codes HS, mF_codes HS, mR_value HS, mI_so HS, mF_so HS, mR_lines HS, mR_chosen HS, mR_best HS, mR_members HS, mR_paired HS, mO HS, mA_287 HS, mW_287 HS, mA_288 HS, mW_288 HS, mA_289 HS, mW_289 HS, mA_290 HS, mW_290 HS, mA_291 HS, mW_291 HS, mA_292 HS, mW_292 HS, mA_293 HS, mW_293 HS, mA_294 HS, mW_294 HS, mA_295 HS, mW_295 HS, mA_296 HS, mW_296 HS, mA_297 HS, mW_297 HS, mA_298 HS, mW_298 HS, mA_299 HS, mW_299 HS, k186 hw HS, t2, b395_463 hw, if_true, n10, if_false, b395_487 hw]
      exact go _ sh D2 _ _ _ _ hv.txt (h1.fm m2) r2 (by omega) (by omega) (by omega)
    · intro ls cs D2 hf'
      rw [hf] at hf'
      cases hf'
  · intro ls cs K A C D1 hf hKA hC h1 f1
    have hw1 := h1.1.2
    have HS1 := h1.1.1
    have w1 := oW_300 HS1 (show 0 < 1 by decide)
    obtain ⟨_, o1', o2'⟩ := lwS_ok hf
    have o2' : cs.length ≤ 400 := Nat.le_trans o2' htl
    simp only [kC_v, Nat.reduceAdd, wi_some, or_0, or_1, bo_or, ite_boP, true_and, and_true, kN_v, kN_n, kT_v, kT_n, kT_e, Nat.add_zero, Nat.zero_add, b361_6 hw1, b361_7 hw1, w1, t0, b361_8 hw1, b395_451 hw1, mI_thrown HS1, mF_thrown HS1, mR_row HS1, mR_image HS1, mR_earlier HS1, mR_trial HS1, mR_acts HS1, mI_hasImage HS1, mF_hasImage HS1, mI_remembered HS1, mF_remembered HS1, mR_tape HS1, mI_taped HS1, mF_taped HS1, mI_point HS1, mF_point HS1, mI_end HS1, mF_end HS1, mI_begin HS1, mF_begin HS1, mI_deep HS1, mF_deep HS1, mI_faultAt HS1, mF_faultAt HS1, mR_five HS1, mI_codes HS1, mF_codes HS1, mR_value HS1, mI_so HS1, mF_so HS1, mR_lines HS1, mR_chosen HS1, mR_best HS1, mR_members HS1, mR_paired HS1, mO HS1, mA_287 HS1, mW_287 HS1, mA_288 HS1, mW_288 HS1, mA_289 HS1, mW_289 HS1, mA_290 HS1, mW_290 HS1, mA_291 HS1, mW_291 HS1, mA_292 HS1, mW_292 HS1, mA_293 HS1, mW_293 HS1, mA_294 HS1, mW_294 HS1, mA_295 HS1, mW_295 HS1, mA_296 HS1, mW_296 HS1, mA_297 HS1, mW_297 HS1, mA_298 HS1, mW_298 HS1, mA_299 HS1, mW_299 HS1]
    refine m_law hw1 HS1 hv (hr.fc f1).o ?_ ?_
    · intro f D2 hf'
      rw [hf] at hf'
      cases hf'
    · intro ls' cs' D2 hf' r2 m2 t2
      rw [hf] at hf'
      cases hf'
      have e3 : D2 300 0 = Int32.ofNat ls.length := by rw [m2 300 (by decide), u2_at, if_pos ⟨rfl, rfl⟩]
      simp only [wi_some, or_0, or_1, bo_or, ite_boP, true_and, and_true, kN_v, kN_n, kT_v, kT_n, kT_e, Nat.add_zero, Nat.zero_add, b395_457 hw1, mI_thrown HS1, mF_thrown HS1, mR_row HS1, mR_image HS1, mR_earlier HS1, mR_trial HS1, mR_acts HS1, mI_hasImage HS1, mF_hasImage HS1, mI_remembered HS1, mF_remembered HS1, mR_tape HS1, mI_taped HS1, mF_taped HS1, mI_point HS1, mF_point HS1, mI_end HS1, mF_end HS1, mI_begin HS1, mF_begin HS1, mI_deep HS1, mF_deep HS1, mI_faultAt HS1, mF_faultAt HS1, mR_five HS1, mI_codes HS1, mF_codes HS1, mR_value HS1, mI_so HS1, mF_so HS1, mR_lines HS1, mR_chosen HS1, mR_best HS1, mR_members HS1, mR_paired HS1, mO HS1, mA_287 HS1, mW_287 HS1, mA_288 HS1, mW_288 HS1, mA_289 HS1, mW_289 HS1, mA_290 HS1, mW_290 HS1, mA_291 HS1, mW_291 HS1, mA_292 HS1, mW_292 HS1, mA_293 HS1, mW_293 HS1, mA_294 HS1, mW_294 HS1, mA_295 HS1, mW_295 HS1, mA_296 HS1, mW_296 HS1, mA_297 HS1, mW_297 HS1, mA_298 HS1, mW_298 HS1, mA_299 HS1, mW_299 HS1, k186 hw1 HS1, t2, b395_463 hw1, if_true, aJ_300 HS1, e3, lg_self, b395_487 hw1]
      exact go _ _ D2 _ _ _ _ hv.lw (h1.o.fm m2) (r2 K A C _ hKA hC) (by rw [Nw_len]; show _ + 1 + 6 ≤ _; omega) (by omega) (by omega)
theorem j_all (hv : GV G) (h : GC sh D G) (hr : GR D G) (hi : i + 6 ≤ nx) (hn : nx ≤ 3072) (hz : sh.length < 1900000) (go : GoOn nx xs (d + 40) i Q sh c s) : ∀ k, k < 62 → tsw #[304, 377, 402, 446, 490, 503, 571, 639, 707, 775, 843, 918, 974, 1042, 1110, 1178, 1246, 1342, 1445, 1513, 1569, 1594, 1619, 1632, 1645, 1658, 1671, 1727, 1740, 1784, 1856, 1900, 1956, 1969, 1982, 2057, 2113, 2126, 2210, 2223, 2279, 2332, 2416, 2472, 2528, 2596, 2609, 2622, 2635, 2648, 2661, 2674, 2687, 2755, 2839, 2923, 3007, 3075, 3100, 3113, 3124, 3137] k fun t => Wx (tP nx xs) (d + 40) 395 t.toNat [some (.retAddr 0), some (.ref 0), some (.ref 286), some (.ref 300), (some (.int (Int32.ofNat i))), l5, l6] [] (mk sh D) c s Q := by
  intro k hk
  match k, hk with
  | 0, _ =>
    show Wx (tP nx xs) (d + 40) 395 304 _ _ _ _ _ _
    exact j_feed hv h hr hi hn go
  | 1, _ =>
    show Wx (tP nx xs) (d + 40) 395 377 _ _ _ _ _ _
    exact j_end hv h hr hi hn go
  | 2, _ =>
    show Wx (tP nx xs) (d + 40) 395 402 _ _ _ _ _ _
    exact j_station hv h hr hi hn go
  | 3, _ =>
    show Wx (tP nx xs) (d + 40) 395 446 _ _ _ _ _ _
    exact j_law hv h hr hi hn hz go
  | 4, _ =>
    show Wx (tP nx xs) (d + 40) 395 490 _ _ _ _ _ _
    exact j_fault hv h hr hi hn go
  | 5, _ =>
    show Wx (tP nx xs) (d + 40) 395 503 _ _ _ _ _ _
    exact j_thing hv h hr hi hn go
  | 6, _ =>
    show Wx (tP nx xs) (d + 40) 395 571 _ _ _ _ _ _
    exact j_goer hv h hr hi hn go
  | 7, _ =>
    show Wx (tP nx xs) (d + 40) 395 639 _ _ _ _ _ _
    exact j_train hv h hr hi hn go
  | 8, _ =>
    show Wx (tP nx xs) (d + 40) 395 707 _ _ _ _ _ _
    exact j_cost hv h hr hi hn go
  | 9, _ =>
    show Wx (tP nx xs) (d + 40) 395 775 _ _ _ _ _ _
    exact j_fear hv h hr hi hn go
  | 10, _ =>
    show Wx (tP nx xs) (d + 40) 395 843 _ _ _ _ _ _
    exact j_may hv h hr hi hn go
  | 11, _ =>
    show Wx (tP nx xs) (d + 40) 395 918 _ _ _ _ _ _
    exact j_days hv h hr hi hn go
  | 12, _ =>
    show Wx (tP nx xs) (d + 40) 395 974 _ _ _ _ _ _
    exact j_sell hv h hr hi hn go
  | 13, _ =>
    show Wx (tP nx xs) (d + 40) 395 1042 _ _ _ _ _ _
    exact j_pay hv h hr hi hn go
  | 14, _ =>
    show Wx (tP nx xs) (d + 40) 395 1110 _ _ _ _ _ _
    exact j_nerve hv h hr hi hn go
  | 15, _ =>
    show Wx (tP nx xs) (d + 40) 395 1178 _ _ _ _ _ _
    exact j_wish hv h hr hi hn go
  | 16, _ =>
    show Wx (tP nx xs) (d + 40) 395 1246 _ _ _ _ _ _
    exact j_deed hv h hr hi hn go
  | 17, _ =>
    show Wx (tP nx xs) (d + 40) 395 1342 _ _ _ _ _ _
    exact j_quarrel hv h hr hi hn go
  | 18, _ =>
    show Wx (tP nx xs) (d + 40) 395 1445 _ _ _ _ _ _
    exact j_stops hv h hr hi hn go
  | 19, _ =>
    show Wx (tP nx xs) (d + 40) 395 1513 _ _ _ _ _ _
    exact j_recall hv h hr hi hn go
  | 20, _ =>
    show Wx (tP nx xs) (d + 40) 395 1569 _ _ _ _ _ _
    exact j_world hv h hr hi hn go
  | 21, _ =>
    show Wx (tP nx xs) (d + 40) 395 1594 _ _ _ _ _ _
    exact j_agrees hv h hr hi hn go
  | 22, _ =>
    show Wx (tP nx xs) (d + 40) 395 1619 _ _ _ _ _ _
    exact j_agree hv h hr hi hn go
  | 23, _ =>
    show Wx (tP nx xs) (d + 40) 395 1632 _ _ _ _ _ _
    exact j_past hv h hr hi hn go
  | 24, _ =>
    show Wx (tP nx xs) (d + 40) 395 1645 _ _ _ _ _ _
    exact j_now hv h hr hi hn go
  | 25, _ =>
    show Wx (tP nx xs) (d + 40) 395 1658 _ _ _ _ _ _
    exact j_ring hv h hr hi hn go
  | 26, _ =>
    show Wx (tP nx xs) (d + 40) 395 1671 _ _ _ _ _ _
    exact j_otherwise hv h hr hi hn go
  | 27, _ =>
    show Wx (tP nx xs) (d + 40) 395 1727 _ _ _ _ _ _
    exact j_heavy hv h hr hi hn go
  | 28, _ =>
    show Wx (tP nx xs) (d + 40) 395 1740 _ _ _ _ _ _
    exact j_send hv h hr hi hn go
  | 29, _ =>
    show Wx (tP nx xs) (d + 40) 395 1784 _ _ _ _ _ _
    exact j_who hv h hr hi hn go
  | 30, _ =>
    show Wx (tP nx xs) (d + 40) 395 1856 _ _ _ _ _ _
    exact j_look hv h hr hi hn go
  | 31, _ =>
    show Wx (tP nx xs) (d + 40) 395 1900 _ _ _ _ _ _
    exact j_hangs hv h hr hi hn go
  | 32, _ =>
    show Wx (tP nx xs) (d + 40) 395 1956 _ _ _ _ _ _
    exact j_key hv h hr hi hn go
  | 33, _ =>
    show Wx (tP nx xs) (d + 40) 395 1969 _ _ _ _ _ _
    exact j_loose hv h hr hi hn go
  | 34, _ =>
    show Wx (tP nx xs) (d + 40) 395 1982 _ _ _ _ _ _
    exact j_kills hv h hr hi hn go
  | 35, _ =>
    show Wx (tP nx xs) (d + 40) 395 2057 _ _ _ _ _ _
    exact j_colours hv h hr hi hn go
  | 36, _ =>
    show Wx (tP nx xs) (d + 40) 395 2113 _ _ _ _ _ _
    exact j_clash hv h hr hi hn go
  | 37, _ =>
    show Wx (tP nx xs) (d + 40) 395 2126 _ _ _ _ _ _
    exact j_price hv h hr hi hn go
  | 38, _ =>
    show Wx (tP nx xs) (d + 40) 395 2210 _ _ _ _ _ _
    exact j_dearest hv h hr hi hn go
  | 39, _ =>
    show Wx (tP nx xs) (d + 40) 395 2223 _ _ _ _ _ _
    exact j_crowd hv h hr hi hn go
  | 40, _ =>
    show Wx (tP nx xs) (d + 40) 395 2279 _ _ _ _ _ _
    exact j_asks hv h hr hi hn go
  | 41, _ =>
    show Wx (tP nx xs) (d + 40) 395 2332 _ _ _ _ _ _
    exact j_pick hv h hr hi hn go
  | 42, _ =>
    show Wx (tP nx xs) (d + 40) 395 2416 _ _ _ _ _ _
    exact j_pairs hv h hr hi hn go
  | 43, _ =>
    show Wx (tP nx xs) (d + 40) 395 2472 _ _ _ _ _ _
    exact j_rests hv h hr hi hn go
  | 44, _ =>
    show Wx (tP nx xs) (d + 40) 395 2528 _ _ _ _ _ _
    exact j_odds hv h hr hi hn go
  | 45, _ =>
    show Wx (tP nx xs) (d + 40) 395 2596 _ _ _ _ _ _
    exact j_brave hv h hr hi hn go
  | 46, _ =>
    show Wx (tP nx xs) (d + 40) 395 2609 _ _ _ _ _ _
    exact j_gone hv h hr hi hn go
  | 47, _ =>
    show Wx (tP nx xs) (d + 40) 395 2622 _ _ _ _ _ _
    exact j_unborn hv h hr hi hn go
  | 48, _ =>
    show Wx (tP nx xs) (d + 40) 395 2635 _ _ _ _ _ _
    exact j_twins hv h hr hi hn go
  | 49, _ =>
    show Wx (tP nx xs) (d + 40) 395 2648 _ _ _ _ _ _
    exact j_worth hv h hr hi hn go
  | 50, _ =>
    show Wx (tP nx xs) (d + 40) 395 2661 _ _ _ _ _ _
    exact j_empty hv h hr hi hn go
  | 51, _ =>
    show Wx (tP nx xs) (d + 40) 395 2674 _ _ _ _ _ _
    exact j_never hv h hr hi hn go
  | 52, _ =>
    show Wx (tP nx xs) (d + 40) 395 2687 _ _ _ _ _ _
    exact j_ahead hv h hr hi hn go
  | 53, _ =>
    show Wx (tP nx xs) (d + 40) 395 2755 _ _ _ _ _ _
    exact j_trial hv h hr hi hn go
  | 54, _ =>
    show Wx (tP nx xs) (d + 40) 395 2839 _ _ _ _ _ _
    exact j_span hv h hr hi hn go
  | 55, _ =>
    show Wx (tP nx xs) (d + 40) 395 2923 _ _ _ _ _ _
    exact j_led hv h hr hi hn go
  | 56, _ =>
    show Wx (tP nx xs) (d + 40) 395 3007 _ _ _ _ _ _
    exact j_log hv h hr hi hn go
  | 57, _ =>
    show Wx (tP nx xs) (d + 40) 395 3075 _ _ _ _ _ _
    exact j_seed hv h hr hi hn go
  | 58, _ =>
    show Wx (tP nx xs) (d + 40) 395 3100 _ _ _ _ _ _
    exact j_undo hv h hr hi hn go
  | 59, _ =>
    show Wx (tP nx xs) (d + 40) 395 3113 _ _ _ _ _ _
    exact j_image hv h hr hi hn go
  | 60, _ =>
    show Wx (tP nx xs) (d + 40) 395 3124 _ _ _ _ _ _
    exact j_back hv h hr hi hn go
  | 61, _ =>
    show Wx (tP nx xs) (d + 40) 395 3137 _ _ _ _ _ _
    exact j_count hv h hr hi hn go
  | n + 62, hk => exact absurd hk (by omega)
theorem up_s {a b s s' k : Nat} (h : s ≤ a + b * k) (h' : s' ≤ s + b) : s' ≤ a + b * (k + 1) := by
  rw [Nat.mul_add, Nat.mul_one, ← Nat.add_assoc]
  exact Nat.le_trans h' (Nat.add_le_add_right h b)
theorem sub6 {n i : Nat} (hn : n ≤ 3072) (hi : i ≤ 100000) : (Int32.ofNat n - Int32.ofNat 6 < Int32.ofNat i) = (n < i + 6) := by
  by_cases h : 6 ≤ n
  · rw [oN_sub h, oN_lt (by omega) (by omega)]
    exact propext ⟨fun h => by omega, fun h => by omega⟩
  · have hs : ∀ n, n < 6 → (Int32.ofNat n - Int32.ofNat 6).toInt < 0 := by decide
    refine propext ⟨fun _ => by omega, fun _ => Int32.lt_iff_toInt_lt.mpr ?_⟩
    rw [oN_ti (by omega)]
    have := hs n (by omega)
    omega
theorem j_loop (hn : nx ≤ 3072) : ∀ (r k : Nat) (G : GT) (sh : List sC) (D : sD) (c s : Nat) (l5 l6 : Option Value), nx + 6 < 6 * k + r → k ≤ 513 → GV G → GC sh D G → GR D G → sh.length ≤ 301 + 8 * k → c ≤ 500000 + 8 * k → s ≤ 6000000 + 1000 * k → (∀ hp c' s', c' ≤ 601024 → s' ≤ 7293034 → Q (.inl (some (.int (Int32.ofNat 1)))) hp c' s') → Wx (tP nx xs) (d + 40) 395 23 [some (.retAddr 0), some (.ref 0), some (.ref 286), some (.ref 300), (some (.int (Int32.ofNat (6 * k)))), l5, l6] [] (mk sh D) c s Q := by
  intro r
  induction r with
  | zero =>
    intro k G sh D c s l5 l6 hr hk hv h hR z1 z2 z3 fin
    have hw := h.1.2
    rw [b395_23 hw]
    simp only [sub6 hn (show 6 * k ≤ 100000 by omega), show nx < 6 * k + 6 by omega, if_true]
    exact fin _ _ _ (by omega) (by omega)
  | succ r ih =>
    intro k G sh D c s l5 l6 hr hk hv h hR z1 z2 z3 fin
    have hw := h.1.2
    rw [b395_23 hw]
    simp only [sub6 hn (show 6 * k ≤ 100000 by omega)]
    by_cases hx : nx < 6 * k + 6
    · simp only [hx, if_true]
      exact fin _ _ _ (by omega) (by omega)
    · simp only [hx, if_false]
      have go : GoOn nx xs (d + 40) (6 * k) Q sh c s := by
        intro G' sh' D' c' s' l5' l6' hv' h' hR' y1 y2 y3
        rw [b395_3162 h'.1.2]
        rw [show (Int32.ofNat (6 * k) + Int32.ofNat 6 : Int32) = Int32.ofNat (6 * (k + 1)) by rw [oN_add]; rfl]
        exact ih (k + 1) G' sh' D' c' s' l5' l6' (by omega) (by omega) hv' h' hR' (by omega) (by omega) (up_s z3 y3) fin
      refine ⟨oN_in (by omega) (by omega), ?_⟩
      by_cases hv6 : Int32.toInt (xs (Int32.toNatClampNeg (Int32.ofNat (6 * k))) &&& Int32.ofNat 63) < 0 ∨ 61 < Int32.toInt (xs (Int32.toNatClampNeg (Int32.ofNat (6 * k))) &&& Int32.ofNat 63)
      · simp only [hv6, if_true]
        exact go G sh D c s l5 l6 hv h hR (by omega) (by omega) (by omega)
      · simp only [hv6, if_false]
        exact j_all hv h hR (by omega) hn (by omega) go _ (by omega)
end JE7
