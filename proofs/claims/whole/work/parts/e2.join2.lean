/-! ===== operations without a fault ===== -/
section JE2
variable {nx : Nat} {xs : Nat → Int32} {d c s : Nat} {sh : List sC} {D : sD} {Q : av_Q}
variable {G : GT} {i : Nat} {l5 l6 : Option Value}
theorem j_feed (hv : GV G) (h : GC sh D G) (hr : GR D G) (hi : i + 6 ≤ nx) (hn : nx ≤ 3072) (go : GoOn nx xs (d + 40) i Q sh c s) : Wx (tP nx xs) (d + 40) 395 304 [some (.retAddr 0), some (.ref 0), some (.ref 286), some (.ref 300), (some (.int (Int32.ofNat i))), l5, l6] [] (mk sh D) c s Q := by
  have hw := h.1.2
  have HS := h.1.1
  have a1 := jI (k := 1) hi hn (by decide)
  have a2 := jI (k := 2) hi hn (by decide)
  have a3 := jI (k := 3) hi hn (by decide)
  have a4 := jI (k := 4) hi hn (by decide)
  have a5 := jI (k := 5) hi hn (by decide)
  have n10 : ¬ (Int32.ofNat 1 : Int32) = Int32.ofNat 0 := by decide
  have n20 : ¬ (Int32.ofNat 2 : Int32) = Int32.ofNat 0 := by decide
  have t0 : (Int32.ofNat 0 : Int32).toNatClampNeg = 0 := by decide
  have w0 := oW_300 HS (show 0 < 1 by decide)
  simp only [b395_304 hw, a1, a2, a3, a4, a5, xR_tape HS, xI_wrongAt HS, xF_wrongAt HS, xR_state HS, xR_image HS, xI_imageKept HS, xF_imageKept HS, xR_draft HS, xR_memory HS, xR_lawText HS, xR_worlds HS, xI_worldsFresh HS, xF_worldsFresh HS, xR_otherWorlds HS, xR_seating HS, xR_pairing HS, xI_toldSo HS, xF_toldSo HS, xI_toldNot HS, xF_toldNot HS, xO HS, wi_some, or_0, or_1, bo_or, ite_boP, true_and, and_true, kN_v, kN_n, kT_v, kT_n, kT_e, Nat.add_zero, Nat.zero_add]
  refine c_feed hv h ?_
  intro D1 h1 f1
  simp only [wi_some, or_0, or_1, bo_or, ite_boP, true_and, and_true, kN_v, kN_n, kT_v, kT_n, kT_e, Nat.add_zero, Nat.zero_add, b395_338 hw, a1, a2, a3, a4, a5, mI_thrown HS, mF_thrown HS, mR_row HS, mR_image HS, mR_earlier HS, mR_trial HS, mR_acts HS, mI_hasImage HS, mF_hasImage HS, mI_remembered HS, mF_remembered HS, mR_tape HS, mI_taped HS, mF_taped HS, mI_point HS, mF_point HS, mI_end HS, mF_end HS, mI_begin HS, mF_begin HS, mI_deep HS, mF_deep HS, mI_faultAt HS, mF_faultAt HS, mR_five HS, mI_codes HS, mF_codes HS, mR_value HS, mI_so HS, mF_so HS, mR_lines HS, mR_chosen HS, mR_best HS, mR_members HS, mR_paired HS, mO HS, mA_287 HS, mW_287 HS, mA_288 HS, mW_288 HS, mA_289 HS, mW_289 HS, mA_290 HS, mW_290 HS, mA_291 HS, mW_291 HS, mA_292 HS, mW_292 HS, mA_293 HS, mW_293 HS, mA_294 HS, mW_294 HS, mA_295 HS, mW_295 HS, mA_296 HS, mW_296 HS, mA_297 HS, mW_297 HS, mA_298 HS, mW_298 HS, mA_299 HS, mW_299 HS]
  refine m_feed hw HS hv (hr.fc f1) ?_
  intro D2 r2 m2 t2
  simp only [wi_some, or_0, or_1, bo_or, ite_boP, true_and, and_true, kN_v, kN_n, kT_v, kT_n, kT_e, Nat.add_zero, Nat.zero_add, b395_372 hw, if_true]
  exact go _ sh D2 c s _ _ hv.feed (h1.fm m2) r2 (by omega) (by omega) (by omega)
theorem j_end (hv : GV G) (h : GC sh D G) (hr : GR D G) (hi : i + 6 ≤ nx) (hn : nx ≤ 3072) (go : GoOn nx xs (d + 40) i Q sh c s) : Wx (tP nx xs) (d + 40) 395 377 [some (.retAddr 0), some (.ref 0), some (.ref 286), some (.ref 300), (some (.int (Int32.ofNat i))), l5, l6] [] (mk sh D) c s Q := by
  have hw := h.1.2
  have HS := h.1.1
  have a1 := jI (k := 1) hi hn (by decide)
  have a2 := jI (k := 2) hi hn (by decide)
  have a3 := jI (k := 3) hi hn (by decide)
  have a4 := jI (k := 4) hi hn (by decide)
  have a5 := jI (k := 5) hi hn (by decide)
  have n10 : ¬ (Int32.ofNat 1 : Int32) = Int32.ofNat 0 := by decide
  have n20 : ¬ (Int32.ofNat 2 : Int32) = Int32.ofNat 0 := by decide
  have t0 : (Int32.ofNat 0 : Int32).toNatClampNeg = 0 := by decide
  have w0 := oW_300 HS (show 0 < 1 by decide)
  simp only [b395_377 hw, a1, a2, a3, a4, a5, xR_tape HS, xI_wrongAt HS, xF_wrongAt HS, xR_state HS, xR_image HS, xI_imageKept HS, xF_imageKept HS, xR_draft HS, xR_memory HS, xR_lawText HS, xR_worlds HS, xI_worldsFresh HS, xF_worldsFresh HS, xR_otherWorlds HS, xR_seating HS, xR_pairing HS, xI_toldSo HS, xF_toldSo HS, xI_toldNot HS, xF_toldNot HS, xO HS, wi_some, or_0, or_1, bo_or, ite_boP, true_and, and_true, kN_v, kN_n, kT_v, kT_n, kT_e, Nat.add_zero, Nat.zero_add]
  refine c_end hv h ?_
  intro D1 h1 f1
  simp only [wi_some, or_0, or_1, bo_or, ite_boP, true_and, and_true, kN_v, kN_n, kT_v, kT_n, kT_e, Nat.add_zero, Nat.zero_add, b395_387 hw, a1, a2, a3, a4, a5, mI_thrown HS, mF_thrown HS, mR_row HS, mR_image HS, mR_earlier HS, mR_trial HS, mR_acts HS, mI_hasImage HS, mF_hasImage HS, mI_remembered HS, mF_remembered HS, mR_tape HS, mI_taped HS, mF_taped HS, mI_point HS, mF_point HS, mI_end HS, mF_end HS, mI_begin HS, mF_begin HS, mI_deep HS, mF_deep HS, mI_faultAt HS, mF_faultAt HS, mR_five HS, mI_codes HS, mF_codes HS, mR_value HS, mI_so HS, mF_so HS, mR_lines HS, mR_chosen HS, mR_best HS, mR_members HS, mR_paired HS, mO HS, mA_287 HS, mW_287 HS, mA_288 HS, mW_288 HS, mA_289 HS, mW_289 HS, mA_290 HS, mW_290 HS, mA_291 HS, mW_291 HS, mA_292 HS, mW_292 HS, mA_293 HS, mW_293 HS, mA_294 HS, mW_294 HS, mA_295 HS, mW_295 HS, mA_296 HS, mW_296 HS, mA_297 HS, mW_297 HS, mA_298 HS, mW_298 HS, mA_299 HS, mW_299 HS]
  refine m_end hw HS hv (hr.fc f1) ?_
  intro D2 r2 m2 t2
  simp only [wi_some, or_0, or_1, bo_or, ite_boP, true_and, and_true, kN_v, kN_n, kT_v, kT_n, kT_e, Nat.add_zero, Nat.zero_add, b395_397 hw, if_true]
  exact go _ sh D2 c s _ _ hv.end_ (h1.fm m2) r2 (by omega) (by omega) (by omega)
theorem j_fault (hv : GV G) (h : GC sh D G) (hr : GR D G) (hi : i + 6 ≤ nx) (hn : nx ≤ 3072) (go : GoOn nx xs (d + 40) i Q sh c s) : Wx (tP nx xs) (d + 40) 395 490 [some (.retAddr 0), some (.ref 0), some (.ref 286), some (.ref 300), (some (.int (Int32.ofNat i))), l5, l6] [] (mk sh D) c s Q := by
  have hw := h.1.2
  have HS := h.1.1
  have a1 := jI (k := 1) hi hn (by decide)
  have a2 := jI (k := 2) hi hn (by decide)
  have a3 := jI (k := 3) hi hn (by decide)
  have a4 := jI (k := 4) hi hn (by decide)
  have a5 := jI (k := 5) hi hn (by decide)
  have n10 : ¬ (Int32.ofNat 1 : Int32) = Int32.ofNat 0 := by decide
  have n20 : ¬ (Int32.ofNat 2 : Int32) = Int32.ofNat 0 := by decide
  have t0 : (Int32.ofNat 0 : Int32).toNatClampNeg = 0 := by decide
  have w0 := oW_300 HS (show 0 < 1 by decide)
  simp only [b395_490 hw, a1, a2, a3, a4, a5, xR_tape HS, xI_wrongAt HS, xF_wrongAt HS, xR_state HS, xR_image HS, xI_imageKept HS, xF_imageKept HS, xR_draft HS, xR_memory HS, xR_lawText HS, xR_worlds HS, xI_worldsFresh HS, xF_worldsFresh HS, xR_otherWorlds HS, xR_seating HS, xR_pairing HS, xI_toldSo HS, xF_toldSo HS, xI_toldNot HS, xF_toldNot HS, xO HS, wi_some, or_0, or_1, bo_or, ite_boP, true_and, and_true, kN_v, kN_n, kT_v, kT_n, kT_e, Nat.add_zero, Nat.zero_add]
  refine c_fault hv h ?_
  simp only [wi_some, or_0, or_1, bo_or, ite_boP, true_and, and_true, kN_v, kN_n, kT_v, kT_n, kT_e, Nat.add_zero, Nat.zero_add, b395_494 hw, a1, a2, a3, a4, a5, mI_thrown HS, mF_thrown HS, mR_row HS, mR_image HS, mR_earlier HS, mR_trial HS, mR_acts HS, mI_hasImage HS, mF_hasImage HS, mI_remembered HS, mF_remembered HS, mR_tape HS, mI_taped HS, mF_taped HS, mI_point HS, mF_point HS, mI_end HS, mF_end HS, mI_begin HS, mF_begin HS, mI_deep HS, mF_deep HS, mI_faultAt HS, mF_faultAt HS, mR_five HS, mI_codes HS, mF_codes HS, mR_value HS, mI_so HS, mF_so HS, mR_lines HS, mR_chosen HS, mR_best HS, mR_members HS, mR_paired HS, mO HS, mA_287 HS, mW_287 HS, mA_288 HS, mW_288 HS, mA_289 HS, mW_289 HS, mA_290 HS, mW_290 HS, mA_291 HS, mW_291 HS, mA_292 HS, mW_292 HS, mA_293 HS, mW_293 HS, mA_294 HS, mW_294 HS, mA_295 HS, mW_295 HS, mA_296 HS, mW_296 HS, mA_297 HS, mW_297 HS, mA_298 HS, mW_298 HS, mA_299 HS, mW_299 HS]
  refine m_fault hw HS hv (hr.fc Fc.rf) ?_
  intro D2 m2 t2
  simp only [wi_some, or_0, or_1, bo_or, ite_boP, true_and, and_true, kN_v, kN_n, kT_v, kT_n, kT_e, Nat.add_zero, Nat.zero_add, b395_498 hw, if_true]
  exact go _ sh D2 c s _ _ hv (h.fm m2.1) ((hr.fc Fc.rf).ms hv m2) (by omega) (by omega) (by omega)
theorem j_world (hv : GV G) (h : GC sh D G) (hr : GR D G) (hi : i + 6 ≤ nx) (hn : nx ≤ 3072) (go : GoOn nx xs (d + 40) i Q sh c s) : Wx (tP nx xs) (d + 40) 395 1569 [some (.retAddr 0), some (.ref 0), some (.ref 286), some (.ref 300), (some (.int (Int32.ofNat i))), l5, l6] [] (mk sh D) c s Q := by
  have hw := h.1.2
  have HS := h.1.1
  have a1 := jI (k := 1) hi hn (by decide)
  have a2 := jI (k := 2) hi hn (by decide)
  have a3 := jI (k := 3) hi hn (by decide)
  have a4 := jI (k := 4) hi hn (by decide)
  have a5 := jI (k := 5) hi hn (by decide)
  have n10 : ¬ (Int32.ofNat 1 : Int32) = Int32.ofNat 0 := by decide
  have n20 : ¬ (Int32.ofNat 2 : Int32) = Int32.ofNat 0 := by decide
  have t0 : (Int32.ofNat 0 : Int32).toNatClampNeg = 0 := by decide
  have w0 := oW_300 HS (show 0 < 1 by decide)
  simp only [b395_1569 hw, a1, a2, a3, a4, a5, xR_tape HS, xI_wrongAt HS, xF_wrongAt HS, xR_state HS, xR_image HS, xI_imageKept HS, xF_imageKept HS, xR_draft HS, xR_memory HS, xR_lawText HS, xR_worlds HS, xI_worldsFresh HS, xF_worldsFresh HS, xR_otherWorlds HS, xR_seating HS, xR_pairing HS, xI_toldSo HS, xF_toldSo HS, xI_toldNot HS, xF_toldNot HS, xO HS, wi_some, or_0, or_1, bo_or, ite_boP, true_and, and_true, kN_v, kN_n, kT_v, kT_n, kT_e, Nat.add_zero, Nat.zero_add]
  refine c_world hv h ?_
  intro D1 h1 f1
  simp only [wi_some, or_0, or_1, bo_or, ite_boP, true_and, and_true, kN_v, kN_n, kT_v, kT_n, kT_e, Nat.add_zero, Nat.zero_add, b395_1579 hw, a1, a2, a3, a4, a5, mI_thrown HS, mF_thrown HS, mR_row HS, mR_image HS, mR_earlier HS, mR_trial HS, mR_acts HS, mI_hasImage HS, mF_hasImage HS, mI_remembered HS, mF_remembered HS, mR_tape HS, mI_taped HS, mF_taped HS, mI_point HS, mF_point HS, mI_end HS, mF_end HS, mI_begin HS, mF_begin HS, mI_deep HS, mF_deep HS, mI_faultAt HS, mF_faultAt HS, mR_five HS, mI_codes HS, mF_codes HS, mR_value HS, mI_so HS, mF_so HS, mR_lines HS, mR_chosen HS, mR_best HS, mR_members HS, mR_paired HS, mO HS, mA_287 HS, mW_287 HS, mA_288 HS, mW_288 HS, mA_289 HS, mW_289 HS, mA_290 HS, mW_290 HS, mA_291 HS, mW_291 HS, mA_292 HS, mW_292 HS, mA_293 HS, mW_293 HS, mA_294 HS, mW_294 HS, mA_295 HS, mW_295 HS, mA_296 HS, mW_296 HS, mA_297 HS, mW_297 HS, mA_298 HS, mW_298 HS, mA_299 HS, mW_299 HS]
  refine m_world hw HS hv (hr.fc f1) ?_
  intro D2 m2 t2
  simp only [wi_some, or_0, or_1, bo_or, ite_boP, true_and, and_true, kN_v, kN_n, kT_v, kT_n, kT_e, Nat.add_zero, Nat.zero_add, b395_1589 hw, if_true]
  exact go _ sh D2 c s _ _ hv (h1.fm m2.1) ((hr.fc f1).ms hv m2) (by omega) (by omega) (by omega)
theorem j_agrees (hv : GV G) (h : GC sh D G) (hr : GR D G) (hi : i + 6 ≤ nx) (hn : nx ≤ 3072) (go : GoOn nx xs (d + 40) i Q sh c s) : Wx (tP nx xs) (d + 40) 395 1594 [some (.retAddr 0), some (.ref 0), some (.ref 286), some (.ref 300), (some (.int (Int32.ofNat i))), l5, l6] [] (mk sh D) c s Q := by
  have hw := h.1.2
  have HS := h.1.1
  have a1 := jI (k := 1) hi hn (by decide)
  have a2 := jI (k := 2) hi hn (by decide)
  have a3 := jI (k := 3) hi hn (by decide)
  have a4 := jI (k := 4) hi hn (by decide)
  have a5 := jI (k := 5) hi hn (by decide)
  have n10 : ¬ (Int32.ofNat 1 : Int32) = Int32.ofNat 0 := by decide
  have n20 : ¬ (Int32.ofNat 2 : Int32) = Int32.ofNat 0 := by decide
  have t0 : (Int32.ofNat 0 : Int32).toNatClampNeg = 0 := by decide
  have w0 := oW_300 HS (show 0 < 1 by decide)
  simp only [b395_1594 hw, a1, a2, a3, a4, a5, xR_tape HS, xI_wrongAt HS, xF_wrongAt HS, xR_state HS, xR_image HS, xI_imageKept HS, xF_imageKept HS, xR_draft HS, xR_memory HS, xR_lawText HS, xR_worlds HS, xI_worldsFresh HS, xF_worldsFresh HS, xR_otherWorlds HS, xR_seating HS, xR_pairing HS, xI_toldSo HS, xF_toldSo HS, xI_toldNot HS, xF_toldNot HS, xO HS, wi_some, or_0, or_1, bo_or, ite_boP, true_and, and_true, kN_v, kN_n, kT_v, kT_n, kT_e, Nat.add_zero, Nat.zero_add]
  refine c_agrees hv h ?_
  intro D1 h1 f1
  simp only [wi_some, or_0, or_1, bo_or, ite_boP, true_and, and_true, kN_v, kN_n, kT_v, kT_n, kT_e, Nat.add_zero, Nat.zero_add, b395_1604 hw, a1, a2, a3, a4, a5, mI_thrown HS, mF_thrown HS, mR_row HS, mR_image HS, mR_earlier HS, mR_trial HS, mR_acts HS, mI_hasImage HS, mF_hasImage HS, mI_remembered HS, mF_remembered HS, mR_tape HS, mI_taped HS, mF_taped HS, mI_point HS, mF_point HS, mI_end HS, mF_end HS, mI_begin HS, mF_begin HS, mI_deep HS, mF_deep HS, mI_faultAt HS, mF_faultAt HS, mR_five HS, mI_codes HS, mF_codes HS, mR_value HS, mI_so HS, mF_so HS, mR_lines HS, mR_chosen HS, mR_best HS, mR_members HS, mR_paired HS, mO HS, mA_287 HS, mW_287 HS, mA_288 HS, mW_288 HS, mA_289 HS, mW_289 HS, mA_290 HS, mW_290 HS, mA_291 HS, mW_291 HS, mA_292 HS, mW_292 HS, mA_293 HS, mW_293 HS, mA_294 HS, mW_294 HS, mA_295 HS, mW_295 HS, mA_296 HS, mW_296 HS, mA_297 HS, mW_297 HS, mA_298 HS, mW_298 HS, mA_299 HS, mW_299 HS]
  refine m_agrees hw HS hv (hr.fc f1) ?_
  intro D2 m2 t2
  simp only [wi_some, or_0, or_1, bo_or, ite_boP, true_and, and_true, kN_v, kN_n, kT_v, kT_n, kT_e, Nat.add_zero, Nat.zero_add, b395_1614 hw, if_true]
  exact go _ sh D2 c s _ _ hv (h1.fm m2.1) ((hr.fc f1).ms hv m2) (by omega) (by omega) (by omega)
theorem j_agree (hv : GV G) (h : GC sh D G) (hr : GR D G) (hi : i + 6 ≤ nx) (hn : nx ≤ 3072) (go : GoOn nx xs (d + 40) i Q sh c s) : Wx (tP nx xs) (d + 40) 395 1619 [some (.retAddr 0), some (.ref 0), some (.ref 286), some (.ref 300), (some (.int (Int32.ofNat i))), l5, l6] [] (mk sh D) c s Q := by
  have hw := h.1.2
  have HS := h.1.1
  have a1 := jI (k := 1) hi hn (by decide)
  have a2 := jI (k := 2) hi hn (by decide)
  have a3 := jI (k := 3) hi hn (by decide)
  have a4 := jI (k := 4) hi hn (by decide)
  have a5 := jI (k := 5) hi hn (by decide)
  have n10 : ¬ (Int32.ofNat 1 : Int32) = Int32.ofNat 0 := by decide
  have n20 : ¬ (Int32.ofNat 2 : Int32) = Int32.ofNat 0 := by decide
  have t0 : (Int32.ofNat 0 : Int32).toNatClampNeg = 0 := by decide
  have w0 := oW_300 HS (show 0 < 1 by decide)
  simp only [b395_1619 hw, a1, a2, a3, a4, a5, xR_tape HS, xI_wrongAt HS, xF_wrongAt HS, xR_state HS, xR_image HS, xI_imageKept HS, xF_imageKept HS, xR_draft HS, xR_memory HS, xR_lawText HS, xR_worlds HS, xI_worldsFresh HS, xF_worldsFresh HS, xR_otherWorlds HS, xR_seating HS, xR_pairing HS, xI_toldSo HS, xF_toldSo HS, xI_toldNot HS, xF_toldNot HS, xO HS, wi_some, or_0, or_1, bo_or, ite_boP, true_and, and_true, kN_v, kN_n, kT_v, kT_n, kT_e, Nat.add_zero, Nat.zero_add]
  refine c_agree hv h ?_
  intro D1 h1 f1
  simp only [wi_some, or_0, or_1, bo_or, ite_boP, true_and, and_true, kN_v, kN_n, kT_v, kT_n, kT_e, Nat.add_zero, Nat.zero_add, b395_1623 hw, a1, a2, a3, a4, a5, mI_thrown HS, mF_thrown HS, mR_row HS, mR_image HS, mR_earlier HS, mR_trial HS, mR_acts HS, mI_hasImage HS, mF_hasImage HS, mI_remembered HS, mF_remembered HS, mR_tape HS, mI_taped HS, mF_taped HS, mI_point HS, mF_point HS, mI_end HS, mF_end HS, mI_begin HS, mF_begin HS, mI_deep HS, mF_deep HS, mI_faultAt HS, mF_faultAt HS, mR_five HS, mI_codes HS, mF_codes HS, mR_value HS, mI_so HS, mF_so HS, mR_lines HS, mR_chosen HS, mR_best HS, mR_members HS, mR_paired HS, mO HS, mA_287 HS, mW_287 HS, mA_288 HS, mW_288 HS, mA_289 HS, mW_289 HS, mA_290 HS, mW_290 HS, mA_291 HS, mW_291 HS, mA_292 HS, mW_292 HS, mA_293 HS, mW_293 HS, mA_294 HS, mW_294 HS, mA_295 HS, mW_295 HS, mA_296 HS, mW_296 HS, mA_297 HS, mW_297 HS, mA_298 HS, mW_298 HS, mA_299 HS, mW_299 HS]
  refine m_agree hw HS hv (hr.fc f1) ?_
  intro D2 m2 t2
  simp only [wi_some, or_0, or_1, bo_or, ite_boP, true_and, and_true, kN_v, kN_n, kT_v, kT_n, kT_e, Nat.add_zero, Nat.zero_add, b395_1627 hw, if_true]
  exact go _ sh D2 c s _ _ hv (h1.fm m2.1) ((hr.fc f1).ms hv m2) (by omega) (by omega) (by omega)
theorem j_past (hv : GV G) (h : GC sh D G) (hr : GR D G) (hi : i + 6 ≤ nx) (hn : nx ≤ 3072) (go : GoOn nx xs (d + 40) i Q sh c s) : Wx (tP nx xs) (d + 40) 395 1632 [some (.retAddr 0), some (.ref 0), some (.ref 286), some (.ref 300), (some (.int (Int32.ofNat i))), l5, l6] [] (mk sh D) c s Q := by
  have hw := h.1.2
  have HS := h.1.1
  have a1 := jI (k := 1) hi hn (by decide)
  have a2 := jI (k := 2) hi hn (by decide)
  have a3 := jI (k := 3) hi hn (by decide)
  have a4 := jI (k := 4) hi hn (by decide)
  have a5 := jI (k := 5) hi hn (by decide)
  have n10 : ¬ (Int32.ofNat 1 : Int32) = Int32.ofNat 0 := by decide
  have n20 : ¬ (Int32.ofNat 2 : Int32) = Int32.ofNat 0 := by decide
  have t0 : (Int32.ofNat 0 : Int32).toNatClampNeg = 0 := by decide
  have w0 := oW_300 HS (show 0 < 1 by decide)
  simp only [b395_1632 hw, a1, a2, a3, a4, a5, xR_tape HS, xI_wrongAt HS, xF_wrongAt HS, xR_state HS, xR_image HS, xI_imageKept HS, xF_imageKept HS, xR_draft HS, xR_memory HS, xR_lawText HS, xR_worlds HS, xI_worldsFresh HS, xF_worldsFresh HS, xR_otherWorlds HS, xR_seating HS, xR_pairing HS, xI_toldSo HS, xF_toldSo HS, xI_toldNot HS, xF_toldNot HS, xO HS, wi_some, or_0, or_1, bo_or, ite_boP, true_and, and_true, kN_v, kN_n, kT_v, kT_n, kT_e, Nat.add_zero, Nat.zero_add]
  refine c_past hv h ?_
  intro D1 h1 f1
  simp only [wi_some, or_0, or_1, bo_or, ite_boP, true_and, and_true, kN_v, kN_n, kT_v, kT_n, kT_e, Nat.add_zero, Nat.zero_add, b395_1636 hw, a1, a2, a3, a4, a5, mI_thrown HS, mF_thrown HS, mR_row HS, mR_image HS, mR_earlier HS, mR_trial HS, mR_acts HS, mI_hasImage HS, mF_hasImage HS, mI_remembered HS, mF_remembered HS, mR_tape HS, mI_taped HS, mF_taped HS, mI_point HS, mF_point HS, mI_end HS, mF_end HS, mI_begin HS, mF_begin HS, mI_deep HS, mF_deep HS, mI_faultAt HS, mF_faultAt HS, mR_five HS, mI_codes HS, mF_codes HS, mR_value HS, mI_so HS, mF_so HS, mR_lines HS, mR_chosen HS, mR_best HS, mR_members HS, mR_paired HS, mO HS, mA_287 HS, mW_287 HS, mA_288 HS, mW_288 HS, mA_289 HS, mW_289 HS, mA_290 HS, mW_290 HS, mA_291 HS, mW_291 HS, mA_292 HS, mW_292 HS, mA_293 HS, mW_293 HS, mA_294 HS, mW_294 HS, mA_295 HS, mW_295 HS, mA_296 HS, mW_296 HS, mA_297 HS, mW_297 HS, mA_298 HS, mW_298 HS, mA_299 HS, mW_299 HS]
  refine m_past hw HS hv (hr.fc f1) ?_
  intro D2 m2 t2
  simp only [wi_some, or_0, or_1, bo_or, ite_boP, true_and, and_true, kN_v, kN_n, kT_v, kT_n, kT_e, Nat.add_zero, Nat.zero_add, b395_1640 hw, if_true]
  exact go _ sh D2 c s _ _ hv (h1.fm m2.1) ((hr.fc f1).ms hv m2) (by omega) (by omega) (by omega)
theorem j_now (hv : GV G) (h : GC sh D G) (hr : GR D G) (hi : i + 6 ≤ nx) (hn : nx ≤ 3072) (go : GoOn nx xs (d + 40) i Q sh c s) : Wx (tP nx xs) (d + 40) 395 1645 [some (.retAddr 0), some (.ref 0), some (.ref 286), some (.ref 300), (some (.int (Int32.ofNat i))), l5, l6] [] (mk sh D) c s Q := by
  have hw := h.1.2
  have HS := h.1.1
  have a1 := jI (k := 1) hi hn (by decide)
  have a2 := jI (k := 2) hi hn (by decide)
  have a3 := jI (k := 3) hi hn (by decide)
  have a4 := jI (k := 4) hi hn (by decide)
  have a5 := jI (k := 5) hi hn (by decide)
  have n10 : ¬ (Int32.ofNat 1 : Int32) = Int32.ofNat 0 := by decide
  have n20 : ¬ (Int32.ofNat 2 : Int32) = Int32.ofNat 0 := by decide
  have t0 : (Int32.ofNat 0 : Int32).toNatClampNeg = 0 := by decide
  have w0 := oW_300 HS (show 0 < 1 by decide)
  simp only [b395_1645 hw, a1, a2, a3, a4, a5, xR_tape HS, xI_wrongAt HS, xF_wrongAt HS, xR_state HS, xR_image HS, xI_imageKept HS, xF_imageKept HS, xR_draft HS, xR_memory HS, xR_lawText HS, xR_worlds HS, xI_worldsFresh HS, xF_worldsFresh HS, xR_otherWorlds HS, xR_seating HS, xR_pairing HS, xI_toldSo HS, xF_toldSo HS, xI_toldNot HS, xF_toldNot HS, xO HS, wi_some, or_0, or_1, bo_or, ite_boP, true_and, and_true, kN_v, kN_n, kT_v, kT_n, kT_e, Nat.add_zero, Nat.zero_add]
  refine c_now hv h ?_
  intro D1 h1 f1
  simp only [wi_some, or_0, or_1, bo_or, ite_boP, true_and, and_true, kN_v, kN_n, kT_v, kT_n, kT_e, Nat.add_zero, Nat.zero_add, b395_1649 hw, a1, a2, a3, a4, a5, mI_thrown HS, mF_thrown HS, mR_row HS, mR_image HS, mR_earlier HS, mR_trial HS, mR_acts HS, mI_hasImage HS, mF_hasImage HS, mI_remembered HS, mF_remembered HS, mR_tape HS, mI_taped HS, mF_taped HS, mI_point HS, mF_point HS, mI_end HS, mF_end HS, mI_begin HS, mF_begin HS, mI_deep HS, mF_deep HS, mI_faultAt HS, mF_faultAt HS, mR_five HS, mI_codes HS, mF_codes HS, mR_value HS, mI_so HS, mF_so HS, mR_lines HS, mR_chosen HS, mR_best HS, mR_members HS, mR_paired HS, mO HS, mA_287 HS, mW_287 HS, mA_288 HS, mW_288 HS, mA_289 HS, mW_289 HS, mA_290 HS, mW_290 HS, mA_291 HS, mW_291 HS, mA_292 HS, mW_292 HS, mA_293 HS, mW_293 HS, mA_294 HS, mW_294 HS, mA_295 HS, mW_295 HS, mA_296 HS, mW_296 HS, mA_297 HS, mW_297 HS, mA_298 HS, mW_298 HS, mA_299 HS, mW_299 HS]
  refine m_now hw HS hv (hr.fc f1) ?_
  intro D2 m2 t2
  simp only [wi_some, or_0, or_1, bo_or, ite_boP, true_and, and_true, kN_v, kN_n, kT_v, kT_n, kT_e, Nat.add_zero, Nat.zero_add, b395_1653 hw, if_true]
  exact go _ sh D2 c s _ _ hv (h1.fm m2.1) ((hr.fc f1).ms hv m2) (by omega) (by omega) (by omega)
theorem j_ring (hv : GV G) (h : GC sh D G) (hr : GR D G) (hi : i + 6 ≤ nx) (hn : nx ≤ 3072) (go : GoOn nx xs (d + 40) i Q sh c s) : Wx (tP nx xs) (d + 40) 395 1658 [some (.retAddr 0), some (.ref 0), some (.ref 286), some (.ref 300), (some (.int (Int32.ofNat i))), l5, l6] [] (mk sh D) c s Q := by
  have hw := h.1.2
  have HS := h.1.1
  have a1 := jI (k := 1) hi hn (by decide)
  have a2 := jI (k := 2) hi hn (by decide)
  have a3 := jI (k := 3) hi hn (by decide)
  have a4 := jI (k := 4) hi hn (by decide)
  have a5 := jI (k := 5) hi hn (by decide)
  have n10 : ¬ (Int32.ofNat 1 : Int32) = Int32.ofNat 0 := by decide
  have n20 : ¬ (Int32.ofNat 2 : Int32) = Int32.ofNat 0 := by decide
  have t0 : (Int32.ofNat 0 : Int32).toNatClampNeg = 0 := by decide
  have w0 := oW_300 HS (show 0 < 1 by decide)
  simp only [b395_1658 hw, a1, a2, a3, a4, a5, xR_tape HS, xI_wrongAt HS, xF_wrongAt HS, xR_state HS, xR_image HS, xI_imageKept HS, xF_imageKept HS, xR_draft HS, xR_memory HS, xR_lawText HS, xR_worlds HS, xI_worldsFresh HS, xF_worldsFresh HS, xR_otherWorlds HS, xR_seating HS, xR_pairing HS, xI_toldSo HS, xF_toldSo HS, xI_toldNot HS, xF_toldNot HS, xO HS, wi_some, or_0, or_1, bo_or, ite_boP, true_and, and_true, kN_v, kN_n, kT_v, kT_n, kT_e, Nat.add_zero, Nat.zero_add]
  refine c_ring hv h ?_
  intro D1 h1 f1
  simp only [wi_some, or_0, or_1, bo_or, ite_boP, true_and, and_true, kN_v, kN_n, kT_v, kT_n, kT_e, Nat.add_zero, Nat.zero_add, b395_1662 hw, a1, a2, a3, a4, a5, mI_thrown HS, mF_thrown HS, mR_row HS, mR_image HS, mR_earlier HS, mR_trial HS, mR_acts HS, mI_hasImage HS, mF_hasImage HS, mI_remembered HS, mF_remembered HS, mR_tape HS, mI_taped HS, mF_taped HS, mI_point HS, mF_point HS, mI_end HS, mF_end HS, mI_begin HS, mF_begin HS, mI_deep HS, mF_deep HS, mI_faultAt HS, mF_faultAt HS, mR_five HS, mI_codes HS, mF_codes HS, mR_value HS, mI_so HS, mF_so HS, mR_lines HS, mR_chosen HS, mR_best HS, mR_members HS, mR_paired HS, mO HS, mA_287 HS, mW_287 HS, mA_288 HS, mW_288 HS, mA_289 HS, mW_289 HS, mA_290 HS, mW_290 HS, mA_291 HS, mW_291 HS, mA_292 HS, mW_292 HS, mA_293 HS, mW_293 HS, mA_294 HS, mW_294 HS, mA_295 HS, mW_295 HS, mA_296 HS, mW_296 HS, mA_297 HS, mW_297 HS, mA_298 HS, mW_298 HS, mA_299 HS, mW_299 HS]
  refine m_ring hw HS hv (hr.fc f1) ?_
  intro D2 m2 t2
  simp only [wi_some, or_0, or_1, bo_or, ite_boP, true_and, and_true, kN_v, kN_n, kT_v, kT_n, kT_e, Nat.add_zero, Nat.zero_add, b395_1666 hw, if_true]
  exact go _ sh D2 c s _ _ hv (h1.fm m2.1) ((hr.fc f1).ms hv m2) (by omega) (by omega) (by omega)
theorem j_heavy (hv : GV G) (h : GC sh D G) (hr : GR D G) (hi : i + 6 ≤ nx) (hn : nx ≤ 3072) (go : GoOn nx xs (d + 40) i Q sh c s) : Wx (tP nx xs) (d + 40) 395 1727 [some (.retAddr 0), some (.ref 0), some (.ref 286), some (.ref 300), (some (.int (Int32.ofNat i))), l5, l6] [] (mk sh D) c s Q := by
  have hw := h.1.2
  have HS := h.1.1
  have a1 := jI (k := 1) hi hn (by decide)
  have a2 := jI (k := 2) hi hn (by decide)
  have a3 := jI (k := 3) hi hn (by decide)
  have a4 := jI (k := 4) hi hn (by decide)
  have a5 := jI (k := 5) hi hn (by decide)
  have n10 : ¬ (Int32.ofNat 1 : Int32) = Int32.ofNat 0 := by decide
  have n20 : ¬ (Int32.ofNat 2 : Int32) = Int32.ofNat 0 := by decide
  have t0 : (Int32.ofNat 0 : Int32).toNatClampNeg = 0 := by decide
  have w0 := oW_300 HS (show 0 < 1 by decide)
  simp only [b395_1727 hw, a1, a2, a3, a4, a5, xR_tape HS, xI_wrongAt HS, xF_wrongAt HS, xR_state HS, xR_image HS, xI_imageKept HS, xF_imageKept HS, xR_draft HS, xR_memory HS, xR_lawText HS, xR_worlds HS, xI_worldsFresh HS, xF_worldsFresh HS, xR_otherWorlds HS, xR_seating HS, xR_pairing HS, xI_toldSo HS, xF_toldSo HS, xI_toldNot HS, xF_toldNot HS, xO HS, wi_some, or_0, or_1, bo_or, ite_boP, true_and, and_true, kN_v, kN_n, kT_v, kT_n, kT_e, Nat.add_zero, Nat.zero_add]
  refine c_heavy hv h ?_
  intro D1 h1 f1
  simp only [wi_some, or_0, or_1, bo_or, ite_boP, true_and, and_true, kN_v, kN_n, kT_v, kT_n, kT_e, Nat.add_zero, Nat.zero_add, b395_1731 hw, a1, a2, a3, a4, a5, mI_thrown HS, mF_thrown HS, mR_row HS, mR_image HS, mR_earlier HS, mR_trial HS, mR_acts HS, mI_hasImage HS, mF_hasImage HS, mI_remembered HS, mF_remembered HS, mR_tape HS, mI_taped HS, mF_taped HS, mI_point HS, mF_point HS, mI_end HS, mF_end HS, mI_begin HS, mF_begin HS, mI_deep HS, mF_deep HS, mI_faultAt HS, mF_faultAt HS, mR_five HS, mI_codes HS, mF_codes HS, mR_value HS, mI_so HS, mF_so HS, mR_lines HS, mR_chosen HS, mR_best HS, mR_members HS, mR_paired HS, mO HS, mA_287 HS, mW_287 HS, mA_288 HS, mW_288 HS, mA_289 HS, mW_289 HS, mA_290 HS, mW_290 HS, mA_291 HS, mW_291 HS, mA_292 HS, mW_292 HS, mA_293 HS, mW_293 HS, mA_294 HS, mW_294 HS, mA_295 HS, mW_295 HS, mA_296 HS, mW_296 HS, mA_297 HS, mW_297 HS, mA_298 HS, mW_298 HS, mA_299 HS, mW_299 HS]
  refine m_heavy hw HS hv (hr.fc f1) ?_
  intro D2 m2 t2
  simp only [wi_some, or_0, or_1, bo_or, ite_boP, true_and, and_true, kN_v, kN_n, kT_v, kT_n, kT_e, Nat.add_zero, Nat.zero_add, b395_1735 hw, if_true]
  exact go _ sh D2 c s _ _ hv (h1.fm m2.1) ((hr.fc f1).ms hv m2) (by omega) (by omega) (by omega)
theorem j_key (hv : GV G) (h : GC sh D G) (hr : GR D G) (hi : i + 6 ≤ nx) (hn : nx ≤ 3072) (go : GoOn nx xs (d + 40) i Q sh c s) : Wx (tP nx xs) (d + 40) 395 1956 [some (.retAddr 0), some (.ref 0), some (.ref 286), some (.ref 300), (some (.int (Int32.ofNat i))), l5, l6] [] (mk sh D) c s Q := by
  have hw := h.1.2
  have HS := h.1.1
  have a1 := jI (k := 1) hi hn (by decide)
  have a2 := jI (k := 2) hi hn (by decide)
  have a3 := jI (k := 3) hi hn (by decide)
  have a4 := jI (k := 4) hi hn (by decide)
  have a5 := jI (k := 5) hi hn (by decide)
  have n10 : ¬ (Int32.ofNat 1 : Int32) = Int32.ofNat 0 := by decide
  have n20 : ¬ (Int32.ofNat 2 : Int32) = Int32.ofNat 0 := by decide
  have t0 : (Int32.ofNat 0 : Int32).toNatClampNeg = 0 := by decide
  have w0 := oW_300 HS (show 0 < 1 by decide)
  simp only [b395_1956 hw, a1, a2, a3, a4, a5, xR_tape HS, xI_wrongAt HS, xF_wrongAt HS, xR_state HS, xR_image HS, xI_imageKept HS, xF_imageKept HS, xR_draft HS, xR_memory HS, xR_lawText HS, xR_worlds HS, xI_worldsFresh HS, xF_worldsFresh HS, xR_otherWorlds HS, xR_seating HS, xR_pairing HS, xI_toldSo HS, xF_toldSo HS, xI_toldNot HS, xF_toldNot HS, xO HS, wi_some, or_0, or_1, bo_or, ite_boP, true_and, and_true, kN_v, kN_n, kT_v, kT_n, kT_e, Nat.add_zero, Nat.zero_add]
  refine c_key hv h ?_
  intro D1 h1 f1
  simp only [wi_some, or_0, or_1, bo_or, ite_boP, true_and, and_true, kN_v, kN_n, kT_v, kT_n, kT_e, Nat.add_zero, Nat.zero_add, b395_1960 hw, a1, a2, a3, a4, a5, mI_thrown HS, mF_thrown HS, mR_row HS, mR_image HS, mR_earlier HS, mR_trial HS, mR_acts HS, mI_hasImage HS, mF_hasImage HS, mI_remembered HS, mF_remembered HS, mR_tape HS, mI_taped HS, mF_taped HS, mI_point HS, mF_point HS, mI_end HS, mF_end HS, mI_begin HS, mF_begin HS, mI_deep HS, mF_deep HS, mI_faultAt HS, mF_faultAt HS, mR_five HS, mI_codes HS, mF_codes HS, mR_value HS, mI_so HS, mF_so HS, mR_lines HS, mR_chosen HS, mR_best HS, mR_members HS, mR_paired HS, mO HS, mA_287 HS, mW_287 HS, mA_288 HS, mW_288 HS, mA_289 HS, mW_289 HS, mA_290 HS, mW_290 HS, mA_291 HS, mW_291 HS, mA_292 HS, mW_292 HS, mA_293 HS, mW_293 HS, mA_294 HS, mW_294 HS, mA_295 HS, mW_295 HS, mA_296 HS, mW_296 HS, mA_297 HS, mW_297 HS, mA_298 HS, mW_298 HS, mA_299 HS, mW_299 HS]
  refine m_key hw HS hv (hr.fc f1) ?_
  intro D2 m2 t2
  simp only [wi_some, or_0, or_1, bo_or, ite_boP, true_and, and_true, kN_v, kN_n, kT_v, kT_n, kT_e, Nat.add_zero, Nat.zero_add, b395_1964 hw, if_true]
  exact go _ sh D2 c s _ _ hv (h1.fm m2.1) ((hr.fc f1).ms hv m2) (by omega) (by omega) (by omega)
theorem j_loose (hv : GV G) (h : GC sh D G) (hr : GR D G) (hi : i + 6 ≤ nx) (hn : nx ≤ 3072) (go : GoOn nx xs (d + 40) i Q sh c s) : Wx (tP nx xs) (d + 40) 395 1969 [some (.retAddr 0), some (.ref 0), some (.ref 286), some (.ref 300), (some (.int (Int32.ofNat i))), l5, l6] [] (mk sh D) c s Q := by
  have hw := h.1.2
  have HS := h.1.1
  have a1 := jI (k := 1) hi hn (by decide)
  have a2 := jI (k := 2) hi hn (by decide)
  have a3 := jI (k := 3) hi hn (by decide)
  have a4 := jI (k := 4) hi hn (by decide)
  have a5 := jI (k := 5) hi hn (by decide)
  have n10 : ¬ (Int32.ofNat 1 : Int32) = Int32.ofNat 0 := by decide
  have n20 : ¬ (Int32.ofNat 2 : Int32) = Int32.ofNat 0 := by decide
  have t0 : (Int32.ofNat 0 : Int32).toNatClampNeg = 0 := by decide
  have w0 := oW_300 HS (show 0 < 1 by decide)
  simp only [b395_1969 hw, a1, a2, a3, a4, a5, xR_tape HS, xI_wrongAt HS, xF_wrongAt HS, xR_state HS, xR_image HS, xI_imageKept HS, xF_imageKept HS, xR_draft HS, xR_memory HS, xR_lawText HS, xR_worlds HS, xI_worldsFresh HS, xF_worldsFresh HS, xR_otherWorlds HS, xR_seating HS, xR_pairing HS, xI_toldSo HS, xF_toldSo HS, xI_toldNot HS, xF_toldNot HS, xO HS, wi_some, or_0, or_1, bo_or, ite_boP, true_and, and_true, kN_v, kN_n, kT_v, kT_n, kT_e, Nat.add_zero, Nat.zero_add]
  refine c_loose hv h ?_
  simp only [wi_some, or_0, or_1, bo_or, ite_boP, true_and, and_true, kN_v, kN_n, kT_v, kT_n, kT_e, Nat.add_zero, Nat.zero_add, b395_1973 hw, a1, a2, a3, a4, a5, mI_thrown HS, mF_thrown HS, mR_row HS, mR_image HS, mR_earlier HS, mR_trial HS, mR_acts HS, mI_hasImage HS, mF_hasImage HS, mI_remembered HS, mF_remembered HS, mR_tape HS, mI_taped HS, mF_taped HS, mI_point HS, mF_point HS, mI_end HS, mF_end HS, mI_begin HS, mF_begin HS, mI_deep HS, mF_deep HS, mI_faultAt HS, mF_faultAt HS, mR_five HS, mI_codes HS, mF_codes HS, mR_value HS, mI_so HS, mF_so HS, mR_lines HS, mR_chosen HS, mR_best HS, mR_members HS, mR_paired HS, mO HS, mA_287 HS, mW_287 HS, mA_288 HS, mW_288 HS, mA_289 HS, mW_289 HS, mA_290 HS, mW_290 HS, mA_291 HS, mW_291 HS, mA_292 HS, mW_292 HS, mA_293 HS, mW_293 HS, mA_294 HS, mW_294 HS, mA_295 HS, mW_295 HS, mA_296 HS, mW_296 HS, mA_297 HS, mW_297 HS, mA_298 HS, mW_298 HS, mA_299 HS, mW_299 HS]
  refine m_loose hw HS hv (hr.fc Fc.rf) ?_
  intro D2 m2 t2
  simp only [wi_some, or_0, or_1, bo_or, ite_boP, true_and, and_true, kN_v, kN_n, kT_v, kT_n, kT_e, Nat.add_zero, Nat.zero_add, b395_1977 hw, if_true]
  exact go _ sh D2 c s _ _ hv (h.fm m2.1) ((hr.fc Fc.rf).ms hv m2) (by omega) (by omega) (by omega)
theorem j_clash (hv : GV G) (h : GC sh D G) (hr : GR D G) (hi : i + 6 ≤ nx) (hn : nx ≤ 3072) (go : GoOn nx xs (d + 40) i Q sh c s) : Wx (tP nx xs) (d + 40) 395 2113 [some (.retAddr 0), some (.ref 0), some (.ref 286), some (.ref 300), (some (.int (Int32.ofNat i))), l5, l6] [] (mk sh D) c s Q := by
  have hw := h.1.2
  have HS := h.1.1
  have a1 := jI (k := 1) hi hn (by decide)
  have a2 := jI (k := 2) hi hn (by decide)
  have a3 := jI (k := 3) hi hn (by decide)
  have a4 := jI (k := 4) hi hn (by decide)
  have a5 := jI (k := 5) hi hn (by decide)
  have n10 : ¬ (Int32.ofNat 1 : Int32) = Int32.ofNat 0 := by decide
  have n20 : ¬ (Int32.ofNat 2 : Int32) = Int32.ofNat 0 := by decide
  have t0 : (Int32.ofNat 0 : Int32).toNatClampNeg = 0 := by decide
  have w0 := oW_300 HS (show 0 < 1 by decide)
  simp only [b395_2113 hw, a1, a2, a3, a4, a5, xR_tape HS, xI_wrongAt HS, xF_wrongAt HS, xR_state HS, xR_image HS, xI_imageKept HS, xF_imageKept HS, xR_draft HS, xR_memory HS, xR_lawText HS, xR_worlds HS, xI_worldsFresh HS, xF_worldsFresh HS, xR_otherWorlds HS, xR_seating HS, xR_pairing HS, xI_toldSo HS, xF_toldSo HS, xI_toldNot HS, xF_toldNot HS, xO HS, wi_some, or_0, or_1, bo_or, ite_boP, true_and, and_true, kN_v, kN_n, kT_v, kT_n, kT_e, Nat.add_zero, Nat.zero_add]
  refine c_clash hv h ?_
  intro D1 h1 f1
  simp only [wi_some, or_0, or_1, bo_or, ite_boP, true_and, and_true, kN_v, kN_n, kT_v, kT_n, kT_e, Nat.add_zero, Nat.zero_add, b395_2117 hw, a1, a2, a3, a4, a5, mI_thrown HS, mF_thrown HS, mR_row HS, mR_image HS, mR_earlier HS, mR_trial HS, mR_acts HS, mI_hasImage HS, mF_hasImage HS, mI_remembered HS, mF_remembered HS, mR_tape HS, mI_taped HS, mF_taped HS, mI_point HS, mF_point HS, mI_end HS, mF_end HS, mI_begin HS, mF_begin HS, mI_deep HS, mF_deep HS, mI_faultAt HS, mF_faultAt HS, mR_five HS, mI_codes HS, mF_codes HS, mR_value HS, mI_so HS, mF_so HS, mR_lines HS, mR_chosen HS, mR_best HS, mR_members HS, mR_paired HS, mO HS, mA_287 HS, mW_287 HS, mA_288 HS, mW_288 HS, mA_289 HS, mW_289 HS, mA_290 HS, mW_290 HS, mA_291 HS, mW_291 HS, mA_292 HS, mW_292 HS, mA_293 HS, mW_293 HS, mA_294 HS, mW_294 HS, mA_295 HS, mW_295 HS, mA_296 HS, mW_296 HS, mA_297 HS, mW_297 HS, mA_298 HS, mW_298 HS, mA_299 HS, mW_299 HS]
  refine m_clash hw HS hv (hr.fc f1) ?_
  intro D2 m2 t2
  simp only [wi_some, or_0, or_1, bo_or, ite_boP, true_and, and_true, kN_v, kN_n, kT_v, kT_n, kT_e, Nat.add_zero, Nat.zero_add, b395_2121 hw, if_true]
  exact go _ sh D2 c s _ _ hv (h1.fm m2.1) ((hr.fc f1).ms hv m2) (by omega) (by omega) (by omega)
theorem j_dearest (hv : GV G) (h : GC sh D G) (hr : GR D G) (hi : i + 6 ≤ nx) (hn : nx ≤ 3072) (go : GoOn nx xs (d + 40) i Q sh c s) : Wx (tP nx xs) (d + 40) 395 2210 [some (.retAddr 0), some (.ref 0), some (.ref 286), some (.ref 300), (some (.int (Int32.ofNat i))), l5, l6] [] (mk sh D) c s Q := by
  have hw := h.1.2
  have HS := h.1.1
  have a1 := jI (k := 1) hi hn (by decide)
  have a2 := jI (k := 2) hi hn (by decide)
  have a3 := jI (k := 3) hi hn (by decide)
  have a4 := jI (k := 4) hi hn (by decide)
  have a5 := jI (k := 5) hi hn (by decide)
  have n10 : ¬ (Int32.ofNat 1 : Int32) = Int32.ofNat 0 := by decide
  have n20 : ¬ (Int32.ofNat 2 : Int32) = Int32.ofNat 0 := by decide
  have t0 : (Int32.ofNat 0 : Int32).toNatClampNeg = 0 := by decide
  have w0 := oW_300 HS (show 0 < 1 by decide)
  simp only [b395_2210 hw, a1, a2, a3, a4, a5, xR_tape HS, xI_wrongAt HS, xF_wrongAt HS, xR_state HS, xR_image HS, xI_imageKept HS, xF_imageKept HS, xR_draft HS, xR_memory HS, xR_lawText HS, xR_worlds HS, xI_worldsFresh HS, xF_worldsFresh HS, xR_otherWorlds HS, xR_seating HS, xR_pairing HS, xI_toldSo HS, xF_toldSo HS, xI_toldNot HS, xF_toldNot HS, xO HS, wi_some, or_0, or_1, bo_or, ite_boP, true_and, and_true, kN_v, kN_n, kT_v, kT_n, kT_e, Nat.add_zero, Nat.zero_add]
  refine c_dearest hv h ?_
  simp only [wi_some, or_0, or_1, bo_or, ite_boP, true_and, and_true, kN_v, kN_n, kT_v, kT_n, kT_e, Nat.add_zero, Nat.zero_add, b395_2214 hw, a1, a2, a3, a4, a5, mI_thrown HS, mF_thrown HS, mR_row HS, mR_image HS, mR_earlier HS, mR_trial HS, mR_acts HS, mI_hasImage HS, mF_hasImage HS, mI_remembered HS, mF_remembered HS, mR_tape HS, mI_taped HS, mF_taped HS, mI_point HS, mF_point HS, mI_end HS, mF_end HS, mI_begin HS, mF_begin HS, mI_deep HS, mF_deep HS, mI_faultAt HS, mF_faultAt HS, mR_five HS, mI_codes HS, mF_codes HS, mR_value HS, mI_so HS, mF_so HS, mR_lines HS, mR_chosen HS, mR_best HS, mR_members HS, mR_paired HS, mO HS, mA_287 HS, mW_287 HS, mA_288 HS, mW_288 HS, mA_289 HS, mW_289 HS, mA_290 HS, mW_290 HS, mA_291 HS, mW_291 HS, mA_292 HS, mW_292 HS, mA_293 HS, mW_293 HS, mA_294 HS, mW_294 HS, mA_295 HS, mW_295 HS, mA_296 HS, mW_296 HS, mA_297 HS, mW_297 HS, mA_298 HS, mW_298 HS, mA_299 HS, mW_299 HS]
  refine m_dearest hw HS hv (hr.fc Fc.rf) ?_
  intro D2 m2 t2
  simp only [wi_some, or_0, or_1, bo_or, ite_boP, true_and, and_true, kN_v, kN_n, kT_v, kT_n, kT_e, Nat.add_zero, Nat.zero_add, b395_2218 hw, if_true]
  exact go _ sh D2 c s _ _ hv (h.fm m2.1) ((hr.fc Fc.rf).ms hv m2) (by omega) (by omega) (by omega)
theorem j_asks (hv : GV G) (h : GC sh D G) (hr : GR D G) (hi : i + 6 ≤ nx) (hn : nx ≤ 3072) (go : GoOn nx xs (d + 40) i Q sh c s) : Wx (tP nx xs) (d + 40) 395 2279 [some (.retAddr 0), some (.ref 0), some (.ref 286), some (.ref 300), (some (.int (Int32.ofNat i))), l5, l6] [] (mk sh D) c s Q := by
  have hw := h.1.2
  have HS := h.1.1
  have a1 := jI (k := 1) hi hn (by decide)
  have a2 := jI (k := 2) hi hn (by decide)
  have a3 := jI (k := 3) hi hn (by decide)
  have a4 := jI (k := 4) hi hn (by decide)
  have a5 := jI (k := 5) hi hn (by decide)
  have n10 : ¬ (Int32.ofNat 1 : Int32) = Int32.ofNat 0 := by decide
  have n20 : ¬ (Int32.ofNat 2 : Int32) = Int32.ofNat 0 := by decide
  have t0 : (Int32.ofNat 0 : Int32).toNatClampNeg = 0 := by decide
  have w0 := oW_300 HS (show 0 < 1 by decide)
  by_cases hb : xs (Int32.toNatClampNeg (Int32.ofNat i + Int32.ofNat 2)) = Int32.ofNat 0
  · simp only [b395_2279 hw, b395_2300 hw, a1, a2, a3, a4, a5, hb, if_true, xR_tape HS, xI_wrongAt HS, xF_wrongAt HS, xR_state HS, xR_image HS, xI_imageKept HS, xF_imageKept HS, xR_draft HS, xR_memory HS, xR_lawText HS, xR_worlds HS, xI_worldsFresh HS, xF_worldsFresh HS, xR_otherWorlds HS, xR_seating HS, xR_pairing HS, xI_toldSo HS, xF_toldSo HS, xI_toldNot HS, xF_toldNot HS, xO HS, wi_some, or_0, or_1, bo_or, ite_boP, true_and, and_true, kN_v, kN_n, kT_v, kT_n, kT_e, Nat.add_zero, Nat.zero_add]
    refine c_asks (b := false) hw ?_
    simp only [wi_some, or_0, or_1, bo_or, ite_boP, true_and, and_true, kN_v, kN_n, kT_v, kT_n, kT_e, Nat.add_zero, Nat.zero_add, b395_2303 hw, b395_2324 hw, a1, a2, a3, a4, a5, hb, if_true, mI_thrown HS, mF_thrown HS, mR_row HS, mR_image HS, mR_earlier HS, mR_trial HS, mR_acts HS, mI_hasImage HS, mF_hasImage HS, mI_remembered HS, mF_remembered HS, mR_tape HS, mI_taped HS, mF_taped HS, mI_point HS, mF_point HS, mI_end HS, mF_end HS, mI_begin HS, mF_begin HS, mI_deep HS, mF_deep HS, mI_faultAt HS, mF_faultAt HS, mR_five HS, mI_codes HS, mF_codes HS, mR_value HS, mI_so HS, mF_so HS, mR_lines HS, mR_chosen HS, mR_best HS, mR_members HS, mR_paired HS, mO HS, mA_287 HS, mW_287 HS, mA_288 HS, mW_288 HS, mA_289 HS, mW_289 HS, mA_290 HS, mW_290 HS, mA_291 HS, mW_291 HS, mA_292 HS, mW_292 HS, mA_293 HS, mW_293 HS, mA_294 HS, mW_294 HS, mA_295 HS, mW_295 HS, mA_296 HS, mW_296 HS, mA_297 HS, mW_297 HS, mA_298 HS, mW_298 HS, mA_299 HS, mW_299 HS]
    refine m_asks (b := false) hw HS  ?_
    intro D2 m2 t2
    simp only [wi_some, or_0, or_1, bo_or, ite_boP, true_and, and_true, kN_v, kN_n, kT_v, kT_n, kT_e, Nat.add_zero, Nat.zero_add, b395_2327 hw, if_true]
    exact go _ sh D2 c s _ _ hv (h.fm m2.1) ((hr.fc Fc.rf).ms hv m2) (by omega) (by omega) (by omega)
  · simp only [b395_2279 hw, b395_2300 hw, a1, a2, a3, a4, a5, hb, if_false, xR_tape HS, xI_wrongAt HS, xF_wrongAt HS, xR_state HS, xR_image HS, xI_imageKept HS, xF_imageKept HS, xR_draft HS, xR_memory HS, xR_lawText HS, xR_worlds HS, xI_worldsFresh HS, xF_worldsFresh HS, xR_otherWorlds HS, xR_seating HS, xR_pairing HS, xI_toldSo HS, xF_toldSo HS, xI_toldNot HS, xF_toldNot HS, xO HS, wi_some, or_0, or_1, bo_or, ite_boP, true_and, and_true, kN_v, kN_n, kT_v, kT_n, kT_e, Nat.add_zero, Nat.zero_add]
    refine c_asks (b := true) hw ?_
    simp only [wi_some, or_0, or_1, bo_or, ite_boP, true_and, and_true, kN_v, kN_n, kT_v, kT_n, kT_e, Nat.add_zero, Nat.zero_add, b395_2303 hw, b395_2324 hw, a1, a2, a3, a4, a5, hb, if_false, mI_thrown HS, mF_thrown HS, mR_row HS, mR_image HS, mR_earlier HS, mR_trial HS, mR_acts HS, mI_hasImage HS, mF_hasImage HS, mI_remembered HS, mF_remembered HS, mR_tape HS, mI_taped HS, mF_taped HS, mI_point HS, mF_point HS, mI_end HS, mF_end HS, mI_begin HS, mF_begin HS, mI_deep HS, mF_deep HS, mI_faultAt HS, mF_faultAt HS, mR_five HS, mI_codes HS, mF_codes HS, mR_value HS, mI_so HS, mF_so HS, mR_lines HS, mR_chosen HS, mR_best HS, mR_members HS, mR_paired HS, mO HS, mA_287 HS, mW_287 HS, mA_288 HS, mW_288 HS, mA_289 HS, mW_289 HS, mA_290 HS, mW_290 HS, mA_291 HS, mW_291 HS, mA_292 HS, mW_292 HS, mA_293 HS, mW_293 HS, mA_294 HS, mW_294 HS, mA_295 HS, mW_295 HS, mA_296 HS, mW_296 HS, mA_297 HS, mW_297 HS, mA_298 HS, mW_298 HS, mA_299 HS, mW_299 HS]
    refine m_asks (b := true) hw HS  ?_
    intro D2 m2 t2
    simp only [wi_some, or_0, or_1, bo_or, ite_boP, true_and, and_true, kN_v, kN_n, kT_v, kT_n, kT_e, Nat.add_zero, Nat.zero_add, b395_2327 hw, if_true]
    exact go _ sh D2 c s _ _ hv (h.fm m2.1) ((hr.fc Fc.rf).ms hv m2) (by omega) (by omega) (by omega)
theorem j_brave (hv : GV G) (h : GC sh D G) (hr : GR D G) (hi : i + 6 ≤ nx) (hn : nx ≤ 3072) (go : GoOn nx xs (d + 40) i Q sh c s) : Wx (tP nx xs) (d + 40) 395 2596 [some (.retAddr 0), some (.ref 0), some (.ref 286), some (.ref 300), (some (.int (Int32.ofNat i))), l5, l6] [] (mk sh D) c s Q := by
  have hw := h.1.2
  have HS := h.1.1
  have a1 := jI (k := 1) hi hn (by decide)
  have a2 := jI (k := 2) hi hn (by decide)
  have a3 := jI (k := 3) hi hn (by decide)
  have a4 := jI (k := 4) hi hn (by decide)
  have a5 := jI (k := 5) hi hn (by decide)
  have n10 : ¬ (Int32.ofNat 1 : Int32) = Int32.ofNat 0 := by decide
  have n20 : ¬ (Int32.ofNat 2 : Int32) = Int32.ofNat 0 := by decide
  have t0 : (Int32.ofNat 0 : Int32).toNatClampNeg = 0 := by decide
  have w0 := oW_300 HS (show 0 < 1 by decide)
  simp only [b395_2596 hw, a1, a2, a3, a4, a5, xR_tape HS, xI_wrongAt HS, xF_wrongAt HS, xR_state HS, xR_image HS, xI_imageKept HS, xF_imageKept HS, xR_draft HS, xR_memory HS, xR_lawText HS, xR_worlds HS, xI_worldsFresh HS, xF_worldsFresh HS, xR_otherWorlds HS, xR_seating HS, xR_pairing HS, xI_toldSo HS, xF_toldSo HS, xI_toldNot HS, xF_toldNot HS, xO HS, wi_some, or_0, or_1, bo_or, ite_boP, true_and, and_true, kN_v, kN_n, kT_v, kT_n, kT_e, Nat.add_zero, Nat.zero_add]
  refine c_brave hv h ?_
  simp only [wi_some, or_0, or_1, bo_or, ite_boP, true_and, and_true, kN_v, kN_n, kT_v, kT_n, kT_e, Nat.add_zero, Nat.zero_add, b395_2600 hw, a1, a2, a3, a4, a5, mI_thrown HS, mF_thrown HS, mR_row HS, mR_image HS, mR_earlier HS, mR_trial HS, mR_acts HS, mI_hasImage HS, mF_hasImage HS, mI_remembered HS, mF_remembered HS, mR_tape HS, mI_taped HS, mF_taped HS, mI_point HS, mF_point HS, mI_end HS, mF_end HS, mI_begin HS, mF_begin HS, mI_deep HS, mF_deep HS, mI_faultAt HS, mF_faultAt HS, mR_five HS, mI_codes HS, mF_codes HS, mR_value HS, mI_so HS, mF_so HS, mR_lines HS, mR_chosen HS, mR_best HS, mR_members HS, mR_paired HS, mO HS, mA_287 HS, mW_287 HS, mA_288 HS, mW_288 HS, mA_289 HS, mW_289 HS, mA_290 HS, mW_290 HS, mA_291 HS, mW_291 HS, mA_292 HS, mW_292 HS, mA_293 HS, mW_293 HS, mA_294 HS, mW_294 HS, mA_295 HS, mW_295 HS, mA_296 HS, mW_296 HS, mA_297 HS, mW_297 HS, mA_298 HS, mW_298 HS, mA_299 HS, mW_299 HS]
  refine m_brave hw HS hv (hr.fc Fc.rf) ?_
  intro D2 m2 t2
  simp only [wi_some, or_0, or_1, bo_or, ite_boP, true_and, and_true, kN_v, kN_n, kT_v, kT_n, kT_e, Nat.add_zero, Nat.zero_add, b395_2604 hw, if_true]
  exact go _ sh D2 c s _ _ hv (h.fm m2.1) ((hr.fc Fc.rf).ms hv m2) (by omega) (by omega) (by omega)
theorem j_gone (hv : GV G) (h : GC sh D G) (hr : GR D G) (hi : i + 6 ≤ nx) (hn : nx ≤ 3072) (go : GoOn nx xs (d + 40) i Q sh c s) : Wx (tP nx xs) (d + 40) 395 2609 [some (.retAddr 0), some (.ref 0), some (.ref 286), some (.ref 300), (some (.int (Int32.ofNat i))), l5, l6] [] (mk sh D) c s Q := by
  have hw := h.1.2
  have HS := h.1.1
  have a1 := jI (k := 1) hi hn (by decide)
  have a2 := jI (k := 2) hi hn (by decide)
  have a3 := jI (k := 3) hi hn (by decide)
  have a4 := jI (k := 4) hi hn (by decide)
  have a5 := jI (k := 5) hi hn (by decide)
  have n10 : ¬ (Int32.ofNat 1 : Int32) = Int32.ofNat 0 := by decide
  have n20 : ¬ (Int32.ofNat 2 : Int32) = Int32.ofNat 0 := by decide
  have t0 : (Int32.ofNat 0 : Int32).toNatClampNeg = 0 := by decide
  have w0 := oW_300 HS (show 0 < 1 by decide)
  simp only [b395_2609 hw, a1, a2, a3, a4, a5, xR_tape HS, xI_wrongAt HS, xF_wrongAt HS, xR_state HS, xR_image HS, xI_imageKept HS, xF_imageKept HS, xR_draft HS, xR_memory HS, xR_lawText HS, xR_worlds HS, xI_worldsFresh HS, xF_worldsFresh HS, xR_otherWorlds HS, xR_seating HS, xR_pairing HS, xI_toldSo HS, xF_toldSo HS, xI_toldNot HS, xF_toldNot HS, xO HS, wi_some, or_0, or_1, bo_or, ite_boP, true_and, and_true, kN_v, kN_n, kT_v, kT_n, kT_e, Nat.add_zero, Nat.zero_add]
  refine c_gone hv h ?_
  simp only [wi_some, or_0, or_1, bo_or, ite_boP, true_and, and_true, kN_v, kN_n, kT_v, kT_n, kT_e, Nat.add_zero, Nat.zero_add, b395_2613 hw, a1, a2, a3, a4, a5, mI_thrown HS, mF_thrown HS, mR_row HS, mR_image HS, mR_earlier HS, mR_trial HS, mR_acts HS, mI_hasImage HS, mF_hasImage HS, mI_remembered HS, mF_remembered HS, mR_tape HS, mI_taped HS, mF_taped HS, mI_point HS, mF_point HS, mI_end HS, mF_end HS, mI_begin HS, mF_begin HS, mI_deep HS, mF_deep HS, mI_faultAt HS, mF_faultAt HS, mR_five HS, mI_codes HS, mF_codes HS, mR_value HS, mI_so HS, mF_so HS, mR_lines HS, mR_chosen HS, mR_best HS, mR_members HS, mR_paired HS, mO HS, mA_287 HS, mW_287 HS, mA_288 HS, mW_288 HS, mA_289 HS, mW_289 HS, mA_290 HS, mW_290 HS, mA_291 HS, mW_291 HS, mA_292 HS, mW_292 HS, mA_293 HS, mW_293 HS, mA_294 HS, mW_294 HS, mA_295 HS, mW_295 HS, mA_296 HS, mW_296 HS, mA_297 HS, mW_297 HS, mA_298 HS, mW_298 HS, mA_299 HS, mW_299 HS]
  refine m_gone hw HS hv (hr.fc Fc.rf) ?_
  intro D2 m2 t2
  simp only [wi_some, or_0, or_1, bo_or, ite_boP, true_and, and_true, kN_v, kN_n, kT_v, kT_n, kT_e, Nat.add_zero, Nat.zero_add, b395_2617 hw, if_true]
  exact go _ sh D2 c s _ _ hv (h.fm m2.1) ((hr.fc Fc.rf).ms hv m2) (by omega) (by omega) (by omega)
theorem j_unborn (hv : GV G) (h : GC sh D G) (hr : GR D G) (hi : i + 6 ≤ nx) (hn : nx ≤ 3072) (go : GoOn nx xs (d + 40) i Q sh c s) : Wx (tP nx xs) (d + 40) 395 2622 [some (.retAddr 0), some (.ref 0), some (.ref 286), some (.ref 300), (some (.int (Int32.ofNat i))), l5, l6] [] (mk sh D) c s Q := by
  have hw := h.1.2
  have HS := h.1.1
  have a1 := jI (k := 1) hi hn (by decide)
  have a2 := jI (k := 2) hi hn (by decide)
  have a3 := jI (k := 3) hi hn (by decide)
  have a4 := jI (k := 4) hi hn (by decide)
  have a5 := jI (k := 5) hi hn (by decide)
  have n10 : ¬ (Int32.ofNat 1 : Int32) = Int32.ofNat 0 := by decide
  have n20 : ¬ (Int32.ofNat 2 : Int32) = Int32.ofNat 0 := by decide
  have t0 : (Int32.ofNat 0 : Int32).toNatClampNeg = 0 := by decide
  have w0 := oW_300 HS (show 0 < 1 by decide)
  simp only [b395_2622 hw, a1, a2, a3, a4, a5, xR_tape HS, xI_wrongAt HS, xF_wrongAt HS, xR_state HS, xR_image HS, xI_imageKept HS, xF_imageKept HS, xR_draft HS, xR_memory HS, xR_lawText HS, xR_worlds HS, xI_worldsFresh HS, xF_worldsFresh HS, xR_otherWorlds HS, xR_seating HS, xR_pairing HS, xI_toldSo HS, xF_toldSo HS, xI_toldNot HS, xF_toldNot HS, xO HS, wi_some, or_0, or_1, bo_or, ite_boP, true_and, and_true, kN_v, kN_n, kT_v, kT_n, kT_e, Nat.add_zero, Nat.zero_add]
  refine c_unborn hv h ?_
  intro D1 h1 f1
  simp only [wi_some, or_0, or_1, bo_or, ite_boP, true_and, and_true, kN_v, kN_n, kT_v, kT_n, kT_e, Nat.add_zero, Nat.zero_add, b395_2626 hw, a1, a2, a3, a4, a5, mI_thrown HS, mF_thrown HS, mR_row HS, mR_image HS, mR_earlier HS, mR_trial HS, mR_acts HS, mI_hasImage HS, mF_hasImage HS, mI_remembered HS, mF_remembered HS, mR_tape HS, mI_taped HS, mF_taped HS, mI_point HS, mF_point HS, mI_end HS, mF_end HS, mI_begin HS, mF_begin HS, mI_deep HS, mF_deep HS, mI_faultAt HS, mF_faultAt HS, mR_five HS, mI_codes HS, mF_codes HS, mR_value HS, mI_so HS, mF_so HS, mR_lines HS, mR_chosen HS, mR_best HS, mR_members HS, mR_paired HS, mO HS, mA_287 HS, mW_287 HS, mA_288 HS, mW_288 HS, mA_289 HS, mW_289 HS, mA_290 HS, mW_290 HS, mA_291 HS, mW_291 HS, mA_292 HS, mW_292 HS, mA_293 HS, mW_293 HS, mA_294 HS, mW_294 HS, mA_295 HS, mW_295 HS, mA_296 HS, mW_296 HS, mA_297 HS, mW_297 HS, mA_298 HS, mW_298 HS, mA_299 HS, mW_299 HS]
  refine m_unborn hw HS hv (hr.fc f1) ?_
  intro D2 m2 t2
  simp only [wi_some, or_0, or_1, bo_or, ite_boP, true_and, and_true, kN_v, kN_n, kT_v, kT_n, kT_e, Nat.add_zero, Nat.zero_add, b395_2630 hw, if_true]
  exact go _ sh D2 c s _ _ hv (h1.fm m2.1) ((hr.fc f1).ms hv m2) (by omega) (by omega) (by omega)
theorem j_twins (hv : GV G) (h : GC sh D G) (hr : GR D G) (hi : i + 6 ≤ nx) (hn : nx ≤ 3072) (go : GoOn nx xs (d + 40) i Q sh c s) : Wx (tP nx xs) (d + 40) 395 2635 [some (.retAddr 0), some (.ref 0), some (.ref 286), some (.ref 300), (some (.int (Int32.ofNat i))), l5, l6] [] (mk sh D) c s Q := by
  have hw := h.1.2
  have HS := h.1.1
  have a1 := jI (k := 1) hi hn (by decide)
  have a2 := jI (k := 2) hi hn (by decide)
  have a3 := jI (k := 3) hi hn (by decide)
  have a4 := jI (k := 4) hi hn (by decide)
  have a5 := jI (k := 5) hi hn (by decide)
  have n10 : ¬ (Int32.ofNat 1 : Int32) = Int32.ofNat 0 := by decide
  have n20 : ¬ (Int32.ofNat 2 : Int32) = Int32.ofNat 0 := by decide
  have t0 : (Int32.ofNat 0 : Int32).toNatClampNeg = 0 := by decide
  have w0 := oW_300 HS (show 0 < 1 by decide)
  simp only [b395_2635 hw, a1, a2, a3, a4, a5, xR_tape HS, xI_wrongAt HS, xF_wrongAt HS, xR_state HS, xR_image HS, xI_imageKept HS, xF_imageKept HS, xR_draft HS, xR_memory HS, xR_lawText HS, xR_worlds HS, xI_worldsFresh HS, xF_worldsFresh HS, xR_otherWorlds HS, xR_seating HS, xR_pairing HS, xI_toldSo HS, xF_toldSo HS, xI_toldNot HS, xF_toldNot HS, xO HS, wi_some, or_0, or_1, bo_or, ite_boP, true_and, and_true, kN_v, kN_n, kT_v, kT_n, kT_e, Nat.add_zero, Nat.zero_add]
  refine c_twins hv h ?_
  simp only [wi_some, or_0, or_1, bo_or, ite_boP, true_and, and_true, kN_v, kN_n, kT_v, kT_n, kT_e, Nat.add_zero, Nat.zero_add, b395_2639 hw, a1, a2, a3, a4, a5, mI_thrown HS, mF_thrown HS, mR_row HS, mR_image HS, mR_earlier HS, mR_trial HS, mR_acts HS, mI_hasImage HS, mF_hasImage HS, mI_remembered HS, mF_remembered HS, mR_tape HS, mI_taped HS, mF_taped HS, mI_point HS, mF_point HS, mI_end HS, mF_end HS, mI_begin HS, mF_begin HS, mI_deep HS, mF_deep HS, mI_faultAt HS, mF_faultAt HS, mR_five HS, mI_codes HS, mF_codes HS, mR_value HS, mI_so HS, mF_so HS, mR_lines HS, mR_chosen HS, mR_best HS, mR_members HS, mR_paired HS, mO HS, mA_287 HS, mW_287 HS, mA_288 HS, mW_288 HS, mA_289 HS, mW_289 HS, mA_290 HS, mW_290 HS, mA_291 HS, mW_291 HS, mA_292 HS, mW_292 HS, mA_293 HS, mW_293 HS, mA_294 HS, mW_294 HS, mA_295 HS, mW_295 HS, mA_296 HS, mW_296 HS, mA_297 HS, mW_297 HS, mA_298 HS, mW_298 HS, mA_299 HS, mW_299 HS]
  refine m_twins hw HS hv (hr.fc Fc.rf) ?_
  intro D2 m2 t2
  simp only [wi_some, or_0, or_1, bo_or, ite_boP, true_and, and_true, kN_v, kN_n, kT_v, kT_n, kT_e, Nat.add_zero, Nat.zero_add, b395_2643 hw, if_true]
  exact go _ sh D2 c s _ _ hv (h.fm m2.1) ((hr.fc Fc.rf).ms hv m2) (by omega) (by omega) (by omega)
theorem j_worth (hv : GV G) (h : GC sh D G) (hr : GR D G) (hi : i + 6 ≤ nx) (hn : nx ≤ 3072) (go : GoOn nx xs (d + 40) i Q sh c s) : Wx (tP nx xs) (d + 40) 395 2648 [some (.retAddr 0), some (.ref 0), some (.ref 286), some (.ref 300), (some (.int (Int32.ofNat i))), l5, l6] [] (mk sh D) c s Q := by
  have hw := h.1.2
  have HS := h.1.1
  have a1 := jI (k := 1) hi hn (by decide)
  have a2 := jI (k := 2) hi hn (by decide)
  have a3 := jI (k := 3) hi hn (by decide)
  have a4 := jI (k := 4) hi hn (by decide)
  have a5 := jI (k := 5) hi hn (by decide)
  have n10 : ¬ (Int32.ofNat 1 : Int32) = Int32.ofNat 0 := by decide
  have n20 : ¬ (Int32.ofNat 2 : Int32) = Int32.ofNat 0 := by decide
  have t0 : (Int32.ofNat 0 : Int32).toNatClampNeg = 0 := by decide
  have w0 := oW_300 HS (show 0 < 1 by decide)
  simp only [b395_2648 hw, a1, a2, a3, a4, a5, xR_tape HS, xI_wrongAt HS, xF_wrongAt HS, xR_state HS, xR_image HS, xI_imageKept HS, xF_imageKept HS, xR_draft HS, xR_memory HS, xR_lawText HS, xR_worlds HS, xI_worldsFresh HS, xF_worldsFresh HS, xR_otherWorlds HS, xR_seating HS, xR_pairing HS, xI_toldSo HS, xF_toldSo HS, xI_toldNot HS, xF_toldNot HS, xO HS, wi_some, or_0, or_1, bo_or, ite_boP, true_and, and_true, kN_v, kN_n, kT_v, kT_n, kT_e, Nat.add_zero, Nat.zero_add]
  refine c_worth hv h ?_
  intro D1 h1 f1
  simp only [wi_some, or_0, or_1, bo_or, ite_boP, true_and, and_true, kN_v, kN_n, kT_v, kT_n, kT_e, Nat.add_zero, Nat.zero_add, b395_2652 hw, a1, a2, a3, a4, a5, mI_thrown HS, mF_thrown HS, mR_row HS, mR_image HS, mR_earlier HS, mR_trial HS, mR_acts HS, mI_hasImage HS, mF_hasImage HS, mI_remembered HS, mF_remembered HS, mR_tape HS, mI_taped HS, mF_taped HS, mI_point HS, mF_point HS, mI_end HS, mF_end HS, mI_begin HS, mF_begin HS, mI_deep HS, mF_deep HS, mI_faultAt HS, mF_faultAt HS, mR_five HS, mI_codes HS, mF_codes HS, mR_value HS, mI_so HS, mF_so HS, mR_lines HS, mR_chosen HS, mR_best HS, mR_members HS, mR_paired HS, mO HS, mA_287 HS, mW_287 HS, mA_288 HS, mW_288 HS, mA_289 HS, mW_289 HS, mA_290 HS, mW_290 HS, mA_291 HS, mW_291 HS, mA_292 HS, mW_292 HS, mA_293 HS, mW_293 HS, mA_294 HS, mW_294 HS, mA_295 HS, mW_295 HS, mA_296 HS, mW_296 HS, mA_297 HS, mW_297 HS, mA_298 HS, mW_298 HS, mA_299 HS, mW_299 HS]
  refine m_worth hw HS hv (hr.fc f1) ?_
  intro D2 m2 t2
  simp only [wi_some, or_0, or_1, bo_or, ite_boP, true_and, and_true, kN_v, kN_n, kT_v, kT_n, kT_e, Nat.add_zero, Nat.zero_add, b395_2656 hw, if_true]
  exact go _ sh D2 c s _ _ hv (h1.fm m2.1) ((hr.fc f1).ms hv m2) (by omega) (by omega) (by omega)
theorem j_empty (hv : GV G) (h : GC sh D G) (hr : GR D G) (hi : i + 6 ≤ nx) (hn : nx ≤ 3072) (go : GoOn nx xs (d + 40) i Q sh c s) : Wx (tP nx xs) (d + 40) 395 2661 [some (.retAddr 0), some (.ref 0), some (.ref 286), some (.ref 300), (some (.int (Int32.ofNat i))), l5, l6] [] (mk sh D) c s Q := by
  have hw := h.1.2
  have HS := h.1.1
  have a1 := jI (k := 1) hi hn (by decide)
  have a2 := jI (k := 2) hi hn (by decide)
  have a3 := jI (k := 3) hi hn (by decide)
  have a4 := jI (k := 4) hi hn (by decide)
  have a5 := jI (k := 5) hi hn (by decide)
  have n10 : ¬ (Int32.ofNat 1 : Int32) = Int32.ofNat 0 := by decide
  have n20 : ¬ (Int32.ofNat 2 : Int32) = Int32.ofNat 0 := by decide
  have t0 : (Int32.ofNat 0 : Int32).toNatClampNeg = 0 := by decide
  have w0 := oW_300 HS (show 0 < 1 by decide)
  simp only [b395_2661 hw, a1, a2, a3, a4, a5, xR_tape HS, xI_wrongAt HS, xF_wrongAt HS, xR_state HS, xR_image HS, xI_imageKept HS, xF_imageKept HS, xR_draft HS, xR_memory HS, xR_lawText HS, xR_worlds HS, xI_worldsFresh HS, xF_worldsFresh HS, xR_otherWorlds HS, xR_seating HS, xR_pairing HS, xI_toldSo HS, xF_toldSo HS, xI_toldNot HS, xF_toldNot HS, xO HS, wi_some, or_0, or_1, bo_or, ite_boP, true_and, and_true, kN_v, kN_n, kT_v, kT_n, kT_e, Nat.add_zero, Nat.zero_add]
  refine c_empty hv h ?_
  simp only [wi_some, or_0, or_1, bo_or, ite_boP, true_and, and_true, kN_v, kN_n, kT_v, kT_n, kT_e, Nat.add_zero, Nat.zero_add, b395_2665 hw, a1, a2, a3, a4, a5, mI_thrown HS, mF_thrown HS, mR_row HS, mR_image HS, mR_earlier HS, mR_trial HS, mR_acts HS, mI_hasImage HS, mF_hasImage HS, mI_remembered HS, mF_remembered HS, mR_tape HS, mI_taped HS, mF_taped HS, mI_point HS, mF_point HS, mI_end HS, mF_end HS, mI_begin HS, mF_begin HS, mI_deep HS, mF_deep HS, mI_faultAt HS, mF_faultAt HS, mR_five HS, mI_codes HS, mF_codes HS, mR_value HS, mI_so HS, mF_so HS, mR_lines HS, mR_chosen HS, mR_best HS, mR_members HS, mR_paired HS, mO HS, mA_287 HS, mW_287 HS, mA_288 HS, mW_288 HS, mA_289 HS, mW_289 HS, mA_290 HS, mW_290 HS, mA_291 HS, mW_291 HS, mA_292 HS, mW_292 HS, mA_293 HS, mW_293 HS, mA_294 HS, mW_294 HS, mA_295 HS, mW_295 HS, mA_296 HS, mW_296 HS, mA_297 HS, mW_297 HS, mA_298 HS, mW_298 HS, mA_299 HS, mW_299 HS]
  refine m_empty hw HS hv (hr.fc Fc.rf) ?_
  intro D2 m2 t2
  simp only [wi_some, or_0, or_1, bo_or, ite_boP, true_and, and_true, kN_v, kN_n, kT_v, kT_n, kT_e, Nat.add_zero, Nat.zero_add, b395_2669 hw, if_true]
  exact go _ sh D2 c s _ _ hv (h.fm m2.1) ((hr.fc Fc.rf).ms hv m2) (by omega) (by omega) (by omega)
theorem j_never (hv : GV G) (h : GC sh D G) (hr : GR D G) (hi : i + 6 ≤ nx) (hn : nx ≤ 3072) (go : GoOn nx xs (d + 40) i Q sh c s) : Wx (tP nx xs) (d + 40) 395 2674 [some (.retAddr 0), some (.ref 0), some (.ref 286), some (.ref 300), (some (.int (Int32.ofNat i))), l5, l6] [] (mk sh D) c s Q := by
  have hw := h.1.2
  have HS := h.1.1
  have a1 := jI (k := 1) hi hn (by decide)
  have a2 := jI (k := 2) hi hn (by decide)
  have a3 := jI (k := 3) hi hn (by decide)
  have a4 := jI (k := 4) hi hn (by decide)
  have a5 := jI (k := 5) hi hn (by decide)
  have n10 : ¬ (Int32.ofNat 1 : Int32) = Int32.ofNat 0 := by decide
  have n20 : ¬ (Int32.ofNat 2 : Int32) = Int32.ofNat 0 := by decide
  have t0 : (Int32.ofNat 0 : Int32).toNatClampNeg = 0 := by decide
  have w0 := oW_300 HS (show 0 < 1 by decide)
  simp only [b395_2674 hw, a1, a2, a3, a4, a5, xR_tape HS, xI_wrongAt HS, xF_wrongAt HS, xR_state HS, xR_image HS, xI_imageKept HS, xF_imageKept HS, xR_draft HS, xR_memory HS, xR_lawText HS, xR_worlds HS, xI_worldsFresh HS, xF_worldsFresh HS, xR_otherWorlds HS, xR_seating HS, xR_pairing HS, xI_toldSo HS, xF_toldSo HS, xI_toldNot HS, xF_toldNot HS, xO HS, wi_some, or_0, or_1, bo_or, ite_boP, true_and, and_true, kN_v, kN_n, kT_v, kT_n, kT_e, Nat.add_zero, Nat.zero_add]
  refine c_never hv h ?_
  simp only [wi_some, or_0, or_1, bo_or, ite_boP, true_and, and_true, kN_v, kN_n, kT_v, kT_n, kT_e, Nat.add_zero, Nat.zero_add, b395_2678 hw, a1, a2, a3, a4, a5, mI_thrown HS, mF_thrown HS, mR_row HS, mR_image HS, mR_earlier HS, mR_trial HS, mR_acts HS, mI_hasImage HS, mF_hasImage HS, mI_remembered HS, mF_remembered HS, mR_tape HS, mI_taped HS, mF_taped HS, mI_point HS, mF_point HS, mI_end HS, mF_end HS, mI_begin HS, mF_begin HS, mI_deep HS, mF_deep HS, mI_faultAt HS, mF_faultAt HS, mR_five HS, mI_codes HS, mF_codes HS, mR_value HS, mI_so HS, mF_so HS, mR_lines HS, mR_chosen HS, mR_best HS, mR_members HS, mR_paired HS, mO HS, mA_287 HS, mW_287 HS, mA_288 HS, mW_288 HS, mA_289 HS, mW_289 HS, mA_290 HS, mW_290 HS, mA_291 HS, mW_291 HS, mA_292 HS, mW_292 HS, mA_293 HS, mW_293 HS, mA_294 HS, mW_294 HS, mA_295 HS, mW_295 HS, mA_296 HS, mW_296 HS, mA_297 HS, mW_297 HS, mA_298 HS, mW_298 HS, mA_299 HS, mW_299 HS]
  refine m_never hw HS hv (hr.fc Fc.rf) ?_
  intro D2 m2 t2
  simp only [wi_some, or_0, or_1, bo_or, ite_boP, true_and, and_true, kN_v, kN_n, kT_v, kT_n, kT_e, Nat.add_zero, Nat.zero_add, b395_2682 hw, if_true]
  exact go _ sh D2 c s _ _ hv (h.fm m2.1) ((hr.fc Fc.rf).ms hv m2) (by omega) (by omega) (by omega)
theorem j_seed (hv : GV G) (h : GC sh D G) (hr : GR D G) (hi : i + 6 ≤ nx) (hn : nx ≤ 3072) (go : GoOn nx xs (d + 40) i Q sh c s) : Wx (tP nx xs) (d + 40) 395 3075 [some (.retAddr 0), some (.ref 0), some (.ref 286), some (.ref 300), (some (.int (Int32.ofNat i))), l5, l6] [] (mk sh D) c s Q := by
  have hw := h.1.2
  have HS := h.1.1
  have a1 := jI (k := 1) hi hn (by decide)
  have a2 := jI (k := 2) hi hn (by decide)
  have a3 := jI (k := 3) hi hn (by decide)
  have a4 := jI (k := 4) hi hn (by decide)
  have a5 := jI (k := 5) hi hn (by decide)
  have n10 : ¬ (Int32.ofNat 1 : Int32) = Int32.ofNat 0 := by decide
  have n20 : ¬ (Int32.ofNat 2 : Int32) = Int32.ofNat 0 := by decide
  have t0 : (Int32.ofNat 0 : Int32).toNatClampNeg = 0 := by decide
  have w0 := oW_300 HS (show 0 < 1 by decide)
  simp only [b395_3075 hw, a1, a2, a3, a4, a5, xR_tape HS, xI_wrongAt HS, xF_wrongAt HS, xR_state HS, xR_image HS, xI_imageKept HS, xF_imageKept HS, xR_draft HS, xR_memory HS, xR_lawText HS, xR_worlds HS, xI_worldsFresh HS, xF_worldsFresh HS, xR_otherWorlds HS, xR_seating HS, xR_pairing HS, xI_toldSo HS, xF_toldSo HS, xI_toldNot HS, xF_toldNot HS, xO HS, wi_some, or_0, or_1, bo_or, ite_boP, true_and, and_true, kN_v, kN_n, kT_v, kT_n, kT_e, Nat.add_zero, Nat.zero_add]
  refine c_seed hv h ?_
  intro D1 h1 f1
  simp only [wi_some, or_0, or_1, bo_or, ite_boP, true_and, and_true, kN_v, kN_n, kT_v, kT_n, kT_e, Nat.add_zero, Nat.zero_add, b395_3085 hw, a1, a2, a3, a4, a5, mI_thrown HS, mF_thrown HS, mR_row HS, mR_image HS, mR_earlier HS, mR_trial HS, mR_acts HS, mI_hasImage HS, mF_hasImage HS, mI_remembered HS, mF_remembered HS, mR_tape HS, mI_taped HS, mF_taped HS, mI_point HS, mF_point HS, mI_end HS, mF_end HS, mI_begin HS, mF_begin HS, mI_deep HS, mF_deep HS, mI_faultAt HS, mF_faultAt HS, mR_five HS, mI_codes HS, mF_codes HS, mR_value HS, mI_so HS, mF_so HS, mR_lines HS, mR_chosen HS, mR_best HS, mR_members HS, mR_paired HS, mO HS, mA_287 HS, mW_287 HS, mA_288 HS, mW_288 HS, mA_289 HS, mW_289 HS, mA_290 HS, mW_290 HS, mA_291 HS, mW_291 HS, mA_292 HS, mW_292 HS, mA_293 HS, mW_293 HS, mA_294 HS, mW_294 HS, mA_295 HS, mW_295 HS, mA_296 HS, mW_296 HS, mA_297 HS, mW_297 HS, mA_298 HS, mW_298 HS, mA_299 HS, mW_299 HS]
  refine m_seed hw HS hv (hr.fc f1) ?_
  intro D2 r2 m2 t2
  simp only [wi_some, or_0, or_1, bo_or, ite_boP, true_and, and_true, kN_v, kN_n, kT_v, kT_n, kT_e, Nat.add_zero, Nat.zero_add, b395_3095 hw, if_true]
  exact go _ sh D2 c s _ _ (v_seed hv) (h1.fm m2) r2 (by omega) (by omega) (by omega)
theorem j_undo (hv : GV G) (h : GC sh D G) (hr : GR D G) (hi : i + 6 ≤ nx) (hn : nx ≤ 3072) (go : GoOn nx xs (d + 40) i Q sh c s) : Wx (tP nx xs) (d + 40) 395 3100 [some (.retAddr 0), some (.ref 0), some (.ref 286), some (.ref 300), (some (.int (Int32.ofNat i))), l5, l6] [] (mk sh D) c s Q := by
  have hw := h.1.2
  have HS := h.1.1
  have a1 := jI (k := 1) hi hn (by decide)
  have a2 := jI (k := 2) hi hn (by decide)
  have a3 := jI (k := 3) hi hn (by decide)
  have a4 := jI (k := 4) hi hn (by decide)
  have a5 := jI (k := 5) hi hn (by decide)
  have n10 : ¬ (Int32.ofNat 1 : Int32) = Int32.ofNat 0 := by decide
  have n20 : ¬ (Int32.ofNat 2 : Int32) = Int32.ofNat 0 := by decide
  have t0 : (Int32.ofNat 0 : Int32).toNatClampNeg = 0 := by decide
  have w0 := oW_300 HS (show 0 < 1 by decide)
  simp only [b395_3100 hw, a1, a2, a3, a4, a5, xR_tape HS, xI_wrongAt HS, xF_wrongAt HS, xR_state HS, xR_image HS, xI_imageKept HS, xF_imageKept HS, xR_draft HS, xR_memory HS, xR_lawText HS, xR_worlds HS, xI_worldsFresh HS, xF_worldsFresh HS, xR_otherWorlds HS, xR_seating HS, xR_pairing HS, xI_toldSo HS, xF_toldSo HS, xI_toldNot HS, xF_toldNot HS, xO HS, wi_some, or_0, or_1, bo_or, ite_boP, true_and, and_true, kN_v, kN_n, kT_v, kT_n, kT_e, Nat.add_zero, Nat.zero_add]
  refine c_undo hv h ?_
  intro D1 V1 e1 h1 f1
  simp only [wi_some, or_0, or_1, bo_or, ite_boP, true_and, and_true, kN_v, kN_n, kT_v, kT_n, kT_e, Nat.add_zero, Nat.zero_add, b395_3104 hw, a1, a2, a3, a4, a5, mI_thrown HS, mF_thrown HS, mR_row HS, mR_image HS, mR_earlier HS, mR_trial HS, mR_acts HS, mI_hasImage HS, mF_hasImage HS, mI_remembered HS, mF_remembered HS, mR_tape HS, mI_taped HS, mF_taped HS, mI_point HS, mF_point HS, mI_end HS, mF_end HS, mI_begin HS, mF_begin HS, mI_deep HS, mF_deep HS, mI_faultAt HS, mF_faultAt HS, mR_five HS, mI_codes HS, mF_codes HS, mR_value HS, mI_so HS, mF_so HS, mR_lines HS, mR_chosen HS, mR_best HS, mR_members HS, mR_paired HS, mO HS, mA_287 HS, mW_287 HS, mA_288 HS, mW_288 HS, mA_289 HS, mW_289 HS, mA_290 HS, mW_290 HS, mA_291 HS, mW_291 HS, mA_292 HS, mW_292 HS, mA_293 HS, mW_293 HS, mA_294 HS, mW_294 HS, mA_295 HS, mW_295 HS, mA_296 HS, mW_296 HS, mA_297 HS, mW_297 HS, mA_298 HS, mW_298 HS, mA_299 HS, mW_299 HS]
  refine m_undo hw HS hv (hr.fc f1) e1 ?_
  intro D2 r2 m2
  simp only [wi_some, or_0, or_1, bo_or, ite_boP, true_and, and_true, kN_v, kN_n, kT_v, kT_n, kT_e, Nat.add_zero, Nat.zero_add, b395_3108 hw, if_true]
  exact go _ sh D2 c s _ _ (hv.undo e1) (h1.fm m2) r2 (by omega) (by omega) (by omega)
theorem j_image (hv : GV G) (h : GC sh D G) (hr : GR D G) (hi : i + 6 ≤ nx) (hn : nx ≤ 3072) (go : GoOn nx xs (d + 40) i Q sh c s) : Wx (tP nx xs) (d + 40) 395 3113 [some (.retAddr 0), some (.ref 0), some (.ref 286), some (.ref 300), (some (.int (Int32.ofNat i))), l5, l6] [] (mk sh D) c s Q := by
  have hw := h.1.2
  have HS := h.1.1
  have a1 := jI (k := 1) hi hn (by decide)
  have a2 := jI (k := 2) hi hn (by decide)
  have a3 := jI (k := 3) hi hn (by decide)
  have a4 := jI (k := 4) hi hn (by decide)
  have a5 := jI (k := 5) hi hn (by decide)
  have n10 : ¬ (Int32.ofNat 1 : Int32) = Int32.ofNat 0 := by decide
  have n20 : ¬ (Int32.ofNat 2 : Int32) = Int32.ofNat 0 := by decide
  have t0 : (Int32.ofNat 0 : Int32).toNatClampNeg = 0 := by decide
  have w0 := oW_300 HS (show 0 < 1 by decide)
  simp only [b395_3113 hw, a1, a2, a3, a4, a5, xR_tape HS, xI_wrongAt HS, xF_wrongAt HS, xR_state HS, xR_image HS, xI_imageKept HS, xF_imageKept HS, xR_draft HS, xR_memory HS, xR_lawText HS, xR_worlds HS, xI_worldsFresh HS, xF_worldsFresh HS, xR_otherWorlds HS, xR_seating HS, xR_pairing HS, xI_toldSo HS, xF_toldSo HS, xI_toldNot HS, xF_toldNot HS, xO HS, wi_some, or_0, or_1, bo_or, ite_boP, true_and, and_true, kN_v, kN_n, kT_v, kT_n, kT_e, Nat.add_zero, Nat.zero_add]
  refine c_image hv h ?_
  intro D1 V1 e1 h1 f1
  simp only [wi_some, or_0, or_1, bo_or, ite_boP, true_and, and_true, kN_v, kN_n, kT_v, kT_n, kT_e, Nat.add_zero, Nat.zero_add, b395_3117 hw, a1, a2, a3, a4, a5, mI_thrown HS, mF_thrown HS, mR_row HS, mR_image HS, mR_earlier HS, mR_trial HS, mR_acts HS, mI_hasImage HS, mF_hasImage HS, mI_remembered HS, mF_remembered HS, mR_tape HS, mI_taped HS, mF_taped HS, mI_point HS, mF_point HS, mI_end HS, mF_end HS, mI_begin HS, mF_begin HS, mI_deep HS, mF_deep HS, mI_faultAt HS, mF_faultAt HS, mR_five HS, mI_codes HS, mF_codes HS, mR_value HS, mI_so HS, mF_so HS, mR_lines HS, mR_chosen HS, mR_best HS, mR_members HS, mR_paired HS, mO HS, mA_287 HS, mW_287 HS, mA_288 HS, mW_288 HS, mA_289 HS, mW_289 HS, mA_290 HS, mW_290 HS, mA_291 HS, mW_291 HS, mA_292 HS, mW_292 HS, mA_293 HS, mW_293 HS, mA_294 HS, mW_294 HS, mA_295 HS, mW_295 HS, mA_296 HS, mW_296 HS, mA_297 HS, mW_297 HS, mA_298 HS, mW_298 HS, mA_299 HS, mW_299 HS]
  refine m_image hw HS hv (hr.fc f1) e1 ?_
  intro D2 r2 m2
  simp only [wi_some, or_0, or_1, bo_or, ite_boP, true_and, and_true, kN_v, kN_n, kT_v, kT_n, kT_e, Nat.add_zero, Nat.zero_add, b395_3121 hw]
  exact go _ sh D2 c s _ _ (hv.img e1) (h1.fm m2) r2 (by omega) (by omega) (by omega)
theorem j_back (hv : GV G) (h : GC sh D G) (hr : GR D G) (hi : i + 6 ≤ nx) (hn : nx ≤ 3072) (go : GoOn nx xs (d + 40) i Q sh c s) : Wx (tP nx xs) (d + 40) 395 3124 [some (.retAddr 0), some (.ref 0), some (.ref 286), some (.ref 300), (some (.int (Int32.ofNat i))), l5, l6] [] (mk sh D) c s Q := by
  have hw := h.1.2
  have HS := h.1.1
  have a1 := jI (k := 1) hi hn (by decide)
  have a2 := jI (k := 2) hi hn (by decide)
  have a3 := jI (k := 3) hi hn (by decide)
  have a4 := jI (k := 4) hi hn (by decide)
  have a5 := jI (k := 5) hi hn (by decide)
  have n10 : ¬ (Int32.ofNat 1 : Int32) = Int32.ofNat 0 := by decide
  have n20 : ¬ (Int32.ofNat 2 : Int32) = Int32.ofNat 0 := by decide
  have t0 : (Int32.ofNat 0 : Int32).toNatClampNeg = 0 := by decide
  have w0 := oW_300 HS (show 0 < 1 by decide)
  simp only [b395_3124 hw, a1, a2, a3, a4, a5, xR_tape HS, xI_wrongAt HS, xF_wrongAt HS, xR_state HS, xR_image HS, xI_imageKept HS, xF_imageKept HS, xR_draft HS, xR_memory HS, xR_lawText HS, xR_worlds HS, xI_worldsFresh HS, xF_worldsFresh HS, xR_otherWorlds HS, xR_seating HS, xR_pairing HS, xI_toldSo HS, xF_toldSo HS, xI_toldNot HS, xF_toldNot HS, xO HS, wi_some, or_0, or_1, bo_or, ite_boP, true_and, and_true, kN_v, kN_n, kT_v, kT_n, kT_e, Nat.add_zero, Nat.zero_add]
  refine c_back hv h ?_
  intro D1 V1 e1 h1 f1
  simp only [wi_some, or_0, or_1, bo_or, ite_boP, true_and, and_true, kN_v, kN_n, kT_v, kT_n, kT_e, Nat.add_zero, Nat.zero_add, b395_3128 hw, a1, a2, a3, a4, a5, mI_thrown HS, mF_thrown HS, mR_row HS, mR_image HS, mR_earlier HS, mR_trial HS, mR_acts HS, mI_hasImage HS, mF_hasImage HS, mI_remembered HS, mF_remembered HS, mR_tape HS, mI_taped HS, mF_taped HS, mI_point HS, mF_point HS, mI_end HS, mF_end HS, mI_begin HS, mF_begin HS, mI_deep HS, mF_deep HS, mI_faultAt HS, mF_faultAt HS, mR_five HS, mI_codes HS, mF_codes HS, mR_value HS, mI_so HS, mF_so HS, mR_lines HS, mR_chosen HS, mR_best HS, mR_members HS, mR_paired HS, mO HS, mA_287 HS, mW_287 HS, mA_288 HS, mW_288 HS, mA_289 HS, mW_289 HS, mA_290 HS, mW_290 HS, mA_291 HS, mW_291 HS, mA_292 HS, mW_292 HS, mA_293 HS, mW_293 HS, mA_294 HS, mW_294 HS, mA_295 HS, mW_295 HS, mA_296 HS, mW_296 HS, mA_297 HS, mW_297 HS, mA_298 HS, mW_298 HS, mA_299 HS, mW_299 HS]
  refine m_back hw HS hv (hr.fc f1) e1 ?_
  intro D2 r2 m2
  simp only [wi_some, or_0, or_1, bo_or, ite_boP, true_and, and_true, kN_v, kN_n, kT_v, kT_n, kT_e, Nat.add_zero, Nat.zero_add, b395_3132 hw, if_true]
  exact go _ sh D2 c s _ _ (hv.back e1) (h1.fm m2) r2 (by omega) (by omega) (by omega)
theorem j_count (hv : GV G) (h : GC sh D G) (hr : GR D G) (hi : i + 6 ≤ nx) (hn : nx ≤ 3072) (go : GoOn nx xs (d + 40) i Q sh c s) : Wx (tP nx xs) (d + 40) 395 3137 [some (.retAddr 0), some (.ref 0), some (.ref 286), some (.ref 300), (some (.int (Int32.ofNat i))), l5, l6] [] (mk sh D) c s Q := by
  have hw := h.1.2
  have HS := h.1.1
  have a1 := jI (k := 1) hi hn (by decide)
  have a2 := jI (k := 2) hi hn (by decide)
  have a3 := jI (k := 3) hi hn (by decide)
  have a4 := jI (k := 4) hi hn (by decide)
  have a5 := jI (k := 5) hi hn (by decide)
  have n10 : ¬ (Int32.ofNat 1 : Int32) = Int32.ofNat 0 := by decide
  have n20 : ¬ (Int32.ofNat 2 : Int32) = Int32.ofNat 0 := by decide
  have t0 : (Int32.ofNat 0 : Int32).toNatClampNeg = 0 := by decide
  have w0 := oW_300 HS (show 0 < 1 by decide)
  simp only [b395_3137 hw, a1, a2, a3, a4, a5, xR_tape HS, xI_wrongAt HS, xF_wrongAt HS, xR_state HS, xR_image HS, xI_imageKept HS, xF_imageKept HS, xR_draft HS, xR_memory HS, xR_lawText HS, xR_worlds HS, xI_worldsFresh HS, xF_worldsFresh HS, xR_otherWorlds HS, xR_seating HS, xR_pairing HS, xI_toldSo HS, xF_toldSo HS, xI_toldNot HS, xF_toldNot HS, xO HS, wi_some, or_0, or_1, bo_or, ite_boP, true_and, and_true, kN_v, kN_n, kT_v, kT_n, kT_e, Nat.add_zero, Nat.zero_add]
  refine c_count hv h ?_
  simp only [wi_some, or_0, or_1, bo_or, ite_boP, true_and, and_true, kN_v, kN_n, kT_v, kT_n, kT_e, Nat.add_zero, Nat.zero_add, b395_3147 hw, a1, a2, a3, a4, a5, mI_thrown HS, mF_thrown HS, mR_row HS, mR_image HS, mR_earlier HS, mR_trial HS, mR_acts HS, mI_hasImage HS, mF_hasImage HS, mI_remembered HS, mF_remembered HS, mR_tape HS, mI_taped HS, mF_taped HS, mI_point HS, mF_point HS, mI_end HS, mF_end HS, mI_begin HS, mF_begin HS, mI_deep HS, mF_deep HS, mI_faultAt HS, mF_faultAt HS, mR_five HS, mI_codes HS, mF_codes HS, mR_value HS, mI_so HS, mF_so HS, mR_lines HS, mR_chosen HS, mR_best HS, mR_members HS, mR_paired HS, mO HS, mA_287 HS, mW_287 HS, mA_288 HS, mW_288 HS, mA_289 HS, mW_289 HS, mA_290 HS, mW_290 HS, mA_291 HS, mW_291 HS, mA_292 HS, mW_292 HS, mA_293 HS, mW_293 HS, mA_294 HS, mW_294 HS, mA_295 HS, mW_295 HS, mA_296 HS, mW_296 HS, mA_297 HS, mW_297 HS, mA_298 HS, mW_298 HS, mA_299 HS, mW_299 HS]
  refine m_count hw HS hv (hr.fc Fc.rf) ?_
  intro D2 m2 t2
  simp only [wi_some, or_0, or_1, bo_or, ite_boP, true_and, and_true, kN_v, kN_n, kT_v, kT_n, kT_e, Nat.add_zero, Nat.zero_add, b395_3157 hw, if_true]
  exact go _ sh D2 c s _ _ hv (h.fm m2.1) ((hr.fc Fc.rf).ms hv m2) (by omega) (by omega) (by omega)
end JE2
