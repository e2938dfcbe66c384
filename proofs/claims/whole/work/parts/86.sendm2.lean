/-! ===== send, who, look in the reference (2) ===== -/
theorem nS_sum (G : GT) (t : Nat) : ∀ n, nS (fun z => wbt G z t && ftP G z) n + nS (fun z => !wbt G z t && ftP G z) n = nS (ftP G) n
  | 0 => rfl
  | n + 1 => by
    have ih := nS_sum G t n
    rw [nS_succ, nS_succ, nS_succ]
    cases wbt G n t <;> cases ftP G n <;> simp <;> omega
def lkY (G : GT) (t : Nat) : Nat := if lkA G < 2 then 1000000 else max (lkT G t) (lkA G - lkT G t)
def lkR (G : GT) (t : Nat) (z : Int32 × Nat) : Int32 × Nat := ((if lkY G t < z.2 then Int32.ofNat t else z.1), min z.2 (lkY G t))
theorem lkR_eq (G : GT) (hA : lkA G ≤ 64) (n : Nat) : (fo (lkR G) n 0 ((-1 : Int32), 1000000)).1 = if lkA G < 2 then -1 else (fo (lkF G) n 0 ((-1 : Int32), 65)).1 := by
  by_cases h : lkA G < 2
  · rw [if_pos h]
    have := fo_inv (F := lkR G) (fun _ z => z = ((-1 : Int32), 1000000)) n 0 _ rfl (fun t z _ _ ih => by
      subst ih
      unfold lkR lkY
      rw [if_pos h]
      simp)
    rw [this]
  · rw [if_neg h]
    have := fo_rel (F := lkR G) (G := lkF G) (fun i x y => (i = 0 ∧ x = ((-1 : Int32), 1000000) ∧ y = ((-1 : Int32), 65)) ∨ x = y) n 0 ((-1 : Int32), 1000000) ((-1 : Int32), 65) (Or.inl ⟨rfl, rfl, rfl⟩) (fun t x y _ _ ih => by
      right
      have l := lk_le G t
      unfold lkR lkF lkY
      rw [if_neg h]
      cases ih with
      | inl e =>
        obtain ⟨_, e1, e2⟩ := e
        subst e1; subst e2
        simp only
        rw [if_pos (by omega), if_pos (by omega)]
        congr 1
        omega
      | inr e =>
        subst e
        by_cases hm : max (lkT G t) (lkA G - lkT G t) < x.2
        · rw [if_pos hm, if_pos hm]
          congr 1
          omega
        · rw [if_neg hm, if_neg hm]
          rw [show min x.2 (max (lkT G t) (lkA G - lkT G t)) = x.2 by omega])
    cases this with
    | inl e => rw [e.2.1, e.2.2]
    | inr e => rw [e]
section C86
variable {nx : Nat} {xs : Nat → Int32} {d c s : Nat} {sh : List sC} {D : sD} {Q : av_Q}
variable {G : GT}
theorem oN_mn {x y : Nat} (hx : x < 2147483648) (hy : y < 2147483648) : mn (Int32.ofNat x) (Int32.ofNat y) = Int32.ofNat (min x y) := by
  unfold mn
  simp only [oN_lt hy hx]
  by_cases h : y < x
  · rw [if_pos h, show min x y = y by omega]
  · rw [if_neg h, show min x y = x by omega]
theorem m_send (hw : WT sh) (HS : SP sh) (hv : GV G) (h : GR D G) (kk : ∀ D', GR D' (tkG G) → Fm D D' → D' 286 0 = Int32.ofNat (th (o_send G)) → Q (.inl (some (.int (rv (o_send G))))) (mk sh D') c s) : Wx (tP nx xs) (d + 8) 305 0 [some (.ref 286), none, none, none] [] (mk sh D) c s Q := by
  have hng := i_ng6 hv.1
  have n10 : ¬ (Int32.ofNat 1 : Int32) = Int32.ofNat 0 := by decide
  unfold o_send at kk
  simp only [b305_0 hw, mI_thrown HS, mF_thrown HS, mR_row HS, mR_image HS, mR_earlier HS, mR_trial HS, mR_acts HS, mI_hasImage HS, mF_hasImage HS, mI_remembered HS, mF_remembered HS, mR_tape HS, mI_taped HS, mF_taped HS, mI_point HS, mF_point HS, mI_end HS, mF_end HS, mI_begin HS, mF_begin HS, mI_deep HS, mF_deep HS, mI_faultAt HS, mF_faultAt HS, mR_five HS, mI_codes HS, mF_codes HS, mR_value HS, mI_so HS, mF_so HS, mR_lines HS, mR_chosen HS, mR_best HS, mR_members HS, mR_paired HS, mO HS, mA_287 HS, mW_287 HS, mA_288 HS, mW_288 HS, mA_289 HS, mW_289 HS, mA_290 HS, mW_290 HS, mA_291 HS, mW_291 HS, mA_292 HS, mW_292 HS, mA_293 HS, mW_293 HS, mA_294 HS, mW_294 HS, mA_295 HS, mW_295 HS, mA_296 HS, mW_296 HS, mA_297 HS, mW_297 HS, mA_298 HS, mW_298 HS, mA_299 HS, mW_299 HS, wi_some, or_0, or_1, bo_or, ite_boP, true_and, and_true, kN_v, kN_n, kT_v, kT_n, kT_e, Nat.add_zero, Nat.zero_add]
  refine k227 hw HS hv h ?_
  intro D1 h1 f1 u1 t1
  simp only [wi_some, or_0, or_1, bo_or, ite_boP, true_and, and_true, kN_v, kN_n, kT_v, kT_n, kT_e, Nat.add_zero, Nat.zero_add, b305_4 hw, mI_thrown HS, mF_thrown HS, mR_row HS, mR_image HS, mR_earlier HS, mR_trial HS, mR_acts HS, mI_hasImage HS, mF_hasImage HS, mI_remembered HS, mF_remembered HS, mR_tape HS, mI_taped HS, mF_taped HS, mI_point HS, mF_point HS, mI_end HS, mF_end HS, mI_begin HS, mF_begin HS, mI_deep HS, mF_deep HS, mI_faultAt HS, mF_faultAt HS, mR_five HS, mI_codes HS, mF_codes HS, mR_value HS, mI_so HS, mF_so HS, mR_lines HS, mR_chosen HS, mR_best HS, mR_members HS, mR_paired HS, mO HS, mA_287 HS, mW_287 HS, mA_288 HS, mW_288 HS, mA_289 HS, mW_289 HS, mA_290 HS, mW_290 HS, mA_291 HS, mW_291 HS, mA_292 HS, mW_292 HS, mA_293 HS, mW_293 HS, mA_294 HS, mW_294 HS, mA_295 HS, mW_295 HS, mA_296 HS, mW_296 HS, mA_297 HS, mW_297 HS, mA_298 HS, mW_298 HS, mA_299 HS, mW_299 HS, k303 hw HS hv h1 u1, b305_9 hw]
  cases hok : tlOk G with
  | false =>
    simp only [hok, th, rv, b305_17 hw, mI_thrown HS, mF_thrown HS, mR_row HS, mR_image HS, mR_earlier HS, mR_trial HS, mR_acts HS, mI_hasImage HS, mF_hasImage HS, mI_remembered HS, mF_remembered HS, mR_tape HS, mI_taped HS, mF_taped HS, mI_point HS, mF_point HS, mI_end HS, mF_end HS, mI_begin HS, mF_begin HS, mI_deep HS, mF_deep HS, mI_faultAt HS, mF_faultAt HS, mR_five HS, mI_codes HS, mF_codes HS, mR_value HS, mI_so HS, mF_so HS, mR_lines HS, mR_chosen HS, mR_best HS, mR_members HS, mR_paired HS, mO HS, mA_287 HS, mW_287 HS, mA_288 HS, mW_288 HS, mA_289 HS, mW_289 HS, mA_290 HS, mW_290 HS, mA_291 HS, mW_291 HS, mA_292 HS, mW_292 HS, mA_293 HS, mW_293 HS, mA_294 HS, mW_294 HS, mA_295 HS, mW_295 HS, mA_296 HS, mW_296 HS, mA_297 HS, mW_297 HS, mA_298 HS, mW_298 HS, mA_299 HS, mW_299 HS, wi_some, or_0, or_1, bo_or, ite_boP, true_and, and_true, kN_v, kN_n, kT_v, kT_n, kT_e, Nat.add_zero, Nat.zero_add, k187t hw HS, b305_21 hw, n10, if_false, Bool.false_eq_true] at kk ⊢
    exact kk _ (h1.ms hv.tk Ms.rf.th) (f1.tr (Ms.rf.th (v := Int32.ofNat 1)).1) (by simp [u2_at])
  | true =>
    have R1 : Rw (D1 287) (gV G.1) (gt G.1) (gg G.1) (gr G.1) (gl G.1) := h1.1.1
    have I : Iv (gV G.1) (gt G.1) (gg G.1) (gr G.1) (gl G.1) := hv.1
    obtain ⟨g1, g2⟩ := gN_of (V := (gV G.1)) hng
    have e64 := everyN hv.1
    have p0 : 0 < 2 ^ (gg G.1) := Nat.pow_pos (by decide)
    simp only [hok, if_true, th, rv] at kk
    simp only [if_true, b305_17 hw, mI_thrown HS, mF_thrown HS, mR_row HS, mR_image HS, mR_earlier HS, mR_trial HS, mR_acts HS, mI_hasImage HS, mF_hasImage HS, mI_remembered HS, mF_remembered HS, mR_tape HS, mI_taped HS, mF_taped HS, mI_point HS, mF_point HS, mI_end HS, mF_end HS, mI_begin HS, mF_begin HS, mI_deep HS, mF_deep HS, mI_faultAt HS, mF_faultAt HS, mR_five HS, mI_codes HS, mF_codes HS, mR_value HS, mI_so HS, mF_so HS, mR_lines HS, mR_chosen HS, mR_best HS, mR_members HS, mR_paired HS, mO HS, mA_287 HS, mW_287 HS, mA_288 HS, mW_288 HS, mA_289 HS, mW_289 HS, mA_290 HS, mW_290 HS, mA_291 HS, mW_291 HS, mA_292 HS, mW_292 HS, mA_293 HS, mW_293 HS, mA_294 HS, mW_294 HS, mA_295 HS, mW_295 HS, mA_296 HS, mW_296 HS, mA_297 HS, mW_297 HS, mA_298 HS, mW_298 HS, mA_299 HS, mW_299 HS, wi_some, or_0, or_1, bo_or, ite_boP, true_and, and_true, kN_v, kN_n, kT_v, kT_n, kT_e, Nat.add_zero, Nat.zero_add, k187f hw HS, b305_21 hw, k208 hw HS R1 hng, b305_30 hw, g1]
    refine up_P (W := fun i (x : Int32) D => Wx (tP nx xs) (d + 8) 305 35 [some (.ref 286), (some (.int (Int32.ofNat (gN (gV G.1) (gg G.1))))), (some (.int (x))), (some (.int (Int32.ofNat i)))] [] (mk sh D) c s Q) (P := fun _ _ D' => Sm D1 D') (F := sdF G) (2 ^ (gg G.1)) ?_ (-1) D1 Sm.rf ?_
    · intro z x D2 hz s2 k
      have h2 := h1.sm hv s2
      have R2 : Rw (D2 287) (gV G.1) (gt G.1) (gg G.1) (gr G.1) (gl G.1) := h2.1.1
      have lt : gN (gV G.1) (gg G.1) ||| z < 2 ^ (gg G.1) := Nat.or_lt_two_pow g2 hz
      have lt64 : gN (gV G.1) (gg G.1) ||| z < 64 := by omega
      rw [b305_35 hw]
      simp only [mI_thrown HS, mF_thrown HS, mR_row HS, mR_image HS, mR_earlier HS, mR_trial HS, mR_acts HS, mI_hasImage HS, mF_hasImage HS, mI_remembered HS, mF_remembered HS, mR_tape HS, mI_taped HS, mF_taped HS, mI_point HS, mF_point HS, mI_end HS, mF_end HS, mI_begin HS, mF_begin HS, mI_deep HS, mF_deep HS, mI_faultAt HS, mF_faultAt HS, mR_five HS, mI_codes HS, mF_codes HS, mR_value HS, mI_so HS, mF_so HS, mR_lines HS, mR_chosen HS, mR_best HS, mR_members HS, mR_paired HS, mO HS, mA_287 HS, mW_287 HS, mA_288 HS, mW_288 HS, mA_289 HS, mW_289 HS, mA_290 HS, mW_290 HS, mA_291 HS, mW_291 HS, mA_292 HS, mW_292 HS, mA_293 HS, mW_293 HS, mA_294 HS, mW_294 HS, mA_295 HS, mW_295 HS, mA_296 HS, mW_296 HS, mA_297 HS, mW_297 HS, mA_298 HS, mW_298 HS, mA_299 HS, mW_299 HS, wi_some, or_0, or_1, bo_or, ite_boP, true_and, and_true, kN_v, kN_n, kT_v, kT_n, kT_e, Nat.add_zero, Nat.zero_add, k206 hw HS R2 hng, b305_40 hw, oN_lt (show 2 ^ (gg G.1) - 1 < 2147483648 by omega) (show z < 2147483648 by omega), show ¬ 2 ^ (gg G.1) - 1 < z by omega, if_false, k357 hw, b305_58 hw, b305_62 hw, b305_99 hw, oN_add]
      unfold sdF at k
      by_cases hzg : Int32.ofNat z &&& Int32.ofNat (gN (gV G.1) (gg G.1)) = Int32.ofNat 0
      rotate_left
      · simp only [hzg, decide_false, Bool.false_and, Bool.false_eq_true, if_false] at k ⊢
        exact k D2 s2
      simp only [hzg, decide_true, Bool.true_and, if_true] at k ⊢
      have go : fewer (Int32.ofNat z) x = true → Wx (tP nx xs) (d + 8) 305 68 [some (.ref 286), (some (.int (Int32.ofNat (gN (gV G.1) (gg G.1))))), (some (.int (x))), (some (.int (Int32.ofNat z)))] [] (mk sh D2) c s Q := by
        intro hf
        simp only [hf, Bool.true_and] at k
        simp only [b305_68 hw, mI_thrown HS, mF_thrown HS, mR_row HS, mR_image HS, mR_earlier HS, mR_trial HS, mR_acts HS, mI_hasImage HS, mF_hasImage HS, mI_remembered HS, mF_remembered HS, mR_tape HS, mI_taped HS, mF_taped HS, mI_point HS, mF_point HS, mI_end HS, mF_end HS, mI_begin HS, mF_begin HS, mI_deep HS, mF_deep HS, mI_faultAt HS, mF_faultAt HS, mR_five HS, mI_codes HS, mF_codes HS, mR_value HS, mI_so HS, mF_so HS, mR_lines HS, mR_chosen HS, mR_best HS, mR_members HS, mR_paired HS, mO HS, mA_287 HS, mW_287 HS, mA_288 HS, mW_288 HS, mA_289 HS, mW_289 HS, mA_290 HS, mW_290 HS, mA_291 HS, mW_291 HS, mA_292 HS, mW_292 HS, mA_293 HS, mW_293 HS, mA_294 HS, mW_294 HS, mA_295 HS, mW_295 HS, mA_296 HS, mW_296 HS, mA_297 HS, mW_297 HS, mA_298 HS, mW_298 HS, mA_299 HS, mW_299 HS, wi_some, or_0, or_1, bo_or, ite_boP, true_and, and_true, kN_v, kN_n, kT_v, kT_n, kT_e, Nat.add_zero, Nat.zero_add, orN]
        have e268 := k268 (nx := nx) (xs := xs) (d := d + 1) (c := 0) (s := 0) (D := D2) (Q := kN (tP nx xs) (d + 7 + 1) 305 75 [some (.ref 286), (some (.int (Int32.ofNat (gN (gV G.1) (gg G.1))))), (some (.int (x))), (some (.int (Int32.ofNat z)))] [] c s Q) hw HS R2 I lt64
        refine e268 ?_
        intro D3 s3
        have s23 : Sm D1 D3 := s2.tr s3
        have R3 : Rw (D3 287) (gV G.1) (gt G.1) (gg G.1) (gr G.1) (gl G.1) := (h1.sm hv s23).1.1
        simp only [b305_75 hw, mI_thrown HS, mF_thrown HS, mR_row HS, mR_image HS, mR_earlier HS, mR_trial HS, mR_acts HS, mI_hasImage HS, mF_hasImage HS, mI_remembered HS, mF_remembered HS, mR_tape HS, mI_taped HS, mF_taped HS, mI_point HS, mF_point HS, mI_end HS, mF_end HS, mI_begin HS, mF_begin HS, mI_deep HS, mF_deep HS, mI_faultAt HS, mF_faultAt HS, mR_five HS, mI_codes HS, mF_codes HS, mR_value HS, mI_so HS, mF_so HS, mR_lines HS, mR_chosen HS, mR_best HS, mR_members HS, mR_paired HS, mO HS, mA_287 HS, mW_287 HS, mA_288 HS, mW_288 HS, mA_289 HS, mW_289 HS, mA_290 HS, mW_290 HS, mA_291 HS, mW_291 HS, mA_292 HS, mW_292 HS, mA_293 HS, mW_293 HS, mA_294 HS, mW_294 HS, mA_295 HS, mW_295 HS, mA_296 HS, mW_296 HS, mA_297 HS, mW_297 HS, mA_298 HS, mW_298 HS, mA_299 HS, mW_299 HS, wi_some, or_0, or_1, bo_or, ite_boP, true_and, and_true, kN_v, kN_n, kT_v, kT_n, kT_e, Nat.add_zero, Nat.zero_add, b305_97 hw, b305_98 hw, b305_99 hw, oN_add, orN]
        unfold cmP at k
        by_cases hp : pastS (gV G.1) (gt G.1) (gg G.1) ((gV G.1) 1 1) (gN (gV G.1) (gg G.1) ||| z) = -1
        · simp only [hp, if_true, not_true_eq_false, decide_false, Bool.false_and, Bool.false_eq_true, if_false] at k ⊢
          exact k D3 s23
        · simp only [hp, if_false, not_false_eq_true, decide_true, Bool.true_and] at k ⊢
          refine k269 hw HS R3 I lt64 ?_
          intro D4 s4
          have s24 := s23.tr s4
          simp only [b305_87 hw, mI_thrown HS, mF_thrown HS, mR_row HS, mR_image HS, mR_earlier HS, mR_trial HS, mR_acts HS, mI_hasImage HS, mF_hasImage HS, mI_remembered HS, mF_remembered HS, mR_tape HS, mI_taped HS, mF_taped HS, mI_point HS, mF_point HS, mI_end HS, mF_end HS, mI_begin HS, mF_begin HS, mI_deep HS, mF_deep HS, mI_faultAt HS, mF_faultAt HS, mR_five HS, mI_codes HS, mF_codes HS, mR_value HS, mI_so HS, mF_so HS, mR_lines HS, mR_chosen HS, mR_best HS, mR_members HS, mR_paired HS, mO HS, mA_287 HS, mW_287 HS, mA_288 HS, mW_288 HS, mA_289 HS, mW_289 HS, mA_290 HS, mW_290 HS, mA_291 HS, mW_291 HS, mA_292 HS, mW_292 HS, mA_293 HS, mW_293 HS, mA_294 HS, mW_294 HS, mA_295 HS, mW_295 HS, mA_296 HS, mW_296 HS, mA_297 HS, mW_297 HS, mA_298 HS, mW_298 HS, mA_299 HS, mW_299 HS, wi_some, or_0, or_1, bo_or, ite_boP, true_and, and_true, kN_v, kN_n, kT_v, kT_n, kT_e, Nat.add_zero, Nat.zero_add, k304 hw HS hv hok (u1.sm s24), b305_90 hw, b305_97 hw, b305_98 hw, b305_99 hw, oN_add]
          cases htd : toldP G (nowS (gV G.1) (gt G.1) (gg G.1) ((gV G.1) 1 1) (gN (gV G.1) (gg G.1) ||| z)) with
          | false => simp only [htd, Bool.false_eq_true, if_false] at k ⊢; exact k D4 s24
          | true => simp only [htd, if_true] at k ⊢; exact k D4 s24
      have fw : fewer (Int32.ofNat z) x = (decide (x = -1) || decide (bc (Int32.ofNat z) < bc x)) := rfl
      by_cases hx : x = -1
      · simp only [hx, if_true]
        rw [← hx]
        exact go (by rw [fw, decide_eq_true hx, Bool.true_or])
      · simp only [hx, if_false]
        by_cases hb : bc (Int32.ofNat z) < bc x
        · simp only [hb, if_true]
          exact go (by rw [fw, decide_eq_true hb, Bool.or_true])
        · simp only [hb, if_false]
          have hf : fewer (Int32.ofNat z) x = false := by rw [fw, decide_eq_false hx, decide_eq_false hb]; rfl
          simp only [hf, Bool.false_and, Bool.false_eq_true, if_false] at k
          exact k D2 s2
    · intro D2 s2
      have h2 := h1.sm hv s2
      have R2 : Rw (D2 287) (gV G.1) (gt G.1) (gg G.1) (gr G.1) (gl G.1) := h2.1.1
      rw [b305_35 hw]
      simp only [mI_thrown HS, mF_thrown HS, mR_row HS, mR_image HS, mR_earlier HS, mR_trial HS, mR_acts HS, mI_hasImage HS, mF_hasImage HS, mI_remembered HS, mF_remembered HS, mR_tape HS, mI_taped HS, mF_taped HS, mI_point HS, mF_point HS, mI_end HS, mF_end HS, mI_begin HS, mF_begin HS, mI_deep HS, mF_deep HS, mI_faultAt HS, mF_faultAt HS, mR_five HS, mI_codes HS, mF_codes HS, mR_value HS, mI_so HS, mF_so HS, mR_lines HS, mR_chosen HS, mR_best HS, mR_members HS, mR_paired HS, mO HS, mA_287 HS, mW_287 HS, mA_288 HS, mW_288 HS, mA_289 HS, mW_289 HS, mA_290 HS, mW_290 HS, mA_291 HS, mW_291 HS, mA_292 HS, mW_292 HS, mA_293 HS, mW_293 HS, mA_294 HS, mW_294 HS, mA_295 HS, mW_295 HS, mA_296 HS, mW_296 HS, mA_297 HS, mW_297 HS, mA_298 HS, mW_298 HS, mA_299 HS, mW_299 HS, wi_some, or_0, or_1, bo_or, ite_boP, true_and, and_true, kN_v, kN_n, kT_v, kT_n, kT_e, Nat.add_zero, Nat.zero_add, k206 hw HS R2 hng, b305_40 hw, oN_lt (show 2 ^ (gg G.1) - 1 < 2147483648 by omega) (show 2 ^ (gg G.1) < 2147483648 by omega), show 2 ^ (gg G.1) - 1 < 2 ^ (gg G.1) by omega, if_true]
      exact kk D2 h2 (f1.tr s2.ms.1) (by rw [s2 286 0 (by omega), t1])
theorem m_who {b : Bool} (hw : WT sh) (HS : SP sh) (hv : GV G) (h : GR D G) (kk : ∀ D', GR D' (tkG G) → Fm D D' → D' 286 0 = Int32.ofNat (th (o_who G b)) → Q (.inl (some (.int (rv (o_who G b))))) (mk sh D') c s) : Wx (tP nx xs) (d + 6) 307 0 [some (.ref 286), (some (.int (bo b))), none, none, none] [] (mk sh D) c s Q := by
  have hng := i_ng6 hv.1
  have n10 : ¬ (Int32.ofNat 1 : Int32) = Int32.ofNat 0 := by decide
  unfold o_who at kk
  simp only [b307_0 hw, mI_thrown HS, mF_thrown HS, mR_row HS, mR_image HS, mR_earlier HS, mR_trial HS, mR_acts HS, mI_hasImage HS, mF_hasImage HS, mI_remembered HS, mF_remembered HS, mR_tape HS, mI_taped HS, mF_taped HS, mI_point HS, mF_point HS, mI_end HS, mF_end HS, mI_begin HS, mF_begin HS, mI_deep HS, mF_deep HS, mI_faultAt HS, mF_faultAt HS, mR_five HS, mI_codes HS, mF_codes HS, mR_value HS, mI_so HS, mF_so HS, mR_lines HS, mR_chosen HS, mR_best HS, mR_members HS, mR_paired HS, mO HS, mA_287 HS, mW_287 HS, mA_288 HS, mW_288 HS, mA_289 HS, mW_289 HS, mA_290 HS, mW_290 HS, mA_291 HS, mW_291 HS, mA_292 HS, mW_292 HS, mA_293 HS, mW_293 HS, mA_294 HS, mW_294 HS, mA_295 HS, mW_295 HS, mA_296 HS, mW_296 HS, mA_297 HS, mW_297 HS, mA_298 HS, mW_298 HS, mA_299 HS, mW_299 HS, wi_some, or_0, or_1, bo_or, ite_boP, true_and, and_true, kN_v, kN_n, kT_v, kT_n, kT_e, Nat.add_zero, Nat.zero_add]
  refine k227 hw HS hv h ?_
  intro D1 h1 f1 u1 t1
  simp only [wi_some, or_0, or_1, bo_or, ite_boP, true_and, and_true, kN_v, kN_n, kT_v, kT_n, kT_e, Nat.add_zero, Nat.zero_add, b307_4 hw, mI_thrown HS, mF_thrown HS, mR_row HS, mR_image HS, mR_earlier HS, mR_trial HS, mR_acts HS, mI_hasImage HS, mF_hasImage HS, mI_remembered HS, mF_remembered HS, mR_tape HS, mI_taped HS, mF_taped HS, mI_point HS, mF_point HS, mI_end HS, mF_end HS, mI_begin HS, mF_begin HS, mI_deep HS, mF_deep HS, mI_faultAt HS, mF_faultAt HS, mR_five HS, mI_codes HS, mF_codes HS, mR_value HS, mI_so HS, mF_so HS, mR_lines HS, mR_chosen HS, mR_best HS, mR_members HS, mR_paired HS, mO HS, mA_287 HS, mW_287 HS, mA_288 HS, mW_288 HS, mA_289 HS, mW_289 HS, mA_290 HS, mW_290 HS, mA_291 HS, mW_291 HS, mA_292 HS, mW_292 HS, mA_293 HS, mW_293 HS, mA_294 HS, mW_294 HS, mA_295 HS, mW_295 HS, mA_296 HS, mW_296 HS, mA_297 HS, mW_297 HS, mA_298 HS, mW_298 HS, mA_299 HS, mW_299 HS, k303 hw HS hv h1 u1, b307_9 hw]
  cases hok : tlOk G with
  | false =>
    simp only [hok, th, rv, b307_17 hw, mI_thrown HS, mF_thrown HS, mR_row HS, mR_image HS, mR_earlier HS, mR_trial HS, mR_acts HS, mI_hasImage HS, mF_hasImage HS, mI_remembered HS, mF_remembered HS, mR_tape HS, mI_taped HS, mF_taped HS, mI_point HS, mF_point HS, mI_end HS, mF_end HS, mI_begin HS, mF_begin HS, mI_deep HS, mF_deep HS, mI_faultAt HS, mF_faultAt HS, mR_five HS, mI_codes HS, mF_codes HS, mR_value HS, mI_so HS, mF_so HS, mR_lines HS, mR_chosen HS, mR_best HS, mR_members HS, mR_paired HS, mO HS, mA_287 HS, mW_287 HS, mA_288 HS, mW_288 HS, mA_289 HS, mW_289 HS, mA_290 HS, mW_290 HS, mA_291 HS, mW_291 HS, mA_292 HS, mW_292 HS, mA_293 HS, mW_293 HS, mA_294 HS, mW_294 HS, mA_295 HS, mW_295 HS, mA_296 HS, mW_296 HS, mA_297 HS, mW_297 HS, mA_298 HS, mW_298 HS, mA_299 HS, mW_299 HS, wi_some, or_0, or_1, bo_or, ite_boP, true_and, and_true, kN_v, kN_n, kT_v, kT_n, kT_e, Nat.add_zero, Nat.zero_add, k187t hw HS, b307_21 hw, n10, if_false, Bool.false_eq_true] at kk ⊢
    exact kk _ (h1.ms hv.tk Ms.rf.th) (f1.tr (Ms.rf.th (v := Int32.ofNat 1)).1) (by simp [u2_at])
  | true =>
    have R1 : Rw (D1 287) (gV G.1) (gt G.1) (gg G.1) (gr G.1) (gl G.1) := h1.1.1
    have e64 := everyN hv.1
    have p0 : 0 < 2 ^ (gg G.1) := Nat.pow_pos (by decide)
    simp only [hok, if_true, th, rv] at kk
    simp only [if_true, b307_17 hw, mI_thrown HS, mF_thrown HS, mR_row HS, mR_image HS, mR_earlier HS, mR_trial HS, mR_acts HS, mI_hasImage HS, mF_hasImage HS, mI_remembered HS, mF_remembered HS, mR_tape HS, mI_taped HS, mF_taped HS, mI_point HS, mF_point HS, mI_end HS, mF_end HS, mI_begin HS, mF_begin HS, mI_deep HS, mF_deep HS, mI_faultAt HS, mF_faultAt HS, mR_five HS, mI_codes HS, mF_codes HS, mR_value HS, mI_so HS, mF_so HS, mR_lines HS, mR_chosen HS, mR_best HS, mR_members HS, mR_paired HS, mO HS, mA_287 HS, mW_287 HS, mA_288 HS, mW_288 HS, mA_289 HS, mW_289 HS, mA_290 HS, mW_290 HS, mA_291 HS, mW_291 HS, mA_292 HS, mW_292 HS, mA_293 HS, mW_293 HS, mA_294 HS, mW_294 HS, mA_295 HS, mW_295 HS, mA_296 HS, mW_296 HS, mA_297 HS, mW_297 HS, mA_298 HS, mW_298 HS, mA_299 HS, mW_299 HS, wi_some, or_0, or_1, bo_or, ite_boP, true_and, and_true, kN_v, kN_n, kT_v, kT_n, kT_e, Nat.add_zero, Nat.zero_add, k187f hw HS, b307_21 hw, k206 hw HS R1 hng, b307_34 hw]
    have hl : ∀ j, j ≤ 2 ^ (gg G.1) → ∀ D2, Sm D1 D2 → Wx (tP nx xs) (d + 6) 307 36 [some (.ref 286), (some (.int (bo b))), (some (.int (Int32.ofNat (nS (ftP G) (2 ^ (gg G.1)) - nS (ftP G) j)))), (some (.int (fst1 (ftP G) (2 ^ (gg G.1) - j) j))), (some (.int (Int32.ofNat j + (-1))))] [] (mk sh D2) c s Q := by
      intro j
      induction j with
      | zero =>
        intro _ D2 s2
        have fin := kk D2 (h1.sm hv s2) (f1.tr s2.ms.1) (by rw [s2 286 0 (by omega), t1])
        rw [b307_36 hw, if_pos (by decide)]
        cases b with
        | true => simp only [bo_t, n10, if_false, if_true, b307_74 hw, Nat.sub_zero] at fin ⊢; exact fin
        | false =>
          simp only [bo_f, if_true, if_false, Bool.false_eq_true, b307_74 hw] at fin ⊢
          exact fin
      | succ j ih =>
        intro hj D2 s2
        have h2 := h1.sm hv s2
        rw [b307_36 hw]
        simp only [oN_m1, oN_lt (show j < 2147483648 by omega) (show 0 < 2147483648 by omega), Nat.not_lt_zero, if_false, mI_thrown HS, mF_thrown HS, mR_row HS, mR_image HS, mR_earlier HS, mR_trial HS, mR_acts HS, mI_hasImage HS, mF_hasImage HS, mI_remembered HS, mF_remembered HS, mR_tape HS, mI_taped HS, mF_taped HS, mI_point HS, mF_point HS, mI_end HS, mF_end HS, mI_begin HS, mF_begin HS, mI_deep HS, mF_deep HS, mI_faultAt HS, mF_faultAt HS, mR_five HS, mI_codes HS, mF_codes HS, mR_value HS, mI_so HS, mF_so HS, mR_lines HS, mR_chosen HS, mR_best HS, mR_members HS, mR_paired HS, mO HS, mA_287 HS, mW_287 HS, mA_288 HS, mW_288 HS, mA_289 HS, mW_289 HS, mA_290 HS, mW_290 HS, mA_291 HS, mW_291 HS, mA_292 HS, mW_292 HS, mA_293 HS, mW_293 HS, mA_294 HS, mW_294 HS, mA_295 HS, mW_295 HS, mA_296 HS, mW_296 HS, mA_297 HS, mW_297 HS, mA_298 HS, mW_298 HS, mA_299 HS, mW_299 HS, wi_some, or_0, or_1, bo_or, ite_boP, true_and, and_true, kN_v, kN_n, kT_v, kT_n, kT_e, Nat.add_zero, Nat.zero_add]
        refine k306 hw HS hv h2 hok (u1.sm s2) ?_
        intro D3 s3
        have ih := ih (by omega) D3 (s2.tr s3)
        have m := nS_mono (ftP G) hj
        rw [show fst1 (ftP G) (2 ^ (gg G.1) - j) j = if ftP G j then Int32.ofNat j else fst1 (ftP G) (2 ^ (gg G.1) - (j + 1)) (j + 1) by rw [show 2 ^ (gg G.1) - j = 2 ^ (gg G.1) - (j + 1) + 1 by omega]; rfl] at ih
        rw [nS_succ] at m ⊢
        simp only [b307_47 hw, wi_some, or_0, or_1, bo_or, ite_boP, true_and, and_true, kN_v, kN_n, kT_v, kT_n, kT_e, Nat.add_zero, Nat.zero_add, b307_59 hw]
        cases hf : ftP G j with
        | false =>
          simp only [hf, Bool.false_eq_true, if_false, if_true, Nat.add_zero] at ih m ⊢
          exact ih
        | true =>
          simp only [hf, if_true, if_false, oN_add] at ih m ⊢
          rw [show nS (ftP G) (2 ^ (gg G.1)) - (nS (ftP G) j + 1) + 1 = nS (ftP G) (2 ^ (gg G.1)) - nS (ftP G) j by omega]
          exact ih
    have := hl (2 ^ (gg G.1)) (Nat.le_refl _) D1 Sm.rf
    rw [Nat.sub_self, Nat.sub_self, show Int32.ofNat (2 ^ (gg G.1)) + (-1) = Int32.ofNat (2 ^ (gg G.1) - 1) by rw [show 2 ^ (gg G.1) = 2 ^ (gg G.1) - 1 + 1 by omega, oN_m1]; rfl] at this
    exact this
theorem m_look (hw : WT sh) (HS : SP sh) (hv : GV G) (h : GR D G) (kk : ∀ D', GR D' (tkG G) → Fm D D' → D' 286 0 = Int32.ofNat (th (o_look G)) → Q (.inl (some (.int (rv (o_look G))))) (mk sh D') c s) : Wx (tP nx xs) (d + 6) 308 0 [some (.ref 286), none, none, none, none, none, none, none] [] (mk sh D) c s Q := by
  have hng := i_ng6 hv.1
  have hnt := i_nt8 hv.1
  have n10 : ¬ (Int32.ofNat 1 : Int32) = Int32.ofNat 0 := by decide
  unfold o_look at kk
  simp only [b308_0 hw, mI_thrown HS, mF_thrown HS, mR_row HS, mR_image HS, mR_earlier HS, mR_trial HS, mR_acts HS, mI_hasImage HS, mF_hasImage HS, mI_remembered HS, mF_remembered HS, mR_tape HS, mI_taped HS, mF_taped HS, mI_point HS, mF_point HS, mI_end HS, mF_end HS, mI_begin HS, mF_begin HS, mI_deep HS, mF_deep HS, mI_faultAt HS, mF_faultAt HS, mR_five HS, mI_codes HS, mF_codes HS, mR_value HS, mI_so HS, mF_so HS, mR_lines HS, mR_chosen HS, mR_best HS, mR_members HS, mR_paired HS, mO HS, mA_287 HS, mW_287 HS, mA_288 HS, mW_288 HS, mA_289 HS, mW_289 HS, mA_290 HS, mW_290 HS, mA_291 HS, mW_291 HS, mA_292 HS, mW_292 HS, mA_293 HS, mW_293 HS, mA_294 HS, mW_294 HS, mA_295 HS, mW_295 HS, mA_296 HS, mW_296 HS, mA_297 HS, mW_297 HS, mA_298 HS, mW_298 HS, mA_299 HS, mW_299 HS, wi_some, or_0, or_1, bo_or, ite_boP, true_and, and_true, kN_v, kN_n, kT_v, kT_n, kT_e, Nat.add_zero, Nat.zero_add]
  refine k227 hw HS hv h ?_
  intro D1 h1 f1 u1 t1
  simp only [wi_some, or_0, or_1, bo_or, ite_boP, true_and, and_true, kN_v, kN_n, kT_v, kT_n, kT_e, Nat.add_zero, Nat.zero_add, b308_4 hw, mI_thrown HS, mF_thrown HS, mR_row HS, mR_image HS, mR_earlier HS, mR_trial HS, mR_acts HS, mI_hasImage HS, mF_hasImage HS, mI_remembered HS, mF_remembered HS, mR_tape HS, mI_taped HS, mF_taped HS, mI_point HS, mF_point HS, mI_end HS, mF_end HS, mI_begin HS, mF_begin HS, mI_deep HS, mF_deep HS, mI_faultAt HS, mF_faultAt HS, mR_five HS, mI_codes HS, mF_codes HS, mR_value HS, mI_so HS, mF_so HS, mR_lines HS, mR_chosen HS, mR_best HS, mR_members HS, mR_paired HS, mO HS, mA_287 HS, mW_287 HS, mA_288 HS, mW_288 HS, mA_289 HS, mW_289 HS, mA_290 HS, mW_290 HS, mA_291 HS, mW_291 HS, mA_292 HS, mW_292 HS, mA_293 HS, mW_293 HS, mA_294 HS, mW_294 HS, mA_295 HS, mW_295 HS, mA_296 HS, mW_296 HS, mA_297 HS, mW_297 HS, mA_298 HS, mW_298 HS, mA_299 HS, mW_299 HS, k303 hw HS hv h1 u1, b308_9 hw]
  cases hok : tlOk G with
  | false =>
    simp only [hok, th, rv, b308_17 hw, mI_thrown HS, mF_thrown HS, mR_row HS, mR_image HS, mR_earlier HS, mR_trial HS, mR_acts HS, mI_hasImage HS, mF_hasImage HS, mI_remembered HS, mF_remembered HS, mR_tape HS, mI_taped HS, mF_taped HS, mI_point HS, mF_point HS, mI_end HS, mF_end HS, mI_begin HS, mF_begin HS, mI_deep HS, mF_deep HS, mI_faultAt HS, mF_faultAt HS, mR_five HS, mI_codes HS, mF_codes HS, mR_value HS, mI_so HS, mF_so HS, mR_lines HS, mR_chosen HS, mR_best HS, mR_members HS, mR_paired HS, mO HS, mA_287 HS, mW_287 HS, mA_288 HS, mW_288 HS, mA_289 HS, mW_289 HS, mA_290 HS, mW_290 HS, mA_291 HS, mW_291 HS, mA_292 HS, mW_292 HS, mA_293 HS, mW_293 HS, mA_294 HS, mW_294 HS, mA_295 HS, mW_295 HS, mA_296 HS, mW_296 HS, mA_297 HS, mW_297 HS, mA_298 HS, mW_298 HS, mA_299 HS, mW_299 HS, wi_some, or_0, or_1, bo_or, ite_boP, true_and, and_true, kN_v, kN_n, kT_v, kT_n, kT_e, Nat.add_zero, Nat.zero_add, k187t hw HS, b308_21 hw, n10, if_false, Bool.false_eq_true] at kk ⊢
    exact kk _ (h1.ms hv.tk Ms.rf.th) (f1.tr (Ms.rf.th (v := Int32.ofNat 1)).1) (by simp [u2_at])
  | true =>
    have I : Iv (gV G.1) (gt G.1) (gg G.1) (gr G.1) (gl G.1) := hv.1
    have e64 := everyN hv.1
    have p0 : 0 < 2 ^ (gg G.1) := Nat.pow_pos (by decide)
    have lA : lkA G ≤ 64 := Nat.le_trans (nS_le _ _) e64
    simp only [hok, if_true, th, rv] at kk
    rw [← lkR_eq G lA] at kk
    simp only [if_true, b308_17 hw, mI_thrown HS, mF_thrown HS, mR_row HS, mR_image HS, mR_earlier HS, mR_trial HS, mR_acts HS, mI_hasImage HS, mF_hasImage HS, mI_remembered HS, mF_remembered HS, mR_tape HS, mI_taped HS, mF_taped HS, mI_point HS, mF_point HS, mI_end HS, mF_end HS, mI_begin HS, mF_begin HS, mI_deep HS, mF_deep HS, mI_faultAt HS, mF_faultAt HS, mR_five HS, mI_codes HS, mF_codes HS, mR_value HS, mI_so HS, mF_so HS, mR_lines HS, mR_chosen HS, mR_best HS, mR_members HS, mR_paired HS, mO HS, mA_287 HS, mW_287 HS, mA_288 HS, mW_288 HS, mA_289 HS, mW_289 HS, mA_290 HS, mW_290 HS, mA_291 HS, mW_291 HS, mA_292 HS, mW_292 HS, mA_293 HS, mW_293 HS, mA_294 HS, mW_294 HS, mA_295 HS, mW_295 HS, mA_296 HS, mW_296 HS, mA_297 HS, mW_297 HS, mA_298 HS, mW_298 HS, mA_299 HS, mW_299 HS, wi_some, or_0, or_1, bo_or, ite_boP, true_and, and_true, kN_v, kN_n, kT_v, kT_n, kT_e, Nat.add_zero, Nat.zero_add, k187f hw HS, b308_21 hw]
    suffices hl : ∀ l4 l5 l6 l7, Wx (tP nx xs) (d + 6) 308 33 [some (.ref 286), (some (.int (-1))), (some (.int (Int32.ofNat 1000000))), (some (.int (Int32.ofNat 0))), l4, l5, l6, l7] [] (mk sh D1) c s Q by exact hl none none none none
    refine up_P (W := fun i (x : Int32 × Nat) D => ∀ l4 l5 l6 l7, Wx (tP nx xs) (d + 6) 308 33 [some (.ref 286), (some (.int (x.1))), (some (.int (Int32.ofNat x.2))), (some (.int (Int32.ofNat i))), l4, l5, l6, l7] [] (mk sh D) c s Q) (P := fun _ x D' => Sm D1 D' ∧ x.2 ≤ 1000000) (F := lkR G) (gt G.1) ?_ ((-1 : Int32), 1000000) D1 ⟨Sm.rf, Nat.le_refl _⟩ ?_
    · intro t x D2 ht ⟨s2, hx⟩ k l4 l5 l6 l7
      have h2 := h1.sm hv s2
      have R2 : Rw (D2 287) (gV G.1) (gt G.1) (gg G.1) (gr G.1) (gl G.1) := h2.1.1
      rw [b308_33 hw]
      simp only [mI_thrown HS, mF_thrown HS, mR_row HS, mR_image HS, mR_earlier HS, mR_trial HS, mR_acts HS, mI_hasImage HS, mF_hasImage HS, mI_remembered HS, mF_remembered HS, mR_tape HS, mI_taped HS, mF_taped HS, mI_point HS, mF_point HS, mI_end HS, mF_end HS, mI_begin HS, mF_begin HS, mI_deep HS, mF_deep HS, mI_faultAt HS, mF_faultAt HS, mR_five HS, mI_codes HS, mF_codes HS, mR_value HS, mI_so HS, mF_so HS, mR_lines HS, mR_chosen HS, mR_best HS, mR_members HS, mR_paired HS, mO HS, mA_287 HS, mW_287 HS, mA_288 HS, mW_288 HS, mA_289 HS, mW_289 HS, mA_290 HS, mW_290 HS, mA_291 HS, mW_291 HS, mA_292 HS, mW_292 HS, mA_293 HS, mW_293 HS, mA_294 HS, mW_294 HS, mA_295 HS, mW_295 HS, mA_296 HS, mW_296 HS, mA_297 HS, mW_297 HS, mA_298 HS, mW_298 HS, mA_299 HS, mW_299 HS, wi_some, or_0, or_1, bo_or, ite_boP, true_and, and_true, kN_v, kN_n, kT_v, kT_n, kT_e, Nat.add_zero, Nat.zero_add, k197 hw HS, r_nt R2, b308_38 hw, oN_lt (show t < 2147483648 by omega) (show (gt G.1) < 2147483648 by omega), ht, if_true]
      refine up_P (W := fun z (_ : Nat) D => ∀ l7, Wx (tP nx xs) (d + 6) 308 50 [some (.ref 286), (some (.int (x.1))), (some (.int (Int32.ofNat x.2))), (some (.int (Int32.ofNat t))), (some (.int (Int32.ofNat (nS (fun z => wbt G z t && ftP G z) z)))), (some (.int (Int32.ofNat (nS (fun z => !wbt G z t && ftP G z) z)))), (some (.int (Int32.ofNat z))), l7] [] (mk sh D) c s Q) (P := fun _ _ D' => Sm D1 D') (F := fun _ x => x) (2 ^ (gg G.1)) ?_ 0 D2 s2 ?_ l7
      · intro z _ D3 hz s3 k3 l7
        have h3 := h1.sm hv s3
        have R3 : Rw (D3 287) (gV G.1) (gt G.1) (gg G.1) (gr G.1) (gl G.1) := h3.1.1
        rw [b308_50 hw]
        simp only [mI_thrown HS, mF_thrown HS, mR_row HS, mR_image HS, mR_earlier HS, mR_trial HS, mR_acts HS, mI_hasImage HS, mF_hasImage HS, mI_remembered HS, mF_remembered HS, mR_tape HS, mI_taped HS, mF_taped HS, mI_point HS, mF_point HS, mI_end HS, mF_end HS, mI_begin HS, mF_begin HS, mI_deep HS, mF_deep HS, mI_faultAt HS, mF_faultAt HS, mR_five HS, mI_codes HS, mF_codes HS, mR_value HS, mI_so HS, mF_so HS, mR_lines HS, mR_chosen HS, mR_best HS, mR_members HS, mR_paired HS, mO HS, mA_287 HS, mW_287 HS, mA_288 HS, mW_288 HS, mA_289 HS, mW_289 HS, mA_290 HS, mW_290 HS, mA_291 HS, mW_291 HS, mA_292 HS, mW_292 HS, mA_293 HS, mW_293 HS, mA_294 HS, mW_294 HS, mA_295 HS, mW_295 HS, mA_296 HS, mW_296 HS, mA_297 HS, mW_297 HS, mA_298 HS, mW_298 HS, mA_299 HS, mW_299 HS, wi_some, or_0, or_1, bo_or, ite_boP, true_and, and_true, kN_v, kN_n, kT_v, kT_n, kT_e, Nat.add_zero, Nat.zero_add, k206 hw HS R3 hng, b308_56 hw, oN_lt (show 2 ^ (gg G.1) - 1 < 2147483648 by omega) (show z < 2147483648 by omega), show ¬ 2 ^ (gg G.1) - 1 < z by omega, if_false]
        refine k306 hw HS hv h3 hok (u1.sm s3) ?_
        intro D4 s4
        have s34 := s3.tr s4
        have R4 : Rw (D4 287) (gV G.1) (gt G.1) (gg G.1) (gr G.1) (gl G.1) := (h1.sm hv s34).1.1
        simp only [nS_succ] at k3
        simp only [b308_65 hw, mI_thrown HS, mF_thrown HS, mR_row HS, mR_image HS, mR_earlier HS, mR_trial HS, mR_acts HS, mI_hasImage HS, mF_hasImage HS, mI_remembered HS, mF_remembered HS, mR_tape HS, mI_taped HS, mF_taped HS, mI_point HS, mF_point HS, mI_end HS, mF_end HS, mI_begin HS, mF_begin HS, mI_deep HS, mF_deep HS, mI_faultAt HS, mF_faultAt HS, mR_five HS, mI_codes HS, mF_codes HS, mR_value HS, mI_so HS, mF_so HS, mR_lines HS, mR_chosen HS, mR_best HS, mR_members HS, mR_paired HS, mO HS, mA_287 HS, mW_287 HS, mA_288 HS, mW_288 HS, mA_289 HS, mW_289 HS, mA_290 HS, mW_290 HS, mA_291 HS, mW_291 HS, mA_292 HS, mW_292 HS, mA_293 HS, mW_293 HS, mA_294 HS, mW_294 HS, mA_295 HS, mW_295 HS, mA_296 HS, mW_296 HS, mA_297 HS, mW_297 HS, mA_298 HS, mW_298 HS, mA_299 HS, mW_299 HS, wi_some, or_0, or_1, bo_or, ite_boP, true_and, and_true, kN_v, kN_n, kT_v, kT_n, kT_e, Nat.add_zero, Nat.zero_add, b308_91 hw, b308_92 hw, b308_119 hw, b308_120 hw, oN_add]
        cases hf : ftP G z with
        | false =>
          simp only [hf, Bool.and_false, Bool.false_eq_true, if_false, if_true, bo_f, oN_add, Nat.add_zero] at k3 ⊢
          exact k3 D4 s34 _
        | true =>
          simp only [hf, Bool.and_true, if_true, if_false] at k3 ⊢
          refine k265 hw HS R4 I ?_
          intro D5 s5
          have s35 := s34.tr s5
          have R5 : Rw (D5 287) (gV G.1) (gt G.1) (gg G.1) (gr G.1) (gl G.1) := (h1.sm hv s35).1.1
          have ew : bt (wS (gV G.1) (gt G.1) (gg G.1) ((gV G.1) 1 1) (Int32.ofNat z)) t = wbt G z t := rfl
          simp only [b308_80 hw, k189 hw (show t < 32 by omega), wi_some, or_0, or_1, bo_or, ite_boP, true_and, and_true, kN_v, kN_n, kT_v, kT_n, kT_e, Nat.add_zero, Nat.zero_add, b308_84 hw, b308_91 hw, b308_92 hw, mI_thrown HS, mF_thrown HS, mR_row HS, mR_image HS, mR_earlier HS, mR_trial HS, mR_acts HS, mI_hasImage HS, mF_hasImage HS, mI_remembered HS, mF_remembered HS, mR_tape HS, mI_taped HS, mF_taped HS, mI_point HS, mF_point HS, mI_end HS, mF_end HS, mI_begin HS, mF_begin HS, mI_deep HS, mF_deep HS, mI_faultAt HS, mF_faultAt HS, mR_five HS, mI_codes HS, mF_codes HS, mR_value HS, mI_so HS, mF_so HS, mR_lines HS, mR_chosen HS, mR_best HS, mR_members HS, mR_paired HS, mO HS, mA_287 HS, mW_287 HS, mA_288 HS, mW_288 HS, mA_289 HS, mW_289 HS, mA_290 HS, mW_290 HS, mA_291 HS, mW_291 HS, mA_292 HS, mW_292 HS, mA_293 HS, mW_293 HS, mA_294 HS, mW_294 HS, mA_295 HS, mW_295 HS, mA_296 HS, mW_296 HS, mA_297 HS, mW_297 HS, mA_298 HS, mW_298 HS, mA_299 HS, mW_299 HS, ew]
          cases hb : wbt G z t with
          | true =>
            simp only [hb, if_true, if_false, bo_t, n10, mI_thrown HS, mF_thrown HS, mR_row HS, mR_image HS, mR_earlier HS, mR_trial HS, mR_acts HS, mI_hasImage HS, mF_hasImage HS, mI_remembered HS, mF_remembered HS, mR_tape HS, mI_taped HS, mF_taped HS, mI_point HS, mF_point HS, mI_end HS, mF_end HS, mI_begin HS, mF_begin HS, mI_deep HS, mF_deep HS, mI_faultAt HS, mF_faultAt HS, mR_five HS, mI_codes HS, mF_codes HS, mR_value HS, mI_so HS, mF_so HS, mR_lines HS, mR_chosen HS, mR_best HS, mR_members HS, mR_paired HS, mO HS, mA_287 HS, mW_287 HS, mA_288 HS, mW_288 HS, mA_289 HS, mW_289 HS, mA_290 HS, mW_290 HS, mA_291 HS, mW_291 HS, mA_292 HS, mW_292 HS, mA_293 HS, mW_293 HS, mA_294 HS, mW_294 HS, mA_295 HS, mW_295 HS, mA_296 HS, mW_296 HS, mA_297 HS, mW_297 HS, mA_298 HS, mW_298 HS, mA_299 HS, mW_299 HS, wi_some, or_0, or_1, bo_or, ite_boP, true_and, and_true, kN_v, kN_n, kT_v, kT_n, kT_e, Nat.add_zero, Nat.zero_add, Bool.not_true, Bool.false_eq_true, Nat.add_zero] at k3 ⊢
            refine k265 hw HS R5 I ?_
            intro D6 s6
            simp only [b308_108 hw, k189 hw (show t < 32 by omega), wi_some, or_0, or_1, bo_or, ite_boP, true_and, and_true, kN_v, kN_n, kT_v, kT_n, kT_e, Nat.add_zero, Nat.zero_add, b308_112 hw, b308_119 hw, b308_120 hw, ew, hb, bo_t, n10, if_false, if_true, oN_add, Nat.add_zero]
            exact k3 D6 (s35.tr s6) _
          | false =>
            simp only [hb, if_true, if_false, bo_t, n10, mI_thrown HS, mF_thrown HS, mR_row HS, mR_image HS, mR_earlier HS, mR_trial HS, mR_acts HS, mI_hasImage HS, mF_hasImage HS, mI_remembered HS, mF_remembered HS, mR_tape HS, mI_taped HS, mF_taped HS, mI_point HS, mF_point HS, mI_end HS, mF_end HS, mI_begin HS, mF_begin HS, mI_deep HS, mF_deep HS, mI_faultAt HS, mF_faultAt HS, mR_five HS, mI_codes HS, mF_codes HS, mR_value HS, mI_so HS, mF_so HS, mR_lines HS, mR_chosen HS, mR_best HS, mR_members HS, mR_paired HS, mO HS, mA_287 HS, mW_287 HS, mA_288 HS, mW_288 HS, mA_289 HS, mW_289 HS, mA_290 HS, mW_290 HS, mA_291 HS, mW_291 HS, mA_292 HS, mW_292 HS, mA_293 HS, mW_293 HS, mA_294 HS, mW_294 HS, mA_295 HS, mW_295 HS, mA_296 HS, mW_296 HS, mA_297 HS, mW_297 HS, mA_298 HS, mW_298 HS, mA_299 HS, mW_299 HS, wi_some, or_0, or_1, bo_or, ite_boP, true_and, and_true, kN_v, kN_n, kT_v, kT_n, kT_e, Nat.add_zero, Nat.zero_add, Bool.not_false, Bool.false_eq_true, Nat.add_zero] at k3 ⊢
            refine k265 hw HS R5 I ?_
            intro D6 s6
            simp only [b308_108 hw, k189 hw (show t < 32 by omega), wi_some, or_0, or_1, bo_or, ite_boP, true_and, and_true, kN_v, kN_n, kT_v, kT_n, kT_e, Nat.add_zero, Nat.zero_add, b308_112 hw, b308_119 hw, b308_120 hw, ew, hb, bo_f, n10, if_false, if_true, oN_add, Nat.add_zero, Bool.false_eq_true]
            exact k3 D6 (s35.tr s6) _
      · intro D3 s3 l7
        have h3 := h1.sm hv s3
        have R3 : Rw (D3 287) (gV G.1) (gt G.1) (gg G.1) (gr G.1) (gl G.1) := h3.1.1
        have sm := nS_sum G t (2 ^ (gg G.1))
        have l := lk_le G t
        have eT : nS (fun z => wbt G z t && ftP G z) (2 ^ (gg G.1)) = lkT G t := rfl
        have eA : nS (ftP G) (2 ^ (gg G.1)) = lkA G := rfl
        rw [eT, eA] at sm
        have eN : nS (fun z => !wbt G z t && ftP G z) (2 ^ (gg G.1)) = lkA G - lkT G t := by omega
        rw [b308_50 hw]
        simp only [mI_thrown HS, mF_thrown HS, mR_row HS, mR_image HS, mR_earlier HS, mR_trial HS, mR_acts HS, mI_hasImage HS, mF_hasImage HS, mI_remembered HS, mF_remembered HS, mR_tape HS, mI_taped HS, mF_taped HS, mI_point HS, mF_point HS, mI_end HS, mF_end HS, mI_begin HS, mF_begin HS, mI_deep HS, mF_deep HS, mI_faultAt HS, mF_faultAt HS, mR_five HS, mI_codes HS, mF_codes HS, mR_value HS, mI_so HS, mF_so HS, mR_lines HS, mR_chosen HS, mR_best HS, mR_members HS, mR_paired HS, mO HS, mA_287 HS, mW_287 HS, mA_288 HS, mW_288 HS, mA_289 HS, mW_289 HS, mA_290 HS, mW_290 HS, mA_291 HS, mW_291 HS, mA_292 HS, mW_292 HS, mA_293 HS, mW_293 HS, mA_294 HS, mW_294 HS, mA_295 HS, mW_295 HS, mA_296 HS, mW_296 HS, mA_297 HS, mW_297 HS, mA_298 HS, mW_298 HS, mA_299 HS, mW_299 HS, wi_some, or_0, or_1, bo_or, ite_boP, true_and, and_true, kN_v, kN_n, kT_v, kT_n, kT_e, Nat.add_zero, Nat.zero_add, k206 hw HS R3 hng, b308_56 hw, oN_lt (show 2 ^ (gg G.1) - 1 < 2147483648 by omega) (show 2 ^ (gg G.1) < 2147483648 by omega), show 2 ^ (gg G.1) - 1 < 2 ^ (gg G.1) by omega, if_true, eT, eN, oN_add, show lkT G t + (lkA G - lkT G t) = lkA G by omega, oN_lt (show lkA G < 2147483648 by omega) (show 2 < 2147483648 by omega), oN_mx (show lkT G t < 2147483648 by omega) (show lkA G - lkT G t < 2147483648 by omega)]
        have hY : lkY G t ≤ 1000000 := by unfold lkY; split <;> omega
        have fin : ∀ l7, Wx (tP nx xs) (d + 6) 308 150 [some (.ref 286), (some (.int (x.1))), (some (.int (Int32.ofNat x.2))), (some (.int (Int32.ofNat t))), (some (.int (Int32.ofNat (lkT G t)))), (some (.int (Int32.ofNat (lkA G - lkT G t)))), (some (.int (Int32.ofNat (2 ^ (gg G.1))))), l7] [.int (Int32.ofNat (lkY G t))] (mk sh D3) c s Q := by
          intro l7
          have k := k D3
          unfold lkR at k
          simp only [b308_150 hw, oN_lt (show lkY G t < 2147483648 by omega) (show x.2 < 2147483648 by omega), b308_163 hw, oN_mn (show x.2 < 2147483648 by omega) (show lkY G t < 2147483648 by omega), oN_add]
          by_cases hm : lkY G t < x.2
          · simp only [hm, if_true] at k ⊢; exact k ⟨s3, by omega⟩ _ _ _ _
          · simp only [hm, if_false] at k ⊢; exact k ⟨s3, by omega⟩ _ _ _ _
        by_cases hA : lkA G < 2
        · have := fin l7
          unfold lkY at this
          simp only [hA, if_true] at this ⊢
          exact this
        · have := fin l7
          unfold lkY at this
          simp only [hA, if_false] at this ⊢
          exact this
    · intro D2 ⟨s2, _⟩ l4 l5 l6 l7
      have h2 := h1.sm hv s2
      have R2 : Rw (D2 287) (gV G.1) (gt G.1) (gg G.1) (gr G.1) (gl G.1) := h2.1.1
      rw [b308_33 hw]
      simp only [mI_thrown HS, mF_thrown HS, mR_row HS, mR_image HS, mR_earlier HS, mR_trial HS, mR_acts HS, mI_hasImage HS, mF_hasImage HS, mI_remembered HS, mF_remembered HS, mR_tape HS, mI_taped HS, mF_taped HS, mI_point HS, mF_point HS, mI_end HS, mF_end HS, mI_begin HS, mF_begin HS, mI_deep HS, mF_deep HS, mI_faultAt HS, mF_faultAt HS, mR_five HS, mI_codes HS, mF_codes HS, mR_value HS, mI_so HS, mF_so HS, mR_lines HS, mR_chosen HS, mR_best HS, mR_members HS, mR_paired HS, mO HS, mA_287 HS, mW_287 HS, mA_288 HS, mW_288 HS, mA_289 HS, mW_289 HS, mA_290 HS, mW_290 HS, mA_291 HS, mW_291 HS, mA_292 HS, mW_292 HS, mA_293 HS, mW_293 HS, mA_294 HS, mW_294 HS, mA_295 HS, mW_295 HS, mA_296 HS, mW_296 HS, mA_297 HS, mW_297 HS, mA_298 HS, mW_298 HS, mA_299 HS, mW_299 HS, wi_some, or_0, or_1, bo_or, ite_boP, true_and, and_true, kN_v, kN_n, kT_v, kT_n, kT_e, Nat.add_zero, Nat.zero_add, k197 hw HS, r_nt R2, b308_38 hw, oN_lt (show (gt G.1) < 2147483648 by omega) (show (gt G.1) < 2147483648 by omega), Nat.lt_irrefl, if_false]
      exact kk D2 h2 (f1.tr s2.ms.1) (by rw [s2 286 0 (by omega), t1])
end C86
