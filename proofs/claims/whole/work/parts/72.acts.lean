/-! ===== acts ===== -/
def repN (S : GS) (V' : sD) (nl : Nat) : GS := (V', gt S, gg S, gr S, nl, gw S)
def actG (G : GT) (o : Int32 ⊕ Nat) (V' : sD) (S2 : GS) : GT := match o with
  | .inl _ => setG (keepG G V') S2
  | .inr _ => G
theorem GR.set {D D' : sD} {G : GT} {S : GS} (h : GR D G) (hr : Rx D D') (R2 : Rw (D' 287) (gV S) (gt S) (gg S) (gr S) (gl S)) (hl : gw S = gw G.1) : GR D' (setG G S) := by
  obtain ⟨⟨_, h2⟩, ⟨h3, h4⟩, ⟨h5, h6⟩, ⟨h7, h8⟩, h9⟩ := h
  obtain ⟨f, e⟩ := hr
  refine ⟨⟨R2, ?_⟩, ⟨?_, ?_⟩, ⟨?_, ?_⟩, ⟨?_, ?_⟩, ?_⟩
  · show Rl (D' 287) (gw S)
    rw [hl]; exact h2.of e
  · rw [f 286 (by decide) (by decide)]; exact h3
  · rw [f 288 (by decide) (by decide)]; exact h4
  · rw [f 286 (by decide) (by decide)]; exact h5
  · rw [f 291 (by decide) (by decide), e 4 (Or.inl rfl)]; exact h6
  · rw [f 286 (by decide) (by decide)]; exact h7
  · rw [f 292 (by decide) (by decide)]; exact h8
  · rw [f 286 (by decide) (by decide)]; exact h9
theorem Rx.fm {D D' : sD} (h : Rx D D') : Fm D D' := fun b hb => h.1 b (by omega) (by omega)
def inB (x : Int32) (a b : Nat) : Bool := decide (¬ x < Int32.ofNat a) && decide (¬ Int32.ofNat b < x)
theorem inB_of {x : Int32} {a b : Nat} (hb : b < 1000000) (ha : a < 1000000) (h : inB x a b = true) : ∃ n, a ≤ n ∧ n ≤ b ∧ x = Int32.ofNat n := by
  unfold inB at h
  simp only [Bool.and_eq_true, decide_eq_true_eq] at h
  have h0 : ¬ x < Int32.ofNat 0 := fun h2 => h.1 (by
    have h3 := Int32.lt_iff_toInt_lt.mp h2
    apply Int32.lt_iff_toInt_lt.mpr
    rw [oN_ti (by omega)] at *
    omega)
  obtain ⟨e, hb2⟩ := oN_of h0
  generalize x.toNatClampNeg = n at e hb2
  subst e
  rw [oN_lt hb2 (by omega), oN_lt (by omega) hb2] at h
  exact ⟨n, by omega, by omega, rfl⟩
section R72
variable {r r' : Nat → Int32} {V : sD} {nt ng nr nl g t : Nat} {x : Int32}
theorem Rw_halt (h : Rw r V nt ng nr nl) (b1 : nt ≤ 8) (b2 : ng ≤ 6) (b3 : nr ≤ 5) (ht : t < nr) (ho : ∀ i, i ≠ 102 + 2 * t → r' i = r i) (h7 : r' (102 + 2 * t) = x) : Rw r' (u2 V 13 t x) nt ng nr nl := by
  obtain ⟨⟨a1, a2, a3, a4⟩, ⟨a5, a6, a7⟩, h3, h4, h5, h6⟩ := h
  refine ⟨⟨?_, ?_, ?_, ?_⟩, ⟨?_, ?_, ?_⟩, ?_, ?_, ?_, ?_⟩
  · rw [ho 0 (by omega)]; exact a1
  · rw [ho 1 (by omega)]; exact a2
  · rw [ho 2 (by omega)]; exact a3
  · rw [ho 6 (by omega)]; exact a4
  · rw [ho 3 (by omega)]; simpa [u2_at] using a5
  · rw [ho 5 (by omega)]; simpa [u2_at] using a6
  · rw [ho 7 (by omega)]; simpa [u2_at] using a7
  · intro t ht
    rw [ho _ (by omega), ho _ (by omega), ho _ (by omega), ho _ (by omega), ho _ (by omega)]
    simpa [u2_at] using h3 t ht
  · intro g' hg'
    rw [ho _ (by omega), ho _ (by omega), ho _ (by omega), ho _ (by omega), ho _ (by omega), ho _ (by omega), ho _ (by omega), ho _ (by omega), ho _ (by omega)]
    simpa [u2_at] using h4 g' hg'
  · intro t' ht'
    rw [ho (102 + 2 * t' + 1) (by omega)]
    by_cases e : t' = t
    · subst e
      simp only [u2_at]
      refine ⟨by simpa using h7, by simpa using (h5 t' ht').2⟩
    · rw [ho (102 + 2 * t' + 0) (by omega)]
      simp only [u2_at]
      simpa [e] using h5 t' ht'
  · intro k w hk hw
    rw [ho _ (by omega)]
    simpa [u2_at] using h6 k w hk hw
/-- whether the deed makes -/
theorem Rw_mk (h : Rw r V nt ng nr nl) (b1 : nt ≤ 8) (b2 : ng ≤ 6) (b3 : nr ≤ 5) (hg : g < ng) (ho : ∀ i, i ≠ 48 + 9 * g + 2 → r' i = r i) (h7 : r' (48 + 9 * g + 2) = bo (bt x g)) (hx : ∀ k, k < 6 → k ≠ g → bt x k = bt (V 0 4) k) : Rw r' (u2 V 0 4 x) nt ng nr nl := by
  obtain ⟨⟨a1, a2, a3, a4⟩, ⟨a5, a6, a7⟩, h3, h4, h5, h6⟩ := h
  refine ⟨⟨?_, ?_, ?_, ?_⟩, ⟨?_, ?_, ?_⟩, ?_, ?_, ?_, ?_⟩
  · rw [ho 0 (by omega)]; exact a1
  · rw [ho 1 (by omega)]; exact a2
  · rw [ho 2 (by omega)]; exact a3
  · rw [ho 6 (by omega)]; exact a4
  · rw [ho 3 (by omega)]; simpa [u2_at] using a5
  · rw [ho 5 (by omega)]; simpa [u2_at] using a6
  · rw [ho 7 (by omega)]; simpa [u2_at] using a7
  · intro t ht
    rw [ho _ (by omega), ho _ (by omega), ho _ (by omega), ho _ (by omega), ho _ (by omega)]
    simpa [u2_at] using h3 t ht
  · intro g' hg'
    have := h4 g' hg'
    have e4 : u2 V 0 4 x 0 4 = x := by simp [u2_at]
    rw [e4]
    by_cases e : g' = g
    · subst e
      have hh : ∀ w, w ≠ 2 → w < 9 → r' (48 + 9 * g' + w) = r (48 + 9 * g' + w) := fun w h1 h2 => ho _ (by omega)
      rw [hh 0 (by decide) (by decide), hh 1 (by decide) (by decide), hh 3 (by decide) (by decide), hh 4 (by decide) (by decide), hh 5 (by decide) (by decide), hh 6 (by decide) (by decide), hh 7 (by decide) (by decide), hh 8 (by decide) (by decide), h7]
      simp only [u2_at]
      refine ⟨by simpa using this.1, by simpa using this.2.1, trivial, by simpa using this.2.2.2.1, by simpa using this.2.2.2.2.1, by simpa using this.2.2.2.2.2.1, by simpa using this.2.2.2.2.2.2.1, by simpa using this.2.2.2.2.2.2.2.1, by simpa using this.2.2.2.2.2.2.2.2⟩
    · rw [ho _ (by omega), ho _ (by omega), ho _ (by omega), ho _ (by omega), ho _ (by omega), ho _ (by omega), ho _ (by omega), ho _ (by omega), ho _ (by omega), hx g' (by omega) e]
      simp only [u2_at]
      simpa using this
  · intro t ht
    rw [ho _ (by omega), ho _ (by omega)]
    simpa [u2_at] using h5 t ht
  · intro k w hk hw
    rw [ho _ (by omega)]
    simpa [u2_at] using h6 k w hk hw
theorem Iv_wish (I : Iv V nt ng nr nl) (hx : ∃ n, n < 16 ∧ x = Int32.ofNat n) : Iv (u2 V 6 g x) nt ng nr nl := by
  obtain ⟨h1, h2, h3, h4, h5, h6, h7, h8, h9, h10, h11, h12, h13⟩ := I
  refine ⟨by simpa [u2_at] using h1, by simpa [u2_at] using h2, by simpa [u2_at] using h3, by simpa [u2_at] using h4, by simpa [u2_at] using h5, by simpa [u2_at] using h6, ?_, by simpa [u2_at] using h8, by simpa [u2_at] using h9, by simpa [u2_at] using h10, by simpa [u2_at] using h11, by simpa [u2_at] using h12, by simpa [u2_at] using h13⟩
  intro g' hg'
  simp only [u2_at, true_and]
  by_cases e : g' = g
  · rw [if_pos e]; exact hx
  · rw [if_neg e]; exact h7 g' hg'
theorem Iv_deed (I : Iv V nt ng nr nl) (hx : x = -1 ∨ ∃ n, n < nt ∧ x = Int32.ofNat n) : Iv (u2 V 7 g x) nt ng nr nl := by
  obtain ⟨h1, h2, h3, h4, h5, h6, h7, h8, h9, h10, h11, h12, h13⟩ := I
  refine ⟨by simpa [u2_at] using h1, by simpa [u2_at] using h2, by simpa [u2_at] using h3, by simpa [u2_at] using h4, by simpa [u2_at] using h5, by simpa [u2_at] using h6, by simpa [u2_at] using h7, ?_, by simpa [u2_at] using h9, by simpa [u2_at] using h10, by simpa [u2_at] using h11, by simpa [u2_at] using h12, by simpa [u2_at] using h13⟩
  intro g' hg'
  simp only [u2_at, true_and]
  by_cases e : g' = g
  · rw [if_pos e]; exact hx
  · rw [if_neg e]; exact h8 g' hg'
theorem Iv_born (I : Iv V nt ng nr nl) (hx : x = -1 ∨ ∃ n, n < nt ∧ x = Int32.ofNat n) : Iv (u2 V 8 g x) nt ng nr nl := by
  obtain ⟨h1, h2, h3, h4, h5, h6, h7, h8, h9, h10, h11, h12, h13⟩ := I
  refine ⟨by simpa [u2_at] using h1, by simpa [u2_at] using h2, by simpa [u2_at] using h3, by simpa [u2_at] using h4, by simpa [u2_at] using h5, by simpa [u2_at] using h6, by simpa [u2_at] using h7, by simpa [u2_at] using h8, ?_, by simpa [u2_at] using h10, by simpa [u2_at] using h11, by simpa [u2_at] using h12, by simpa [u2_at] using h13⟩
  intro g' hg'
  simp only [u2_at, true_and]
  by_cases e : g' = g
  · rw [if_pos e]; exact hx
  · rw [if_neg e]; exact h9 g' hg'
theorem Iv_nerve (I : Iv V nt ng nr nl) (hx : ∃ n, n < 101 ∧ x = Int32.ofNat n) : Iv (u2 V 10 g x) nt ng nr nl := by
  obtain ⟨h1, h2, h3, h4, h5, h6, h7, h8, h9, h10, h11, h12, h13⟩ := I
  refine ⟨by simpa [u2_at] using h1, by simpa [u2_at] using h2, by simpa [u2_at] using h3, by simpa [u2_at] using h4, by simpa [u2_at] using h5, by simpa [u2_at] using h6, by simpa [u2_at] using h7, by simpa [u2_at] using h8, by simpa [u2_at] using h9, by simpa [u2_at] using h10, ?_, by simpa [u2_at] using h12, by simpa [u2_at] using h13⟩
  intro g' hg'
  simp only [u2_at, true_and]
  by_cases e : g' = g
  · rw [if_pos e]; exact hx
  · rw [if_neg e]; exact h11 g' hg'
theorem Iv_shuns (I : Iv V nt ng nr nl) : Iv (u2 V 11 g x) nt ng nr nl := by
  unfold Iv at *
  simpa [u2_at] using I
theorem Iv_halts (I : Iv V nt ng nr nl) : Iv (u2 V 13 g x) nt ng nr nl := by
  unfold Iv at *
  simpa [u2_at] using I
end R72
section C72
variable {nx : Nat} {xs : Nat → Int32} {d c s : Nat} {sh : List sC} {D : sD} {Q : av_Q}
variable {G : GT}
/-- the class's act, once it may be done -/
theorem GC.act {D D' V' V2 : sD} {nl' : Nat} (h : GC sh D (keepG G V')) (h9 : D 0 9 = Int32.ofNat 0) (hf : Fx 3 ((gV G.1) 0 14) D D') (hV : Vw D' 3 V2) (hp : V2 0 14 = (gV G.1) 0 14) : GC sh D' (setG (keepG G V') (repN G.1 V2 nl')) := GC.set h hf hV hp rfl h9
theorem GR.act {D D' V' V2 : sD} {nl' : Nat} (h : GR D (keepG G V')) (hr : Rx D D') (R2 : Rw (D' 287) V2 (gt G.1) (gg G.1) (gr G.1) nl') : GR D' (setG (keepG G V') (repN G.1 V2 nl')) := GR.set h hr R2 rfl
theorem GV.act {V' V2 : sD} {nl' : Nat} (hv : GV G) (e : VE (gV G.1) V') (I : Iv V2 (gt G.1) (gg G.1) (gr G.1) nl') (hp : V2 0 14 = (gV G.1) 0 14) : GV (setG (keepG G V') (repN G.1 V2 nl')) := GV.set (hv.keep e) I hp rfl
/-- the reference's isNow, over a place of the row -/
theorem k294 {V' : sD} {i : Nat} {x : Int32} (hw : WT sh) (HS : SP sh) (hv : GV G) (h : GR D G) (e : VE (gV G.1) V') (hi : i < 352) (hi4 : i ≠ 4)
    (kk : ∀ D', GR D' (keepG G V') → Fm D D' → D' 286 0 = D 286 0 → D' 287 = D 287 → Q (.inl (some (.int (D 287 i)))) (mk sh (u2 D' 287 i x)) c s) :
    Wx (tP nx xs) (d + 1) 294 0 [some (.ref 286), (some (.int (Int32.ofNat i))), (some (.int (x))), none] [] (mk sh D) c s Q := by
  have b1 : i < 2050 := by omega
  simp only [b294_0 hw, mI_thrown HS, mF_thrown HS, mR_row HS, mR_image HS, mR_earlier HS, mR_trial HS, mR_acts HS, mI_hasImage HS, mF_hasImage HS, mI_remembered HS, mF_remembered HS, mR_tape HS, mI_taped HS, mF_taped HS, mI_point HS, mF_point HS, mI_end HS, mF_end HS, mI_begin HS, mF_begin HS, mI_deep HS, mF_deep HS, mI_faultAt HS, mF_faultAt HS, mR_five HS, mI_codes HS, mF_codes HS, mR_value HS, mI_so HS, mF_so HS, mR_lines HS, mR_chosen HS, mR_best HS, mR_members HS, mR_paired HS, mO HS, mA_287 HS, mW_287 HS, mA_288 HS, mW_288 HS, mA_289 HS, mW_289 HS, mA_290 HS, mW_290 HS, mA_291 HS, mW_291 HS, mA_292 HS, mW_292 HS, mA_293 HS, mW_293 HS, mA_294 HS, mW_294 HS, mA_295 HS, mW_295 HS, mA_296 HS, mW_296 HS, mA_297 HS, mW_297 HS, mA_298 HS, mW_298 HS, mA_299 HS, mW_299 HS, wi_some, or_0, or_1, bo_or, ite_boP, true_and, and_true, kN_v, kN_n, kT_v, kT_n, kT_e, Nat.add_zero, Nat.zero_add]
  refine k193 hw HS hv h e ?_
  intro D1 h1 f1 t1 r1
  simp only [b294_4 hw, b294_18 hw, mI_thrown HS, mF_thrown HS, mR_row HS, mR_image HS, mR_earlier HS, mR_trial HS, mR_acts HS, mI_hasImage HS, mF_hasImage HS, mI_remembered HS, mF_remembered HS, mR_tape HS, mI_taped HS, mF_taped HS, mI_point HS, mF_point HS, mI_end HS, mF_end HS, mI_begin HS, mF_begin HS, mI_deep HS, mF_deep HS, mI_faultAt HS, mF_faultAt HS, mR_five HS, mI_codes HS, mF_codes HS, mR_value HS, mI_so HS, mF_so HS, mR_lines HS, mR_chosen HS, mR_best HS, mR_members HS, mR_paired HS, mO HS, mA_287 HS, mW_287 HS, mA_288 HS, mW_288 HS, mA_289 HS, mW_289 HS, mA_290 HS, mW_290 HS, mA_291 HS, mW_291 HS, mA_292 HS, mW_292 HS, mA_293 HS, mW_293 HS, mA_294 HS, mW_294 HS, mA_295 HS, mW_295 HS, mA_296 HS, mW_296 HS, mA_297 HS, mW_297 HS, mA_298 HS, mW_298 HS, mA_299 HS, mW_299 HS, wi_some, or_0, or_1, bo_or, ite_boP, true_and, and_true, kN_v, kN_n, kT_v, kT_n, kT_e, Nat.add_zero, Nat.zero_add, b1, oN_tn (show i < 2147483648 by omega), r1]
  exact kk D1 h1 f1 t1 r1
/-! nerve -/
def o_nerve (G : GT) (x n : Int32) : Int32 ⊕ Nat := match ixO x (gg G.1) with
  | none => .inr 1
  | some g => if inB n 0 100 then .inl ((gV G.1) 10 g) else .inr 2
def s_nerve (G : GT) (x n : Int32) : GS := repN G.1 (u2 (gV G.1) 10 x.toNatClampNeg n) (gl G.1)
theorem c_nerve {x n : Int32} (hv : GV G) (h : GC sh D G) (kk : ∀ D' V', VE (gV G.1) V' → GC sh D' (actG G (o_nerve G x n) V' (s_nerve G x n)) → Fc D D' → Q (oQ (e2 xIO xIA) (o_nerve G x n)) (mk sh D') (c + o1 (o_nerve G x n)) (s + 6 * o1 (o_nerve G x n))) : Wx (tP nx xs) (d + 4) 113 0 [some (.ref 0), (some (.int (x))), (some (.int (n))), none] [] (mk sh D) c s Q := by
  have hw := h.1.2
  have HS := h.1.1
  have H := St_state HS
  have I := hv.1
  have hV := h.2.1.1
  have hng := i_ng6 I
  have hnt := i_nt8 I
  have hnr := i_nr5 I
  have hnl := i_nl60 I
  have hx := h.L
  have hL := h.2.1.2
  unfold o_nerve s_nerve inB at kk
  simp only [b113_0 hw, xR_tape HS, xI_wrongAt HS, xF_wrongAt HS, xR_state HS, xR_image HS, xI_imageKept HS, xF_imageKept HS, xR_draft HS, xR_memory HS, xR_lawText HS, xR_worlds HS, xI_worldsFresh HS, xF_worldsFresh HS, xR_otherWorlds HS, xR_seating HS, xR_pairing HS, xI_toldSo HS, xF_toldSo HS, xI_toldNot HS, xF_toldNot HS, xO HS, wi_some, or_0, or_1, bo_or, ite_boP, true_and, and_true, kN_v, kN_n, kT_v, kT_n, kT_e, Nat.add_zero, Nat.zero_add, k181 hv h]
  cases hi : ixO x (gg G.1) with
  | none => simp only [hi, oQ, o1, actG, wi_some, or_0, or_1, bo_or, ite_boP, true_and, and_true, kN_v, kN_n, kT_v, kT_n, kT_e, Nat.add_zero, Nat.zero_add] at kk ⊢; exact kk D _ VE.rf h Fc.rf
  | some g =>
    obtain ⟨hg, rfl⟩ := ixO_some (by omega) hi
    have hg6 : g < 6 := by omega
    simp only [hi, oN_tn (show g < 2147483648 by omega)] at kk
    simp only [wi_some, or_0, or_1, bo_or, ite_boP, true_and, and_true, kN_v, kN_n, kT_v, kT_n, kT_e, Nat.add_zero, Nat.zero_add, b113_5 hw]
    by_cases h1 : n < Int32.ofNat 0
    · simp only [h1, not_true_eq_false, decide_false, Bool.false_and, Bool.false_eq_true, if_false, if_true, oQ, o1, actG, b113_15 hw] at kk ⊢; exact kk D _ VE.rf h Fc.rf
    by_cases h2 : Int32.ofNat 100 < n
    · simp only [h1, h2, not_true_eq_false, decide_false, Bool.and_false, Bool.false_eq_true, if_false, if_true, oQ, o1, actG, b113_15 hw] at kk ⊢; exact kk D _ VE.rf h Fc.rf
    simp only [h1, h2, not_false_eq_true, decide_true, Bool.and_self, if_true, if_false, oQ, o1, actG, xR_tape HS, xI_wrongAt HS, xF_wrongAt HS, xR_state HS, xR_image HS, xI_imageKept HS, xF_imageKept HS, xR_draft HS, xR_memory HS, xR_lawText HS, xR_worlds HS, xI_worldsFresh HS, xF_worldsFresh HS, xR_otherWorlds HS, xR_seating HS, xR_pairing HS, xI_toldSo HS, xF_toldSo HS, xI_toldNot HS, xF_toldNot HS, xO HS, wi_some, or_0, or_1, bo_or, ite_boP, true_and, and_true, kN_v, kN_n, kT_v, kT_n, kT_e, Nat.add_zero, Nat.zero_add, Nat.mul_zero] at kk ⊢
    refine k119 hv h ?_
    intro D1 V' e1 h1' f1 h9
    have hV1 : Vw D1 3 (gV G.1) := h1'.2.1.1
    simp only [b113_30 hw, b113_50 hw, xR_tape HS, xI_wrongAt HS, xF_wrongAt HS, xR_state HS, xR_image HS, xI_imageKept HS, xF_imageKept HS, xR_draft HS, xR_memory HS, xR_lawText HS, xR_worlds HS, xI_worldsFresh HS, xF_worldsFresh HS, xR_otherWorlds HS, xR_seating HS, xR_pairing HS, xI_toldSo HS, xF_toldSo HS, xI_toldNot HS, xF_toldNot HS, xO HS, sR_things H, sI_goers H, sF_goers H, sR_wish H, sR_deed H, sI_makers H, sF_makers H, sR_born H, sR_money H, sR_nerve H, sR_shuns H, sR_by H, sI_trains H, sF_trains H, sR_halts H, sR_seats H, sI_texts H, sF_texts H, sI_law H, sF_law H, sI_day H, sF_day H, sI_seed H, sF_seed H, sR_log H, sO_state H, sI_count H, sF_count H, sI_first H, sF_first H, sR_at H, sR_worth H, sR_makes H, sR_hinders H, sO_things H, sI_rows H, sF_rows H, sR_entries H, sO_log H, sA_2 H, sW_2 H, sA_3 H, sW_3 H, sA_4 H, sW_4 H, sA_5 H, sW_5 H, sA_6 H, sW_6 H, sA_7 H, sW_7 H, sA_8 H, sW_8 H, sA_9 H, sW_9 H, sA_10 H, sW_10 H, sA_11 H, sW_11 H, sA_12 H, sW_12 H, sA_13 H, sW_13 H, sA_14 H, sW_14 H, sA_16 H, sW_16 H, wi_some, or_0, or_1, bo_or, ite_boP, true_and, and_true, kN_v, kN_n, kT_v, kT_n, kT_e, Nat.add_zero, Nat.zero_add, hg6, oN_tn (show g < 2147483648 by omega), v_0 hV1, v_1 hV1, v_2 hV1, v_3 hV1, v_4 hV1, v_5 hV1, v_6 hV1, v_7 hV1, v_8 hV1, v_9 hV1, v_10 hV1, v_11 hV1, v_12 hV1, v_13 hV1, v_14 hV1, v_15 hV1, v_16 hV1]
    refine kk _ V' e1 (h1'.act h9 (Fr.fx (Fr.st (by decide) Fr.rf)) (hV1.st (by decide) _) (by simp [u2_at])) ?_
    exact f1.tr (fun b h1 h2 => funext fun i => by rw [u2_at, if_neg (by omega)])
theorem m_nerve {x n : Int32} {V' : sD} (hw : WT sh) (HS : SP sh) (hv : GV G) (h : GR D G) (e : VE (gV G.1) V') (kk : ∀ D', GR D' (actG G (o_nerve G x n) V' (s_nerve G x n)) → Fm D D' → D' 286 0 = Int32.ofNat (th (o_nerve G x n)) → Q (.inl (some (.int (rv (o_nerve G x n))))) (mk sh D') c s) : Wx (tP nx xs) (d + 2) 296 0 [some (.ref 286), (some (.int (x))), (some (.int (n)))] [] (mk sh D) c s Q := by
  have m1 : Ms D (u2 D 286 0 (Int32.ofNat 0)) := Ms.rf.th
  have h1 := h.ms hv m1
  have R1 := h1.1.1
  have hng := i_ng6 hv.1
  have n10 : ¬ (Int32.ofNat 1 : Int32) = Int32.ofNat 0 := by decide
  unfold o_nerve s_nerve inB at kk
  simp only [b296_0 hw, b296_5 hw, b296_11 hw, mI_thrown HS, mF_thrown HS, mR_row HS, mR_image HS, mR_earlier HS, mR_trial HS, mR_acts HS, mI_hasImage HS, mF_hasImage HS, mI_remembered HS, mF_remembered HS, mR_tape HS, mI_taped HS, mF_taped HS, mI_point HS, mF_point HS, mI_end HS, mF_end HS, mI_begin HS, mF_begin HS, mI_deep HS, mF_deep HS, mI_faultAt HS, mF_faultAt HS, mR_five HS, mI_codes HS, mF_codes HS, mR_value HS, mI_so HS, mF_so HS, mR_lines HS, mR_chosen HS, mR_best HS, mR_members HS, mR_paired HS, mO HS, mA_287 HS, mW_287 HS, mA_288 HS, mW_288 HS, mA_289 HS, mW_289 HS, mA_290 HS, mW_290 HS, mA_291 HS, mW_291 HS, mA_292 HS, mW_292 HS, mA_293 HS, mW_293 HS, mA_294 HS, mW_294 HS, mA_295 HS, mW_295 HS, mA_296 HS, mW_296 HS, mA_297 HS, mW_297 HS, mA_298 HS, mW_298 HS, mA_299 HS, mW_299 HS, wi_some, or_0, or_1, bo_or, ite_boP, true_and, and_true, kN_v, kN_n, kT_v, kT_n, kT_e, Nat.add_zero, Nat.zero_add, k211 hw HS hv h1, k187 hw HS, b296_15 hw]
  cases hi : ixO x (gg G.1) with
  | none =>
    simp only [hi, Option.isNone_none, if_true, th, rv, actG, b296_41 hw, b296_55 hw] at kk ⊢
    exact kk _ (h.ms hv Ms.rf.th.th) Ms.rf.th.th.1 (by simp [u2_at])
  | some g =>
    obtain ⟨hg, rfl⟩ := ixO_some (by omega) hi
    have hg6 : g < 6 := by omega
    simp only [hi, oN_tn (show g < 2147483648 by omega)] at kk
    simp only [Option.isNone_some, Bool.false_eq_true, if_false, k188 hw, wi_some, or_0, or_1, bo_or, ite_boP, true_and, and_true, kN_v, kN_n, kT_v, kT_n, kT_e, Nat.add_zero, Nat.zero_add, b296_26 hw, b296_34 hw, mI_thrown HS, mF_thrown HS, mR_row HS, mR_image HS, mR_earlier HS, mR_trial HS, mR_acts HS, mI_hasImage HS, mF_hasImage HS, mI_remembered HS, mF_remembered HS, mR_tape HS, mI_taped HS, mF_taped HS, mI_point HS, mF_point HS, mI_end HS, mF_end HS, mI_begin HS, mF_begin HS, mI_deep HS, mF_deep HS, mI_faultAt HS, mF_faultAt HS, mR_five HS, mI_codes HS, mF_codes HS, mR_value HS, mI_so HS, mF_so HS, mR_lines HS, mR_chosen HS, mR_best HS, mR_members HS, mR_paired HS, mO HS, mA_287 HS, mW_287 HS, mA_288 HS, mW_288 HS, mA_289 HS, mW_289 HS, mA_290 HS, mW_290 HS, mA_291 HS, mW_291 HS, mA_292 HS, mW_292 HS, mA_293 HS, mW_293 HS, mA_294 HS, mW_294 HS, mA_295 HS, mW_295 HS, mA_296 HS, mW_296 HS, mA_297 HS, mW_297 HS, mA_298 HS, mW_298 HS, mA_299 HS, mW_299 HS]
    cases hb : (decide (¬ n < Int32.ofNat 0) && decide (¬ Int32.ofNat 100 < n)) with
    | false =>
      simp only [hb, Bool.false_eq_true, if_false, th, rv, actG, k187t hw HS, wi_some, or_0, or_1, bo_or, ite_boP, true_and, and_true, kN_v, kN_n, kT_v, kT_n, kT_e, Nat.add_zero, Nat.zero_add, b296_38 hw, n10, b296_41 hw, b296_55 hw] at kk ⊢
      exact kk _ (h.ms hv Ms.rf.th.th) Ms.rf.th.th.1 (by simp [u2_at])
    | true =>
      simp only [hb, if_true, th, rv, actG, k187f hw HS, wi_some, or_0, or_1, bo_or, ite_boP, true_and, and_true, kN_v, kN_n, kT_v, kT_n, kT_e, Nat.add_zero, Nat.zero_add, b296_38 hw, k202 hw, b296_51 hw, mI_thrown HS, mF_thrown HS, mR_row HS, mR_image HS, mR_earlier HS, mR_trial HS, mR_acts HS, mI_hasImage HS, mF_hasImage HS, mI_remembered HS, mF_remembered HS, mR_tape HS, mI_taped HS, mF_taped HS, mI_point HS, mF_point HS, mI_end HS, mF_end HS, mI_begin HS, mF_begin HS, mI_deep HS, mF_deep HS, mI_faultAt HS, mF_faultAt HS, mR_five HS, mI_codes HS, mF_codes HS, mR_value HS, mI_so HS, mF_so HS, mR_lines HS, mR_chosen HS, mR_best HS, mR_members HS, mR_paired HS, mO HS, mA_287 HS, mW_287 HS, mA_288 HS, mW_288 HS, mA_289 HS, mW_289 HS, mA_290 HS, mW_290 HS, mA_291 HS, mW_291 HS, mA_292 HS, mW_292 HS, mA_293 HS, mW_293 HS, mA_294 HS, mW_294 HS, mA_295 HS, mW_295 HS, mA_296 HS, mW_296 HS, mA_297 HS, mW_297 HS, mA_298 HS, mW_298 HS, mA_299 HS, mW_299 HS] at kk ⊢
      refine k294 hw HS hv h1 e (by omega) (by omega) ?_
      intro D1 h2 f2 t2 r2
      have R2 := h2.1.1
      simp only [b296_55 hw, wi_some, or_0, or_1, bo_or, ite_boP, true_and, and_true, kN_v, kN_n, kT_v, kT_n, kT_e, Nat.add_zero, Nat.zero_add, r_nerve R1 hg]
      refine kk _ (h2.act (Rx.rf.st (by omega) (by omega)) ?_) (m1.1.tr (f2.tr (Rx.rf.st (by omega) (by omega)).fm)) (by rw [u2_at, if_neg (by omega), t2]; simp [u2_at])
      exact Rw_nerve R2 (i_nt8 hv.1) hng (i_nr5 hv.1) hg (fun i hi => by rw [u2_at, if_neg (by omega)]) (by simp [u2_at])
end C72
