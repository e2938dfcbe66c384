/-! ===== ahead, trial, span ===== -/
def WE (V V' : sD) (nt ng : Nat) : Prop := V' 0 4 = V 0 4 ∧ (∀ t, t < nt → V' 2 t = V 2 t ∧ V' 4 t = V 4 t ∧ V' 5 t = V 5 t) ∧ ∀ g, g < ng → V' 6 g = V 6 g ∧ V' 7 g = V 7 g ∧ V' 8 g = V 8 g
theorem anyN_congr {p q : Nat → Bool} {n : Nat} (h : ∀ o, o < n → p o = q o) : anyN p n = anyN q n := by
  unfold anyN
  exact fo_congr n 0 false fun j x _ hj => by rw [h j (by omega)]
theorem soP_congr {V V' : sD} {nt ng t : Nat} {first set so : Int32} (e : WE V V' nt ng) (ht : t < nt) : soP V' nt ng first set so t = soP V nt ng first set so t := by
  obtain ⟨e0, et, eg⟩ := e
  unfold soP
  have h1 : lastG (deedP V' set t) ng = lastG (deedP V set t) ng := lastG_congr fun g hg => by
    unfold deedP
    rw [(eg g hg).1, (eg g hg).2.1, (et t ht).1]
  have h2 : anyN (fun o => bt so o && bt (V' 4 o) t) nt = anyN (fun o => bt so o && bt (V 4 o) t) nt := anyN_congr fun o ho => by rw [(et o ho).2.1]
  have h3 : anyN (fun o => bt so o && bt (V' 5 o) t) nt = anyN (fun o => bt so o && bt (V 5 o) t) nt := anyN_congr fun o ho => by rw [(et o ho).2.2]
  rw [h1, h2, h3, e0]
theorem wS_congr {V V' : sD} {nt ng : Nat} {first set : Int32} (e : WE V V' nt ng) : wS V' nt ng first set = wS V nt ng first set := by
  unfold wS
  refine fo_congr 16 0 _ fun stop so _ _ => fo_congr nt 0 so fun t so' _ ht => ?_
  unfold wStep
  rw [(e.2.1 t (by omega)).1, soP_congr e (by omega)]
theorem aliveS_congr {V V' : sD} {nt ng : Nat} {x : Int32} (e : WE V V' nt ng) : aliveS V' ng x = aliveS V ng x := by
  unfold aliveS
  refine bs_congr fun g hg => ?_
  unfold aliveP
  rw [(e.2.2 g hg).2.2]
theorem cntS_congr {V V' : sD} {nt ng : Nat} {first : Int32} {gone : Nat} (e : WE V V' nt ng) : cntS V' nt ng first gone = cntS V nt ng first gone := by
  unfold cntS
  refine nS_congr fun z _ => ?_
  unfold agP
  rw [wS_congr e, aliveS_congr e]
/-- what days leave alone -/
def dO (k i : Nat) : Prop := k ≠ 9 ∧ k ≠ 12 ∧ k ≠ 15 ∧ k ≠ 16 ∧ ¬ (k = 0 ∧ (i = 15 ∨ i = 16))
theorem bdV_dO {V : sD} {g t k i : Nat} {x : Int32} (h : dO k i) : bdV V g t x k i = V k i := by
  obtain ⟨h1, h2, h3, h4, h5⟩ := h
  unfold bdV
  rw [logV_o h3 h4, u2_at, if_neg (by omega), u2_at, if_neg (by omega)]
theorem goL_dO {lw : LW} {ng nr g k i : Nat} {dr : Bool} {z : sD × Nat} (h : dO k i) : (goL lw ng nr dr g z).1 k i = z.1 k i := by
  have hs : ∀ v, u2 z.1 0 16 v k i = z.1 k i := fun v => by rw [u2_at, if_neg (by have := h.2.2.2.2; omega)]
  unfold goL
  by_cases e : z.1 12 g = -1
  rotate_left
  · rw [if_neg e]
  rw [if_pos e]
  cases dr with
  | true =>
    simp only [if_true]
    cases drawnL lw z.1 ng nr g with
    | none => exact hs _
    | some t => simp only; rw [bdV_dO h, hs]
  | false =>
    simp only [Bool.false_eq_true, if_false]
    cases trainL lw z.1 ng nr g with
    | none => rfl
    | some t => simp only; rw [bdV_dO h]
theorem daysL_dO {lw : LW} {ng nr n k i : Nat} {dr : Bool} {z : sD × Nat} (h : dO k i) : (daysL lw ng nr dr n z).1 k i = z.1 k i := by
  unfold daysL
  have := fo_inv (F := fun _ => dayL lw ng nr dr) (fun _ y => y.1 k i = z.1 k i) n 0 z rfl (fun _ y _ _ ih => by
    unfold dayL
    simp only
    rw [u2_at, if_neg (by have := h.2.2.2.2; omega)]
    have := fo_inv (F := goL lw ng nr dr) (fun _ x => x.1 k i = z.1 k i) ng 0 y ih (fun g x _ _ ih => by rw [goL_dO h]; exact ih)
    exact this)
  exact this
theorem days_WE {lw : LW} {V V' : sD} {nt ng nr n : Nat} {dr : Bool} {w : Nat} (b1 : nt ≤ 8) (b2 : ng ≤ 6) (e : ∀ k i, inR k i → ¬ (k = 0 ∧ i = 16) → V' k i = V k i) : WE V (daysL lw ng nr dr n (V', w)).1 nt ng ∧ (daysL lw ng nr dr n (V', w)).1 1 1 = V 1 1 := by
  refine ⟨⟨?_, fun t ht => ⟨?_, ?_, ?_⟩, fun g hg => ⟨?_, ?_, ?_⟩⟩, ?_⟩ <;> (rw [daysL_dO (by unfold dO; omega)]; exact e _ _ (by unfold inR; omega) (by omega))
theorem sub_every {n z : Nat} (hn : n ≤ 6) (hz : z < 2 ^ n) : Int32.ofNat z &&& (Int32.ofNat (2 ^ n - 1) ^^^ -1) = Int32.ofNat 0 := by
  have h : ∀ n, n < 7 → ∀ z, z < 64 → z < 2 ^ n → Int32.ofNat z &&& (Int32.ofNat (2 ^ n - 1) ^^^ -1) = Int32.ofNat 0 := by decide +kernel
  have : 2 ^ n ≤ 2 ^ 6 := Nat.pow_le_pow_right (by decide) hn
  exact h n (by omega) z (by omega) hz
def Zd (G : GT) (dr : Bool) (m : Nat) (V' : sD) : sD := (daysL (gw G.1) (gg G.1) (gr G.1) dr m (V', 0)).1
def o_ahead (G : GT) (V' : sD) (x n : Int32) : Int32 ⊕ Nat := match ixO x (gg G.1) with
  | none => .inr 1
  | some g => match ixO n 61 with
    | none => .inr 2
    | some m => .inl (Zd G false m V' 12 g)
def o_trial (G : GT) (V' : sD) (n : Int32) (b : Bool) : Int32 ⊕ Nat := match ixO n 61 with
  | none => .inr 1
  | some m => .inl (if b then Int32.ofNat (cntS (gV G.1) (gt G.1) (gg G.1) ((gV G.1) 1 1) (gN (Zd G true m V') (gg G.1))) else goneS (Zd G true m V') (gg G.1))
section C78
variable {nx : Nat} {xs : Nat → Int32} {d c s : Nat} {sh : List sC} {D : sD} {Q : av_Q}
variable {G : GT}
theorem GC.draft {D' : sD} (h : GC sh D G) (f : Fx 37 ((gV G.1) 0 14) D D') : GC sh D' G := by
  have hx := h.L
  refine h.cs (fun b i h1 h2 h3 h4 => by rw [f b (by omega) h4]) ?_
  have hf := h.2.2.2.2.2.2
  unfold frW Wf at *
  rw [f 0 (by omega) fun p hp => by have := hx p hp; omega, f (265 + 1) (by omega) fun p hp => by have := hx p hp; omega, f (265 + 2) (by omega) fun p hp => by have := hx p hp; omega, f 282 (by omega) fun p hp => by have := hx p hp; omega]
  exact hf
theorem Fx.dfc {D' : sD} (h : GC sh D G) (f : Fx 37 ((gV G.1) 0 14) D D') : Fc D D' := fun b h1 h2 => f b (by omega) fun p hp => by have := h.L p hp; omega
theorem c_ahead {x n : Int32} (hv : GV G) (h : GC sh D G) (kk : ∀ D' V', VE (gV G.1) V' → GC sh D' G → Fc D D' → Q (oQ (e2 xIO xIA) (o_ahead G V' x n)) (mk sh D') (c + o1 (o_ahead G V' x n)) (s + 6 * o1 (o_ahead G V' x n))) : Wx (tP nx xs) (d + 6) 169 0 [some (.ref 0), (some (.int (x))), (some (.int (n)))] [] (mk sh D) c s Q := by
  have hw := h.1.2
  have HS := h.1.1
  have H := St_state HS
  have I := hv.1
  have hV := h.2.1.1
  have hng := i_ng6 I
  have hnt := i_nt8 I
  have hnr := i_nr5 I
  have hnl := i_nl60 I
  have hx := h.L
  have hL := h.2.1.2
  have Hd := St_draft HS
  unfold o_ahead at kk
  simp only [b169_0 hw, xR_tape HS, xI_wrongAt HS, xF_wrongAt HS, xR_state HS, xR_image HS, xI_imageKept HS, xF_imageKept HS, xR_draft HS, xR_memory HS, xR_lawText HS, xR_worlds HS, xI_worldsFresh HS, xF_worldsFresh HS, xR_otherWorlds HS, xR_seating HS, xR_pairing HS, xI_toldSo HS, xF_toldSo HS, xI_toldNot HS, xF_toldNot HS, xO HS, wi_some, or_0, or_1, bo_or, ite_boP, true_and, and_true, kN_v, kN_n, kT_v, kT_n, kT_e, Nat.add_zero, Nat.zero_add, k181 hv h]
  cases hi : ixO x (gg G.1) with
  | none => simp only [hi, oQ, o1, wi_some, or_0, or_1, bo_or, ite_boP, true_and, and_true, kN_v, kN_n, kT_v, kT_n, kT_e, Nat.add_zero, Nat.zero_add] at kk ⊢; exact kk D _ VE.rf h Fc.rf
  | some g =>
    simp only [wi_some, or_0, or_1, bo_or, ite_boP, true_and, and_true, kN_v, kN_n, kT_v, kT_n, kT_e, Nat.add_zero, Nat.zero_add, b169_5 hw, k185 hw]
    cases hj : ixO n 61 with
    | none => simp only [hi, hj, oQ, o1, wi_some, or_0, or_1, bo_or, ite_boP, true_and, and_true, kN_v, kN_n, kT_v, kT_n, kT_e, Nat.add_zero, Nat.zero_add] at kk ⊢; exact kk D _ VE.rf h Fc.rf
    | some m =>
      obtain ⟨hg, rfl⟩ := ixO_some (by omega) hi
      obtain ⟨hm, rfl⟩ := ixO_some (by omega) hj
      have hg6 : g < 6 := by omega
      simp only [hi, hj, oQ, o1, Nat.mul_zero, Nat.add_zero] at kk
      simp only [wi_some, or_0, or_1, bo_or, ite_boP, true_and, and_true, kN_v, kN_n, kT_v, kT_n, kT_e, Nat.add_zero, Nat.zero_add, b169_9 hw, xR_tape HS, xI_wrongAt HS, xF_wrongAt HS, xR_state HS, xR_image HS, xI_imageKept HS, xF_imageKept HS, xR_draft HS, xR_memory HS, xR_lawText HS, xR_worlds HS, xI_worldsFresh HS, xF_worldsFresh HS, xR_otherWorlds HS, xR_seating HS, xR_pairing HS, xI_toldSo HS, xF_toldSo HS, xI_toldNot HS, xF_toldNot HS, xO HS, sO_state Hd]
      refine k31 hw Hd H (by decide) hV ?_
      intro D1 f1 e1
      simp only [b169_20 hw, xR_tape HS, xI_wrongAt HS, xF_wrongAt HS, xR_state HS, xR_image HS, xI_imageKept HS, xF_imageKept HS, xR_draft HS, xR_memory HS, xR_lawText HS, xR_worlds HS, xI_worldsFresh HS, xF_worldsFresh HS, xR_otherWorlds HS, xR_seating HS, xR_pairing HS, xI_toldSo HS, xF_toldSo HS, xI_toldNot HS, xF_toldNot HS, xO HS, wi_some, or_0, or_1, bo_or, ite_boP, true_and, and_true, kN_v, kN_n, kT_v, kT_n, kT_e, Nat.add_zero, Nat.zero_add, sO_state Hd]
      have ep : D1 (37 + 0) 14 = (gV G.1) 0 14 := e1 0 14 (by unfold inR; omega)
      have h1 := h.draft f1.fx
      have I1 : Iv (fun k i => D1 (37 + k) i) (gt G.1) (gg G.1) (gr G.1) (gl G.1) := Iv.ve I e1
      refine k50 (V := fun k i => D1 (37 + k) i) (dr := false) (n := m) hw Hd (by decide) Vw.self I1 (lw := (gw G.1)) (by show Lc sh D1 (D1 (37 + 0) 14) (gw G.1); rw [ep]; exact h1.2.1.2) (by omega) ?_
      intro D2 f2 hV2 I2 e2
      have f2' : Fx 37 ((gV G.1) 0 14) D1 D2 := by rw [← ep]; exact f2
      simp only [b169_29 hw, xR_tape HS, xI_wrongAt HS, xF_wrongAt HS, xR_state HS, xR_image HS, xI_imageKept HS, xF_imageKept HS, xR_draft HS, xR_memory HS, xR_lawText HS, xR_worlds HS, xI_worldsFresh HS, xF_worldsFresh HS, xR_otherWorlds HS, xR_seating HS, xR_pairing HS, xI_toldSo HS, xF_toldSo HS, xI_toldNot HS, xF_toldNot HS, xO HS, sR_things Hd, sI_goers Hd, sF_goers Hd, sR_wish Hd, sR_deed Hd, sI_makers Hd, sF_makers Hd, sR_born Hd, sR_money Hd, sR_nerve Hd, sR_shuns Hd, sR_by Hd, sI_trains Hd, sF_trains Hd, sR_halts Hd, sR_seats Hd, sI_texts Hd, sF_texts Hd, sI_law Hd, sF_law Hd, sI_day Hd, sF_day Hd, sI_seed Hd, sF_seed Hd, sR_log Hd, sO_state Hd, sI_count Hd, sF_count Hd, sI_first Hd, sF_first Hd, sR_at Hd, sR_worth Hd, sR_makes Hd, sR_hinders Hd, sO_things Hd, sI_rows Hd, sF_rows Hd, sR_entries Hd, sO_log Hd, sA_2 Hd, sW_2 Hd, sA_3 Hd, sW_3 Hd, sA_4 Hd, sW_4 Hd, sA_5 Hd, sW_5 Hd, sA_6 Hd, sW_6 Hd, sA_7 Hd, sW_7 Hd, sA_8 Hd, sW_8 Hd, sA_9 Hd, sW_9 Hd, sA_10 Hd, sW_10 Hd, sA_11 Hd, sW_11 Hd, sA_12 Hd, sW_12 Hd, sA_13 Hd, sW_13 Hd, sA_14 Hd, sW_14 Hd, sA_16 Hd, sW_16 Hd, wi_some, or_0, or_1, bo_or, ite_boP, true_and, and_true, kN_v, kN_n, kT_v, kT_n, kT_e, Nat.add_zero, Nat.zero_add, hg6, v_0 hV2, v_1 hV2, v_2 hV2, v_3 hV2, v_4 hV2, v_5 hV2, v_6 hV2, v_7 hV2, v_8 hV2, v_9 hV2, v_10 hV2, v_11 hV2, v_12 hV2, v_13 hV2, v_14 hV2, v_15 hV2, v_16 hV2]
      exact kk D2 _ e1 (h1.draft f2') ((Fx.dfc h f1.fx).tr (Fx.dfc h1 f2'))
theorem c_trial {n : Int32} {b : Bool} (hv : GV G) (h : GC sh D G) (kk : ∀ D' V', VE (gV G.1) V' → GC sh D' G → Fc D D' → Q (oQ (fun _ => xIA) (o_trial G V' n b)) (mk sh D') (c + o1 (o_trial G V' n b)) (s + 6 * o1 (o_trial G V' n b))) : Wx (tP nx xs) (d + 6) 170 0 [some (.ref 0), (some (.int (n))), (some (.int (bo b))), none] [] (mk sh D) c s Q := by
  have hw := h.1.2
  have HS := h.1.1
  have H := St_state HS
  have I := hv.1
  have hV := h.2.1.1
  have hng := i_ng6 I
  have hnt := i_nt8 I
  have hnr := i_nr5 I
  have hnl := i_nl60 I
  have hx := h.L
  have hL := h.2.1.2
  have Hd := St_draft HS
  unfold o_trial at kk
  simp only [b170_0 hw, k185 hw]
  cases hj : ixO n 61 with
  | none => simp only [hj, oQ, o1, wi_some, or_0, or_1, bo_or, ite_boP, true_and, and_true, kN_v, kN_n, kT_v, kT_n, kT_e, Nat.add_zero, Nat.zero_add] at kk ⊢; exact kk D _ VE.rf h Fc.rf
  | some m =>
    obtain ⟨hm, rfl⟩ := ixO_some (by omega) hj
    simp only [hj, oQ, o1, Nat.mul_zero, Nat.add_zero] at kk
    simp only [wi_some, or_0, or_1, bo_or, ite_boP, true_and, and_true, kN_v, kN_n, kT_v, kT_n, kT_e, Nat.add_zero, Nat.zero_add, b170_4 hw, xR_tape HS, xI_wrongAt HS, xF_wrongAt HS, xR_state HS, xR_image HS, xI_imageKept HS, xF_imageKept HS, xR_draft HS, xR_memory HS, xR_lawText HS, xR_worlds HS, xI_worldsFresh HS, xF_worldsFresh HS, xR_otherWorlds HS, xR_seating HS, xR_pairing HS, xI_toldSo HS, xF_toldSo HS, xI_toldNot HS, xF_toldNot HS, xO HS, sO_state Hd]
    refine k31 hw Hd H (by decide) hV ?_
    intro D1 f1 e1
    simp only [b170_15 hw, xR_tape HS, xI_wrongAt HS, xF_wrongAt HS, xR_state HS, xR_image HS, xI_imageKept HS, xF_imageKept HS, xR_draft HS, xR_memory HS, xR_lawText HS, xR_worlds HS, xI_worldsFresh HS, xF_worldsFresh HS, xR_otherWorlds HS, xR_seating HS, xR_pairing HS, xI_toldSo HS, xF_toldSo HS, xI_toldNot HS, xF_toldNot HS, xO HS, wi_some, or_0, or_1, bo_or, ite_boP, true_and, and_true, kN_v, kN_n, kT_v, kT_n, kT_e, Nat.add_zero, Nat.zero_add, sO_state Hd]
    have ep : D1 (37 + 0) 14 = (gV G.1) 0 14 := e1 0 14 (by unfold inR; omega)
    have h1 := h.draft f1.fx
    have I1 : Iv (fun k i => D1 (37 + k) i) (gt G.1) (gg G.1) (gr G.1) (gl G.1) := Iv.ve I e1
    refine k50 (V := fun k i => D1 (37 + k) i) (dr := true) (n := m) hw Hd (by decide) Vw.self I1 (lw := (gw G.1)) (by show Lc sh D1 (D1 (37 + 0) 14) (gw G.1); rw [ep]; exact h1.2.1.2) (by omega) ?_
    intro D2 f2 hV2 I2 e2
    have f2' : Fx 37 ((gV G.1) 0 14) D1 D2 := by rw [← ep]; exact f2
    have h2 := h1.draft f2'
    have fc := (Fx.dfc h f1.fx).tr (Fx.dfc h1 f2')
    simp only [b170_24 hw, xR_tape HS, xI_wrongAt HS, xF_wrongAt HS, xR_state HS, xR_image HS, xI_imageKept HS, xF_imageKept HS, xR_draft HS, xR_memory HS, xR_lawText HS, xR_worlds HS, xI_worldsFresh HS, xF_worldsFresh HS, xR_otherWorlds HS, xR_seating HS, xR_pairing HS, xI_toldSo HS, xF_toldSo HS, xI_toldNot HS, xF_toldNot HS, xO HS, sO_state Hd, k37 hw Hd hV2 I2, b170_32 hw, wi_some, or_0, or_1, bo_or, ite_boP, true_and, and_true, kN_v, kN_n, kT_v, kT_n, kT_e, Nat.add_zero, Nat.zero_add]
    cases b with
    | false =>
      simp only [bo_f, if_true, b170_49 hw, Bool.false_eq_true, if_false] at kk ⊢
      exact kk D2 _ e1 h2 fc
    | true =>
      simp only [bo_t, show ¬ (Int32.ofNat 1 : Int32) = Int32.ofNat 0 by decide, if_true, if_false, xR_tape HS, xI_wrongAt HS, xF_wrongAt HS, xR_state HS, xR_image HS, xI_imageKept HS, xF_imageKept HS, xR_draft HS, xR_memory HS, xR_lawText HS, xR_worlds HS, xI_worldsFresh HS, xF_worldsFresh HS, xR_otherWorlds HS, xR_seating HS, xR_pairing HS, xI_toldSo HS, xF_toldSo HS, xI_toldNot HS, xF_toldNot HS, xO HS, wi_some, or_0, or_1, bo_or, ite_boP, true_and, and_true, kN_v, kN_n, kT_v, kT_n, kT_e, Nat.add_zero, Nat.zero_add] at kk ⊢
      refine k128 hv h2 ?_
      intro D3 c3 h3 w3
      have hng2 := i_ng6 I2
      obtain ⟨g1, g2⟩ := gN_of (V := (daysL (gw G.1) (gg G.1) (gr G.1) true m (fun k i => D1 (37 + k) i, 0)).1) hng
      have e64 := everyN I
      simp only [b170_41 hw, wO HS, wi_some, or_0, or_1, bo_or, ite_boP, true_and, and_true, kN_v, kN_n, kT_v, kT_n, kT_e, Nat.add_zero, Nat.zero_add, g1]
      have := k91 (nx := nx) (xs := xs) (d := d + 4) (c := 0) (s := 0) (Q := kN (tP nx xs) (d + 5 + 1) 170 45 [some (.ref 0), (some (.int (Int32.ofNat m))), (some (.int (Int32.ofNat 1))), (some (.int (Int32.ofNat (gN (daysL (gw G.1) (gg G.1) (gr G.1) true m (fun k i => D1 (37 + k) i, 0)).1 (gg G.1)))))] [] c s Q) hw (Wsh_265 HS) w3 (show gN (daysL (gw G.1) (gg G.1) (gr G.1) true m (fun k i => D1 (37 + k) i, 0)).1 (gg G.1) < 64 by omega) (sub_every hng g2)
      refine Eq.mpr this ?_
      simp only [wi_some, or_0, or_1, bo_or, ite_boP, true_and, and_true, kN_v, kN_n, kT_v, kT_n, kT_e, Nat.add_zero, Nat.zero_add, b170_45 hw, b170_49 hw]
      exact kk D3 _ e1 h3 (fc.tr (c3.fc hx))
/-! the reference -/
theorem k195 (hw : WT sh) (HS : SP sh) (kk : ∀ D', (∀ b, b ≠ 290 → D' b = D b) → (∀ i, i < 352 → D' 290 i = D 287 i) → Q (.inl none) (mk sh D') c s) : Wx (tP nx xs) d 195 0 [some (.ref 286), none] [] (mk sh D) c s Q := by
  simp only [b195_0 hw]
  refine up_P (W := fun i (_ : Nat) D => Wx (tP nx xs) d 195 2 [some (.ref 286), (some (.int (Int32.ofNat i)))] [] (mk sh D) c s Q) (P := fun i _ D' => (∀ b, b ≠ 290 → D' b = D b) ∧ ∀ j, j < i → D' 290 j = D 287 j) (F := fun _ x => x) 352 ?_ 0 D ⟨fun _ _ => rfl, fun j hj => by omega⟩ ?_
  · intro i _ D2 hi ⟨f2, a2⟩ k
    have b2 : i < 2050 := by omega
    have b3 : i < 352 := by omega
    have er : D2 287 i = D 287 i := by rw [f2 287 (by decide)]
    rw [b195_2 hw]
    simp only [b195_21 hw, mI_thrown HS, mF_thrown HS, mR_row HS, mR_image HS, mR_earlier HS, mR_trial HS, mR_acts HS, mI_hasImage HS, mF_hasImage HS, mI_remembered HS, mF_remembered HS, mR_tape HS, mI_taped HS, mF_taped HS, mI_point HS, mF_point HS, mI_end HS, mF_end HS, mI_begin HS, mF_begin HS, mI_deep HS, mF_deep HS, mI_faultAt HS, mF_faultAt HS, mR_five HS, mI_codes HS, mF_codes HS, mR_value HS, mI_so HS, mF_so HS, mR_lines HS, mR_chosen HS, mR_best HS, mR_members HS, mR_paired HS, mO HS, mA_287 HS, mW_287 HS, mA_288 HS, mW_288 HS, mA_289 HS, mW_289 HS, mA_290 HS, mW_290 HS, mA_291 HS, mW_291 HS, mA_292 HS, mW_292 HS, mA_293 HS, mW_293 HS, mA_294 HS, mW_294 HS, mA_295 HS, mW_295 HS, mA_296 HS, mW_296 HS, mA_297 HS, mW_297 HS, mA_298 HS, mW_298 HS, mA_299 HS, mW_299 HS, wi_some, or_0, or_1, bo_or, ite_boP, true_and, and_true, kN_v, kN_n, kT_v, kT_n, kT_e, Nat.add_zero, Nat.zero_add, oN_lt (show i < 2147483648 by omega) (show 352 < 2147483648 by omega), hi, if_true, oN_add, b2, oN_tn (show i < 2147483648 by omega), er]
    refine k _ ⟨fun b hb => ?_, fun j hj => ?_⟩
    · rw [← f2 b hb]
      funext x
      rw [u2_at, if_neg (by omega)]
    · rw [u2_at]
      by_cases e : j = i
      · rw [if_pos ⟨rfl, e⟩, e]
      · rw [if_neg (by omega), a2 j (by omega)]
  · intro D2 ⟨f2, a2⟩
    rw [b195_2 hw]
    simp only [oN_lt (show 352 < 2147483648 by omega) (show 352 < 2147483648 by omega), Nat.lt_irrefl, if_false]
    exact kk D2 f2 a2
theorem k196 (hw : WT sh) (HS : SP sh) (kk : ∀ D', (∀ b, b ≠ 287 → D' b = D b) → (∀ i, i < 352 → D' 287 i = D 290 i) → (∀ i, 352 ≤ i → D' 287 i = D 287 i) → Q (.inl none) (mk sh D') c s) : Wx (tP nx xs) d 196 0 [some (.ref 286), none] [] (mk sh D) c s Q := by
  simp only [b196_0 hw]
  refine up_P (W := fun i (_ : Nat) D => Wx (tP nx xs) d 196 2 [some (.ref 286), (some (.int (Int32.ofNat i)))] [] (mk sh D) c s Q) (P := fun i _ D' => (∀ b, b ≠ 287 → D' b = D b) ∧ (∀ j, j < i → D' 287 j = D 290 j) ∧ ∀ j, 352 ≤ j → D' 287 j = D 287 j) (F := fun _ x => x) 352 ?_ 0 D ⟨fun _ _ => rfl, fun j hj => by omega, fun _ _ => rfl⟩ ?_
  · intro i _ D2 hi ⟨f2, a2, a3⟩ k
    have b2 : i < 2050 := by omega
    have b3 : i < 352 := by omega
    have er : D2 290 i = D 290 i := by rw [f2 290 (by decide)]
    rw [b196_2 hw]
    simp only [b196_21 hw, mI_thrown HS, mF_thrown HS, mR_row HS, mR_image HS, mR_earlier HS, mR_trial HS, mR_acts HS, mI_hasImage HS, mF_hasImage HS, mI_remembered HS, mF_remembered HS, mR_tape HS, mI_taped HS, mF_taped HS, mI_point HS, mF_point HS, mI_end HS, mF_end HS, mI_begin HS, mF_begin HS, mI_deep HS, mF_deep HS, mI_faultAt HS, mF_faultAt HS, mR_five HS, mI_codes HS, mF_codes HS, mR_value HS, mI_so HS, mF_so HS, mR_lines HS, mR_chosen HS, mR_best HS, mR_members HS, mR_paired HS, mO HS, mA_287 HS, mW_287 HS, mA_288 HS, mW_288 HS, mA_289 HS, mW_289 HS, mA_290 HS, mW_290 HS, mA_291 HS, mW_291 HS, mA_292 HS, mW_292 HS, mA_293 HS, mW_293 HS, mA_294 HS, mW_294 HS, mA_295 HS, mW_295 HS, mA_296 HS, mW_296 HS, mA_297 HS, mW_297 HS, mA_298 HS, mW_298 HS, mA_299 HS, mW_299 HS, wi_some, or_0, or_1, bo_or, ite_boP, true_and, and_true, kN_v, kN_n, kT_v, kT_n, kT_e, Nat.add_zero, Nat.zero_add, oN_lt (show i < 2147483648 by omega) (show 352 < 2147483648 by omega), hi, if_true, oN_add, b2, oN_tn (show i < 2147483648 by omega), er]
    refine k _ ⟨fun b hb => ?_, fun j hj => ?_, fun j hj => ?_⟩
    · rw [← f2 b hb]
      funext x
      rw [u2_at, if_neg (by omega)]
    · rw [u2_at]
      by_cases e : j = i
      · rw [if_pos ⟨rfl, e⟩, e]
      · rw [if_neg (by omega), a2 j (by omega)]
    · rw [u2_at, if_neg (by omega)]; exact a3 j hj
  · intro D2 ⟨f2, a2, a3⟩
    rw [b196_2 hw]
    simp only [oN_lt (show 352 < 2147483648 by omega) (show 352 < 2147483648 by omega), Nat.lt_irrefl, if_false]
    exact kk D2 f2 a2 a3
/-- kept, gone on from, and brought back -/
theorem Ms.bk {D D1 D2 D2' D3 : sD} (f1 : ∀ b, b ≠ 290 → D1 b = D b) (a1 : ∀ i, i < 352 → D1 290 i = D 287 i) (r2 : Rx D1 D2) (s2 : Ms D2 D2') (e290 : D2' 290 = D2 290) (f3 : ∀ b, b ≠ 287 → D3 b = D2' b) (a3 : ∀ i, i < 352 → D3 287 i = D2' 290 i) (g3 : ∀ i, 352 ≤ i → D3 287 i = D2' 287 i) : Ms D D3 := by
  obtain ⟨s21, s22, s23, s24, s25, s26⟩ := s2
  refine ⟨fun b hb => ?_, fun i h1 h2 h3 h4 h5 h6 h7 => ?_, fun i hi => ?_, ?_, ?_, ?_⟩
  · rw [f3 b (by omega), s21 b hb, r2.1 b (by omega) (by omega), f1 b (by omega)]
  · rw [f3 286 (by omega), s22 i h1 h2 h3 h4 h5 h6 h7, r2.1 286 (by omega) (by omega), f1 286 (by omega)]
  · by_cases h : i < 352
    · rw [a3 i h, e290, r2.1 290 (by omega) (by omega), a1 i h]
    · rw [g3 i (by omega), s23 i hi, r2.2 i (by omega), f1 287 (by omega)]
  · rw [f3 288 (by omega), s24, r2.1 288 (by omega) (by omega), f1 288 (by omega)]
  · rw [f3 291 (by omega), s25, r2.1 291 (by omega) (by omega), f1 291 (by omega)]
  · rw [f3 292 (by omega), s26, r2.1 292 (by omega) (by omega), f1 292 (by omega)]
theorem k347 {x : Int32} (hw : WT sh) : Wx (tP nx xs) (d + 1) 347 0 [(some (.int (x)))] [] (mk sh D) c s Q = Q (.inl (some (.int (bo (ixO x 61).isNone)))) (mk sh D) c s := by
  simp only [b347_0 hw, k188 hw, b347_7 hw, b347_15 hw, wi_some, or_0, or_1, bo_or, ite_boP, true_and, and_true, kN_v, kN_n, kT_v, kT_n, kT_e, Nat.add_zero, Nat.zero_add]
  have e := in_ix (x := x) (show 61 < 1000000 by omega)
  have e61 : (decide (¬ x < Int32.ofNat 0) && decide (¬ Int32.ofNat 60 < x)) = (ixO x 61).isSome := e
  rw [e61]
  cases ixO x 61 <;> simp only [Option.isSome_none, Option.isSome_some, Option.isNone_none, Option.isNone_some, bo_t, bo_f, if_true, if_false, Bool.false_eq_true, or_true, true_or, true_and] <;> rfl
theorem m_ahead {x n : Int32} {V' : sD} (hw : WT sh) (HS : SP sh) (hv : GV G) (h : GR D G) (e : VE (gV G.1) V') (kk : ∀ D', Ms D D' → D' 286 0 = Int32.ofNat (th (o_ahead G V' x n)) → Q (.inl (some (.int (rv (o_ahead G V' x n))))) (mk sh D') c s) : Wx (tP nx xs) (d + 13) 348 0 [some (.ref 286), (some (.int (x))), (some (.int (n))), none] [] (mk sh D) c s Q := by
  have R := h.1.1
  have hL := h.1.2
  have I := hv.1
  have hng := i_ng6 I
  have hnt := i_nt8 I
  have hnr := i_nr5 I
  have hnl := i_nl60 I
  have m1 : Ms D (u2 D 286 0 (Int32.ofNat 0)) := Ms.rf.th
  have h1 := h.ms hv m1
  have n10 : ¬ (Int32.ofNat 1 : Int32) = Int32.ofNat 0 := by decide
  unfold o_ahead at kk
  simp only [b348_0 hw, b348_5 hw, mI_thrown HS, mF_thrown HS, mR_row HS, mR_image HS, mR_earlier HS, mR_trial HS, mR_acts HS, mI_hasImage HS, mF_hasImage HS, mI_remembered HS, mF_remembered HS, mR_tape HS, mI_taped HS, mF_taped HS, mI_point HS, mF_point HS, mI_end HS, mF_end HS, mI_begin HS, mF_begin HS, mI_deep HS, mF_deep HS, mI_faultAt HS, mF_faultAt HS, mR_five HS, mI_codes HS, mF_codes HS, mR_value HS, mI_so HS, mF_so HS, mR_lines HS, mR_chosen HS, mR_best HS, mR_members HS, mR_paired HS, mO HS, mA_287 HS, mW_287 HS, mA_288 HS, mW_288 HS, mA_289 HS, mW_289 HS, mA_290 HS, mW_290 HS, mA_291 HS, mW_291 HS, mA_292 HS, mW_292 HS, mA_293 HS, mW_293 HS, mA_294 HS, mW_294 HS, mA_295 HS, mW_295 HS, mA_296 HS, mW_296 HS, mA_297 HS, mW_297 HS, mA_298 HS, mW_298 HS, mA_299 HS, mW_299 HS, wi_some, or_0, or_1, bo_or, ite_boP, true_and, and_true, kN_v, kN_n, kT_v, kT_n, kT_e, Nat.add_zero, Nat.zero_add, k211 hw HS hv h1, b348_11 hw]
  cases hi : ixO x (gg G.1) with
  | none =>
    simp only [hi, Option.isNone_none, bo_t, th, rv, k187t hw HS, b348_15 hw, b348_30 hw, wi_some, or_0, or_1, bo_or, ite_boP, true_and, and_true, kN_v, kN_n, kT_v, kT_n, kT_e, Nat.add_zero, Nat.zero_add, n10, if_false] at kk ⊢
    exact kk _ Ms.rf.th.th (by simp [u2_at])
  | some g =>
    simp only [Option.isNone_some, bo_f, k187f hw HS, b348_15 hw, wi_some, or_0, or_1, bo_or, ite_boP, true_and, and_true, kN_v, kN_n, kT_v, kT_n, kT_e, Nat.add_zero, Nat.zero_add, if_true, k347 hw, b348_23 hw, mI_thrown HS, mF_thrown HS, mR_row HS, mR_image HS, mR_earlier HS, mR_trial HS, mR_acts HS, mI_hasImage HS, mF_hasImage HS, mI_remembered HS, mF_remembered HS, mR_tape HS, mI_taped HS, mF_taped HS, mI_point HS, mF_point HS, mI_end HS, mF_end HS, mI_begin HS, mF_begin HS, mI_deep HS, mF_deep HS, mI_faultAt HS, mF_faultAt HS, mR_five HS, mI_codes HS, mF_codes HS, mR_value HS, mI_so HS, mF_so HS, mR_lines HS, mR_chosen HS, mR_best HS, mR_members HS, mR_paired HS, mO HS, mA_287 HS, mW_287 HS, mA_288 HS, mW_288 HS, mA_289 HS, mW_289 HS, mA_290 HS, mW_290 HS, mA_291 HS, mW_291 HS, mA_292 HS, mW_292 HS, mA_293 HS, mW_293 HS, mA_294 HS, mW_294 HS, mA_295 HS, mW_295 HS, mA_296 HS, mW_296 HS, mA_297 HS, mW_297 HS, mA_298 HS, mW_298 HS, mA_299 HS, mW_299 HS]
    cases hj : ixO n 61 with
    | none =>
      simp only [hi, hj, Option.isNone_none, bo_t, th, rv, k187t hw HS, b348_27 hw, b348_30 hw, wi_some, or_0, or_1, bo_or, ite_boP, true_and, and_true, kN_v, kN_n, kT_v, kT_n, kT_e, Nat.add_zero, Nat.zero_add, n10, if_false] at kk ⊢
      exact kk _ Ms.rf.th.th (by simp [u2_at])
    | some m =>
      obtain ⟨hg, rfl⟩ := ixO_some (by omega) hi
      obtain ⟨hm, rfl⟩ := ixO_some (by omega) hj
      have hg6 : g < 6 := by omega
      simp only [hi, hj, th, rv] at kk
      simp only [Option.isNone_some, bo_f, k187f hw HS, b348_27 hw, wi_some, or_0, or_1, bo_or, ite_boP, true_and, and_true, kN_v, kN_n, kT_v, kT_n, kT_e, Nat.add_zero, Nat.zero_add, if_true, mI_thrown HS, mF_thrown HS, mR_row HS, mR_image HS, mR_earlier HS, mR_trial HS, mR_acts HS, mI_hasImage HS, mF_hasImage HS, mI_remembered HS, mF_remembered HS, mR_tape HS, mI_taped HS, mF_taped HS, mI_point HS, mF_point HS, mI_end HS, mF_end HS, mI_begin HS, mF_begin HS, mI_deep HS, mF_deep HS, mI_faultAt HS, mF_faultAt HS, mR_five HS, mI_codes HS, mF_codes HS, mR_value HS, mI_so HS, mF_so HS, mR_lines HS, mR_chosen HS, mR_best HS, mR_members HS, mR_paired HS, mO HS, mA_287 HS, mW_287 HS, mA_288 HS, mW_288 HS, mA_289 HS, mW_289 HS, mA_290 HS, mW_290 HS, mA_291 HS, mW_291 HS, mA_292 HS, mW_292 HS, mA_293 HS, mW_293 HS, mA_294 HS, mW_294 HS, mA_295 HS, mW_295 HS, mA_296 HS, mW_296 HS, mA_297 HS, mW_297 HS, mA_298 HS, mW_298 HS, mA_299 HS, mW_299 HS]
      generalize hD1 : u2 D 286 0 (Int32.ofNat 0) = D1 at *
      refine k195 hw HS ?_
      intro D2 f2 a2
      simp only [b348_36 hw, mI_thrown HS, mF_thrown HS, mR_row HS, mR_image HS, mR_earlier HS, mR_trial HS, mR_acts HS, mI_hasImage HS, mF_hasImage HS, mI_remembered HS, mF_remembered HS, mR_tape HS, mI_taped HS, mF_taped HS, mI_point HS, mF_point HS, mI_end HS, mF_end HS, mI_begin HS, mF_begin HS, mI_deep HS, mF_deep HS, mI_faultAt HS, mF_faultAt HS, mR_five HS, mI_codes HS, mF_codes HS, mR_value HS, mI_so HS, mF_so HS, mR_lines HS, mR_chosen HS, mR_best HS, mR_members HS, mR_paired HS, mO HS, mA_287 HS, mW_287 HS, mA_288 HS, mW_288 HS, mA_289 HS, mW_289 HS, mA_290 HS, mW_290 HS, mA_291 HS, mW_291 HS, mA_292 HS, mW_292 HS, mA_293 HS, mW_293 HS, mA_294 HS, mW_294 HS, mA_295 HS, mW_295 HS, mA_296 HS, mW_296 HS, mA_297 HS, mW_297 HS, mA_298 HS, mW_298 HS, mA_299 HS, mW_299 HS, wi_some, or_0, or_1, bo_or, ite_boP, true_and, and_true, kN_v, kN_n, kT_v, kT_n, kT_e, Nat.add_zero, Nat.zero_add]
      have R2 : Rw (D2 287) V' (gt G.1) (gg G.1) (gr G.1) (gl G.1) := by rw [f2 287 (by decide)]; exact h1.1.1.ve hnt hng hnr hnl e
      have L2 : Rl (D2 287) (gw G.1) := by rw [f2 287 (by decide)]; exact h1.1.2
      have := k263 (nx := nx) (xs := xs) (d := d) (c := 0) (s := 0) (D := D2) (Q := kN (tP nx xs) (d + 12 + 1) 348 42 [some (.ref 286), (some (.int (Int32.ofNat g))), (some (.int (Int32.ofNat m))), none] [] c s Q) (dr := false) (n := m) hw HS R2 (I.ve e) L2 (by omega)
      refine this ?_
      intro D3 r3 R3 I3
      have h8 : 8 < 11 := by decide
      simp only [b348_42 hw, mI_thrown HS, mF_thrown HS, mR_row HS, mR_image HS, mR_earlier HS, mR_trial HS, mR_acts HS, mI_hasImage HS, mF_hasImage HS, mI_remembered HS, mF_remembered HS, mR_tape HS, mI_taped HS, mF_taped HS, mI_point HS, mF_point HS, mI_end HS, mF_end HS, mI_begin HS, mF_begin HS, mI_deep HS, mF_deep HS, mI_faultAt HS, mF_faultAt HS, mR_five HS, mI_codes HS, mF_codes HS, mR_value HS, mI_so HS, mF_so HS, mR_lines HS, mR_chosen HS, mR_best HS, mR_members HS, mR_paired HS, mO HS, mA_287 HS, mW_287 HS, mA_288 HS, mW_288 HS, mA_289 HS, mW_289 HS, mA_290 HS, mW_290 HS, mA_291 HS, mW_291 HS, mA_292 HS, mW_292 HS, mA_293 HS, mW_293 HS, mA_294 HS, mW_294 HS, mA_295 HS, mW_295 HS, mA_296 HS, mW_296 HS, mA_297 HS, mW_297 HS, mA_298 HS, mW_298 HS, mA_299 HS, mW_299 HS, wi_some, or_0, or_1, bo_or, ite_boP, true_and, and_true, kN_v, kN_n, kT_v, kT_n, kT_e, Nat.add_zero, Nat.zero_add, k203 hw HS hg6 h8, r_by R3 hg, b348_50 hw]
      refine k196 hw HS ?_
      intro D4 f4 a4 g4
      simp only [b348_55 hw, wi_some, or_0, or_1, bo_or, ite_boP, true_and, and_true, kN_v, kN_n, kT_v, kT_n, kT_e, Nat.add_zero, Nat.zero_add]
      refine kk D4 (m1.tr (Ms.bk f2 a2 r3 Ms.rf rfl f4 a4 g4)) ?_
      rw [f4 286 (by decide), r3.1 286 (by decide) (by decide), f2 286 (by decide), ← hD1]
      simp [u2_at]
theorem m_trial {n : Int32} {b : Bool} {V' : sD} (hw : WT sh) (HS : SP sh) (hv : GV G) (h : GR D G) (e : VE (gV G.1) V') (kk : ∀ D', Ms D D' → D' 286 0 = Int32.ofNat (th (o_trial G V' n b)) → Q (.inl (some (.int (rv (o_trial G V' n b))))) (mk sh D') c s) : Wx (tP nx xs) (d + 13) 349 0 [some (.ref 286), (some (.int (n))), (some (.int (bo b))), none] [] (mk sh D) c s Q := by
  have R := h.1.1
  have hL := h.1.2
  have I := hv.1
  have hng := i_ng6 I
  have hnt := i_nt8 I
  have hnr := i_nr5 I
  have hnl := i_nl60 I
  have m1 : Ms D (u2 D 286 0 (Int32.ofNat 0)) := Ms.rf.th
  have h1 := h.ms hv m1
  have n10 : ¬ (Int32.ofNat 1 : Int32) = Int32.ofNat 0 := by decide
  unfold o_trial at kk
  simp only [b349_0 hw, b349_5 hw, mI_thrown HS, mF_thrown HS, mR_row HS, mR_image HS, mR_earlier HS, mR_trial HS, mR_acts HS, mI_hasImage HS, mF_hasImage HS, mI_remembered HS, mF_remembered HS, mR_tape HS, mI_taped HS, mF_taped HS, mI_point HS, mF_point HS, mI_end HS, mF_end HS, mI_begin HS, mF_begin HS, mI_deep HS, mF_deep HS, mI_faultAt HS, mF_faultAt HS, mR_five HS, mI_codes HS, mF_codes HS, mR_value HS, mI_so HS, mF_so HS, mR_lines HS, mR_chosen HS, mR_best HS, mR_members HS, mR_paired HS, mO HS, mA_287 HS, mW_287 HS, mA_288 HS, mW_288 HS, mA_289 HS, mW_289 HS, mA_290 HS, mW_290 HS, mA_291 HS, mW_291 HS, mA_292 HS, mW_292 HS, mA_293 HS, mW_293 HS, mA_294 HS, mW_294 HS, mA_295 HS, mW_295 HS, mA_296 HS, mW_296 HS, mA_297 HS, mW_297 HS, mA_298 HS, mW_298 HS, mA_299 HS, mW_299 HS, wi_some, or_0, or_1, bo_or, ite_boP, true_and, and_true, kN_v, kN_n, kT_v, kT_n, kT_e, Nat.add_zero, Nat.zero_add, k347 hw, b349_10 hw]
  cases hj : ixO n 61 with
  | none =>
    simp only [hj, Option.isNone_none, bo_t, th, rv, k187t hw HS, b349_14 hw, wi_some, or_0, or_1, bo_or, ite_boP, true_and, and_true, kN_v, kN_n, kT_v, kT_n, kT_e, Nat.add_zero, Nat.zero_add, n10, if_false] at kk ⊢
    exact kk _ Ms.rf.th.th (by simp [u2_at])
  | some m =>
    obtain ⟨hm, rfl⟩ := ixO_some (by omega) hj
    simp only [hj, th, rv] at kk
    simp only [Option.isNone_some, bo_f, k187f hw HS, b349_14 hw, wi_some, or_0, or_1, bo_or, ite_boP, true_and, and_true, kN_v, kN_n, kT_v, kT_n, kT_e, Nat.add_zero, Nat.zero_add, if_true, mI_thrown HS, mF_thrown HS, mR_row HS, mR_image HS, mR_earlier HS, mR_trial HS, mR_acts HS, mI_hasImage HS, mF_hasImage HS, mI_remembered HS, mF_remembered HS, mR_tape HS, mI_taped HS, mF_taped HS, mI_point HS, mF_point HS, mI_end HS, mF_end HS, mI_begin HS, mF_begin HS, mI_deep HS, mF_deep HS, mI_faultAt HS, mF_faultAt HS, mR_five HS, mI_codes HS, mF_codes HS, mR_value HS, mI_so HS, mF_so HS, mR_lines HS, mR_chosen HS, mR_best HS, mR_members HS, mR_paired HS, mO HS, mA_287 HS, mW_287 HS, mA_288 HS, mW_288 HS, mA_289 HS, mW_289 HS, mA_290 HS, mW_290 HS, mA_291 HS, mW_291 HS, mA_292 HS, mW_292 HS, mA_293 HS, mW_293 HS, mA_294 HS, mW_294 HS, mA_295 HS, mW_295 HS, mA_296 HS, mW_296 HS, mA_297 HS, mW_297 HS, mA_298 HS, mW_298 HS, mA_299 HS, mW_299 HS]
    generalize hD1 : u2 D 286 0 (Int32.ofNat 0) = D1 at *
    refine k195 hw HS ?_
    intro D2 f2 a2
    simp only [b349_23 hw, mI_thrown HS, mF_thrown HS, mR_row HS, mR_image HS, mR_earlier HS, mR_trial HS, mR_acts HS, mI_hasImage HS, mF_hasImage HS, mI_remembered HS, mF_remembered HS, mR_tape HS, mI_taped HS, mF_taped HS, mI_point HS, mF_point HS, mI_end HS, mF_end HS, mI_begin HS, mF_begin HS, mI_deep HS, mF_deep HS, mI_faultAt HS, mF_faultAt HS, mR_five HS, mI_codes HS, mF_codes HS, mR_value HS, mI_so HS, mF_so HS, mR_lines HS, mR_chosen HS, mR_best HS, mR_members HS, mR_paired HS, mO HS, mA_287 HS, mW_287 HS, mA_288 HS, mW_288 HS, mA_289 HS, mW_289 HS, mA_290 HS, mW_290 HS, mA_291 HS, mW_291 HS, mA_292 HS, mW_292 HS, mA_293 HS, mW_293 HS, mA_294 HS, mW_294 HS, mA_295 HS, mW_295 HS, mA_296 HS, mW_296 HS, mA_297 HS, mW_297 HS, mA_298 HS, mW_298 HS, mA_299 HS, mW_299 HS, wi_some, or_0, or_1, bo_or, ite_boP, true_and, and_true, kN_v, kN_n, kT_v, kT_n, kT_e, Nat.add_zero, Nat.zero_add]
    have R2 : Rw (D2 287) V' (gt G.1) (gg G.1) (gr G.1) (gl G.1) := by rw [f2 287 (by decide)]; exact h1.1.1.ve hnt hng hnr hnl e
    have L2 : Rl (D2 287) (gw G.1) := by rw [f2 287 (by decide)]; exact h1.1.2
    have := k263 (nx := nx) (xs := xs) (d := d) (c := 0) (s := 0) (D := D2) (Q := kN (tP nx xs) (d + 12 + 1) 349 29 [some (.ref 286), (some (.int (Int32.ofNat m))), (some (.int (bo b))), none] [] c s Q) (dr := true) (n := m) hw HS R2 (I.ve e) L2 (by omega)
    refine this ?_
    intro D3 r3 R3 I3
    have t3 : D3 286 0 = Int32.ofNat 0 := by rw [r3.1 286 (by decide) (by decide), f2 286 (by decide), ← hD1]; simp [u2_at]
    simp only [b349_29 hw, mI_thrown HS, mF_thrown HS, mR_row HS, mR_image HS, mR_earlier HS, mR_trial HS, mR_acts HS, mI_hasImage HS, mF_hasImage HS, mI_remembered HS, mF_remembered HS, mR_tape HS, mI_taped HS, mF_taped HS, mI_point HS, mF_point HS, mI_end HS, mF_end HS, mI_begin HS, mF_begin HS, mI_deep HS, mF_deep HS, mI_faultAt HS, mF_faultAt HS, mR_five HS, mI_codes HS, mF_codes HS, mR_value HS, mI_so HS, mF_so HS, mR_lines HS, mR_chosen HS, mR_best HS, mR_members HS, mR_paired HS, mO HS, mA_287 HS, mW_287 HS, mA_288 HS, mW_288 HS, mA_289 HS, mW_289 HS, mA_290 HS, mW_290 HS, mA_291 HS, mW_291 HS, mA_292 HS, mW_292 HS, mA_293 HS, mW_293 HS, mA_294 HS, mW_294 HS, mA_295 HS, mW_295 HS, mA_296 HS, mW_296 HS, mA_297 HS, mW_297 HS, mA_298 HS, mW_298 HS, mA_299 HS, mW_299 HS, wi_some, or_0, or_1, bo_or, ite_boP, true_and, and_true, kN_v, kN_n, kT_v, kT_n, kT_e, Nat.add_zero, Nat.zero_add]
    cases b with
    | false =>
      simp only [bo_f, if_true, Bool.false_eq_true, if_false, mI_thrown HS, mF_thrown HS, mR_row HS, mR_image HS, mR_earlier HS, mR_trial HS, mR_acts HS, mI_hasImage HS, mF_hasImage HS, mI_remembered HS, mF_remembered HS, mR_tape HS, mI_taped HS, mF_taped HS, mI_point HS, mF_point HS, mI_end HS, mF_end HS, mI_begin HS, mF_begin HS, mI_deep HS, mF_deep HS, mI_faultAt HS, mF_faultAt HS, mR_five HS, mI_codes HS, mF_codes HS, mR_value HS, mI_so HS, mF_so HS, mR_lines HS, mR_chosen HS, mR_best HS, mR_members HS, mR_paired HS, mO HS, mA_287 HS, mW_287 HS, mA_288 HS, mW_288 HS, mA_289 HS, mW_289 HS, mA_290 HS, mW_290 HS, mA_291 HS, mW_291 HS, mA_292 HS, mW_292 HS, mA_293 HS, mW_293 HS, mA_294 HS, mW_294 HS, mA_295 HS, mW_295 HS, mA_296 HS, mW_296 HS, mA_297 HS, mW_297 HS, mA_298 HS, mW_298 HS, mA_299 HS, mW_299 HS, wi_some, or_0, or_1, bo_or, ite_boP, true_and, and_true, kN_v, kN_n, kT_v, kT_n, kT_e, Nat.add_zero, Nat.zero_add, k208 hw HS R3 hng, b349_45 hw] at kk ⊢
      refine k196 hw HS ?_
      intro D4 f4 a4 g4
      simp only [b349_50 hw, wi_some, or_0, or_1, bo_or, ite_boP, true_and, and_true, kN_v, kN_n, kT_v, kT_n, kT_e, Nat.add_zero, Nat.zero_add]
      refine kk D4 (m1.tr (Ms.bk f2 a2 r3 Ms.rf rfl f4 a4 g4)) ?_
      rw [f4 286 (by decide), t3]
    | true =>
      simp only [bo_t, n10, if_true, if_false, mI_thrown HS, mF_thrown HS, mR_row HS, mR_image HS, mR_earlier HS, mR_trial HS, mR_acts HS, mI_hasImage HS, mF_hasImage HS, mI_remembered HS, mF_remembered HS, mR_tape HS, mI_taped HS, mF_taped HS, mI_point HS, mF_point HS, mI_end HS, mF_end HS, mI_begin HS, mF_begin HS, mI_deep HS, mF_deep HS, mI_faultAt HS, mF_faultAt HS, mR_five HS, mI_codes HS, mF_codes HS, mR_value HS, mI_so HS, mF_so HS, mR_lines HS, mR_chosen HS, mR_best HS, mR_members HS, mR_paired HS, mO HS, mA_287 HS, mW_287 HS, mA_288 HS, mW_288 HS, mA_289 HS, mW_289 HS, mA_290 HS, mW_290 HS, mA_291 HS, mW_291 HS, mA_292 HS, mW_292 HS, mA_293 HS, mW_293 HS, mA_294 HS, mW_294 HS, mA_295 HS, mW_295 HS, mA_296 HS, mW_296 HS, mA_297 HS, mW_297 HS, mA_298 HS, mW_298 HS, mA_299 HS, mW_299 HS, wi_some, or_0, or_1, bo_or, ite_boP, true_and, and_true, kN_v, kN_n, kT_v, kT_n, kT_e, Nat.add_zero, Nat.zero_add] at kk ⊢
      have := k270 (nx := nx) (xs := xs) (d := d + 6) (c := 0) (s := 0) (D := D3) (Q := kN (tP nx xs) (d + 12 + 1) 349 38 [some (.ref 286), (some (.int (Int32.ofNat m))), (some (.int (Int32.ofNat 1))), none] [] c s Q) hw HS R3 I3
      refine this ?_
      intro D4 s4
      simp only [b349_38 hw, b349_45 hw, mI_thrown HS, mF_thrown HS, mR_row HS, mR_image HS, mR_earlier HS, mR_trial HS, mR_acts HS, mI_hasImage HS, mF_hasImage HS, mI_remembered HS, mF_remembered HS, mR_tape HS, mI_taped HS, mF_taped HS, mI_point HS, mF_point HS, mI_end HS, mF_end HS, mI_begin HS, mF_begin HS, mI_deep HS, mF_deep HS, mI_faultAt HS, mF_faultAt HS, mR_five HS, mI_codes HS, mF_codes HS, mR_value HS, mI_so HS, mF_so HS, mR_lines HS, mR_chosen HS, mR_best HS, mR_members HS, mR_paired HS, mO HS, mA_287 HS, mW_287 HS, mA_288 HS, mW_288 HS, mA_289 HS, mW_289 HS, mA_290 HS, mW_290 HS, mA_291 HS, mW_291 HS, mA_292 HS, mW_292 HS, mA_293 HS, mW_293 HS, mA_294 HS, mW_294 HS, mA_295 HS, mW_295 HS, mA_296 HS, mW_296 HS, mA_297 HS, mW_297 HS, mA_298 HS, mW_298 HS, mA_299 HS, mW_299 HS, wi_some, or_0, or_1, bo_or, ite_boP, true_and, and_true, kN_v, kN_n, kT_v, kT_n, kT_e, Nat.add_zero, Nat.zero_add]
      refine k196 hw HS ?_
      intro D5 f5 a5 g5
      simp only [b349_50 hw, wi_some, or_0, or_1, bo_or, ite_boP, true_and, and_true, kN_v, kN_n, kT_v, kT_n, kT_e, Nat.add_zero, Nat.zero_add]
      obtain ⟨we, e1⟩ := days_WE (lw := (gw G.1)) (V := (gV G.1)) (V' := V') (nt := (gt G.1)) (ng := (gg G.1)) (nr := (gr G.1)) (n := m) (dr := true) (w := 0) hnt hng (fun k i hk _ => e k i hk)
      rw [cntS_congr we, e1]
      refine kk D5 (m1.tr (Ms.bk f2 a2 r3 s4.ms (funext fun i => s4 290 i (by omega)) f5 a5 g5)) ?_
      rw [f5 286 (by decide), s4 286 0 (by omega), t3]
end C78
