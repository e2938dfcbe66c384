/-! ===== what holds between calls ===== -/
abbrev GS : Type := sD × Nat × Nat × Nat × Nat × LW
def gV (S : GS) : sD := S.1
def gt (S : GS) : Nat := S.2.1
def gg (S : GS) : Nat := S.2.2.1
def gr (S : GS) : Nat := S.2.2.2.1
def gl (S : GS) : Nat := S.2.2.2.2.1
def gw (S : GS) : LW := S.2.2.2.2.2
/-- what stands, the image, what is remembered (the newest first), the tape and its length, where the last text was wrong -/
abbrev GT : Type := GS × Option GS × List GS × (Nat → Int32) × Nat × Int32
def IvS (S : GS) : Prop := Iv (gV S) (gt S) (gg S) (gr S) (gl S)
def GV (G : GT) : Prop := IvS G.1 ∧ (∀ Si, G.2.1 = some Si → IvS Si) ∧ (∀ Sj, Sj ∈ G.2.2.1 → IvS Sj ∧ gV Sj 0 14 = gV G.1 0 14 ∧ gw Sj = gw G.1) ∧ G.2.2.1.length ≤ 12 ∧ G.2.2.2.2.1 ≤ 400 ∧ ∀ i, i < G.2.2.2.2.1 → ∃ b, b < 256 ∧ G.2.2.2.1 i = Int32.ofNat b
def Sep (x y : Int32) : Prop := ∀ p q, sRf x = some p → sRf y = some q → p = q ∨ p + 7 ≤ q ∨ q + 7 ≤ p
def frW (D : sD) (S : GS) : Prop := (∀ t, t < 5 → D 282 t = Int32.ofNat 0) ∧ (D 0 9 = Int32.ofNat 0 ∨ (D 0 9 = Int32.ofNat 1 ∧ Wf D 265 (gV S) (gt S) (gg S) (gV S 1 1) (Int32.ofNat (2 ^ gg S - 1))))
def GC (sh : List sC) (D : sD) (G : GT) : Prop :=
  (SP sh ∧ WT sh) ∧ (Vw D 3 (gV G.1) ∧ Lc sh D (gV G.1 0 14) (gw G.1)) ∧
  (D 0 4 = bo G.2.1.isSome ∧ ∀ Si, G.2.1 = some Si → Vw D 20 (gV Si) ∧ Lc sh D (gV Si 0 14) (gw Si) ∧ Sep (gV G.1 0 14) (gV Si 0 14)) ∧
  (D 54 0 = Int32.ofNat G.2.2.1.length ∧ (∀ i, i < 12 → sRf (D 55 i) = some (56 + 17 * i)) ∧ ∃ q, q < 12 ∧ D 54 1 = Int32.ofNat q ∧ ∀ j Sj, G.2.2.1[j]? = some Sj → Vw D (56 + 17 * ((q + 11 - j) % 12)) (gV Sj)) ∧
  (D 1 1 = Int32.ofNat G.2.2.2.2.1 ∧ ∀ i, i < G.2.2.2.2.1 → D 2 i = G.2.2.2.1 i) ∧ D 0 1 = G.2.2.2.2.2 ∧ frW D G.1
def by8 (x : Int32) : Int32 := vp_nar .byte x
def GR (D : sD) (G : GT) : Prop :=
  (Rw (D 287) (gV G.1) (gt G.1) (gg G.1) (gr G.1) (gl G.1) ∧ Rl (D 287) (gw G.1)) ∧
  (D 286 6 = bo G.2.1.isSome ∧ ∀ Si, G.2.1 = some Si → Rw (D 288) (gV Si) (gt Si) (gg Si) (gr Si) (gl Si) ∧ Rl (D 288) (gw Si)) ∧
  (D 286 7 = Int32.ofNat G.2.2.1.length ∧ ∀ j Sj, G.2.2.1[j]? = some Sj → Rw (fun i => D 291 (352 * (G.2.2.1.length - 1 - j) + i)) (gV Sj) (gt Sj) (gg Sj) (gr Sj) (gl Sj) ∧ D 291 (352 * (G.2.2.1.length - 1 - j) + 4) = D 287 4) ∧
  (D 286 9 = Int32.ofNat G.2.2.2.2.1 ∧ ∀ i, i < G.2.2.2.2.1 → D 292 i = by8 (G.2.2.2.1 i)) ∧ D 286 14 = G.2.2.2.2.2
/-- the reference's cells have not changed; the class's have not -/
def Fc (D D' : sD) : Prop := ∀ b, 286 ≤ b → b ≤ 300 → D' b = D b
def Fm (D D' : sD) : Prop := ∀ b, (b < 286 ∨ 299 < b) → D' b = D b
theorem Fc.rf {D : sD} : Fc D D := fun _ _ _ => rfl
theorem Fm.rf {D : sD} : Fm D D := fun _ _ => rfl
theorem Fc.tr {D D' D'' : sD} (h : Fc D D') (h' : Fc D' D'') : Fc D D'' := fun b h1 h2 => (h' b h1 h2).trans (h b h1 h2)
theorem Fm.tr {D D' D'' : sD} (h : Fm D D') (h' : Fm D' D'') : Fm D D'' := fun b h1 => (h' b h1).trans (h b h1)
/-- rows in which the class reckons, and nothing else -/
def Cs (x : Int32) (D D' : sD) : Prop := ∀ b i, ¬ (37 ≤ b ∧ b < 54) → ¬ (265 ≤ b ∧ b < 286) → ¬ (b = 0 ∧ (i = 9 ∨ i = 13 ∨ i = 14)) → (∀ p, sRf x = some p → b ≠ p + 5 ∧ b ≠ p + 6) → D' b i = D b i
theorem Cs.rf {x : Int32} {D : sD} : Cs x D D := fun _ _ _ _ _ _ => rfl
theorem Cs.tr {x : Int32} {D D' D'' : sD} (h : Cs x D D') (h' : Cs x D' D'') : Cs x D D'' := fun b i h1 h2 h3 h4 => (h' b i h1 h2 h3 h4).trans (h b i h1 h2 h3 h4)
theorem Sl.cs {x : Int32} {D D' : sD} (h : Sl x D D') : Cs x D D' := fun b i _ _ _ h4 => by rw [h b h4]
theorem Cs.fc {x : Int32} {D D' : sD} (h : Cs x D D') (hx : ∀ p, sRf x = some p → 301 ≤ p) : Fc D D' := fun b h1 h2 => funext fun i => h b i (by omega) (by omega) (by omega) fun p hp => by have := hx p hp; omega
theorem GC.L {sh : List sC} {D : sD} {G : GT} (h : GC sh D G) : ∀ p, sRf (gV G.1 0 14) = some p → 301 ≤ p := Lc_301 h.2.1.2
theorem Vw.cs {x : Int32} {D D' V : sD} {a : Nat} (h : Vw D a V) (hs : Cs x D D') (hx : ∀ p, sRf x = some p → 301 ≤ p) (ha : 1 ≤ a) (ha2 : a + 17 ≤ 37 ∨ (54 ≤ a ∧ a + 17 ≤ 265)) : Vw D' a V := fun k i hk => by
  rw [hs (a + k) i (by omega) (by omega) (by omega) fun p hp => by have := hx p hp; omega]
  exact h k i hk
theorem Lc.cs {sh : List sC} {x y : Int32} {D D' : sD} {lw : LW} (h : Lc sh D y lw) (hs : Cs x D D') (hx : Sep x y) : Lc sh D' y lw := h.of fun p hp k hk => funext fun i => hs _ i (by have := Lc_301 h p hp; omega) (by have := Lc_301 h p hp; omega) (by have := Lc_301 h p hp; omega) fun q hq => by
  have := hx q p hq hp
  omega
theorem Sep.rf {x : Int32} : Sep x x := fun p q hp hq => Or.inl (by rw [hp] at hq; cases hq; rfl)
/-- what is kept when only rows change in which the class reckons -/
theorem GC.cs {sh : List sC} {D D' : sD} {G : GT} (h : GC sh D G) (hs : Cs (gV G.1 0 14) D D') (hf : frW D' G.1) : GC sh D' G := by
  have hx := h.L
  obtain ⟨h0, ⟨h1, h2⟩, ⟨h3, h4⟩, ⟨h5, h6, q, hq, h7, h8⟩, ⟨h9, h10⟩, h11, _⟩ := h
  have lo : ∀ b i, b < 37 → ¬ (b = 0 ∧ (i = 9 ∨ i = 13 ∨ i = 14)) → D' b i = D b i := fun b i hb hi => hs b i (by omega) (by omega) hi fun p hp => by have := hx p hp; omega
  have hi : ∀ b i, 54 ≤ b → b < 265 → D' b i = D b i := fun b i hb hb2 => hs b i (by omega) (by omega) (by omega) fun p hp => by have := hx p hp; omega
  refine ⟨h0, ⟨h1.cs hs hx (by decide) (by decide), h2.cs hs Sep.rf⟩, ⟨?_, ?_⟩, ⟨?_, ?_, q, hq, ?_, ?_⟩, ⟨?_, ?_⟩, ?_, hf⟩
  · rw [lo 0 4 (by decide) (by omega)]; exact h3
  · intro Si hSi
    obtain ⟨a1, a2, a3⟩ := h4 Si hSi
    exact ⟨a1.cs hs hx (by decide) (by decide), a2.cs hs a3, a3⟩
  · rw [hi 54 0 (by decide) (by decide)]; exact h5
  · intro i hi'; rw [hi 55 i (by decide) (by decide)]; exact h6 i hi'
  · rw [hi 54 1 (by decide) (by decide)]; exact h7
  · intro j Sj hj
    exact (h8 j Sj hj).cs hs hx (by omega) (by omega)
  · rw [lo 1 1 (by decide) (by omega)]; exact h9
  · intro i hi'; rw [lo 2 i (by decide) (by omega)]; exact h10 i hi'
  · rw [lo 0 1 (by decide) (by omega)]; exact h11
theorem GC.fm' {sh : List sC} {D D' : sD} {G : GT} (h : GC sh D G) (hs : ∀ b, (b < 286 ∨ 300 < b) → D' b = D b) : GC sh D' G := by
  obtain ⟨h0, ⟨h1, h2⟩, ⟨h3, h4⟩, ⟨h5, h6, q, hq, h7, h8⟩, ⟨h9, h10⟩, h11, hf⟩ := h
  have vw : ∀ {a V}, Vw D a V → a + 17 ≤ 286 → Vw D' a V := fun {a V} hv ha k i hk => by rw [hs (a + k) (by omega)]; exact hv k i hk
  have lc : ∀ {x lw}, Lc sh D x lw → Lc sh D' x lw := fun {x lw} hl => hl.of fun p hp k hk => hs _ (by have := Lc_301 hl p hp; omega)
  refine ⟨h0, ⟨vw h1 (by decide), lc h2⟩, ⟨?_, ?_⟩, ⟨?_, ?_, q, hq, ?_, ?_⟩, ⟨?_, ?_⟩, ?_, ?_⟩
  · rw [hs 0 (by decide)]; exact h3
  · intro Si hSi
    obtain ⟨a1, a2, a3⟩ := h4 Si hSi
    exact ⟨vw a1 (by decide), lc a2, a3⟩
  · rw [hs 54 (by decide)]; exact h5
  · rw [hs 55 (by decide)]; exact h6
  · rw [hs 54 (by decide)]; exact h7
  · intro j Sj hj; exact vw (h8 j Sj hj) (by omega)
  · rw [hs 1 (by decide)]; exact h9
  · rw [hs 2 (by decide)]; exact h10
  · rw [hs 0 (by decide)]; exact h11
  · unfold frW Wf at *
    rw [hs 0 (by decide), hs (265 + 1) (by decide), hs (265 + 2) (by decide), hs 282 (by decide)]
    exact hf
theorem GC.fm {sh : List sC} {D D' : sD} {G : GT} (h : GC sh D G) (hs : Fm D D') : GC sh D' G := h.fm' fun b hb => hs b (by omega)
theorem GR.fc {D D' : sD} {G : GT} (h : GR D G) (hs : Fc D D') : GR D' G := by
  unfold GR at *
  rw [hs 286 (by decide) (by decide), hs 287 (by decide) (by decide), hs 288 (by decide) (by decide), hs 291 (by decide) (by decide), hs 292 (by decide) (by decide)]
  exact h
/-- rows in which the reference reckons, and nothing else: thrown, so, its working rows -/
def Ms (D D' : sD) : Prop := Fm D D' ∧ (∀ i, i ≠ 0 → i ≠ 10 → i ≠ 11 → i ≠ 12 → i ≠ 13 → i ≠ 16 → i ≠ 18 → D' 286 i = D 286 i) ∧ (∀ i, i < 1201 → D' 287 i = D 287 i) ∧ D' 288 = D 288 ∧ D' 291 = D 291 ∧ D' 292 = D 292
theorem Ms.rf {D : sD} : Ms D D := ⟨Fm.rf, fun _ _ _ _ _ _ _ _ => rfl, fun _ _ => rfl, rfl, rfl, rfl⟩
theorem Ms.tr {D D' D'' : sD} (h : Ms D D') (h' : Ms D' D'') : Ms D D'' := ⟨h.1.tr h'.1, fun i h1 h2 h3 h4 h5 h6 h7 => (h'.2.1 i h1 h2 h3 h4 h5 h6 h7).trans (h.2.1 i h1 h2 h3 h4 h5 h6 h7), fun i hi => (h'.2.2.1 i hi).trans (h.2.2.1 i hi), h'.2.2.2.1.trans h.2.2.2.1, h'.2.2.2.2.1.trans h.2.2.2.2.1, h'.2.2.2.2.2.trans h.2.2.2.2.2⟩
theorem Rw.of {r r' : Nat → Int32} {V : sD} {nt ng nr nl : Nat} (h : Rw r V nt ng nr nl) (b1 : nt ≤ 8) (b2 : ng ≤ 6) (b3 : nr ≤ 5) (b4 : nl ≤ 60) (e : ∀ i, i < 352 → r' i = r i) : Rw r' V nt ng nr nl := by
  obtain ⟨⟨a1, a2, a3, a4⟩, ⟨a5, a6, a7⟩, h3, h4, h5, h6⟩ := h
  refine ⟨⟨?_, ?_, ?_, ?_⟩, ⟨?_, ?_, ?_⟩, ?_, ?_, ?_, ?_⟩
  · rw [e _ (by omega)]; exact a1
  · rw [e _ (by omega)]; exact a2
  · rw [e _ (by omega)]; exact a3
  · rw [e _ (by omega)]; exact a4
  · rw [e _ (by omega)]; exact a5
  · rw [e _ (by omega)]; exact a6
  · rw [e _ (by omega)]; exact a7
  · intro t ht; rw [e _ (by omega), e _ (by omega), e _ (by omega), e _ (by omega), e _ (by omega)]; exact h3 t ht
  · intro t ht; rw [e _ (by omega), e _ (by omega), e _ (by omega), e _ (by omega), e _ (by omega), e _ (by omega), e _ (by omega), e _ (by omega), e _ (by omega)]; exact h4 t ht
  · intro t ht; rw [e _ (by omega), e _ (by omega)]; exact h5 t ht
  · intro k w hk hw; rw [e _ (by omega)]; exact h6 k w hk hw
theorem WfL_400 {C : Nat → Int32} {f t : Nat} (h : WfL C f t) : t ≤ 400 := h.2.1
theorem Rl.of2 {r r' : Nat → Int32} {lw : LW} (h : Rl r lw) (e : ∀ i, i < 1201 → r' i = r i) : Rl r' lw := by
  cases lw with
  | none =>
    have h : r 4 = _ := h
    show r' 4 = _
    rw [e 4 (by omega)]; exact h
  | some L =>
    obtain ⟨n, K, A, C, en⟩ := L
    obtain ⟨h4, h352, hn, h0, hl, hc, hA⟩ := h
    refine ⟨by rw [e 4 (by omega)]; exact h4, by rw [e 352 (by omega)]; exact h352, hn, h0, ?_, ?_, hA⟩
    · intro j hj
      rw [e _ (by omega), e _ (by omega), e _ (by omega), e _ (by omega)]
      exact hl j hj
    · intro j i hj h1 h2
      have := WfL_400 (hl j hj).2.2.2.2.2
      rw [e _ (by omega), e _ (by omega)]
      exact hc j i hj h1 h2
theorem GR.ms {D D' : sD} {G : GT} (hv : GV G) (h : GR D G) (hs : Ms D D') : GR D' G := by
  obtain ⟨_, e6, e7, e8, e11, e12⟩ := hs
  obtain ⟨⟨h1, h2⟩, ⟨h3, h4⟩, ⟨h5, h6⟩, ⟨h7, h8⟩, h9⟩ := h
  have I := hv.1
  refine ⟨⟨h1.of (i_nt8 I) (i_ng6 I) (i_nr5 I) (i_nl60 I) fun i hi => e7 i (by omega), h2.of2 e7⟩, ⟨?_, ?_⟩, ⟨?_, ?_⟩, ⟨?_, ?_⟩, ?_⟩
  · rw [e6 6 (by decide) (by decide) (by decide) (by decide) (by decide) (by decide) (by decide)]; exact h3
  · rw [e8]; exact h4
  · rw [e6 7 (by decide) (by decide) (by decide) (by decide) (by decide) (by decide) (by decide)]; exact h5
  · rw [e11, e7 4 (by decide)]; exact h6
  · rw [e6 9 (by decide) (by decide) (by decide) (by decide) (by decide) (by decide) (by decide)]; exact h7
  · rw [e12]; exact h8
  · rw [e6 14 (by decide) (by decide) (by decide) (by decide) (by decide) (by decide) (by decide)]; exact h9
theorem Sm.ms {D D' : sD} (h : Sm D D') : Ms D D' := ⟨fun b hb => funext fun i => h b i (by omega), fun i _ _ _ _ _ _ h7 => h 286 i (by omega), fun i _ => h 287 i (by omega), funext fun i => h 288 i (by omega), funext fun i => h 291 i (by omega), funext fun i => h 292 i (by omega)⟩
theorem Ex.ms {D D' : sD} {b : Nat} (hb : 293 ≤ b) (hb2 : b ≤ 299) (h : Ex b D D') : Ms D D' := ⟨fun a ha => h a (by omega), fun i _ _ _ _ _ _ _ => by rw [h 286 (by omega)], fun i _ => by rw [h 287 (by omega)], h 288 (by omega), h 291 (by omega), h 292 (by omega)⟩
theorem Ms.th {D D' : sD} {v : Int32} (h : Ms D D') : Ms D (u2 D' 286 0 v) := h.tr ⟨fun b hb => funext fun i => by rw [u2_at, if_neg (by omega)], fun i h0 _ _ _ _ _ _ => by rw [u2_at, if_neg (by omega)], fun i _ => by rw [u2_at, if_neg (by omega)], funext fun i => by rw [u2_at, if_neg (by omega)], funext fun i => by rw [u2_at, if_neg (by omega)], funext fun i => by rw [u2_at, if_neg (by omega)]⟩
section C60
variable {nx : Nat} {xs : Nat → Int32} {d c s : Nat} {sh : List sC} {D : sD} {Q : av_Q}
variable {G : GT}
theorem everyN {S : GS} (I : IvS S) : 2 ^ gg S ≤ 64 := by
  have : 2 ^ gg S ≤ 2 ^ 6 := Nat.pow_le_pow_right (by decide) (i_ng6 I)
  omega
/-- worlds that are fresh -/
theorem k128 (hv : GV G) (h : GC sh D G) (kk : ∀ D', Cs (gV G.1 0 14) D D' → GC sh D' G → Wf D' 265 (gV G.1) (gt G.1) (gg G.1) (gV G.1 1 1) (Int32.ofNat (2 ^ gg G.1 - 1)) → Q (.inl (some (.ref 265))) (mk sh D') c s) :
    Wx (tP nx xs) (d + 3) 128 0 [some (.ref 0)] [] (mk sh D) c s Q := by
  have hw := h.1.2
  have HS := h.1.1
  have H := St_state HS
  have hV := h.2.1.1
  have I := hv.1
  have hx := h.L
  rw [b128_0 hw]
  simp only [xR_tape HS, xI_wrongAt HS, xF_wrongAt HS, xR_state HS, xR_image HS, xI_imageKept HS, xF_imageKept HS, xR_draft HS, xR_memory HS, xR_lawText HS, xR_worlds HS, xI_worldsFresh HS, xF_worldsFresh HS, xR_otherWorlds HS, xR_seating HS, xR_pairing HS, xI_toldSo HS, xF_toldSo HS, xI_toldNot HS, xF_toldNot HS, xO HS, sR_things H, sI_goers H, sF_goers H, sR_wish H, sR_deed H, sI_makers H, sF_makers H, sR_born H, sR_money H, sR_nerve H, sR_shuns H, sR_by H, sI_trains H, sF_trains H, sR_halts H, sR_seats H, sI_texts H, sF_texts H, sI_law H, sF_law H, sI_day H, sF_day H, sI_seed H, sF_seed H, sR_log H, sO_state H, sI_count H, sF_count H, sI_first H, sF_first H, sR_at H, sR_worth H, sR_makes H, sR_hinders H, sO_things H, sI_rows H, sF_rows H, sR_entries H, sO_log H, sA_2 H, sW_2 H, sA_3 H, sW_3 H, sA_4 H, sW_4 H, sA_5 H, sW_5 H, sA_6 H, sW_6 H, sA_7 H, sW_7 H, sA_8 H, sW_8 H, sA_9 H, sW_9 H, sA_10 H, sW_10 H, sA_11 H, sW_11 H, sA_12 H, sW_12 H, sA_13 H, sW_13 H, sA_14 H, sW_14 H, sA_16 H, sW_16 H, wi_some, or_0, or_1, bo_or, ite_boP, true_and, and_true, kN_v, kN_n, kT_v, kT_n, kT_e, Nat.add_zero, Nat.zero_add, v_0 hV, v_1 hV, v_2 hV, v_3 hV, v_4 hV, v_5 hV, v_6 hV, v_7 hV, v_8 hV, v_9 hV, v_10 hV, v_11 hV, v_12 hV, v_13 hV, v_14 hV, v_15 hV, v_16 hV]
  rcases h.2.2.2.2.2.2.2 with hf | ⟨hf, hwf⟩
  · simp only [hf, if_true, k36 hw H hV I, b128_32 hw, wO HS, wi_some, or_0, or_1, bo_or, ite_boP, true_and, and_true, kN_v, kN_n, kT_v, kT_n, kT_e, Nat.add_zero, Nat.zero_add]
    refine k84 hw H hV I (Wsh_265 HS) (by decide) ?_
    intro D1 f1 w1
    simp only [b128_35 hw, b128_40 hw, xR_tape HS, xI_wrongAt HS, xF_wrongAt HS, xR_state HS, xR_image HS, xI_imageKept HS, xF_imageKept HS, xR_draft HS, xR_memory HS, xR_lawText HS, xR_worlds HS, xI_worldsFresh HS, xF_worldsFresh HS, xR_otherWorlds HS, xR_seating HS, xR_pairing HS, xI_toldSo HS, xF_toldSo HS, xI_toldNot HS, xF_toldNot HS, xO HS, wi_some, or_0, or_1, bo_or, ite_boP, true_and, and_true, kN_v, kN_n, kT_v, kT_n, kT_e, Nat.add_zero, Nat.zero_add]
    have cs : Cs (gV G.1 0 14) D (u2 D1 0 9 (Int32.ofNat 1)) := fun b i h1 h2 h3 h4 => by
      rw [u2_at, if_neg (by omega), f1 b (by omega)]
    have w2 : Wf (u2 D1 0 9 (Int32.ofNat 1)) 265 (gV G.1) (gt G.1) (gg G.1) (gV G.1 1 1) (Int32.ofNat (2 ^ gg G.1 - 1)) := fun z hz hs => by
      rw [u2_at, if_neg (by omega), u2_at, if_neg (by omega)]
      exact w1 z hz hs
    exact kk _ cs (h.cs cs ⟨fun t ht => by rw [u2_at, if_neg (by omega), f1 282 (by omega)]; exact h.2.2.2.2.2.2.1 t ht, Or.inr ⟨by simp [u2_at], w2⟩⟩) w2
  · simp only [hf, show ¬ (Int32.ofNat 1 : Int32) = Int32.ofNat 0 by decide, if_false, b128_40 hw, xR_tape HS, xI_wrongAt HS, xF_wrongAt HS, xR_state HS, xR_image HS, xI_imageKept HS, xF_imageKept HS, xR_draft HS, xR_memory HS, xR_lawText HS, xR_worlds HS, xI_worldsFresh HS, xF_worldsFresh HS, xR_otherWorlds HS, xR_seating HS, xR_pairing HS, xI_toldSo HS, xF_toldSo HS, xI_toldNot HS, xF_toldNot HS, xO HS, wi_some, or_0, or_1, bo_or, ite_boP, true_and, and_true, kN_v, kN_n, kT_v, kT_n, kT_e, Nat.add_zero, Nat.zero_add]
    exact kk D Cs.rf h hwf
theorem gone_sub {S : GS} (I : IvS S) : Int32.ofNat (gN (gV S) (gg S)) &&& (Int32.ofNat (2 ^ gg S - 1) ^^^ -1) = Int32.ofNat 0 := by
  have hng := i_ng6 I
  obtain ⟨_, g2⟩ := gN_of (V := gV S) hng
  have h : ∀ n, n < 7 → ∀ z, z < 64 → z < 2 ^ n → Int32.ofNat z &&& (Int32.ofNat (2 ^ n - 1) ^^^ -1) = Int32.ofNat 0 := by decide +kernel
  have := everyN I
  exact h (gg S) (by omega) _ (by omega) g2
theorem k129 (hv : GV G) (h : GC sh D G) (kk : ∀ D', Cs (gV G.1 0 14) D D' → GC sh D' G → Q (.inl (some (.int (nowS (gV G.1) (gt G.1) (gg G.1) (gV G.1 1 1) (gN (gV G.1) (gg G.1)))))) (mk sh D') c s) :
    Wx (tP nx xs) (d + 4) 129 0 [some (.ref 0)] [] (mk sh D) c s Q := by
  have hw := h.1.2
  have HS := h.1.1
  have H := St_state HS
  have I := hv.1
  have hng := i_ng6 I
  obtain ⟨g1, g2⟩ := gN_of (V := gV G.1) hng
  simp only [b129_0 hw, xR_tape HS, xI_wrongAt HS, xF_wrongAt HS, xR_state HS, xR_image HS, xI_imageKept HS, xF_imageKept HS, xR_draft HS, xR_memory HS, xR_lawText HS, xR_worlds HS, xI_worldsFresh HS, xF_worldsFresh HS, xR_otherWorlds HS, xR_seating HS, xR_pairing HS, xI_toldSo HS, xF_toldSo HS, xI_toldNot HS, xF_toldNot HS, xO HS, wi_some, or_0, or_1, bo_or, ite_boP, true_and, and_true, kN_v, kN_n, kT_v, kT_n, kT_e, Nat.add_zero, Nat.zero_add]
  refine k128 hv h ?_
  intro D1 c1 h1 w1
  have hV1 := h1.2.1.1
  simp only [b129_4 hw, b129_11 hw, b129_14 hw, xR_tape HS, xI_wrongAt HS, xF_wrongAt HS, xR_state HS, xR_image HS, xI_imageKept HS, xF_imageKept HS, xR_draft HS, xR_memory HS, xR_lawText HS, xR_worlds HS, xI_worldsFresh HS, xF_worldsFresh HS, xR_otherWorlds HS, xR_seating HS, xR_pairing HS, xI_toldSo HS, xF_toldSo HS, xI_toldNot HS, xF_toldNot HS, xO HS, sR_things H, sI_goers H, sF_goers H, sR_wish H, sR_deed H, sI_makers H, sF_makers H, sR_born H, sR_money H, sR_nerve H, sR_shuns H, sR_by H, sI_trains H, sF_trains H, sR_halts H, sR_seats H, sI_texts H, sF_texts H, sI_law H, sF_law H, sI_day H, sF_day H, sI_seed H, sF_seed H, sR_log H, sO_state H, sI_count H, sF_count H, sI_first H, sF_first H, sR_at H, sR_worth H, sR_makes H, sR_hinders H, sO_things H, sI_rows H, sF_rows H, sR_entries H, sO_log H, sA_2 H, sW_2 H, sA_3 H, sW_3 H, sA_4 H, sW_4 H, sA_5 H, sW_5 H, sA_6 H, sW_6 H, sA_7 H, sW_7 H, sA_8 H, sW_8 H, sA_9 H, sW_9 H, sA_10 H, sW_10 H, sA_11 H, sW_11 H, sA_12 H, sW_12 H, sA_13 H, sW_13 H, sA_14 H, sW_14 H, sA_16 H, sW_16 H, wi_some, or_0, or_1, bo_or, ite_boP, true_and, and_true, kN_v, kN_n, kT_v, kT_n, kT_e, Nat.add_zero, Nat.zero_add, k37 hw H hV1 I, g1, wO HS, k93 hw (Wsh_265 HS) w1 (gN_64 hng) (gone_sub I)]
  exact kk D1 c1 h1
end C60
