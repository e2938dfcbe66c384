/-! ===== what is told (2): worlds that fit ===== -/
theorem orN (a b : Nat) : Int32.ofNat a ||| Int32.ofNat b = Int32.ofNat (a ||| b) := by
  apply Int32.toBitVec_inj.mp
  rw [Int32.toBitVec_or]
  exact (BitVec.ofNat_or (w := 32) (x := a) (y := b)).symm
theorem by_lt : ∀ b, b < 128 → by8 (Int32.ofNat b) = Int32.ofNat b := by decide +kernel
theorem by_ix : ∀ n, n < 9 → ∀ b, b < 256 → (ixO (by8 (Int32.ofNat b)) n).isNone = decide (¬ b < n) := by decide +kernel
theorem by_01 : ∀ b, b < 256 → (decide (¬ by8 (Int32.ofNat b) < Int32.ofNat 0) && decide (¬ Int32.ofNat 1 < by8 (Int32.ofNat b))) = decide (b ≤ 1) := by decide +kernel
theorem sub_iff : ∀ n, n < 7 → ∀ z, z < 64 → (Int32.ofNat z &&& (Int32.ofNat (2 ^ n - 1) ^^^ -1) = Int32.ofNat 0 ↔ z < 2 ^ n) := by decide +kernel
theorem sub_and {z e g : Int32} : (z &&& ((e &&& (g ^^^ -1)) ^^^ -1) = Int32.ofNat 0) ↔ (z &&& (e ^^^ -1) = Int32.ofNat 0 ∧ z &&& g = Int32.ofNat 0) := by
  constructor
  · intro h
    have hb : ∀ i, i < 32 → (bt z i && ((bt e i && (bt g i ^^ true)) ^^ true)) = false := fun i hi => by
      have := congrArg (fun y => bt y i) h
      simp only [b_and, b_xor, b_m1 i hi, b_00] at this
      exact this
    refine ⟨?_, ?_⟩ <;> apply b_ext <;> intro i hi <;> have := hb i hi <;> simp only [b_and, b_xor, b_m1 i hi, b_00] <;> revert this <;> generalize bt z i = p <;> generalize bt e i = q <;> generalize bt g i = r <;> cases p <;> cases q <;> cases r <;> decide
  · intro ⟨h1, h2⟩
    apply b_ext
    intro i hi
    have a1 := congrArg (fun y => bt y i) h1
    have a2 := congrArg (fun y => bt y i) h2
    simp only [b_and, b_xor, b_m1 i hi, b_00] at a1 a2 ⊢
    revert a1 a2
    generalize bt z i = p
    generalize bt e i = q
    generalize bt g i = r
    cases p <;> cases q <;> cases r <;> decide
theorem and_self_iff {z a : Int32} : (z &&& (a ^^^ -1) = Int32.ofNat 0) ↔ (z &&& a = z) := by
  constructor
  · intro h
    apply b_ext
    intro i hi
    have a1 := congrArg (fun y => bt y i) h
    simp only [b_and, b_xor, b_m1 i hi, b_00] at a1 ⊢
    revert a1
    generalize bt z i = p
    generalize bt a i = q
    cases p <;> cases q <;> decide
  · intro h
    apply b_ext
    intro i hi
    have a1 := congrArg (fun y => bt y i) h
    simp only [b_and, b_xor, b_m1 i hi, b_00] at a1 ⊢
    revert a1
    generalize bt z i = p
    generalize bt a i = q
    cases p <;> cases q <;> decide
/-- comes about; fits -/
def cmP (G : GT) (g0 : Nat) : Bool := decide (¬ pastS (gV G.1) (gt G.1) (gg G.1) ((gV G.1) 1 1) g0 = -1) && toldP G (nowS (gV G.1) (gt G.1) (gg G.1) ((gV G.1) 1 1) g0)
def ftP (G : GT) (z : Nat) : Bool := decide (Int32.ofNat z &&& aliveS (gV G.1) (gg G.1) (wS (gV G.1) (gt G.1) (gg G.1) ((gV G.1) 1 1) (Int32.ofNat z)) = Int32.ofNat z) && toldP G (wS (gV G.1) (gt G.1) (gg G.1) ((gV G.1) 1 1) (Int32.ofNat z))
def wbt (G : GT) (z t : Nat) : Bool := bt (wS (gV G.1) (gt G.1) (gg G.1) ((gV G.1) 1 1) (Int32.ofNat z)) t
def oI : Option Nat → Int32
  | none => -1
  | some k => Int32.ofNat k
def oW (G : GT) (t : Option Nat) (z : Nat) : Bool := match t with
  | none => true
  | some k => wbt G z k
def TdC (G : GT) (D : sD) : Prop := ∀ x : Int32, (decide (x &&& D 0 13 = D 0 13) && decide (x &&& D 0 14 = Int32.ofNat 0)) = toldP G x
def UsR (G : GT) (D : sD) : Prop := D 286 11 = Int32.ofNat (tl G) ∧ ∀ i, i < tl G → D 292 i = by8 (Int32.ofNat (tv G i))
section C83
variable {nx : Nat} {xs : Nat → Int32} {d c s : Nat} {sh : List sC} {D : sD} {Q : av_Q}
variable {G : GT}
theorem k128t (hv : GV G) (h : GC sh D G) (kk : ∀ D', Cs (gV G.1 0 14) D D' → GC sh D' G → Wf D' 265 (gV G.1) (gt G.1) (gg G.1) (gV G.1 1 1) (Int32.ofNat (2 ^ gg G.1 - 1)) → D' 0 13 = D 0 13 → D' 0 14 = D 0 14 → Q (.inl (some (.ref 265))) (mk sh D') c s) :
    Wx (tP nx xs) (d + 3) 128 0 [some (.ref 0)] [] (mk sh D) c s Q := by
  have hw := h.1.2
  have HS := h.1.1
  have H := St_state HS
  have hV := h.2.1.1
  have I := hv.1
  have hx := h.L
  rw [b128_0 hw]
  simp only [xR_tape HS, xI_wrongAt HS, xF_wrongAt HS, xR_state HS, xR_image HS, xI_imageKept HS, xF_imageKept HS, xR_draft HS, xR_memory HS, xR_lawText HS, xR_worlds HS, xI_worldsFresh HS, xF_worldsFresh HS, xR_otherWorlds HS, xR_seating HS, xR_pairing HS, xI_toldSo HS, xF_toldSo HS, xI_toldNot HS, xF_toldNot HS, xO HS, sR_things H, sI_goers H, sF_goers H, sR_wish H, sR_deed H, sI_makers H, sF_makers H, sR_born H, sR_money H, sR_nerve H, sR_shuns H, sR_by H, sI_trains H, sF_trains H, sR_halts H, sR_seats H, sI_texts H, sF_texts H, sI_law H, sF_law H, sI_day H, sF_day H, sI_seed H, sF_seed H, sR_log H, sO_state H, sI_count H, sF_count H, sI_first H, sF_first H, sR_at H, sR_worth H, sR_makes H, sR_hinders H, sO_things H, sI_rows H, sF_rows H, sR_entries H, sO_log H, sA_2 H, sW_2 H, sA_3 H, sW_3 H, sA_4 H, sW_4 H, sA_5 H, sW_5 H, sA_6 H, sW_6 H, sA_7 H, sW_7 H, sA_8 H, sW_8 H, sA_9 H, sW_9 H, sA_10 H, sW_10 H, sA_11 H, sW_11 H, sA_12 H, sW_12 H, sA_13 H, sW_13 H, sA_14 H, sW_14 H, sA_16 H, sW_16 H, wi_some, or_0, or_1, bo_or, ite_boP, true_and, and_true, kN_v, kN_n, kT_v, kT_n, kT_e, Nat.add_zero, Nat.zero_add, v_0 hV, v_1 hV, v_2 hV, v_3 hV, v_4 hV, v_5 hV, v_6 hV, v_7 hV, v_8 hV, v_9 hV, v_10 hV, v_11 hV, v_12 hV, v_13 hV, v_14 hV, v_15 hV, v_16 hV]
  rcases h.2.2.2.2.2.2.2 with hf | ⟨hf, hwf⟩
  · simp only [hf, if_true, k36 hw H hV I, b128_32 hw, wO HS, wi_some, or_0, or_1, bo_or, ite_boP, true_and, and_true, kN_v, kN_n, kT_v, kT_n, kT_e, Nat.add_zero, Nat.zero_add]
    refine k84 hw H hV I (Wsh_265 HS) (by decide) ?_
    intro D1 f1 w1
    simp only [b128_35 hw, b128_40 hw, xR_tape HS, xI_wrongAt HS, xF_wrongAt HS, xR_state HS, xR_image HS, xI_imageKept HS, xF_imageKept HS, xR_draft HS, xR_memory HS, xR_lawText HS, xR_worlds HS, xI_worldsFresh HS, xF_worldsFresh HS, xR_otherWorlds HS, xR_seating HS, xR_pairing HS, xI_toldSo HS, xF_toldSo HS, xI_toldNot HS, xF_toldNot HS, xO HS, wi_some, or_0, or_1, bo_or, ite_boP, true_and, and_true, kN_v, kN_n, kT_v, kT_n, kT_e, Nat.add_zero, Nat.zero_add]
    have cs : Cs (gV G.1 0 14) D (u2 D1 0 9 (Int32.ofNat 1)) := fun b i h1 h2 h3 h4 => by
      rw [u2_at, if_neg (by omega), f1 b (by omega)]
    have w2 : Wf (u2 D1 0 9 (Int32.ofNat 1)) 265 (gV G.1) (gt G.1) (gg G.1) (gV G.1 1 1) (Int32.ofNat (2 ^ gg G.1 - 1)) := fun z hz hs => by
      rw [u2_at, if_neg (by omega), u2_at, if_neg (by omega)]
      exact w1 z hz hs
    exact kk _ cs (h.cs cs ⟨fun t ht => by rw [u2_at, if_neg (by omega), f1 282 (by omega)]; exact h.2.2.2.2.2.2.1 t ht, Or.inr ⟨by simp [u2_at], w2⟩⟩) w2 (by rw [u2_at, if_neg (by omega), f1 0 (by omega)]) (by rw [u2_at, if_neg (by omega), f1 0 (by omega)])
  · simp only [hf, show ¬ (Int32.ofNat 1 : Int32) = Int32.ofNat 0 by decide, if_false, b128_40 hw, xR_tape HS, xI_wrongAt HS, xF_wrongAt HS, xR_state HS, xR_image HS, xI_imageKept HS, xF_imageKept HS, xR_draft HS, xR_memory HS, xR_lawText HS, xR_worlds HS, xI_worldsFresh HS, xF_worldsFresh HS, xR_otherWorlds HS, xR_seating HS, xR_pairing HS, xI_toldSo HS, xF_toldSo HS, xI_toldNot HS, xF_toldNot HS, xO HS, wi_some, or_0, or_1, bo_or, ite_boP, true_and, and_true, kN_v, kN_n, kT_v, kT_n, kT_e, Nat.add_zero, Nat.zero_add]
    exact kk D Cs.rf h hwf rfl rfl
theorem k136 {x : Int32} (hw : WT sh) (HS : SP sh) (ht : TdC G D) : Wx (tP nx xs) d 136 0 [some (.ref 0), (some (.int (x)))] [] (mk sh D) c s Q = Q (.inl (some (.int (bo (toldP G x))))) (mk sh D) c s := by
  rw [← ht x]
  simp only [b136_0 hw, b136_26 hw, b136_27 hw, xR_tape HS, xI_wrongAt HS, xF_wrongAt HS, xR_state HS, xR_image HS, xI_imageKept HS, xF_imageKept HS, xR_draft HS, xR_memory HS, xR_lawText HS, xR_worlds HS, xI_worldsFresh HS, xF_worldsFresh HS, xR_otherWorlds HS, xR_seating HS, xR_pairing HS, xI_toldSo HS, xF_toldSo HS, xI_toldNot HS, xF_toldNot HS, xO HS, wi_some, or_0, or_1, bo_or, ite_boP, true_and, and_true, kN_v, kN_n, kT_v, kT_n, kT_e, Nat.add_zero, Nat.zero_add]
  by_cases h1 : x &&& D 0 13 = D 0 13
  · by_cases h2 : x &&& D 0 14 = Int32.ofNat 0
    · simp only [h1, h2, if_true, decide_true, Bool.and_true, bo_t]
    · simp only [h1, h2, if_true, if_false, decide_true, decide_false, Bool.and_false, bo_f]
  · simp only [h1, if_false, decide_false, Bool.false_and, bo_f]
theorem k137 {g0 : Nat} (hv : GV G) (h : GC sh D (tkG G)) (ht : TdC G D) (w : Wf D 265 (gV G.1) (gt G.1) (gg G.1) ((gV G.1) 1 1) (Int32.ofNat (2 ^ (gg G.1) - 1))) (hg : g0 < 2 ^ (gg G.1)) : Wx (tP nx xs) (d + 3) 137 0 [some (.ref 0), some (.ref 265), (some (.int (Int32.ofNat g0))), none] [] (mk sh D) c s Q = Q (.inl (some (.int (bo (cmP G g0))))) (mk sh D) c s := by
  have hw := h.1.2
  have HS := h.1.1
  have H := St_state HS
  have I := hv.1
  have hV := h.2.1.1
  have hng := i_ng6 I
  have hnt := i_nt8 I
  have hnr := i_nr5 I
  have hnl := i_nl60 I
  have hx := h.L
  have hL := h.2.1.2
  have hV : Vw D 3 (gV G.1) := h.2.1.1
  have e64 := everyN I
  have hs := sub_every hng hg
  simp only [b137_0 hw, wO HS, wi_some, or_0, or_1, bo_or, ite_boP, true_and, and_true, kN_v, kN_n, kT_v, kT_n, kT_e, Nat.add_zero, Nat.zero_add, k92 hw (Wsh_265 HS) w (show g0 < 64 by omega) hs, b137_5 hw, uR_so (Wsh_265 HS), b137_28 hw]
  unfold cmP nowS
  rcases pastS_cases (gV G.1) (gt G.1) (gg G.1) ((gV G.1) 1 1) g0 with e | ⟨z, hz, e, ha⟩
  · simp only [e, if_true, not_true_eq_false, decide_false, Bool.false_and, bo_f, b137_29 hw, wi_some, or_0, or_1, bo_or, ite_boP, true_and, and_true, kN_v, kN_n, kT_v, kT_n, kT_e, Nat.add_zero, Nat.zero_add, true_or, or_true]
  · have hz64 : z < 64 := by omega
    have h1 : ¬ Int32.ofNat z = -1 := by rw [oN_ne1 (by omega)]; exact id
    have hsz : Int32.ofNat z &&& (Int32.ofNat (2 ^ (gg G.1) - 1) ^^^ -1) = Int32.ofNat 0 := sub_every hng (by omega)
    simp only [e, h1, if_false, uA_1 (Wsh_265 HS) hz64, wi_some, or_0, or_1, bo_or, ite_boP, true_and, and_true, kN_v, kN_n, kT_v, kT_n, kT_e, Nat.add_zero, Nat.zero_add, (w z hz64 hsz).1, xR_tape HS, xI_wrongAt HS, xF_wrongAt HS, xR_state HS, xR_image HS, xI_imageKept HS, xF_imageKept HS, xR_draft HS, xR_memory HS, xR_lawText HS, xR_worlds HS, xI_worldsFresh HS, xF_worldsFresh HS, xR_otherWorlds HS, xR_seating HS, xR_pairing HS, xI_toldSo HS, xF_toldSo HS, xI_toldNot HS, xF_toldNot HS, xO HS, k136 hw HS ht, b137_21 hw, b137_28 hw, b137_29 hw, not_false_eq_true, decide_true, Bool.true_and]
    cases toldP G (wS (gV G.1) (gt G.1) (gg G.1) ((gV G.1) 1 1) (Int32.ofNat z)) <;> simp only [if_true, if_false, Bool.false_eq_true, bo_t, bo_f, true_or, or_true, true_and] <;> rfl
theorem k138 {z : Nat} (hv : GV G) (h : GC sh D (tkG G)) (ht : TdC G D) (w : Wf D 265 (gV G.1) (gt G.1) (gg G.1) ((gV G.1) 1 1) (Int32.ofNat (2 ^ (gg G.1) - 1))) (hg : z < 2 ^ (gg G.1)) : Wx (tP nx xs) (d + 1) 138 0 [some (.ref 0), some (.ref 265), (some (.int (Int32.ofNat z)))] [] (mk sh D) c s Q = Q (.inl (some (.int (bo (ftP G z))))) (mk sh D) c s := by
  have hw := h.1.2
  have HS := h.1.1
  have H := St_state HS
  have I := hv.1
  have hV := h.2.1.1
  have hng := i_ng6 I
  have hnt := i_nt8 I
  have hnr := i_nr5 I
  have hnl := i_nl60 I
  have hx := h.L
  have hL := h.2.1.2
  have hV : Vw D 3 (gV G.1) := h.2.1.1
  have e64 := everyN I
  have hz64 : z < 64 := by omega
  have hs := sub_every hng hg
  unfold ftP
  simp only [b138_0 hw, uR_so (Wsh_265 HS), uR_al (Wsh_265 HS), uA_1 (Wsh_265 HS) hz64, uA_2 (Wsh_265 HS) hz64, (w z hz64 hs).1, (w z hz64 hs).2, wi_some, or_0, or_1, bo_or, ite_boP, true_and, and_true, kN_v, kN_n, kT_v, kT_n, kT_e, Nat.add_zero, Nat.zero_add, xR_tape HS, xI_wrongAt HS, xF_wrongAt HS, xR_state HS, xR_image HS, xI_imageKept HS, xF_imageKept HS, xR_draft HS, xR_memory HS, xR_lawText HS, xR_worlds HS, xI_worldsFresh HS, xF_worldsFresh HS, xR_otherWorlds HS, xR_seating HS, xR_pairing HS, xI_toldSo HS, xF_toldSo HS, xI_toldNot HS, xF_toldNot HS, xO HS, k136 hw HS ht, b138_23 hw, b138_30 hw, b138_31 hw, and_self_iff]
  by_cases e : Int32.ofNat z &&& aliveS (gV G.1) (gg G.1) (wS (gV G.1) (gt G.1) (gg G.1) ((gV G.1) 1 1) (Int32.ofNat z)) = Int32.ofNat z
  · simp only [e, if_true, decide_true, Bool.true_and]
    cases toldP G (wS (gV G.1) (gt G.1) (gg G.1) ((gV G.1) 1 1) (Int32.ofNat z)) <;> simp only [if_true, if_false, Bool.false_eq_true, bo_t, bo_f, true_or, or_true, true_and] <;> rfl
  · simp only [e, if_false, decide_false, Bool.false_and, bo_f, true_or, or_true, true_and]
/-- k = none: every world that fits -/
theorem k139 {t : Option Nat} (hv : GV G) (h : GC sh D (tkG G)) (ht : TdC G D) (w : Wf D 265 (gV G.1) (gt G.1) (gg G.1) ((gV G.1) 1 1) (Int32.ofNat (2 ^ (gg G.1) - 1))) (hk : ∀ k, t = some k → k < 32) : Wx (tP nx xs) (d + 2) 139 0 [some (.ref 0), some (.ref 265), (some (.int (oI t))), none, none, none] [] (mk sh D) c s Q = Q (.inl (some (.int (Int32.ofNat (nS (fun z => oW G t z && ftP G z) (2 ^ (gg G.1))))))) (mk sh D) c s := by
  have hw := h.1.2
  have HS := h.1.1
  have H := St_state HS
  have I := hv.1
  have hV := h.2.1.1
  have hng := i_ng6 I
  have hnt := i_nt8 I
  have hnr := i_nr5 I
  have hnl := i_nl60 I
  have hx := h.L
  have hL := h.2.1.2
  have hV : Vw D 3 (gV G.1) := h.2.1.1
  have e64 := everyN I
  have p0 : 0 < 2 ^ (gg G.1) := Nat.pow_pos (by decide)
  have n10 : ¬ (Int32.ofNat 1 : Int32) = Int32.ofNat 0 := by decide
  simp only [b139_0 hw]
  suffices hl : ∀ r i l5, i + r = 2 ^ (gg G.1) → Wx (tP nx xs) (d + 2) 139 5 [some (.ref 0), some (.ref 265), (some (.int (oI t))), (some (.int (Int32.ofNat (nS (fun z => oW G t z && ftP G z) i)))), (some (.int (Int32.ofNat i))), l5] [] (mk sh D) c s Q = Q (.inl (some (.int (Int32.ofNat (nS (fun z => oW G t z && ftP G z) (2 ^ (gg G.1))))))) (mk sh D) c s from hl (2 ^ (gg G.1)) 0 none (by omega)
  intro r
  induction r with
  | zero =>
    intro i l5 hi
    have hi' : i = 2 ^ (gg G.1) := by omega
    subst hi'
    rw [b139_5 hw]
    simp only [xR_tape HS, xI_wrongAt HS, xF_wrongAt HS, xR_state HS, xR_image HS, xI_imageKept HS, xF_imageKept HS, xR_draft HS, xR_memory HS, xR_lawText HS, xR_worlds HS, xI_worldsFresh HS, xF_worldsFresh HS, xR_otherWorlds HS, xR_seating HS, xR_pairing HS, xI_toldSo HS, xF_toldSo HS, xI_toldNot HS, xF_toldNot HS, xO HS, sR_things H, sI_goers H, sF_goers H, sR_wish H, sR_deed H, sI_makers H, sF_makers H, sR_born H, sR_money H, sR_nerve H, sR_shuns H, sR_by H, sI_trains H, sF_trains H, sR_halts H, sR_seats H, sI_texts H, sF_texts H, sI_law H, sF_law H, sI_day H, sF_day H, sI_seed H, sF_seed H, sR_log H, sO_state H, sI_count H, sF_count H, sI_first H, sF_first H, sR_at H, sR_worth H, sR_makes H, sR_hinders H, sO_things H, sI_rows H, sF_rows H, sR_entries H, sO_log H, sA_2 H, sW_2 H, sA_3 H, sW_3 H, sA_4 H, sW_4 H, sA_5 H, sW_5 H, sA_6 H, sW_6 H, sA_7 H, sW_7 H, sA_8 H, sW_8 H, sA_9 H, sW_9 H, sA_10 H, sW_10 H, sA_11 H, sW_11 H, sA_12 H, sW_12 H, sA_13 H, sW_13 H, sA_14 H, sW_14 H, sA_16 H, sW_16 H, wi_some, or_0, or_1, bo_or, ite_boP, true_and, and_true, kN_v, kN_n, kT_v, kT_n, kT_e, Nat.add_zero, Nat.zero_add, k36 hw H hV I, b139_14 hw, oN_lt (show 2 ^ (gg G.1) - 1 < 2147483648 by omega) (show 2 ^ (gg G.1) < 2147483648 by omega), show 2 ^ (gg G.1) - 1 < 2 ^ (gg G.1) by omega, if_true]
  | succ r ih =>
    intro i l5 hi
    have hi2 : i < 2 ^ (gg G.1) := by omega
    have hi64 : i < 64 := by omega
    have hs := sub_every hng hi2
    have ih := fun l => ih (i + 1) l (by omega)
    rw [nS_succ] at ih
    rw [b139_5 hw]
    simp only [xR_tape HS, xI_wrongAt HS, xF_wrongAt HS, xR_state HS, xR_image HS, xI_imageKept HS, xF_imageKept HS, xR_draft HS, xR_memory HS, xR_lawText HS, xR_worlds HS, xI_worldsFresh HS, xF_worldsFresh HS, xR_otherWorlds HS, xR_seating HS, xR_pairing HS, xI_toldSo HS, xF_toldSo HS, xI_toldNot HS, xF_toldNot HS, xO HS, sR_things H, sI_goers H, sF_goers H, sR_wish H, sR_deed H, sI_makers H, sF_makers H, sR_born H, sR_money H, sR_nerve H, sR_shuns H, sR_by H, sI_trains H, sF_trains H, sR_halts H, sR_seats H, sI_texts H, sF_texts H, sI_law H, sF_law H, sI_day H, sF_day H, sI_seed H, sF_seed H, sR_log H, sO_state H, sI_count H, sF_count H, sI_first H, sF_first H, sR_at H, sR_worth H, sR_makes H, sR_hinders H, sO_things H, sI_rows H, sF_rows H, sR_entries H, sO_log H, sA_2 H, sW_2 H, sA_3 H, sW_3 H, sA_4 H, sW_4 H, sA_5 H, sW_5 H, sA_6 H, sW_6 H, sA_7 H, sW_7 H, sA_8 H, sW_8 H, sA_9 H, sW_9 H, sA_10 H, sW_10 H, sA_11 H, sW_11 H, sA_12 H, sW_12 H, sA_13 H, sW_13 H, sA_14 H, sW_14 H, sA_16 H, sW_16 H, wi_some, or_0, or_1, bo_or, ite_boP, true_and, and_true, kN_v, kN_n, kT_v, kT_n, kT_e, Nat.add_zero, Nat.zero_add, k36 hw H hV I, b139_14 hw, oN_lt (show 2 ^ (gg G.1) - 1 < 2147483648 by omega) (show i < 2147483648 by omega), show ¬ 2 ^ (gg G.1) - 1 < i by omega, if_false, uR_so (Wsh_265 HS), uA_1 (Wsh_265 HS) hi64, (w i hi64 hs).1, b139_36 hw, b139_41 hw, b139_55 hw, b139_61 hw, k138 hv h ht w hi2, oN_add, n10]
    cases t with
    | none =>
      simp only [oI, oW, if_true, Bool.true_and] at ih ⊢
      cases hf : ftP G i with
      | true => simp only [hf, if_true, if_false, bo_t, n10] at ih ⊢; exact ih _
      | false => simp only [hf, if_true, if_false, bo_f, Bool.false_eq_true, Nat.add_zero] at ih ⊢; exact ih _
    | some k =>
      have hk1 : ¬ Int32.ofNat k = -1 := by rw [oN_ne1 (by have := hk k rfl; omega)]; exact id
      have eb : jshr (wS (gV G.1) (gt G.1) (gg G.1) ((gV G.1) 1 1) (Int32.ofNat i)) (Int32.ofNat k) &&& Int32.ofNat 1 = bo (wbt G i k) := jshr_b (hk k rfl)
      simp only [oI, oW] at ih ⊢
      simp only [hk1, if_false, eb]
      cases hb : wbt G i k with
      | false => simp only [hb, bo_f, if_true, Bool.false_and, Bool.false_eq_true, if_false, Nat.add_zero] at ih ⊢; exact ih _
      | true =>
        simp only [hb, bo_t, n10, if_false, Bool.true_and] at ih ⊢
        cases hf : ftP G i with
        | true => simp only [hf, if_true, if_false, bo_t, n10] at ih ⊢; exact ih _
        | false => simp only [hf, if_true, if_false, bo_f, Bool.false_eq_true, Nat.add_zero] at ih ⊢; exact ih _
end C83
