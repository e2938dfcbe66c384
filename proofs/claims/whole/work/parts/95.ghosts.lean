/-! ===== the ghost after an act is a ghost ===== -/
section C95
variable {G : GT} {V' : sD}
theorem v_nerve {x n : Int32} (hv : GV G) (e : VE (gV G.1) V') : GV (actG G (o_nerve G x n) V' (s_nerve G x n)) := by
  unfold o_nerve s_nerve
  cases ixO x (gg G.1) with
  | none => exact hv
  | some g =>
    simp only
    cases hb : inB n 0 100 with
    | false => exact hv
    | true =>
      obtain ⟨m, h1, h2, rfl⟩ := inB_of (by decide) (by decide) hb
      exact GV.act hv e (Iv_nerve hv.1 ⟨m, by omega, rfl⟩) (by rw [u2_at, if_neg (by omega)])
theorem v_wish {x y : Int32} (hv : GV G) (e : VE (gV G.1) V') : GV (actG G (o_wish G x y) V' (s_wish G x y)) := by
  unfold o_wish s_wish
  cases hi : ixO x (gg G.1) with
  | none => exact hv
  | some g =>
    cases hj : ixO y 16 with
    | none => exact hv
    | some w =>
      obtain ⟨hw, rfl⟩ := ixO_some (by decide) hj
      simp only
      by_cases h : (gV G.1) 12 g = -1
      · rw [if_pos h]
        exact GV.act hv e (Iv_wish hv.1 ⟨w, hw, rfl⟩) (by rw [u2_at, if_neg (by omega)])
      · rw [if_neg h]; exact hv
theorem v_stops {x y : Int32} (hv : GV G) (e : VE (gV G.1) V') : GV (actG G (o_stops G x y) V' (s_stops G x y)) := by
  unfold o_stops s_stops
  cases ixO x (gr G.1) with
  | none => exact hv
  | some t =>
    simp only
    by_cases h : y &&& Int32.ofNat 65535 = Int32.ofNat 0
    · rw [if_pos h]; exact hv
    · rw [if_neg h]
      exact GV.act hv e (Iv_halts hv.1) (by rw [u2_at, if_neg (by omega)])
theorem v_pay {x n : Int32} (hv : GV G) (e : VE (gV G.1) V') : GV (actG G (o_pay G x n) V' (s_pay G x n)) := by
  unfold o_pay s_pay
  have hng := i_ng6 hv.1
  cases hi : ixO x (gg G.1) with
  | none => exact hv
  | some g =>
    obtain ⟨hg, rfl⟩ := ixO_some (by omega) hi
    simp only
    cases hb : inB n 1 999 with
    | false => exact hv
    | true =>
      obtain ⟨m, h1, h2, rfl⟩ := inB_of (by decide) (by decide) hb
      obtain ⟨q, hq, eq⟩ := i_money hv.1 hg
      refine GV.act hv e (Iv_money hv.1 ?_) (by rw [u2_at, if_neg (by omega)])
      rw [oN_tn (by omega), eq, oN_add, oN_mn (by omega) (by omega)]
      exact ⟨min 999 (q + m), by omega, rfl⟩
theorem v_deed {x y : Int32} {m : Bool} (hv : GV G) (e : VE (gV G.1) V') : GV (actG G (o_deed G x y) V' (s_deed G x y m)) := by
  unfold o_deed s_deed
  have hnt := i_nt8 hv.1
  cases hi : ixO x (gg G.1) with
  | none => exact hv
  | some g =>
    simp only
    by_cases hy : y = -1 ∨ (ixO y (gt G.1)).isSome
    · rw [if_pos hy]
      by_cases h : (gV G.1) 12 g = -1
      · rw [if_pos h]
        refine GV.act hv e (Iv_0 (Iv_deed hv.1 ?_) (by decide) (by decide) (by decide)) (by rw [u2_at, if_neg (by omega), u2_at, if_neg (by omega)])
        cases hy with
        | inl h => exact Or.inl h
        | inr h =>
          cases hj : ixO y (gt G.1) with
          | none => rw [hj] at h; cases h
          | some t => obtain ⟨h1, h2⟩ := ixO_some (by omega) hj; exact Or.inr ⟨t, h1, h2⟩
      · rw [if_neg h]; exact hv
    · rw [if_neg hy]; exact hv
theorem v_sell {x y : Int32} (hL : LwN (gw G.1)) (hv : GV G) (e : VE (gV G.1) V') : GV (actG G (o_sell G x y) V' (s_sell G x y)) := by
  unfold o_sell s_sell
  have hng := i_ng6 hv.1
  have hnr := i_nr5 hv.1
  cases hi : ixO x (gg G.1) with
  | none => exact hv
  | some g =>
    cases hj : ixO y (gr G.1) with
    | none => exact hv
    | some t =>
      obtain ⟨hg, rfl⟩ := ixO_some (by omega) hi
      obtain ⟨ht, rfl⟩ := ixO_some (by omega) hj
      simp only
      cases hc : canL (gw G.1) (gV G.1) (gg G.1) g t with
      | false => exact hv
      | true =>
        simp only [if_true]
        rw [oN_tn (by omega), oN_tn (by omega)]
        exact GV.act hv e (Iv_bd hL hv.1 hg ht hc) bdV_14
theorem v_quarrel {x y : Int32} {m : Bool} (hv : GV G) (e : VE (gV G.1) V') : GV (actG G (o_quarrel G x y m) V' (s_quarrel G x y m)) := by
  unfold o_quarrel s_quarrel
  cases ixO x (gg G.1) with
  | none => exact hv
  | some g =>
    cases ixO y (gg G.1) with
    | none => exact hv
    | some o =>
      simp only
      by_cases h : x = y
      · rw [if_pos h]; exact hv
      · rw [if_neg h]
        exact GV.act hv e (Iv_shuns (Iv_shuns hv.1)) (by rw [u2_at, if_neg (by omega), u2_at, if_neg (by omega)])
theorem v_recall {x : Int32} (hv : GV G) (e : VE (gV G.1) V') : GV (actG G (o_recall G x) V' (s_recall G x)) := by
  unfold o_recall s_recall
  cases hi : ixO x (gg G.1) with
  | none => exact hv
  | some g =>
    simp only
    by_cases h : (gV G.1) 12 g = -1
    · rw [if_pos h]; exact hv
    · rw [if_neg h]
      refine GV.act hv e ?_ ?_
      · unfold cbV
        rw [nlV_of hv.1]
        exact Iv_log (Iv_by hv.1 (Or.inl rfl))
      · unfold cbV
        rw [logV_o (by decide) (by decide), u2_at, if_neg (by omega)]
theorem v_seed {n : Int32} (hv : GV G) : GV (setG G (s_seed G n)) := GV.set hv (Iv_seed hv.1) (by show u2 (gV G.1) 0 16 n 0 14 = _; rw [u2_at, if_neg (by omega)]) rfl
theorem daysL_ok {lw : LW} {V : sD} {nt ng nr nl n : Nat} {dr : Bool} (hL : LwN lw) (I : Iv V nt ng nr nl) : Iv (daysL lw ng nr dr n (V, 0)).1 nt ng nr (nlV (daysL lw ng nr dr n (V, 0)).1) ∧ (daysL lw ng nr dr n (V, 0)).1 0 14 = V 0 14 := by
  unfold daysL
  exact fo_inv (F := fun _ => dayL lw ng nr dr) (fun _ y => Iv y.1 nt ng nr (nlV y.1) ∧ y.1 0 14 = V 0 14) n 0 (V, 0) ⟨I.nl, rfl⟩ (fun _ y _ _ ih => by
    have h := fo_inv (F := goL lw ng nr dr) (fun _ x => Iv x.1 nt ng nr (nlV x.1) ∧ x.1 0 14 = V 0 14) ng 0 y ih (fun g x _ hg ih => by
      obtain ⟨a, b⟩ := goL_ok (dr := dr) (g := g) hL ih.1 (by omega)
      exact ⟨a, b.trans ih.2⟩)
    unfold dayL
    simp only
    exact ⟨(Iv_0 h.1 (by decide) (by decide) (by decide)).nl, by rw [u2_at, if_neg (by omega)]; exact h.2⟩)
theorem v_days {n : Int32} (hL : LwN (gw G.1)) (hv : GV G) (e : VE (gV G.1) V') : GV (actG G (o_days G n) V' (s_days G n)) := by
  unfold o_days s_days
  cases inB n 1 60 with
  | false => exact hv
  | true =>
    obtain ⟨a, b⟩ := daysL_ok (V := (gV G.1)) (dr := true) (n := n.toNatClampNeg) hL hv.1
    exact GV.act hv e a b
end C95
