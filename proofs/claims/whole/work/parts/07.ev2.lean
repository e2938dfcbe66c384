/-! ===== LAYER 2: each instruction over the store (2) ===== -/
section EVT
variable {P : av_P} {d mi pc len ix : Nat} {L : av_L} {r : List Value} {sh : List sC} {D : sD} {c s : Nat} {Q : av_Q}
theorem ev_aal {a p : Nat} {i : Int32} (hop : av_op P mi pc = some (.aaload, len, ix)) (hp : sRf (D a i.toNatClampNeg) = some p) : Wx P d mi pc L (.int i :: .ref a :: r) (mk sh D) c s Q = (oA sh 3 a i = true ∧ Wx P d mi (pc + len) L (.ref p :: r) (mk sh D) c s Q) := by
  unfold oA aN
  cases hs : sh[a]? with
  | none => exact (Wx.bad (by simp [av_stp, hop, av_one, mk_get, hs])).trans (by simp)
  | some x =>
    obtain ⟨t, n⟩ | ⟨ci, fs⟩ := x
    · obtain _ | _ | _ | t := t
      · exact (Wx.bad (by simp [av_stp, hop, av_one, mk_get, hs, cell_a0])).trans (by simp)
      · exact (Wx.bad (by simp [av_stp, hop, av_one, mk_get, hs, cell_a1])).trans (by simp)
      · exact (Wx.bad (by simp [av_stp, hop, av_one, mk_get, hs, cell_a2])).trans (by simp)
      · by_cases ht : t = 0
        · subst ht
          simp only [Nat.zero_add, if_true]
          by_cases hi : av_in i n = true
          · simp only [hi, true_and]
            exact Wx.step (by simp [av_stp, hop, av_one, mk_get, hs, cell_a3, hi, hp, va_rf])
          · simp only [hi, false_and]
            exact (Wx.bad (by simp [av_stp, hop, av_one, mk_get, hs, cell_a3, hi])).trans (by simp)
        · have h3 : ¬ t + 3 = 3 := by omega
          exact (Wx.bad (by simp [av_stp, hop, av_one, mk_get, hs, cell_a3]; split <;> simp_all)).trans (by simp [h3])
    · exact (Wx.bad (by simp [av_stp, hop, av_one, mk_get, hs, cell_obj])).trans (by simp)
theorem ev_alen {a : Nat} (hop : av_op P mi pc = some (.arraylength, len, ix)) : Wx P d mi pc L (.ref a :: r) (mk sh D) c s Q = wi (aL sh a) fun n => Wx P d mi (pc + len) L (.int (Int32.ofNat n) :: r) (mk sh D) c s Q := by
  unfold aL
  cases hs : sh[a]? with
  | none => exact Wx.bad (by simp [av_stp, hop, av_one, mk_get, hs, av_alen])
  | some x =>
    obtain ⟨t, n⟩ | ⟨ci, fs⟩ := x
    · simp only
      obtain _ | _ | _ | t := t
      · simp only [wi]; exact Wx.step (by simp [av_stp, hop, av_one, mk_get, hs, av_alen, cell_a0])
      · simp only [wi]; exact Wx.step (by simp [av_stp, hop, av_one, mk_get, hs, av_alen, cell_a1])
      · simp only [wi]; exact Wx.step (by simp [av_stp, hop, av_one, mk_get, hs, av_alen, cell_a2])
      · by_cases ht : t + 3 < 4
        · simp only [ht, if_true, wi]
          exact Wx.step (by simp only [av_stp, hop, av_one, mk_get, hs, av_alen, cell_a3, Option.map_some]; rw [if_pos ht])
        · simp only [ht, if_false, wi]
          exact Wx.bad (by simp only [av_stp, hop, av_one, mk_get, hs, av_alen, cell_a3, Option.map_some]; rw [if_neg ht])
    · exact Wx.bad (by simp [av_stp, hop, av_one, mk_get, hs, av_alen, cell_obj])
theorem ev_ias {a : Nat} {i v : Int32} (hop : av_op P mi pc = some (.iastore, len, ix)) : Wx P d mi pc L (.int v :: .int i :: .ref a :: r) (mk sh D) c s Q = (oA sh 0 a i = true ∧ Wx P d mi (pc + len) L r (mk sh (u2 D a i.toNatClampNeg v)) c s Q) := by
  unfold oA aN
  cases hs : sh[a]? with
  | none => exact (Wx.bad (by simp [av_stp, hop, av_one, mk_get, hs])).trans (by simp)
  | some x =>
    obtain ⟨t, n⟩ | ⟨ci, fs⟩ := x
    · obtain _ | _ | _ | t := t
      · simp only [if_true]
        by_cases hi : av_in i n = true
        · simp only [hi, true_and]
          rw [← mk_set (D := D) (D' := u2 D a i.toNatClampNeg v) hs (by intro b hb; funext i; simp [u2, hb])]
          have hcell : cell (u2 D a i.toNatClampNeg v) a (.inl (0, n)) = .inl (0, n, .inl (upd (D a) i.toNatClampNeg v)) := by
            have hfun : ∀ w, u2 D a i.toNatClampNeg w a = upd (D a) i.toNatClampNeg w := fun w => by funext j; simp [u2, upd]
            first | rw [cell_a0, hfun] | rw [cell_a1, hfun]
          try simp only [Nat.zero_add]
          rw [hcell]
          exact Wx.step (by simp [av_stp, hop, av_one, mk_get, hs, cell_a0, hi])
        · simp only [hi, false_and]
          exact (Wx.bad (by simp [av_stp, hop, av_one, mk_get, hs, cell_a0, hi])).trans (by simp)
      · exact (Wx.bad (by simp [av_stp, hop, av_one, mk_get, hs, cell_a1])).trans (by simp)
      · exact (Wx.bad (by simp [av_stp, hop, av_one, mk_get, hs, cell_a2])).trans (by simp)
      · exact (Wx.bad (by simp [av_stp, hop, av_one, mk_get, hs, cell_a3])).trans (by simp)
    · exact (Wx.bad (by simp [av_stp, hop, av_one, mk_get, hs, cell_obj])).trans (by simp)
theorem ev_bas {a : Nat} {i v : Int32} (hop : av_op P mi pc = some (.bastore, len, ix)) : Wx P d mi pc L (.int v :: .int i :: .ref a :: r) (mk sh D) c s Q = (oA sh 1 a i = true ∧ Wx P d mi (pc + len) L r (mk sh (u2 D a i.toNatClampNeg (vp_nar .byte v))) c s Q) := by
  unfold oA aN
  cases hs : sh[a]? with
  | none => exact (Wx.bad (by simp [av_stp, hop, av_one, mk_get, hs])).trans (by simp)
  | some x =>
    obtain ⟨t, n⟩ | ⟨ci, fs⟩ := x
    · obtain _ | _ | _ | t := t
      · exact (Wx.bad (by simp [av_stp, hop, av_one, mk_get, hs, cell_a0])).trans (by simp)
      · simp only [Nat.zero_add, if_true]
        by_cases hi : av_in i n = true
        · simp only [hi, true_and]
          rw [← mk_set (D := D) (D' := u2 D a i.toNatClampNeg (vp_nar .byte v)) hs (by intro b hb; funext i; simp [u2, hb])]
          have hcell : cell (u2 D a i.toNatClampNeg (vp_nar .byte v)) a (.inl (1, n)) = .inl (1, n, .inl (upd (D a) i.toNatClampNeg (vp_nar .byte v))) := by
            have hfun : ∀ w, u2 D a i.toNatClampNeg w a = upd (D a) i.toNatClampNeg w := fun w => by funext j; simp [u2, upd]
            first | rw [cell_a0, hfun] | rw [cell_a1, hfun]
          simp only [Nat.zero_add]
          rw [hcell]
          exact Wx.step (by simp [av_stp, hop, av_one, mk_get, hs, cell_a1, hi])
        · simp only [hi, false_and]
          exact (Wx.bad (by simp [av_stp, hop, av_one, mk_get, hs, cell_a1, hi])).trans (by simp)
      · exact (Wx.bad (by simp [av_stp, hop, av_one, mk_get, hs, cell_a2])).trans (by simp)
      · exact (Wx.bad (by simp [av_stp, hop, av_one, mk_get, hs, cell_a3])).trans (by simp)
    · exact (Wx.bad (by simp [av_stp, hop, av_one, mk_get, hs, cell_obj])).trans (by simp)
theorem ev_jas {a : Nat} {i v : Int32} (hop : av_op P mi pc = some (.lastore, len, ix)) : Wx P d mi pc L (.long (Int32.toInt64 v) :: .int i :: .ref a :: r) (mk sh D) c s Q = (oA sh 2 a i = true ∧ Wx P d mi (pc + len) L r (mk sh (u2 D a i.toNatClampNeg v)) c s Q) := by
  unfold oA aN
  cases hs : sh[a]? with
  | none => exact (Wx.bad (by simp [av_stp, hop, av_one, mk_get, hs])).trans (by simp)
  | some x =>
    obtain ⟨t, n⟩ | ⟨ci, fs⟩ := x
    · obtain _ | _ | _ | t := t
      · exact (Wx.bad (by simp [av_stp, hop, av_one, mk_get, hs, cell_a0])).trans (by simp)
      · exact (Wx.bad (by simp [av_stp, hop, av_one, mk_get, hs, cell_a1])).trans (by simp)
      · simp only [Nat.zero_add, if_true]
        by_cases hi : av_in i n = true
        · simp only [hi, true_and]
          rw [← mk_set (D := D) (D' := u2 D a i.toNatClampNeg v) hs (by intro b hb; funext i; simp [u2, hb])]
          have hcell : cell (u2 D a i.toNatClampNeg v) a (.inl (2, n)) = .inl (2, n, .inr (.inl (vp_updL (fun i => (D a i).toInt64) i.toNatClampNeg (Int32.toInt64 v)))) := by
            have hfun : (fun k => (u2 D a i.toNatClampNeg v a k).toInt64) = vp_updL (fun i => (D a i).toInt64) i.toNatClampNeg (Int32.toInt64 v) := by funext j; simp only [u2, vp_updL, true_and]; split <;> rfl
            rw [cell_a2, hfun]
          simp only [Nat.zero_add]
          rw [hcell]
          exact Wx.step (by simp [av_stp, hop, av_one, mk_get, hs, cell_a2, hi])
        · simp only [hi, false_and]
          exact (Wx.bad (by simp [av_stp, hop, av_one, mk_get, hs, cell_a2, hi])).trans (by simp)
      · exact (Wx.bad (by simp [av_stp, hop, av_one, mk_get, hs, cell_a3])).trans (by simp)
    · exact (Wx.bad (by simp [av_stp, hop, av_one, mk_get, hs, cell_obj])).trans (by simp)
theorem ev_copy {a b : Nat} {sp dp n : Int32} (hop : av_op P mi pc = some (.invokedynamic 0, len, ix)) (hcat : (r.map fun v => v.category).sum ≤ 8) : Wx P d mi pc L (.int n :: .int dp :: .ref b :: .int sp :: .ref a :: r) (mk sh D) c s Q = (oC sh a sp b dp n = true ∧ Wx P d mi (pc + len) L r (mk sh (cp2 D a sp.toNatClampNeg b dp.toNatClampNeg n.toNatClampNeg)) c s Q) := by
  have h1 : ∀ x : Nat, aN sh 0 x = none → ∀ m f, (mk sh D)[x]? ≠ some (.inl (0, m, .inl f)) := by
    intro x hx m f
    unfold aN at hx
    rw [mk_get]
    cases hs : sh[x]? with
    | none => simp
    | some y =>
      rw [hs] at hx
      obtain ⟨t, n⟩ | ⟨ci, fs⟩ := y
      · obtain _ | _ | _ | t := t
        · simp at hx
        · simp [cell_a1]
        · simp [cell_a2]
        · simp [cell_a3]
      · simp [cell_obj]
  have h2 : ∀ x m : Nat, aN sh 0 x = some m → sh[x]? = some (Sum.inl (0, m)) := by
    intro x m hx
    unfold aN at hx
    cases hs : sh[x]? with
    | none => rw [hs] at hx; cases hx
    | some y =>
      rw [hs] at hx
      obtain ⟨t, n⟩ | ⟨ci, fs⟩ := y
      · simp only at hx
        split at hx
        · next h => cases hx; rw [h]
        · cases hx
      · cases hx
  unfold oC
  cases ha : aN sh 0 a with
  | none =>
    simp only [Bool.false_eq_true, false_and]
    apply Wx.bad
    simp only [av_stp, hop, av_one, av_copy]
    split
    · next n0 f n1 g e1 e2 => exact absurd e1 (h1 a ha _ _)
    · rfl
  | some n0 =>
    cases hb : aN sh 0 b with
    | none =>
      simp only [Bool.false_eq_true, false_and]
      apply Wx.bad
      simp only [av_stp, hop, av_one, av_copy]
      split
      · next n0 f n1 g e1 e2 => exact absurd e2 (h1 b hb _ _)
      · rfl
    | some n1 =>
      have sa := h2 a n0 ha
      have sb := h2 b n1 hb
      simp only [decide_eq_true_eq]
      by_cases hcnd : ¬ sp < 0 ∧ ¬ dp < 0 ∧ ¬ n < 0 ∧ sp.toNatClampNeg + n.toNatClampNeg ≤ n0 ∧ dp.toNatClampNeg + n.toNatClampNeg ≤ n1
      · simp only [hcnd, true_and, not_false_eq_true, and_self]
        rw [← mk_set (D := D) (D' := cp2 D a sp.toNatClampNeg b dp.toNatClampNeg n.toNatClampNeg) sb (by intro e he; funext i; simp [cp2, he])]
        have hcell : cell (cp2 D a sp.toNatClampNeg b dp.toNatClampNeg n.toNatClampNeg) b (.inl (0, n1)) = .inl (0, n1, .inl (va_cpy (D a) (D b) sp.toNatClampNeg dp.toNatClampNeg n.toNatClampNeg)) := by
          have hfun : cp2 D a sp.toNatClampNeg b dp.toNatClampNeg n.toNatClampNeg b = va_cpy (D a) (D b) sp.toNatClampNeg dp.toNatClampNeg n.toNatClampNeg := by funext j; simp [cp2, va_cpy]
          rw [cell_a0, hfun]
        rw [hcell]
        obtain ⟨q1, q2, q3, q4, q5⟩ := hcnd
        exact Wx.step (by simp [av_stp, hop, av_one, av_copy, mk_get, sa, sb, cell_a0, q1, q2, q3, q4, q5, hcat])
      · simp only [hcnd, false_and]
        apply Wx.bad
        simp only [av_stp, hop, av_one, av_copy, mk_get, sa, sb, cell_a0, Option.map_some]
        rw [if_neg (fun h => hcnd ⟨h.1, h.2.1, h.2.2.1, h.2.2.2.1, h.2.2.2.2.1⟩)]
theorem ev_slen {a : Nat} (hop : av_op P mi pc = some (.invokedynamic 1, len, ix)) (hcat : (r.map fun v => v.category).sum ≤ 8) : Wx P d mi pc L (.retAddr (a + 1) :: r) (mk sh D) c s Q = (0 < (av_tx P a).length ∧ Wx P d mi (pc + len) L (.int (Int32.ofNat (av_tx P a).length) :: r) (mk sh D) c s Q) := by
  by_cases h : 0 < (av_tx P a).length
  · simp only [h, true_and]
    exact Wx.step (by simp only [av_stp, hop, av_one]; rw [if_pos ⟨hcat, h⟩])
  · refine (Wx.bad ?_).trans (by simp [h])
    simp only [av_stp, hop, av_one]
    rw [if_neg (fun q => h q.2)]
theorem ev_char {a : Nat} {i : Int32} (hop : av_op P mi pc = some (.invokedynamic 2, len, ix)) (hcat : (r.map fun v => v.category).sum ≤ 8) : Wx P d mi pc L (.int i :: .retAddr (a + 1) :: r) (mk sh D) c s Q = (av_in i (av_tx P a).length = true ∧ Wx P d mi (pc + len) L (.int ((av_tx P a).getD i.toNatClampNeg 0) :: r) (mk sh D) c s Q) := by
  by_cases h : av_in i (av_tx P a).length = true
  · simp only [h, true_and]
    exact Wx.step (by simp only [av_stp, hop, av_one]; rw [if_pos ⟨hcat, h⟩])
  · refine (Wx.bad ?_).trans (by simp [h])
    simp only [av_stp, hop, av_one]
    rw [if_neg (fun q => h q.2)]
theorem ev_div {x y : Int32} (hop : av_op P mi pc = some (.idiv, len, ix)) : Wx P d mi pc L (.int y :: .int x :: r) (mk sh D) c s Q = (y ≠ 0 ∧ Wx P d mi (pc + len) L (.int (x / y) :: r) (mk sh D) c s Q) := by
  by_cases h : y = 0
  · simp only [h, ne_eq, not_true_eq_false, false_and]
    exact Wx.bad (by simp [av_stp, hop, av_one, av_bin])
  · simp only [ne_eq, h, not_false_eq_true, true_and]
    exact Wx.step (by simp [av_stp, hop, av_one, av_bin, h])
theorem ev_rem {x y : Int32} (hop : av_op P mi pc = some (.irem, len, ix)) : Wx P d mi pc L (.int y :: .int x :: r) (mk sh D) c s Q = (y ≠ 0 ∧ Wx P d mi (pc + len) L (.int (jrem x y) :: r) (mk sh D) c s Q) := by
  by_cases h : y = 0
  · simp only [h, ne_eq, not_true_eq_false, false_and]
    exact Wx.bad (by simp [av_stp, hop, av_one, av_bin])
  · simp only [ne_eq, h, not_false_eq_true, true_and]
    exact Wx.step (by simp [av_stp, hop, av_one, av_bin, h, jrem])
theorem ev_xal {i : Int32} (hop : av_op P mi pc = some (.iaload, len, ix)) : Wx P d mi pc L (.int i :: .retAddr 0 :: r) (mk sh D) c s Q = (av_in i (av_nx P) = true ∧ Wx P d mi (pc + len) L (.int (av_xs P i.toNatClampNeg) :: r) (mk sh D) c s Q) := by
  by_cases h : av_in i (av_nx P) = true
  · simp only [h, true_and]
    exact Wx.step (by simp [av_stp, hop, av_one, av_iaload, h])
  · simp only [h, false_and]
    exact (Wx.bad (by simp [av_stp, hop, av_one, av_iaload, h])).trans (by simp)
theorem ev_lt {t : Int} {x y : Int32} (hop : av_op P mi pc = some (.if_icmp .lt t, len, ix)) : Wx P d mi pc L (.int y :: .int x :: r) (mk sh D) c s Q = if x < y then Wx P d mi t.toNat L r (mk sh D) c s Q else Wx P d mi (pc + len) L r (mk sh D) c s Q := by
  by_cases h : x < y
  · rw [if_pos h]
    exact Wx.step (by have h1 : av_cmp .lt x y = true := by (simp [av_cmp, h])
                      simp [av_stp, hop, av_one, h1, av_goto])
  · rw [if_neg h]
    exact Wx.step (by have h1 : av_cmp .lt x y = false := by (simp [av_cmp, h])
                      simp [av_stp, hop, av_one, h1, av_goto])
theorem ev_lt0 {t : Int} {x : Int32} (hop : av_op P mi pc = some (.ifCond .lt t, len, ix)) : Wx P d mi pc L (.int x :: r) (mk sh D) c s Q = if x < 0 then Wx P d mi t.toNat L r (mk sh D) c s Q else Wx P d mi (pc + len) L r (mk sh D) c s Q := by
  by_cases h : x < 0
  · rw [if_pos h]
    exact Wx.step (by have h1 : av_cmp .lt x 0 = true := by (simp [av_cmp, h])
                      simp [av_stp, hop, av_one, h1, av_goto])
  · rw [if_neg h]
    exact Wx.step (by have h1 : av_cmp .lt x 0 = false := by (simp [av_cmp, h])
                      simp [av_stp, hop, av_one, h1, av_goto])
theorem ev_ge {t : Int} {x y : Int32} (hop : av_op P mi pc = some (.if_icmp .ge t, len, ix)) : Wx P d mi pc L (.int y :: .int x :: r) (mk sh D) c s Q = if x < y then Wx P d mi (pc + len) L r (mk sh D) c s Q else Wx P d mi t.toNat L r (mk sh D) c s Q := by
  by_cases h : x < y
  · rw [if_pos h]
    exact Wx.step (by have h1 : av_cmp .ge x y = false := by (simp [av_cmp, h])
                      simp [av_stp, hop, av_one, h1, av_goto])
  · rw [if_neg h]
    exact Wx.step (by have h1 : av_cmp .ge x y = true := by (simp [av_cmp]; exact Int32.not_lt.mp h)
                      simp [av_stp, hop, av_one, h1, av_goto])
theorem ev_ge0 {t : Int} {x : Int32} (hop : av_op P mi pc = some (.ifCond .ge t, len, ix)) : Wx P d mi pc L (.int x :: r) (mk sh D) c s Q = if x < 0 then Wx P d mi (pc + len) L r (mk sh D) c s Q else Wx P d mi t.toNat L r (mk sh D) c s Q := by
  by_cases h : x < 0
  · rw [if_pos h]
    exact Wx.step (by have h1 : av_cmp .ge x 0 = false := by (simp [av_cmp, h])
                      simp [av_stp, hop, av_one, h1, av_goto])
  · rw [if_neg h]
    exact Wx.step (by have h1 : av_cmp .ge x 0 = true := by (simp [av_cmp]; exact Int32.not_lt.mp h)
                      simp [av_stp, hop, av_one, h1, av_goto])
theorem ev_gt {t : Int} {x y : Int32} (hop : av_op P mi pc = some (.if_icmp .gt t, len, ix)) : Wx P d mi pc L (.int y :: .int x :: r) (mk sh D) c s Q = if y < x then Wx P d mi t.toNat L r (mk sh D) c s Q else Wx P d mi (pc + len) L r (mk sh D) c s Q := by
  by_cases h : y < x
  · rw [if_pos h]
    exact Wx.step (by have h1 : av_cmp .gt x y = true := by (simp [av_cmp, h])
                      simp [av_stp, hop, av_one, h1, av_goto])
  · rw [if_neg h]
    exact Wx.step (by have h1 : av_cmp .gt x y = false := by (simp [av_cmp, h])
                      simp [av_stp, hop, av_one, h1, av_goto])
theorem ev_gt0 {t : Int} {x : Int32} (hop : av_op P mi pc = some (.ifCond .gt t, len, ix)) : Wx P d mi pc L (.int x :: r) (mk sh D) c s Q = if 0 < x then Wx P d mi t.toNat L r (mk sh D) c s Q else Wx P d mi (pc + len) L r (mk sh D) c s Q := by
  by_cases h : 0 < x
  · rw [if_pos h]
    exact Wx.step (by have h1 : av_cmp .gt x 0 = true := by (simp [av_cmp, h])
                      simp [av_stp, hop, av_one, h1, av_goto])
  · rw [if_neg h]
    exact Wx.step (by have h1 : av_cmp .gt x 0 = false := by (simp [av_cmp, h])
                      simp [av_stp, hop, av_one, h1, av_goto])
theorem ev_le {t : Int} {x y : Int32} (hop : av_op P mi pc = some (.if_icmp .le t, len, ix)) : Wx P d mi pc L (.int y :: .int x :: r) (mk sh D) c s Q = if y < x then Wx P d mi (pc + len) L r (mk sh D) c s Q else Wx P d mi t.toNat L r (mk sh D) c s Q := by
  by_cases h : y < x
  · rw [if_pos h]
    exact Wx.step (by have h1 : av_cmp .le x y = false := by (simp [av_cmp, h])
                      simp [av_stp, hop, av_one, h1, av_goto])
  · rw [if_neg h]
    exact Wx.step (by have h1 : av_cmp .le x y = true := by (simp [av_cmp]; exact Int32.not_lt.mp h)
                      simp [av_stp, hop, av_one, h1, av_goto])
theorem ev_le0 {t : Int} {x : Int32} (hop : av_op P mi pc = some (.ifCond .le t, len, ix)) : Wx P d mi pc L (.int x :: r) (mk sh D) c s Q = if 0 < x then Wx P d mi (pc + len) L r (mk sh D) c s Q else Wx P d mi t.toNat L r (mk sh D) c s Q := by
  by_cases h : 0 < x
  · rw [if_pos h]
    exact Wx.step (by have h1 : av_cmp .le x 0 = false := by (simp [av_cmp, h])
                      simp [av_stp, hop, av_one, h1, av_goto])
  · rw [if_neg h]
    exact Wx.step (by have h1 : av_cmp .le x 0 = true := by (simp [av_cmp]; exact Int32.not_lt.mp h)
                      simp [av_stp, hop, av_one, h1, av_goto])
theorem ev_eq {t : Int} {x y : Int32} (hop : av_op P mi pc = some (.if_icmp .eq t, len, ix)) : Wx P d mi pc L (.int y :: .int x :: r) (mk sh D) c s Q = if x = y then Wx P d mi t.toNat L r (mk sh D) c s Q else Wx P d mi (pc + len) L r (mk sh D) c s Q := by
  by_cases h : x = y
  · rw [if_pos h]
    exact Wx.step (by have h1 : av_cmp .eq x y = true := by (simp [av_cmp, h])
                      simp [av_stp, hop, av_one, h1, av_goto])
  · rw [if_neg h]
    exact Wx.step (by have h1 : av_cmp .eq x y = false := by (simp [av_cmp, h])
                      simp [av_stp, hop, av_one, h1, av_goto])
theorem ev_eq0 {t : Int} {x : Int32} (hop : av_op P mi pc = some (.ifCond .eq t, len, ix)) : Wx P d mi pc L (.int x :: r) (mk sh D) c s Q = if x = 0 then Wx P d mi t.toNat L r (mk sh D) c s Q else Wx P d mi (pc + len) L r (mk sh D) c s Q := by
  by_cases h : x = 0
  · rw [if_pos h]
    exact Wx.step (by have h1 : av_cmp .eq x 0 = true := by (simp [av_cmp, h])
                      simp [av_stp, hop, av_one, h1, av_goto])
  · rw [if_neg h]
    exact Wx.step (by have h1 : av_cmp .eq x 0 = false := by (simp [av_cmp, h])
                      simp [av_stp, hop, av_one, h1, av_goto])
theorem ev_ne {t : Int} {x y : Int32} (hop : av_op P mi pc = some (.if_icmp .ne t, len, ix)) : Wx P d mi pc L (.int y :: .int x :: r) (mk sh D) c s Q = if x = y then Wx P d mi (pc + len) L r (mk sh D) c s Q else Wx P d mi t.toNat L r (mk sh D) c s Q := by
  by_cases h : x = y
  · rw [if_pos h]
    exact Wx.step (by have h1 : av_cmp .ne x y = false := by (simp [av_cmp, h])
                      simp [av_stp, hop, av_one, h1, av_goto])
  · rw [if_neg h]
    exact Wx.step (by have h1 : av_cmp .ne x y = true := by (simp [av_cmp, h])
                      simp [av_stp, hop, av_one, h1, av_goto])
theorem ev_ne0 {t : Int} {x : Int32} (hop : av_op P mi pc = some (.ifCond .ne t, len, ix)) : Wx P d mi pc L (.int x :: r) (mk sh D) c s Q = if x = 0 then Wx P d mi (pc + len) L r (mk sh D) c s Q else Wx P d mi t.toNat L r (mk sh D) c s Q := by
  by_cases h : x = 0
  · rw [if_pos h]
    exact Wx.step (by have h1 : av_cmp .ne x 0 = false := by (simp [av_cmp, h])
                      simp [av_stp, hop, av_one, h1, av_goto])
  · rw [if_neg h]
    exact Wx.step (by have h1 : av_cmp .ne x 0 = true := by (simp [av_cmp, h])
                      simp [av_stp, hop, av_one, h1, av_goto])
/-- the t-th of some -/
def tsw (ts : Array Int) (n : Nat) (f : Int → Prop) : Prop := wi ts[n]? f
theorem ev_sw {dd lo hi : Int} {ts : Array Int} {x : Int32} (hop : av_op P mi pc = some (.tableswitch dd lo hi ts, len, ix)) : Wx P d mi pc L (.int x :: r) (mk sh D) c s Q = if x.toInt < lo ∨ hi < x.toInt then Wx P d mi dd.toNat L r (mk sh D) c s Q else tsw ts (x.toInt - lo).toNat fun t => Wx P d mi t.toNat L r (mk sh D) c s Q := by
  by_cases h : x.toInt < lo ∨ hi < x.toInt
  · rw [if_pos h]
    exact Wx.step (by simp only [av_stp, hop, av_one]; rw [if_pos h]; rfl)
  · rw [if_neg h]
    unfold tsw
    cases ht : ts[(x.toInt - lo).toNat]? with
    | none => exact Wx.bad (by simp only [av_stp, hop, av_one]; rw [if_neg h, ht])
    | some t => exact Wx.step (by simp only [av_stp, hop, av_one]; rw [if_neg h, ht]; rfl)
theorem ev_retZ {x : Int32} (hop : av_op P mi pc = some (.ireturn, len, ix)) (hr : (av_me P mi).2.2.2.1 = some .boolean) : Wx P d mi pc L [.int x] (mk sh D) c s Q = ((x = 0 ∨ x = 1) ∧ Q (.inl (some (.int x))) (mk sh D) c s) := by
  by_cases h : x = 0 ∨ x = 1
  · simp only [h, true_and]
    exact Wx.ret (by simp only [av_stp, hop, av_one, hr]; rw [if_pos h])
  · simp only [h, false_and]
    exact Wx.bad (by simp only [av_stp, hop, av_one, hr]; rw [if_neg h])
theorem rcv_mk {a ci : Nat} {as : List Value} : av_rcv (mk sh D) ci (.ref a :: as) = isO sh a ci := by
  unfold av_rcv isO
  simp only
  rw [mk_get]
  cases hs : sh[a]? with
  | none => rfl
  | some x =>
    obtain ⟨t, n⟩ | ⟨k, fs⟩ := x
    · obtain ⟨e, he⟩ := cell_arr D a t n
      simp [he]
    · simp [cell_obj]
theorem vir_stp {mj a : Nat} {as st : List Value} (hop : av_op P mi pc = some (.invokevirtual mj, len, ix)) (hn : (av_me P mj).2.2.2.2.1 ≤ st.length) (ht : (st.take (av_me P mj).2.2.2.2.1).reverse = .ref a :: as) (hr : st.drop (av_me P mj).2.2.2.2.1 = r) (h1 : (r.map fun v => v.category).sum ≤ 8) (h2 : ((st.take (av_me P mj).2.2.2.2.1).all fun v => v.category == 1) = true) : av_stp P mi pc L st (mk sh D) c s = if isO sh a (av_me P mj).2.2.2.2.2.2.2.1 = true then some (.inr (.inr (.inl (mj, .ref a :: as, r)))) else none := by
  simp only [av_stp, hop, av_one, ht, hr, rcv_mk]
  by_cases h : isO sh a (av_me P mj).2.2.2.2.2.2.2.1 = true
  · rw [if_pos h, if_pos ⟨hn, h1, h2, h⟩]
  · rw [if_neg h, if_neg (fun q => h q.2.2.2)]
theorem ev_virN {mj a ci : Nat} {as st : List Value} {Lj : av_L} (hop : av_op P mi pc = some (.invokevirtual mj, len, ix)) (hf : (av_me P mj).2.2.2.2.2.2.2.2 = false) (hL : av_ent P mj (.ref a :: as) = Lj) (hci : (av_me P mj).2.2.2.2.2.2.2.1 = ci) (hn : (av_me P mj).2.2.2.2.1 ≤ st.length) (ht : (st.take (av_me P mj).2.2.2.2.1).reverse = .ref a :: as) (hr : st.drop (av_me P mj).2.2.2.2.1 = r) (h1 : (r.map fun v => v.category).sum ≤ 8) (h2 : ((st.take (av_me P mj).2.2.2.2.1).all fun v => v.category == 1) = true) : Wx P (d + 1) mi pc L st (mk sh D) c s Q = (isO sh a ci = true ∧ Wx P d mj 0 Lj [] (mk sh D) 0 0 (kN P (d + 1) mi (pc + 3) L r c s Q)) := by
  have hst := vir_stp (L := L) (D := D) (sh := sh) (c := c) (s := s) hop hn ht hr h1 h2
  rw [hci] at hst
  by_cases h : isO sh a ci = true
  · rw [if_pos h] at hst
    simp only [h, true_and]
    exact Wx.callN hst hf hL
  · rw [if_neg h] at hst
    simp only [h, false_and]
    exact (Wx.bad hst).trans (by simp)
theorem ev_virT {mj a ci : Nat} {as st : List Value} {Lj : av_L} (hop : av_op P mi pc = some (.invokevirtual mj, len, ix)) (hf : (av_me P mj).2.2.2.2.2.2.2.2 = true) (hh : (av_me P mi).2.2.2.2.2.1 = []) (hL : av_ent P mj (.ref a :: as) = Lj) (hci : (av_me P mj).2.2.2.2.2.2.2.1 = ci) (hn : (av_me P mj).2.2.2.2.1 ≤ st.length) (ht : (st.take (av_me P mj).2.2.2.2.1).reverse = .ref a :: as) (hr : st.drop (av_me P mj).2.2.2.2.1 = r) (h1 : (r.map fun v => v.category).sum ≤ 8) (h2 : ((st.take (av_me P mj).2.2.2.2.1).all fun v => v.category == 1) = true) : Wx P (d + 1) mi pc L st (mk sh D) c s Q = (isO sh a ci = true ∧ Wx P d mj 0 Lj [] (mk sh D) 0 0 (kT P (d + 1) mi (pc + 3) L r c s Q)) := by
  have hst := vir_stp (L := L) (D := D) (sh := sh) (c := c) (s := s) hop hn ht hr h1 h2
  rw [hci] at hst
  by_cases h : isO sh a ci = true
  · rw [if_pos h] at hst
    simp only [h, true_and]
    exact Wx.callT hst hf hh hL
  · rw [if_neg h] at hst
    simp only [h, false_and]
    exact (Wx.bad hst).trans (by simp)
theorem ev_virC {mj a ci : Nat} {as st : List Value} {Lj : av_L} (hop : av_op P mi pc = some (.invokevirtual mj, len, ix)) (hf : (av_me P mj).2.2.2.2.2.2.2.2 = true) (hh : (av_me P mi).2.2.2.2.2.1 ≠ []) (hL : av_ent P mj (.ref a :: as) = Lj) (hci : (av_me P mj).2.2.2.2.2.2.2.1 = ci) (hn : (av_me P mj).2.2.2.2.1 ≤ st.length) (ht : (st.take (av_me P mj).2.2.2.2.1).reverse = .ref a :: as) (hr : st.drop (av_me P mj).2.2.2.2.1 = r) (h1 : (r.map fun v => v.category).sum ≤ 8) (h2 : ((st.take (av_me P mj).2.2.2.2.1).all fun v => v.category == 1) = true) : Wx P (d + 1) mi pc L st (mk sh D) c s Q = (isO sh a ci = true ∧ Wx P d mj 0 Lj [] (mk sh D) 0 0 (kC P (d + 1) mi pc L r c s Q)) := by
  have hst := vir_stp (L := L) (D := D) (sh := sh) (c := c) (s := s) hop hn ht hr h1 h2
  rw [hci] at hst
  by_cases h : isO sh a ci = true
  · rw [if_pos h] at hst
    simp only [h, true_and]
    exact Wx.callC hst hf hh hL
  · rw [if_neg h] at hst
    simp only [h, false_and]
    exact (Wx.bad hst).trans (by simp)
theorem kN_v {L : av_L} {v : Value} {h' : av_H} {c' s' : Nat} : kN P d mi pc L r c s Q (.inl (some v)) h' c' s' = Wx P d mi pc L (v :: r) h' (c + c') (s + s') Q := rfl
theorem kN_n {L : av_L} {h' : av_H} {c' s' : Nat} : kN P d mi pc L r c s Q (.inl none) h' c' s' = Wx P d mi pc L r h' (c + c') (s + s') Q := rfl
theorem kT_v {L : av_L} {v : Value} {h' : av_H} {c' s' : Nat} : kT P d mi pc L r c s Q (.inl (some v)) h' c' s' = Wx P d mi pc L (v :: r) h' (c + c') (s + s') Q := rfl
theorem kT_n {L : av_L} {h' : av_H} {c' s' : Nat} : kT P d mi pc L r c s Q (.inl none) h' c' s' = Wx P d mi pc L r h' (c + c') (s + s') Q := rfl
theorem kT_e {L : av_L} {E : String} {h' : av_H} {c' s' : Nat} : kT P d mi pc L r c s Q (.inr E) h' c' s' = Q (.inr E) h' (c + c') (s + s') := rfl
theorem kC_v {L : av_L} {v : Value} {h' : av_H} {c' s' : Nat} : kC P d mi pc L r c s Q (.inl (some v)) h' c' s' = Wx P d mi (pc + 3) L (v :: r) h' (c + c') (s + s') Q := rfl
theorem kC_n {L : av_L} {h' : av_H} {c' s' : Nat} : kC P d mi pc L r c s Q (.inl none) h' c' s' = Wx P d mi (pc + 3) L r h' (c + c') (s + s') Q := rfl
theorem kC_e {L : av_L} {E : String} {h' : av_H} {c' s' : Nat} : kC P d mi pc L r c s Q (.inr E) h' c' s' = kH P d mi pc L c s Q E h' c' s' := rfl
end EVT
