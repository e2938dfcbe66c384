/-! ===== LAYER 2: each instruction over the store ===== -/
theorem cell_obj (D : sD) (a ci : Nat) (fs : List Nat) : cell D a (.inr (ci, fs)) = .inr (ci, fs.mapIdx fun k f => fdv (D a k) f) := rfl
theorem cell_arr (D : sD) (a t n : Nat) : ∃ e, cell D a (.inl (t, n)) = .inl e := by
  unfold cell cellF
  by_cases h0 : t = 0
  · exact ⟨_, by simp only [h0, if_true]; rfl⟩
  · by_cases h1 : t = 1
    · exact ⟨_, by simp only [h1]; rfl⟩
    · by_cases h2 : t = 2
      · exact ⟨_, by simp only [h2]; rfl⟩
      · exact ⟨_, by simp only [h0, h1, h2, if_false]; rfl⟩
theorem cell_a0 (D : sD) (a n : Nat) : cell D a (.inl (0, n)) = .inl (0, n, .inl (D a)) := rfl
theorem cell_a1 (D : sD) (a n : Nat) : cell D a (.inl (1, n)) = .inl (1, n, .inl (D a)) := rfl
theorem cell_a2 (D : sD) (a n : Nat) : cell D a (.inl (2, n)) = .inl (2, n, .inr (.inl fun i => (D a i).toInt64)) := rfl
theorem cell_a3 (D : sD) (a t n : Nat) : cell D a (.inl (t + 3, n)) = .inl (t + 3, n, .inr (.inr (.inr (.inr fun i => sRf (D a i))))) := by
  unfold cell cellF
  have h0 : ¬ t + 3 = 0 := by omega
  have h1 : ¬ t + 3 = 1 := by omega
  have h2 : ¬ t + 3 = 2 := by omega
  simp only [h0, h1, h2, if_false]
theorem dec_eq (x : Int32) : dec x = va_rf (sRf x) := by
  unfold dec sRf
  split <;> rfl
section EVS
variable {P : av_P} {d mi pc len ix : Nat} {L : av_L} {r : List Value} {sh : List sC} {D : sD} {c s : Nat} {Q : av_Q}
theorem fs_of {a q : Nat} {ci : Nat} {fs : List Nat} {f : Nat} (hw : WT1 sh) (hs : sh[a]? = some (Sum.inr (ci, fs))) (hc : ci = q / 64) (hf : fs[q % 64]? = some f) : (qk q = 0 → f = 0) ∧ (qk q = 1 → f = 1) ∧ (qk q = 2 → ci ≠ 0 → 3 ≤ f) := by
  have h := hw a ci fs hs (q % 64) f hf
  rw [hc, Nat.mul_comm, Nat.div_add_mod] at h
  rw [hc]
  exact h
theorem ev_getI {q a : Nat} (hop : av_op P mi pc = some (.getfield q, len, ix)) (hw : WT1 sh) (hk : qk q = 0) : Wx P d mi pc L (.ref a :: r) (mk sh D) c s Q = wi (fI sh D a q) fun x => Wx P d mi (pc + len) L (.int x :: r) (mk sh D) c s Q := by
  unfold fI
  cases hs : sh[a]? with
  | none => exact Wx.bad (by simp [av_stp, hop, av_one, mk_get, hs])
  | some x =>
    obtain ⟨t, n⟩ | ⟨ci, fs⟩ := x
    · obtain ⟨e, he⟩ := cell_arr D a t n
      exact Wx.bad (by simp [av_stp, hop, av_one, mk_get, hs, he])
    · by_cases hc : ci = q / 64
      · cases hf : fs[q % 64]? with
        | none =>
          have hl : ¬ q % 64 < fs.length := fun h => by rw [List.getElem?_eq_getElem h] at hf; cases hf
          simp only [hc, hl, and_false, if_false]
          exact Wx.bad (by simp [av_stp, hop, av_one, mk_get, hs, cell_obj, hc, hf])
        | some f =>
          have hl : q % 64 < fs.length := by
            rcases Nat.lt_or_ge (q % 64) fs.length with h | h
            · exact h
            · rw [List.getElem?_eq_none h] at hf; cases hf
          have e0 := (fs_of hw hs hc hf).1 hk
          subst e0
          simp only [hc, hl, and_self, if_true, wi]
          exact Wx.step (by simp [av_stp, hop, av_one, mk_get, hs, cell_obj, hc, hf, fdv])
      · simp only [hc, false_and, if_false]
        exact Wx.bad (by simp [av_stp, hop, av_one, mk_get, hs, cell_obj, hc])
theorem ev_getR {q a : Nat} (hop : av_op P mi pc = some (.getfield q, len, ix)) (hk : qk q = 2) (hw : if q / 64 = 0 then WT sh else WT1 sh) : Wx P d mi pc L (.ref a :: r) (mk sh D) c s Q = wi (fR sh a q) fun x => Wx P d mi (pc + len) L (.ref x :: r) (mk sh D) c s Q := by
  unfold fR
  cases hs : sh[a]? with
  | none => exact Wx.bad (by simp [av_stp, hop, av_one, mk_get, hs])
  | some x =>
    obtain ⟨t, n⟩ | ⟨ci, fs⟩ := x
    · obtain ⟨e, he⟩ := cell_arr D a t n
      exact Wx.bad (by simp [av_stp, hop, av_one, mk_get, hs, he])
    · by_cases hc : ci = q / 64
      · cases hf : fs[q % 64]? with
        | none =>
          simp only [hc, if_true, hf]
          exact Wx.bad (by simp [av_stp, hop, av_one, mk_get, hs, cell_obj, hc, hf])
        | some f =>
          have h3 : 3 ≤ f := by
            by_cases h0 : q / 64 = 0
            · rw [if_pos h0] at hw
              have hq : q % 64 = q := by omega
              rw [hc, h0] at hs
              rw [hq] at hf
              exact hw.2 a fs hs q f hf hk
            · rw [if_neg h0] at hw
              exact (fs_of hw hs hc hf).2.2 hk (by rw [hc]; exact h0)
          obtain ⟨n, rfl⟩ : ∃ n, f = n + 3 := ⟨f - 3, by omega⟩
          simp only [hc, if_true, hf, wi]
          exact Wx.step (by simp [av_stp, hop, av_one, mk_get, hs, cell_obj, hc, hf, fdv])
      · simp only [hc, if_false]
        exact Wx.bad (by simp [av_stp, hop, av_one, mk_get, hs, cell_obj, hc])
/-- the pointer of State.law: looked at -/
theorem ev_nnl {a : Nat} {t : Int} {len2 ix2 : Nat} (hop : av_op P mi pc = some (.getfield 398, len, ix)) (hop2 : av_op P mi (pc + len) = some (.ifnonnull t, len2, ix2)) (hw : WT1 sh) : Wx P d mi pc L (.ref a :: r) (mk sh D) c s Q = wi (fI sh D a 398) fun x => if x.toNatClampNeg = 0 then Wx P d mi (pc + len + len2) L r (mk sh D) c s Q else Wx P d mi t.toNat L r (mk sh D) c s Q := by
  unfold fI
  cases hs : sh[a]? with
  | none => exact Wx.bad (by simp [av_stp, hop, av_one, mk_get, hs])
  | some x =>
    obtain ⟨t', n⟩ | ⟨ci, fs⟩ := x
    · obtain ⟨e, he⟩ := cell_arr D a t' n
      exact Wx.bad (by simp [av_stp, hop, av_one, mk_get, hs, he])
    · by_cases hc : ci = 398 / 64
      · cases hf : fs[398 % 64]? with
        | none =>
          have hl : ¬ 398 % 64 < fs.length := fun h => by rw [List.getElem?_eq_getElem h] at hf; cases hf
          simp only [hc, hl, and_false, if_false]
          exact Wx.bad (by simp at hf; simp [av_stp, hop, av_one, mk_get, hs, cell_obj, hc, hf])
        | some f =>
          have hl : 398 % 64 < fs.length := by
            rcases Nat.lt_or_ge (398 % 64) fs.length with h | h
            · exact h
            · rw [List.getElem?_eq_none h] at hf; cases hf
          have e0 := (fs_of hw hs hc hf).2.1 rfl
          subst e0
          simp only [hc, hl, and_self, if_true, wi]
          rw [Wx.step (pc' := pc + len) (L' := L) (st' := dec (D a 14) :: r) (h' := mk sh D) (c' := c) (s' := s) (by simp at hf; simp [av_stp, hop, av_one, mk_get, hs, cell_obj, hc, hf, fdv])]
          cases hx : (D a 14).toNatClampNeg with
          | zero =>
            have hd : dec (D a 14) = .null := by unfold dec; rw [hx]
            rw [hd]
            simp only [Nat.reduceMod, hx, if_true]
            exact Wx.step (by simp [av_stp, hop2, av_one])
          | succ m =>
            have hd : dec (D a 14) = .ref m := by unfold dec; rw [hx]
            rw [hd]
            simp only [Nat.reduceMod, hx, Nat.succ_ne_zero, if_false]
            exact Wx.step (by simp [av_stp, hop2, av_one, av_goto])
      · simp only [hc, false_and, if_false]
        exact Wx.bad (by simp [av_stp, hop, av_one, mk_get, hs, cell_obj]; intro h; exact absurd h hc)
theorem ev_getP {a p : Nat} (hop : av_op P mi pc = some (.getfield 398, len, ix)) (hw : WT1 sh) (hp : sRf (D a 14) = some p) : Wx P d mi pc L (.ref a :: r) (mk sh D) c s Q = (oF sh a 398 = true ∧ Wx P d mi (pc + len) L (.ref p :: r) (mk sh D) c s Q) := by
  unfold oF
  cases hs : sh[a]? with
  | none => simp only [Bool.false_eq_true, false_and]; exact Wx.bad (by simp [av_stp, hop, av_one, mk_get, hs])
  | some x =>
    obtain ⟨t', n⟩ | ⟨ci, fs⟩ := x
    · obtain ⟨e, he⟩ := cell_arr D a t' n
      simp only [Bool.false_eq_true, false_and]
      exact Wx.bad (by simp [av_stp, hop, av_one, mk_get, hs, he])
    · by_cases hc : ci = 398 / 64
      · cases hf : fs[398 % 64]? with
        | none =>
          have hl : ¬ 398 % 64 < fs.length := fun h => by rw [List.getElem?_eq_getElem h] at hf; cases hf
          simp only [hc, hl, and_false, decide_false, Bool.false_eq_true, false_and]
          exact Wx.bad (by simp at hf; simp [av_stp, hop, av_one, mk_get, hs, cell_obj, hc, hf])
        | some f =>
          have hl : 398 % 64 < fs.length := by
            rcases Nat.lt_or_ge (398 % 64) fs.length with h | h
            · exact h
            · rw [List.getElem?_eq_none h] at hf; cases hf
          have e0 := (fs_of hw hs hc hf).2.1 rfl
          subst e0
          simp only [hc, hl, and_self, decide_true, true_and]
          have hd : dec (D a 14) = .ref p := by rw [dec_eq, hp]; rfl
          exact Wx.step (by simp at hf; simp [av_stp, hop, av_one, mk_get, hs, cell_obj, hc, hf, fdv, hd])
      · simp only [hc, false_and, decide_false, Bool.false_eq_true]
        exact Wx.bad (by simp [av_stp, hop, av_one, mk_get, hs, cell_obj]; intro h; exact absurd h hc)
theorem ev_put {q a : Nat} {v : Int32} (hop : av_op P mi pc = some (.putfield q, len, ix)) (hw : WT1 sh) (hk : qk q = 0) (hfit : ∀ ci, av_fit ((av_ty P ci).getD (q % 64) .float) (.int v) = true ∨ ci ≠ q / 64) : Wx P d mi pc L (.int v :: .ref a :: r) (mk sh D) c s Q = (oF sh a q = true ∧ Wx P d mi (pc + len) L r (mk sh (u2 D a (q % 64) v)) c s Q) := by
  unfold oF
  cases hs : sh[a]? with
  | none => simp only [Bool.false_eq_true, false_and]; exact Wx.bad (by simp [av_stp, hop, av_one, mk_get, hs])
  | some x =>
    obtain ⟨t', n⟩ | ⟨ci, fs⟩ := x
    · obtain ⟨e, he⟩ := cell_arr D a t' n
      simp only [Bool.false_eq_true, false_and]
      exact Wx.bad (by simp [av_stp, hop, av_one, mk_get, hs, he])
    · by_cases hc : ci = q / 64
      · by_cases hl : q % 64 < fs.length
        · have hf : fs[q % 64]? = some (fs[q % 64]) := List.getElem?_eq_getElem hl
          have e0 := (fs_of hw hs hc hf).1 hk
          rw [e0] at hf
          have hft : av_fit ((av_ty P ci).getD (q % 64) .float) (.int v) = true := by
            rcases hfit ci with h | h
            · exact h
            · exact absurd hc h
          simp only [hc, hl, and_self, decide_true, true_and]
          rw [← mk_set (D := D) (D' := u2 D a (q % 64) v) hs (by intro b hb; funext i; simp [u2, hb])]
          have hcell : cell (u2 D a (q % 64) v) a (.inr (ci, fs)) = .inr (ci, (fs.mapIdx fun k f => fdv (D a k) f).set (q % 64) (.int v)) := by
            rw [cell_obj]
            congr 2
            apply List.ext_getElem?
            intro i
            rw [List.getElem?_set, List.getElem?_mapIdx, List.getElem?_mapIdx, List.length_mapIdx]
            by_cases hi : q % 64 = i
            · subst hi
              simp only [hf, u2, fdv, hl, Option.map_some, and_self, if_true]
            · simp only [hi, if_false]
              have : ¬ i = q % 64 := fun e => hi e.symm
              simp [u2, this]
          rw [hcell]
          exact Wx.step (by simp [av_stp, hop, av_one, mk_get, hs, cell_obj, hc, hl]; rw [hc] at hft; simpa using hft)
        · simp only [hc, hl, and_false, decide_false, Bool.false_eq_true, false_and]
          exact Wx.bad (by simp [av_stp, hop, av_one, mk_get, hs, cell_obj, hc]; intro h; omega)
      · simp only [hc, false_and, decide_false, Bool.false_eq_true]
        exact Wx.bad (by simp [av_stp, hop, av_one, mk_get, hs, cell_obj, hc])
theorem ev_putI {q a : Nat} {v : Int32} (hop : av_op P mi pc = some (.putfield q, len, ix)) (hw : WT1 sh) (hk : qk q = 0) (hty : (av_ty P (q / 64)).getD (q % 64) .float = .int) : Wx P d mi pc L (.int v :: .ref a :: r) (mk sh D) c s Q = (oF sh a q = true ∧ Wx P d mi (pc + len) L r (mk sh (u2 D a (q % 64) v)) c s Q) := ev_put hop hw hk (fun ci => by
  by_cases h : ci = q / 64
  · left; rw [h, hty]; rfl
  · right; exact h)
theorem ev_putZ {q a : Nat} {v : Int32} (hop : av_op P mi pc = some (.putfield q, len, ix)) (hw : WT1 sh) (hk : qk q = 0) (hty : (av_ty P (q / 64)).getD (q % 64) .float = .boolean) : Wx P d mi pc L (.int v :: .ref a :: r) (mk sh D) c s Q = ((v = 0 ∨ v = 1) ∧ oF sh a q = true ∧ Wx P d mi (pc + len) L r (mk sh (u2 D a (q % 64) v)) c s Q) := by
  by_cases hv : v = 0 ∨ v = 1
  · rw [ev_put hop hw hk (fun ci => by
      by_cases h : ci = q / 64
      · left; rw [h, hty]; simpa [av_fit] using hv
      · right; exact h)]
    simp [hv]
  · simp only [hv, false_and]
    apply Wx.bad
    cases hs : sh[a]? with
    | none => simp [av_stp, hop, av_one, mk_get, hs]
    | some x =>
      obtain ⟨t', n⟩ | ⟨ci, fs⟩ := x
      · obtain ⟨e, he⟩ := cell_arr D a t' n
        simp [av_stp, hop, av_one, mk_get, hs, he]
      · simp only [av_stp, hop, av_one, mk_get, hs, cell_obj, Option.map_some]
        by_cases hc : ci = q / 64
        · rw [hc, hty]
          have : av_fit .boolean (.int v) = false := by
            simp only [not_or] at hv
            simp [av_fit, hv.1, hv.2]
          simp [this]
        · simp [hc]
/-- the pointer of State.law: another's -/
theorem ev_cpP {a b : Nat} {len2 ix2 : Nat} (hop : av_op P mi pc = some (.getfield 398, len, ix)) (hop2 : av_op P mi (pc + len) = some (.putfield 398, len2, ix2)) (hw : WT1 sh) (hty : (av_ty P 6).getD 14 .float = .object "SinglesPast$Law") : Wx P d mi pc L (.ref b :: .ref a :: r) (mk sh D) c s Q = (oF sh b 398 = true ∧ oF sh a 398 = true ∧ Wx P d mi (pc + len + len2) L r (mk sh (u2 D a 14 (D b 14))) c s Q) := by
  have hgen : ∀ v : Int32, Wx P d mi (pc + len) L (dec v :: .ref a :: r) (mk sh D) c s Q = (oF sh a 398 = true ∧ Wx P d mi (pc + len + len2) L r (mk sh (u2 D a 14 v)) c s Q) := by
    intro v
    unfold oF
    cases hs : sh[a]? with
    | none => simp only [Bool.false_eq_true, false_and]; exact Wx.bad (by simp [av_stp, hop2, av_one, mk_get, hs])
    | some x =>
      obtain ⟨t', n⟩ | ⟨ci, fs⟩ := x
      · obtain ⟨e, he⟩ := cell_arr D a t' n
        simp only [Bool.false_eq_true, false_and]
        exact Wx.bad (by simp [av_stp, hop2, av_one, mk_get, hs, he])
      · by_cases hc : ci = 398 / 64
        · by_cases hl : 398 % 64 < fs.length
          · have hf : fs[398 % 64]? = some (fs[398 % 64]) := List.getElem?_eq_getElem hl
            have e0 := (fs_of hw hs hc hf).2.1 rfl
            rw [e0] at hf
            simp only [hc, hl, and_self, decide_true, true_and]
            rw [← mk_set (D := D) (D' := u2 D a 14 v) hs (by intro b hb; funext i; simp [u2, hb])]
            have hcell : cell (u2 D a 14 v) a (.inr (ci, fs)) = .inr (ci, (fs.mapIdx fun k f => fdv (D a k) f).set 14 (dec v)) := by
              rw [cell_obj]
              congr 2
              apply List.ext_getElem?
              intro i
              rw [List.getElem?_set, List.getElem?_mapIdx, List.getElem?_mapIdx, List.length_mapIdx]
              by_cases hi : 14 = i
              · subst hi
                simp at hf hl
                simp only [hf, u2, fdv, hl, Option.map_some, and_self, if_true]
              · simp only [hi, if_false]
                have : ¬ i = 14 := fun e => hi e.symm
                simp [u2, this]
            rw [hcell]
            have hft : av_fit ((av_ty P 6).getD 14 .float) (dec v) = true := by
              rw [hty]
              unfold dec
              split <;> rfl
            exact Wx.step (by simp at hl; simp [av_stp, hop2, av_one, mk_get, hs, cell_obj, hc, hl]; simpa using hft)
          · simp only [hc, hl, and_false, decide_false, Bool.false_eq_true, false_and]
            exact Wx.bad (by simp at hl; simp [av_stp, hop2, av_one, mk_get, hs, cell_obj, hc]; intro h; omega)
        · simp only [hc, false_and, decide_false, Bool.false_eq_true]
          exact Wx.bad (by simp [av_stp, hop2, av_one, mk_get, hs, cell_obj]; intro h; exact absurd h hc)
  rw [← hgen]
  unfold oF
  cases hs : sh[b]? with
  | none => simp only [Bool.false_eq_true, false_and]; exact Wx.bad (by simp [av_stp, hop, av_one, mk_get, hs])
  | some x =>
    obtain ⟨t', n⟩ | ⟨ci, fs⟩ := x
    · obtain ⟨e, he⟩ := cell_arr D b t' n
      simp only [Bool.false_eq_true, false_and]
      exact Wx.bad (by simp [av_stp, hop, av_one, mk_get, hs, he])
    · by_cases hc : ci = 398 / 64
      · cases hf : fs[398 % 64]? with
        | none =>
          have hl : ¬ 398 % 64 < fs.length := fun h => by rw [List.getElem?_eq_getElem h] at hf; cases hf
          simp only [hc, hl, and_false, decide_false, Bool.false_eq_true, false_and]
          exact Wx.bad (by simp at hf; simp [av_stp, hop, av_one, mk_get, hs, cell_obj, hc, hf])
        | some f =>
          have hl : 398 % 64 < fs.length := by
            rcases Nat.lt_or_ge (398 % 64) fs.length with h | h
            · exact h
            · rw [List.getElem?_eq_none h] at hf; cases hf
          have e0 := (fs_of hw hs hc hf).2.1 rfl
          subst e0
          simp only [hc, hl, and_self, decide_true, true_and]
          exact Wx.step (by simp at hf; simp [av_stp, hop, av_one, mk_get, hs, cell_obj, hc, hf, fdv])
      · simp only [hc, false_and, decide_false, Bool.false_eq_true]
        exact Wx.bad (by simp [av_stp, hop, av_one, mk_get, hs, cell_obj]; intro h; exact absurd h hc)
theorem ev_putP {a p : Nat} (hop : av_op P mi pc = some (.putfield 398, len, ix)) (hw : WT1 sh) (hty : (av_ty P 6).getD 14 .float = .object "SinglesPast$Law") (hp : p + 1 < 2147483648) : Wx P d mi pc L (.ref p :: .ref a :: r) (mk sh D) c s Q = (oF sh a 398 = true ∧ Wx P d mi (pc + len) L r (mk sh (u2 D a 14 (Int32.ofNat (p + 1)))) c s Q) := by
  have hd : dec (Int32.ofNat (p + 1)) = .ref p := by
    unfold dec
    rw [Int32.toNatClampNeg_ofNat_of_lt (by simpa using hp)]
  unfold oF
  cases hs : sh[a]? with
  | none => simp only [Bool.false_eq_true, false_and]; exact Wx.bad (by simp [av_stp, hop, av_one, mk_get, hs])
  | some x =>
    obtain ⟨t', n⟩ | ⟨ci, fs⟩ := x
    · obtain ⟨e, he⟩ := cell_arr D a t' n
      simp only [Bool.false_eq_true, false_and]
      exact Wx.bad (by simp [av_stp, hop, av_one, mk_get, hs, he])
    · by_cases hc : ci = 398 / 64
      · by_cases hl : 398 % 64 < fs.length
        · have hf : fs[398 % 64]? = some (fs[398 % 64]) := List.getElem?_eq_getElem hl
          have e0 := (fs_of hw hs hc hf).2.1 rfl
          rw [e0] at hf
          simp only [hc, hl, and_self, decide_true, true_and]
          rw [← mk_set (D := D) (D' := u2 D a 14 (Int32.ofNat (p + 1))) hs (by intro b hb; funext i; simp [u2, hb])]
          have hcell : cell (u2 D a 14 (Int32.ofNat (p + 1))) a (.inr (ci, fs)) = .inr (ci, (fs.mapIdx fun k f => fdv (D a k) f).set 14 (.ref p)) := by
            rw [cell_obj]
            congr 2
            apply List.ext_getElem?
            intro i
            rw [List.getElem?_set, List.getElem?_mapIdx, List.getElem?_mapIdx, List.length_mapIdx]
            by_cases hi : 14 = i
            · subst hi
              simp at hf hl
              simp only [hf, u2, fdv, hl, Option.map_some, and_self, if_true, hd]
            · simp only [hi, if_false]
              have : ¬ i = 14 := fun e => hi e.symm
              simp [u2, this]
          rw [hcell]
          exact Wx.step (by simp at hl hty; simp [av_stp, hop, av_one, mk_get, hs, cell_obj, hc, hl, hty, av_fit])
        · simp only [hc, hl, and_false, decide_false, Bool.false_eq_true, false_and]
          exact Wx.bad (by simp at hl; simp [av_stp, hop, av_one, mk_get, hs, cell_obj, hc]; intro h; omega)
      · simp only [hc, false_and, decide_false, Bool.false_eq_true]
        exact Wx.bad (by simp [av_stp, hop, av_one, mk_get, hs, cell_obj]; intro h; exact absurd h hc)
theorem ev_ial {a : Nat} {i : Int32} (hop : av_op P mi pc = some (.iaload, len, ix)) : Wx P d mi pc L (.int i :: .ref a :: r) (mk sh D) c s Q = wi (aI sh D a i) fun x => Wx P d mi (pc + len) L (.int x :: r) (mk sh D) c s Q := by
  unfold aI aN
  cases hs : sh[a]? with
  | none => exact Wx.bad (by simp [av_stp, hop, av_one, mk_get, hs, av_iaload])
  | some x =>
    obtain ⟨t, n⟩ | ⟨ci, fs⟩ := x
    · obtain _ | _ | _ | t := t
      · simp only [if_true]
        by_cases hi : av_in i n = true
        · simp only [hi, if_true, wi]
          exact Wx.step (by simp [av_stp, hop, av_one, mk_get, hs, av_iaload, cell_a0, hi])
        · simp only [hi, if_false, wi]
          exact Wx.bad (by simp [av_stp, hop, av_one, mk_get, hs, av_iaload, cell_a0, hi])
      · exact (Wx.bad (by simp [av_stp, hop, av_one, mk_get, hs, av_iaload, cell_a1])).trans (by simp [wi])
      · exact (Wx.bad (by simp [av_stp, hop, av_one, mk_get, hs, av_iaload, cell_a2])).trans (by simp [wi])
      · exact (Wx.bad (by simp [av_stp, hop, av_one, mk_get, hs, av_iaload, cell_a3])).trans (by simp [wi])
    · exact Wx.bad (by simp [av_stp, hop, av_one, mk_get, hs, av_iaload, cell_obj])
theorem ev_bal {a : Nat} {i : Int32} (hop : av_op P mi pc = some (.baload, len, ix)) : Wx P d mi pc L (.int i :: .ref a :: r) (mk sh D) c s Q = wi (aB sh D a i) fun x => Wx P d mi (pc + len) L (.int x :: r) (mk sh D) c s Q := by
  unfold aB aN
  cases hs : sh[a]? with
  | none => exact Wx.bad (by simp [av_stp, hop, av_one, mk_get, hs])
  | some x =>
    obtain ⟨t, n⟩ | ⟨ci, fs⟩ := x
    · obtain _ | _ | _ | t := t
      · exact (Wx.bad (by simp [av_stp, hop, av_one, mk_get, hs, cell_a0])).trans (by simp [wi])
      · simp only [Nat.zero_add, if_true]
        by_cases hi : av_in i n = true
        · simp only [hi, if_true, wi]
          exact Wx.step (by simp [av_stp, hop, av_one, mk_get, hs, cell_a1, hi])
        · simp only [hi, if_false, wi]
          exact Wx.bad (by simp [av_stp, hop, av_one, mk_get, hs, cell_a1, hi])
      · exact (Wx.bad (by simp [av_stp, hop, av_one, mk_get, hs, cell_a2])).trans (by simp [wi])
      · exact (Wx.bad (by simp [av_stp, hop, av_one, mk_get, hs, cell_a3])).trans (by simp [wi])
    · exact Wx.bad (by simp [av_stp, hop, av_one, mk_get, hs, cell_obj])
theorem ev_jal {a : Nat} {i : Int32} (hop : av_op P mi pc = some (.laload, len, ix)) : Wx P d mi pc L (.int i :: .ref a :: r) (mk sh D) c s Q = wi (aJ sh D a i) fun x => Wx P d mi (pc + len) L (.long x :: r) (mk sh D) c s Q := by
  unfold aJ aN
  cases hs : sh[a]? with
  | none => exact Wx.bad (by simp [av_stp, hop, av_one, mk_get, hs])
  | some x =>
    obtain ⟨t, n⟩ | ⟨ci, fs⟩ := x
    · obtain _ | _ | _ | t := t
      · exact (Wx.bad (by simp [av_stp, hop, av_one, mk_get, hs, cell_a0])).trans (by simp [wi])
      · exact (Wx.bad (by simp [av_stp, hop, av_one, mk_get, hs, cell_a1])).trans (by simp [wi])
      · simp only [Nat.zero_add, if_true]
        by_cases hi : av_in i n = true
        · simp only [hi, if_true, wi]
          exact Wx.step (by simp [av_stp, hop, av_one, mk_get, hs, cell_a2, hi])
        · simp only [hi, if_false, wi]
          exact Wx.bad (by simp [av_stp, hop, av_one, mk_get, hs, cell_a2, hi])
      · exact (Wx.bad (by simp [av_stp, hop, av_one, mk_get, hs, cell_a3])).trans (by simp [wi])
    · exact Wx.bad (by simp [av_stp, hop, av_one, mk_get, hs, cell_obj])
end EVS
