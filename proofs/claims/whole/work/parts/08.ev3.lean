/-! ===== LAYER 2: each instruction over the store (3): makings ===== -/
def cl2 (D : sD) (a n : Nat) : sD := fun b i => if b = n then D a i else D b i
def gS (sh : List sC) (a q : Nat) : Option (List Nat) := match sh[a]? with
  | some (.inr (ci, fs)) => if ci = q / 64 ∧ q % 64 < fs.length then some fs else none
  | _ => none
theorem mk_app' {sh : List sC} {D D' : sD} {x : sC} (hD : ∀ b, b ≠ sh.length → D' b = D b) : mk sh D ++ [cell D' sh.length x] = mk (sh ++ [x]) D' := by
  apply List.ext_getElem?
  intro i
  rcases Nat.lt_trichotomy i sh.length with h | h | h
  · rw [List.getElem?_append_left (by rw [mk_len]; exact h), mk_get, mk_get, List.getElem?_append_left h]
    cases hs : sh[i]? with
    | none => simp only [Option.map_none]
    | some y =>
      have e : D' i = D i := hD i (by omega)
      simp only [Option.map_some, Option.some.injEq]
      unfold cell
      rw [e]
  · subst h
    rw [List.getElem?_append_right (by rw [mk_len]; exact Nat.le_refl _), mk_get, List.getElem?_append_right (Nat.le_refl _)]
    simp [mk_len]
  · rw [List.getElem?_eq_none (by simp [mk_len]; omega), List.getElem?_eq_none (by simp [mk_len]; omega)]
section EVU
variable {P : av_P} {d mi pc len ix : Nat} {L : av_L} {r : List Value} {sh : List sC} {D : sD} {c s : Nat} {Q : av_Q}
theorem ev_getR1 {q a : Nat} (hop : av_op P mi pc = some (.getfield q, len, ix)) (hk : qk q = 2) (h0 : ¬ q / 64 = 0) (hw : WT1 sh) : Wx P d mi pc L (.ref a :: r) (mk sh D) c s Q = wi (fR sh a q) fun x => Wx P d mi (pc + len) L (.ref x :: r) (mk sh D) c s Q := ev_getR hop hk (by rw [if_neg h0]; exact hw)
theorem ev_getR0 {q a : Nat} (hop : av_op P mi pc = some (.getfield q, len, ix)) (hk : qk q = 2) (h0 : q / 64 = 0) (hw : WT sh) : Wx P d mi pc L (.ref a :: r) (mk sh D) c s Q = wi (fR sh a q) fun x => Wx P d mi (pc + len) L (.ref x :: r) (mk sh D) c s Q := ev_getR hop hk (by rw [if_pos h0]; exact hw)
theorem ev_newI {x : Int32} (hop : av_op P mi pc = some (.newarray .int, len, ix)) : Wx P d mi pc L (.int x :: r) (mk sh D) c s Q = ((¬ x < 0 ∧ x.toNatClampNeg ≤ 60000) ∧ Wx P d mi (pc + len) L (.ref sh.length :: r) (mk (sh ++ [.inl (0, x.toNatClampNeg)]) (clr D sh.length)) (c + 1) (s + x.toNatClampNeg) Q) := by
  by_cases h : ¬ x < 0 ∧ x.toNatClampNeg ≤ 60000
  · simp only [h, true_and, and_self, not_false_eq_true]
    rw [← mk_app]
    have hc : cell (clr D sh.length) sh.length (.inl (0, x.toNatClampNeg)) = .inl (0, x.toNatClampNeg, .inl (fun _ => 0)) := by
      have hf : clr D sh.length sh.length = fun _ => 0 := by funext i; simp [clr]
      rw [cell_a0, hf]
    rw [hc]
    exact Wx.step (by simp only [av_stp, hop, av_one]; rw [if_pos h]; simp only [av_newa, mk_len])
  · refine (Wx.bad ?_).trans (by simp only [h, false_and])
    simp only [av_stp, hop, av_one]
    rw [if_neg h]
theorem ev_clone {a : Nat} (hop : av_op P mi pc = some (.invokedynamic 3, len, ix)) (hcat : (r.map fun v => v.category).sum ≤ 8) : Wx P d mi pc L (.ref a :: r) (mk sh D) c s Q = wi (aN sh 0 a) fun n => n ≤ 60000 ∧ Wx P d mi (pc + len) L (.ref sh.length :: r) (mk (sh ++ [.inl (0, n)]) (cl2 D a sh.length)) (c + 1) (s + n) Q := by
  unfold aN
  cases hs : sh[a]? with
  | none => exact Wx.bad (by simp [av_stp, hop, av_one, mk_get, hs])
  | some x =>
    obtain ⟨t, n⟩ | ⟨ci, fs⟩ := x
    · obtain _ | _ | _ | t := t
      · simp only [if_true, wi]
        by_cases hn : n ≤ 60000
        · simp only [hn, true_and]
          rw [← mk_app' (D := D) (by intro b hb; funext i; simp [cl2, hb])]
          have hc : cell (cl2 D a sh.length) sh.length (.inl (0, n)) = .inl (0, n, .inl (D a)) := by
            have hf : cl2 D a sh.length sh.length = D a := by funext i; simp [cl2]
            rw [cell_a0, hf]
          rw [hc]
          exact Wx.step (by simp [av_stp, hop, av_one, mk_get, hs, cell_a0, hn, hcat, mk_len])
        · refine (Wx.bad ?_).trans (by simp [hn])
          simp [av_stp, hop, av_one, mk_get, hs, cell_a0]
          omega
      · exact (Wx.bad (by simp [av_stp, hop, av_one, mk_get, hs, cell_a1])).trans (by simp [wi])
      · exact (Wx.bad (by simp [av_stp, hop, av_one, mk_get, hs, cell_a2])).trans (by simp [wi])
      · exact (Wx.bad (by simp [av_stp, hop, av_one, mk_get, hs, cell_a3])).trans (by simp [wi])
    · exact Wx.bad (by simp [av_stp, hop, av_one, mk_get, hs, cell_obj])
theorem ev_cast {a k : Nat} (hop : av_op P mi pc = some (.checkcast k, len, ix)) : Wx P d mi pc L (.ref a :: r) (mk sh D) c s Q = wi (aN sh 0 a) fun _ => Wx P d mi (pc + len) L (.ref a :: r) (mk sh D) c s Q := by
  unfold aN
  cases hs : sh[a]? with
  | none => exact Wx.bad (by simp [av_stp, hop, av_one, mk_get, hs])
  | some x =>
    obtain ⟨t, n⟩ | ⟨ci, fs⟩ := x
    · obtain _ | _ | _ | t := t
      · simp only [if_true, wi]
        exact Wx.step (by simp [av_stp, hop, av_one, mk_get, hs, cell_a0])
      · exact (Wx.bad (by simp [av_stp, hop, av_one, mk_get, hs, cell_a1])).trans (by simp [wi])
      · exact (Wx.bad (by simp [av_stp, hop, av_one, mk_get, hs, cell_a2])).trans (by simp [wi])
      · exact (Wx.bad (by simp [av_stp, hop, av_one, mk_get, hs, cell_a3])).trans (by simp [wi])
    · exact Wx.bad (by simp [av_stp, hop, av_one, mk_get, hs, cell_obj])
theorem ev_newO {st : List Value} (hop : av_op P mi pc = some (.new 0, len, ix)) (hty : av_ty P 0 = [.int, .array .int, .array .int, .array .int, .array .int, .array .int, .array .int]) : Wx P d mi pc L st (mk sh D) c s Q = Wx P d mi (pc + len) L (.ref sh.length :: st) (mk (sh ++ [.inr (0, [0, 2, 2, 2, 2, 2, 2])]) (clr D sh.length)) (c + 1) (s + 7) Q := by
  rw [← mk_app]
  have hc : cell (clr D sh.length) sh.length (.inr (0, [0, 2, 2, 2, 2, 2, 2])) = .inr (0, (av_ty P 0).map av_def) := by
    rw [cell_obj, hty]
    simp [clr, fdv, av_def, defaultValue]
  rw [hc]
  exact Wx.step (by simp only [av_stp, hop, av_one, mk_len]; rw [hty]; rfl)
theorem ev_putR {q a b : Nat} (hop : av_op P mi pc = some (.putfield q, len, ix)) (hty : (av_ty P (q / 64)).getD (q % 64) .float = .array .int) : Wx P d mi pc L (.ref b :: .ref a :: r) (mk sh D) c s Q = wi (gS sh a q) fun fs => Wx P d mi (pc + len) L r (mk (sh.set a (.inr (q / 64, fs.set (q % 64) (b + 3)))) D) c s Q := by
  unfold gS
  cases hs : sh[a]? with
  | none => exact Wx.bad (by simp [av_stp, hop, av_one, mk_get, hs])
  | some x =>
    obtain ⟨t', n⟩ | ⟨ci, fs⟩ := x
    · obtain ⟨e, he⟩ := cell_arr D a t' n
      exact Wx.bad (by simp [av_stp, hop, av_one, mk_get, hs, he])
    · by_cases hc : ci = q / 64
      · by_cases hl : q % 64 < fs.length
        · simp only [hc, hl, and_self, if_true, wi]
          rw [← mk_setS]
          have hcell : cell D a (.inr (q / 64, fs.set (q % 64) (b + 3))) = .inr (q / 64, (fs.mapIdx fun k f => fdv (D a k) f).set (q % 64) (.ref b)) := by
            rw [cell_obj]
            congr 2
            apply List.ext_getElem?
            intro i
            rw [List.getElem?_set, List.getElem?_mapIdx, List.getElem?_mapIdx, List.length_mapIdx, List.getElem?_set]
            by_cases hi : q % 64 = i
            · subst hi
              simp only [hl, if_true, Option.map_some, fdv]
            · simp only [hi, if_false]
          rw [hcell]
          exact Wx.step (by simp at hty; simp [av_stp, hop, av_one, mk_get, hs, cell_obj, hc, hl, hty, av_fit])
        · simp only [hc, hl, and_false, if_false, wi]
          exact Wx.bad (by simp [av_stp, hop, av_one, mk_get, hs, cell_obj, hc]; intro h; omega)
      · simp only [hc, false_and, if_false, wi]
        exact Wx.bad (by simp [av_stp, hop, av_one, mk_get, hs, cell_obj, hc])
end EVU
