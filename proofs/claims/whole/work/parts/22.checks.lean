/-! ===== THE TABLES ARE RIGHT (by wip/whole/gen3.py) ===== -/
abbrev tP0 : av_P := tP 0 (fun _ => 0)
def tmo (i : Nat) : Nat := tMo.getD i 99
def tmk (i : Nat) : Nat := tMk.getD i 9
def tcO (a b : Nat) : Bool := (List.range b).all fun j => (tOp.getD (a + j) []).all fun q => av_chk tP0 tK tCl tI 398 tmk (tmo (a + j)) (a + j) (av_ini tP0 (a + j)) (av_me tP0 (a + j)).2.1 q.1 q.2.1 q.2.2.1 q.2.2.2
theorem tcO_0 : tcO 0 15 = true := by decide +kernel
theorem tcO_15 : tcO 15 19 = true := by decide +kernel
theorem tcO_34 : tcO 34 24 = true := by decide +kernel
theorem tcO_58 : tcO 58 23 = true := by decide +kernel
theorem tcO_81 : tcO 81 22 = true := by decide +kernel
theorem tcO_103 : tcO 103 32 = true := by decide +kernel
theorem tcO_135 : tcO 135 24 = true := by decide +kernel
theorem tcO_159 : tcO 159 35 = true := by decide +kernel
theorem tcO_194 : tcO 194 37 = true := by decide +kernel
theorem tcO_231 : tcO 231 13 = true := by decide +kernel
theorem tcO_244 : tcO 244 14 = true := by decide +kernel
theorem tcO_258 : tcO 258 25 = true := by decide +kernel
theorem tcO_283 : tcO 283 22 = true := by decide +kernel
theorem tcO_305 : tcO 305 16 = true := by decide +kernel
theorem tcO_321 : tcO 321 20 = true := by decide +kernel
theorem tcO_341 : tcO 341 31 = true := by decide +kernel
theorem tcO_372 : tcO 372 26 = true := by decide +kernel
theorem tc_mem {α : Type} : ∀ (l : List (Nat × α)) (k : Nat) (v : α), l.lookup k = some v → (k, v) ∈ l
  | [], _, _, h => by simp at h
  | (k0, v0) :: l, k, v, h => by
    by_cases hk : k = k0
    · subst hk
      simp at h
      subst h
      exact List.mem_cons_self
    · have h1 : (k == k0) = false := by simpa using hk
      rw [List.lookup_cons, h1] at h
      exact List.mem_cons_of_mem _ (tc_mem l k v h)
theorem tc_at {a b mi : Nat} (h : tcO a b = true) (h1 : a ≤ mi) (h2 : mi < a + b) (nx : Nat) (xs : Nat → Int32) : ∀ pc ins len ix, av_op (tP nx xs) mi pc = some (ins, len, ix) → av_chk (tP nx xs) tK tCl tI 398 tmk (tmo mi) mi (av_ini (tP nx xs) mi) (av_me (tP nx xs) mi).2.1 pc ins len ix = true := by
  intro pc ins len ix hop
  have h3 := List.all_eq_true.mp h (mi - a) (List.mem_range.mpr (by omega))
  rw [show a + (mi - a) = mi by omega] at h3
  exact List.all_eq_true.mp h3 (pc, ins, len, ix) (tc_mem _ _ _ hop)
theorem tc_ops (nx : Nat) (xs : Nat → Int32) : ∀ mi, mi < 398 → ∀ pc ins len ix, av_op (tP nx xs) mi pc = some (ins, len, ix) → av_chk (tP nx xs) tK tCl tI 398 tmk (tmo mi) mi (av_ini (tP nx xs) mi) (av_me (tP nx xs) mi).2.1 pc ins len ix = true := by
  intro mi hmi
  by_cases h0 : mi < 15
  · exact tc_at tcO_0 (by omega) (by omega) nx xs
  by_cases h15 : mi < 34
  · exact tc_at tcO_15 (by omega) (by omega) nx xs
  by_cases h34 : mi < 58
  · exact tc_at tcO_34 (by omega) (by omega) nx xs
  by_cases h58 : mi < 81
  · exact tc_at tcO_58 (by omega) (by omega) nx xs
  by_cases h81 : mi < 103
  · exact tc_at tcO_81 (by omega) (by omega) nx xs
  by_cases h103 : mi < 135
  · exact tc_at tcO_103 (by omega) (by omega) nx xs
  by_cases h135 : mi < 159
  · exact tc_at tcO_135 (by omega) (by omega) nx xs
  by_cases h159 : mi < 194
  · exact tc_at tcO_159 (by omega) (by omega) nx xs
  by_cases h194 : mi < 231
  · exact tc_at tcO_194 (by omega) (by omega) nx xs
  by_cases h231 : mi < 244
  · exact tc_at tcO_231 (by omega) (by omega) nx xs
  by_cases h244 : mi < 258
  · exact tc_at tcO_244 (by omega) (by omega) nx xs
  by_cases h258 : mi < 283
  · exact tc_at tcO_258 (by omega) (by omega) nx xs
  by_cases h283 : mi < 305
  · exact tc_at tcO_283 (by omega) (by omega) nx xs
  by_cases h305 : mi < 321
  · exact tc_at tcO_305 (by omega) (by omega) nx xs
  by_cases h321 : mi < 341
  · exact tc_at tcO_321 (by omega) (by omega) nx xs
  by_cases h341 : mi < 372
  · exact tc_at tcO_341 (by omega) (by omega) nx xs
  by_cases h372 : mi < 398
  · exact tc_at tcO_372 (by omega) (by omega) nx xs
  omega
