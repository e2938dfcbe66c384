theorem tcLw_app {a b : List (Nat × av_O)} (h1 : tcLw a = true) (h2 : tcLw b = true) : tcLw (a ++ b) = true := by
  simp only [tcLw, List.all_append, Bool.and_eq_true] at *
  exact ⟨h1, h2⟩
theorem tcLw_9 : tcLw tO_395_9 = true := by
  rw [← List.take_append_drop 60 tO_395_9]
  exact tcLw_app tcLw_9_a tcLw_9_b
theorem tcLw_10 : tcLw tO_395_10 = true := by
  rw [← List.take_append_drop 60 tO_395_10]
  exact tcLw_app tcLw_10_a tcLw_10_b
theorem tcLw_11 : tcLw tO_395_11 = true := by
  rw [← List.take_append_drop 60 tO_395_11]
  exact tcLw_app tcLw_11_a tcLw_11_b
theorem tcLw_12 : tcLw tO_395_12 = true := by
  rw [← List.take_append_drop 60 tO_395_12]
  exact tcLw_app tcLw_12_a tcLw_12_b
theorem tcLw_13 : tcLw tO_395_13 = true := by
  rw [← List.take_append_drop 60 tO_395_13]
  exact tcLw_app tcLw_13_a tcLw_13_b
theorem tcLw_14 : tcLw tO_395_14 = true := by
  rw [← List.take_append_drop 60 tO_395_14]
  exact tcLw_app tcLw_14_a tcLw_14_b
theorem tcLw_15 : tcLw tO_395_15 = true := by
  rw [← List.take_append_drop 60 tO_395_15]
  exact tcLw_app tcLw_15_a tcLw_15_b
theorem tcO_395 : tcO 395 1 = true := by
  have h : tcLw tO_395 = true := tcLw_app tcLw_0 ( tcLw_app tcLw_1 ( tcLw_app tcLw_2 ( tcLw_app tcLw_3 ( tcLw_app tcLw_4 ( tcLw_app tcLw_5 ( tcLw_app tcLw_6 ( tcLw_app tcLw_7 ( tcLw_app tcLw_8 ( tcLw_app tcLw_9 ( tcLw_app tcLw_10 ( tcLw_app tcLw_11 ( tcLw_app tcLw_12 ( tcLw_app tcLw_13 ( tcLw_app tcLw_14 (tcLw_15)))))))))))))))
  refine List.all_eq_true.mpr fun j hj => ?_
  have hj0 : j = 0 := by have := List.mem_range.mp hj; omega
  subst hj0
  exact h
theorem tc_mem {α : Type} : ∀ (l : List (Nat × α)) (k : Nat) (v : α), l.lookup k = some v → (k, v) ∈ l
  | [], _, _, h => by simp at h
  | (k0, v0) :: l, k, v, h => by
    by_cases hk : k = k0
    · subst hk
      simp at h
      subst h
      exact List.mem_cons_self
    · have h1 : (k == k0) = false := by simpa using hk
      rw [List.lookup_cons, h1] at h
      exact List.mem_cons_of_mem _ (tc_mem l k v h)
theorem tc_at {a b mi : Nat} (h : tcO a b = true) (h1 : a ≤ mi) (h2 : mi < a + b) (nx : Nat) (xs : Nat → Int32) : ∀ pc ins len ix, av_op (tP nx xs) mi pc = some (ins, len, ix) → av_chk (tP nx xs) tK tCl tI 396 tmk (tmo mi) mi (av_ini (tP nx xs) mi) (av_me (tP nx xs) mi).2.1 pc ins len ix = true := by
  intro pc ins len ix hop
  have h3 := List.all_eq_true.mp h (mi - a) (List.mem_range.mpr (by omega))
  rw [show a + (mi - a) = mi by omega] at h3
  exact List.all_eq_true.mp h3 (pc, ins, len, ix) (tc_mem _ _ _ hop)
theorem tc_ops (nx : Nat) (xs : Nat → Int32) : ∀ mi, mi < 396 → ∀ pc ins len ix, av_op (tP nx xs) mi pc = some (ins, len, ix) → av_chk (tP nx xs) tK tCl tI 396 tmk (tmo mi) mi (av_ini (tP nx xs) mi) (av_me (tP nx xs) mi).2.1 pc ins len ix = true := by
  intro mi hmi
  by_cases h0 : mi < 12
  · exact tc_at tcO_0 (by omega) (by omega) nx xs
  by_cases h12 : mi < 31
  · exact tc_at tcO_12 (by omega) (by omega) nx xs
  by_cases h31 : mi < 51
  · exact tc_at tcO_31 (by omega) (by omega) nx xs
  by_cases h51 : mi < 73
  · exact tc_at tcO_51 (by omega) (by omega) nx xs
  by_cases h73 : mi < 88
  · exact tc_at tcO_73 (by omega) (by omega) nx xs
  by_cases h88 : mi < 110
  · exact tc_at tcO_88 (by omega) (by omega) nx xs
  by_cases h110 : mi < 136
  · exact tc_at tcO_110 (by omega) (by omega) nx xs
  by_cases h136 : mi < 159
  · exact tc_at tcO_136 (by omega) (by omega) nx xs
  by_cases h159 : mi < 191
  · exact tc_at tcO_159 (by omega) (by omega) nx xs
  by_cases h191 : mi < 224
  · exact tc_at tcO_191 (by omega) (by omega) nx xs
  by_cases h224 : mi < 236
  · exact tc_at tcO_224 (by omega) (by omega) nx xs
  by_cases h236 : mi < 249
  · exact tc_at tcO_236 (by omega) (by omega) nx xs
  by_cases h249 : mi < 263
  · exact tc_at tcO_249 (by omega) (by omega) nx xs
  by_cases h263 : mi < 286
  · exact tc_at tcO_263 (by omega) (by omega) nx xs
  by_cases h286 : mi < 305
  · exact tc_at tcO_286 (by omega) (by omega) nx xs
  by_cases h305 : mi < 319
  · exact tc_at tcO_305 (by omega) (by omega) nx xs
  by_cases h319 : mi < 336
  · exact tc_at tcO_319 (by omega) (by omega) nx xs
  by_cases h336 : mi < 356
  · exact tc_at tcO_336 (by omega) (by omega) nx xs
  by_cases h356 : mi < 391
  · exact tc_at tcO_356 (by omega) (by omega) nx xs
  by_cases h391 : mi < 395
  · exact tc_at tcO_391 (by omega) (by omega) nx xs
  by_cases h395 : mi < 396
  · exact tc_at tcO_395 (by omega) (by omega) nx xs
  omega
