/-- the abstract run of the law answers true, on every script -/
theorem law_runs (L : Nat) (xs : Nat → Int32) (hL : L ≤ 3072) : ∃ (n : Nat) (h' : av_H) (c' s' : Nat), av_rn (tP L xs) n 100 395 0 (av_ent (tP L xs) 395 [.retAddr 0]) [] [] 0 0 = some (.inl (some (.int 1)), h', c', s') ∧ c' ≤ 601024 ∧ s' ≤ 7293034 := by
  obtain ⟨h, c, s, hi, hsh, hc, hs, hd⟩ := chkI_is chkI_ok
  unfold ini at hi
  have hj : Jh h := tp_J _ _ _ _ _ _ _ _ _ _ _ _ _ (fun a e he => by rw [List.getElem?_nil] at he; cases he) hi
  have hm : mk SH0 (rdH h) = h := by
    rw [← hsh]
    exact hj.mk
  have W : Wx (tP L xs) 100 395 0 (av_ent tP0 395 [.retAddr 0]) [] [] 0 0 (fun o _ c' s' => o = .inl (some (.int 1)) ∧ c' ≤ 601024 ∧ s' ≤ 7293034) := by
    refine tp_W _ _ _ _ _ _ _ _ _ _ _ _ _ hi ?_
    have w := j_loop (nx := L) (xs := xs) (d := 60) (Q := fun o _ c' s' => o = .inl (some (.int 1)) ∧ c' ≤ 601024 ∧ s' ≤ 7293034) hL (L + 7) 0 (G0 (rdH h)) SH0 (rdH h) c s none none (by omega) (by omega) (G0_v hd) (G0_c hd) (G0_r hd) (by have := SH0_len; omega) (by omega) (by omega) (fun hp c' s' a b => ⟨rfl, a, b⟩)
    rw [hm] at w
    exact w
  obtain ⟨n, o, h', c', s', e, rfl, a, b⟩ := W
  refine ⟨n, h', c', s', ?_, a, b⟩
  rw [ent_P]
  exact e
