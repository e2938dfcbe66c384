/-! ===== THE RUN OF THE ABSTRACT MACHINE IS ONE OF THE REAL ONE ===== -/
set_option maxHeartbeats 4000000 in
theorem av_one_cls {P : av_P} {mi pc len : Nat} {ins : Instr} {L : av_L} {st : List Value} {h : av_H} {c s : Nat} {x : av_S} (hs : av_one P mi pc ins len L st h c s = some x) :
    (∃ pc' L' st' h' c' s', x = .inl (pc', L', st', h', c', s') ∧ c ≤ c' ∧ s ≤ s') ∨ (∃ v, x = .inr (.inl v) ∧ (ins = .ireturn ∨ ins = .areturn ∨ ins = .return_)) ∨
    (∃ mj as r, x = .inr (.inr (.inl (mj, as, r))) ∧ (ins = .invokestatic mj ∨ ins = .invokevirtual mj ∨ ins = .invokespecial mj) ∧ as.length = (av_me P mj).2.2.2.2.1 ∧ ∀ v ∈ as, v.category = 1 ∧ v ∈ st) ∨ ∃ k, x = .inr (.inr (.inr (av_th P k))) ∧ ins = .instanceof k ∧ (st.map fun v => v.category).sum ≤ 8 := by
  have key : ∀ a : Nat, a ≤ st.length → (((st.take a).all fun v => v.category == 1) = true) → (st.take a).reverse.length = a ∧ ∀ v ∈ (st.take a).reverse, v.category = 1 ∧ v ∈ st := fun a h1 h2 => ⟨by simp [h1], fun v hv => by
    have h3 := List.mem_reverse.mp hv
    have h4 := List.all_eq_true.mp h2 v h3
    exact ⟨by simpa using h4, List.mem_of_mem_take h3⟩⟩
  cases ins with
  | invokestatic mj =>
    simp only [av_one] at hs
    split at hs
    · next hz => cases hs; exact Or.inr (Or.inr (Or.inl ⟨_, _, _, rfl, Or.inl rfl, key _ hz.1 hz.2.2⟩))
    · cases hs
  | invokevirtual mj =>
    simp only [av_one] at hs
    split at hs
    · next hz => cases hs; exact Or.inr (Or.inr (Or.inl ⟨_, _, _, rfl, Or.inr (Or.inl rfl), key _ hz.1 hz.2.2.1⟩))
    · cases hs
  | invokespecial mj =>
    simp only [av_one] at hs
    split at hs
    · next hz => cases hs; exact Or.inr (Or.inr (Or.inl ⟨_, _, _, rfl, Or.inr (Or.inr rfl), key _ hz.1 hz.2.2.1⟩))
    · cases hs
  | instanceof k =>
    simp only [av_one] at hs
    split at hs
    · next hz => cases hs; exact Or.inr (Or.inr (Or.inr ⟨_, rfl, rfl, hz⟩))
    · cases hs
  | ireturn =>
    simp only [av_one] at hs
    (repeat' split at hs) <;> first | (cases hs; exact Or.inr (Or.inl ⟨_, rfl, Or.inl rfl⟩)) | cases hs
  | areturn =>
    simp only [av_one] at hs
    (repeat' split at hs) <;> first | (cases hs; exact Or.inr (Or.inl ⟨_, rfl, Or.inr (Or.inl rfl)⟩)) | cases hs
  | return_ =>
    simp only [av_one] at hs
    (repeat' split at hs) <;> first | (cases hs; exact Or.inr (Or.inl ⟨_, rfl, Or.inr (Or.inr rfl)⟩)) | cases hs
  | invokedynamic k =>
    match k, hs with
    | 0, hs => simp only [av_one, av_copy] at hs; (repeat' split at hs) <;> first | (cases hs; exact Or.inl ⟨_, _, _, _, _, _, rfl, Nat.le_refl _, Nat.le_refl _⟩) | cases hs
    | 1, hs => simp only [av_one] at hs; (repeat' split at hs) <;> first | (cases hs; exact Or.inl ⟨_, _, _, _, _, _, rfl, Nat.le_refl _, Nat.le_refl _⟩) | cases hs
    | 2, hs => simp only [av_one] at hs; (repeat' split at hs) <;> first | (cases hs; exact Or.inl ⟨_, _, _, _, _, _, rfl, Nat.le_refl _, Nat.le_refl _⟩) | cases hs
    | 3, hs => simp only [av_one] at hs; (repeat' split at hs) <;> first | (cases hs; exact Or.inl ⟨_, _, _, _, _, _, rfl, Nat.le_succ _, Nat.le_add_right _ _⟩) | cases hs
    | 4, hs => simp only [av_one] at hs; (repeat' split at hs) <;> first | (cases hs; exact Or.inl ⟨_, _, _, _, _, _, rfl, Nat.le_refl _, Nat.le_refl _⟩) | cases hs
    | 5, hs => simp only [av_one] at hs; (repeat' split at hs) <;> first | (cases hs; exact Or.inl ⟨_, _, _, _, _, _, rfl, Nat.le_refl _, Nat.le_refl _⟩) | cases hs
    | k + 6, hs => simp only [av_one] at hs; cases hs
  | _ =>
    simp only [av_one, av_bin, av_iaload, av_alen, av_copy, av_goto] at hs
    (repeat' split at hs) <;> first | (cases hs; exact Or.inl ⟨_, _, _, _, _, _, rfl, Nat.le_refl _, Nat.le_refl _⟩) | (cases hs; exact Or.inl ⟨_, _, _, _, _, _, rfl, Nat.le_succ _, Nat.le_add_right _ _⟩) | cases hs
theorem av_rn_mono {P : av_P} : ∀ (n d mi pc : Nat) (L : av_L) (st : List Value) (h : av_H) (c s : Nat) (x : av_R), av_rn P n d mi pc L st h c s = some x → c ≤ x.2.2.1 ∧ s ≤ x.2.2.2
  | 0, _, _, _, _, _, _, _, _, _, hr => by simp [av_rn] at hr
  | n + 1, d, mi, pc, L, st, h, c, s, x, hr => by
    simp only [av_rn] at hr
    split at hr
    · cases hr
    · next pc' L' st' h' c' s' hs =>
      have ih := av_rn_mono n d mi pc' L' st' h' c' s' x hr
      unfold av_stp at hs
      split at hs
      · rcases av_one_cls hs with ⟨_, _, _, _, _, _, e, h1, h2⟩ | ⟨_, e, _⟩ | ⟨_, _, _, e, _⟩ | ⟨_, e, _⟩
        · cases e; exact ⟨Nat.le_trans h1 ih.1, Nat.le_trans h2 ih.2⟩
        · cases e
        · cases e
        · cases e
      · cases hs
    · cases hr; exact ⟨Nat.le_refl _, Nat.le_refl _⟩
    · cases hr; exact ⟨Nat.le_succ _, Nat.le_add_right _ _⟩
    · split at hr
      · cases hr
      · split at hr
        · cases hr
        · next v h' c' s' hc =>
          have ih := av_rn_mono n _ mi _ _ _ _ _ _ x hr
          exact ⟨Nat.le_trans (Nat.le_add_right _ _) ih.1, Nat.le_trans (Nat.le_add_right _ _) ih.2⟩
        · next E h' c' s' hc =>
          split at hr
          · cases hr
          · split at hr
            · cases hr; exact ⟨Nat.le_add_right _ _, Nat.le_add_right _ _⟩
            · split at hr
              · cases hr
              · split at hr
                · cases hr
                · split at hr
                  · split at hr
                    · have ih := av_rn_mono n _ mi _ _ _ _ _ _ x hr
                      exact ⟨Nat.le_trans (Nat.le_add_right _ _) ih.1, Nat.le_trans (Nat.le_add_right _ _) ih.2⟩
                    · cases hr
                  · cases hr
