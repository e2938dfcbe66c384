/-! ===== the constructors: a closed run speaks of every script ===== -/
def okO (i : Instr) : Bool := match i with
  | .new _ => true
  | .newarray _ => true
  | .anewarray _ => true
  | .putfield _ => true
  | .getfield _ => true
  | .aload _ => true
  | .astore _ => true
  | .iload _ => true
  | .istore _ => true
  | .sipush _ => true
  | .dup => true
  | .monitorenter => true
  | .iinc _ _ => true
  | .goto _ => true
  | .if_icmp _ _ => true
  | .aastore => true
  | .iastore => true
  | .return_ => true
  | .invokespecial _ => true
  | _ => false
def tP0 : av_P := tP 0 fun _ => 0
def av_rk : Nat → Nat → Nat → Nat → av_L → List Value → av_H → Nat → Nat → Option av_R
  | 0, _, _, _, _, _, _, _, _ => none
  | n + 1, d, mi, pc, L, st, h, c, s => match av_op tP0 mi pc with
    | none => none
    | some (ins, len, _) => match okO ins && decide (h.length < 1000) with
      | false => none
      | true => match av_one tP0 mi pc ins len L st h c s with
        | none => none
        | some (.inl (pc', L', st', h', c', s')) => av_rk n d mi pc' L' st' h' c' s'
        | some (.inr (.inl v)) => some (.inl v, h, c, s)
        | some (.inr (.inr (.inr _))) => none
        | some (.inr (.inr (.inl (mj, as, r)))) => match d with
          | 0 => none
          | d' + 1 => match av_rk n d' mj 0 (av_ent tP0 mj as) [] h 0 0 with
            | some (.inl v, h', c', s') => av_rk n (d' + 1) mi (pc + 3) L (v.toList ++ r) h' (c + c') (s + s')
            | _ => none
theorem op_P {nx : Nat} {xs : Nat → Int32} {mi pc : Nat} : av_op (tP nx xs) mi pc = av_op tP0 mi pc := rfl
theorem me_P {nx : Nat} {xs : Nat → Int32} {mi : Nat} : av_me (tP nx xs) mi = av_me tP0 mi := rfl
theorem ent_P {nx : Nat} {xs : Nat → Int32} {mj : Nat} {as : List Value} : av_ent (tP nx xs) mj as = av_ent tP0 mj as := rfl
theorem one_P {nx : Nat} {xs : Nat → Int32} {mi pc len c s : Nat} {ins : Instr} {L : av_L} {st : List Value} {h : av_H} (ho : okO ins = true) : av_one (tP nx xs) mi pc ins len L st h c s = av_one tP0 mi pc ins len L st h c s := by
  cases ins <;> first | rfl | (exact absurd ho (by decide)) | (cases ho)
theorem stp_P {nx : Nat} {xs : Nat → Int32} {mi pc len ix c s : Nat} {ins : Instr} {L : av_L} {st : List Value} {h : av_H} (ho : okO ins = true) (hop : av_op tP0 mi pc = some (ins, len, ix)) : av_stp (tP nx xs) mi pc L st h c s = av_one tP0 mi pc ins len L st h c s := by
  unfold av_stp
  rw [op_P, hop]
  exact one_P ho
theorem rk_rn {nx : Nat} {xs : Nat → Int32} : ∀ (n d mi pc : Nat) (L : av_L) (st : List Value) (h : av_H) (c s : Nat) (R : av_R), av_rk n d mi pc L st h c s = some R → av_rn (tP nx xs) n d mi pc L st h c s = some R := by
  intro n
  induction n with
  | zero => intro d mi pc L st h c s R e; cases e
  | succ n ih =>
    intro d mi pc L st h c s R e
    unfold av_rk at e
    unfold av_rn
    cases hop : av_op tP0 mi pc with
    | none => rw [hop] at e; cases e
    | some x =>
      obtain ⟨ins, len, ix⟩ := x
      rw [hop] at e
      simp only at e
      cases ho' : okO ins && decide (h.length < 1000) with
      | false => rw [ho'] at e; cases e
      | true =>
        have ho : okO ins = true := (Bool.and_eq_true_iff.mp ho').1
        rw [ho'] at e
        simp only at e
        rw [stp_P ho hop]
        cases hs : av_one tP0 mi pc ins len L st h c s with
        | none => rw [hs] at e; cases e
        | some y =>
          rw [hs] at e
          cases y with
          | inl F =>
            obtain ⟨pc', L', st', h', c', s'⟩ := F
            exact ih _ _ _ _ _ _ _ _ _ e
          | inr z =>
            cases z with
            | inl v => exact e
            | inr w =>
              cases w with
              | inr E => cases e
              | inl u =>
                obtain ⟨mj, as, r⟩ := u
                cases d with
                | zero => cases e
                | succ d' =>
                  simp only at e ⊢
                  rw [ent_P]
                  cases hr : av_rk n d' mj 0 (av_ent tP0 mj as) [] h 0 0 with
                  | none => rw [hr] at e; cases e
                  | some R' =>
                    obtain ⟨o, h', c', s'⟩ := R'
                    rw [ih _ _ _ _ _ _ _ _ _ hr]
                    rw [hr] at e
                    cases o with
                    | inl v => exact ih _ _ _ _ _ _ _ _ _ e
                    | inr E => cases e
def av_tp : Nat → av_F → Option av_F
  | 0, _ => none
  | k + 1, (pc, L, st, h, c, s) => if pc = 23 then some (pc, L, st, h, c, s) else match av_op tP0 395 pc with
    | none => none
    | some (ins, len, _) => match okO ins && decide (h.length < 1000) with
      | false => none
      | true => match av_one tP0 395 pc ins len L st h c s with
        | some (.inl F') => av_tp k F'
        | some (.inr (.inr (.inl (mj, as, r)))) => (match av_rk 3000 99 mj 0 (av_ent tP0 mj as) [] h 0 0 with
          | some (.inl v, h', c', s') => av_tp k (pc + 3, L, v.toList ++ r, h', c + c', s + s')
          | _ => none)
        | _ => none
theorem tp_W {nx : Nat} {xs : Nat → Int32} {Q : av_Q} : ∀ (k pc : Nat) (L : av_L) (st : List Value) (h : av_H) (c s pc' : Nat) (L' : av_L) (st' : List Value) (h' : av_H) (c' s' : Nat), av_tp k (pc, L, st, h, c, s) = some (pc', L', st', h', c', s') → Wx (tP nx xs) 100 395 pc' L' st' h' c' s' Q → Wx (tP nx xs) 100 395 pc L st h c s Q := by
  intro k
  induction k with
  | zero => intro pc L st h c s pc' L' st' h' c' s' e; cases e
  | succ k ih =>
    intro pc L st h c s pc' L' st' h' c' s' e w
    unfold av_tp at e
    by_cases hp : pc = 23
    · rw [if_pos hp] at e
      cases e
      exact w
    · rw [if_neg hp] at e
      cases hop : av_op tP0 395 pc with
      | none => rw [hop] at e; cases e
      | some x =>
        obtain ⟨ins, len, ix⟩ := x
        rw [hop] at e
        simp only at e
        cases ho' : okO ins && decide (h.length < 1000) with
        | false => rw [ho'] at e; cases e
        | true =>
          have ho : okO ins = true := (Bool.and_eq_true_iff.mp ho').1
          rw [ho'] at e
          simp only at e
          have hst := stp_P (nx := nx) (xs := xs) (L := L) (st := st) (h := h) (c := c) (s := s) ho hop
          cases hs : av_one tP0 395 pc ins len L st h c s with
          | none => rw [hs] at e; cases e
          | some y =>
            rw [hs] at e hst
            cases y with
            | inl F =>
              obtain ⟨pc1, L1, st1, h1, c1, s1⟩ := F
              rw [Wx.step hst]
              exact ih _ _ _ _ _ _ _ _ _ _ _ _ e w
            | inr z =>
              cases z with
              | inl v => cases e
              | inr z =>
                cases z with
                | inr E => cases e
                | inl u =>
                  obtain ⟨mj, as, r⟩ := u
                  simp only at e
                  cases hr : av_rk 3000 99 mj 0 (av_ent tP0 mj as) [] h 0 0 with
                  | none => rw [hr] at e; cases e
                  | some R =>
                    obtain ⟨o, h1, c1, s1⟩ := R
                    rw [hr] at e
                    cases o with
                    | inr E => cases e
                    | inl v =>
                      rw [Wx.call (d := 99) hst]
                      refine ⟨3000, _, _, _, _, (ent_P (nx := nx) (xs := xs)) ▸ rk_rn 3000 99 mj 0 (av_ent tP0 mj as) [] h 0 0 _ hr, ?_⟩
                      exact ih _ _ _ _ _ _ _ _ _ _ _ _ e w
def ini : Option av_F := av_tp 30 (0, av_ent tP0 395 [.retAddr 0], [], [], 0, 0)
theorem ini_some : ini.isSome = true := by decide +kernel
