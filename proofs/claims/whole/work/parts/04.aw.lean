/-! ===== LAYER 2: reasoning over the abstract machine ===== -/
theorem av_rn_more {P : av_P} : ∀ (n d mi pc : Nat) (L : av_L) (st : List Value) (h : av_H) (c s : Nat) (x : av_R), av_rn P n d mi pc L st h c s = some x → ∀ m, n ≤ m → av_rn P m d mi pc L st h c s = some x
  | 0, _, _, _, _, _, _, _, _, _, hr, _, _ => by simp [av_rn] at hr
  | n + 1, d, mi, pc, L, st, h, c, s, x, hr, 0, hm => by omega
  | n + 1, d, mi, pc, L, st, h, c, s, x, hr, m + 1, hm => by
    have hnm : n ≤ m := by omega
    simp only [av_rn] at hr ⊢
    split at hr
    · cases hr
    · exact av_rn_more n _ _ _ _ _ _ _ _ _ hr m hnm
    · exact hr
    · exact hr
    · split at hr
      · cases hr
      · split at hr
        · cases hr
        · next hc =>
          rw [av_rn_more n _ _ _ _ _ _ _ _ _ hc m hnm]
          exact av_rn_more n _ _ _ _ _ _ _ _ _ hr m hnm
        · next hc =>
          rw [av_rn_more n _ _ _ _ _ _ _ _ _ hc m hnm]
          simp only
          split at hr
          · cases hr
          · next h1 =>
            rw [if_neg h1]
            split at hr
            · next h2 => rw [if_pos h2]; exact hr
            · next h2 =>
              rw [if_neg h2]
              split at hr
              · cases hr
              · next h3 =>
                rw [if_neg h3]
                split at hr
                · cases hr
                · next t ht =>
                  split at hr
                  · next i len ix hop =>
                    split at hr
                    · next hi => simp only [hi, if_true]; exact av_rn_more n _ _ _ _ _ _ _ _ _ hr m hnm
                    · cases hr
                  · cases hr
/-- the run from here ends, and its end is one of Q -/
def AW (P : av_P) (d mi pc : Nat) (L : av_L) (st : List Value) (h : av_H) (c s : Nat) (Q : Option Value ⊕ String → av_H → Nat → Nat → Prop) : Prop := ∃ n o h' c' s', av_rn P n d mi pc L st h c s = some (o, h', c', s') ∧ Q o h' c' s'
section AWS
variable {P : av_P} {d mi pc : Nat} {L : av_L} {st : List Value} {h : av_H} {c s : Nat} {Q : Option Value ⊕ String → av_H → Nat → Nat → Prop}
theorem AW.step {pc' : Nat} {L' : av_L} {st' : List Value} {h' : av_H} {c' s' : Nat} (hs : av_stp P mi pc L st h c s = some (.inl (pc', L', st', h', c', s'))) (k : AW P d mi pc' L' st' h' c' s' Q) : AW P d mi pc L st h c s Q := by
  obtain ⟨n, o, h1, c1, s1, hr, hq⟩ := k
  exact ⟨n + 1, o, h1, c1, s1, by simp only [av_rn, hs]; exact hr, hq⟩
theorem AW.ret {v : Option Value} (hs : av_stp P mi pc L st h c s = some (.inr (.inl v))) (hq : Q (.inl v) h c s) : AW P d mi pc L st h c s Q := ⟨1, .inl v, h, c, s, by simp only [av_rn, hs], hq⟩
theorem AW.thr {E : String} (hs : av_stp P mi pc L st h c s = some (.inr (.inr (.inr E)))) (hq : Q (.inr E) h (c + 1) (s + 6)) : AW P d mi pc L st h c s Q := ⟨1, .inr E, h, c + 1, s + 6, by simp only [av_rn, hs], hq⟩
/-- a call, whatever comes of it -/
theorem AW.call {mj : Nat} {as r : List Value} (hs : av_stp P mi pc L st h c s = some (.inr (.inr (.inl (mj, as, r)))))
    (k : AW P d mj 0 (av_ent P mj as) [] h 0 0 (fun o h' c' s' => match o with
      | .inl v => AW P (d + 1) mi (pc + 3) L (v.toList ++ r) h' (c + c') (s + s') Q
      | .inr E => (av_me P mj).2.2.2.2.2.2.2.2 = true ∧ (((av_me P mi).2.2.2.2.2.1 = [] ∧ Q (.inr E) h' (c + c') (s + s')) ∨ ((av_me P mi).2.2.2.2.2.1 ≠ [] ∧ E ∈ av_es ∧ ∃ t i len ix, av_hnd pc E (av_me P mi).2.2.2.2.2.1 (av_me P mi).2.2.2.2.2.2.1 = some t ∧ av_op P mi t = some (.astore i, len, ix) ∧ i < L.length ∧ AW P (d + 1) mi (t + len) (L.set i none) [] h' (c + c') (s + s') Q)))) :
    AW P (d + 1) mi pc L st h c s Q := by
  obtain ⟨n, o, h1, c1, s1, hr, hq⟩ := k
  rcases o with v | E
  · obtain ⟨n2, o2, h2, c2, s2, hr2, hq2⟩ := hq
    refine ⟨max n n2 + 1, o2, h2, c2, s2, ?_, hq2⟩
    simp only [av_rn, hs, av_rn_more n _ _ _ _ _ _ _ _ _ hr _ (Nat.le_max_left n n2)]
    exact av_rn_more n2 _ _ _ _ _ _ _ _ _ hr2 _ (Nat.le_max_right n n2)
  · obtain ⟨hmt, hq⟩ := hq
    rcases hq with ⟨hh, hq⟩ | ⟨hh, hE, t, i, len, ix, ht, hop, hi, n2, o2, h2, c2, s2, hr2, hq2⟩
    · refine ⟨n + 1, .inr E, h1, c + c1, s + s1, ?_, hq⟩
      simp only [av_rn, hs, hr, hmt, hh]
      simp
    · refine ⟨max n n2 + 1, o2, h2, c2, s2, ?_, hq2⟩
      simp only [av_rn, hs, av_rn_more n _ _ _ _ _ _ _ _ _ hr _ (Nat.le_max_left n n2), hmt, ht, hop, hi]
      simp only [hh, hE, not_true_eq_false, if_false, if_true, Bool.true_eq_false]
      exact av_rn_more n2 _ _ _ _ _ _ _ _ _ hr2 _ (Nat.le_max_right n n2)
/-- some plain instructions -/
def av_go (P : av_P) (mi : Nat) : Nat → av_F → Option av_F
  | 0, F => some F
  | k + 1, (pc, L, st, h, c, s) => match av_stp P mi pc L st h c s with
    | some (.inl F) => av_go P mi k F
    | _ => none
theorem AW.go (k : Nat) {pc' : Nat} {L' : av_L} {st' : List Value} {h' : av_H} {c' s' : Nat} (hg : av_go P mi k (pc, L, st, h, c, s) = some (pc', L', st', h', c', s')) (kk : AW P d mi pc' L' st' h' c' s' Q) : AW P d mi pc L st h c s Q := by
  induction k generalizing pc L st h c s with
  | zero => cases hg; exact kk
  | succ k ih =>
    simp only [av_go] at hg
    split at hg
    · next F hs =>
      obtain ⟨pc1, L1, st1, h1, c1, s1⟩ := F
      exact AW.step hs (ih hg)
    · cases hg
theorem AW.ite {b : Prop} [Decidable b] {p1 p2 : Nat} {L1 L2 : av_L} {t1 t2 : List Value} {h1 h2 : av_H} {c1 c2 s1 s2 : Nat} (hs : av_stp P mi pc L st h c s = if b then some (.inl (p1, L1, t1, h1, c1, s1)) else some (.inl (p2, L2, t2, h2, c2, s2)))
    (k1 : b → AW P d mi p1 L1 t1 h1 c1 s1 Q) (k2 : ¬ b → AW P d mi p2 L2 t2 h2 c2 s2 Q) : AW P d mi pc L st h c s Q := by
  by_cases hb : b
  · exact AW.step (hs.trans (if_pos hb)) (k1 hb)
  · exact AW.step (hs.trans (if_neg hb)) (k2 hb)
theorem AW.mono {Q' : Option Value ⊕ String → av_H → Nat → Nat → Prop} (k : AW P d mi pc L st h c s Q) (hq : ∀ o h c s, Q o h c s → Q' o h c s) : AW P d mi pc L st h c s Q' := by
  obtain ⟨n, o, h1, c1, s1, hr, h9⟩ := k
  exact ⟨n, o, h1, c1, s1, hr, hq _ _ _ _ h9⟩
end AWS
