/-! ===== the constructors: what stands behind them ===== -/
def cz : List (Nat × Nat) := [(4, 0), (3, 1), (3, 10), (18, 0), (3, 13), (3, 14), (0, 4), (54, 0), (54, 1), (1, 1), (282, 0), (282, 1), (282, 2), (282, 3), (282, 4), (0, 9), (287, 0), (287, 1), (287, 2), (287, 3), (287, 4), (287, 6), (286, 6), (286, 7), (286, 9)]
def chkD (D : sD) : Bool := (cz.all fun p => decide (D p.1 p.2 = Int32.ofNat 0)) && (((List.range 12).all fun i => decide (sRf (D 55 i) = some (56 + 17 * i))) && decide (D 287 5 = D 3 15 ∧ D 287 7 = D 3 16 ∧ D 286 14 = D 0 1))
section HC1
variable {D : sD}
theorem chkD_z (h : chkD D = true) {a i : Nat} (m : (a, i) ∈ cz) : D a i = Int32.ofNat 0 := of_decide_eq_true (List.all_eq_true.mp (Bool.and_eq_true_iff.mp h).1 _ m)
theorem chkD_r (h : chkD D = true) {i : Nat} (hi : i < 12) : sRf (D 55 i) = some (56 + 17 * i) := of_decide_eq_true (List.all_eq_true.mp (Bool.and_eq_true_iff.mp (Bool.and_eq_true_iff.mp h).2).1 _ (List.mem_range.mpr hi))
theorem chkD_e (h : chkD D = true) : D 287 5 = D 3 15 ∧ D 287 7 = D 3 16 ∧ D 286 14 = D 0 1 := of_decide_eq_true (Bool.and_eq_true_iff.mp (Bool.and_eq_true_iff.mp h).2).2
def wtF (ci k f : Nat) : Bool := decide ((qk (ci * 64 + k) = 0 → f = 0) ∧ (qk (ci * 64 + k) = 1 → f = 1) ∧ (qk (ci * 64 + k) = 2 → 3 ≤ f))
def wtB (x : sC) : Bool := match x with
  | .inl _ => true
  | .inr (ci, fs) => (List.range fs.length).all fun k => wtF ci k (fs.getD k 0)
theorem SH0_wt : SH0.all wtB = true := by decide +kernel
theorem SH0_wf {a ci : Nat} {fs : List Nat} (ha : SH0[a]? = some (Sum.inr (ci, fs))) {k f : Nat} (hk : fs[k]? = some f) : (qk (ci * 64 + k) = 0 → f = 0) ∧ (qk (ci * 64 + k) = 1 → f = 1) ∧ (qk (ci * 64 + k) = 2 → 3 ≤ f) := by
  have h1 : ((List.range fs.length).all fun k => wtF ci k (fs.getD k 0)) = true := List.all_eq_true.mp SH0_wt _ (List.mem_of_getElem? ha)
  have hl : k < fs.length := by
    rcases Nat.lt_or_ge k fs.length with h | h
    · exact h
    · rw [List.getElem?_eq_none h] at hk; cases hk
  have h2 := List.all_eq_true.mp h1 k (List.mem_range.mpr hl)
  rw [List.getD_eq_getElem?_getD, hk] at h2
  exact of_decide_eq_true h2
theorem WT0 : WT SH0 := by
  unfold WT WT1
  refine ⟨fun a ci fs ha k f hk => ?_, fun a fs ha k f hk hq => ?_⟩
  · obtain ⟨x, y, z⟩ := SH0_wf ha hk
    exact ⟨x, y, fun q _ => z q⟩
  · refine (SH0_wf ha hk).2.2 ?_
    rw [Nat.zero_mul, Nat.zero_add]
    exact hq
theorem SP0 : SP SH0 := by
  unfold SP
  exact ⟨[], (List.append_nil _).symm⟩
abbrev G0 (D : sD) : GT := ((fun k i => D (3 + k) i, 0, 0, 0, 0, none), none, [], fun _ => 0, 0, D 0 1)
theorem Iv0 {V : sD} (h1 : V 1 0 = Int32.ofNat 0) (h2 : V 0 1 = Int32.ofNat 0) (h3 : V 0 10 = Int32.ofNat 0) (h4 : V 15 0 = Int32.ofNat 0) (h5 : V 0 13 = Int32.ofNat 0) : Iv V 0 0 0 0 := by
  unfold Iv
  exact ⟨⟨h1, by decide⟩, ⟨h2, by decide⟩, ⟨h3, by decide⟩, ⟨h4, by decide⟩, fun t ht => absurd ht (Nat.not_lt_zero t), fun t ht => absurd ht (Nat.not_lt_zero t), fun t ht => absurd ht (Nat.not_lt_zero t), fun t ht => absurd ht (Nat.not_lt_zero t), fun t ht => absurd ht (Nat.not_lt_zero t), fun t ht => absurd ht (Nat.not_lt_zero t), fun t ht => absurd ht (Nat.not_lt_zero t), fun t ht => absurd ht (Nat.not_lt_zero t), ⟨0, by decide, h5⟩⟩
theorem G0_v (h : chkD D = true) : GV (G0 D) := by
  have i0 : IvS (G0 D).1 := Iv0 (V := fun k i => D (3 + k) i) (chkD_z h (a := 4) (i := 0) (by decide)) (chkD_z h (a := 3) (i := 1) (by decide)) (chkD_z h (a := 3) (i := 10) (by decide)) (chkD_z h (a := 18) (i := 0) (by decide)) (chkD_z h (a := 3) (i := 13) (by decide))
  unfold GV
  refine ⟨i0, fun Si e => ?_, fun Sj hm => ?_, Nat.zero_le _, Nat.zero_le _, fun i hi => absurd hi (Nat.not_lt_zero i)⟩
  · have e : (none : Option GS) = some Si := e
    cases e
  · have hm : Sj ∈ ([] : List GS) := hm
    cases hm
theorem G0_c (h : chkD D = true) : GC SH0 D (G0 D) := by
  have l0 : Lc SH0 D (D 3 14) none := by
    show (D 3 14).toNatClampNeg = 0
    rw [chkD_z h (a := 3) (i := 14) (by decide)]
    decide
  have w0 : frW D (G0 D).1 := by
    unfold frW
    exact ⟨fun t ht => chkD_z h ((by decide : ∀ t, t < 5 → (282, t) ∈ cz) t ht), Or.inl (chkD_z h (a := 0) (i := 9) (by decide))⟩
  unfold GC
  refine ⟨⟨SP0, WT0⟩, ⟨fun k i _ => rfl, l0⟩, ⟨chkD_z h (a := 0) (i := 4) (by decide), fun Si e => ?_⟩, ⟨chkD_z h (a := 54) (i := 0) (by decide), fun i hi => chkD_r h hi, 0, by decide, chkD_z h (a := 54) (i := 1) (by decide), fun j Sj e => ?_⟩, ⟨chkD_z h (a := 1) (i := 1) (by decide), fun i hi => absurd hi (Nat.not_lt_zero i)⟩, rfl, w0⟩
  · have e : (none : Option GS) = some Si := e
    cases e
  · have e : ([] : List GS)[j]? = some Sj := e
    rw [List.getElem?_nil] at e
    cases e
theorem G0_r (h : chkD D = true) : GR D (G0 D) := by
  obtain ⟨e5, e7, e14⟩ := chkD_e h
  have r0 : Rw (D 287) (fun k i => D (3 + k) i) 0 0 0 0 := by
    unfold Rw
    exact ⟨⟨chkD_z h (by decide), chkD_z h (by decide), chkD_z h (by decide), chkD_z h (by decide)⟩, ⟨(chkD_z h (a := 287) (i := 3) (by decide)).trans (chkD_z h (a := 3) (i := 13) (by decide)).symm, e5, e7⟩, fun t ht => absurd ht (Nat.not_lt_zero t), fun t ht => absurd ht (Nat.not_lt_zero t), fun t ht => absurd ht (Nat.not_lt_zero t), fun k _ hk => absurd hk (Nat.not_lt_zero k)⟩
  unfold GR
  refine ⟨⟨r0, chkD_z h (a := 287) (i := 4) (by decide)⟩, ⟨chkD_z h (a := 286) (i := 6) (by decide), fun Si e => ?_⟩, ⟨chkD_z h (a := 286) (i := 7) (by decide), fun j Sj e => ?_⟩, ⟨chkD_z h (a := 286) (i := 9) (by decide), fun i hi => absurd hi (Nat.not_lt_zero i)⟩, e14⟩
  · have e : (none : Option GS) = some Si := e
    cases e
  · have e : ([] : List GS)[j]? = some Sj := e
    rw [List.getElem?_nil] at e
    cases e
end HC1
def chkI (o : Option av_F) : Bool := match o with
  | some (pc, [some (.retAddr a0), some (.ref a1), some (.ref a2), some (.ref a3), some (.int x), none, none], [], h, c, s) => decide (pc = 23 ∧ a0 = 0 ∧ a1 = 0 ∧ a2 = 286 ∧ a3 = 300 ∧ x = Int32.ofNat 0 ∧ c ≤ 500000 ∧ s ≤ 6000000) && (decide (h.map shp = SH0) && chkD (rdH h))
  | _ => false
theorem chkI_is {o : Option av_F} (H : chkI o = true) : ∃ h c s, o = some (23, [some (.retAddr 0), some (.ref 0), some (.ref 286), some (.ref 300), some (.int (Int32.ofNat 0)), none, none], [], h, c, s) ∧ h.map shp = SH0 ∧ c ≤ 500000 ∧ s ≤ 6000000 ∧ chkD (rdH h) = true := by
  unfold chkI at H
  split at H
  · next pc a0 a1 a2 a3 x h c s =>
    obtain ⟨h1, h2⟩ := Bool.and_eq_true_iff.mp H
    obtain ⟨h3, h4⟩ := Bool.and_eq_true_iff.mp h2
    obtain ⟨rfl, rfl, rfl, rfl, rfl, rfl, hc, hs⟩ := of_decide_eq_true h1
    exact ⟨h, c, s, rfl, of_decide_eq_true h3, hc, hs, h4⟩
  · cases H
theorem chkI_ok : chkI ini = true := by decide +kernel
