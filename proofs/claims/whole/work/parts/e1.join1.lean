/-! ===== the two side by side ===== -/
theorem GR.o {D : sD} {G : GT} {v : Int32} (h : GR D G) : GR (u2 D 300 0 v) G := by
  have e : ∀ b, b ≠ 300 → u2 D 300 0 v b = D b := fun b hb => funext fun i => by rw [u2_at, if_neg (by omega)]
  unfold GR at *
  rw [e 286 (by decide), e 287 (by decide), e 288 (by decide), e 291 (by decide), e 292 (by decide)]
  exact h
theorem GC.o {sh : List sC} {D : sD} {G : GT} {v : Int32} (h : GC sh D G) : GC sh (u2 D 300 0 v) G := h.fm' fun b hb => funext fun i => by rw [u2_at, if_neg (by omega)]
theorem aJ_300 {sh : List sC} {D : sD} (H : SP sh) : aJ sh D 300 (Int32.ofNat 0) = some (D 300 0).toInt64 := by
  unfold aJ
  rw [oN_300 H]
  rfl
theorem lg_self {x : Int64} : lg_cmp x x = Int32.ofNat 0 := (lg_cmp_eq x x).mpr rfl
theorem e2_1 {a b : String} : e2 a b 1 = a := rfl
theorem e2_2 {a b : String} : e2 a b 2 = b := rfl
theorem jI {i nx k : Nat} (hi : i + 6 ≤ nx) (hn : nx ≤ 3072) (hk : k < 6) : av_in (Int32.ofNat i + Int32.ofNat k) nx = true := by
  rw [oN_add]
  exact oN_in (by omega) (by omega)
def GoOn (nx : Nat) (xs : Nat → Int32) (d i : Nat) (Q : av_Q) (sh : List sC) (c s : Nat) : Prop := ∀ (G' : GT) (sh' : List sC) (D' : sD) (c' s' : Nat) (l5 l6 : Option Value), GV G' → GC sh' D' G' → GR D' G' → sh'.length ≤ sh.length + 8 → c' ≤ c + 8 → s' ≤ s + 1000 → Wx (tP nx xs) d 395 3162 [some (.retAddr 0), some (.ref 0), some (.ref 286), some (.ref 300), (some (.int (Int32.ofNat i))), l5, l6] [] (mk sh' D') c' s' Q
theorem n_station {G : GT} {V0 : sD} {k : Nat} (h : o_station G V0 = .inr k) : k = 1 ∨ k = 2 := by
  unfold o_station at h
  (repeat' split at h) <;> (cases h <;> simp)
theorem n_thing {G : GT} {x y : Int32} {k : Nat} (h : o_thing G x y = .inr k) : k = 1 ∨ k = 2 := by
  unfold o_thing at h
  (repeat' split at h) <;> (cases h <;> simp)
theorem n_goer {G : GT} {x y : Int32} {k : Nat} (h : o_goer G x y = .inr k) : k = 1 ∨ k = 2 := by
  unfold o_goer at h
  (repeat' split at h) <;> (cases h <;> simp)
theorem n_train {G : GT} {x y : Int32} {k : Nat} (h : o_train G x y = .inr k) : k = 1 ∨ k = 2 := by
  unfold o_train at h
  (repeat' split at h) <;> (cases h <;> simp)
theorem n_cost {G : GT} {x y : Int32} {k : Nat} (h : o_cost G x y = .inr k) : k = 1 := by
  unfold o_cost o_gt at h
  (repeat' split at h) <;> (cases h <;> simp)
theorem n_fear {G : GT} {x y : Int32} {k : Nat} (h : o_fear G x y = .inr k) : k = 1 := by
  unfold o_fear o_gt at h
  (repeat' split at h) <;> (cases h <;> simp)
theorem n_may {G : GT} {x y : Int32} {k : Nat} (h : o_may G x y = .inr k) : k = 1 := by
  unfold o_may o_gt at h
  (repeat' split at h) <;> (cases h <;> simp)
theorem n_days {G : GT} {x : Int32} {k : Nat} (h : o_days G x = .inr k) : k = 1 := by
  unfold o_days at h
  (repeat' split at h) <;> (cases h <;> simp)
theorem n_sell {G : GT} {x y : Int32} {k : Nat} (h : o_sell G x y = .inr k) : k = 1 ∨ k = 2 := by
  unfold o_sell at h
  (repeat' split at h) <;> (cases h <;> simp)
theorem n_pay {G : GT} {x y : Int32} {k : Nat} (h : o_pay G x y = .inr k) : k = 1 ∨ k = 2 := by
  unfold o_pay at h
  (repeat' split at h) <;> (cases h <;> simp)
theorem n_nerve {G : GT} {x y : Int32} {k : Nat} (h : o_nerve G x y = .inr k) : k = 1 ∨ k = 2 := by
  unfold o_nerve at h
  (repeat' split at h) <;> (cases h <;> simp)
theorem n_wish {G : GT} {x y : Int32} {k : Nat} (h : o_wish G x y = .inr k) : k = 1 ∨ k = 2 := by
  unfold o_wish at h
  (repeat' split at h) <;> (cases h <;> simp)
theorem n_deed {G : GT} {x y : Int32} {k : Nat} (h : o_deed G x y = .inr k) : k = 1 ∨ k = 2 := by
  unfold o_deed at h
  (repeat' split at h) <;> (cases h <;> simp)
theorem n_quarrel {G : GT} {x y : Int32} {b : Bool} {k : Nat} (h : o_quarrel G x y b = .inr k) : k = 1 ∨ k = 2 := by
  unfold o_quarrel at h
  (repeat' split at h) <;> (cases h <;> simp)
theorem n_stops {G : GT} {x y : Int32} {k : Nat} (h : o_stops G x y = .inr k) : k = 1 ∨ k = 2 := by
  unfold o_stops at h
  (repeat' split at h) <;> (cases h <;> simp)
theorem n_recall {G : GT} {x : Int32} {k : Nat} (h : o_recall G x = .inr k) : k = 1 ∨ k = 2 := by
  unfold o_recall at h
  (repeat' split at h) <;> (cases h <;> simp)
theorem n_otherwise {G : GT} {x : Int32} {k : Nat} (h : o_otherwise G x = .inr k) : k = 1 := by
  unfold o_otherwise at h
  (repeat' split at h) <;> (cases h <;> simp)
theorem n_send {G : GT} {k : Nat} (h : o_send G = .inr k) : k = 1 := by
  unfold o_send at h
  (repeat' split at h) <;> (cases h <;> simp)
theorem n_who {G : GT} {b : Bool} {k : Nat} (h : o_who G b = .inr k) : k = 1 := by
  unfold o_who at h
  (repeat' split at h) <;> (cases h <;> simp)
theorem n_look {G : GT} {k : Nat} (h : o_look G = .inr k) : k = 1 := by
  unfold o_look at h
  (repeat' split at h) <;> (cases h <;> simp)
theorem n_hangs {G : GT} {x : Int32} {k : Nat} (h : o_hangs G x = .inr k) : k = 1 := by
  unfold o_hangs at h
  (repeat' split at h) <;> (cases h <;> simp)
theorem n_kills {G : GT} {x y : Int32} {k : Nat} (h : o_kills G x y = .inr k) : k = 1 ∨ k = 2 := by
  unfold o_kills at h
  (repeat' split at h) <;> (cases h <;> simp)
theorem n_colours {G : GT} {x : Int32} {k : Nat} (h : o_colours G x = .inr k) : k = 1 := by
  unfold o_colours at h
  (repeat' split at h) <;> (cases h <;> simp)
theorem n_price {G : GT} {x : Int32} {b : Bool} {k : Nat} (h : o_price G x b = .inr k) : k = 1 := by
  unfold o_price at h
  (repeat' split at h) <;> (cases h <;> simp)
theorem n_crowd {G : GT} {x : Int32} {k : Nat} (h : o_crowd G x = .inr k) : k = 1 := by
  unfold o_crowd at h
  (repeat' split at h) <;> (cases h <;> simp)
theorem n_pick {x : Int32} {b : Bool} {k : Nat} (h : o_pick x b = .inr k) : k = 1 := by
  unfold o_pick at h
  (repeat' split at h) <;> (cases h <;> simp)
theorem n_pairs {G : GT} {x : Int32} {k : Nat} (h : o_pairs G x = .inr k) : k = 1 := by
  unfold o_pairs at h
  (repeat' split at h) <;> (cases h <;> simp)
theorem n_rests {G : GT} {x : Int32} {k : Nat} (h : o_rests G x = .inr k) : k = 1 := by
  unfold o_rests at h
  (repeat' split at h) <;> (cases h <;> simp)
theorem n_odds {G : GT} {x y : Int32} {k : Nat} (h : o_odds G x y = .inr k) : k = 1 ∨ k = 2 := by
  unfold o_odds at h
  (repeat' split at h) <;> (cases h <;> simp)
theorem n_ahead {G : GT} {V1 : sD} {x y : Int32} {k : Nat} (h : o_ahead G V1 x y = .inr k) : k = 1 ∨ k = 2 := by
  unfold o_ahead at h
  (repeat' split at h) <;> (cases h <;> simp)
theorem n_trial {G : GT} {V1 : sD} {x : Int32} {b : Bool} {k : Nat} (h : o_trial G V1 x b = .inr k) : k = 1 := by
  unfold o_trial at h
  (repeat' split at h) <;> (cases h <;> simp)
theorem n_span {G : GT} {F1 : Nat → sD} {x : Int32} {b : Bool} {k : Nat} (h : o_span G F1 x b = .inr k) : k = 1 := by
  unfold o_span at h
  (repeat' split at h) <;> (cases h <;> simp)
theorem n_led {G : GT} {x : Int32} {b : Bool} {k : Nat} (h : o_led G x (bo b) = .inr k) : k = 1 := by
  unfold o_led at h
  (repeat' split at h) <;> (cases h <;> simp)
theorem n_log {G : GT} {x y : Int32} {k : Nat} (h : o_log G x y = .inr k) : k = 1 := by
  unfold o_log at h
  (repeat' split at h) <;> (cases h <;> simp)
section HK
variable {nx : Nat} {xs : Nat → Int32} {d c s : Nat} {sh : List sC} {D : sD} {Q : av_Q}
theorem hK360_1 {hp : av_H} {c1 s1 : Nat} : kH (tP nx xs) d 360 3 [some (.ref 0), some (.ref 300), none] c s Q xIA hp c1 s1 = Wx (tP nx xs) d 360 12 [some (.ref 0), some (.ref 300), none] [] hp (c + c1) (s + s1) Q := by
  have h1 : av_hnd 3 xIA (av_me (tP 0 fun _ => 0) 360).2.2.2.2.2.1 (av_me (tP 0 fun _ => 0) 360).2.2.2.2.2.2.1 = some 11 := by decide +kernel
  have h1 : av_hnd 3 xIA (av_me (tP nx xs) 360).2.2.2.2.2.1 (av_me (tP nx xs) 360).2.2.2.2.2.2.1 = some 11 := h1
  obtain ⟨ix, h2⟩ : ∃ ix, av_op (tP nx xs) 360 11 = some (.astore 2, 1, ix) := ⟨_, rfl⟩
  unfold kH
  rw [h1]
  simp only
  rw [h2]
  exact propext ⟨fun h => h.2.2, fun h => ⟨by decide +kernel, Nat.le_of_ble_eq_true rfl, h⟩⟩
theorem hK360_2 {hp : av_H} {c1 s1 : Nat} : kH (tP nx xs) d 360 3 [some (.ref 0), some (.ref 300), none] c s Q xUO hp c1 s1 = Wx (tP nx xs) d 360 15 [some (.ref 0), some (.ref 300), none] [] hp (c + c1) (s + s1) Q := by
  have h1 : av_hnd 3 xUO (av_me (tP 0 fun _ => 0) 360).2.2.2.2.2.1 (av_me (tP 0 fun _ => 0) 360).2.2.2.2.2.2.1 = some 14 := by decide +kernel
  have h1 : av_hnd 3 xUO (av_me (tP nx xs) 360).2.2.2.2.2.1 (av_me (tP nx xs) 360).2.2.2.2.2.2.1 = some 14 := h1
  obtain ⟨ix, h2⟩ : ∃ ix, av_op (tP nx xs) 360 14 = some (.astore 2, 1, ix) := ⟨_, rfl⟩
  unfold kH
  rw [h1]
  simp only
  rw [h2]
  exact propext ⟨fun h => h.2.2, fun h => ⟨by decide +kernel, Nat.le_of_ble_eq_true rfl, h⟩⟩
theorem hK361_1 {hp : av_H} {c1 s1 : Nat} : kH (tP nx xs) d 361 3 [some (.ref 0), some (.ref 300), none] c s Q xIA hp c1 s1 = Wx (tP nx xs) d 361 12 [some (.ref 0), some (.ref 300), none] [] hp (c + c1) (s + s1) Q := by
  have h1 : av_hnd 3 xIA (av_me (tP 0 fun _ => 0) 361).2.2.2.2.2.1 (av_me (tP 0 fun _ => 0) 361).2.2.2.2.2.2.1 = some 11 := by decide +kernel
  have h1 : av_hnd 3 xIA (av_me (tP nx xs) 361).2.2.2.2.2.1 (av_me (tP nx xs) 361).2.2.2.2.2.2.1 = some 11 := h1
  obtain ⟨ix, h2⟩ : ∃ ix, av_op (tP nx xs) 361 11 = some (.astore 2, 1, ix) := ⟨_, rfl⟩
  unfold kH
  rw [h1]
  simp only
  rw [h2]
  exact propext ⟨fun h => h.2.2, fun h => ⟨by decide +kernel, Nat.le_of_ble_eq_true rfl, h⟩⟩
theorem hK362_1 {x0 x1 : Int32} {hp : av_H} {c1 s1 : Nat} : kH (tP nx xs) d 362 5 [some (.ref 0), (some (.int (x0))), (some (.int (x1))), some (.ref 300), none] c s Q xIO hp c1 s1 = Wx (tP nx xs) d 362 15 [some (.ref 0), (some (.int (x0))), (some (.int (x1))), some (.ref 300), none] [] hp (c + c1) (s + s1) Q := by
  have h1 : av_hnd 5 xIO (av_me (tP 0 fun _ => 0) 362).2.2.2.2.2.1 (av_me (tP 0 fun _ => 0) 362).2.2.2.2.2.2.1 = some 13 := by decide +kernel
  have h1 : av_hnd 5 xIO (av_me (tP nx xs) 362).2.2.2.2.2.1 (av_me (tP nx xs) 362).2.2.2.2.2.2.1 = some 13 := h1
  obtain ⟨ix, h2⟩ : ∃ ix, av_op (tP nx xs) 362 13 = some (.astore 4, 2, ix) := ⟨_, rfl⟩
  unfold kH
  rw [h1]
  simp only
  rw [h2]
  exact propext ⟨fun h => h.2.2, fun h => ⟨by decide +kernel, Nat.le_of_ble_eq_true rfl, h⟩⟩
theorem hK362_2 {x0 x1 : Int32} {hp : av_H} {c1 s1 : Nat} : kH (tP nx xs) d 362 5 [some (.ref 0), (some (.int (x0))), (some (.int (x1))), some (.ref 300), none] c s Q xNS hp c1 s1 = Wx (tP nx xs) d 362 19 [some (.ref 0), (some (.int (x0))), (some (.int (x1))), some (.ref 300), none] [] hp (c + c1) (s + s1) Q := by
  have h1 : av_hnd 5 xNS (av_me (tP 0 fun _ => 0) 362).2.2.2.2.2.1 (av_me (tP 0 fun _ => 0) 362).2.2.2.2.2.2.1 = some 17 := by decide +kernel
  have h1 : av_hnd 5 xNS (av_me (tP nx xs) 362).2.2.2.2.2.1 (av_me (tP nx xs) 362).2.2.2.2.2.2.1 = some 17 := h1
  obtain ⟨ix, h2⟩ : ∃ ix, av_op (tP nx xs) 362 17 = some (.astore 4, 2, ix) := ⟨_, rfl⟩
  unfold kH
  rw [h1]
  simp only
  rw [h2]
  exact propext ⟨fun h => h.2.2, fun h => ⟨by decide +kernel, Nat.le_of_ble_eq_true rfl, h⟩⟩
theorem hK363_1 {x0 x1 : Int32} {hp : av_H} {c1 s1 : Nat} : kH (tP nx xs) d 363 5 [some (.ref 0), (some (.int (x0))), (some (.int (x1))), some (.ref 300), none] c s Q xIO hp c1 s1 = Wx (tP nx xs) d 363 15 [some (.ref 0), (some (.int (x0))), (some (.int (x1))), some (.ref 300), none] [] hp (c + c1) (s + s1) Q := by
  have h1 : av_hnd 5 xIO (av_me (tP 0 fun _ => 0) 363).2.2.2.2.2.1 (av_me (tP 0 fun _ => 0) 363).2.2.2.2.2.2.1 = some 13 := by decide +kernel
  have h1 : av_hnd 5 xIO (av_me (tP nx xs) 363).2.2.2.2.2.1 (av_me (tP nx xs) 363).2.2.2.2.2.2.1 = some 13 := h1
  obtain ⟨ix, h2⟩ : ∃ ix, av_op (tP nx xs) 363 13 = some (.astore 4, 2, ix) := ⟨_, rfl⟩
  unfold kH
  rw [h1]
  simp only
  rw [h2]
  exact propext ⟨fun h => h.2.2, fun h => ⟨by decide +kernel, Nat.le_of_ble_eq_true rfl, h⟩⟩
theorem hK363_2 {x0 x1 : Int32} {hp : av_H} {c1 s1 : Nat} : kH (tP nx xs) d 363 5 [some (.ref 0), (some (.int (x0))), (some (.int (x1))), some (.ref 300), none] c s Q xNS hp c1 s1 = Wx (tP nx xs) d 363 19 [some (.ref 0), (some (.int (x0))), (some (.int (x1))), some (.ref 300), none] [] hp (c + c1) (s + s1) Q := by
  have h1 : av_hnd 5 xNS (av_me (tP 0 fun _ => 0) 363).2.2.2.2.2.1 (av_me (tP 0 fun _ => 0) 363).2.2.2.2.2.2.1 = some 17 := by decide +kernel
  have h1 : av_hnd 5 xNS (av_me (tP nx xs) 363).2.2.2.2.2.1 (av_me (tP nx xs) 363).2.2.2.2.2.2.1 = some 17 := h1
  obtain ⟨ix, h2⟩ : ∃ ix, av_op (tP nx xs) 363 17 = some (.astore 4, 2, ix) := ⟨_, rfl⟩
  unfold kH
  rw [h1]
  simp only
  rw [h2]
  exact propext ⟨fun h => h.2.2, fun h => ⟨by decide +kernel, Nat.le_of_ble_eq_true rfl, h⟩⟩
theorem hK364_1 {x0 x1 : Int32} {hp : av_H} {c1 s1 : Nat} : kH (tP nx xs) d 364 5 [some (.ref 0), (some (.int (x0))), (some (.int (x1))), some (.ref 300), none] c s Q xIO hp c1 s1 = Wx (tP nx xs) d 364 15 [some (.ref 0), (some (.int (x0))), (some (.int (x1))), some (.ref 300), none] [] hp (c + c1) (s + s1) Q := by
  have h1 : av_hnd 5 xIO (av_me (tP 0 fun _ => 0) 364).2.2.2.2.2.1 (av_me (tP 0 fun _ => 0) 364).2.2.2.2.2.2.1 = some 13 := by decide +kernel
  have h1 : av_hnd 5 xIO (av_me (tP nx xs) 364).2.2.2.2.2.1 (av_me (tP nx xs) 364).2.2.2.2.2.2.1 = some 13 := h1
  obtain ⟨ix, h2⟩ : ∃ ix, av_op (tP nx xs) 364 13 = some (.astore 4, 2, ix) := ⟨_, rfl⟩
  unfold kH
  rw [h1]
  simp only
  rw [h2]
  exact propext ⟨fun h => h.2.2, fun h => ⟨by decide +kernel, Nat.le_of_ble_eq_true rfl, h⟩⟩
theorem hK364_2 {x0 x1 : Int32} {hp : av_H} {c1 s1 : Nat} : kH (tP nx xs) d 364 5 [some (.ref 0), (some (.int (x0))), (some (.int (x1))), some (.ref 300), none] c s Q xNS hp c1 s1 = Wx (tP nx xs) d 364 19 [some (.ref 0), (some (.int (x0))), (some (.int (x1))), some (.ref 300), none] [] hp (c + c1) (s + s1) Q := by
  have h1 : av_hnd 5 xNS (av_me (tP 0 fun _ => 0) 364).2.2.2.2.2.1 (av_me (tP 0 fun _ => 0) 364).2.2.2.2.2.2.1 = some 17 := by decide +kernel
  have h1 : av_hnd 5 xNS (av_me (tP nx xs) 364).2.2.2.2.2.1 (av_me (tP nx xs) 364).2.2.2.2.2.2.1 = some 17 := h1
  obtain ⟨ix, h2⟩ : ∃ ix, av_op (tP nx xs) 364 17 = some (.astore 4, 2, ix) := ⟨_, rfl⟩
  unfold kH
  rw [h1]
  simp only
  rw [h2]
  exact propext ⟨fun h => h.2.2, fun h => ⟨by decide +kernel, Nat.le_of_ble_eq_true rfl, h⟩⟩
theorem hK365_1 {x0 x1 : Int32} {hp : av_H} {c1 s1 : Nat} : kH (tP nx xs) d 365 5 [some (.ref 0), (some (.int (x0))), (some (.int (x1))), some (.ref 300), none] c s Q xIO hp c1 s1 = Wx (tP nx xs) d 365 15 [some (.ref 0), (some (.int (x0))), (some (.int (x1))), some (.ref 300), none] [] hp (c + c1) (s + s1) Q := by
  have h1 : av_hnd 5 xIO (av_me (tP 0 fun _ => 0) 365).2.2.2.2.2.1 (av_me (tP 0 fun _ => 0) 365).2.2.2.2.2.2.1 = some 13 := by decide +kernel
  have h1 : av_hnd 5 xIO (av_me (tP nx xs) 365).2.2.2.2.2.1 (av_me (tP nx xs) 365).2.2.2.2.2.2.1 = some 13 := h1
  obtain ⟨ix, h2⟩ : ∃ ix, av_op (tP nx xs) 365 13 = some (.astore 4, 2, ix) := ⟨_, rfl⟩
  unfold kH
  rw [h1]
  simp only
  rw [h2]
  exact propext ⟨fun h => h.2.2, fun h => ⟨by decide +kernel, Nat.le_of_ble_eq_true rfl, h⟩⟩
theorem hK366_1 {x0 x1 : Int32} {hp : av_H} {c1 s1 : Nat} : kH (tP nx xs) d 366 5 [some (.ref 0), (some (.int (x0))), (some (.int (x1))), some (.ref 300), none] c s Q xIO hp c1 s1 = Wx (tP nx xs) d 366 15 [some (.ref 0), (some (.int (x0))), (some (.int (x1))), some (.ref 300), none] [] hp (c + c1) (s + s1) Q := by
  have h1 : av_hnd 5 xIO (av_me (tP 0 fun _ => 0) 366).2.2.2.2.2.1 (av_me (tP 0 fun _ => 0) 366).2.2.2.2.2.2.1 = some 13 := by decide +kernel
  have h1 : av_hnd 5 xIO (av_me (tP nx xs) 366).2.2.2.2.2.1 (av_me (tP nx xs) 366).2.2.2.2.2.2.1 = some 13 := h1
  obtain ⟨ix, h2⟩ : ∃ ix, av_op (tP nx xs) 366 13 = some (.astore 4, 2, ix) := ⟨_, rfl⟩
  unfold kH
  rw [h1]
  simp only
  rw [h2]
  exact propext ⟨fun h => h.2.2, fun h => ⟨by decide +kernel, Nat.le_of_ble_eq_true rfl, h⟩⟩
theorem hK367_1 {x0 x1 : Int32} {hp : av_H} {c1 s1 : Nat} : kH (tP nx xs) d 367 5 [some (.ref 0), (some (.int (x0))), (some (.int (x1))), some (.ref 300), none] c s Q xIO hp c1 s1 = Wx (tP nx xs) d 367 22 [some (.ref 0), (some (.int (x0))), (some (.int (x1))), some (.ref 300), none] [] hp (c + c1) (s + s1) Q := by
  have h1 : av_hnd 5 xIO (av_me (tP 0 fun _ => 0) 367).2.2.2.2.2.1 (av_me (tP 0 fun _ => 0) 367).2.2.2.2.2.2.1 = some 20 := by decide +kernel
  have h1 : av_hnd 5 xIO (av_me (tP nx xs) 367).2.2.2.2.2.1 (av_me (tP nx xs) 367).2.2.2.2.2.2.1 = some 20 := h1
  obtain ⟨ix, h2⟩ : ∃ ix, av_op (tP nx xs) 367 20 = some (.astore 4, 2, ix) := ⟨_, rfl⟩
  unfold kH
  rw [h1]
  simp only
  rw [h2]
  exact propext ⟨fun h => h.2.2, fun h => ⟨by decide +kernel, Nat.le_of_ble_eq_true rfl, h⟩⟩
theorem hK368_1 {x0 : Int32} {hp : av_H} {c1 s1 : Nat} : kH (tP nx xs) d 368 4 [some (.ref 0), (some (.int (x0))), some (.ref 300), none] c s Q xIA hp c1 s1 = Wx (tP nx xs) d 368 13 [some (.ref 0), (some (.int (x0))), some (.ref 300), none] [] hp (c + c1) (s + s1) Q := by
  have h1 : av_hnd 4 xIA (av_me (tP 0 fun _ => 0) 368).2.2.2.2.2.1 (av_me (tP 0 fun _ => 0) 368).2.2.2.2.2.2.1 = some 12 := by decide +kernel
  have h1 : av_hnd 4 xIA (av_me (tP nx xs) 368).2.2.2.2.2.1 (av_me (tP nx xs) 368).2.2.2.2.2.2.1 = some 12 := h1
  obtain ⟨ix, h2⟩ : ∃ ix, av_op (tP nx xs) 368 12 = some (.astore 3, 1, ix) := ⟨_, rfl⟩
  unfold kH
  rw [h1]
  simp only
  rw [h2]
  exact propext ⟨fun h => h.2.2, fun h => ⟨by decide +kernel, Nat.le_of_ble_eq_true rfl, h⟩⟩
theorem hK369_1 {x0 x1 : Int32} {hp : av_H} {c1 s1 : Nat} : kH (tP nx xs) d 369 5 [some (.ref 0), (some (.int (x0))), (some (.int (x1))), some (.ref 300), none] c s Q xIO hp c1 s1 = Wx (tP nx xs) d 369 15 [some (.ref 0), (some (.int (x0))), (some (.int (x1))), some (.ref 300), none] [] hp (c + c1) (s + s1) Q := by
  have h1 : av_hnd 5 xIO (av_me (tP 0 fun _ => 0) 369).2.2.2.2.2.1 (av_me (tP 0 fun _ => 0) 369).2.2.2.2.2.2.1 = some 13 := by decide +kernel
  have h1 : av_hnd 5 xIO (av_me (tP nx xs) 369).2.2.2.2.2.1 (av_me (tP nx xs) 369).2.2.2.2.2.2.1 = some 13 := h1
  obtain ⟨ix, h2⟩ : ∃ ix, av_op (tP nx xs) 369 13 = some (.astore 4, 2, ix) := ⟨_, rfl⟩
  unfold kH
  rw [h1]
  simp only
  rw [h2]
  exact propext ⟨fun h => h.2.2, fun h => ⟨by decide +kernel, Nat.le_of_ble_eq_true rfl, h⟩⟩
theorem hK369_2 {x0 x1 : Int32} {hp : av_H} {c1 s1 : Nat} : kH (tP nx xs) d 369 5 [some (.ref 0), (some (.int (x0))), (some (.int (x1))), some (.ref 300), none] c s Q xIS hp c1 s1 = Wx (tP nx xs) d 369 19 [some (.ref 0), (some (.int (x0))), (some (.int (x1))), some (.ref 300), none] [] hp (c + c1) (s + s1) Q := by
  have h1 : av_hnd 5 xIS (av_me (tP 0 fun _ => 0) 369).2.2.2.2.2.1 (av_me (tP 0 fun _ => 0) 369).2.2.2.2.2.2.1 = some 17 := by decide +kernel
  have h1 : av_hnd 5 xIS (av_me (tP nx xs) 369).2.2.2.2.2.1 (av_me (tP nx xs) 369).2.2.2.2.2.2.1 = some 17 := h1
  obtain ⟨ix, h2⟩ : ∃ ix, av_op (tP nx xs) 369 17 = some (.astore 4, 2, ix) := ⟨_, rfl⟩
  unfold kH
  rw [h1]
  simp only
  rw [h2]
  exact propext ⟨fun h => h.2.2, fun h => ⟨by decide +kernel, Nat.le_of_ble_eq_true rfl, h⟩⟩
theorem hK370_1 {x0 x1 : Int32} {hp : av_H} {c1 s1 : Nat} : kH (tP nx xs) d 370 5 [some (.ref 0), (some (.int (x0))), (some (.int (x1))), some (.ref 300), none] c s Q xIO hp c1 s1 = Wx (tP nx xs) d 370 15 [some (.ref 0), (some (.int (x0))), (some (.int (x1))), some (.ref 300), none] [] hp (c + c1) (s + s1) Q := by
  have h1 : av_hnd 5 xIO (av_me (tP 0 fun _ => 0) 370).2.2.2.2.2.1 (av_me (tP 0 fun _ => 0) 370).2.2.2.2.2.2.1 = some 13 := by decide +kernel
  have h1 : av_hnd 5 xIO (av_me (tP nx xs) 370).2.2.2.2.2.1 (av_me (tP nx xs) 370).2.2.2.2.2.2.1 = some 13 := h1
  obtain ⟨ix, h2⟩ : ∃ ix, av_op (tP nx xs) 370 13 = some (.astore 4, 2, ix) := ⟨_, rfl⟩
  unfold kH
  rw [h1]
  simp only
  rw [h2]
  exact propext ⟨fun h => h.2.2, fun h => ⟨by decide +kernel, Nat.le_of_ble_eq_true rfl, h⟩⟩
theorem hK370_2 {x0 x1 : Int32} {hp : av_H} {c1 s1 : Nat} : kH (tP nx xs) d 370 5 [some (.ref 0), (some (.int (x0))), (some (.int (x1))), some (.ref 300), none] c s Q xIA hp c1 s1 = Wx (tP nx xs) d 370 19 [some (.ref 0), (some (.int (x0))), (some (.int (x1))), some (.ref 300), none] [] hp (c + c1) (s + s1) Q := by
  have h1 : av_hnd 5 xIA (av_me (tP 0 fun _ => 0) 370).2.2.2.2.2.1 (av_me (tP 0 fun _ => 0) 370).2.2.2.2.2.2.1 = some 17 := by decide +kernel
  have h1 : av_hnd 5 xIA (av_me (tP nx xs) 370).2.2.2.2.2.1 (av_me (tP nx xs) 370).2.2.2.2.2.2.1 = some 17 := h1
  obtain ⟨ix, h2⟩ : ∃ ix, av_op (tP nx xs) 370 17 = some (.astore 4, 2, ix) := ⟨_, rfl⟩
  unfold kH
  rw [h1]
  simp only
  rw [h2]
  exact propext ⟨fun h => h.2.2, fun h => ⟨by decide +kernel, Nat.le_of_ble_eq_true rfl, h⟩⟩
theorem hK371_1 {x0 x1 : Int32} {hp : av_H} {c1 s1 : Nat} : kH (tP nx xs) d 371 5 [some (.ref 0), (some (.int (x0))), (some (.int (x1))), some (.ref 300), none] c s Q xIO hp c1 s1 = Wx (tP nx xs) d 371 15 [some (.ref 0), (some (.int (x0))), (some (.int (x1))), some (.ref 300), none] [] hp (c + c1) (s + s1) Q := by
  have h1 : av_hnd 5 xIO (av_me (tP 0 fun _ => 0) 371).2.2.2.2.2.1 (av_me (tP 0 fun _ => 0) 371).2.2.2.2.2.2.1 = some 13 := by decide +kernel
  have h1 : av_hnd 5 xIO (av_me (tP nx xs) 371).2.2.2.2.2.1 (av_me (tP nx xs) 371).2.2.2.2.2.2.1 = some 13 := h1
  obtain ⟨ix, h2⟩ : ∃ ix, av_op (tP nx xs) 371 13 = some (.astore 4, 2, ix) := ⟨_, rfl⟩
  unfold kH
  rw [h1]
  simp only
  rw [h2]
  exact propext ⟨fun h => h.2.2, fun h => ⟨by decide +kernel, Nat.le_of_ble_eq_true rfl, h⟩⟩
theorem hK371_2 {x0 x1 : Int32} {hp : av_H} {c1 s1 : Nat} : kH (tP nx xs) d 371 5 [some (.ref 0), (some (.int (x0))), (some (.int (x1))), some (.ref 300), none] c s Q xIA hp c1 s1 = Wx (tP nx xs) d 371 19 [some (.ref 0), (some (.int (x0))), (some (.int (x1))), some (.ref 300), none] [] hp (c + c1) (s + s1) Q := by
  have h1 : av_hnd 5 xIA (av_me (tP 0 fun _ => 0) 371).2.2.2.2.2.1 (av_me (tP 0 fun _ => 0) 371).2.2.2.2.2.2.1 = some 17 := by decide +kernel
  have h1 : av_hnd 5 xIA (av_me (tP nx xs) 371).2.2.2.2.2.1 (av_me (tP nx xs) 371).2.2.2.2.2.2.1 = some 17 := h1
  obtain ⟨ix, h2⟩ : ∃ ix, av_op (tP nx xs) 371 17 = some (.astore 4, 2, ix) := ⟨_, rfl⟩
  unfold kH
  rw [h1]
  simp only
  rw [h2]
  exact propext ⟨fun h => h.2.2, fun h => ⟨by decide +kernel, Nat.le_of_ble_eq_true rfl, h⟩⟩
theorem hK372_1 {x0 x1 : Int32} {hp : av_H} {c1 s1 : Nat} : kH (tP nx xs) d 372 5 [some (.ref 0), (some (.int (x0))), (some (.int (x1))), some (.ref 300), none] c s Q xIO hp c1 s1 = Wx (tP nx xs) d 372 15 [some (.ref 0), (some (.int (x0))), (some (.int (x1))), some (.ref 300), none] [] hp (c + c1) (s + s1) Q := by
  have h1 : av_hnd 5 xIO (av_me (tP 0 fun _ => 0) 372).2.2.2.2.2.1 (av_me (tP 0 fun _ => 0) 372).2.2.2.2.2.2.1 = some 13 := by decide +kernel
  have h1 : av_hnd 5 xIO (av_me (tP nx xs) 372).2.2.2.2.2.1 (av_me (tP nx xs) 372).2.2.2.2.2.2.1 = some 13 := h1
  obtain ⟨ix, h2⟩ : ∃ ix, av_op (tP nx xs) 372 13 = some (.astore 4, 2, ix) := ⟨_, rfl⟩
  unfold kH
  rw [h1]
  simp only
  rw [h2]
  exact propext ⟨fun h => h.2.2, fun h => ⟨by decide +kernel, Nat.le_of_ble_eq_true rfl, h⟩⟩
theorem hK372_2 {x0 x1 : Int32} {hp : av_H} {c1 s1 : Nat} : kH (tP nx xs) d 372 5 [some (.ref 0), (some (.int (x0))), (some (.int (x1))), some (.ref 300), none] c s Q xIS hp c1 s1 = Wx (tP nx xs) d 372 19 [some (.ref 0), (some (.int (x0))), (some (.int (x1))), some (.ref 300), none] [] hp (c + c1) (s + s1) Q := by
  have h1 : av_hnd 5 xIS (av_me (tP 0 fun _ => 0) 372).2.2.2.2.2.1 (av_me (tP 0 fun _ => 0) 372).2.2.2.2.2.2.1 = some 17 := by decide +kernel
  have h1 : av_hnd 5 xIS (av_me (tP nx xs) 372).2.2.2.2.2.1 (av_me (tP nx xs) 372).2.2.2.2.2.2.1 = some 17 := h1
  obtain ⟨ix, h2⟩ : ∃ ix, av_op (tP nx xs) 372 17 = some (.astore 4, 2, ix) := ⟨_, rfl⟩
  unfold kH
  rw [h1]
  simp only
  rw [h2]
  exact propext ⟨fun h => h.2.2, fun h => ⟨by decide +kernel, Nat.le_of_ble_eq_true rfl, h⟩⟩
theorem hK373_1 {x0 x1 x2 : Int32} {hp : av_H} {c1 s1 : Nat} : kH (tP nx xs) d 373 7 [some (.ref 0), (some (.int (x0))), (some (.int (x1))), (some (.int (x2))), some (.ref 300), none] c s Q xIO hp c1 s1 = Wx (tP nx xs) d 373 17 [some (.ref 0), (some (.int (x0))), (some (.int (x1))), (some (.int (x2))), some (.ref 300), none] [] hp (c + c1) (s + s1) Q := by
  have h1 : av_hnd 7 xIO (av_me (tP 0 fun _ => 0) 373).2.2.2.2.2.1 (av_me (tP 0 fun _ => 0) 373).2.2.2.2.2.2.1 = some 15 := by decide +kernel
  have h1 : av_hnd 7 xIO (av_me (tP nx xs) 373).2.2.2.2.2.1 (av_me (tP nx xs) 373).2.2.2.2.2.2.1 = some 15 := h1
  obtain ⟨ix, h2⟩ : ∃ ix, av_op (tP nx xs) 373 15 = some (.astore 5, 2, ix) := ⟨_, rfl⟩
  unfold kH
  rw [h1]
  simp only
  rw [h2]
  exact propext ⟨fun h => h.2.2, fun h => ⟨by decide +kernel, Nat.le_of_ble_eq_true rfl, h⟩⟩
theorem hK373_2 {x0 x1 x2 : Int32} {hp : av_H} {c1 s1 : Nat} : kH (tP nx xs) d 373 7 [some (.ref 0), (some (.int (x0))), (some (.int (x1))), (some (.int (x2))), some (.ref 300), none] c s Q xIS hp c1 s1 = Wx (tP nx xs) d 373 21 [some (.ref 0), (some (.int (x0))), (some (.int (x1))), (some (.int (x2))), some (.ref 300), none] [] hp (c + c1) (s + s1) Q := by
  have h1 : av_hnd 7 xIS (av_me (tP 0 fun _ => 0) 373).2.2.2.2.2.1 (av_me (tP 0 fun _ => 0) 373).2.2.2.2.2.2.1 = some 19 := by decide +kernel
  have h1 : av_hnd 7 xIS (av_me (tP nx xs) 373).2.2.2.2.2.1 (av_me (tP nx xs) 373).2.2.2.2.2.2.1 = some 19 := h1
  obtain ⟨ix, h2⟩ : ∃ ix, av_op (tP nx xs) 373 19 = some (.astore 5, 2, ix) := ⟨_, rfl⟩
  unfold kH
  rw [h1]
  simp only
  rw [h2]
  exact propext ⟨fun h => h.2.2, fun h => ⟨by decide +kernel, Nat.le_of_ble_eq_true rfl, h⟩⟩
theorem hK374_1 {x0 x1 x2 : Int32} {hp : av_H} {c1 s1 : Nat} : kH (tP nx xs) d 374 7 [some (.ref 0), (some (.int (x0))), (some (.int (x1))), (some (.int (x2))), some (.ref 300), none] c s Q xIO hp c1 s1 = Wx (tP nx xs) d 374 24 [some (.ref 0), (some (.int (x0))), (some (.int (x1))), (some (.int (x2))), some (.ref 300), none] [] hp (c + c1) (s + s1) Q := by
  have h1 : av_hnd 7 xIO (av_me (tP 0 fun _ => 0) 374).2.2.2.2.2.1 (av_me (tP 0 fun _ => 0) 374).2.2.2.2.2.2.1 = some 22 := by decide +kernel
  have h1 : av_hnd 7 xIO (av_me (tP nx xs) 374).2.2.2.2.2.1 (av_me (tP nx xs) 374).2.2.2.2.2.2.1 = some 22 := h1
  obtain ⟨ix, h2⟩ : ∃ ix, av_op (tP nx xs) 374 22 = some (.astore 5, 2, ix) := ⟨_, rfl⟩
  unfold kH
  rw [h1]
  simp only
  rw [h2]
  exact propext ⟨fun h => h.2.2, fun h => ⟨by decide +kernel, Nat.le_of_ble_eq_true rfl, h⟩⟩
theorem hK374_2 {x0 x1 x2 : Int32} {hp : av_H} {c1 s1 : Nat} : kH (tP nx xs) d 374 7 [some (.ref 0), (some (.int (x0))), (some (.int (x1))), (some (.int (x2))), some (.ref 300), none] c s Q xIA hp c1 s1 = Wx (tP nx xs) d 374 28 [some (.ref 0), (some (.int (x0))), (some (.int (x1))), (some (.int (x2))), some (.ref 300), none] [] hp (c + c1) (s + s1) Q := by
  have h1 : av_hnd 7 xIA (av_me (tP 0 fun _ => 0) 374).2.2.2.2.2.1 (av_me (tP 0 fun _ => 0) 374).2.2.2.2.2.2.1 = some 26 := by decide +kernel
  have h1 : av_hnd 7 xIA (av_me (tP nx xs) 374).2.2.2.2.2.1 (av_me (tP nx xs) 374).2.2.2.2.2.2.1 = some 26 := h1
  obtain ⟨ix, h2⟩ : ∃ ix, av_op (tP nx xs) 374 26 = some (.astore 5, 2, ix) := ⟨_, rfl⟩
  unfold kH
  rw [h1]
  simp only
  rw [h2]
  exact propext ⟨fun h => h.2.2, fun h => ⟨by decide +kernel, Nat.le_of_ble_eq_true rfl, h⟩⟩
theorem hK375_1 {x0 x1 : Int32} {hp : av_H} {c1 s1 : Nat} : kH (tP nx xs) d 375 5 [some (.ref 0), (some (.int (x0))), (some (.int (x1))), some (.ref 300), none] c s Q xIO hp c1 s1 = Wx (tP nx xs) d 375 15 [some (.ref 0), (some (.int (x0))), (some (.int (x1))), some (.ref 300), none] [] hp (c + c1) (s + s1) Q := by
  have h1 : av_hnd 5 xIO (av_me (tP 0 fun _ => 0) 375).2.2.2.2.2.1 (av_me (tP 0 fun _ => 0) 375).2.2.2.2.2.2.1 = some 13 := by decide +kernel
  have h1 : av_hnd 5 xIO (av_me (tP nx xs) 375).2.2.2.2.2.1 (av_me (tP nx xs) 375).2.2.2.2.2.2.1 = some 13 := h1
  obtain ⟨ix, h2⟩ : ∃ ix, av_op (tP nx xs) 375 13 = some (.astore 4, 2, ix) := ⟨_, rfl⟩
  unfold kH
  rw [h1]
  simp only
  rw [h2]
  exact propext ⟨fun h => h.2.2, fun h => ⟨by decide +kernel, Nat.le_of_ble_eq_true rfl, h⟩⟩
theorem hK375_2 {x0 x1 : Int32} {hp : av_H} {c1 s1 : Nat} : kH (tP nx xs) d 375 5 [some (.ref 0), (some (.int (x0))), (some (.int (x1))), some (.ref 300), none] c s Q xIA hp c1 s1 = Wx (tP nx xs) d 375 19 [some (.ref 0), (some (.int (x0))), (some (.int (x1))), some (.ref 300), none] [] hp (c + c1) (s + s1) Q := by
  have h1 : av_hnd 5 xIA (av_me (tP 0 fun _ => 0) 375).2.2.2.2.2.1 (av_me (tP 0 fun _ => 0) 375).2.2.2.2.2.2.1 = some 17 := by decide +kernel
  have h1 : av_hnd 5 xIA (av_me (tP nx xs) 375).2.2.2.2.2.1 (av_me (tP nx xs) 375).2.2.2.2.2.2.1 = some 17 := h1
  obtain ⟨ix, h2⟩ : ∃ ix, av_op (tP nx xs) 375 17 = some (.astore 4, 2, ix) := ⟨_, rfl⟩
  unfold kH
  rw [h1]
  simp only
  rw [h2]
  exact propext ⟨fun h => h.2.2, fun h => ⟨by decide +kernel, Nat.le_of_ble_eq_true rfl, h⟩⟩
theorem hK376_1 {x0 : Int32} {hp : av_H} {c1 s1 : Nat} : kH (tP nx xs) d 376 4 [some (.ref 0), (some (.int (x0))), some (.ref 300), none] c s Q xIO hp c1 s1 = Wx (tP nx xs) d 376 13 [some (.ref 0), (some (.int (x0))), some (.ref 300), none] [] hp (c + c1) (s + s1) Q := by
  have h1 : av_hnd 4 xIO (av_me (tP 0 fun _ => 0) 376).2.2.2.2.2.1 (av_me (tP 0 fun _ => 0) 376).2.2.2.2.2.2.1 = some 12 := by decide +kernel
  have h1 : av_hnd 4 xIO (av_me (tP nx xs) 376).2.2.2.2.2.1 (av_me (tP nx xs) 376).2.2.2.2.2.2.1 = some 12 := h1
  obtain ⟨ix, h2⟩ : ∃ ix, av_op (tP nx xs) 376 12 = some (.astore 3, 1, ix) := ⟨_, rfl⟩
  unfold kH
  rw [h1]
  simp only
  rw [h2]
  exact propext ⟨fun h => h.2.2, fun h => ⟨by decide +kernel, Nat.le_of_ble_eq_true rfl, h⟩⟩
theorem hK376_2 {x0 : Int32} {hp : av_H} {c1 s1 : Nat} : kH (tP nx xs) d 376 4 [some (.ref 0), (some (.int (x0))), some (.ref 300), none] c s Q xIS hp c1 s1 = Wx (tP nx xs) d 376 16 [some (.ref 0), (some (.int (x0))), some (.ref 300), none] [] hp (c + c1) (s + s1) Q := by
  have h1 : av_hnd 4 xIS (av_me (tP 0 fun _ => 0) 376).2.2.2.2.2.1 (av_me (tP 0 fun _ => 0) 376).2.2.2.2.2.2.1 = some 15 := by decide +kernel
  have h1 : av_hnd 4 xIS (av_me (tP nx xs) 376).2.2.2.2.2.1 (av_me (tP nx xs) 376).2.2.2.2.2.2.1 = some 15 := h1
  obtain ⟨ix, h2⟩ : ∃ ix, av_op (tP nx xs) 376 15 = some (.astore 3, 1, ix) := ⟨_, rfl⟩
  unfold kH
  rw [h1]
  simp only
  rw [h2]
  exact propext ⟨fun h => h.2.2, fun h => ⟨by decide +kernel, Nat.le_of_ble_eq_true rfl, h⟩⟩
theorem hK377_1 {x0 : Int32} {hp : av_H} {c1 s1 : Nat} : kH (tP nx xs) d 377 4 [some (.ref 0), (some (.int (x0))), some (.ref 300), none] c s Q xIO hp c1 s1 = Wx (tP nx xs) d 377 13 [some (.ref 0), (some (.int (x0))), some (.ref 300), none] [] hp (c + c1) (s + s1) Q := by
  have h1 : av_hnd 4 xIO (av_me (tP 0 fun _ => 0) 377).2.2.2.2.2.1 (av_me (tP 0 fun _ => 0) 377).2.2.2.2.2.2.1 = some 12 := by decide +kernel
  have h1 : av_hnd 4 xIO (av_me (tP nx xs) 377).2.2.2.2.2.1 (av_me (tP nx xs) 377).2.2.2.2.2.2.1 = some 12 := h1
  obtain ⟨ix, h2⟩ : ∃ ix, av_op (tP nx xs) 377 12 = some (.astore 3, 1, ix) := ⟨_, rfl⟩
  unfold kH
  rw [h1]
  simp only
  rw [h2]
  exact propext ⟨fun h => h.2.2, fun h => ⟨by decide +kernel, Nat.le_of_ble_eq_true rfl, h⟩⟩
theorem hK378_1 {hp : av_H} {c1 s1 : Nat} : kH (tP nx xs) d 378 3 [some (.ref 0), some (.ref 300), none] c s Q xIA hp c1 s1 = Wx (tP nx xs) d 378 12 [some (.ref 0), some (.ref 300), none] [] hp (c + c1) (s + s1) Q := by
  have h1 : av_hnd 3 xIA (av_me (tP 0 fun _ => 0) 378).2.2.2.2.2.1 (av_me (tP 0 fun _ => 0) 378).2.2.2.2.2.2.1 = some 11 := by decide +kernel
  have h1 : av_hnd 3 xIA (av_me (tP nx xs) 378).2.2.2.2.2.1 (av_me (tP nx xs) 378).2.2.2.2.2.2.1 = some 11 := h1
  obtain ⟨ix, h2⟩ : ∃ ix, av_op (tP nx xs) 378 11 = some (.astore 2, 1, ix) := ⟨_, rfl⟩
  unfold kH
  rw [h1]
  simp only
  rw [h2]
  exact propext ⟨fun h => h.2.2, fun h => ⟨by decide +kernel, Nat.le_of_ble_eq_true rfl, h⟩⟩
theorem hK379_1 {x0 : Int32} {hp : av_H} {c1 s1 : Nat} : kH (tP nx xs) d 379 4 [some (.ref 0), (some (.int (x0))), some (.ref 300), none] c s Q xIA hp c1 s1 = Wx (tP nx xs) d 379 13 [some (.ref 0), (some (.int (x0))), some (.ref 300), none] [] hp (c + c1) (s + s1) Q := by
  have h1 : av_hnd 4 xIA (av_me (tP 0 fun _ => 0) 379).2.2.2.2.2.1 (av_me (tP 0 fun _ => 0) 379).2.2.2.2.2.2.1 = some 12 := by decide +kernel
  have h1 : av_hnd 4 xIA (av_me (tP nx xs) 379).2.2.2.2.2.1 (av_me (tP nx xs) 379).2.2.2.2.2.2.1 = some 12 := h1
  obtain ⟨ix, h2⟩ : ∃ ix, av_op (tP nx xs) 379 12 = some (.astore 3, 1, ix) := ⟨_, rfl⟩
  unfold kH
  rw [h1]
  simp only
  rw [h2]
  exact propext ⟨fun h => h.2.2, fun h => ⟨by decide +kernel, Nat.le_of_ble_eq_true rfl, h⟩⟩
theorem hK380_1 {hp : av_H} {c1 s1 : Nat} : kH (tP nx xs) d 380 3 [some (.ref 0), some (.ref 300), none] c s Q xIA hp c1 s1 = Wx (tP nx xs) d 380 12 [some (.ref 0), some (.ref 300), none] [] hp (c + c1) (s + s1) Q := by
  have h1 : av_hnd 3 xIA (av_me (tP 0 fun _ => 0) 380).2.2.2.2.2.1 (av_me (tP 0 fun _ => 0) 380).2.2.2.2.2.2.1 = some 11 := by decide +kernel
  have h1 : av_hnd 3 xIA (av_me (tP nx xs) 380).2.2.2.2.2.1 (av_me (tP nx xs) 380).2.2.2.2.2.2.1 = some 11 := h1
  obtain ⟨ix, h2⟩ : ∃ ix, av_op (tP nx xs) 380 11 = some (.astore 2, 1, ix) := ⟨_, rfl⟩
  unfold kH
  rw [h1]
  simp only
  rw [h2]
  exact propext ⟨fun h => h.2.2, fun h => ⟨by decide +kernel, Nat.le_of_ble_eq_true rfl, h⟩⟩
theorem hK381_1 {x0 : Int32} {hp : av_H} {c1 s1 : Nat} : kH (tP nx xs) d 381 4 [some (.ref 0), (some (.int (x0))), some (.ref 300), none] c s Q xIO hp c1 s1 = Wx (tP nx xs) d 381 13 [some (.ref 0), (some (.int (x0))), some (.ref 300), none] [] hp (c + c1) (s + s1) Q := by
  have h1 : av_hnd 4 xIO (av_me (tP 0 fun _ => 0) 381).2.2.2.2.2.1 (av_me (tP 0 fun _ => 0) 381).2.2.2.2.2.2.1 = some 12 := by decide +kernel
  have h1 : av_hnd 4 xIO (av_me (tP nx xs) 381).2.2.2.2.2.1 (av_me (tP nx xs) 381).2.2.2.2.2.2.1 = some 12 := h1
  obtain ⟨ix, h2⟩ : ∃ ix, av_op (tP nx xs) 381 12 = some (.astore 3, 1, ix) := ⟨_, rfl⟩
  unfold kH
  rw [h1]
  simp only
  rw [h2]
  exact propext ⟨fun h => h.2.2, fun h => ⟨by decide +kernel, Nat.le_of_ble_eq_true rfl, h⟩⟩
theorem hK382_1 {x0 x1 : Int32} {hp : av_H} {c1 s1 : Nat} : kH (tP nx xs) d 382 5 [some (.ref 0), (some (.int (x0))), (some (.int (x1))), some (.ref 300), none] c s Q xIO hp c1 s1 = Wx (tP nx xs) d 382 22 [some (.ref 0), (some (.int (x0))), (some (.int (x1))), some (.ref 300), none] [] hp (c + c1) (s + s1) Q := by
  have h1 : av_hnd 5 xIO (av_me (tP 0 fun _ => 0) 382).2.2.2.2.2.1 (av_me (tP 0 fun _ => 0) 382).2.2.2.2.2.2.1 = some 20 := by decide +kernel
  have h1 : av_hnd 5 xIO (av_me (tP nx xs) 382).2.2.2.2.2.1 (av_me (tP nx xs) 382).2.2.2.2.2.2.1 = some 20 := h1
  obtain ⟨ix, h2⟩ : ∃ ix, av_op (tP nx xs) 382 20 = some (.astore 4, 2, ix) := ⟨_, rfl⟩
  unfold kH
  rw [h1]
  simp only
  rw [h2]
  exact propext ⟨fun h => h.2.2, fun h => ⟨by decide +kernel, Nat.le_of_ble_eq_true rfl, h⟩⟩
theorem hK382_2 {x0 x1 : Int32} {hp : av_H} {c1 s1 : Nat} : kH (tP nx xs) d 382 5 [some (.ref 0), (some (.int (x0))), (some (.int (x1))), some (.ref 300), none] c s Q xIA hp c1 s1 = Wx (tP nx xs) d 382 26 [some (.ref 0), (some (.int (x0))), (some (.int (x1))), some (.ref 300), none] [] hp (c + c1) (s + s1) Q := by
  have h1 : av_hnd 5 xIA (av_me (tP 0 fun _ => 0) 382).2.2.2.2.2.1 (av_me (tP 0 fun _ => 0) 382).2.2.2.2.2.2.1 = some 24 := by decide +kernel
  have h1 : av_hnd 5 xIA (av_me (tP nx xs) 382).2.2.2.2.2.1 (av_me (tP nx xs) 382).2.2.2.2.2.2.1 = some 24 := h1
  obtain ⟨ix, h2⟩ : ∃ ix, av_op (tP nx xs) 382 24 = some (.astore 4, 2, ix) := ⟨_, rfl⟩
  unfold kH
  rw [h1]
  simp only
  rw [h2]
  exact propext ⟨fun h => h.2.2, fun h => ⟨by decide +kernel, Nat.le_of_ble_eq_true rfl, h⟩⟩
theorem hK383_1 {x0 : Int32} {hp : av_H} {c1 s1 : Nat} : kH (tP nx xs) d 383 4 [some (.ref 0), (some (.int (x0))), some (.ref 300), none] c s Q xIO hp c1 s1 = Wx (tP nx xs) d 383 13 [some (.ref 0), (some (.int (x0))), some (.ref 300), none] [] hp (c + c1) (s + s1) Q := by
  have h1 : av_hnd 4 xIO (av_me (tP 0 fun _ => 0) 383).2.2.2.2.2.1 (av_me (tP 0 fun _ => 0) 383).2.2.2.2.2.2.1 = some 12 := by decide +kernel
  have h1 : av_hnd 4 xIO (av_me (tP nx xs) 383).2.2.2.2.2.1 (av_me (tP nx xs) 383).2.2.2.2.2.2.1 = some 12 := h1
  obtain ⟨ix, h2⟩ : ∃ ix, av_op (tP nx xs) 383 12 = some (.astore 3, 1, ix) := ⟨_, rfl⟩
  unfold kH
  rw [h1]
  simp only
  rw [h2]
  exact propext ⟨fun h => h.2.2, fun h => ⟨by decide +kernel, Nat.le_of_ble_eq_true rfl, h⟩⟩
theorem hK384_1 {x0 x1 : Int32} {hp : av_H} {c1 s1 : Nat} : kH (tP nx xs) d 384 5 [some (.ref 0), (some (.int (x0))), (some (.int (x1))), some (.ref 300), none] c s Q xIO hp c1 s1 = Wx (tP nx xs) d 384 15 [some (.ref 0), (some (.int (x0))), (some (.int (x1))), some (.ref 300), none] [] hp (c + c1) (s + s1) Q := by
  have h1 : av_hnd 5 xIO (av_me (tP 0 fun _ => 0) 384).2.2.2.2.2.1 (av_me (tP 0 fun _ => 0) 384).2.2.2.2.2.2.1 = some 13 := by decide +kernel
  have h1 : av_hnd 5 xIO (av_me (tP nx xs) 384).2.2.2.2.2.1 (av_me (tP nx xs) 384).2.2.2.2.2.2.1 = some 13 := h1
  obtain ⟨ix, h2⟩ : ∃ ix, av_op (tP nx xs) 384 13 = some (.astore 4, 2, ix) := ⟨_, rfl⟩
  unfold kH
  rw [h1]
  simp only
  rw [h2]
  exact propext ⟨fun h => h.2.2, fun h => ⟨by decide +kernel, Nat.le_of_ble_eq_true rfl, h⟩⟩
theorem hK385_1 {x0 : Int32} {hp : av_H} {c1 s1 : Nat} : kH (tP nx xs) d 385 4 [some (.ref 0), (some (.int (x0))), some (.ref 300), none] c s Q xIO hp c1 s1 = Wx (tP nx xs) d 385 13 [some (.ref 0), (some (.int (x0))), some (.ref 300), none] [] hp (c + c1) (s + s1) Q := by
  have h1 : av_hnd 4 xIO (av_me (tP 0 fun _ => 0) 385).2.2.2.2.2.1 (av_me (tP 0 fun _ => 0) 385).2.2.2.2.2.2.1 = some 12 := by decide +kernel
  have h1 : av_hnd 4 xIO (av_me (tP nx xs) 385).2.2.2.2.2.1 (av_me (tP nx xs) 385).2.2.2.2.2.2.1 = some 12 := h1
  obtain ⟨ix, h2⟩ : ∃ ix, av_op (tP nx xs) 385 12 = some (.astore 3, 1, ix) := ⟨_, rfl⟩
  unfold kH
  rw [h1]
  simp only
  rw [h2]
  exact propext ⟨fun h => h.2.2, fun h => ⟨by decide +kernel, Nat.le_of_ble_eq_true rfl, h⟩⟩
theorem hK386_1 {x0 x1 : Int32} {hp : av_H} {c1 s1 : Nat} : kH (tP nx xs) d 386 5 [some (.ref 0), (some (.int (x0))), (some (.int (x1))), some (.ref 300), none] c s Q xIA hp c1 s1 = Wx (tP nx xs) d 386 15 [some (.ref 0), (some (.int (x0))), (some (.int (x1))), some (.ref 300), none] [] hp (c + c1) (s + s1) Q := by
  have h1 : av_hnd 5 xIA (av_me (tP 0 fun _ => 0) 386).2.2.2.2.2.1 (av_me (tP 0 fun _ => 0) 386).2.2.2.2.2.2.1 = some 13 := by decide +kernel
  have h1 : av_hnd 5 xIA (av_me (tP nx xs) 386).2.2.2.2.2.1 (av_me (tP nx xs) 386).2.2.2.2.2.2.1 = some 13 := h1
  obtain ⟨ix, h2⟩ : ∃ ix, av_op (tP nx xs) 386 13 = some (.astore 4, 2, ix) := ⟨_, rfl⟩
  unfold kH
  rw [h1]
  simp only
  rw [h2]
  exact propext ⟨fun h => h.2.2, fun h => ⟨by decide +kernel, Nat.le_of_ble_eq_true rfl, h⟩⟩
theorem hK387_1 {x0 : Int32} {hp : av_H} {c1 s1 : Nat} : kH (tP nx xs) d 387 4 [some (.ref 0), (some (.int (x0))), some (.ref 300), none] c s Q xIO hp c1 s1 = Wx (tP nx xs) d 387 13 [some (.ref 0), (some (.int (x0))), some (.ref 300), none] [] hp (c + c1) (s + s1) Q := by
  have h1 : av_hnd 4 xIO (av_me (tP 0 fun _ => 0) 387).2.2.2.2.2.1 (av_me (tP 0 fun _ => 0) 387).2.2.2.2.2.2.1 = some 12 := by decide +kernel
  have h1 : av_hnd 4 xIO (av_me (tP nx xs) 387).2.2.2.2.2.1 (av_me (tP nx xs) 387).2.2.2.2.2.2.1 = some 12 := h1
  obtain ⟨ix, h2⟩ : ∃ ix, av_op (tP nx xs) 387 12 = some (.astore 3, 1, ix) := ⟨_, rfl⟩
  unfold kH
  rw [h1]
  simp only
  rw [h2]
  exact propext ⟨fun h => h.2.2, fun h => ⟨by decide +kernel, Nat.le_of_ble_eq_true rfl, h⟩⟩
theorem hK388_1 {x0 : Int32} {hp : av_H} {c1 s1 : Nat} : kH (tP nx xs) d 388 4 [some (.ref 0), (some (.int (x0))), some (.ref 300), none] c s Q xIO hp c1 s1 = Wx (tP nx xs) d 388 13 [some (.ref 0), (some (.int (x0))), some (.ref 300), none] [] hp (c + c1) (s + s1) Q := by
  have h1 : av_hnd 4 xIO (av_me (tP 0 fun _ => 0) 388).2.2.2.2.2.1 (av_me (tP 0 fun _ => 0) 388).2.2.2.2.2.2.1 = some 12 := by decide +kernel
  have h1 : av_hnd 4 xIO (av_me (tP nx xs) 388).2.2.2.2.2.1 (av_me (tP nx xs) 388).2.2.2.2.2.2.1 = some 12 := h1
  obtain ⟨ix, h2⟩ : ∃ ix, av_op (tP nx xs) 388 12 = some (.astore 3, 1, ix) := ⟨_, rfl⟩
  unfold kH
  rw [h1]
  simp only
  rw [h2]
  exact propext ⟨fun h => h.2.2, fun h => ⟨by decide +kernel, Nat.le_of_ble_eq_true rfl, h⟩⟩
theorem hK389_1 {x0 x1 : Int32} {hp : av_H} {c1 s1 : Nat} : kH (tP nx xs) d 389 5 [some (.ref 0), (some (.int (x0))), (some (.int (x1))), some (.ref 300), none] c s Q xIO hp c1 s1 = Wx (tP nx xs) d 389 15 [some (.ref 0), (some (.int (x0))), (some (.int (x1))), some (.ref 300), none] [] hp (c + c1) (s + s1) Q := by
  have h1 : av_hnd 5 xIO (av_me (tP 0 fun _ => 0) 389).2.2.2.2.2.1 (av_me (tP 0 fun _ => 0) 389).2.2.2.2.2.2.1 = some 13 := by decide +kernel
  have h1 : av_hnd 5 xIO (av_me (tP nx xs) 389).2.2.2.2.2.1 (av_me (tP nx xs) 389).2.2.2.2.2.2.1 = some 13 := h1
  obtain ⟨ix, h2⟩ : ∃ ix, av_op (tP nx xs) 389 13 = some (.astore 4, 2, ix) := ⟨_, rfl⟩
  unfold kH
  rw [h1]
  simp only
  rw [h2]
  exact propext ⟨fun h => h.2.2, fun h => ⟨by decide +kernel, Nat.le_of_ble_eq_true rfl, h⟩⟩
theorem hK389_2 {x0 x1 : Int32} {hp : av_H} {c1 s1 : Nat} : kH (tP nx xs) d 389 5 [some (.ref 0), (some (.int (x0))), (some (.int (x1))), some (.ref 300), none] c s Q xIA hp c1 s1 = Wx (tP nx xs) d 389 19 [some (.ref 0), (some (.int (x0))), (some (.int (x1))), some (.ref 300), none] [] hp (c + c1) (s + s1) Q := by
  have h1 : av_hnd 5 xIA (av_me (tP 0 fun _ => 0) 389).2.2.2.2.2.1 (av_me (tP 0 fun _ => 0) 389).2.2.2.2.2.2.1 = some 17 := by decide +kernel
  have h1 : av_hnd 5 xIA (av_me (tP nx xs) 389).2.2.2.2.2.1 (av_me (tP nx xs) 389).2.2.2.2.2.2.1 = some 17 := h1
  obtain ⟨ix, h2⟩ : ∃ ix, av_op (tP nx xs) 389 17 = some (.astore 4, 2, ix) := ⟨_, rfl⟩
  unfold kH
  rw [h1]
  simp only
  rw [h2]
  exact propext ⟨fun h => h.2.2, fun h => ⟨by decide +kernel, Nat.le_of_ble_eq_true rfl, h⟩⟩
theorem hK390_1 {x0 x1 : Int32} {hp : av_H} {c1 s1 : Nat} : kH (tP nx xs) d 390 5 [some (.ref 0), (some (.int (x0))), (some (.int (x1))), some (.ref 300), none] c s Q xIO hp c1 s1 = Wx (tP nx xs) d 390 15 [some (.ref 0), (some (.int (x0))), (some (.int (x1))), some (.ref 300), none] [] hp (c + c1) (s + s1) Q := by
  have h1 : av_hnd 5 xIO (av_me (tP 0 fun _ => 0) 390).2.2.2.2.2.1 (av_me (tP 0 fun _ => 0) 390).2.2.2.2.2.2.1 = some 13 := by decide +kernel
  have h1 : av_hnd 5 xIO (av_me (tP nx xs) 390).2.2.2.2.2.1 (av_me (tP nx xs) 390).2.2.2.2.2.2.1 = some 13 := h1
  obtain ⟨ix, h2⟩ : ∃ ix, av_op (tP nx xs) 390 13 = some (.astore 4, 2, ix) := ⟨_, rfl⟩
  unfold kH
  rw [h1]
  simp only
  rw [h2]
  exact propext ⟨fun h => h.2.2, fun h => ⟨by decide +kernel, Nat.le_of_ble_eq_true rfl, h⟩⟩
theorem hK390_2 {x0 x1 : Int32} {hp : av_H} {c1 s1 : Nat} : kH (tP nx xs) d 390 5 [some (.ref 0), (some (.int (x0))), (some (.int (x1))), some (.ref 300), none] c s Q xIA hp c1 s1 = Wx (tP nx xs) d 390 19 [some (.ref 0), (some (.int (x0))), (some (.int (x1))), some (.ref 300), none] [] hp (c + c1) (s + s1) Q := by
  have h1 : av_hnd 5 xIA (av_me (tP 0 fun _ => 0) 390).2.2.2.2.2.1 (av_me (tP 0 fun _ => 0) 390).2.2.2.2.2.2.1 = some 17 := by decide +kernel
  have h1 : av_hnd 5 xIA (av_me (tP nx xs) 390).2.2.2.2.2.1 (av_me (tP nx xs) 390).2.2.2.2.2.2.1 = some 17 := h1
  obtain ⟨ix, h2⟩ : ∃ ix, av_op (tP nx xs) 390 17 = some (.astore 4, 2, ix) := ⟨_, rfl⟩
  unfold kH
  rw [h1]
  simp only
  rw [h2]
  exact propext ⟨fun h => h.2.2, fun h => ⟨by decide +kernel, Nat.le_of_ble_eq_true rfl, h⟩⟩
theorem hK391_1 {x0 x1 : Int32} {hp : av_H} {c1 s1 : Nat} : kH (tP nx xs) d 391 5 [some (.ref 0), (some (.int (x0))), (some (.int (x1))), some (.ref 300), none] c s Q xIA hp c1 s1 = Wx (tP nx xs) d 391 15 [some (.ref 0), (some (.int (x0))), (some (.int (x1))), some (.ref 300), none] [] hp (c + c1) (s + s1) Q := by
  have h1 : av_hnd 5 xIA (av_me (tP 0 fun _ => 0) 391).2.2.2.2.2.1 (av_me (tP 0 fun _ => 0) 391).2.2.2.2.2.2.1 = some 13 := by decide +kernel
  have h1 : av_hnd 5 xIA (av_me (tP nx xs) 391).2.2.2.2.2.1 (av_me (tP nx xs) 391).2.2.2.2.2.2.1 = some 13 := h1
  obtain ⟨ix, h2⟩ : ∃ ix, av_op (tP nx xs) 391 13 = some (.astore 4, 2, ix) := ⟨_, rfl⟩
  unfold kH
  rw [h1]
  simp only
  rw [h2]
  exact propext ⟨fun h => h.2.2, fun h => ⟨by decide +kernel, Nat.le_of_ble_eq_true rfl, h⟩⟩
theorem hK392_1 {x0 x1 : Int32} {hp : av_H} {c1 s1 : Nat} : kH (tP nx xs) d 392 5 [some (.ref 0), (some (.int (x0))), (some (.int (x1))), some (.ref 300), none] c s Q xIA hp c1 s1 = Wx (tP nx xs) d 392 15 [some (.ref 0), (some (.int (x0))), (some (.int (x1))), some (.ref 300), none] [] hp (c + c1) (s + s1) Q := by
  have h1 : av_hnd 5 xIA (av_me (tP 0 fun _ => 0) 392).2.2.2.2.2.1 (av_me (tP 0 fun _ => 0) 392).2.2.2.2.2.2.1 = some 13 := by decide +kernel
  have h1 : av_hnd 5 xIA (av_me (tP nx xs) 392).2.2.2.2.2.1 (av_me (tP nx xs) 392).2.2.2.2.2.2.1 = some 13 := h1
  obtain ⟨ix, h2⟩ : ∃ ix, av_op (tP nx xs) 392 13 = some (.astore 4, 2, ix) := ⟨_, rfl⟩
  unfold kH
  rw [h1]
  simp only
  rw [h2]
  exact propext ⟨fun h => h.2.2, fun h => ⟨by decide +kernel, Nat.le_of_ble_eq_true rfl, h⟩⟩
theorem hK393_1 {x0 x1 : Int32} {hp : av_H} {c1 s1 : Nat} : kH (tP nx xs) d 393 5 [some (.ref 0), (some (.int (x0))), (some (.int (x1))), some (.ref 300), none] c s Q xIO hp c1 s1 = Wx (tP nx xs) d 393 15 [some (.ref 0), (some (.int (x0))), (some (.int (x1))), some (.ref 300), none] [] hp (c + c1) (s + s1) Q := by
  have h1 : av_hnd 5 xIO (av_me (tP 0 fun _ => 0) 393).2.2.2.2.2.1 (av_me (tP 0 fun _ => 0) 393).2.2.2.2.2.2.1 = some 13 := by decide +kernel
  have h1 : av_hnd 5 xIO (av_me (tP nx xs) 393).2.2.2.2.2.1 (av_me (tP nx xs) 393).2.2.2.2.2.2.1 = some 13 := h1
  obtain ⟨ix, h2⟩ : ∃ ix, av_op (tP nx xs) 393 13 = some (.astore 4, 2, ix) := ⟨_, rfl⟩
  unfold kH
  rw [h1]
  simp only
  rw [h2]
  exact propext ⟨fun h => h.2.2, fun h => ⟨by decide +kernel, Nat.le_of_ble_eq_true rfl, h⟩⟩
theorem hK394_1 {x0 x1 : Int32} {hp : av_H} {c1 s1 : Nat} : kH (tP nx xs) d 394 5 [some (.ref 0), (some (.int (x0))), (some (.int (x1))), some (.ref 300), none] c s Q xNS hp c1 s1 = Wx (tP nx xs) d 394 15 [some (.ref 0), (some (.int (x0))), (some (.int (x1))), some (.ref 300), none] [] hp (c + c1) (s + s1) Q := by
  have h1 : av_hnd 5 xNS (av_me (tP 0 fun _ => 0) 394).2.2.2.2.2.1 (av_me (tP 0 fun _ => 0) 394).2.2.2.2.2.2.1 = some 13 := by decide +kernel
  have h1 : av_hnd 5 xNS (av_me (tP nx xs) 394).2.2.2.2.2.1 (av_me (tP nx xs) 394).2.2.2.2.2.2.1 = some 13 := h1
  obtain ⟨ix, h2⟩ : ∃ ix, av_op (tP nx xs) 394 13 = some (.astore 4, 2, ix) := ⟨_, rfl⟩
  unfold kH
  rw [h1]
  simp only
  rw [h2]
  exact propext ⟨fun h => h.2.2, fun h => ⟨by decide +kernel, Nat.le_of_ble_eq_true rfl, h⟩⟩
end HK
