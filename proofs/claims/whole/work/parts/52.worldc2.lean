/-! ===== WORLDS in the class: building, agreeing ===== -/
theorem and_bs {p : Nat → Bool} {n : Nat} (hn : n ≤ 32) (x : Int32) : (decide (x &&& bs p n = Int32.ofNat 0)) = !anyN (fun o => bt x o && p o) n := by
  rw [Bool.eq_iff_iff, decide_eq_true_eq, Bool.not_eq_true']
  constructor
  · intro h
    cases ha : anyN (fun o => bt x o && p o) n
    · rfl
    · obtain ⟨o, ho, h2⟩ := (anyN_iff _ _).mp ha
      simp only [Bool.and_eq_true] at h2
      have : bt (x &&& bs p n) o = true := by rw [b_and, bs_bt p hn (by omega)]; simp [h2.1, h2.2, ho]
      rw [h, b_00] at this
      cases this
  · intro h
    apply b_ext
    intro i hi
    rw [b_and, bs_bt p hn hi, b_00]
    cases hb : (bt x i && (decide (i < n) && p i))
    · rfl
    · exfalso
      simp only [Bool.and_eq_true, decide_eq_true_eq] at hb
      have := (anyN_iff (fun o => bt x o && p o) n).mpr ⟨i, hb.2.1, by simp [hb.1, hb.2.2]⟩
      rw [h] at this
      cases this
theorem last_do {V : sD} {set : Int32} {t ng : Nat} (hn : ng ≤ 6) : lastG (bt (set &&& bs (doP V t) ng)) 6 = lastG (deedP V set t) ng := by
  have h : ∀ g, g < 6 → bt (set &&& bs (doP V t) ng) g = (decide (g < ng) && deedP V set t g) := by
    intro g hg
    rw [b_and, bs_bt _ (by omega) (by omega)]
    unfold deedP doP
    cases bt set g <;> cases decide (g < ng) <;> simp
  rw [lastG_congr h, lastG_more (n := ng) (by omega) fun g h1 h2 => by simp [show ¬ g < ng by omega]]
  exact lastG_congr fun g hg => by simp [hg]
theorem do_0 {V : sD} {set : Int32} {t ng : Nat} (hn : ng ≤ 6) : (set &&& bs (doP V t) ng = Int32.ofNat 0) ↔ lastG (deedP V set t) ng = none := by
  rw [lastG_none, ← decide_eq_true_eq (p := (set &&& bs (doP V t) ng = Int32.ofNat 0)), and_bs (by omega), Bool.not_eq_true']
  constructor
  · intro h g hg
    cases hd : deedP V set t g
    · rfl
    · have := (anyN_iff (fun o => bt set o && doP V t o) ng).mpr ⟨g, hg, hd⟩
      rw [h] at this
      cases this
  · intro h
    cases ha : anyN (fun o => bt set o && doP V t o) ng
    · rfl
    · obtain ⟨o, ho, h2⟩ := (anyN_iff _ _).mp ha
      have h3 := h o ho
      unfold deedP at h3
      unfold doP at h2
      rw [h2] at h3
      cases h3
theorem sub_tr {x y z : Int32} (h1 : x &&& (y ^^^ -1) = Int32.ofNat 0) (h2 : y &&& (z ^^^ -1) = Int32.ofNat 0) : x &&& (z ^^^ -1) = Int32.ofNat 0 := by
  apply b_ext
  intro i hi
  have e1 := congrArg (fun q => bt q i) h1
  have e2 := congrArg (fun q => bt q i) h2
  simp only [b_and, b_xor, b_00, b_m1 i hi] at e1 e2 ⊢
  cases hx : bt x i <;> cases hy : bt y i <;> cases hz : bt z i <;> simp_all
def Wk (D : sD) (w : Nat) (V : sD) (nt ng : Nat) : Prop := D w 2 = Int32.ofNat nt ∧ D w 3 = V 0 4 ∧ (∀ i, i < nt → D (w + 3) i = Int32.ofNat ((oL V nt).getD i 0)) ∧ (∀ t, t < nt → D (w + 4) t = mbS V 4 nt t ∧ D (w + 5) t = mbS V 5 nt t) ∧ ∀ t, t < nt → D (w + 6) t = bs (doP V t) ng
def Wf (D : sD) (w : Nat) (V : sD) (nt ng : Nat) (first within : Int32) : Prop := ∀ z, z < 64 → Int32.ofNat z &&& (within ^^^ -1) = Int32.ofNat 0 → D (w + 1) z = wS V nt ng first (Int32.ofNat z) ∧ D (w + 2) z = aliveS V ng (wS V nt ng first (Int32.ofNat z))
section C52
variable {nx : Nat} {xs : Nat → Int32} {d c s : Nat} {sh : List sC} {D : sD} {Q : av_Q}
variable {V : sD} {a w nt ng nr nl g t : Nat}
theorem k88 {set first : Int32} (hw : WT sh) (I : Iv V nt ng nr nl) (HW : Wsh sh w) (hk : Wk D w V nt ng)
    (kk : Q (.inl (some (.int (wS V nt ng first set)))) (mk sh D) c s) :
    Wx (tP nx xs) (d + 1) 88 0 [some (.ref w), (some (.int (set))), (some (.int (first))), none, none, none, none, none, none] [] (mk sh D) c s Q := by
  have hnt := i_nt8 I
  have hng := i_ng6 I
  obtain ⟨h2, h3, ho, hm, hd⟩ := hk
  have hat : ∀ t, t < nt → ∃ n, n < 16 ∧ V 2 t = Int32.ofNat n := fun t ht => i_at I ht
  have hlen := oL_nt hat
  rw [wS_oL, ← foldl_fo, hlen] at kk
  simp only [b88_0 hw]
  refine up_P (W := fun i so D => ∀ l5 l6 l7 l8, Wx (tP nx xs) (d + 1) 88 5 [some (.ref w), (some (.int (set))), (some (.int (first))), (some (.int (so))), (some (.int (Int32.ofNat i))), l5, l6, l7, l8] [] (mk sh D) c s Q) (P := fun _ _ D' => D' = D) (F := fun i so => wStep V nt ng first set so ((oL V nt).getD i 0)) nt ?_ (Int32.ofNat 0) D rfl ?_ none none none none
  · intro i so D1 hi hD k l5 l6 l7 l8
    subst hD
    have hi8 : i < 8 := by omega
    have htn : (oL V nt).getD i 0 < nt := oL_mem _ (by
      rw [List.getD_eq_getElem?_getD, List.getElem?_eq_getElem (by omega)]
      exact List.getElem_mem _)
    generalize ht : (oL V nt).getD i 0 = t at *
    have ht8 : t < 8 := by omega
    obtain ⟨hm4, hm5⟩ := hm t htn
    have k := fun so' e l5 l6 l7 l8 => (e : wStep V nt ng first set so t = so') ▸ k D1 rfl l5 l6 l7 l8
    rw [b88_5 hw]
    simp only [uI_c HW, uR_or HW, uR_do HW, uR_mb HW, wi_some, or_0, or_1, bo_or, ite_boP, true_and, and_true, kN_v, kN_n, kT_v, kT_n, kT_e, Nat.add_zero, Nat.zero_add, h2, oN_lt (show i < 2147483648 by omega) (show nt < 2147483648 by omega), hi, if_true, uA_3 HW hi8, ho i hi, ht, uA_6 HW ht8, hd t htn, uA_4 HW ht8, hm4, jshr_b (show t < 32 by omega)]
    have nxt : ∀ (is : Bool) l6 l8, soP V nt ng first set so t = is → Wx (tP nx xs) (d + 1) 88 102 [some (.ref w), (some (.int (set))), (some (.int (first))), (some (.int (so))), (some (.int (Int32.ofNat i))), (some (.int (Int32.ofNat t))), (some (.int (l6))), (some (.int (bo is))), l8] [] (mk sh D1) c s Q := by
      intro is l6 l8 his
      simp only [b88_102 hw, b88_114 hw, oN_add, wi_some, or_0, or_1, bo_or, ite_boP, true_and, and_true, kN_v, kN_n, kT_v, kT_n, kT_e, Nat.add_zero, Nat.zero_add]
      cases is with
      | true =>
        simp only [if_true]
        exact k _ (by unfold wStep; rw [his]; rfl) _ _ _ _
      | false =>
        simp only [Bool.false_eq_true, if_false]
        exact k _ (by unfold wStep; rw [his]; rfl) _ _ _ _
    by_cases hdd : set &&& bs (doP V t) ng = Int32.ofNat 0
    · have hl := (do_0 hng).mp hdd
      have esp : soP V nt ng first set so t = ((bt first t || anyN (fun o => bt so o && bt (V 4 o) t) nt) && !anyN (fun o => bt so o && bt (V 5 o) t) nt) := by unfold soP; rw [hl]
      have e4 := and_bs (p := fun o => bt (V 4 o) t) (n := nt) (by omega) so
      have e5 := and_bs (p := fun o => bt (V 5 o) t) (n := nt) (by omega) so
      simp only [hdd, if_true]
      have tail : ∀ y0 l7, y0 = (bt first t || anyN (fun o => bt so o && bt (V 4 o) t) nt) → Wx (tP nx xs) (d + 1) 88 76 [some (.ref w), (some (.int (set))), (some (.int (first))), (some (.int (so))), (some (.int (Int32.ofNat i))), (some (.int (Int32.ofNat t))), (some (.int (Int32.ofNat 0))), l7, l8] [.int (bo y0)] (mk sh D1) c s Q := by
        intro y0 l7 hy
        rw [← hy] at esp
        simp only [b88_76 hw, b88_99 hw, b88_100 hw, uR_hb HW, wi_some, or_0, or_1, bo_or, ite_boP, true_and, and_true, kN_v, kN_n, kT_v, kT_n, kT_e, Nat.add_zero, Nat.zero_add, uA_5 HW ht8, hm5]
        cases y0 with
        | false =>
          simp only [Bool.false_eq_true, if_false]
          exact nxt false _ _ (by rw [esp]; rfl)
        | true =>
          simp only [if_true]
          by_cases h5 : so &&& mbS V 5 nt t = Int32.ofNat 0
          · simp only [h5, if_true]
            refine nxt true _ _ ?_
            unfold mbS at h5
            rw [decide_eq_true h5] at e5
            rw [esp, ← e5]
            rfl
          · simp only [h5, if_false]
            refine nxt false _ _ ?_
            unfold mbS at h5
            rw [decide_eq_false h5] at e5
            rw [esp, ← e5]
            rfl
      cases hf : bt first t with
      | true =>
        simp only [if_true, b88_71 hw]
        exact tail true _ (by rw [hf]; rfl)
      | false =>
        simp only [Bool.false_eq_true, if_false, b88_71 hw]
        by_cases h4 : so &&& mbS V 4 nt t = Int32.ofNat 0
        · simp only [h4, if_true]
          refine tail false _ ?_
          unfold mbS at h4
          rw [decide_eq_true h4] at e4
          rw [hf]
          cases ha : anyN (fun o => bt so o && bt (V 4 o) t) nt
          · rfl
          · rw [ha] at e4; cases e4
        · simp only [h4, if_false]
          refine tail true _ ?_
          unfold mbS at h4
          rw [decide_eq_false h4] at e4
          rw [hf]
          cases ha : anyN (fun o => bt so o && bt (V 4 o) t) nt
          · rw [ha] at e4; cases e4
          · rfl
    · simp only [hdd, if_false, uO HW, wi_some, or_0, or_1, bo_or, ite_boP, true_and, and_true, kN_v, kN_n, kT_v, kT_n, kT_e, Nat.add_zero, Nat.zero_add, k89 hw HW, h3, last_do hng, b88_45 hw]
      have hl : ¬ lastG (deedP V set t) ng = none := fun h => hdd ((do_0 hng).mpr h)
      cases hg : lastG (deedP V set t) ng with
      | none => exact absurd hg hl
      | some g =>
        simp only
        exact nxt (bt (V 0 4) g) _ _ (by unfold soP; rw [hg])
  · intro D1 hD l5 l6 l7 l8
    subst hD
    rw [b88_5 hw]
    simp only [uI_c HW, wi_some, or_0, or_1, bo_or, ite_boP, true_and, and_true, kN_v, kN_n, kT_v, kT_n, kT_e, Nat.add_zero, Nat.zero_add, h2, oN_lt (show nt < 2147483648 by omega) (show nt < 2147483648 by omega), Nat.lt_irrefl, if_false]
    exact kk
theorem k84 {first within : Int32} (hw : WT sh) (H : St sh a) (hV : Vw D a V) (I : Iv V nt ng nr nl) (HW : Wsh sh w) (haw : a + 17 ≤ w)
    (kk : ∀ D', (∀ b, (b < w ∨ w + 7 ≤ b) → D' b = D b) → Wf D' w V nt ng first within → Q (.inl none) (mk sh D') c s) :
    Wx (tP nx xs) (d + 2) 84 0 [some (.ref w), some (.ref a), (some (.int (first))), (some (.int (within))), none] [] (mk sh D) c s Q := by
  have hnt := i_nt8 I
  have hng := i_ng6 I
  have n1 : ¬ a = w := by omega
  simp only [b84_0 hw, b84_11 hw, b84_19 hw, uF_c HW, uF_m HW, uO HW, sR_things H, sI_goers H, sF_goers H, sR_wish H, sR_deed H, sI_makers H, sF_makers H, sR_born H, sR_money H, sR_nerve H, sR_shuns H, sR_by H, sI_trains H, sF_trains H, sR_halts H, sR_seats H, sI_texts H, sF_texts H, sI_law H, sF_law H, sI_day H, sF_day H, sI_seed H, sF_seed H, sR_log H, sO_state H, sI_count H, sF_count H, sI_first H, sF_first H, sR_at H, sR_worth H, sR_makes H, sR_hinders H, sO_things H, sI_rows H, sF_rows H, sR_entries H, sO_log H, sA_2 H, sW_2 H, sA_3 H, sW_3 H, sA_4 H, sW_4 H, sA_5 H, sW_5 H, sA_6 H, sW_6 H, sA_7 H, sW_7 H, sA_8 H, sW_8 H, sA_9 H, sW_9 H, sA_10 H, sW_10 H, sA_11 H, sW_11 H, sA_12 H, sW_12 H, sA_13 H, sW_13 H, sA_14 H, sW_14 H, sA_16 H, sW_16 H, wi_some, or_0, or_1, bo_or, ite_boP, true_and, and_true, kN_v, kN_n, kT_v, kT_n, kT_e, Nat.add_zero, Nat.zero_add, v_0 hV, v_1 hV, v_2 hV, v_3 hV, v_4 hV, v_5 hV, v_6 hV, v_7 hV, v_8 hV, v_9 hV, v_10 hV, v_11 hV, v_12 hV, v_13 hV, v_14 hV, v_15 hV, v_16 hV, u2_o, n1, not_false_eq_true, i_nt I]
  have hV1 : Vw (u2 (u2 D w 2 (Int32.ofNat nt)) w 3 (V 0 4)) a V := fun k i hk => by
    simp only [u2_at]
    rw [if_neg (by omega), if_neg (by omega)]
    exact hV k i hk
  refine k85 hw H hV1 I HW haw (by simp [u2_at]) ?_
  intro D1 f1 o1
  have hV2 : Vw D1 a V := fun k i hk => by rw [f1 _ (by omega)]; exact hV1 k i hk
  have c1 : D1 w 2 = Int32.ofNat nt := by rw [f1 _ (by omega)]; simp [u2_at]
  have m1 : D1 w 3 = V 0 4 := by rw [f1 _ (by omega)]; simp [u2_at]
  simp only [b84_27 hw, uO HW, sR_things H, sI_goers H, sF_goers H, sR_wish H, sR_deed H, sI_makers H, sF_makers H, sR_born H, sR_money H, sR_nerve H, sR_shuns H, sR_by H, sI_trains H, sF_trains H, sR_halts H, sR_seats H, sI_texts H, sF_texts H, sI_law H, sF_law H, sI_day H, sF_day H, sI_seed H, sF_seed H, sR_log H, sO_state H, sI_count H, sF_count H, sI_first H, sF_first H, sR_at H, sR_worth H, sR_makes H, sR_hinders H, sO_things H, sI_rows H, sF_rows H, sR_entries H, sO_log H, sA_2 H, sW_2 H, sA_3 H, sW_3 H, sA_4 H, sW_4 H, sA_5 H, sW_5 H, sA_6 H, sW_6 H, sA_7 H, sW_7 H, sA_8 H, sW_8 H, sA_9 H, sW_9 H, sA_10 H, sW_10 H, sA_11 H, sW_11 H, sA_12 H, sW_12 H, sA_13 H, sW_13 H, sA_14 H, sW_14 H, sA_16 H, sW_16 H, wi_some, or_0, or_1, bo_or, ite_boP, true_and, and_true, kN_v, kN_n, kT_v, kT_n, kT_e, Nat.add_zero, Nat.zero_add]
  refine k86 hw H hV2 I HW haw c1 ?_
  intro D2 f2 t2
  have hV3 : Vw D2 a V := fun k i hk => by rw [f2 _ (by omega) (by omega)]; exact hV2 k i hk
  simp only [b84_35 hw, uO HW, sR_things H, sI_goers H, sF_goers H, sR_wish H, sR_deed H, sI_makers H, sF_makers H, sR_born H, sR_money H, sR_nerve H, sR_shuns H, sR_by H, sI_trains H, sF_trains H, sR_halts H, sR_seats H, sI_texts H, sF_texts H, sI_law H, sF_law H, sI_day H, sF_day H, sI_seed H, sF_seed H, sR_log H, sO_state H, sI_count H, sF_count H, sI_first H, sF_first H, sR_at H, sR_worth H, sR_makes H, sR_hinders H, sO_things H, sI_rows H, sF_rows H, sR_entries H, sO_log H, sA_2 H, sW_2 H, sA_3 H, sW_3 H, sA_4 H, sW_4 H, sA_5 H, sW_5 H, sA_6 H, sW_6 H, sA_7 H, sW_7 H, sA_8 H, sW_8 H, sA_9 H, sW_9 H, sA_10 H, sW_10 H, sA_11 H, sW_11 H, sA_12 H, sW_12 H, sA_13 H, sW_13 H, sA_14 H, sW_14 H, sA_16 H, sW_16 H, wi_some, or_0, or_1, bo_or, ite_boP, true_and, and_true, kN_v, kN_n, kT_v, kT_n, kT_e, Nat.add_zero, Nat.zero_add]
  refine k87 hw H hV3 I HW haw ?_
  intro D3 f3 d3
  have hV4 : Vw D3 a V := fun k i hk => by rw [f3 _ (by omega)]; exact hV3 k i hk
  have hk3 : Wk D3 w V nt ng := by
    refine ⟨?_, ?_, ?_, ?_, d3⟩
    · rw [f3 _ (by omega), f2 _ (by omega) (by omega)]; exact c1
    · rw [f3 _ (by omega), f2 _ (by omega) (by omega)]; exact m1
    · intro i hi; rw [f3 _ (by omega), f2 _ (by omega) (by omega)]; exact o1 i hi
    · intro t ht; rw [f3 _ (by omega), f3 _ (by omega)]; exact t2 t ht
  have fr3 : ∀ b, (b < w ∨ w + 7 ≤ b) → D3 b = D b := fun b hb => by
    rw [f3 _ (by omega), f2 _ (by omega) (by omega), f1 _ (by omega)]
    funext j
    simp only [u2_at]
    rw [if_neg (by omega), if_neg (by omega)]
  simp only [b84_40 hw, wi_some, or_0, or_1, bo_or, ite_boP, true_and, and_true, kN_v, kN_n, kT_v, kT_n, kT_e, Nat.add_zero, Nat.zero_add]
  refine up_P (W := fun z (_ : Nat) D => Wx (tP nx xs) (d + 2) 84 43 [some (.ref w), some (.ref a), (some (.int (first))), (some (.int (within))), (some (.int (Int32.ofNat z)))] [] (mk sh D) c s Q) (P := fun z _ D' => (∀ b, b ≠ w + 1 → b ≠ w + 2 → D' b = D3 b) ∧ ∀ y, y < z → Int32.ofNat y &&& (within ^^^ -1) = Int32.ofNat 0 → D' (w + 1) y = wS V nt ng first (Int32.ofNat y) ∧ D' (w + 2) y = aliveS V ng (wS V nt ng first (Int32.ofNat y))) (F := fun _ x => x) 64 ?_ 0 D3 ⟨fun _ _ _ => rfl, fun y hy => by omega⟩ ?_
  · intro z _ D4 hz ⟨f4, w4⟩ k
    have hV5 : Vw D4 a V := fun k i hk => by rw [f4 _ (by omega) (by omega)]; exact hV4 k i hk
    have hk4 : Wk D4 w V nt ng := by
      unfold Wk
      rw [f4 w (by omega) (by omega), f4 (w + 3) (by omega) (by omega), f4 (w + 4) (by omega) (by omega), f4 (w + 5) (by omega) (by omega), f4 (w + 6) (by omega) (by omega)]
      exact hk3
    rw [b84_43 hw]
    simp only [oN_lt (show z < 2147483648 by omega) (show 64 < 2147483648 by omega), hz, if_true]
    by_cases hs : Int32.ofNat z &&& (within ^^^ -1) = Int32.ofNat 0
    · simp only [hs, if_true, uR_so HW, uO HW, wi_some, or_0, or_1, bo_or, ite_boP, true_and, and_true, kN_v, kN_n, kT_v, kT_n, kT_e, Nat.add_zero, Nat.zero_add]
      refine k88 hw I HW hk4 ?_
      generalize hx : wS V nt ng first (Int32.ofNat z) = x at *
      have n21 : ¬ a = w + 1 := by omega
      have hV6 : Vw (u2 D4 (w + 1) z x) a V := fun k i hk => by
        rw [u2_at, if_neg (by omega)]
        exact hV5 k i hk
      have e1 : u2 D4 (w + 1) z x (w + 1) z = x := by simp [u2_at]
      simp only [b84_72 hw, b84_73 hw, b84_90 hw, b84_91 hw, uR_so HW, uR_al HW, uW_1 HW hz, uW_2 HW hz, uA_1 HW hz, sR_things H, sI_goers H, sF_goers H, sR_wish H, sR_deed H, sI_makers H, sF_makers H, sR_born H, sR_money H, sR_nerve H, sR_shuns H, sR_by H, sI_trains H, sF_trains H, sR_halts H, sR_seats H, sI_texts H, sF_texts H, sI_law H, sF_law H, sI_day H, sF_day H, sI_seed H, sF_seed H, sR_log H, sO_state H, sI_count H, sF_count H, sI_first H, sF_first H, sR_at H, sR_worth H, sR_makes H, sR_hinders H, sO_things H, sI_rows H, sF_rows H, sR_entries H, sO_log H, sA_2 H, sW_2 H, sA_3 H, sW_3 H, sA_4 H, sW_4 H, sA_5 H, sW_5 H, sA_6 H, sW_6 H, sA_7 H, sW_7 H, sA_8 H, sW_8 H, sA_9 H, sW_9 H, sA_10 H, sW_10 H, sA_11 H, sW_11 H, sA_12 H, sW_12 H, sA_13 H, sW_13 H, sA_14 H, sW_14 H, sA_16 H, sW_16 H, wi_some, or_0, or_1, bo_or, ite_boP, true_and, and_true, kN_v, kN_n, kT_v, kT_n, kT_e, Nat.add_zero, Nat.zero_add, oN_tn (show z < 2147483648 by omega), e1, k43 hw H hV6 I, oN_add]
      refine k _ ⟨?_, ?_⟩
      · intro b h1 h2
        rw [← f4 b h1 h2]
        funext j
        simp only [u2_at]
        rw [if_neg (by omega), if_neg (by omega)]
      · intro y hy hsy
        by_cases e : y = z
        · subst e
          refine ⟨?_, ?_⟩
          · rw [u2_at, if_neg (by omega), u2_at, if_pos ⟨rfl, rfl⟩, hx]
          · rw [u2_at, if_pos ⟨rfl, rfl⟩, hx]
        · refine ⟨?_, ?_⟩
          · rw [u2_at, if_neg (by omega), u2_at, if_neg (by omega)]; exact (w4 y (by omega) hsy).1
          · rw [u2_at, if_neg (by omega), u2_at, if_neg (by omega)]; exact (w4 y (by omega) hsy).2
    · simp only [hs, if_false, b84_91 hw, oN_add]
      refine k D4 ⟨f4, fun y hy hsy => ?_⟩
      by_cases e : y = z
      · subst e; exact absurd hsy hs
      · exact w4 y (by omega) hsy
  · intro D4 ⟨f4, w4⟩
    rw [b84_43 hw]
    simp only [oN_lt (show 64 < 2147483648 by omega) (show 64 < 2147483648 by omega), Nat.lt_irrefl, if_false]
    exact kk D4 (fun b hb => by rw [f4 b (by omega) (by omega)]; exact fr3 b hb) w4
theorem k131 {x y : Int32} (hw : WT sh) : Wx (tP nx xs) (d + 1) 131 0 [(some (.int (x))), (some (.int (y)))] [] (mk sh D) c s Q = Q (.inl (some (.int (bo (fewer x y))))) (mk sh D) c s := by
  simp only [b131_0 hw, b131_9 hw, b131_13 hw, b131_16 hw, b131_21 hw, wi_some, or_0, or_1, bo_or, ite_boP, true_and, and_true, kN_v, kN_n, kT_v, kT_n, kT_e, Nat.add_zero, Nat.zero_add, k357 hw, fewer]
  by_cases h1 : y = -1
  · simp only [h1, if_true, decide_true, Bool.true_or, bo_t]
  · by_cases h2 : bc x < bc y
    · simp only [h1, h2, if_true, if_false, decide_true, Bool.or_true, bo_t]
    · simp only [h1, h2, if_false, decide_false, Bool.or_false, bo_f]
variable {first within : Int32}
theorem k90 {z g0 : Nat} (hw : WT sh) (HW : Wsh sh w) (hf : Wf D w V nt ng first within) (hz : z < 64) (hs : Int32.ofNat z &&& (within ^^^ -1) = Int32.ofNat 0) : Wx (tP nx xs) d 90 0 [some (.ref w), (some (.int (Int32.ofNat z))), (some (.int (Int32.ofNat g0)))] [] (mk sh D) c s Q = Q (.inl (some (.int (bo (decide (Int32.ofNat g0 &&& aliveS V ng (wS V nt ng first (Int32.ofNat z)) = Int32.ofNat z)))))) (mk sh D) c s := by
  simp only [b90_0 hw, b90_17 hw, uR_al HW, uA_2 HW hz, (hf z hz hs).2, wi_some, or_0, or_1, bo_or, ite_boP, true_and, and_true, kN_v, kN_n, kT_v, kT_n, kT_e, Nat.add_zero, Nat.zero_add]
  by_cases h : Int32.ofNat g0 &&& aliveS V ng (wS V nt ng first (Int32.ofNat z)) = Int32.ofNat z
  · simp only [h, if_true, decide_true, bo_t]
  · simp only [h, if_false, decide_false, bo_f]
theorem k91 {g0 : Nat} (hw : WT sh) (HW : Wsh sh w) (hf : Wf D w V nt ng first within) (hg : g0 < 64) (hs : Int32.ofNat g0 &&& (within ^^^ -1) = Int32.ofNat 0) : Wx (tP nx xs) (d + 1) 91 0 [some (.ref w), (some (.int (Int32.ofNat g0))), none, none] [] (mk sh D) c s Q = Q (.inl (some (.int (Int32.ofNat (cntS V nt ng first g0))))) (mk sh D) c s := by
  simp only [b91_0 hw]
  refine (up_loop (W := fun i (x : Nat) => Wx (tP nx xs) (d + 1) 91 4 [some (.ref w), (some (.int (Int32.ofNat g0))), (some (.int (Int32.ofNat x))), (some (.int (Int32.ofNat i)))] [] (mk sh D) c s Q) (F := fun z x => if agP V nt ng first (Int32.ofNat g0) (Int32.ofNat z) then x + 1 else x) (g0 + 1) (fun i x hi => ?_) 0).trans ?_
  · have h1 : ¬ g0 < i := by omega
    rw [b91_4 hw]
    simp only [oN_lt (show g0 < 2147483648 by omega) (show i < 2147483648 by omega), h1, if_false, uO HW, wi_some, or_0, or_1, bo_or, ite_boP, true_and, and_true, kN_v, kN_n, kT_v, kT_n, kT_e, Nat.add_zero, Nat.zero_add]
    by_cases h2 : Int32.ofNat i &&& (Int32.ofNat g0 ^^^ -1) = Int32.ofNat 0
    · simp only [h2, if_true, k90 hw HW hf (show i < 64 by omega) (sub_tr h2 hs), b91_23 hw, b91_29 hw, wi_some, or_0, or_1, bo_or, ite_boP, true_and, and_true, kN_v, kN_n, kT_v, kT_n, kT_e, Nat.add_zero, Nat.zero_add, oN_add, agP, decide_true, Bool.true_and]
      by_cases h3 : Int32.ofNat g0 &&& aliveS V ng (wS V nt ng first (Int32.ofNat i)) = Int32.ofNat i
      · simp only [h3, decide_true, if_true]
      · simp only [h3, decide_false, Bool.false_eq_true, if_false]
    · simp only [h2, if_false, b91_29 hw, oN_add, agP, decide_false, Bool.false_and, Bool.false_eq_true]
  · have h1 : g0 < g0 + 1 := by omega
    rw [b91_4 hw]
    simp only [oN_lt (show g0 < 2147483648 by omega) (show g0 + 1 < 2147483648 by omega), h1, if_true]
    rfl
theorem k92 {g0 : Nat} (hw : WT sh) (HW : Wsh sh w) (hf : Wf D w V nt ng first within) (hg : g0 < 64) (hs : Int32.ofNat g0 &&& (within ^^^ -1) = Int32.ofNat 0) : Wx (tP nx xs) (d + 2) 92 0 [some (.ref w), (some (.int (Int32.ofNat g0))), none, none] [] (mk sh D) c s Q = Q (.inl (some (.int (pastS V nt ng first g0)))) (mk sh D) c s := by
  simp only [b92_0 hw]
  refine (up_loop (W := fun i x => Wx (tP nx xs) (d + 2) 92 4 [some (.ref w), (some (.int (Int32.ofNat g0))), (some (.int (x))), (some (.int (Int32.ofNat i)))] [] (mk sh D) c s Q) (F := fun z best => if agP V nt ng first (Int32.ofNat g0) (Int32.ofNat z) && fewer (Int32.ofNat z) best then Int32.ofNat z else best) (g0 + 1) (fun i x hi => ?_) (-1)).trans ?_
  · have h1 : ¬ g0 < i := by omega
    rw [b92_4 hw]
    simp only [oN_lt (show g0 < 2147483648 by omega) (show i < 2147483648 by omega), h1, if_false, uO HW, wi_some, or_0, or_1, bo_or, ite_boP, true_and, and_true, kN_v, kN_n, kT_v, kT_n, kT_e, Nat.add_zero, Nat.zero_add, k131 hw]
    by_cases h2 : Int32.ofNat i &&& (Int32.ofNat g0 ^^^ -1) = Int32.ofNat 0
    · simp only [h2, if_true, b92_22 hw, uO HW, k90 hw HW hf (show i < 64 by omega) (sub_tr h2 hs), b92_31 hw, b92_36 hw, wi_some, or_0, or_1, bo_or, ite_boP, true_and, and_true, kN_v, kN_n, kT_v, kT_n, kT_e, Nat.add_zero, Nat.zero_add, oN_add, agP, decide_true, Bool.true_and]
      cases fewer (Int32.ofNat i) x
      · simp only [Bool.false_eq_true, if_false, Bool.and_false]
      · simp only [if_true, Bool.and_true]
        by_cases h3 : Int32.ofNat g0 &&& aliveS V ng (wS V nt ng first (Int32.ofNat i)) = Int32.ofNat i
        · simp only [h3, decide_true, if_true]
        · simp only [h3, decide_false, Bool.false_eq_true, if_false]
    · simp only [h2, if_false, b92_36 hw, oN_add, agP, decide_false, Bool.false_and, Bool.false_eq_true]
  · have h1 : g0 < g0 + 1 := by omega
    rw [b92_4 hw]
    simp only [oN_lt (show g0 < 2147483648 by omega) (show g0 + 1 < 2147483648 by omega), h1, if_true]
    rfl
theorem k93 {g0 : Nat} (hw : WT sh) (HW : Wsh sh w) (hf : Wf D w V nt ng first within) (hg : g0 < 64) (hs : Int32.ofNat g0 &&& (within ^^^ -1) = Int32.ofNat 0) : Wx (tP nx xs) (d + 3) 93 0 [some (.ref w), (some (.int (Int32.ofNat g0))), none] [] (mk sh D) c s Q = Q (.inl (some (.int (nowS V nt ng first g0)))) (mk sh D) c s := by
  simp only [b93_0 hw, uO HW, wi_some, or_0, or_1, bo_or, ite_boP, true_and, and_true, kN_v, kN_n, kT_v, kT_n, kT_e, Nat.add_zero, Nat.zero_add, k92 hw HW hf hg hs, b93_5 hw, uR_so HW, b93_20 hw]
  unfold nowS
  rcases pastS_cases V nt ng first g0 with h | ⟨z, hz, h, ha⟩
  · have h0 : 0 < 64 := by decide
    have hs0 : Int32.ofNat 0 &&& (within ^^^ -1) = Int32.ofNat 0 := by
      apply b_ext
      intro i hi
      rw [b_and, b_00]
      rfl
    simp only [h, if_true, uA_1 HW h0, wi_some, or_0, or_1, bo_or, ite_boP, true_and, and_true, kN_v, kN_n, kT_v, kT_n, kT_e, Nat.add_zero, Nat.zero_add, (hf 0 h0 hs0).1]
  · have hz64 : z < 64 := by omega
    have h1 : ¬ Int32.ofNat z = -1 := by rw [oN_ne1 (by omega)]; exact id
    have hsz : Int32.ofNat z &&& (within ^^^ -1) = Int32.ofNat 0 := by
      unfold agP at ha
      simp only [Bool.and_eq_true, decide_eq_true_eq] at ha
      exact sub_tr ha.1 hs
    simp only [h, h1, if_false, uA_1 HW hz64, wi_some, or_0, or_1, bo_or, ite_boP, true_and, and_true, kN_v, kN_n, kT_v, kT_n, kT_e, Nat.add_zero, Nat.zero_add, (hf z hz64 hsz).1]
end C52
