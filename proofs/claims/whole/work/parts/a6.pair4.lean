/-! ===== pairing, the reference ===== -/
def fz (V : sD) (z i : Nat) : Bool := bt (Int32.ofNat z) i && decide (V 12 i = -1)
def TT (V : sD) (ng z : Nat) : Nat := pvS V ng 0 (fz V z)
theorem low_of : ∀ z, z < 64 → ∀ g, g < 6 → bt (Int32.ofNat z) g = true → (∀ i, i < 6 → i < g → bt (Int32.ofNat z) i = false) → lowB 6 z = g := by decide +kernel
theorem low_is : ∀ z, z < 64 → 1 ≤ z → bt (Int32.ofNat z) (lowB 6 z) = true ∧ ∀ i, i < 6 → i < lowB 6 z → bt (Int32.ofNat z) i = false := by decide +kernel
theorem cl_lt : ∀ g, g < 6 → ∀ z, z < 64 → bt (Int32.ofNat z) g = true → clN z g < z := by decide +kernel
theorem TT_0 {V : sD} {ng : Nat} : TT V ng 0 = 0 := by
  unfold TT
  have h := pv_skip (V := V) (f := fz V 0) (r := 0) ng 0 fun i _ _ => by unfold fz; rw [show bt (Int32.ofNat 0) i = false from b_00 i]; rfl
  rw [Nat.add_zero] at h
  rw [h]
  rfl
theorem TT_6 {V : sD} {ng z : Nat} : TT V ng z ≤ ng := pv_le _ _ _
section CA6
variable {nx : Nat} {xs : Nat → Int32} {d c s : Nat} {sh : List sC} {D : sD} {Q : av_Q}
variable {V : sD} {nt ng nr nl z g : Nat}
theorem fz_cl {o : Nat} (ho : o < 6) (hz : z < 64) (i : Nat) : fz V (clN z o) i = clF (fz V z) o i := by
  show (bt (Int32.ofNat (clN z o)) i && decide (V 12 i = -1)) = ((bt (Int32.ofNat z) i && decide (V 12 i = -1)) && decide (i ≠ o))
  rw [clN_bt ho hz]
  show ((bt (Int32.ofNat z) i && decide (i ≠ o)) && _) = _
  cases bt (Int32.ofNat z) i <;> cases decide (V 12 i = -1) <;> cases decide (i ≠ o) <;> rfl
theorem TT_z (hl : ∀ i, i < g → bt (Int32.ofNat z) i = false) (hg : g < ng) : TT V ng z = pvS V (ng - g - 1 + 1) g (fz V z) := by
  unfold TT
  have h := pv_skip (V := V) (f := fz V z) (r := ng - g - 1 + 1) g 0 fun i _ hi => by unfold fz; rw [hl i (by omega)]; rfl
  rw [show g + (ng - g - 1 + 1) = ng by omega, Nat.zero_add] at h
  exact h
theorem TT_z1 (hz : z < 64) (hng : ng ≤ 6) (hl : ∀ i, i < g → bt (Int32.ofNat z) i = false) (hg : g < ng) : TT V ng (clN z g) = pvS V (ng - g - 1) (g + 1) (fz V z) := by
  unfold TT
  have h := pv_skip (V := V) (f := fz V (clN z g)) (r := ng - g - 1) (g + 1) 0 fun i _ hi => by
    rw [fz_cl (by omega) hz]
    unfold clF fz
    by_cases e : i = g
    · simp [e]
    · rw [hl i (by omega)]; rfl
  rw [show g + 1 + (ng - g - 1) = ng by omega, Nat.zero_add] at h
  rw [h]
  exact pvS_c _ _ _ _ fun i h1 _ => by
    rw [fz_cl (by omega) hz]
    unfold clF
    rw [decide_eq_true (show i ≠ g by omega), Bool.and_true]
theorem TT_z2 {o : Nat} (hz : z < 64) (hng : ng ≤ 6) (hl : ∀ i, i < g → bt (Int32.ofNat z) i = false) (hg : g < ng) (ho : o < ng) : TT V ng (clN (clN z g) o) = pvS V (ng - g - 1) (g + 1) (clF (fz V z) o) := by
  have c1 := (clN_of g (by omega) z hz).2
  have e : ∀ i, fz V (clN (clN z g) o) i = clF (clF (fz V z) g) o i := fun i => by
    rw [fz_cl (by omega) (by omega)]
    unfold clF
    rw [fz_cl (by omega) hz]
    rfl
  unfold TT
  have h := pv_skip (V := V) (f := fz V (clN (clN z g) o)) (r := ng - g - 1) (g + 1) 0 fun i _ hi => by
    rw [e]
    unfold clF fz
    by_cases e : i = g
    · simp [e]
    · rw [hl i (by omega)]; rfl
  rw [show g + 1 + (ng - g - 1) = ng by omega, Nat.zero_add] at h
  rw [h]
  exact pvS_c _ _ _ _ fun i h1 _ => by
    rw [e]
    unfold clF
    rw [decide_eq_true (show i ≠ g by omega), Bool.and_true]
/-- what he has with one -/
def pbP (V : sD) (z g o : Nat) : Bool := bt (Int32.ofNat (clN z g)) o && cpP V g o
def pbV (V : sD) (ng z g o : Nat) : Nat := (if V 6 g = V 6 o then 1 else 0) + TT V ng (clN (clN z g) o)
def pbI (V : sD) (ng z g o : Nat) : Int32 := if pbP V z g o then Int32.ofNat (pbV V ng z g o) else -1
theorem pb_cP (hz : z < 64) (hng : ng ≤ 6) (hb : bt (Int32.ofNat z) g = true) (hl : ∀ i, i < g → bt (Int32.ofNat z) i = false) (hg : g < ng) {o : Nat} : cP V (fz V z) g o = (pbP V z g o && decide (V 6 g = V 6 o)) ∨ o = g := by
  by_cases e : o = g
  · exact Or.inr e
  · left
    unfold cP pbP cpP okQ fz
    rw [clN_bt (by omega) hz]
    unfold clF
    rw [hb, decide_eq_true e]
    cases bt (Int32.ofNat z) o <;> cases decide (V 12 g = -1) <;> cases decide (V 12 o = -1) <;> cases bt (V 11 g) o <;> cases decide (V 6 g = V 6 o) <;> rfl
theorem pbP_lo (hz : z < 64) (hng : ng ≤ 6) (hl : ∀ i, i < g → bt (Int32.ofNat z) i = false) (hg : g < ng) {o : Nat} (ho : o ≤ g) : pbP V z g o = false := by
  unfold pbP
  rw [clN_bt (by omega) hz]
  unfold clF
  by_cases e : o = g
  · simp [e]
  · rw [hl o (by omega)]; rfl
theorem pb_fold (hz : z < 64) (hng : ng ≤ 6) (hb : bt (Int32.ofNat z) g = true) (hl : ∀ i, i < g → bt (Int32.ofNat z) i = false) (hg : g < ng) : fo (fun o x => if pbP V z g o then max x (pbV V ng z g o) else x) ng 0 (TT V ng (clN z g)) = TT V ng z := by
  have h1 : fo (fun o x => if pbP V z g o then max x (pbV V ng z g o) else x) (g + 1) 0 (TT V ng (clN z g)) = TT V ng (clN z g) := fo_inv (F := fun o x => if pbP V z g o then max x (pbV V ng z g o) else x) (fun _ x => x = TT V ng (clN z g)) (g + 1) 0 _ rfl (fun o x _ ho ih => by rw [pbP_lo hz hng hl hg (by omega), ih]; rfl)
  rw [show ng = (g + 1) + (ng - g - 1) by omega]
  rw [fo_app, ← show ng = (g + 1) + (ng - g - 1) by omega, h1, fo_shift _ _ 0 (g + 1), TT_z hl hg, TT_z1 hz hng hl hg]
  have h2 := fo_rel (F := fun j x => if pbP V z g (g + 1 + j) then max x (pbV V ng z g (g + 1 + j)) else x) (G := fun j x => if cP V (fz V z) g (g + 1 + j) then max x (1 + pvS V (ng - g - 1) (g + 1) (clF (fz V z) (g + 1 + j))) else x) (fun _ x y => x = y ∧ pvS V (ng - g - 1) (g + 1) (fz V z) ≤ x) (ng - g - 1) 0 (pvS V (ng - g - 1) (g + 1) (fz V z)) (pvS V (ng - g - 1) (g + 1) (fz V z)) ⟨rfl, Nat.le_refl _⟩ (fun j x y _ hj ih => by
    obtain ⟨rfl, ih⟩ := ih
    have e := TT_z2 (V := V) hz hng hl hg (show g + 1 + j < ng by omega)
    rcases pb_cP (V := V) (o := g + 1 + j) hz hng hb hl hg with hc | hc
    · rw [hc]
      unfold pbV
      rw [e]
      cases pbP V z g (g + 1 + j) with
      | false => exact ⟨rfl, ih⟩
      | true =>
        by_cases hws : V 6 g = V 6 (g + 1 + j)
        · simp only [hws, decide_true, Bool.and_self, if_true]
          exact ⟨trivial, by omega⟩
        · have hm := pv_mono (V := V) (ng - g - 1) (g + 1) (clF (fz V z) (g + 1 + j)) (fz V z) fun i hi => clF_le hi
          simp only [hws, decide_false, Bool.and_false, if_true, Bool.false_eq_true, if_false]
          exact ⟨by omega, by omega⟩
    · omega)
  exact h2.1
theorem pb_le (hng : ng ≤ 6) {o : Nat} : pbV V ng z g o ≤ 7 := by
  unfold pbV
  have := TT_6 (V := V) (ng := ng) (z := clN (clN z g) o)
  split <;> omega
theorem k333n (hw : WT sh) (HS : SP sh) (hng : ng ≤ 6) (hz : z < 64) (hb : bt (Int32.ofNat z) g = true) (hl : ∀ i, i < g → bt (Int32.ofNat z) i = false) (hg : g < ng) (hT : ∀ y, y < z → D 299 y = Int32.ofNat (TT V ng y)) : Wx (tP nx xs) (d + 4) 333 0 [some (.ref 286), (some (.int (Int32.ofNat z))), (some (.int (-1))), none, none] [] (mk sh D) c s Q = Q (.inl (some (.int (Int32.ofNat (TT V ng (clN z g)))))) (mk sh D) c s := by
  have lo := low_of z hz g (by omega) hb fun i _ hi => hl i hi
  have h1 : 1 ≤ z := Nat.pos_of_ne_zero fun e => by rw [e, show bt (Int32.ofNat 0) g = false from b_00 g] at hb; cases hb
  obtain ⟨c1, c2⟩ := clN_of g (by omega) z hz
  have c3 := cl_lt g (by omega) z hz hb
  have c4 : clN z g < 64 := by omega
  simp only [b333_0 hw, k331 hw h1 hz, wi_some, or_0, or_1, bo_or, ite_boP, true_and, and_true, kN_v, kN_n, kT_v, kT_n, kT_e, Nat.add_zero, Nat.zero_add, b333_4 hw, if_true, mI_thrown HS, mF_thrown HS, mR_row HS, mR_image HS, mR_earlier HS, mR_trial HS, mR_acts HS, mI_hasImage HS, mF_hasImage HS, mI_remembered HS, mF_remembered HS, mR_tape HS, mI_taped HS, mF_taped HS, mI_point HS, mF_point HS, mI_end HS, mF_end HS, mI_begin HS, mF_begin HS, mI_deep HS, mF_deep HS, mI_faultAt HS, mF_faultAt HS, mR_five HS, mI_codes HS, mF_codes HS, mR_value HS, mI_so HS, mF_so HS, mR_lines HS, mR_chosen HS, mR_best HS, mR_members HS, mR_paired HS, mO HS, mA_287 HS, mW_287 HS, mA_288 HS, mW_288 HS, mA_289 HS, mW_289 HS, mA_290 HS, mW_290 HS, mA_291 HS, mW_291 HS, mA_292 HS, mW_292 HS, mA_293 HS, mW_293 HS, mA_294 HS, mW_294 HS, mA_295 HS, mW_295 HS, mA_296 HS, mW_296 HS, mA_297 HS, mW_297 HS, mA_298 HS, mW_298 HS, mA_299 HS, mW_299 HS, lo, c1, c4, hT _ c3]
theorem k333 {o : Nat} (hw : WT sh) (HS : SP sh) (R : Rw (D 287) V nt ng nr nl) (hng : ng ≤ 6) (hz : z < 64) (hb : bt (Int32.ofNat z) g = true) (hl : ∀ i, i < g → bt (Int32.ofNat z) i = false) (hg : g < ng) (ho : o < ng) (hT : ∀ y, y < z → D 299 y = Int32.ofNat (TT V ng y)) : Wx (tP nx xs) (d + 4) 333 0 [some (.ref 286), (some (.int (Int32.ofNat z))), (some (.int (Int32.ofNat o))), none, none] [] (mk sh D) c s Q = Q (.inl (some (.int (pbI V ng z g o)))) (mk sh D) c s := by
  have lo := low_of z hz g (by omega) hb fun i _ hi => hl i hi
  have h1 : 1 ≤ z := Nat.pos_of_ne_zero fun e => by rw [e, show bt (Int32.ofNat 0) g = false from b_00 g] at hb; cases hb
  obtain ⟨c1, c2⟩ := clN_of g (by omega) z hz
  have c3 := cl_lt g (by omega) z hz hb
  obtain ⟨c5, c6⟩ := clN_of o (by omega) (clN z g) (by omega)
  have c7 : clN (clN z g) o < 64 := by omega
  have hg6 : g < 6 := by omega
  have ho6 : o < 6 := by omega
  have v0 : 0 < 11 := by decide
  have n10 : ¬ (Int32.ofNat 1 : Int32) = Int32.ofNat 0 := by decide
  have ne : ¬ Int32.ofNat o = (-1 : Int32) := by rw [oN_ne1 (by omega)]; exact id
  unfold pbI pbP pbV
  simp only [b333_0 hw, k331 hw h1 hz, wi_some, or_0, or_1, bo_or, ite_boP, true_and, and_true, kN_v, kN_n, kT_v, kT_n, kT_e, Nat.add_zero, Nat.zero_add, b333_4 hw, ne, if_false, mI_thrown HS, mF_thrown HS, mR_row HS, mR_image HS, mR_earlier HS, mR_trial HS, mR_acts HS, mI_hasImage HS, mF_hasImage HS, mI_remembered HS, mF_remembered HS, mR_tape HS, mI_taped HS, mF_taped HS, mI_point HS, mF_point HS, mI_end HS, mF_end HS, mI_begin HS, mF_begin HS, mI_deep HS, mF_deep HS, mI_faultAt HS, mF_faultAt HS, mR_five HS, mI_codes HS, mF_codes HS, mR_value HS, mI_so HS, mF_so HS, mR_lines HS, mR_chosen HS, mR_best HS, mR_members HS, mR_paired HS, mO HS, mA_287 HS, mW_287 HS, mA_288 HS, mW_288 HS, mA_289 HS, mW_289 HS, mA_290 HS, mW_290 HS, mA_291 HS, mW_291 HS, mA_292 HS, mW_292 HS, mA_293 HS, mW_293 HS, mA_294 HS, mW_294 HS, mA_295 HS, mW_295 HS, mA_296 HS, mW_296 HS, mA_297 HS, mW_297 HS, mA_298 HS, mW_298 HS, mA_299 HS, mW_299 HS, lo, c1, k189 hw (show o < 32 by omega), b333_33 hw]
  cases bt (Int32.ofNat (clN z g)) o with
  | false => simp only [bo_f, if_true, b333_82 hw, b333_83 hw, Bool.false_and, Bool.false_eq_true, if_false]
  | true =>
    simp only [bo_t, n10, if_false, k332 hw HS R hng hg ho, wi_some, or_0, or_1, bo_or, ite_boP, true_and, and_true, kN_v, kN_n, kT_v, kT_n, kT_e, Nat.add_zero, Nat.zero_add, b333_42 hw, Bool.true_and]
    cases cpP V g o with
    | false => simp only [bo_f, if_true, b333_82 hw, b333_83 hw, Bool.false_eq_true, if_false]
    | true =>
      simp only [bo_t, n10, if_false, if_true, k203 hw HS hg6 v0, k203 hw HS ho6 v0, r_wish0 R hg, r_wish0 R ho, mI_thrown HS, mF_thrown HS, mR_row HS, mR_image HS, mR_earlier HS, mR_trial HS, mR_acts HS, mI_hasImage HS, mF_hasImage HS, mI_remembered HS, mF_remembered HS, mR_tape HS, mI_taped HS, mF_taped HS, mI_point HS, mF_point HS, mI_end HS, mF_end HS, mI_begin HS, mF_begin HS, mI_deep HS, mF_deep HS, mI_faultAt HS, mF_faultAt HS, mR_five HS, mI_codes HS, mF_codes HS, mR_value HS, mI_so HS, mF_so HS, mR_lines HS, mR_chosen HS, mR_best HS, mR_members HS, mR_paired HS, mO HS, mA_287 HS, mW_287 HS, mA_288 HS, mW_288 HS, mA_289 HS, mW_289 HS, mA_290 HS, mW_290 HS, mA_291 HS, mW_291 HS, mA_292 HS, mW_292 HS, mA_293 HS, mW_293 HS, mA_294 HS, mW_294 HS, mA_295 HS, mW_295 HS, mA_296 HS, mW_296 HS, mA_297 HS, mW_297 HS, mA_298 HS, mW_298 HS, mA_299 HS, mW_299 HS, wi_some, or_0, or_1, bo_or, ite_boP, true_and, and_true, kN_v, kN_n, kT_v, kT_n, kT_e, Nat.add_zero, Nat.zero_add, b333_51 hw, b333_57 hw, b333_65 hw, c5, c7, hT _ (show clN (clN z g) o < z by omega), b333_83 hw]
      by_cases hws : V 6 g = V 6 o
      · simp only [hws, if_true, oN_add]
      · simp only [hws, if_false, oN_add]
theorem mx_m1 {x : Nat} (hx : x < 2147483648) : mx (Int32.ofNat x) (-1) = Int32.ofNat x := by
  unfold mx
  rw [if_neg]
  intro h
  have := Int32.lt_iff_toInt_lt.mp h
  rw [oN_ti hx] at this
  have h2 : Int32.toInt (-1) = -1 := by decide
  omega
theorem k334 (hw : WT sh) (HS : SP sh) (R : Rw (D 287) V nt ng nr nl) (hng : ng ≤ 6) (kk : ∀ D', Ex 299 D D' → (∀ y, y < 2 ^ ng → D' 299 y = Int32.ofNat (TT V ng y)) → Q (.inl none) (mk sh D') c s) : Wx (tP nx xs) (d + 5) 334 0 [some (.ref 286), none, none, none] [] (mk sh D) c s Q := by
  have h6 : 2 ^ ng ≤ 2 ^ 6 := Nat.pow_le_pow_right (by decide) hng
  have hp : 0 < 2 ^ ng := Nat.pow_pos (by decide)
  have z0 : 0 < 64 := by decide
  simp only [b334_0 hw, b334_7 hw, mI_thrown HS, mF_thrown HS, mR_row HS, mR_image HS, mR_earlier HS, mR_trial HS, mR_acts HS, mI_hasImage HS, mF_hasImage HS, mI_remembered HS, mF_remembered HS, mR_tape HS, mI_taped HS, mF_taped HS, mI_point HS, mF_point HS, mI_end HS, mF_end HS, mI_begin HS, mF_begin HS, mI_deep HS, mF_deep HS, mI_faultAt HS, mF_faultAt HS, mR_five HS, mI_codes HS, mF_codes HS, mR_value HS, mI_so HS, mF_so HS, mR_lines HS, mR_chosen HS, mR_best HS, mR_members HS, mR_paired HS, mO HS, mA_287 HS, mW_287 HS, mA_288 HS, mW_288 HS, mA_289 HS, mW_289 HS, mA_290 HS, mW_290 HS, mA_291 HS, mW_291 HS, mA_292 HS, mW_292 HS, mA_293 HS, mW_293 HS, mA_294 HS, mW_294 HS, mA_295 HS, mW_295 HS, mA_296 HS, mW_296 HS, mA_297 HS, mW_297 HS, mA_298 HS, mW_298 HS, mA_299 HS, mW_299 HS, wi_some, or_0, or_1, bo_or, ite_boP, true_and, and_true, kN_v, kN_n, kT_v, kT_n, kT_e, Nat.add_zero, Nat.zero_add, z0, oN_tn (show 0 < 2147483648 by decide)]
  suffices hh : ∀ l2 l3 : Option Value, Wx (tP nx xs) (d + 5) 334 9 [some (.ref 286), (some (.int (Int32.ofNat (1 + 0)))), l2, l3] [] (mk sh (u2 D 299 0 (Int32.ofNat 0))) c s Q by exact hh none none
  refine up_P (W := fun i (_ : Nat) D => ∀ l2 l3 : Option Value, Wx (tP nx xs) (d + 5) 334 9 [some (.ref 286), (some (.int (Int32.ofNat (1 + i)))), l2, l3] [] (mk sh D) c s Q) (P := fun i _ D' => Ex 299 D D' ∧ ∀ y, y < 1 + i → D' 299 y = Int32.ofNat (TT V ng y)) (F := fun _ x => x) (2 ^ ng - 1) ?_ 0 _ ⟨fun a ha => funext fun j => by rw [u2_at, if_neg (by omega)], fun y hy => by rw [show y = 0 by omega, u2_at, if_pos ⟨rfl, rfl⟩, TT_0]⟩ ?_
  · intro i _ D1 hi ⟨e1, h1⟩ k l2 l3
    have hz : 1 + i < 64 := by omega
    have R1 : Rw (D1 287) V nt ng nr nl := by rw [e1 287 (by decide)]; exact R
    obtain ⟨hb, hl⟩ := low_is (1 + i) hz (by omega)
    obtain ⟨t1, t2, t3⟩ := tz_low (1 + i) hz (by omega)
    generalize lowB 6 (1 + i) = g at *
    have hg : g < ng := (Nat.pow_lt_pow_iff_right (a := 2) (by decide)).mp (by omega)
    have hl : ∀ j, j < g → bt (Int32.ofNat (1 + i)) j = false := fun j hj => hl j (by omega) hj
    have hlt : ¬ 2 ^ ng - 1 < 1 + i := by omega
    have t6 := TT_6 (V := V) (ng := ng) (z := clN (1 + i) g)
    rw [b334_9 hw]
    simp only [mI_thrown HS, mF_thrown HS, mR_row HS, mR_image HS, mR_earlier HS, mR_trial HS, mR_acts HS, mI_hasImage HS, mF_hasImage HS, mI_remembered HS, mF_remembered HS, mR_tape HS, mI_taped HS, mF_taped HS, mI_point HS, mF_point HS, mI_end HS, mF_end HS, mI_begin HS, mF_begin HS, mI_deep HS, mF_deep HS, mI_faultAt HS, mF_faultAt HS, mR_five HS, mI_codes HS, mF_codes HS, mR_value HS, mI_so HS, mF_so HS, mR_lines HS, mR_chosen HS, mR_best HS, mR_members HS, mR_paired HS, mO HS, mA_287 HS, mW_287 HS, mA_288 HS, mW_288 HS, mA_289 HS, mW_289 HS, mA_290 HS, mW_290 HS, mA_291 HS, mW_291 HS, mA_292 HS, mW_292 HS, mA_293 HS, mW_293 HS, mA_294 HS, mW_294 HS, mA_295 HS, mW_295 HS, mA_296 HS, mW_296 HS, mA_297 HS, mW_297 HS, mA_298 HS, mW_298 HS, mA_299 HS, mW_299 HS, wi_some, or_0, or_1, bo_or, ite_boP, true_and, and_true, kN_v, kN_n, kT_v, kT_n, kT_e, Nat.add_zero, Nat.zero_add, k206 hw HS R1 hng, b334_14 hw, oN_lt (show 2 ^ ng - 1 < 2147483648 by omega) (show 1 + i < 2147483648 by omega), hlt, if_false]
    rw [b334_21 hw]
    have e0 : (mo 0 < Int32.ofNat ng) = (0 ≤ ng) := propext (mo_lt 0 (by decide) ng (by omega))
    rw [mo_0] at e0
    simp only [mI_thrown HS, mF_thrown HS, mR_row HS, mR_image HS, mR_earlier HS, mR_trial HS, mR_acts HS, mI_hasImage HS, mF_hasImage HS, mI_remembered HS, mF_remembered HS, mR_tape HS, mI_taped HS, mF_taped HS, mI_point HS, mF_point HS, mI_end HS, mF_end HS, mI_begin HS, mF_begin HS, mI_deep HS, mF_deep HS, mI_faultAt HS, mF_faultAt HS, mR_five HS, mI_codes HS, mF_codes HS, mR_value HS, mI_so HS, mF_so HS, mR_lines HS, mR_chosen HS, mR_best HS, mR_members HS, mR_paired HS, mO HS, mA_287 HS, mW_287 HS, mA_288 HS, mW_288 HS, mA_289 HS, mW_289 HS, mA_290 HS, mW_290 HS, mA_291 HS, mW_291 HS, mA_292 HS, mW_292 HS, mA_293 HS, mW_293 HS, mA_294 HS, mW_294 HS, mA_295 HS, mW_295 HS, mA_296 HS, mW_296 HS, mA_297 HS, mW_297 HS, mA_298 HS, mW_298 HS, mA_299 HS, mW_299 HS, wi_some, or_0, or_1, bo_or, ite_boP, true_and, and_true, kN_v, kN_n, kT_v, kT_n, kT_e, Nat.add_zero, Nat.zero_add, k198 hw HS, r_ng R1, b334_26 hw, e0, Nat.zero_le, if_true]
    rw [k333n (d := d) hw HS hng hz hb hl hg h1]
    simp only [wi_some, or_0, or_1, bo_or, ite_boP, true_and, and_true, kN_v, kN_n, kT_v, kT_n, kT_e, Nat.add_zero, Nat.zero_add, b334_36 hw, oN_mx (show 0 < 2147483648 by decide) (show TT V ng (clN (1 + i) g) < 2147483648 by omega), show (-1 : Int32) + Int32.ofNat 1 = Int32.ofNat 0 by decide, Nat.zero_max]
    refine up_P (W := fun o x D => Wx (tP nx xs) (d + 5) 334 21 [some (.ref 286), (some (.int (Int32.ofNat (1 + i)))), (some (.int (Int32.ofNat x))), (some (.int (Int32.ofNat o)))] [] (mk sh D) c s Q) (P := fun _ x D' => x ≤ 7 ∧ D' = D1) (F := fun o x => if pbP V (1 + i) g o then max x (pbV V ng (1 + i) g o) else x) ng ?_ (TT V ng (clN (1 + i) g)) D1 ⟨by omega, rfl⟩ ?_
    · intro o x D2 ho ⟨hx, e2⟩ k2
      subst e2
      have pl := pb_le (V := V) (z := 1 + i) (g := g) (o := o) hng
      rw [b334_21 hw]
      simp only [mI_thrown HS, mF_thrown HS, mR_row HS, mR_image HS, mR_earlier HS, mR_trial HS, mR_acts HS, mI_hasImage HS, mF_hasImage HS, mI_remembered HS, mF_remembered HS, mR_tape HS, mI_taped HS, mF_taped HS, mI_point HS, mF_point HS, mI_end HS, mF_end HS, mI_begin HS, mF_begin HS, mI_deep HS, mF_deep HS, mI_faultAt HS, mF_faultAt HS, mR_five HS, mI_codes HS, mF_codes HS, mR_value HS, mI_so HS, mF_so HS, mR_lines HS, mR_chosen HS, mR_best HS, mR_members HS, mR_paired HS, mO HS, mA_287 HS, mW_287 HS, mA_288 HS, mW_288 HS, mA_289 HS, mW_289 HS, mA_290 HS, mW_290 HS, mA_291 HS, mW_291 HS, mA_292 HS, mW_292 HS, mA_293 HS, mW_293 HS, mA_294 HS, mW_294 HS, mA_295 HS, mW_295 HS, mA_296 HS, mW_296 HS, mA_297 HS, mW_297 HS, mA_298 HS, mW_298 HS, mA_299 HS, mW_299 HS, wi_some, or_0, or_1, bo_or, ite_boP, true_and, and_true, kN_v, kN_n, kT_v, kT_n, kT_e, Nat.add_zero, Nat.zero_add, k198 hw HS, r_ng R1, b334_26 hw, oN_lt (show o < 2147483648 by omega) (show ng < 2147483648 by omega), ho, if_true]
      rw [k333 (d := d) hw HS R1 hng hz hb hl hg ho h1]
      simp only [wi_some, or_0, or_1, bo_or, ite_boP, true_and, and_true, kN_v, kN_n, kT_v, kT_n, kT_e, Nat.add_zero, Nat.zero_add, b334_36 hw, oN_add]
      unfold pbI
      cases hp : pbP V (1 + i) g o with
      | false =>
        simp only [hp, Bool.false_eq_true, if_false, mx_m1 (show x < 2147483648 by omega)] at k2 ⊢
        exact k2 _ ⟨hx, rfl⟩
      | true =>
        simp only [hp, if_true, oN_mx (show x < 2147483648 by omega) (show pbV V ng (1 + i) g o < 2147483648 by omega)] at k2 ⊢
        exact k2 _ ⟨by omega, rfl⟩
    · intro D2 ⟨hx, e2⟩
      subst e2
      rw [pb_fold hz hng hb hl hg] at hx ⊢
      rw [b334_21 hw]
      simp only [mI_thrown HS, mF_thrown HS, mR_row HS, mR_image HS, mR_earlier HS, mR_trial HS, mR_acts HS, mI_hasImage HS, mF_hasImage HS, mI_remembered HS, mF_remembered HS, mR_tape HS, mI_taped HS, mF_taped HS, mI_point HS, mF_point HS, mI_end HS, mF_end HS, mI_begin HS, mF_begin HS, mI_deep HS, mF_deep HS, mI_faultAt HS, mF_faultAt HS, mR_five HS, mI_codes HS, mF_codes HS, mR_value HS, mI_so HS, mF_so HS, mR_lines HS, mR_chosen HS, mR_best HS, mR_members HS, mR_paired HS, mO HS, mA_287 HS, mW_287 HS, mA_288 HS, mW_288 HS, mA_289 HS, mW_289 HS, mA_290 HS, mW_290 HS, mA_291 HS, mW_291 HS, mA_292 HS, mW_292 HS, mA_293 HS, mW_293 HS, mA_294 HS, mW_294 HS, mA_295 HS, mW_295 HS, mA_296 HS, mW_296 HS, mA_297 HS, mW_297 HS, mA_298 HS, mW_298 HS, mA_299 HS, mW_299 HS, wi_some, or_0, or_1, bo_or, ite_boP, true_and, and_true, kN_v, kN_n, kT_v, kT_n, kT_e, Nat.add_zero, Nat.zero_add, k198 hw HS, r_ng R1, b334_26 hw, oN_lt (show ng < 2147483648 by omega) (show ng < 2147483648 by omega), Nat.lt_irrefl, if_false, hz, oN_tn (show 1 + i < 2147483648 by omega), b334_53 hw, oN_add]
      rw [show 1 + i + 1 = 1 + (i + 1) by omega]
      refine k _ ⟨fun a ha => funext fun j => by rw [u2_at, if_neg (by omega), e1 a ha], fun y hy => ?_⟩ _ _
      rw [u2_at]
      by_cases e : y = 1 + i
      · rw [if_pos ⟨rfl, e⟩, e]
      · rw [if_neg (by omega)]; exact h1 y (by omega)
  · intro D1 ⟨e1, h1⟩ l2 l3
    have R1 : Rw (D1 287) V nt ng nr nl := by rw [e1 287 (by decide)]; exact R
    have hlt : 2 ^ ng - 1 < 1 + (2 ^ ng - 1) := by omega
    rw [b334_9 hw]
    simp only [mI_thrown HS, mF_thrown HS, mR_row HS, mR_image HS, mR_earlier HS, mR_trial HS, mR_acts HS, mI_hasImage HS, mF_hasImage HS, mI_remembered HS, mF_remembered HS, mR_tape HS, mI_taped HS, mF_taped HS, mI_point HS, mF_point HS, mI_end HS, mF_end HS, mI_begin HS, mF_begin HS, mI_deep HS, mF_deep HS, mI_faultAt HS, mF_faultAt HS, mR_five HS, mI_codes HS, mF_codes HS, mR_value HS, mI_so HS, mF_so HS, mR_lines HS, mR_chosen HS, mR_best HS, mR_members HS, mR_paired HS, mO HS, mA_287 HS, mW_287 HS, mA_288 HS, mW_288 HS, mA_289 HS, mW_289 HS, mA_290 HS, mW_290 HS, mA_291 HS, mW_291 HS, mA_292 HS, mW_292 HS, mA_293 HS, mW_293 HS, mA_294 HS, mW_294 HS, mA_295 HS, mW_295 HS, mA_296 HS, mW_296 HS, mA_297 HS, mW_297 HS, mA_298 HS, mW_298 HS, mA_299 HS, mW_299 HS, wi_some, or_0, or_1, bo_or, ite_boP, true_and, and_true, kN_v, kN_n, kT_v, kT_n, kT_e, Nat.add_zero, Nat.zero_add, k206 hw HS R1 hng, b334_14 hw, oN_lt (show 2 ^ ng - 1 < 2147483648 by omega) (show 1 + (2 ^ ng - 1) < 2147483648 by omega), hlt, if_true]
    exact kk D1 e1 fun y hy => h1 y (by omega)
/-! who goes with whom -/
theorem gPr_at (hz : z < 64) (hng : ng ≤ 6) (hl : ∀ i, i < g → bt (Int32.ofNat z) i = false) (hg : g < ng) (hne : ¬ TT V ng (clN z g) = TT V ng z) : ∃ j, gPr V (ng - g - 1) g (fz V z) = some j ∧ j < ng - g - 1 ∧ cP V (fz V z) g (g + 1 + j) = true ∧ 1 + pvS V (ng - g - 1) (g + 1) (clF (fz V z) (g + 1 + j)) = TT V ng z ∧ ∀ u, u < j → (cP V (fz V z) g (g + 1 + u) && decide (1 + pvS V (ng - g - 1) (g + 1) (clF (fz V z) (g + 1 + u)) = TT V ng z)) = false := by
  rw [TT_z1 hz hng hl hg, TT_z hl hg] at hne
  rw [TT_z hl hg]
  have h := (first_max (fun j => cP V (fz V z) g (g + 1 + j)) (fun j => 1 + pvS V (ng - g - 1) (g + 1) (clF (fz V z) (g + 1 + j))) (fun _ => ()) (pvS V (ng - g - 1) (g + 1) (fz V z)) () 0 (0, ()) (ng - g - 1)).2.2.1
  have e1 : fo (fun j x => if cP V (fz V z) g (g + 1 + j) then max x (1 + pvS V (ng - g - 1) (g + 1) (clF (fz V z) (g + 1 + j))) else x) (ng - g - 1) 0 (pvS V (ng - g - 1) (g + 1) (fz V z)) = pvS V (ng - g - 1 + 1) g (fz V z) := rfl
  rw [e1] at h
  rcases h with h | ⟨j, h1, h2, h3⟩
  · exact absurd h hne
  · unfold gPr
    rw [if_neg hne]
    cases hf : fst? (fun j => cP V (fz V z) g (g + 1 + j) && decide (1 + pvS V (ng - g - 1) (g + 1) (clF (fz V z) (g + 1 + j)) = pvS V (ng - g - 1 + 1) g (fz V z))) (ng - g - 1) 0 with
    | none =>
      have := fst?_none _ 0 hf j (Nat.zero_le _) (by omega)
      simp only [h2, h3, decide_true, Bool.and_self] at this
      cases this
    | some m =>
      obtain ⟨a, b, c, d⟩ := fst?_some _ 0 m hf
      rw [Bool.and_eq_true, decide_eq_true_eq] at c
      exact ⟨m, rfl, by omega, c.1, c.2, fun u hu => d u (Nat.zero_le _) hu⟩
theorem gPr_no (hz : z < 64) (hng : ng ≤ 6) (hl : ∀ i, i < g → bt (Int32.ofNat z) i = false) (hg : g < ng) (he : TT V ng (clN z g) = TT V ng z) : gPr V (ng - g - 1) g (fz V z) = none := by
  rw [TT_z1 hz hng hl hg, TT_z hl hg] at he
  unfold gPr
  rw [if_pos he]
theorem pbI_ne (hz : z < 64) (hng : ng ≤ 6) (hb : bt (Int32.ofNat z) g = true) (hl : ∀ i, i < g → bt (Int32.ofNat z) i = false) (hg : g < ng) (hne : ¬ TT V ng (clN z g) = TT V ng z) {o : Nat} (ho : o < ng) (h : g < o → (cP V (fz V z) g o && decide (1 + pvS V (ng - g - 1) (g + 1) (clF (fz V z) o) = TT V ng z)) = false) : ¬ pbI V ng z g o = Int32.ofNat (TT V ng z) := by
  have t6 := TT_6 (V := V) (ng := ng) (z := z)
  have hm1 : ¬ (-1 : Int32) = Int32.ofNat (TT V ng z) := fun e => by
    have := oN_ne1 (show TT V ng z < 2147483648 by omega)
    rw [← e] at this
    exact absurd rfl (this ▸ (fun h => h.elim) : ¬ (-1 : Int32) = -1)
  have pl := pb_le (V := V) (z := z) (g := g) (o := o) hng
  unfold pbI
  cases hp : pbP V z g o with
  | false => exact hm1
  | true =>
    have hgo : g < o := by
      rcases Nat.lt_or_ge g o with h | h
      · exact h
      · rw [pbP_lo hz hng hl hg h] at hp; cases hp
    have h := h hgo
    simp only [if_true]
    rw [oN_eq (by omega) (by omega)]
    rcases pb_cP (V := V) (o := o) hz hng hb hl hg with hc | hc
    · rw [hc, hp, Bool.true_and] at h
      unfold pbV
      rw [TT_z2 hz hng hl hg ho]
      by_cases hws : V 6 g = V 6 o
      · simp only [hws, decide_true, Bool.true_and, decide_eq_false_iff_not, if_true] at h ⊢
        exact h
      · rw [if_neg hws, Nat.zero_add]
        have hm := pv_mono (V := V) (ng - g - 1) (g + 1) (clF (fz V z) o) (fz V z) fun i hi => clF_le hi
        have h1 := TT_z1 (V := V) hz hng hl hg
        have h2 : TT V ng (clN z g) ≤ TT V ng z := by
          rw [h1, TT_z hl hg]
          exact (first_max (fun j => cP V (fz V z) g (g + 1 + j)) (fun j => 1 + pvS V (ng - g - 1) (g + 1) (clF (fz V z) (g + 1 + j))) (fun _ => ()) (pvS V (ng - g - 1) (g + 1) (fz V z)) () 0 (0, ()) (ng - g - 1)).1
        omega
    · omega
theorem pbI_eq (hz : z < 64) (hng : ng ≤ 6) (hb : bt (Int32.ofNat z) g = true) (hl : ∀ i, i < g → bt (Int32.ofNat z) i = false) (hg : g < ng) {o : Nat} (ho : o < ng) (hgo : g < o) (h1 : cP V (fz V z) g o = true) (h2 : 1 + pvS V (ng - g - 1) (g + 1) (clF (fz V z) o) = TT V ng z) : pbI V ng z g o = Int32.ofNat (TT V ng z) := by
  unfold pbI
  rcases pb_cP (V := V) (o := o) hz hng hb hl hg with hc | hc
  · rw [hc, Bool.and_eq_true, decide_eq_true_eq] at h1
    rw [h1.1, if_pos rfl]
    unfold pbV
    rw [TT_z2 hz hng hl hg ho, if_pos h1.2, h2]
  · omega
end CA6
theorem st_bt {V : sD} {ng : Nat} (hng : ng ≤ 6) {i : Nat} (hi : i < ng) : bt (Int32.ofNat (stN V ng)) i = fz V (2 ^ ng - 1) i := by
  rw [← (stN_of (V := V) hng).1]
  unfold stayS fz goneS
  rw [b_and, b_xor, b_m1 i (by omega), bs_bt _ (by omega) (by omega), decide_eq_true hi]
  by_cases h : V 12 i = -1 <;> simp [h]
section CB6
variable {nx : Nat} {xs : Nat → Int32} {d c s : Nat} {sh : List sC} {D : sD} {Q : av_Q}
variable {G : GT}
theorem m_pairs {x : Int32} (hw : WT sh) (HS : SP sh) (hv : GV G) (h : GR D G) (kk : ∀ D', Ms D D' → D' 286 0 = Int32.ofNat (th (o_pairs G x)) → Q (.inl (some (.int (rv (o_pairs G x))))) (mk sh D') c s) : Wx (tP nx xs) (d + 8) 335 0 [some (.ref 286), (some (.int (x))), none, none, none, none, none] [] (mk sh D) c s Q := by
  have h1 := h.ms hv (Ms.rf.th (v := Int32.ofNat 0))
  have I := hv.1
  have hng := i_ng6 I
  have n10 : ¬ (Int32.ofNat 1 : Int32) = Int32.ofNat 0 := by decide
  have h6 : 2 ^ (gg G.1) ≤ 2 ^ 6 := Nat.pow_le_pow_right (by decide) hng
  have hp2 : 0 < 2 ^ (gg G.1) := Nat.pow_pos (by decide)
  have go : (∀ D', Ms D D' → D' 286 0 = Int32.ofNat 0 → Rw (D' 287) (gV G.1) (gt G.1) (gg G.1) (gr G.1) (gl G.1) → (∀ y, y < 2 ^ (gg G.1) → D' 299 y = Int32.ofNat (TT (gV G.1) (gg G.1) y)) → Wx (tP nx xs) (d + 8) 335 41 [some (.ref 286), (some (.int (x))), none, none, none, none, none] [.int (Int32.ofNat (2 ^ (gg G.1) - 1))] (mk sh D') c s Q) → Wx (tP nx xs) (d + 8) 335 24 [some (.ref 286), (some (.int (x))), none, none, none, none, none] [.int (Int32.ofNat 0), .ref 286] (mk sh (u2 D 286 0 (Int32.ofNat 0))) c s Q := by
    intro fin
    simp only [b335_24 hw, mI_thrown HS, mF_thrown HS, mR_row HS, mR_image HS, mR_earlier HS, mR_trial HS, mR_acts HS, mI_hasImage HS, mF_hasImage HS, mI_remembered HS, mF_remembered HS, mR_tape HS, mI_taped HS, mF_taped HS, mI_point HS, mF_point HS, mI_end HS, mF_end HS, mI_begin HS, mF_begin HS, mI_deep HS, mF_deep HS, mI_faultAt HS, mF_faultAt HS, mR_five HS, mI_codes HS, mF_codes HS, mR_value HS, mI_so HS, mF_so HS, mR_lines HS, mR_chosen HS, mR_best HS, mR_members HS, mR_paired HS, mO HS, mA_287 HS, mW_287 HS, mA_288 HS, mW_288 HS, mA_289 HS, mW_289 HS, mA_290 HS, mW_290 HS, mA_291 HS, mW_291 HS, mA_292 HS, mW_292 HS, mA_293 HS, mW_293 HS, mA_294 HS, mW_294 HS, mA_295 HS, mW_295 HS, mA_296 HS, mW_296 HS, mA_297 HS, mW_297 HS, mA_298 HS, mW_298 HS, mA_299 HS, mW_299 HS, wi_some, or_0, or_1, bo_or, ite_boP, true_and, and_true, kN_v, kN_n, kT_v, kT_n, kT_e, Nat.add_zero, Nat.zero_add, k187f hw HS, b335_28 hw, if_true]
    refine k334 hw HS h1.1.1 hng ?_
    intro D1 f1 e1
    have R1 : Rw (D1 287) (gV G.1) (gt G.1) (gg G.1) (gr G.1) (gl G.1) := by rw [f1 287 (by decide)]; exact h1.1.1
    simp only [wi_some, or_0, or_1, bo_or, ite_boP, true_and, and_true, kN_v, kN_n, kT_v, kT_n, kT_e, Nat.add_zero, Nat.zero_add, b335_37 hw, mI_thrown HS, mF_thrown HS, mR_row HS, mR_image HS, mR_earlier HS, mR_trial HS, mR_acts HS, mI_hasImage HS, mF_hasImage HS, mI_remembered HS, mF_remembered HS, mR_tape HS, mI_taped HS, mF_taped HS, mI_point HS, mF_point HS, mI_end HS, mF_end HS, mI_begin HS, mF_begin HS, mI_deep HS, mF_deep HS, mI_faultAt HS, mF_faultAt HS, mR_five HS, mI_codes HS, mF_codes HS, mR_value HS, mI_so HS, mF_so HS, mR_lines HS, mR_chosen HS, mR_best HS, mR_members HS, mR_paired HS, mO HS, mA_287 HS, mW_287 HS, mA_288 HS, mW_288 HS, mA_289 HS, mW_289 HS, mA_290 HS, mW_290 HS, mA_291 HS, mW_291 HS, mA_292 HS, mW_292 HS, mA_293 HS, mW_293 HS, mA_294 HS, mW_294 HS, mA_295 HS, mW_295 HS, mA_296 HS, mW_296 HS, mA_297 HS, mW_297 HS, mA_298 HS, mW_298 HS, mA_299 HS, mW_299 HS, k206 hw HS R1 hng]
    exact fin D1 (Ms.rf.th.tr (Ex.ms (by decide) (by decide) f1)) (by rw [f1 286 (by decide)]; simp [u2_at]) R1 e1
  have ep : pvS (gV G.1) (gg G.1) 0 (bt (Int32.ofNat (stN (gV G.1) (gg G.1)))) = TT (gV G.1) (gg G.1) (2 ^ (gg G.1) - 1) := pvS_c _ _ _ _ fun i _ hi => st_bt hng (by omega)
  have ew : pwS (gV G.1) (gg G.1) 0 (bt (Int32.ofNat (stN (gV G.1) (gg G.1)))) wm1 = pwS (gV G.1) (gg G.1) 0 (fz (gV G.1) (2 ^ (gg G.1) - 1)) wm1 := pw_c _ _ _ _ _ fun i _ hi => st_bt hng (by omega)
  unfold o_pairs at kk
  rw [ep, ew] at kk
  simp only [b335_0 hw, b335_5 hw, mI_thrown HS, mF_thrown HS, mR_row HS, mR_image HS, mR_earlier HS, mR_trial HS, mR_acts HS, mI_hasImage HS, mF_hasImage HS, mI_remembered HS, mF_remembered HS, mR_tape HS, mI_taped HS, mF_taped HS, mI_point HS, mF_point HS, mI_end HS, mF_end HS, mI_begin HS, mF_begin HS, mI_deep HS, mF_deep HS, mI_faultAt HS, mF_faultAt HS, mR_five HS, mI_codes HS, mF_codes HS, mR_value HS, mI_so HS, mF_so HS, mR_lines HS, mR_chosen HS, mR_best HS, mR_members HS, mR_paired HS, mO HS, mA_287 HS, mW_287 HS, mA_288 HS, mW_288 HS, mA_289 HS, mW_289 HS, mA_290 HS, mW_290 HS, mA_291 HS, mW_291 HS, mA_292 HS, mW_292 HS, mA_293 HS, mW_293 HS, mA_294 HS, mW_294 HS, mA_295 HS, mW_295 HS, mA_296 HS, mW_296 HS, mA_297 HS, mW_297 HS, mA_298 HS, mW_298 HS, mA_299 HS, mW_299 HS, wi_some, or_0, or_1, bo_or, ite_boP, true_and, and_true, kN_v, kN_n, kT_v, kT_n, kT_e, Nat.add_zero, Nat.zero_add, k211 hw HS hv h1]
  by_cases hx1 : x = -1
  · simp only [hx1, if_true, th, rv] at kk go ⊢
    simp only [b335_23 hw]
    refine go fun D1 m1 t1 R1 e1 => ?_
    simp only [b335_41 hw, if_true, mI_thrown HS, mF_thrown HS, mR_row HS, mR_image HS, mR_earlier HS, mR_trial HS, mR_acts HS, mI_hasImage HS, mF_hasImage HS, mI_remembered HS, mF_remembered HS, mR_tape HS, mI_taped HS, mF_taped HS, mI_point HS, mF_point HS, mI_end HS, mF_end HS, mI_begin HS, mF_begin HS, mI_deep HS, mF_deep HS, mI_faultAt HS, mF_faultAt HS, mR_five HS, mI_codes HS, mF_codes HS, mR_value HS, mI_so HS, mF_so HS, mR_lines HS, mR_chosen HS, mR_best HS, mR_members HS, mR_paired HS, mO HS, mA_287 HS, mW_287 HS, mA_288 HS, mW_288 HS, mA_289 HS, mW_289 HS, mA_290 HS, mW_290 HS, mA_291 HS, mW_291 HS, mA_292 HS, mW_292 HS, mA_293 HS, mW_293 HS, mA_294 HS, mW_294 HS, mA_295 HS, mW_295 HS, mA_296 HS, mW_296 HS, mA_297 HS, mW_297 HS, mA_298 HS, mW_298 HS, mA_299 HS, mW_299 HS, wi_some, or_0, or_1, bo_or, ite_boP, true_and, and_true, kN_v, kN_n, kT_v, kT_n, kT_e, Nat.add_zero, Nat.zero_add, show 2 ^ (gg G.1) - 1 < 64 by omega, e1 _ (show 2 ^ (gg G.1) - 1 < 2 ^ (gg G.1) by omega)]
    exact kk D1 m1 t1
  · simp only [hx1, if_false] at kk ⊢
    cases hi : ixO x (gg G.1) with
    | none =>
      simp only [hi, th, rv, Option.isNone_none, bo_t, wi_some, or_0, or_1, bo_or, ite_boP, true_and, and_true, kN_v, kN_n, kT_v, kT_n, kT_e, Nat.add_zero, Nat.zero_add, b335_16 hw, n10, if_false, b335_24 hw, mI_thrown HS, mF_thrown HS, mR_row HS, mR_image HS, mR_earlier HS, mR_trial HS, mR_acts HS, mI_hasImage HS, mF_hasImage HS, mI_remembered HS, mF_remembered HS, mR_tape HS, mI_taped HS, mF_taped HS, mI_point HS, mF_point HS, mI_end HS, mF_end HS, mI_begin HS, mF_begin HS, mI_deep HS, mF_deep HS, mI_faultAt HS, mF_faultAt HS, mR_five HS, mI_codes HS, mF_codes HS, mR_value HS, mI_so HS, mF_so HS, mR_lines HS, mR_chosen HS, mR_best HS, mR_members HS, mR_paired HS, mO HS, mA_287 HS, mW_287 HS, mA_288 HS, mW_288 HS, mA_289 HS, mW_289 HS, mA_290 HS, mW_290 HS, mA_291 HS, mW_291 HS, mA_292 HS, mW_292 HS, mA_293 HS, mW_293 HS, mA_294 HS, mW_294 HS, mA_295 HS, mW_295 HS, mA_296 HS, mW_296 HS, mA_297 HS, mW_297 HS, mA_298 HS, mW_298 HS, mA_299 HS, mW_299 HS, k187t hw HS, b335_28 hw] at kk ⊢
      exact kk _ Ms.rf.th.th (by simp [u2_at])
    | some q =>
      obtain ⟨hq, rfl⟩ := ixO_some (by omega) hi
      simp only [hi, th, rv, Option.isNone_some, bo_f, wi_some, or_0, or_1, bo_or, ite_boP, true_and, and_true, kN_v, kN_n, kT_v, kT_n, kT_e, Nat.add_zero, Nat.zero_add, b335_16 hw, if_true, b335_23 hw] at kk ⊢
      refine go fun D1 m1 t1 R1 e1 => ?_
      have fin := kk D1 m1 t1
      simp only [b335_41 hw, hx1, if_false]
      have lp : ∀ r g z (w : Nat → Int32) (l3 : Int32) (l5 l6 : Option Value), g + r = (gg G.1) → z < 2 ^ (gg G.1) → (∀ i, i < g → bt (Int32.ofNat z) i = false) → bt (Int32.ofNat z) q = true → w q = -1 → Q (.inl (some (.int (pwS (gV G.1) r g (fz (gV G.1) z) w q)))) (mk sh D1) c s → Wx (tP nx xs) (d + 8) 335 59 [some (.ref 286), (some (.int (Int32.ofNat q))), (some (.int (Int32.ofNat z))), (some (.int (l3))), (some (.int (Int32.ofNat 0))), l5, l6] [] (mk sh D1) c s Q := by
        intro r
        induction r with
        | zero =>
          intro g z w l3 l5 l6 hg hz hl hbq
          have := hl q (by omega)
          rw [this] at hbq
          cases hbq
        | succ r ih =>
          intro g z w l3 l5 l6 hg hz hl hbq hwq fin
          have hgn : g < (gg G.1) := by omega
          have hz64 : z < 64 := by omega
          have er : (gg G.1) - g - 1 = r := by omega
          cases hb : bt (Int32.ofNat z) g with
          | false =>
            refine ih (g + 1) z w l3 l5 l6 (by omega) hz (fun i hi => ?_) hbq hwq ?_
            · by_cases e : i = g
              · rw [e]; exact hb
              · exact hl i (by omega)
            · rw [pw_none (by unfold fz; rw [hb]; rfl)] at fin
              exact fin
          | true =>
            have h1z : 1 ≤ z := Nat.pos_of_ne_zero fun e => by rw [e, show bt (Int32.ofNat 0) g = false from b_00 g] at hb; cases hb
            have lo := low_of z hz64 g (by omega) hb fun i _ hi => hl i hi
            have hT : ∀ y, y < z → D1 299 y = Int32.ofNat (TT (gV G.1) (gg G.1) y) := fun y hy => e1 y (by omega)
            obtain ⟨c1, c2⟩ := clN_of g (by omega) z hz64
            have c3 := cl_lt g (by omega) z hz64 hb
            have tz6 := TT_6 (V := (gV G.1)) (ng := (gg G.1)) (z := z)
            have tc6 := TT_6 (V := (gV G.1)) (ng := (gg G.1)) (z := clN z g)
            have eqg := oN_eq (show g < 2147483648 by omega) (show q < 2147483648 by omega)
            have qm1 : ¬ (-1 : Int32) = Int32.ofNat q := fun e => hx1 e.symm
            have clg : ∀ i, i < g + 1 → bt (Int32.ofNat (clN z g)) i = false := fun i hi => by
              rw [clN_bt (by omega) hz64]
              unfold clF
              by_cases e : i = g
              · simp [e]
              · rw [hl i (by omega)]; rfl
            rw [b335_59 hw]
            simp only [if_true, k331 hw h1z hz64, lo, wi_some, or_0, or_1, bo_or, ite_boP, true_and, and_true, kN_v, kN_n, kT_v, kT_n, kT_e, Nat.add_zero, Nat.zero_add, b335_68 hw]
            rw [b335_73 hw]
            simp only [mI_thrown HS, mF_thrown HS, mR_row HS, mR_image HS, mR_earlier HS, mR_trial HS, mR_acts HS, mI_hasImage HS, mF_hasImage HS, mI_remembered HS, mF_remembered HS, mR_tape HS, mI_taped HS, mF_taped HS, mI_point HS, mF_point HS, mI_end HS, mF_end HS, mI_begin HS, mF_begin HS, mI_deep HS, mF_deep HS, mI_faultAt HS, mF_faultAt HS, mR_five HS, mI_codes HS, mF_codes HS, mR_value HS, mI_so HS, mF_so HS, mR_lines HS, mR_chosen HS, mR_best HS, mR_members HS, mR_paired HS, mO HS, mA_287 HS, mW_287 HS, mA_288 HS, mW_288 HS, mA_289 HS, mW_289 HS, mA_290 HS, mW_290 HS, mA_291 HS, mW_291 HS, mA_292 HS, mW_292 HS, mA_293 HS, mW_293 HS, mA_294 HS, mW_294 HS, mA_295 HS, mW_295 HS, mA_296 HS, mW_296 HS, mA_297 HS, mW_297 HS, mA_298 HS, mW_298 HS, mA_299 HS, mW_299 HS, wi_some, or_0, or_1, bo_or, ite_boP, true_and, and_true, kN_v, kN_n, kT_v, kT_n, kT_e, Nat.add_zero, Nat.zero_add]
            rw [k333n (d := d + 3) hw HS hng hz64 hb hl hgn hT]
            simp only [wi_some, or_0, or_1, bo_or, ite_boP, true_and, and_true, kN_v, kN_n, kT_v, kT_n, kT_e, Nat.add_zero, Nat.zero_add, b335_80 hw, mI_thrown HS, mF_thrown HS, mR_row HS, mR_image HS, mR_earlier HS, mR_trial HS, mR_acts HS, mI_hasImage HS, mF_hasImage HS, mI_remembered HS, mF_remembered HS, mR_tape HS, mI_taped HS, mF_taped HS, mI_point HS, mF_point HS, mI_end HS, mF_end HS, mI_begin HS, mF_begin HS, mI_deep HS, mF_deep HS, mI_faultAt HS, mF_faultAt HS, mR_five HS, mI_codes HS, mF_codes HS, mR_value HS, mI_so HS, mF_so HS, mR_lines HS, mR_chosen HS, mR_best HS, mR_members HS, mR_paired HS, mO HS, mA_287 HS, mW_287 HS, mA_288 HS, mW_288 HS, mA_289 HS, mW_289 HS, mA_290 HS, mW_290 HS, mA_291 HS, mW_291 HS, mA_292 HS, mW_292 HS, mA_293 HS, mW_293 HS, mA_294 HS, mW_294 HS, mA_295 HS, mW_295 HS, mA_296 HS, mW_296 HS, mA_297 HS, mW_297 HS, mA_298 HS, mW_298 HS, mA_299 HS, mW_299 HS, hz64, e1 z hz, oN_eq (show TT (gV G.1) (gg G.1) (clN z g) < 2147483648 by omega) (show TT (gV G.1) (gg G.1) z < 2147483648 by omega)]
            by_cases he : TT (gV G.1) (gg G.1) (clN z g) = TT (gV G.1) (gg G.1) z
            · have eg := gPr_no (V := (gV G.1)) hz64 hng hl hgn he
              rw [er] at eg
              have ep : pwS (gV G.1) (r + 1) g (fz (gV G.1) z) w = pwS (gV G.1) r (g + 1) (fz (gV G.1) z) w := by
                show (match gPr (gV G.1) r g (fz (gV G.1) z) with
                  | none => _
                  | some j => _) = _
                rw [eg]
              rw [ep] at fin
              simp only [he, if_true, eqg, qm1, if_false]
              by_cases hgq : g = q
              · rw [pw_keep r (g + 1) _ _ q (Or.inl (by omega)), hwq] at fin
                simp only [hgq, if_true, b335_107 hw, b335_112 hw, b335_127 hw, b335_155 hw]
                rw [b335_59 hw]
                simp only [n10, if_false]
                exact fin
              · have e0 : fz (gV G.1) z = fz (gV G.1) z := rfl
                simp only [hgq, if_false, b335_112 hw, eqg, b335_127 hw, if_true, b335_155 hw, c1]
                refine ih (g + 1) (clN z g) w _ _ _ (by omega) (by omega) clg ?_ hwq ?_
                · rw [clN_bt (by omega) hz64]
                  unfold clF
                  rw [hbq, decide_eq_true (show q ≠ g from fun e => hgq e.symm)]
                  rfl
                · rw [pw_c r (g + 1) (fz (gV G.1) (clN z g)) (fz (gV G.1) z) w fun i h1 _ => by
                    rw [fz_cl (by omega) hz64]
                    unfold clF
                    rw [decide_eq_true (show i ≠ g by omega), Bool.and_true]]
                  exact fin
            · obtain ⟨j, eg, hj, hc, hv1, hu⟩ := gPr_at (V := (gV G.1)) hz64 hng hl hgn he
              rw [er] at eg hj hv1 hu
              have hof : g + 1 + j < (gg G.1) := by omega
              have ep : pwS (gV G.1) (r + 1) g (fz (gV G.1) z) w = pwS (gV G.1) r (g + 1) (clF (fz (gV G.1) z) (g + 1 + j)) (wU (wU w g (Int32.ofNat (g + 1 + j))) (g + 1 + j) (Int32.ofNat g)) := by
                show (match gPr (gV G.1) r g (fz (gV G.1) z) with
                  | none => _
                  | some j => _) = _
                rw [eg]
              rw [ep] at fin
              simp only [he, if_false, show (-1 : Int32) + Int32.ofNat 1 = Int32.ofNat 0 by decide]
              have eqo := oN_eq (show g + 1 + j < 2147483648 by omega) (show q < 2147483648 by omega)
              have nem : ¬ Int32.ofNat (g + 1 + j) = (-1 : Int32) := by rw [oN_ne1 (by omega)]; exact id
              obtain ⟨c5, c6⟩ := clN_of (g + 1 + j) (by omega) (clN z g) (by omega)
              have fnd : ∀ k o, o + k = g + 1 + j → Wx (tP nx xs) (d + 8) 335 73 [some (.ref 286), (some (.int (Int32.ofNat q))), (some (.int (Int32.ofNat z))), (some (.int (l3))), (some (.int (Int32.ofNat 0))), (some (.int (Int32.ofNat g))), (some (.int (Int32.ofNat o)))] [] (mk sh D1) c s Q := by
                intro k
                induction k with
                | zero =>
                  intro o ho
                  have ho : o = g + 1 + j := by omega
                  subst ho
                  rw [b335_73 hw]
                  simp only [mI_thrown HS, mF_thrown HS, mR_row HS, mR_image HS, mR_earlier HS, mR_trial HS, mR_acts HS, mI_hasImage HS, mF_hasImage HS, mI_remembered HS, mF_remembered HS, mR_tape HS, mI_taped HS, mF_taped HS, mI_point HS, mF_point HS, mI_end HS, mF_end HS, mI_begin HS, mF_begin HS, mI_deep HS, mF_deep HS, mI_faultAt HS, mF_faultAt HS, mR_five HS, mI_codes HS, mF_codes HS, mR_value HS, mI_so HS, mF_so HS, mR_lines HS, mR_chosen HS, mR_best HS, mR_members HS, mR_paired HS, mO HS, mA_287 HS, mW_287 HS, mA_288 HS, mW_288 HS, mA_289 HS, mW_289 HS, mA_290 HS, mW_290 HS, mA_291 HS, mW_291 HS, mA_292 HS, mW_292 HS, mA_293 HS, mW_293 HS, mA_294 HS, mW_294 HS, mA_295 HS, mW_295 HS, mA_296 HS, mW_296 HS, mA_297 HS, mW_297 HS, mA_298 HS, mW_298 HS, mA_299 HS, mW_299 HS, wi_some, or_0, or_1, bo_or, ite_boP, true_and, and_true, kN_v, kN_n, kT_v, kT_n, kT_e, Nat.add_zero, Nat.zero_add]
                  rw [k333 (d := d + 3) hw HS R1 hng hz64 hb hl hgn hof hT, pbI_eq hz64 hng hb hl hgn hof (by omega) hc (by rw [er]; exact hv1)]
                  simp only [wi_some, or_0, or_1, bo_or, ite_boP, true_and, and_true, kN_v, kN_n, kT_v, kT_n, kT_e, Nat.add_zero, Nat.zero_add, b335_80 hw, mI_thrown HS, mF_thrown HS, mR_row HS, mR_image HS, mR_earlier HS, mR_trial HS, mR_acts HS, mI_hasImage HS, mF_hasImage HS, mI_remembered HS, mF_remembered HS, mR_tape HS, mI_taped HS, mF_taped HS, mI_point HS, mF_point HS, mI_end HS, mF_end HS, mI_begin HS, mF_begin HS, mI_deep HS, mF_deep HS, mI_faultAt HS, mF_faultAt HS, mR_five HS, mI_codes HS, mF_codes HS, mR_value HS, mI_so HS, mF_so HS, mR_lines HS, mR_chosen HS, mR_best HS, mR_members HS, mR_paired HS, mO HS, mA_287 HS, mW_287 HS, mA_288 HS, mW_288 HS, mA_289 HS, mW_289 HS, mA_290 HS, mW_290 HS, mA_291 HS, mW_291 HS, mA_292 HS, mW_292 HS, mA_293 HS, mW_293 HS, mA_294 HS, mW_294 HS, mA_295 HS, mW_295 HS, mA_296 HS, mW_296 HS, mA_297 HS, mW_297 HS, mA_298 HS, mW_298 HS, mA_299 HS, mW_299 HS, hz64, e1 z hz, if_true, eqg, eqo]
                  by_cases hgq : g = q
                  · rw [pw_keep r (g + 1) _ _ q (Or.inl (by omega)), wU_o (by omega), ← hgq, wU_s] at fin
                    rw [← hgq]
                    simp only [if_true, b335_107 hw, b335_112 hw, b335_127 hw, nem, if_false, b335_155 hw]
                    rw [b335_59 hw]
                    simp only [n10, if_false]
                    exact fin
                  · simp only [hgq, if_false]
                    by_cases hoq : g + 1 + j = q
                    · rw [pw_keep r (g + 1) _ _ q (Or.inr (by unfold clF; simp [hoq])), ← hoq, wU_s] at fin
                      simp only [hoq, if_true, b335_107 hw, b335_112 hw, eqg, hgq, if_false, b335_127 hw, b335_155 hw]
                      have nem' : ¬ Int32.ofNat q = (-1 : Int32) := hx1
                      simp only [nem', if_false]
                      rw [b335_59 hw]
                      simp only [n10, if_false]
                      exact fin
                    · simp only [hoq, if_false, b335_112 hw, eqg, hgq, b335_127 hw, nem, b335_155 hw, c1, c5]
                      refine ih (g + 1) (clN (clN z g) (g + 1 + j)) (wU (wU w g (Int32.ofNat (g + 1 + j))) (g + 1 + j) (Int32.ofNat g)) _ _ _ (by omega) (by omega) (fun i hi => ?_) ?_ ?_ ?_
                      · rw [clN_bt (by omega) (by omega)]
                        unfold clF
                        rw [clg i hi]
                        rfl
                      · rw [clN_bt (by omega) (by omega)]
                        unfold clF
                        rw [clN_bt (by omega) hz64]
                        unfold clF
                        rw [hbq, decide_eq_true (show q ≠ g from fun e => hgq e.symm), decide_eq_true (show q ≠ g + 1 + j from fun e => hoq e.symm)]
                        rfl
                      · rw [wU_o (fun e => hoq e.symm), wU_o (fun e => hgq e.symm)]; exact hwq
                      · rw [pw_c r (g + 1) (fz (gV G.1) (clN (clN z g) (g + 1 + j))) (clF (fz (gV G.1) z) (g + 1 + j)) _ fun i h1 _ => by
                          rw [fz_cl (by omega) (by omega)]
                          unfold clF
                          rw [fz_cl (by omega) hz64]
                          unfold clF
                          rw [decide_eq_true (show i ≠ g by omega), Bool.and_true]]
                        exact fin
                | succ k ihk =>
                  intro o ho
                  have hon : o < (gg G.1) := by omega
                  have ne := pbI_ne (V := (gV G.1)) (o := o) hz64 hng hb hl hgn he hon (fun hgo => by
                    have := hu (o - g - 1) (by omega)
                    rw [show g + 1 + (o - g - 1) = o by omega] at this
                    rw [er]
                    exact this)
                  rw [b335_73 hw]
                  simp only [mI_thrown HS, mF_thrown HS, mR_row HS, mR_image HS, mR_earlier HS, mR_trial HS, mR_acts HS, mI_hasImage HS, mF_hasImage HS, mI_remembered HS, mF_remembered HS, mR_tape HS, mI_taped HS, mF_taped HS, mI_point HS, mF_point HS, mI_end HS, mF_end HS, mI_begin HS, mF_begin HS, mI_deep HS, mF_deep HS, mI_faultAt HS, mF_faultAt HS, mR_five HS, mI_codes HS, mF_codes HS, mR_value HS, mI_so HS, mF_so HS, mR_lines HS, mR_chosen HS, mR_best HS, mR_members HS, mR_paired HS, mO HS, mA_287 HS, mW_287 HS, mA_288 HS, mW_288 HS, mA_289 HS, mW_289 HS, mA_290 HS, mW_290 HS, mA_291 HS, mW_291 HS, mA_292 HS, mW_292 HS, mA_293 HS, mW_293 HS, mA_294 HS, mW_294 HS, mA_295 HS, mW_295 HS, mA_296 HS, mW_296 HS, mA_297 HS, mW_297 HS, mA_298 HS, mW_298 HS, mA_299 HS, mW_299 HS, wi_some, or_0, or_1, bo_or, ite_boP, true_and, and_true, kN_v, kN_n, kT_v, kT_n, kT_e, Nat.add_zero, Nat.zero_add]
                  rw [k333 (d := d + 3) hw HS R1 hng hz64 hb hl hgn hon hT]
                  simp only [wi_some, or_0, or_1, bo_or, ite_boP, true_and, and_true, kN_v, kN_n, kT_v, kT_n, kT_e, Nat.add_zero, Nat.zero_add, b335_80 hw, mI_thrown HS, mF_thrown HS, mR_row HS, mR_image HS, mR_earlier HS, mR_trial HS, mR_acts HS, mI_hasImage HS, mF_hasImage HS, mI_remembered HS, mF_remembered HS, mR_tape HS, mI_taped HS, mF_taped HS, mI_point HS, mF_point HS, mI_end HS, mF_end HS, mI_begin HS, mF_begin HS, mI_deep HS, mF_deep HS, mI_faultAt HS, mF_faultAt HS, mR_five HS, mI_codes HS, mF_codes HS, mR_value HS, mI_so HS, mF_so HS, mR_lines HS, mR_chosen HS, mR_best HS, mR_members HS, mR_paired HS, mO HS, mA_287 HS, mW_287 HS, mA_288 HS, mW_288 HS, mA_289 HS, mW_289 HS, mA_290 HS, mW_290 HS, mA_291 HS, mW_291 HS, mA_292 HS, mW_292 HS, mA_293 HS, mW_293 HS, mA_294 HS, mW_294 HS, mA_295 HS, mW_295 HS, mA_296 HS, mW_296 HS, mA_297 HS, mW_297 HS, mA_298 HS, mW_298 HS, mA_299 HS, mW_299 HS, hz64, e1 z hz, ne, if_false, oN_add]
                  exact ihk (o + 1) (by omega)
              exact fnd (g + 1 + j) 0 (by omega)
      have bq : bt (Int32.ofNat (2 ^ (gg G.1) - 1)) q = true := by
        have : ∀ n, n < 7 → ∀ q, q < 6 → q < n → bt (Int32.ofNat (2 ^ n - 1)) q = true := by decide +kernel
        exact this (gg G.1) (by omega) q (by omega) hq
      exact lp (gg G.1) 0 (2 ^ (gg G.1) - 1) wm1 _ _ _ (by omega) (by omega) (fun i hi => absurd hi (Nat.not_lt_zero _)) bq rfl fin
end CB6
