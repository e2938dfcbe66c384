/-! ===== seating, the reference's small one ===== -/
def anS (p : Nat → Bool) : Nat → Bool
  | 0 => false
  | k + 1 => anS p k || p k
theorem anS_bs {p : Nat → Bool} {x : Int32} : ∀ n, n ≤ 8 → (decide (bs p n &&& x = Int32.ofNat 0)) = !anS (fun o => p o && bt x o) n
  | 0, _ => by
    have e : bs p 0 &&& x = Int32.ofNat 0 := by apply b_ext; intro i _; show bt (Int32.ofNat 0 &&& x) i = _; rw [b_and, b_00, Bool.false_and]
    rw [decide_eq_true e]; rfl
  | n + 1, h => by
    have ih := anS_bs (p := p) (x := x) n (by omega)
    have e : (bs p (n + 1) &&& x = Int32.ofNat 0) ↔ (bs p n &&& x = Int32.ofNat 0 ∧ (p n && bt x n) = false) := by
      rw [bs_succ]
      by_cases hp : p n = true
      · rw [if_pos hp, hp, Bool.true_and, show ∀ a b : Int32, a &&& b = b &&& a from fun a b => by apply b_ext; intro i _; rw [b_and, b_and, Bool.and_comm], x_or_no (by omega), show ∀ a b : Int32, a &&& b = b &&& a from fun a b => by apply b_ext; intro i _; rw [b_and, b_and, Bool.and_comm]]
      · rw [if_neg hp]
        simp [hp]
    show _ = !(anS (fun o => p o && bt x o) n || (p n && bt x n))
    rw [Bool.not_or, ← ih]
    by_cases h1 : bs p n &&& x = Int32.ofNat 0
    · cases h2 : (p n && bt x n) with
      | false => rw [decide_eq_true (e.mpr ⟨h1, h2⟩), decide_eq_true h1]; rfl
      | true => rw [decide_eq_false (fun h => by rw [(e.mp h).2] at h2; cases h2), decide_eq_true h1]; rfl
    · rw [decide_eq_false (fun h => h1 (e.mp h).1), decide_eq_false h1, Bool.false_and]
section C98
variable {nx : Nat} {xs : Nat → Int32} {d c s : Nat} {sh : List sC} {D : sD} {Q : av_Q}
variable {V : sD} {nt ng nr nl : Nat}
theorem k314 {g t : Nat} (hw : WT sh) (HS : SP sh) (R : Rw (D 287) V nt ng nr nl) (I : Iv V nt ng nr nl) (hg : g < ng) (ht : t < nr) : Wx (tP nx xs) (d + 3) 314 0 [some (.ref 286), (some (.int (Int32.ofNat g))), (some (.int (Int32.ofNat t))), none, none, none] [] (mk sh D) c s Q = Q (.inl (some (.int (bo (rmP V (bs (fun o => decide (D 296 o = Int32.ofNat t)) g) g t))))) (mk sh D) c s := by
  have hng := i_ng6 I
  have hnr := i_nr5 I
  have hg6 : g < 6 := by omega
  have ht5 : t < 5 := by omega
  have z6 : 6 < 11 := by decide
  have z1 : 1 < 4 := by decide
  have n10 : ¬ (Int32.ofNat 1 : Int32) = Int32.ofNat 0 := by decide
  simp only [b314_0 hw]
  refine (up_loop (W := fun i (_ : Nat) => Wx (tP nx xs) (d + 3) 314 8 [some (.ref 286), (some (.int (Int32.ofNat g))), (some (.int (Int32.ofNat t))), (some (.int (Int32.ofNat (nS (fun o => decide (D 296 o = Int32.ofNat t)) i)))), (some (.int (bo (anS (fun o => decide (D 296 o = Int32.ofNat t) && bt (V 11 g) o) i)))), (some (.int (Int32.ofNat i)))] [] (mk sh D) c s Q) (F := fun _ x => x) g (fun i _ hi => ?_) 0).trans ?_
  · have hi6 : i < 6 := by omega
    rw [b314_8 hw, nS_succ, show anS (fun o => decide (D 296 o = Int32.ofNat t) && bt (V 11 g) o) (i + 1) = (anS (fun o => decide (D 296 o = Int32.ofNat t) && bt (V 11 g) o) i || (decide (D 296 i = Int32.ofNat t) && bt (V 11 g) i)) from rfl]
    simp only [oN_lt (show i < 2147483648 by omega) (show g < 2147483648 by omega), hi, if_true, mI_thrown HS, mF_thrown HS, mR_row HS, mR_image HS, mR_earlier HS, mR_trial HS, mR_acts HS, mI_hasImage HS, mF_hasImage HS, mI_remembered HS, mF_remembered HS, mR_tape HS, mI_taped HS, mF_taped HS, mI_point HS, mF_point HS, mI_end HS, mF_end HS, mI_begin HS, mF_begin HS, mI_deep HS, mF_deep HS, mI_faultAt HS, mF_faultAt HS, mR_five HS, mI_codes HS, mF_codes HS, mR_value HS, mI_so HS, mF_so HS, mR_lines HS, mR_chosen HS, mR_best HS, mR_members HS, mR_paired HS, mO HS, mA_287 HS, mW_287 HS, mA_288 HS, mW_288 HS, mA_289 HS, mW_289 HS, mA_290 HS, mW_290 HS, mA_291 HS, mW_291 HS, mA_292 HS, mW_292 HS, mA_293 HS, mW_293 HS, mA_294 HS, mW_294 HS, mA_295 HS, mW_295 HS, mA_296 HS, mW_296 HS, mA_297 HS, mW_297 HS, mA_298 HS, mW_298 HS, mA_299 HS, mW_299 HS, wi_some, or_0, or_1, bo_or, ite_boP, true_and, and_true, kN_v, kN_n, kT_v, kT_n, kT_e, Nat.add_zero, Nat.zero_add, hi6, b314_31 hw, k203 hw HS hg6 z6, r_shuns R hg, b314_56 hw, k189 hw (show i < 32 by omega), b314_61 hw, b314_64 hw, b314_68 hw, b314_69 hw, oN_add]
    by_cases h1 : D 296 i = Int32.ofNat t
    · cases anS (fun o => decide (D 296 o = Int32.ofNat t) && bt (V 11 g) o) i <;> cases bt (V 11 g) i <;> simp only [h1, decide_true, if_true, if_false, bo_f, bo_t, n10, Bool.true_and, Bool.true_or, Bool.or_true, Bool.or_false, Bool.false_or, Bool.false_eq_true]
    · cases anS (fun o => decide (D 296 o = Int32.ofNat t) && bt (V 11 g) o) i <;> simp only [h1, decide_false, if_true, if_false, bo_f, bo_t, n10, Bool.false_and, Bool.true_or, Bool.or_false, Bool.false_eq_true, Nat.add_zero]
  · rw [b314_8 hw]
    simp only [oN_lt (show g < 2147483648 by omega) (show g < 2147483648 by omega), Nat.lt_irrefl, if_false, mI_thrown HS, mF_thrown HS, mR_row HS, mR_image HS, mR_earlier HS, mR_trial HS, mR_acts HS, mI_hasImage HS, mF_hasImage HS, mI_remembered HS, mF_remembered HS, mR_tape HS, mI_taped HS, mF_taped HS, mI_point HS, mF_point HS, mI_end HS, mF_end HS, mI_begin HS, mF_begin HS, mI_deep HS, mF_deep HS, mI_faultAt HS, mF_faultAt HS, mR_five HS, mI_codes HS, mF_codes HS, mR_value HS, mI_so HS, mF_so HS, mR_lines HS, mR_chosen HS, mR_best HS, mR_members HS, mR_paired HS, mO HS, mA_287 HS, mW_287 HS, mA_288 HS, mW_288 HS, mA_289 HS, mW_289 HS, mA_290 HS, mW_290 HS, mA_291 HS, mW_291 HS, mA_292 HS, mW_292 HS, mA_293 HS, mW_293 HS, mA_294 HS, mW_294 HS, mA_295 HS, mW_295 HS, mA_296 HS, mW_296 HS, mA_297 HS, mW_297 HS, mA_298 HS, mW_298 HS, mA_299 HS, mW_299 HS, wi_some, or_0, or_1, bo_or, ite_boP, true_and, and_true, kN_v, kN_n, kT_v, kT_n, kT_e, Nat.add_zero, Nat.zero_add, k255 hw HS R I hg ht, b314_83 hw, k205 hw HS ht5 z1, r_seats R ht, b314_93 hw, b314_105 hw, b314_106 hw, true_or, or_true, true_and]
    unfold rmP
    rw [anS_bs g (by omega), bc_bs _ (by omega)]
    cases stopB V g t <;> cases anS (fun o => decide (D 296 o = Int32.ofNat t) && bt (V 11 g) o) g <;> by_cases h2 : Int32.ofNat (nS (fun o => decide (D 296 o = Int32.ofNat t)) g) < V 14 t <;> simp only [h2, if_true, if_false, bo_f, bo_t, n10, Bool.false_eq_true, Bool.not_true, Bool.not_false, Bool.and_true, Bool.and_false, Bool.true_and, Bool.false_and, decide_true, decide_false]
end C98
