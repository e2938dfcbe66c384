/-! ===== WORLDS in the reference ===== -/
def Sm (D D' : sD) : Prop := ∀ b i, ¬ (b = 286 ∧ i = 18) → D' b i = D b i
theorem Sm.rf {D : sD} : Sm D D := fun _ _ _ => rfl
theorem Sm.tr {D D' D'' : sD} (h : Sm D D') (h' : Sm D' D'') : Sm D D'' := fun b i hb => (h' b i hb).trans (h b i hb)
theorem Sm.st {D D' : sD} {v : Int32} (h : Sm D D') : Sm D (u2 D' 286 18 v) := fun b i hb => by
  rw [u2_at, if_neg hb]
  exact h b i hb
theorem Sm.r7 {D D' : sD} (h : Sm D D') : D' 287 = D 287 := funext fun i => h 287 i (by omega)
theorem lastG_fo {p : Nat → Bool} {q : Nat → Bool} {x : Bool} : ∀ n, fo (fun g (x : Bool) => if p g then q g else x) n 0 x = match lastG p n with
    | some g => q g
    | none => x
  | 0 => rfl
  | n + 1 => by
    rw [fo_snoc, Nat.zero_add, lastG_fo n]
    simp only [lastG]
    by_cases h : p n = true
    · simp only [h, if_true]
    · have h : p n = false := by simpa using h
      simp only [h, Bool.false_eq_true, if_false]
theorem nS_more {p : Nat → Bool} {n : Nat} : ∀ {m : Nat}, n ≤ m → (∀ z, n ≤ z → z < m → p z = false) → nS p m = nS p n
  | 0, h, _ => by rw [show n = 0 by omega]
  | m + 1, h, hp => by
    by_cases e : n = m + 1
    · rw [e]
    · rw [nS_succ, hp m (by omega) (by omega), nS_more (m := m) (by omega) fun z h1 h2 => hp z h1 (by omega)]
      rfl
theorem bs_and {p : Nat → Bool} {n : Nat} (hn : n ≤ 32) (x : Int32) : bs (fun g => bt x g && p g) n = x &&& bs p n := by
  apply b_ext
  intro i hi
  rw [bs_bt _ hn hi, b_and, bs_bt _ hn hi]
  cases bt x i <;> cases decide (i < n) <;> cases p i <;> rfl
section C53
variable {nx : Nat} {xs : Nat → Int32} {d c s : Nat} {sh : List sC} {D : sD} {Q : av_Q}
variable {V : sD} {nt ng nr nl g t : Nat}
theorem k264 {set : Int32} (hw : WT sh) (HS : SP sh) (R : Rw (D 287) V nt ng nr nl) (I : Iv V nt ng nr nl) (ht : t < nt) : Wx (tP nx xs) (d + 3) 264 0 [some (.ref 286), (some (.int (Int32.ofNat t))), (some (.int (set))), none, none, none] [] (mk sh D) c s Q = Q (.inl (some (.int (bo (soP V nt ng (V 1 1) set (D 286 18) t))))) (mk sh D) c s := by
  have hnt := i_nt8 I
  have hng := i_ng6 I
  have ht8 : t < 8 := by omega
  have w0 : 0 < 8 := by decide
  have w1 : 1 < 8 := by decide
  have w3 : 3 < 8 := by decide
  have w4 : 4 < 8 := by decide
  have v0 : 0 < 11 := by decide
  have v1 : 1 < 11 := by decide
  have v2 : 2 < 11 := by decide
  have l2 : ∀ (x : Bool) (l4 : Int32), Wx (tP nx xs) (d + 3) 264 129 [some (.ref 286), (some (.int (Int32.ofNat t))), (some (.int (set))), (some (.int (bo x))), (some (.int (l4))), (some (.int (Int32.ofNat 0)))] [] (mk sh D) c s Q = Q (.inl (some (.int (bo (match lastG (deedP V set t) ng with
    | some g => bt (V 0 4) g
    | none => x))))) (mk sh D) c s := by
    intro x l4
    rw [← lastG_fo]
    refine (up_loop (W := fun i (x : Bool) => Wx (tP nx xs) (d + 3) 264 129 [some (.ref 286), (some (.int (Int32.ofNat t))), (some (.int (set))), (some (.int (bo x))), (some (.int (l4))), (some (.int (Int32.ofNat i)))] [] (mk sh D) c s Q) (F := fun g (x : Bool) => if deedP V set t g then bt (V 0 4) g else x) ng (fun i x hi => ?_) x).trans ?_
    · have hi6 : i < 6 := by omega
      rw [b264_129 hw]
      simp only [b264_135 hw, b264_144 hw, b264_154 hw, b264_165 hw, b264_171 hw, b264_181 hw, b264_190 hw, b264_191 hw, mI_thrown HS, mF_thrown HS, mR_row HS, mR_image HS, mR_earlier HS, mR_trial HS, mR_acts HS, mI_hasImage HS, mF_hasImage HS, mI_remembered HS, mF_remembered HS, mR_tape HS, mI_taped HS, mF_taped HS, mI_point HS, mF_point HS, mI_end HS, mF_end HS, mI_begin HS, mF_begin HS, mI_deep HS, mF_deep HS, mI_faultAt HS, mF_faultAt HS, mR_five HS, mI_codes HS, mF_codes HS, mR_value HS, mI_so HS, mF_so HS, mR_lines HS, mR_chosen HS, mR_best HS, mR_members HS, mR_paired HS, mO HS, mA_287 HS, mW_287 HS, mA_288 HS, mW_288 HS, mA_289 HS, mW_289 HS, mA_290 HS, mW_290 HS, mA_291 HS, mW_291 HS, mA_292 HS, mW_292 HS, mA_293 HS, mW_293 HS, mA_294 HS, mW_294 HS, mA_295 HS, mW_295 HS, mA_296 HS, mW_296 HS, mA_297 HS, mW_297 HS, mA_298 HS, mW_298 HS, mA_299 HS, mW_299 HS, wi_some, or_0, or_1, bo_or, ite_boP, true_and, and_true, kN_v, kN_n, kT_v, kT_n, kT_e, Nat.add_zero, Nat.zero_add, k198 hw HS, r_ng R, oN_lt (show i < 2147483648 by omega) (show ng < 2147483648 by omega), hi, if_true, k189 hw (show i < 32 by omega), k203 hw HS hi6 v1, k203 hw HS hi6 v0, k203 hw HS hi6 v2, k201 hw HS ht8 w0, r_deed R hi, r_wish0 R hi, r_at0 R ht, r_mk R hi, oN_add, bo_1]
      unfold deedP
      cases hb : bt set i
      · simp only [Bool.false_eq_true, if_false, Bool.false_and]
      · simp only [if_true, Bool.true_and]
        by_cases h1 : V 7 i = Int32.ofNat t
        · simp only [h1, if_true, decide_true, Bool.true_and]
          by_cases h2 : V 2 t < V 6 i
          · simp only [h2, if_true, not_true_eq_false, decide_false, Bool.false_eq_true, if_false]
          · simp only [h2, if_false, not_false_eq_true, decide_true, if_true]
            cases bt (V 0 4) i <;> rfl
        · simp only [h1, if_false, decide_false, Bool.false_and, Bool.false_eq_true]
    · rw [b264_129 hw]
      simp only [b264_135 hw, mI_thrown HS, mF_thrown HS, mR_row HS, mR_image HS, mR_earlier HS, mR_trial HS, mR_acts HS, mI_hasImage HS, mF_hasImage HS, mI_remembered HS, mF_remembered HS, mR_tape HS, mI_taped HS, mF_taped HS, mI_point HS, mF_point HS, mI_end HS, mF_end HS, mI_begin HS, mF_begin HS, mI_deep HS, mF_deep HS, mI_faultAt HS, mF_faultAt HS, mR_five HS, mI_codes HS, mF_codes HS, mR_value HS, mI_so HS, mF_so HS, mR_lines HS, mR_chosen HS, mR_best HS, mR_members HS, mR_paired HS, mO HS, mA_287 HS, mW_287 HS, mA_288 HS, mW_288 HS, mA_289 HS, mW_289 HS, mA_290 HS, mW_290 HS, mA_291 HS, mW_291 HS, mA_292 HS, mW_292 HS, mA_293 HS, mW_293 HS, mA_294 HS, mW_294 HS, mA_295 HS, mW_295 HS, mA_296 HS, mW_296 HS, mA_297 HS, mW_297 HS, mA_298 HS, mW_298 HS, mA_299 HS, mW_299 HS, wi_some, or_0, or_1, bo_or, ite_boP, true_and, and_true, kN_v, kN_n, kT_v, kT_n, kT_e, Nat.add_zero, Nat.zero_add, k198 hw HS, r_ng R, oN_lt (show ng < 2147483648 by omega) (show ng < 2147483648 by omega), Nat.lt_irrefl, if_false]
  simp only [b264_0 hw, b264_6 hw, b264_15 hw, mI_thrown HS, mF_thrown HS, mR_row HS, mR_image HS, mR_earlier HS, mR_trial HS, mR_acts HS, mI_hasImage HS, mF_hasImage HS, mI_remembered HS, mF_remembered HS, mR_tape HS, mI_taped HS, mF_taped HS, mI_point HS, mF_point HS, mI_end HS, mF_end HS, mI_begin HS, mF_begin HS, mI_deep HS, mF_deep HS, mI_faultAt HS, mF_faultAt HS, mR_five HS, mI_codes HS, mF_codes HS, mR_value HS, mI_so HS, mF_so HS, mR_lines HS, mR_chosen HS, mR_best HS, mR_members HS, mR_paired HS, mO HS, mA_287 HS, mW_287 HS, mA_288 HS, mW_288 HS, mA_289 HS, mW_289 HS, mA_290 HS, mW_290 HS, mA_291 HS, mW_291 HS, mA_292 HS, mW_292 HS, mA_293 HS, mW_293 HS, mA_294 HS, mW_294 HS, mA_295 HS, mW_295 HS, mA_296 HS, mW_296 HS, mA_297 HS, mW_297 HS, mA_298 HS, mW_298 HS, mA_299 HS, mW_299 HS, wi_some, or_0, or_1, bo_or, ite_boP, true_and, and_true, kN_v, kN_n, kT_v, kT_n, kT_e, Nat.add_zero, Nat.zero_add, k201 hw HS ht8 w1, r_first R ht, bo_1]
  have l1 : Wx (tP nx xs) (d + 3) 264 22 [some (.ref 286), (some (.int (Int32.ofNat t))), (some (.int (set))), (some (.int (bo (bt (V 1 1) t)))), (some (.int (bo false))), (some (.int (Int32.ofNat 0)))] [] (mk sh D) c s Q = Q (.inl (some (.int (bo (soP V nt ng (V 1 1) set (D 286 18) t))))) (mk sh D) c s := by
    refine (up_loop (W := fun i (x : Bool × Bool) => Wx (tP nx xs) (d + 3) 264 22 [some (.ref 286), (some (.int (Int32.ofNat t))), (some (.int (set))), (some (.int (bo x.1))), (some (.int (bo x.2))), (some (.int (Int32.ofNat i)))] [] (mk sh D) c s Q) (F := fun o (x : Bool × Bool) => (x.1 || (bt (D 286 18) o && bt (V 4 o) t), x.2 || (bt (D 286 18) o && bt (V 5 o) t))) nt (fun i x hi => ?_) (bt (V 1 1) t, false)).trans ?_
    · have hi8 : i < 8 := by omega
      obtain ⟨x1, x2⟩ := x
      rw [b264_22 hw]
      simp only [b264_28 hw, b264_44 hw, b264_54 hw, b264_58 hw, b264_61 hw, b264_65 hw, b264_66 hw, b264_81 hw, b264_91 hw, b264_95 hw, b264_98 hw, b264_102 hw, b264_103 hw, mI_thrown HS, mF_thrown HS, mR_row HS, mR_image HS, mR_earlier HS, mR_trial HS, mR_acts HS, mI_hasImage HS, mF_hasImage HS, mI_remembered HS, mF_remembered HS, mR_tape HS, mI_taped HS, mF_taped HS, mI_point HS, mF_point HS, mI_end HS, mF_end HS, mI_begin HS, mF_begin HS, mI_deep HS, mF_deep HS, mI_faultAt HS, mF_faultAt HS, mR_five HS, mI_codes HS, mF_codes HS, mR_value HS, mI_so HS, mF_so HS, mR_lines HS, mR_chosen HS, mR_best HS, mR_members HS, mR_paired HS, mO HS, mA_287 HS, mW_287 HS, mA_288 HS, mW_288 HS, mA_289 HS, mW_289 HS, mA_290 HS, mW_290 HS, mA_291 HS, mW_291 HS, mA_292 HS, mW_292 HS, mA_293 HS, mW_293 HS, mA_294 HS, mW_294 HS, mA_295 HS, mW_295 HS, mA_296 HS, mW_296 HS, mA_297 HS, mW_297 HS, mA_298 HS, mW_298 HS, mA_299 HS, mW_299 HS, wi_some, or_0, or_1, bo_or, ite_boP, true_and, and_true, kN_v, kN_n, kT_v, kT_n, kT_e, Nat.add_zero, Nat.zero_add, k197 hw HS, r_nt R, oN_lt (show i < 2147483648 by omega) (show nt < 2147483648 by omega), hi, if_true, k189 hw (show i < 32 by omega), k189 hw (show t < 32 by omega), k201 hw HS hi8 w3, k201 hw HS hi8 w4, r_makes R hi, r_hinders R hi, oN_add]
      cases x1 <;> cases x2 <;> cases bt (D 286 18) i <;> cases bt (V 4 i) t <;> cases bt (V 5 i) t <;> rfl
    · rw [b264_22 hw]
      have hp : ∀ n, fo (fun o (x : Bool × Bool) => (x.1 || (bt (D 286 18) o && bt (V 4 o) t), x.2 || (bt (D 286 18) o && bt (V 5 o) t))) n 0 (bt (V 1 1) t, false) = (bt (V 1 1) t || anyN (fun o => bt (D 286 18) o && bt (V 4 o) t) n, anyN (fun o => bt (D 286 18) o && bt (V 5 o) t) n) := by
        intro n
        induction n with
        | zero => simp [fo, anyN]
        | succ n ih =>
          rw [fo_snoc, ih]
          unfold anyN
          rw [fo_snoc, fo_snoc]
          simp [Bool.or_assoc]
      rw [hp]
      simp only [b264_28 hw, b264_124 hw, b264_125 hw, mI_thrown HS, mF_thrown HS, mR_row HS, mR_image HS, mR_earlier HS, mR_trial HS, mR_acts HS, mI_hasImage HS, mF_hasImage HS, mI_remembered HS, mF_remembered HS, mR_tape HS, mI_taped HS, mF_taped HS, mI_point HS, mF_point HS, mI_end HS, mF_end HS, mI_begin HS, mF_begin HS, mI_deep HS, mF_deep HS, mI_faultAt HS, mF_faultAt HS, mR_five HS, mI_codes HS, mF_codes HS, mR_value HS, mI_so HS, mF_so HS, mR_lines HS, mR_chosen HS, mR_best HS, mR_members HS, mR_paired HS, mO HS, mA_287 HS, mW_287 HS, mA_288 HS, mW_288 HS, mA_289 HS, mW_289 HS, mA_290 HS, mW_290 HS, mA_291 HS, mW_291 HS, mA_292 HS, mW_292 HS, mA_293 HS, mW_293 HS, mA_294 HS, mW_294 HS, mA_295 HS, mW_295 HS, mA_296 HS, mW_296 HS, mA_297 HS, mW_297 HS, mA_298 HS, mW_298 HS, mA_299 HS, mW_299 HS, wi_some, or_0, or_1, bo_or, ite_boP, true_and, and_true, kN_v, kN_n, kT_v, kT_n, kT_e, Nat.add_zero, Nat.zero_add, k197 hw HS, r_nt R, oN_lt (show nt < 2147483648 by omega) (show nt < 2147483648 by omega), Nat.lt_irrefl, if_false]
      unfold soP
      generalize (bt (V 1 1) t || anyN (fun o => bt (D 286 18) o && bt (V 4 o) t) nt) = x1
      generalize anyN (fun o => bt (D 286 18) o && bt (V 5 o) t) nt = x2
      cases x1 <;> cases x2
      · simp only [Bool.false_eq_true, if_false, Bool.false_and]; exact l2 false _
      · simp only [Bool.false_eq_true, if_false, Bool.false_and]; exact l2 false _
      · simp only [if_true, Bool.false_eq_true, if_false, Bool.not_false, Bool.and_self]; exact l2 true _
      · simp only [if_true, Bool.not_true, Bool.and_false]; exact l2 false _
  cases hb : bt (V 1 1) t
  · rw [hb] at l1; simp only [Bool.false_eq_true, if_false]; exact l1
  · rw [hb] at l1; simp only [if_true]; exact l1
theorem k265 {set : Int32} (hw : WT sh) (HS : SP sh) (R : Rw (D 287) V nt ng nr nl) (I : Iv V nt ng nr nl)
    (kk : ∀ D', Sm D D' → Q (.inl (some (.int (wS V nt ng (V 1 1) set)))) (mk sh D') c s) :
    Wx (tP nx xs) (d + 4) 265 0 [some (.ref 286), (some (.int (set))), none, none] [] (mk sh D) c s Q := by
  have hnt := i_nt8 I
  have w0 : 0 < 8 := by decide
  simp only [b265_0 hw, b265_5 hw, mI_thrown HS, mF_thrown HS, mR_row HS, mR_image HS, mR_earlier HS, mR_trial HS, mR_acts HS, mI_hasImage HS, mF_hasImage HS, mI_remembered HS, mF_remembered HS, mR_tape HS, mI_taped HS, mF_taped HS, mI_point HS, mF_point HS, mI_end HS, mF_end HS, mI_begin HS, mF_begin HS, mI_deep HS, mF_deep HS, mI_faultAt HS, mF_faultAt HS, mR_five HS, mI_codes HS, mF_codes HS, mR_value HS, mI_so HS, mF_so HS, mR_lines HS, mR_chosen HS, mR_best HS, mR_members HS, mR_paired HS, mO HS, mA_287 HS, mW_287 HS, mA_288 HS, mW_288 HS, mA_289 HS, mW_289 HS, mA_290 HS, mW_290 HS, mA_291 HS, mW_291 HS, mA_292 HS, mW_292 HS, mA_293 HS, mW_293 HS, mA_294 HS, mW_294 HS, mA_295 HS, mW_295 HS, mA_296 HS, mW_296 HS, mA_297 HS, mW_297 HS, mA_298 HS, mW_298 HS, mA_299 HS, mW_299 HS, wi_some, or_0, or_1, bo_or, ite_boP, true_and, and_true, kN_v, kN_n, kT_v, kT_n, kT_e, Nat.add_zero, Nat.zero_add]
  refine up_P (W := fun stop (_ : Int32) D => ∀ l3, Wx (tP nx xs) (d + 4) 265 7 [some (.ref 286), (some (.int (set))), (some (.int (Int32.ofNat stop))), l3] [] (mk sh D) c s Q) (P := fun _ so D' => Sm D D' ∧ D' 286 18 = so) (F := fun stop so => fo (fun t so => if decide (V 2 t = Int32.ofNat stop) then wStep V nt ng (V 1 1) set so t else so) nt 0 so) 16 ?_ (Int32.ofNat 0) _ ⟨Sm.rf.st, by simp [u2_at]⟩ ?_ none
  · intro stop so D1 hst ⟨s1, e1⟩ k l3
    rw [b265_7 hw]
    simp only [oN_lt (show stop < 2147483648 by omega) (show 16 < 2147483648 by omega), hst, if_true]
    refine up_P (W := fun t (_ : Int32) D => Wx (tP nx xs) (d + 4) 265 15 [some (.ref 286), (some (.int (set))), (some (.int (Int32.ofNat stop))), (some (.int (Int32.ofNat t)))] [] (mk sh D) c s Q) (P := fun _ so D' => Sm D D' ∧ D' 286 18 = so) (F := fun t so => if decide (V 2 t = Int32.ofNat stop) then wStep V nt ng (V 1 1) set so t else so) nt ?_ so D1 ⟨s1, e1⟩ ?_
    · intro t so D2 ht ⟨s2, e2⟩ k2
      have ht8 : t < 8 := by omega
      have R2 : Rw (D2 287) V nt ng nr nl := by rw [s2.r7]; exact R
      rw [b265_15 hw]
      simp only [b265_20 hw, b265_29 hw, mI_thrown HS, mF_thrown HS, mR_row HS, mR_image HS, mR_earlier HS, mR_trial HS, mR_acts HS, mI_hasImage HS, mF_hasImage HS, mI_remembered HS, mF_remembered HS, mR_tape HS, mI_taped HS, mF_taped HS, mI_point HS, mF_point HS, mI_end HS, mF_end HS, mI_begin HS, mF_begin HS, mI_deep HS, mF_deep HS, mI_faultAt HS, mF_faultAt HS, mR_five HS, mI_codes HS, mF_codes HS, mR_value HS, mI_so HS, mF_so HS, mR_lines HS, mR_chosen HS, mR_best HS, mR_members HS, mR_paired HS, mO HS, mA_287 HS, mW_287 HS, mA_288 HS, mW_288 HS, mA_289 HS, mW_289 HS, mA_290 HS, mW_290 HS, mA_291 HS, mW_291 HS, mA_292 HS, mW_292 HS, mA_293 HS, mW_293 HS, mA_294 HS, mW_294 HS, mA_295 HS, mW_295 HS, mA_296 HS, mW_296 HS, mA_297 HS, mW_297 HS, mA_298 HS, mW_298 HS, mA_299 HS, mW_299 HS, wi_some, or_0, or_1, bo_or, ite_boP, true_and, and_true, kN_v, kN_n, kT_v, kT_n, kT_e, Nat.add_zero, Nat.zero_add, k197 hw HS, r_nt R2, oN_lt (show t < 2147483648 by omega) (show nt < 2147483648 by omega), ht, if_true, k201 hw HS ht8 w0, r_at0 R2 ht]
      by_cases h : V 2 t = Int32.ofNat stop
      · simp only [h, if_true, k264 hw HS R2 I ht, b265_39 hw, b265_54 hw, mI_thrown HS, mF_thrown HS, mR_row HS, mR_image HS, mR_earlier HS, mR_trial HS, mR_acts HS, mI_hasImage HS, mF_hasImage HS, mI_remembered HS, mF_remembered HS, mR_tape HS, mI_taped HS, mF_taped HS, mI_point HS, mF_point HS, mI_end HS, mF_end HS, mI_begin HS, mF_begin HS, mI_deep HS, mF_deep HS, mI_faultAt HS, mF_faultAt HS, mR_five HS, mI_codes HS, mF_codes HS, mR_value HS, mI_so HS, mF_so HS, mR_lines HS, mR_chosen HS, mR_best HS, mR_members HS, mR_paired HS, mO HS, mA_287 HS, mW_287 HS, mA_288 HS, mW_288 HS, mA_289 HS, mW_289 HS, mA_290 HS, mW_290 HS, mA_291 HS, mW_291 HS, mA_292 HS, mW_292 HS, mA_293 HS, mW_293 HS, mA_294 HS, mW_294 HS, mA_295 HS, mW_295 HS, mA_296 HS, mW_296 HS, mA_297 HS, mW_297 HS, mA_298 HS, mW_298 HS, mA_299 HS, mW_299 HS, wi_some, or_0, or_1, bo_or, ite_boP, true_and, and_true, kN_v, kN_n, kT_v, kT_n, kT_e, Nat.add_zero, Nat.zero_add, oN_add, e2]
        simp only [h, decide_true, if_true] at k2
        unfold wStep at k2
        by_cases hs : soP V nt ng (V 1 1) set so t = true
        · simp only [hs, if_true] at k2 ⊢
          exact k2 _ ⟨s2.st, by simp [u2_at]⟩
        · simp only [hs, if_false] at k2 ⊢
          exact k2 D2 ⟨s2, e2⟩
      · simp only [h, if_false, decide_false, Bool.false_eq_true, b265_54 hw, oN_add] at k2 ⊢
        exact k2 D2 ⟨s2, e2⟩
    · intro D2 ⟨s2, e2⟩
      have R2 : Rw (D2 287) V nt ng nr nl := by rw [s2.r7]; exact R
      rw [b265_15 hw]
      simp only [b265_20 hw, mI_thrown HS, mF_thrown HS, mR_row HS, mR_image HS, mR_earlier HS, mR_trial HS, mR_acts HS, mI_hasImage HS, mF_hasImage HS, mI_remembered HS, mF_remembered HS, mR_tape HS, mI_taped HS, mF_taped HS, mI_point HS, mF_point HS, mI_end HS, mF_end HS, mI_begin HS, mF_begin HS, mI_deep HS, mF_deep HS, mI_faultAt HS, mF_faultAt HS, mR_five HS, mI_codes HS, mF_codes HS, mR_value HS, mI_so HS, mF_so HS, mR_lines HS, mR_chosen HS, mR_best HS, mR_members HS, mR_paired HS, mO HS, mA_287 HS, mW_287 HS, mA_288 HS, mW_288 HS, mA_289 HS, mW_289 HS, mA_290 HS, mW_290 HS, mA_291 HS, mW_291 HS, mA_292 HS, mW_292 HS, mA_293 HS, mW_293 HS, mA_294 HS, mW_294 HS, mA_295 HS, mW_295 HS, mA_296 HS, mW_296 HS, mA_297 HS, mW_297 HS, mA_298 HS, mW_298 HS, mA_299 HS, mW_299 HS, wi_some, or_0, or_1, bo_or, ite_boP, true_and, and_true, kN_v, kN_n, kT_v, kT_n, kT_e, Nat.add_zero, Nat.zero_add, k197 hw HS, r_nt R2, oN_lt (show nt < 2147483648 by omega) (show nt < 2147483648 by omega), Nat.lt_irrefl, if_false, oN_add]
      exact k D2 ⟨s2, e2⟩ _
  · intro D1 ⟨s1, e1⟩ l3
    rw [b265_7 hw]
    simp only [oN_lt (show 16 < 2147483648 by omega) (show 16 < 2147483648 by omega), Nat.lt_irrefl, if_false, mI_thrown HS, mF_thrown HS, mR_row HS, mR_image HS, mR_earlier HS, mR_trial HS, mR_acts HS, mI_hasImage HS, mF_hasImage HS, mI_remembered HS, mF_remembered HS, mR_tape HS, mI_taped HS, mF_taped HS, mI_point HS, mF_point HS, mI_end HS, mF_end HS, mI_begin HS, mF_begin HS, mI_deep HS, mF_deep HS, mI_faultAt HS, mF_faultAt HS, mR_five HS, mI_codes HS, mF_codes HS, mR_value HS, mI_so HS, mF_so HS, mR_lines HS, mR_chosen HS, mR_best HS, mR_members HS, mR_paired HS, mO HS, mA_287 HS, mW_287 HS, mA_288 HS, mW_288 HS, mA_289 HS, mW_289 HS, mA_290 HS, mW_290 HS, mA_291 HS, mW_291 HS, mA_292 HS, mW_292 HS, mA_293 HS, mW_293 HS, mA_294 HS, mW_294 HS, mA_295 HS, mW_295 HS, mA_296 HS, mW_296 HS, mA_297 HS, mW_297 HS, mA_298 HS, mW_298 HS, mA_299 HS, mW_299 HS, wi_some, or_0, or_1, bo_or, ite_boP, true_and, and_true, kN_v, kN_n, kT_v, kT_n, kT_e, Nat.add_zero, Nat.zero_add, e1]
    exact kk D1 s1
theorem k266 {set so : Int32} (hw : WT sh) (HS : SP sh) (R : Rw (D 287) V nt ng nr nl) (I : Iv V nt ng nr nl) : Wx (tP nx xs) (d + 3) 266 0 [some (.ref 286), (some (.int (set))), (some (.int (so))), none, none] [] (mk sh D) c s Q = Q (.inl (some (.int (set &&& aliveS V ng so)))) (mk sh D) c s := by
  have hng := i_ng6 I
  have hnt := i_nt8 I
  have v3 : 3 < 11 := by decide
  unfold aliveS
  rw [← bs_and (by omega)]
  simp only [b266_0 hw]
  refine (up_loop (W := fun i x => Wx (tP nx xs) (d + 3) 266 5 [some (.ref 286), (some (.int (set))), (some (.int (so))), (some (.int (x))), (some (.int (Int32.ofNat i)))] [] (mk sh D) c s Q) (F := fun g x => if bt set g && aliveP V so g then x ||| jshl (Int32.ofNat 1) (Int32.ofNat g) else x) ng (fun i x hi => ?_) (Int32.ofNat 0)).trans ?_
  · have hi6 : i < 6 := by omega
    have z0 : ∀ x : Int32, x ||| Int32.ofNat 0 = x := fun x => b_ext fun i hi => by rw [b_or, b_00, Bool.or_false]
    rw [b266_5 hw]
    simp only [b266_11 hw, b266_21 hw, b266_31 hw, b266_43 hw, b266_46 hw, b266_49 hw, b266_56 hw, b266_57 hw, mI_thrown HS, mF_thrown HS, mR_row HS, mR_image HS, mR_earlier HS, mR_trial HS, mR_acts HS, mI_hasImage HS, mF_hasImage HS, mI_remembered HS, mF_remembered HS, mR_tape HS, mI_taped HS, mF_taped HS, mI_point HS, mF_point HS, mI_end HS, mF_end HS, mI_begin HS, mF_begin HS, mI_deep HS, mF_deep HS, mI_faultAt HS, mF_faultAt HS, mR_five HS, mI_codes HS, mF_codes HS, mR_value HS, mI_so HS, mF_so HS, mR_lines HS, mR_chosen HS, mR_best HS, mR_members HS, mR_paired HS, mO HS, mA_287 HS, mW_287 HS, mA_288 HS, mW_288 HS, mA_289 HS, mW_289 HS, mA_290 HS, mW_290 HS, mA_291 HS, mW_291 HS, mA_292 HS, mW_292 HS, mA_293 HS, mW_293 HS, mA_294 HS, mW_294 HS, mA_295 HS, mW_295 HS, mA_296 HS, mW_296 HS, mA_297 HS, mW_297 HS, mA_298 HS, mW_298 HS, mA_299 HS, mW_299 HS, wi_some, or_0, or_1, bo_or, ite_boP, true_and, and_true, kN_v, kN_n, kT_v, kT_n, kT_e, Nat.add_zero, Nat.zero_add, k198 hw HS, r_ng R, oN_lt (show i < 2147483648 by omega) (show ng < 2147483648 by omega), hi, if_true, k189 hw (show i < 32 by omega), k203 hw HS hi6 v3, r_born R hi, oN_add, z0]
    cases hb : bt set i
    · simp only [Bool.false_eq_true, if_false, Bool.false_and]
    · simp only [if_true, Bool.true_and]
      rcases i_born I hi with h | ⟨n, hn, h⟩
      · simp only [aliveP, h, if_true, decide_true, Bool.true_or]
      · have h1 : ¬ Int32.ofNat n = -1 := by rw [oN_ne1 (by omega)]; exact id
        simp only [aliveP, h, h1, if_false, decide_false, Bool.false_or, k189 hw (show n < 32 by omega), wi_some, or_0, or_1, bo_or, ite_boP, true_and, and_true, kN_v, kN_n, kT_v, kT_n, kT_e, Nat.add_zero, Nat.zero_add, oN_tn (show n < 2147483648 by omega), b266_46 hw, b266_49 hw, b266_56 hw, b266_57 hw, z0, oN_add]
        cases bt so n <;> rfl
  · rw [b266_5 hw]
    simp only [b266_11 hw, mI_thrown HS, mF_thrown HS, mR_row HS, mR_image HS, mR_earlier HS, mR_trial HS, mR_acts HS, mI_hasImage HS, mF_hasImage HS, mI_remembered HS, mF_remembered HS, mR_tape HS, mI_taped HS, mF_taped HS, mI_point HS, mF_point HS, mI_end HS, mF_end HS, mI_begin HS, mF_begin HS, mI_deep HS, mF_deep HS, mI_faultAt HS, mF_faultAt HS, mR_five HS, mI_codes HS, mF_codes HS, mR_value HS, mI_so HS, mF_so HS, mR_lines HS, mR_chosen HS, mR_best HS, mR_members HS, mR_paired HS, mO HS, mA_287 HS, mW_287 HS, mA_288 HS, mW_288 HS, mA_289 HS, mW_289 HS, mA_290 HS, mW_290 HS, mA_291 HS, mW_291 HS, mA_292 HS, mW_292 HS, mA_293 HS, mW_293 HS, mA_294 HS, mW_294 HS, mA_295 HS, mW_295 HS, mA_296 HS, mW_296 HS, mA_297 HS, mW_297 HS, mA_298 HS, mW_298 HS, mA_299 HS, mW_299 HS, wi_some, or_0, or_1, bo_or, ite_boP, true_and, and_true, kN_v, kN_n, kT_v, kT_n, kT_e, Nat.add_zero, Nat.zero_add, k198 hw HS, r_ng R, oN_lt (show ng < 2147483648 by omega) (show ng < 2147483648 by omega), Nat.lt_irrefl, if_false]
    rfl
theorem k267 {set gone : Int32} (hw : WT sh) (HS : SP sh) (R : Rw (D 287) V nt ng nr nl) (I : Iv V nt ng nr nl)
    (kk : ∀ D', Sm D D' → Q (.inl (some (.int (bo (agP V nt ng (V 1 1) gone set))))) (mk sh D') c s) :
    Wx (tP nx xs) (d + 5) 267 0 [some (.ref 286), (some (.int (set))), (some (.int (gone)))] [] (mk sh D) c s Q := by
  unfold agP at kk
  simp only [b267_0 hw, mI_thrown HS, mF_thrown HS, mR_row HS, mR_image HS, mR_earlier HS, mR_trial HS, mR_acts HS, mI_hasImage HS, mF_hasImage HS, mI_remembered HS, mF_remembered HS, mR_tape HS, mI_taped HS, mF_taped HS, mI_point HS, mF_point HS, mI_end HS, mF_end HS, mI_begin HS, mF_begin HS, mI_deep HS, mF_deep HS, mI_faultAt HS, mF_faultAt HS, mR_five HS, mI_codes HS, mF_codes HS, mR_value HS, mI_so HS, mF_so HS, mR_lines HS, mR_chosen HS, mR_best HS, mR_members HS, mR_paired HS, mO HS, mA_287 HS, mW_287 HS, mA_288 HS, mW_288 HS, mA_289 HS, mW_289 HS, mA_290 HS, mW_290 HS, mA_291 HS, mW_291 HS, mA_292 HS, mW_292 HS, mA_293 HS, mW_293 HS, mA_294 HS, mW_294 HS, mA_295 HS, mW_295 HS, mA_296 HS, mW_296 HS, mA_297 HS, mW_297 HS, mA_298 HS, mW_298 HS, mA_299 HS, mW_299 HS, wi_some, or_0, or_1, bo_or, ite_boP, true_and, and_true, kN_v, kN_n, kT_v, kT_n, kT_e, Nat.add_zero, Nat.zero_add]
  by_cases h : set &&& (gone ^^^ -1) = Int32.ofNat 0
  · simp only [h, if_true, decide_true, Bool.true_and] at kk ⊢
    refine k265 hw HS R I ?_
    intro D1 s1
    have R1 : Rw (D1 287) V nt ng nr nl := by rw [s1.r7]; exact R
    have kk := kk D1 s1
    simp only [b267_15 hw, b267_18 hw, b267_26 hw, b267_27 hw, mI_thrown HS, mF_thrown HS, mR_row HS, mR_image HS, mR_earlier HS, mR_trial HS, mR_acts HS, mI_hasImage HS, mF_hasImage HS, mI_remembered HS, mF_remembered HS, mR_tape HS, mI_taped HS, mF_taped HS, mI_point HS, mF_point HS, mI_end HS, mF_end HS, mI_begin HS, mF_begin HS, mI_deep HS, mF_deep HS, mI_faultAt HS, mF_faultAt HS, mR_five HS, mI_codes HS, mF_codes HS, mR_value HS, mI_so HS, mF_so HS, mR_lines HS, mR_chosen HS, mR_best HS, mR_members HS, mR_paired HS, mO HS, mA_287 HS, mW_287 HS, mA_288 HS, mW_288 HS, mA_289 HS, mW_289 HS, mA_290 HS, mW_290 HS, mA_291 HS, mW_291 HS, mA_292 HS, mW_292 HS, mA_293 HS, mW_293 HS, mA_294 HS, mW_294 HS, mA_295 HS, mW_295 HS, mA_296 HS, mW_296 HS, mA_297 HS, mW_297 HS, mA_298 HS, mW_298 HS, mA_299 HS, mW_299 HS, wi_some, or_0, or_1, bo_or, ite_boP, true_and, and_true, kN_v, kN_n, kT_v, kT_n, kT_e, Nat.add_zero, Nat.zero_add, k266 hw HS R1 I]
    by_cases h2 : gone &&& aliveS V ng (wS V nt ng (V 1 1) set) = set
    · simp only [h2, if_true, decide_true, bo_t] at kk ⊢; exact kk
    · simp only [h2, if_false, decide_false, bo_f] at kk ⊢; exact kk
  · simp only [h, if_false, decide_false, Bool.false_and, bo_f, b267_26 hw, b267_27 hw, wi_some, or_0, or_1, bo_or, ite_boP, true_and, and_true, kN_v, kN_n, kT_v, kT_n, kT_e, Nat.add_zero, Nat.zero_add] at kk ⊢
    exact kk D Sm.rf
theorem k268 {g0 : Nat} (hw : WT sh) (HS : SP sh) (R : Rw (D 287) V nt ng nr nl) (I : Iv V nt ng nr nl) (hg : g0 < 64)
    (kk : ∀ D', Sm D D' → Q (.inl (some (.int (pastS V nt ng (V 1 1) g0)))) (mk sh D') c s) :
    Wx (tP nx xs) (d + 6) 268 0 [some (.ref 286), (some (.int (Int32.ofNat g0))), none, none] [] (mk sh D) c s Q := by
  simp only [b268_0 hw]
  refine up_P (W := fun i x D => Wx (tP nx xs) (d + 6) 268 4 [some (.ref 286), (some (.int (Int32.ofNat g0))), (some (.int (x))), (some (.int (Int32.ofNat i)))] [] (mk sh D) c s Q) (P := fun _ _ D' => Sm D D') (F := fun z best => if agP V nt ng (V 1 1) (Int32.ofNat g0) (Int32.ofNat z) && fewer (Int32.ofNat z) best then Int32.ofNat z else best) (g0 + 1) ?_ (-1) D Sm.rf ?_
  · intro i x D1 hi s1 k
    have h1 : ¬ g0 < i := by omega
    rw [b268_4 hw]
    simp only [oN_lt (show g0 < 2147483648 by omega) (show i < 2147483648 by omega), h1, if_false, mI_thrown HS, mF_thrown HS, mR_row HS, mR_image HS, mR_earlier HS, mR_trial HS, mR_acts HS, mI_hasImage HS, mF_hasImage HS, mI_remembered HS, mF_remembered HS, mR_tape HS, mI_taped HS, mF_taped HS, mI_point HS, mF_point HS, mI_end HS, mF_end HS, mI_begin HS, mF_begin HS, mI_deep HS, mF_deep HS, mI_faultAt HS, mF_faultAt HS, mR_five HS, mI_codes HS, mF_codes HS, mR_value HS, mI_so HS, mF_so HS, mR_lines HS, mR_chosen HS, mR_best HS, mR_members HS, mR_paired HS, mO HS, mA_287 HS, mW_287 HS, mA_288 HS, mW_288 HS, mA_289 HS, mW_289 HS, mA_290 HS, mW_290 HS, mA_291 HS, mW_291 HS, mA_292 HS, mW_292 HS, mA_293 HS, mW_293 HS, mA_294 HS, mW_294 HS, mA_295 HS, mW_295 HS, mA_296 HS, mW_296 HS, mA_297 HS, mW_297 HS, mA_298 HS, mW_298 HS, mA_299 HS, mW_299 HS, wi_some, or_0, or_1, bo_or, ite_boP, true_and, and_true, kN_v, kN_n, kT_v, kT_n, kT_e, Nat.add_zero, Nat.zero_add]
    refine k267 hw HS (by rw [s1.r7]; exact R) I ?_
    intro D2 s2
    have k := k D2 (s1.tr s2)
    simp only [b268_15 hw, b268_27 hw, b268_31 hw, b268_34 hw, b268_36 hw, wi_some, or_0, or_1, bo_or, ite_boP, true_and, and_true, kN_v, kN_n, kT_v, kT_n, kT_e, Nat.add_zero, Nat.zero_add, k357 hw, oN_add]
    cases ha : agP V nt ng (V 1 1) (Int32.ofNat g0) (Int32.ofNat i)
    · simp only [ha, Bool.false_and, Bool.false_eq_true, if_false] at k ⊢; exact k
    · simp only [ha, Bool.true_and, if_true, fewer] at k ⊢
      by_cases h2 : x = -1
      · simp only [h2, decide_true, Bool.true_or, if_true] at k ⊢; exact k
      · by_cases h3 : bc (Int32.ofNat i) < bc x
        · simp only [h2, h3, decide_true, Bool.or_true, if_true, if_false] at k ⊢; exact k
        · simp only [h2, h3, decide_false, Bool.or_false, Bool.false_eq_true, if_false] at k ⊢; exact k
  · intro D1 s1
    have h1 : g0 < g0 + 1 := by omega
    rw [b268_4 hw]
    simp only [oN_lt (show g0 < 2147483648 by omega) (show g0 + 1 < 2147483648 by omega), h1, if_true]
    exact kk D1 s1
theorem k269 {g0 : Nat} (hw : WT sh) (HS : SP sh) (R : Rw (D 287) V nt ng nr nl) (I : Iv V nt ng nr nl) (hg : g0 < 64)
    (kk : ∀ D', Sm D D' → Q (.inl (some (.int (nowS V nt ng (V 1 1) g0)))) (mk sh D') c s) :
    Wx (tP nx xs) (d + 7) 269 0 [some (.ref 286), (some (.int (Int32.ofNat g0))), none] [] (mk sh D) c s Q := by
  simp only [b269_0 hw, mI_thrown HS, mF_thrown HS, mR_row HS, mR_image HS, mR_earlier HS, mR_trial HS, mR_acts HS, mI_hasImage HS, mF_hasImage HS, mI_remembered HS, mF_remembered HS, mR_tape HS, mI_taped HS, mF_taped HS, mI_point HS, mF_point HS, mI_end HS, mF_end HS, mI_begin HS, mF_begin HS, mI_deep HS, mF_deep HS, mI_faultAt HS, mF_faultAt HS, mR_five HS, mI_codes HS, mF_codes HS, mR_value HS, mI_so HS, mF_so HS, mR_lines HS, mR_chosen HS, mR_best HS, mR_members HS, mR_paired HS, mO HS, mA_287 HS, mW_287 HS, mA_288 HS, mW_288 HS, mA_289 HS, mW_289 HS, mA_290 HS, mW_290 HS, mA_291 HS, mW_291 HS, mA_292 HS, mW_292 HS, mA_293 HS, mW_293 HS, mA_294 HS, mW_294 HS, mA_295 HS, mW_295 HS, mA_296 HS, mW_296 HS, mA_297 HS, mW_297 HS, mA_298 HS, mW_298 HS, mA_299 HS, mW_299 HS, wi_some, or_0, or_1, bo_or, ite_boP, true_and, and_true, kN_v, kN_n, kT_v, kT_n, kT_e, Nat.add_zero, Nat.zero_add]
  refine k268 hw HS R I hg ?_
  intro D1 s1
  have R1 : Rw (D1 287) V nt ng nr nl := by rw [s1.r7]; exact R
  unfold nowS at kk
  simp only [b269_5 hw, wi_some, or_0, or_1, bo_or, ite_boP, true_and, and_true, kN_v, kN_n, kT_v, kT_n, kT_e, Nat.add_zero, Nat.zero_add]
  by_cases h : pastS V nt ng (V 1 1) g0 = -1
  · simp only [h, if_true, b269_17 hw, mI_thrown HS, mF_thrown HS, mR_row HS, mR_image HS, mR_earlier HS, mR_trial HS, mR_acts HS, mI_hasImage HS, mF_hasImage HS, mI_remembered HS, mF_remembered HS, mR_tape HS, mI_taped HS, mF_taped HS, mI_point HS, mF_point HS, mI_end HS, mF_end HS, mI_begin HS, mF_begin HS, mI_deep HS, mF_deep HS, mI_faultAt HS, mF_faultAt HS, mR_five HS, mI_codes HS, mF_codes HS, mR_value HS, mI_so HS, mF_so HS, mR_lines HS, mR_chosen HS, mR_best HS, mR_members HS, mR_paired HS, mO HS, mA_287 HS, mW_287 HS, mA_288 HS, mW_288 HS, mA_289 HS, mW_289 HS, mA_290 HS, mW_290 HS, mA_291 HS, mW_291 HS, mA_292 HS, mW_292 HS, mA_293 HS, mW_293 HS, mA_294 HS, mW_294 HS, mA_295 HS, mW_295 HS, mA_296 HS, mW_296 HS, mA_297 HS, mW_297 HS, mA_298 HS, mW_298 HS, mA_299 HS, mW_299 HS, wi_some, or_0, or_1, bo_or, ite_boP, true_and, and_true, kN_v, kN_n, kT_v, kT_n, kT_e, Nat.add_zero, Nat.zero_add] at kk ⊢
    refine k265 hw HS R1 I ?_
    intro D2 s2
    simp only [b269_20 hw, wi_some, or_0, or_1, bo_or, ite_boP, true_and, and_true, kN_v, kN_n, kT_v, kT_n, kT_e, Nat.add_zero, Nat.zero_add]
    exact kk D2 (s1.tr s2)
  · simp only [h, if_false, b269_17 hw, mI_thrown HS, mF_thrown HS, mR_row HS, mR_image HS, mR_earlier HS, mR_trial HS, mR_acts HS, mI_hasImage HS, mF_hasImage HS, mI_remembered HS, mF_remembered HS, mR_tape HS, mI_taped HS, mF_taped HS, mI_point HS, mF_point HS, mI_end HS, mF_end HS, mI_begin HS, mF_begin HS, mI_deep HS, mF_deep HS, mI_faultAt HS, mF_faultAt HS, mR_five HS, mI_codes HS, mF_codes HS, mR_value HS, mI_so HS, mF_so HS, mR_lines HS, mR_chosen HS, mR_best HS, mR_members HS, mR_paired HS, mO HS, mA_287 HS, mW_287 HS, mA_288 HS, mW_288 HS, mA_289 HS, mW_289 HS, mA_290 HS, mW_290 HS, mA_291 HS, mW_291 HS, mA_292 HS, mW_292 HS, mA_293 HS, mW_293 HS, mA_294 HS, mW_294 HS, mA_295 HS, mW_295 HS, mA_296 HS, mW_296 HS, mA_297 HS, mW_297 HS, mA_298 HS, mW_298 HS, mA_299 HS, mW_299 HS, wi_some, or_0, or_1, bo_or, ite_boP, true_and, and_true, kN_v, kN_n, kT_v, kT_n, kT_e, Nat.add_zero, Nat.zero_add] at kk ⊢
    refine k265 hw HS R1 I ?_
    intro D2 s2
    simp only [b269_20 hw, wi_some, or_0, or_1, bo_or, ite_boP, true_and, and_true, kN_v, kN_n, kT_v, kT_n, kT_e, Nat.add_zero, Nat.zero_add]
    exact kk D2 (s1.tr s2)
theorem cnt_all {first : Int32} {g0 m : Nat} (hg : g0 < m) (hm : m ≤ 64) : nS (fun z => agP V nt ng first (Int32.ofNat g0) (Int32.ofNat z)) m = cntS V nt ng first g0 := by
  unfold cntS
  apply nS_more (by omega)
  intro z h1 h2
  cases ha : agP V nt ng first (Int32.ofNat g0) (Int32.ofNat z)
  · rfl
  · unfold agP at ha
    simp only [Bool.and_eq_true, decide_eq_true_eq] at ha
    have := sub_le' (show z < 64 by omega) (show g0 < 64 by omega) ha.1
    omega
theorem k270 (hw : WT sh) (HS : SP sh) (R : Rw (D 287) V nt ng nr nl) (I : Iv V nt ng nr nl)
    (kk : ∀ D', Sm D D' → Q (.inl (some (.int (Int32.ofNat (cntS V nt ng (V 1 1) (gN V ng)))))) (mk sh D') c s) :
    Wx (tP nx xs) (d + 6) 270 0 [some (.ref 286), none, none] [] (mk sh D) c s Q := by
  have hng := i_ng6 I
  obtain ⟨g1, g2⟩ := gN_of (V := V) hng
  have p6 : 2 ^ ng ≤ 2 ^ 6 := Nat.pow_le_pow_right (by decide) hng
  have p0 : 0 < 2 ^ ng := Nat.pow_pos (by decide)
  rw [← cnt_all g2 (by omega)] at kk
  simp only [b270_0 hw]
  refine up_P (W := fun i (x : Nat) D => Wx (tP nx xs) (d + 6) 270 4 [some (.ref 286), (some (.int (Int32.ofNat x))), (some (.int (Int32.ofNat i)))] [] (mk sh D) c s Q) (P := fun _ _ D' => Sm D D') (F := fun z x => if agP V nt ng (V 1 1) (Int32.ofNat (gN V ng)) (Int32.ofNat z) then x + 1 else x) (2 ^ ng) ?_ 0 D Sm.rf ?_
  · intro i x D1 hi s1 k
    have R1 : Rw (D1 287) V nt ng nr nl := by rw [s1.r7]; exact R
    have h1 : ¬ 2 ^ ng - 1 < i := by omega
    rw [b270_4 hw]
    simp only [b270_9 hw, b270_19 hw, mI_thrown HS, mF_thrown HS, mR_row HS, mR_image HS, mR_earlier HS, mR_trial HS, mR_acts HS, mI_hasImage HS, mF_hasImage HS, mI_remembered HS, mF_remembered HS, mR_tape HS, mI_taped HS, mF_taped HS, mI_point HS, mF_point HS, mI_end HS, mF_end HS, mI_begin HS, mF_begin HS, mI_deep HS, mF_deep HS, mI_faultAt HS, mF_faultAt HS, mR_five HS, mI_codes HS, mF_codes HS, mR_value HS, mI_so HS, mF_so HS, mR_lines HS, mR_chosen HS, mR_best HS, mR_members HS, mR_paired HS, mO HS, mA_287 HS, mW_287 HS, mA_288 HS, mW_288 HS, mA_289 HS, mW_289 HS, mA_290 HS, mW_290 HS, mA_291 HS, mW_291 HS, mA_292 HS, mW_292 HS, mA_293 HS, mW_293 HS, mA_294 HS, mW_294 HS, mA_295 HS, mW_295 HS, mA_296 HS, mW_296 HS, mA_297 HS, mW_297 HS, mA_298 HS, mW_298 HS, mA_299 HS, mW_299 HS, wi_some, or_0, or_1, bo_or, ite_boP, true_and, and_true, kN_v, kN_n, kT_v, kT_n, kT_e, Nat.add_zero, Nat.zero_add, k206 hw HS R1 hng, k208 hw HS R1 hng, oN_lt (show 2 ^ ng - 1 < 2147483648 by omega) (show i < 2147483648 by omega), h1, if_false, g1]
    refine k267 hw HS R1 I ?_
    intro D2 s2
    have k := k D2 (s1.tr s2)
    simp only [b270_22 hw, b270_30 hw, wi_some, or_0, or_1, bo_or, ite_boP, true_and, and_true, kN_v, kN_n, kT_v, kT_n, kT_e, Nat.add_zero, Nat.zero_add]
    cases ha : agP V nt ng (V 1 1) (Int32.ofNat (gN V ng)) (Int32.ofNat i)
    · simp only [ha, Bool.false_eq_true, if_false, oN_add, Nat.add_zero] at k ⊢; exact k
    · simp only [ha, if_true, oN_add] at k ⊢; exact k
  · intro D1 s1
    have R1 : Rw (D1 287) V nt ng nr nl := by rw [s1.r7]; exact R
    have h1 : 2 ^ ng - 1 < 2 ^ ng := by omega
    rw [b270_4 hw]
    simp only [b270_9 hw, mI_thrown HS, mF_thrown HS, mR_row HS, mR_image HS, mR_earlier HS, mR_trial HS, mR_acts HS, mI_hasImage HS, mF_hasImage HS, mI_remembered HS, mF_remembered HS, mR_tape HS, mI_taped HS, mF_taped HS, mI_point HS, mF_point HS, mI_end HS, mF_end HS, mI_begin HS, mF_begin HS, mI_deep HS, mF_deep HS, mI_faultAt HS, mF_faultAt HS, mR_five HS, mI_codes HS, mF_codes HS, mR_value HS, mI_so HS, mF_so HS, mR_lines HS, mR_chosen HS, mR_best HS, mR_members HS, mR_paired HS, mO HS, mA_287 HS, mW_287 HS, mA_288 HS, mW_288 HS, mA_289 HS, mW_289 HS, mA_290 HS, mW_290 HS, mA_291 HS, mW_291 HS, mA_292 HS, mW_292 HS, mA_293 HS, mW_293 HS, mA_294 HS, mW_294 HS, mA_295 HS, mW_295 HS, mA_296 HS, mW_296 HS, mA_297 HS, mW_297 HS, mA_298 HS, mW_298 HS, mA_299 HS, mW_299 HS, wi_some, or_0, or_1, bo_or, ite_boP, true_and, and_true, kN_v, kN_n, kT_v, kT_n, kT_e, Nat.add_zero, Nat.zero_add, k206 hw HS R1 hng, oN_lt (show 2 ^ ng - 1 < 2147483648 by omega) (show 2 ^ ng < 2147483648 by omega), h1, if_true]
    exact kk D1 s1
end C53
