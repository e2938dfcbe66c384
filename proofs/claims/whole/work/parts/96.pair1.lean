/-! ===== pairing, the reference's small ones ===== -/
def tz1 (x n : Int32) : Int32 := n + jushr x (Int32.ofNat 1)
def tz2 (x n : Int32) : Int32 := if Int32.ofNat 4 < x then tz1 (jushr x (Int32.ofNat 2)) (n + Int32.ofNat 2) else tz1 x n
def tz3 (x n : Int32) : Int32 := if Int32.ofNat 16 < x then tz2 (jushr x (Int32.ofNat 4)) (n + Int32.ofNat 4) else tz2 x n
def tz4 (x n : Int32) : Int32 := if Int32.ofNat 256 < x then tz3 (jushr x (Int32.ofNat 8)) (n + Int32.ofNat 8) else tz3 x n
def tzI (x : Int32) : Int32 := if Int32.ofNat 0 < (x ^^^ -1) &&& (x - Int32.ofNat 1) then (if Int32.ofNat 65536 < (x ^^^ -1) &&& (x - Int32.ofNat 1) then tz4 (jushr ((x ^^^ -1) &&& (x - Int32.ofNat 1)) (Int32.ofNat 16)) (Int32.ofNat 1 + Int32.ofNat 16) else tz4 ((x ^^^ -1) &&& (x - Int32.ofNat 1)) (Int32.ofNat 1)) else ((x ^^^ -1) &&& (x - Int32.ofNat 1)) &&& Int32.ofNat 32
def lowB : Nat → Nat → Nat
  | 0, _ => 0
  | r + 1, z => if z % 2 = 1 then 0 else 1 + lowB r (z / 2)
theorem tz_low : ∀ z, z < 64 → 1 ≤ z → tzI (Int32.ofNat z) = Int32.ofNat (lowB 6 z) ∧ lowB 6 z < 6 ∧ 2 ^ lowB 6 z ≤ z := by decide +kernel
section C96
variable {nx : Nat} {xs : Nat → Int32} {d c s : Nat} {sh : List sC} {D : sD} {Q : av_Q}
variable {V : sD} {nt ng nr nl : Nat}
theorem k356 {x : Int32} (hw : WT sh) : Wx (tP nx xs) d 356 0 [(some (.int (x))), none] [] (mk sh D) c s Q = Q (.inl (some (.int (tzI x)))) (mk sh D) c s := by
  have h62 : ∀ x n : Int32, Wx (tP nx xs) d 356 62 [(some (.int (x))), (some (.int (n)))] [] (mk sh D) c s Q = Q (.inl (some (.int (tz2 x n)))) (mk sh D) c s := fun x n => by
    unfold tz2 tz1
    rw [b356_62 hw]
    by_cases h : Int32.ofNat 4 < x
    · simp only [h, if_true, b356_74 hw]
    · simp only [h, if_false, b356_74 hw]
  have h49 : ∀ x n : Int32, Wx (tP nx xs) d 356 49 [(some (.int (x))), (some (.int (n)))] [] (mk sh D) c s Q = Q (.inl (some (.int (tz3 x n)))) (mk sh D) c s := fun x n => by
    unfold tz3
    rw [b356_49 hw]
    by_cases h : Int32.ofNat 16 < x
    · simp only [h, if_true, h62]
    · simp only [h, if_false, h62]
  have h34 : ∀ x n : Int32, Wx (tP nx xs) d 356 34 [(some (.int (x))), (some (.int (n)))] [] (mk sh D) c s Q = Q (.inl (some (.int (tz4 x n)))) (mk sh D) c s := fun x n => by
    unfold tz4
    rw [b356_34 hw]
    by_cases h : Int32.ofNat 256 < x
    · simp only [h, if_true, h49]
    · simp only [h, if_false, h49]
  unfold tzI
  rw [b356_0 hw]
  by_cases h0 : Int32.ofNat 0 < (x ^^^ -1) &&& (x - Int32.ofNat 1)
  · by_cases h1 : Int32.ofNat 65536 < (x ^^^ -1) &&& (x - Int32.ofNat 1)
    · simp only [h0, h1, if_true, h34]
    · simp only [h0, h1, if_true, if_false, h34]
  · simp only [h0, if_false]
theorem k331 {z : Nat} (hw : WT sh) (h1 : 1 ≤ z) (h2 : z < 64) : Wx (tP nx xs) (d + 1) 331 0 [(some (.int (Int32.ofNat z)))] [] (mk sh D) c s Q = Q (.inl (some (.int (Int32.ofNat (lowB 6 z))))) (mk sh D) c s := by
  simp only [b331_0 hw, k356 hw, wi_some, or_0, or_1, bo_or, ite_boP, true_and, and_true, kN_v, kN_n, kT_v, kT_n, kT_e, Nat.add_zero, Nat.zero_add, b331_4 hw, (tz_low z h2 h1).1]
def cpP (V : sD) (g o : Nat) : Bool := (decide (V 12 g = -1) && decide (V 12 o = -1)) && !bt (V 11 g) o
theorem k332 {g o : Nat} (hw : WT sh) (HS : SP sh) (R : Rw (D 287) V nt ng nr nl) (hng : ng ≤ 6) (hg : g < ng) (ho : o < ng) : Wx (tP nx xs) (d + 3) 332 0 [some (.ref 286), (some (.int (Int32.ofNat g))), (some (.int (Int32.ofNat o)))] [] (mk sh D) c s Q = Q (.inl (some (.int (bo (cpP V g o))))) (mk sh D) c s := by
  have hg6 : g < 6 := by omega
  have z6 : 6 < 11 := by decide
  simp only [b332_0 hw, mI_thrown HS, mF_thrown HS, mR_row HS, mR_image HS, mR_earlier HS, mR_trial HS, mR_acts HS, mI_hasImage HS, mF_hasImage HS, mI_remembered HS, mF_remembered HS, mR_tape HS, mI_taped HS, mF_taped HS, mI_point HS, mF_point HS, mI_end HS, mF_end HS, mI_begin HS, mF_begin HS, mI_deep HS, mF_deep HS, mI_faultAt HS, mF_faultAt HS, mR_five HS, mI_codes HS, mF_codes HS, mR_value HS, mI_so HS, mF_so HS, mR_lines HS, mR_chosen HS, mR_best HS, mR_members HS, mR_paired HS, mO HS, mA_287 HS, mW_287 HS, mA_288 HS, mW_288 HS, mA_289 HS, mW_289 HS, mA_290 HS, mW_290 HS, mA_291 HS, mW_291 HS, mA_292 HS, mW_292 HS, mA_293 HS, mW_293 HS, mA_294 HS, mW_294 HS, mA_295 HS, mW_295 HS, mA_296 HS, mW_296 HS, mA_297 HS, mW_297 HS, mA_298 HS, mW_298 HS, mA_299 HS, mW_299 HS, wi_some, or_0, or_1, bo_or, ite_boP, true_and, and_true, kN_v, kN_n, kT_v, kT_n, kT_e, Nat.add_zero, Nat.zero_add, k207 hw HS R hng hg, b332_5 hw, k207 hw HS R hng ho, b332_13 hw, k203 hw HS hg6 z6, r_shuns R hg, b332_23 hw, k189 hw (show o < 32 by omega), b332_27 hw, b332_34 hw, b332_35 hw, true_or, or_true, true_and]
  unfold cpP
  by_cases h1 : V 12 g = -1
  · by_cases h2 : V 12 o = -1
    · cases bt (V 11 g) o <;> simp [h1, h2, bo]
    · simp [h1, h2, bo]
  · simp [h1, bo]
end C96
