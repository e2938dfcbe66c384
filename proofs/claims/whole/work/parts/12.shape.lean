/-! ===== LAYER 2: the shapes (by wip/whole/gen12.py) ===== -/
/-- the cells of a State at a: itself, its Things, their rows, its rows, its Log and that one's row -/
def stS (a : Nat) : List sC := [.inr (6, [a + 1 + 3, 0, a + 6 + 3, a + 7 + 3, 0, a + 8 + 3, a + 9 + 3, a + 10 + 3, a + 11 + 3, a + 12 + 3, 0, a + 13 + 3, a + 14 + 3, 0, 1, 0, 0, a + 15 + 3]), .inr (8, [0, 0, a + 2 + 3, a + 3 + 3, a + 4 + 3, a + 5 + 3]), .inl (0, 8), .inl (0, 8), .inl (0, 8), .inl (0, 8), .inl (0, 6), .inl (0, 6), .inl (0, 6), .inl (0, 6), .inl (0, 6), .inl (0, 6), .inl (0, 6), .inl (0, 5), .inl (0, 5), .inr (2, [0, a + 16 + 3]), .inl (0, 240)]
def SH_0 : List sC := [.inr (10, [4, 0, 6, 23, 0, 40, 57, 263, 268, 0, 275, 282, 286, 0, 0]), .inr (7, [5, 0, 0, 0, 0, 0]), .inl (0, 400), .inr (6, [7, 0, 12, 13, 0, 14, 15, 16, 17, 18, 0, 19, 20, 0, 1, 0, 0, 21]), .inr (8, [0, 0, 8, 9, 10, 11]), .inl (0, 8), .inl (0, 8), .inl (0, 8), .inl (0, 8), .inl (0, 6), .inl (0, 6), .inl (0, 6), .inl (0, 6), .inl (0, 6), .inl (0, 6), .inl (0, 6), .inl (0, 5), .inl (0, 5), .inr (2, [0, 22]), .inl (0, 240), .inr (6, [24, 0, 29, 30, 0, 31, 32, 33, 34, 35, 0, 36, 37, 0, 1, 0, 0, 38]), .inr (8, [0, 0, 25, 26, 27, 28]), .inl (0, 8), .inl (0, 8), .inl (0, 8), .inl (0, 8), .inl (0, 6), .inl (0, 6), .inl (0, 6), .inl (0, 6), .inl (0, 6), .inl (0, 6), .inl (0, 6), .inl (0, 5), .inl (0, 5), .inr (2, [0, 39]), .inl (0, 240), .inr (6, [41, 0, 46, 47, 0, 48, 49, 50, 51, 52, 0, 53, 54, 0, 1, 0, 0, 55]), .inr (8, [0, 0, 42, 43, 44, 45]), .inl (0, 8), .inl (0, 8), .inl (0, 8), .inl (0, 8), .inl (0, 6), .inl (0, 6), .inl (0, 6), .inl (0, 6), .inl (0, 6), .inl (0, 6), .inl (0, 6), .inl (0, 5), .inl (0, 5), .inr (2, [0, 56]), .inl (0, 240), .inr (3, [0, 0, 58]), .inl (3, 12), .inr (6, [60, 0, 65, 66, 0, 67, 68, 69, 70, 71, 0, 72, 73, 0, 1, 0, 0, 74]), .inr (8, [0, 0, 61, 62, 63, 64]), .inl (0, 8), .inl (0, 8)]
def SH_1 : List sC := [.inl (0, 8), .inl (0, 8), .inl (0, 6), .inl (0, 6), .inl (0, 6), .inl (0, 6), .inl (0, 6), .inl (0, 6), .inl (0, 6), .inl (0, 5), .inl (0, 5), .inr (2, [0, 75]), .inl (0, 240), .inr (6, [77, 0, 82, 83, 0, 84, 85, 86, 87, 88, 0, 89, 90, 0, 1, 0, 0, 91]), .inr (8, [0, 0, 78, 79, 80, 81]), .inl (0, 8), .inl (0, 8), .inl (0, 8), .inl (0, 8), .inl (0, 6), .inl (0, 6), .inl (0, 6), .inl (0, 6), .inl (0, 6), .inl (0, 6), .inl (0, 6), .inl (0, 5), .inl (0, 5), .inr (2, [0, 92]), .inl (0, 240), .inr (6, [94, 0, 99, 100, 0, 101, 102, 103, 104, 105, 0, 106, 107, 0, 1, 0, 0, 108]), .inr (8, [0, 0, 95, 96, 97, 98]), .inl (0, 8), .inl (0, 8), .inl (0, 8), .inl (0, 8), .inl (0, 6), .inl (0, 6), .inl (0, 6), .inl (0, 6), .inl (0, 6), .inl (0, 6), .inl (0, 6), .inl (0, 5), .inl (0, 5), .inr (2, [0, 109]), .inl (0, 240), .inr (6, [111, 0, 116, 117, 0, 118, 119, 120, 121, 122, 0, 123, 124, 0, 1, 0, 0, 125]), .inr (8, [0, 0, 112, 113, 114, 115]), .inl (0, 8), .inl (0, 8), .inl (0, 8), .inl (0, 8), .inl (0, 6), .inl (0, 6), .inl (0, 6), .inl (0, 6), .inl (0, 6), .inl (0, 6), .inl (0, 6)]
def SH_2 : List sC := [.inl (0, 5), .inl (0, 5), .inr (2, [0, 126]), .inl (0, 240), .inr (6, [128, 0, 133, 134, 0, 135, 136, 137, 138, 139, 0, 140, 141, 0, 1, 0, 0, 142]), .inr (8, [0, 0, 129, 130, 131, 132]), .inl (0, 8), .inl (0, 8), .inl (0, 8), .inl (0, 8), .inl (0, 6), .inl (0, 6), .inl (0, 6), .inl (0, 6), .inl (0, 6), .inl (0, 6), .inl (0, 6), .inl (0, 5), .inl (0, 5), .inr (2, [0, 143]), .inl (0, 240), .inr (6, [145, 0, 150, 151, 0, 152, 153, 154, 155, 156, 0, 157, 158, 0, 1, 0, 0, 159]), .inr (8, [0, 0, 146, 147, 148, 149]), .inl (0, 8), .inl (0, 8), .inl (0, 8), .inl (0, 8), .inl (0, 6), .inl (0, 6), .inl (0, 6), .inl (0, 6), .inl (0, 6), .inl (0, 6), .inl (0, 6), .inl (0, 5), .inl (0, 5), .inr (2, [0, 160]), .inl (0, 240), .inr (6, [162, 0, 167, 168, 0, 169, 170, 171, 172, 173, 0, 174, 175, 0, 1, 0, 0, 176]), .inr (8, [0, 0, 163, 164, 165, 166]), .inl (0, 8), .inl (0, 8), .inl (0, 8), .inl (0, 8), .inl (0, 6), .inl (0, 6), .inl (0, 6), .inl (0, 6), .inl (0, 6), .inl (0, 6), .inl (0, 6), .inl (0, 5), .inl (0, 5), .inr (2, [0, 177]), .inl (0, 240), .inr (6, [179, 0, 184, 185, 0, 186, 187, 188, 189, 190, 0, 191, 192, 0, 1, 0, 0, 193]), .inr (8, [0, 0, 180, 181, 182, 183]), .inl (0, 8), .inl (0, 8), .inl (0, 8)]
def SH_3 : List sC := [.inl (0, 8), .inl (0, 6), .inl (0, 6), .inl (0, 6), .inl (0, 6), .inl (0, 6), .inl (0, 6), .inl (0, 6), .inl (0, 5), .inl (0, 5), .inr (2, [0, 194]), .inl (0, 240), .inr (6, [196, 0, 201, 202, 0, 203, 204, 205, 206, 207, 0, 208, 209, 0, 1, 0, 0, 210]), .inr (8, [0, 0, 197, 198, 199, 200]), .inl (0, 8), .inl (0, 8), .inl (0, 8), .inl (0, 8), .inl (0, 6), .inl (0, 6), .inl (0, 6), .inl (0, 6), .inl (0, 6), .inl (0, 6), .inl (0, 6), .inl (0, 5), .inl (0, 5), .inr (2, [0, 211]), .inl (0, 240), .inr (6, [213, 0, 218, 219, 0, 220, 221, 222, 223, 224, 0, 225, 226, 0, 1, 0, 0, 227]), .inr (8, [0, 0, 214, 215, 216, 217]), .inl (0, 8), .inl (0, 8), .inl (0, 8), .inl (0, 8), .inl (0, 6), .inl (0, 6), .inl (0, 6), .inl (0, 6), .inl (0, 6), .inl (0, 6), .inl (0, 6), .inl (0, 5), .inl (0, 5), .inr (2, [0, 228]), .inl (0, 240), .inr (6, [230, 0, 235, 236, 0, 237, 238, 239, 240, 241, 0, 242, 243, 0, 1, 0, 0, 244]), .inr (8, [0, 0, 231, 232, 233, 234]), .inl (0, 8), .inl (0, 8), .inl (0, 8), .inl (0, 8), .inl (0, 6), .inl (0, 6), .inl (0, 6), .inl (0, 6), .inl (0, 6), .inl (0, 6), .inl (0, 6), .inl (0, 5)]
def SH_4 : List sC := [.inl (0, 5), .inr (2, [0, 245]), .inl (0, 240), .inr (6, [247, 0, 252, 253, 0, 254, 255, 256, 257, 258, 0, 259, 260, 0, 1, 0, 0, 261]), .inr (8, [0, 0, 248, 249, 250, 251]), .inl (0, 8), .inl (0, 8), .inl (0, 8), .inl (0, 8), .inl (0, 6), .inl (0, 6), .inl (0, 6), .inl (0, 6), .inl (0, 6), .inl (0, 6), .inl (0, 6), .inl (0, 5), .inl (0, 5), .inr (2, [0, 262]), .inl (0, 240), .inr (1, [0, 0, 264, 265, 266, 267]), .inl (0, 12), .inl (0, 12), .inl (0, 12), .inl (0, 400), .inr (9, [269, 270, 0, 0, 271, 272, 273, 274]), .inl (0, 64), .inl (0, 64), .inl (0, 8), .inl (0, 8), .inl (0, 8), .inl (0, 8), .inr (9, [276, 277, 0, 0, 278, 279, 280, 281]), .inl (0, 64), .inl (0, 64), .inl (0, 8), .inl (0, 8), .inl (0, 8), .inl (0, 8), .inr (5, [283, 0, 284, 285]), .inl (0, 6), .inl (0, 6), .inl (0, 5), .inr (4, [287, 0, 288]), .inl (0, 6), .inl (0, 6), .inr (11, [0, 290, 291, 292, 293, 294, 0, 0, 295, 0, 0, 0, 0, 0, 0, 296, 0, 297, 0, 298, 299, 300, 301, 302]), .inl (0, 2050), .inl (0, 1201), .inl (0, 1201), .inl (0, 352), .inl (0, 4224), .inl (1, 400), .inl (0, 5), .inl (0, 400), .inl (0, 8), .inl (0, 6), .inl (0, 6), .inl (0, 6), .inl (0, 64)]
def SH_5 : List sC := [.inl (2, 1)]
def SH0 : List sC := SH_0 ++ (SH_1 ++ (SH_2 ++ (SH_3 ++ (SH_4 ++ (SH_5)))))
theorem SH0_len : SH0.length = 301 := by decide +kernel
/-- the heap begins with them -/
def SP (sh : List sC) : Prop := ∃ tl, sh = SH0 ++ tl
def St (sh : List sC) (a : Nat) : Prop := ∀ k, k < 17 → sh[a + k]? = (stS a)[k]?
theorem SP_get {sh : List sC} (H : SP sh) {a : Nat} (ha : a < 301) : sh[a]? = SH0[a]? := by
  obtain ⟨tl, rfl⟩ := H
  exact List.getElem?_append_left (by rw [SH0_len]; exact ha)
theorem fI_of {sh : List sC} {D : sD} {q a ci : Nat} {fs : List Nat} (h : sh[a]? = some (Sum.inr (ci, fs))) (hc : ci = q / 64) (hl : q % 64 < fs.length) : fI sh D a q = some (D a (q % 64)) := by simp [fI, h, hc, hl]
theorem fR_of {sh : List sC} {q a ci n : Nat} {fs : List Nat} (h : sh[a]? = some (Sum.inr (ci, fs))) (hc : ci = q / 64) (hf : fs[q % 64]? = some (n + 3)) : fR sh a q = some n := by simp [fR, h, hc, hf]
theorem oF_of {sh : List sC} {q a ci : Nat} {fs : List Nat} (h : sh[a]? = some (Sum.inr (ci, fs))) (hc : ci = q / 64) (hl : q % 64 < fs.length) : oF sh a q = true := by simp [oF, h, hc, hl]
theorem isO_of {sh : List sC} {a ci : Nat} {fs : List Nat} (h : sh[a]? = some (Sum.inr (ci, fs))) : isO sh a ci = true := by simp [isO, h]
theorem aN_of {sh : List sC} {a t n : Nat} (h : sh[a]? = some (Sum.inl (t, n))) : aN sh t a = some n := by simp [aN, h]
theorem aL_of {sh : List sC} {a t n : Nat} (h : sh[a]? = some (Sum.inl (t, n))) (ht : t < 4) : aL sh a = some n := by simp [aL, h, ht]
theorem aI_of {sh : List sC} {D : sD} {a n i : Nat} (h : aN sh 0 a = some n) (hn : n < 2147483648) (hi : i < n) : aI sh D a (Int32.ofNat i) = some (D a i) := by simp [aI, h, oN_in hi hn, oN_tn (show i < 2147483648 by omega)]
theorem aB_of {sh : List sC} {D : sD} {a n i : Nat} (h : aN sh 1 a = some n) (hn : n < 2147483648) (hi : i < n) : aB sh D a (Int32.ofNat i) = some (D a i) := by simp [aB, h, oN_in hi hn, oN_tn (show i < 2147483648 by omega)]
theorem oA_of {sh : List sC} {t a n i : Nat} (h : aN sh t a = some n) (hn : n < 2147483648) (hi : i < n) : oA sh t a (Int32.ofNat i) = true := by simp [oA, h, oN_in hi hn]
theorem oC_of {sh : List sC} {a b n m i j k : Nat} (ha : aN sh 0 a = some n) (hb : aN sh 0 b = some m) (hn : n < 2147483648) (hm : m < 2147483648) (h1 : i + k ≤ n) (h2 : j + k ≤ m) : oC sh a (Int32.ofNat i) b (Int32.ofNat j) (Int32.ofNat k) = true := by
  have hi : i < 2147483648 := by omega
  have hj : j < 2147483648 := by omega
  have hk : k < 2147483648 := by omega
  have e1 := oN_nn hi
  have e2 := oN_nn hj
  have e3 := oN_nn hk
  simp only [oC, ha, hb, oN_tn hi, oN_tn hj, oN_tn hk, decide_eq_true_eq]
  exact ⟨e1, e2, e3, h1, h2⟩
section SHS
variable {sh : List sC} {D : sD} {a i : Nat}
theorem St_0 (H : St sh a) : sh[a]? = (stS a)[0]? := H 0 (by decide)
theorem sR_things (H : St sh a) : fR sh a 384 = some (a + 1) := fR_of (St_0 H) rfl rfl
theorem sI_goers (H : St sh a) : fI sh D a 385 = some (D a 1) := fI_of (St_0 H) rfl (Nat.le_of_ble_eq_true rfl)
theorem sF_goers (H : St sh a) : oF sh a 385 = true := oF_of (St_0 H) rfl (Nat.le_of_ble_eq_true rfl)
theorem sR_wish (H : St sh a) : fR sh a 386 = some (a + 6) := fR_of (St_0 H) rfl rfl
theorem sR_deed (H : St sh a) : fR sh a 387 = some (a + 7) := fR_of (St_0 H) rfl rfl
theorem sI_makers (H : St sh a) : fI sh D a 388 = some (D a 4) := fI_of (St_0 H) rfl (Nat.le_of_ble_eq_true rfl)
theorem sF_makers (H : St sh a) : oF sh a 388 = true := oF_of (St_0 H) rfl (Nat.le_of_ble_eq_true rfl)
theorem sR_born (H : St sh a) : fR sh a 389 = some (a + 8) := fR_of (St_0 H) rfl rfl
theorem sR_money (H : St sh a) : fR sh a 390 = some (a + 9) := fR_of (St_0 H) rfl rfl
theorem sR_nerve (H : St sh a) : fR sh a 391 = some (a + 10) := fR_of (St_0 H) rfl rfl
theorem sR_shuns (H : St sh a) : fR sh a 392 = some (a + 11) := fR_of (St_0 H) rfl rfl
theorem sR_by (H : St sh a) : fR sh a 393 = some (a + 12) := fR_of (St_0 H) rfl rfl
theorem sI_trains (H : St sh a) : fI sh D a 394 = some (D a 10) := fI_of (St_0 H) rfl (Nat.le_of_ble_eq_true rfl)
theorem sF_trains (H : St sh a) : oF sh a 394 = true := oF_of (St_0 H) rfl (Nat.le_of_ble_eq_true rfl)
theorem sR_halts (H : St sh a) : fR sh a 395 = some (a + 13) := fR_of (St_0 H) rfl rfl
theorem sR_seats (H : St sh a) : fR sh a 396 = some (a + 14) := fR_of (St_0 H) rfl rfl
theorem sI_texts (H : St sh a) : fI sh D a 397 = some (D a 13) := fI_of (St_0 H) rfl (Nat.le_of_ble_eq_true rfl)
theorem sF_texts (H : St sh a) : oF sh a 397 = true := oF_of (St_0 H) rfl (Nat.le_of_ble_eq_true rfl)
theorem sI_law (H : St sh a) : fI sh D a 398 = some (D a 14) := fI_of (St_0 H) rfl (Nat.le_of_ble_eq_true rfl)
theorem sF_law (H : St sh a) : oF sh a 398 = true := oF_of (St_0 H) rfl (Nat.le_of_ble_eq_true rfl)
theorem sI_day (H : St sh a) : fI sh D a 399 = some (D a 15) := fI_of (St_0 H) rfl (Nat.le_of_ble_eq_true rfl)
theorem sF_day (H : St sh a) : oF sh a 399 = true := oF_of (St_0 H) rfl (Nat.le_of_ble_eq_true rfl)
theorem sI_seed (H : St sh a) : fI sh D a 400 = some (D a 16) := fI_of (St_0 H) rfl (Nat.le_of_ble_eq_true rfl)
theorem sF_seed (H : St sh a) : oF sh a 400 = true := oF_of (St_0 H) rfl (Nat.le_of_ble_eq_true rfl)
theorem sR_log (H : St sh a) : fR sh a 401 = some (a + 15) := fR_of (St_0 H) rfl rfl
theorem sO_state (H : St sh a) : isO sh a 6 = true := isO_of (St_0 H)
theorem sI_count (H : St sh a) : fI sh D (a + 1) 512 = some (D (a + 1) 0) := fI_of (H 1 (by decide)) rfl (Nat.le_of_ble_eq_true rfl)
theorem sF_count (H : St sh a) : oF sh (a + 1) 512 = true := oF_of (H 1 (by decide)) rfl (Nat.le_of_ble_eq_true rfl)
theorem sI_first (H : St sh a) : fI sh D (a + 1) 513 = some (D (a + 1) 1) := fI_of (H 1 (by decide)) rfl (Nat.le_of_ble_eq_true rfl)
theorem sF_first (H : St sh a) : oF sh (a + 1) 513 = true := oF_of (H 1 (by decide)) rfl (Nat.le_of_ble_eq_true rfl)
theorem sR_at (H : St sh a) : fR sh (a + 1) 514 = some (a + 2) := fR_of (H 1 (by decide)) rfl rfl
theorem sR_worth (H : St sh a) : fR sh (a + 1) 515 = some (a + 3) := fR_of (H 1 (by decide)) rfl rfl
theorem sR_makes (H : St sh a) : fR sh (a + 1) 516 = some (a + 4) := fR_of (H 1 (by decide)) rfl rfl
theorem sR_hinders (H : St sh a) : fR sh (a + 1) 517 = some (a + 5) := fR_of (H 1 (by decide)) rfl rfl
theorem sO_things (H : St sh a) : isO sh (a + 1) 8 = true := isO_of (H 1 (by decide))
theorem sI_rows (H : St sh a) : fI sh D (a + 15) 128 = some (D (a + 15) 0) := fI_of (H 15 (by decide)) rfl (Nat.le_of_ble_eq_true rfl)
theorem sF_rows (H : St sh a) : oF sh (a + 15) 128 = true := oF_of (H 15 (by decide)) rfl (Nat.le_of_ble_eq_true rfl)
theorem sR_entries (H : St sh a) : fR sh (a + 15) 129 = some (a + 16) := fR_of (H 15 (by decide)) rfl rfl
theorem sO_log (H : St sh a) : isO sh (a + 15) 2 = true := isO_of (H 15 (by decide))
theorem sN_2 (H : St sh a) : aN sh 0 (a + 2) = some 8 := aN_of (H 2 (by decide))
theorem sL_2 (H : St sh a) : aL sh (a + 2) = some 8 := aL_of (H 2 (by decide)) (by decide)
theorem sA_2 (H : St sh a) (hi : i < 8) : aI sh D (a + 2) (Int32.ofNat i) = some (D (a + 2) i) := aI_of (sN_2 H) (by decide) hi
theorem sW_2 (H : St sh a) (hi : i < 8) : oA sh 0 (a + 2) (Int32.ofNat i) = true := oA_of (sN_2 H) (by decide) hi
theorem sN_3 (H : St sh a) : aN sh 0 (a + 3) = some 8 := aN_of (H 3 (by decide))
theorem sL_3 (H : St sh a) : aL sh (a + 3) = some 8 := aL_of (H 3 (by decide)) (by decide)
theorem sA_3 (H : St sh a) (hi : i < 8) : aI sh D (a + 3) (Int32.ofNat i) = some (D (a + 3) i) := aI_of (sN_3 H) (by decide) hi
theorem sW_3 (H : St sh a) (hi : i < 8) : oA sh 0 (a + 3) (Int32.ofNat i) = true := oA_of (sN_3 H) (by decide) hi
theorem sN_4 (H : St sh a) : aN sh 0 (a + 4) = some 8 := aN_of (H 4 (by decide))
theorem sL_4 (H : St sh a) : aL sh (a + 4) = some 8 := aL_of (H 4 (by decide)) (by decide)
theorem sA_4 (H : St sh a) (hi : i < 8) : aI sh D (a + 4) (Int32.ofNat i) = some (D (a + 4) i) := aI_of (sN_4 H) (by decide) hi
theorem sW_4 (H : St sh a) (hi : i < 8) : oA sh 0 (a + 4) (Int32.ofNat i) = true := oA_of (sN_4 H) (by decide) hi
theorem sN_5 (H : St sh a) : aN sh 0 (a + 5) = some 8 := aN_of (H 5 (by decide))
theorem sL_5 (H : St sh a) : aL sh (a + 5) = some 8 := aL_of (H 5 (by decide)) (by decide)
theorem sA_5 (H : St sh a) (hi : i < 8) : aI sh D (a + 5) (Int32.ofNat i) = some (D (a + 5) i) := aI_of (sN_5 H) (by decide) hi
theorem sW_5 (H : St sh a) (hi : i < 8) : oA sh 0 (a + 5) (Int32.ofNat i) = true := oA_of (sN_5 H) (by decide) hi
theorem sN_6 (H : St sh a) : aN sh 0 (a + 6) = some 6 := aN_of (H 6 (by decide))
theorem sL_6 (H : St sh a) : aL sh (a + 6) = some 6 := aL_of (H 6 (by decide)) (by decide)
theorem sA_6 (H : St sh a) (hi : i < 6) : aI sh D (a + 6) (Int32.ofNat i) = some (D (a + 6) i) := aI_of (sN_6 H) (by decide) hi
theorem sW_6 (H : St sh a) (hi : i < 6) : oA sh 0 (a + 6) (Int32.ofNat i) = true := oA_of (sN_6 H) (by decide) hi
theorem sN_7 (H : St sh a) : aN sh 0 (a + 7) = some 6 := aN_of (H 7 (by decide))
theorem sL_7 (H : St sh a) : aL sh (a + 7) = some 6 := aL_of (H 7 (by decide)) (by decide)
theorem sA_7 (H : St sh a) (hi : i < 6) : aI sh D (a + 7) (Int32.ofNat i) = some (D (a + 7) i) := aI_of (sN_7 H) (by decide) hi
theorem sW_7 (H : St sh a) (hi : i < 6) : oA sh 0 (a + 7) (Int32.ofNat i) = true := oA_of (sN_7 H) (by decide) hi
theorem sN_8 (H : St sh a) : aN sh 0 (a + 8) = some 6 := aN_of (H 8 (by decide))
theorem sL_8 (H : St sh a) : aL sh (a + 8) = some 6 := aL_of (H 8 (by decide)) (by decide)
theorem sA_8 (H : St sh a) (hi : i < 6) : aI sh D (a + 8) (Int32.ofNat i) = some (D (a + 8) i) := aI_of (sN_8 H) (by decide) hi
theorem sW_8 (H : St sh a) (hi : i < 6) : oA sh 0 (a + 8) (Int32.ofNat i) = true := oA_of (sN_8 H) (by decide) hi
theorem sN_9 (H : St sh a) : aN sh 0 (a + 9) = some 6 := aN_of (H 9 (by decide))
theorem sL_9 (H : St sh a) : aL sh (a + 9) = some 6 := aL_of (H 9 (by decide)) (by decide)
theorem sA_9 (H : St sh a) (hi : i < 6) : aI sh D (a + 9) (Int32.ofNat i) = some (D (a + 9) i) := aI_of (sN_9 H) (by decide) hi
theorem sW_9 (H : St sh a) (hi : i < 6) : oA sh 0 (a + 9) (Int32.ofNat i) = true := oA_of (sN_9 H) (by decide) hi
theorem sN_10 (H : St sh a) : aN sh 0 (a + 10) = some 6 := aN_of (H 10 (by decide))
theorem sL_10 (H : St sh a) : aL sh (a + 10) = some 6 := aL_of (H 10 (by decide)) (by decide)
theorem sA_10 (H : St sh a) (hi : i < 6) : aI sh D (a + 10) (Int32.ofNat i) = some (D (a + 10) i) := aI_of (sN_10 H) (by decide) hi
theorem sW_10 (H : St sh a) (hi : i < 6) : oA sh 0 (a + 10) (Int32.ofNat i) = true := oA_of (sN_10 H) (by decide) hi
theorem sN_11 (H : St sh a) : aN sh 0 (a + 11) = some 6 := aN_of (H 11 (by decide))
theorem sL_11 (H : St sh a) : aL sh (a + 11) = some 6 := aL_of (H 11 (by decide)) (by decide)
theorem sA_11 (H : St sh a) (hi : i < 6) : aI sh D (a + 11) (Int32.ofNat i) = some (D (a + 11) i) := aI_of (sN_11 H) (by decide) hi
theorem sW_11 (H : St sh a) (hi : i < 6) : oA sh 0 (a + 11) (Int32.ofNat i) = true := oA_of (sN_11 H) (by decide) hi
theorem sN_12 (H : St sh a) : aN sh 0 (a + 12) = some 6 := aN_of (H 12 (by decide))
theorem sL_12 (H : St sh a) : aL sh (a + 12) = some 6 := aL_of (H 12 (by decide)) (by decide)
theorem sA_12 (H : St sh a) (hi : i < 6) : aI sh D (a + 12) (Int32.ofNat i) = some (D (a + 12) i) := aI_of (sN_12 H) (by decide) hi
theorem sW_12 (H : St sh a) (hi : i < 6) : oA sh 0 (a + 12) (Int32.ofNat i) = true := oA_of (sN_12 H) (by decide) hi
theorem sN_13 (H : St sh a) : aN sh 0 (a + 13) = some 5 := aN_of (H 13 (by decide))
theorem sL_13 (H : St sh a) : aL sh (a + 13) = some 5 := aL_of (H 13 (by decide)) (by decide)
theorem sA_13 (H : St sh a) (hi : i < 5) : aI sh D (a + 13) (Int32.ofNat i) = some (D (a + 13) i) := aI_of (sN_13 H) (by decide) hi
theorem sW_13 (H : St sh a) (hi : i < 5) : oA sh 0 (a + 13) (Int32.ofNat i) = true := oA_of (sN_13 H) (by decide) hi
theorem sN_14 (H : St sh a) : aN sh 0 (a + 14) = some 5 := aN_of (H 14 (by decide))
theorem sL_14 (H : St sh a) : aL sh (a + 14) = some 5 := aL_of (H 14 (by decide)) (by decide)
theorem sA_14 (H : St sh a) (hi : i < 5) : aI sh D (a + 14) (Int32.ofNat i) = some (D (a + 14) i) := aI_of (sN_14 H) (by decide) hi
theorem sW_14 (H : St sh a) (hi : i < 5) : oA sh 0 (a + 14) (Int32.ofNat i) = true := oA_of (sN_14 H) (by decide) hi
theorem sN_16 (H : St sh a) : aN sh 0 (a + 16) = some 240 := aN_of (H 16 (by decide))
theorem sL_16 (H : St sh a) : aL sh (a + 16) = some 240 := aL_of (H 16 (by decide)) (by decide)
theorem sA_16 (H : St sh a) (hi : i < 240) : aI sh D (a + 16) (Int32.ofNat i) = some (D (a + 16) i) := aI_of (sN_16 H) (by decide) hi
theorem sW_16 (H : St sh a) (hi : i < 240) : oA sh 0 (a + 16) (Int32.ofNat i) = true := oA_of (sN_16 H) (by decide) hi
theorem xR_tape (H : SP sh) : fR sh 0 640 = some 1 := fR_of (SP_get H (by decide)) rfl rfl
theorem xI_wrongAt (H : SP sh) : fI sh D 0 641 = some (D 0 1) := fI_of (SP_get H (by decide)) rfl (Nat.le_of_ble_eq_true rfl)
theorem xF_wrongAt (H : SP sh) : oF sh 0 641 = true := oF_of (SP_get H (by decide)) rfl (Nat.le_of_ble_eq_true rfl)
theorem xR_state (H : SP sh) : fR sh 0 642 = some 3 := fR_of (SP_get H (by decide)) rfl rfl
theorem xR_image (H : SP sh) : fR sh 0 643 = some 20 := fR_of (SP_get H (by decide)) rfl rfl
theorem xI_imageKept (H : SP sh) : fI sh D 0 644 = some (D 0 4) := fI_of (SP_get H (by decide)) rfl (Nat.le_of_ble_eq_true rfl)
theorem xF_imageKept (H : SP sh) : oF sh 0 644 = true := oF_of (SP_get H (by decide)) rfl (Nat.le_of_ble_eq_true rfl)
theorem xR_draft (H : SP sh) : fR sh 0 645 = some 37 := fR_of (SP_get H (by decide)) rfl rfl
theorem xR_memory (H : SP sh) : fR sh 0 646 = some 54 := fR_of (SP_get H (by decide)) rfl rfl
theorem xR_lawText (H : SP sh) : fR sh 0 647 = some 260 := fR_of (SP_get H (by decide)) rfl rfl
theorem xR_worlds (H : SP sh) : fR sh 0 648 = some 265 := fR_of (SP_get H (by decide)) rfl rfl
theorem xI_worldsFresh (H : SP sh) : fI sh D 0 649 = some (D 0 9) := fI_of (SP_get H (by decide)) rfl (Nat.le_of_ble_eq_true rfl)
theorem xF_worldsFresh (H : SP sh) : oF sh 0 649 = true := oF_of (SP_get H (by decide)) rfl (Nat.le_of_ble_eq_true rfl)
theorem xR_otherWorlds (H : SP sh) : fR sh 0 650 = some 272 := fR_of (SP_get H (by decide)) rfl rfl
theorem xR_seating (H : SP sh) : fR sh 0 651 = some 279 := fR_of (SP_get H (by decide)) rfl rfl
theorem xR_pairing (H : SP sh) : fR sh 0 652 = some 283 := fR_of (SP_get H (by decide)) rfl rfl
theorem xI_toldSo (H : SP sh) : fI sh D 0 653 = some (D 0 13) := fI_of (SP_get H (by decide)) rfl (Nat.le_of_ble_eq_true rfl)
theorem xF_toldSo (H : SP sh) : oF sh 0 653 = true := oF_of (SP_get H (by decide)) rfl (Nat.le_of_ble_eq_true rfl)
theorem xI_toldNot (H : SP sh) : fI sh D 0 654 = some (D 0 14) := fI_of (SP_get H (by decide)) rfl (Nat.le_of_ble_eq_true rfl)
theorem xF_toldNot (H : SP sh) : oF sh 0 654 = true := oF_of (SP_get H (by decide)) rfl (Nat.le_of_ble_eq_true rfl)
theorem xO (H : SP sh) : isO sh 0 10 = true := isO_of (SP_get H (by decide))
theorem pR_bytes (H : SP sh) : fR sh 1 448 = some 2 := fR_of (SP_get H (by decide)) rfl rfl
theorem pI_length (H : SP sh) : fI sh D 1 449 = some (D 1 1) := fI_of (SP_get H (by decide)) rfl (Nat.le_of_ble_eq_true rfl)
theorem pF_length (H : SP sh) : oF sh 1 449 = true := oF_of (SP_get H (by decide)) rfl (Nat.le_of_ble_eq_true rfl)
theorem pI_place (H : SP sh) : fI sh D 1 450 = some (D 1 2) := fI_of (SP_get H (by decide)) rfl (Nat.le_of_ble_eq_true rfl)
theorem pF_place (H : SP sh) : oF sh 1 450 = true := oF_of (SP_get H (by decide)) rfl (Nat.le_of_ble_eq_true rfl)
theorem pI_number (H : SP sh) : fI sh D 1 451 = some (D 1 3) := fI_of (SP_get H (by decide)) rfl (Nat.le_of_ble_eq_true rfl)
theorem pF_number (H : SP sh) : oF sh 1 451 = true := oF_of (SP_get H (by decide)) rfl (Nat.le_of_ble_eq_true rfl)
theorem pI_textLength (H : SP sh) : fI sh D 1 452 = some (D 1 4) := fI_of (SP_get H (by decide)) rfl (Nat.le_of_ble_eq_true rfl)
theorem pF_textLength (H : SP sh) : oF sh 1 452 = true := oF_of (SP_get H (by decide)) rfl (Nat.le_of_ble_eq_true rfl)
theorem pI_begin (H : SP sh) : fI sh D 1 453 = some (D 1 5) := fI_of (SP_get H (by decide)) rfl (Nat.le_of_ble_eq_true rfl)
theorem pF_begin (H : SP sh) : oF sh 1 453 = true := oF_of (SP_get H (by decide)) rfl (Nat.le_of_ble_eq_true rfl)
theorem pO (H : SP sh) : isO sh 1 7 = true := isO_of (SP_get H (by decide))
theorem pN_2 (H : SP sh) : aN sh 0 2 = some 400 := aN_of (SP_get H (by decide))
theorem pL_2 (H : SP sh) : aL sh 2 = some 400 := aL_of (SP_get H (by decide)) (by decide)
theorem pA_2 (H : SP sh) (hi : i < 400) : aI sh D 2 (Int32.ofNat i) = some (D 2 i) := aI_of (pN_2 H) (by decide) hi
theorem pW_2 (H : SP sh) (hi : i < 400) : oA sh 0 2 (Int32.ofNat i) = true := oA_of (pN_2 H) (by decide) hi
theorem eI_kept (H : SP sh) : fI sh D 54 192 = some (D 54 0) := fI_of (SP_get H (by decide)) rfl (Nat.le_of_ble_eq_true rfl)
theorem eF_kept (H : SP sh) : oF sh 54 192 = true := oF_of (SP_get H (by decide)) rfl (Nat.le_of_ble_eq_true rfl)
theorem eI_next (H : SP sh) : fI sh D 54 193 = some (D 54 1) := fI_of (SP_get H (by decide)) rfl (Nat.le_of_ble_eq_true rfl)
theorem eF_next (H : SP sh) : oF sh 54 193 = true := oF_of (SP_get H (by decide)) rfl (Nat.le_of_ble_eq_true rfl)
theorem eR_before (H : SP sh) : fR sh 54 194 = some 55 := fR_of (SP_get H (by decide)) rfl rfl
theorem eO (H : SP sh) : isO sh 54 3 = true := isO_of (SP_get H (by decide))
theorem eN_55 (H : SP sh) : aN sh 3 55 = some 12 := aN_of (SP_get H (by decide))
theorem eL_55 (H : SP sh) : aL sh 55 = some 12 := aL_of (SP_get H (by decide)) (by decide)
theorem eW_55 (H : SP sh) (hi : i < 12) : oA sh 3 55 (Int32.ofNat i) = true := oA_of (eN_55 H) (by decide) hi
theorem lI_lines (H : SP sh) : fI sh D 260 64 = some (D 260 0) := fI_of (SP_get H (by decide)) rfl (Nat.le_of_ble_eq_true rfl)
theorem lF_lines (H : SP sh) : oF sh 260 64 = true := oF_of (SP_get H (by decide)) rfl (Nat.le_of_ble_eq_true rfl)
theorem lI_signs (H : SP sh) : fI sh D 260 65 = some (D 260 1) := fI_of (SP_get H (by decide)) rfl (Nat.le_of_ble_eq_true rfl)
theorem lF_signs (H : SP sh) : oF sh 260 65 = true := oF_of (SP_get H (by decide)) rfl (Nat.le_of_ble_eq_true rfl)
theorem lR_kinds (H : SP sh) : fR sh 260 66 = some 261 := fR_of (SP_get H (by decide)) rfl rfl
theorem lR_amounts (H : SP sh) : fR sh 260 67 = some 262 := fR_of (SP_get H (by decide)) rfl rfl
theorem lR_ends (H : SP sh) : fR sh 260 68 = some 263 := fR_of (SP_get H (by decide)) rfl rfl
theorem lR_code (H : SP sh) : fR sh 260 69 = some 264 := fR_of (SP_get H (by decide)) rfl rfl
theorem lO (H : SP sh) : isO sh 260 1 = true := isO_of (SP_get H (by decide))
theorem lN_261 (H : SP sh) : aN sh 0 261 = some 12 := aN_of (SP_get H (by decide))
theorem lL_261 (H : SP sh) : aL sh 261 = some 12 := aL_of (SP_get H (by decide)) (by decide)
theorem lA_261 (H : SP sh) (hi : i < 12) : aI sh D 261 (Int32.ofNat i) = some (D 261 i) := aI_of (lN_261 H) (by decide) hi
theorem lW_261 (H : SP sh) (hi : i < 12) : oA sh 0 261 (Int32.ofNat i) = true := oA_of (lN_261 H) (by decide) hi
theorem lN_262 (H : SP sh) : aN sh 0 262 = some 12 := aN_of (SP_get H (by decide))
theorem lL_262 (H : SP sh) : aL sh 262 = some 12 := aL_of (SP_get H (by decide)) (by decide)
theorem lA_262 (H : SP sh) (hi : i < 12) : aI sh D 262 (Int32.ofNat i) = some (D 262 i) := aI_of (lN_262 H) (by decide) hi
theorem lW_262 (H : SP sh) (hi : i < 12) : oA sh 0 262 (Int32.ofNat i) = true := oA_of (lN_262 H) (by decide) hi
theorem lN_263 (H : SP sh) : aN sh 0 263 = some 12 := aN_of (SP_get H (by decide))
theorem lL_263 (H : SP sh) : aL sh 263 = some 12 := aL_of (SP_get H (by decide)) (by decide)
theorem lA_263 (H : SP sh) (hi : i < 12) : aI sh D 263 (Int32.ofNat i) = some (D 263 i) := aI_of (lN_263 H) (by decide) hi
theorem lW_263 (H : SP sh) (hi : i < 12) : oA sh 0 263 (Int32.ofNat i) = true := oA_of (lN_263 H) (by decide) hi
theorem lN_264 (H : SP sh) : aN sh 0 264 = some 400 := aN_of (SP_get H (by decide))
theorem lL_264 (H : SP sh) : aL sh 264 = some 400 := aL_of (SP_get H (by decide)) (by decide)
theorem lA_264 (H : SP sh) (hi : i < 400) : aI sh D 264 (Int32.ofNat i) = some (D 264 i) := aI_of (lN_264 H) (by decide) hi
theorem lW_264 (H : SP sh) (hi : i < 400) : oA sh 0 264 (Int32.ofNat i) = true := oA_of (lN_264 H) (by decide) hi
theorem wR_so (H : SP sh) : fR sh 265 576 = some 266 := fR_of (SP_get H (by decide)) rfl rfl
theorem wR_alive (H : SP sh) : fR sh 265 577 = some 267 := fR_of (SP_get H (by decide)) rfl rfl
theorem wI_count (H : SP sh) : fI sh D 265 578 = some (D 265 2) := fI_of (SP_get H (by decide)) rfl (Nat.le_of_ble_eq_true rfl)
theorem wF_count (H : SP sh) : oF sh 265 578 = true := oF_of (SP_get H (by decide)) rfl (Nat.le_of_ble_eq_true rfl)
theorem wI_makers (H : SP sh) : fI sh D 265 579 = some (D 265 3) := fI_of (SP_get H (by decide)) rfl (Nat.le_of_ble_eq_true rfl)
theorem wF_makers (H : SP sh) : oF sh 265 579 = true := oF_of (SP_get H (by decide)) rfl (Nat.le_of_ble_eq_true rfl)
theorem wR_order (H : SP sh) : fR sh 265 580 = some 268 := fR_of (SP_get H (by decide)) rfl rfl
theorem wR_madeBy (H : SP sh) : fR sh 265 581 = some 269 := fR_of (SP_get H (by decide)) rfl rfl
theorem wR_hinderedBy (H : SP sh) : fR sh 265 582 = some 270 := fR_of (SP_get H (by decide)) rfl rfl
theorem wR_doers (H : SP sh) : fR sh 265 583 = some 271 := fR_of (SP_get H (by decide)) rfl rfl
theorem wO (H : SP sh) : isO sh 265 9 = true := isO_of (SP_get H (by decide))
theorem wN_266 (H : SP sh) : aN sh 0 266 = some 64 := aN_of (SP_get H (by decide))
theorem wL_266 (H : SP sh) : aL sh 266 = some 64 := aL_of (SP_get H (by decide)) (by decide)
theorem wA_266 (H : SP sh) (hi : i < 64) : aI sh D 266 (Int32.ofNat i) = some (D 266 i) := aI_of (wN_266 H) (by decide) hi
theorem wW_266 (H : SP sh) (hi : i < 64) : oA sh 0 266 (Int32.ofNat i) = true := oA_of (wN_266 H) (by decide) hi
theorem wN_267 (H : SP sh) : aN sh 0 267 = some 64 := aN_of (SP_get H (by decide))
theorem wL_267 (H : SP sh) : aL sh 267 = some 64 := aL_of (SP_get H (by decide)) (by decide)
theorem wA_267 (H : SP sh) (hi : i < 64) : aI sh D 267 (Int32.ofNat i) = some (D 267 i) := aI_of (wN_267 H) (by decide) hi
theorem wW_267 (H : SP sh) (hi : i < 64) : oA sh 0 267 (Int32.ofNat i) = true := oA_of (wN_267 H) (by decide) hi
theorem wN_268 (H : SP sh) : aN sh 0 268 = some 8 := aN_of (SP_get H (by decide))
theorem wL_268 (H : SP sh) : aL sh 268 = some 8 := aL_of (SP_get H (by decide)) (by decide)
theorem wA_268 (H : SP sh) (hi : i < 8) : aI sh D 268 (Int32.ofNat i) = some (D 268 i) := aI_of (wN_268 H) (by decide) hi
theorem wW_268 (H : SP sh) (hi : i < 8) : oA sh 0 268 (Int32.ofNat i) = true := oA_of (wN_268 H) (by decide) hi
theorem wN_269 (H : SP sh) : aN sh 0 269 = some 8 := aN_of (SP_get H (by decide))
theorem wL_269 (H : SP sh) : aL sh 269 = some 8 := aL_of (SP_get H (by decide)) (by decide)
theorem wA_269 (H : SP sh) (hi : i < 8) : aI sh D 269 (Int32.ofNat i) = some (D 269 i) := aI_of (wN_269 H) (by decide) hi
theorem wW_269 (H : SP sh) (hi : i < 8) : oA sh 0 269 (Int32.ofNat i) = true := oA_of (wN_269 H) (by decide) hi
theorem wN_270 (H : SP sh) : aN sh 0 270 = some 8 := aN_of (SP_get H (by decide))
theorem wL_270 (H : SP sh) : aL sh 270 = some 8 := aL_of (SP_get H (by decide)) (by decide)
theorem wA_270 (H : SP sh) (hi : i < 8) : aI sh D 270 (Int32.ofNat i) = some (D 270 i) := aI_of (wN_270 H) (by decide) hi
theorem wW_270 (H : SP sh) (hi : i < 8) : oA sh 0 270 (Int32.ofNat i) = true := oA_of (wN_270 H) (by decide) hi
theorem wN_271 (H : SP sh) : aN sh 0 271 = some 8 := aN_of (SP_get H (by decide))
theorem wL_271 (H : SP sh) : aL sh 271 = some 8 := aL_of (SP_get H (by decide)) (by decide)
theorem wA_271 (H : SP sh) (hi : i < 8) : aI sh D 271 (Int32.ofNat i) = some (D 271 i) := aI_of (wN_271 H) (by decide) hi
theorem wW_271 (H : SP sh) (hi : i < 8) : oA sh 0 271 (Int32.ofNat i) = true := oA_of (wN_271 H) (by decide) hi
theorem vR_so (H : SP sh) : fR sh 272 576 = some 273 := fR_of (SP_get H (by decide)) rfl rfl
theorem vR_alive (H : SP sh) : fR sh 272 577 = some 274 := fR_of (SP_get H (by decide)) rfl rfl
theorem vI_count (H : SP sh) : fI sh D 272 578 = some (D 272 2) := fI_of (SP_get H (by decide)) rfl (Nat.le_of_ble_eq_true rfl)
theorem vF_count (H : SP sh) : oF sh 272 578 = true := oF_of (SP_get H (by decide)) rfl (Nat.le_of_ble_eq_true rfl)
theorem vI_makers (H : SP sh) : fI sh D 272 579 = some (D 272 3) := fI_of (SP_get H (by decide)) rfl (Nat.le_of_ble_eq_true rfl)
theorem vF_makers (H : SP sh) : oF sh 272 579 = true := oF_of (SP_get H (by decide)) rfl (Nat.le_of_ble_eq_true rfl)
theorem vR_order (H : SP sh) : fR sh 272 580 = some 275 := fR_of (SP_get H (by decide)) rfl rfl
theorem vR_madeBy (H : SP sh) : fR sh 272 581 = some 276 := fR_of (SP_get H (by decide)) rfl rfl
theorem vR_hinderedBy (H : SP sh) : fR sh 272 582 = some 277 := fR_of (SP_get H (by decide)) rfl rfl
theorem vR_doers (H : SP sh) : fR sh 272 583 = some 278 := fR_of (SP_get H (by decide)) rfl rfl
theorem vO (H : SP sh) : isO sh 272 9 = true := isO_of (SP_get H (by decide))
theorem vN_273 (H : SP sh) : aN sh 0 273 = some 64 := aN_of (SP_get H (by decide))
theorem vL_273 (H : SP sh) : aL sh 273 = some 64 := aL_of (SP_get H (by decide)) (by decide)
theorem vA_273 (H : SP sh) (hi : i < 64) : aI sh D 273 (Int32.ofNat i) = some (D 273 i) := aI_of (vN_273 H) (by decide) hi
theorem vW_273 (H : SP sh) (hi : i < 64) : oA sh 0 273 (Int32.ofNat i) = true := oA_of (vN_273 H) (by decide) hi
theorem vN_274 (H : SP sh) : aN sh 0 274 = some 64 := aN_of (SP_get H (by decide))
theorem vL_274 (H : SP sh) : aL sh 274 = some 64 := aL_of (SP_get H (by decide)) (by decide)
theorem vA_274 (H : SP sh) (hi : i < 64) : aI sh D 274 (Int32.ofNat i) = some (D 274 i) := aI_of (vN_274 H) (by decide) hi
theorem vW_274 (H : SP sh) (hi : i < 64) : oA sh 0 274 (Int32.ofNat i) = true := oA_of (vN_274 H) (by decide) hi
theorem vN_275 (H : SP sh) : aN sh 0 275 = some 8 := aN_of (SP_get H (by decide))
theorem vL_275 (H : SP sh) : aL sh 275 = some 8 := aL_of (SP_get H (by decide)) (by decide)
theorem vA_275 (H : SP sh) (hi : i < 8) : aI sh D 275 (Int32.ofNat i) = some (D 275 i) := aI_of (vN_275 H) (by decide) hi
theorem vW_275 (H : SP sh) (hi : i < 8) : oA sh 0 275 (Int32.ofNat i) = true := oA_of (vN_275 H) (by decide) hi
theorem vN_276 (H : SP sh) : aN sh 0 276 = some 8 := aN_of (SP_get H (by decide))
theorem vL_276 (H : SP sh) : aL sh 276 = some 8 := aL_of (SP_get H (by decide)) (by decide)
theorem vA_276 (H : SP sh) (hi : i < 8) : aI sh D 276 (Int32.ofNat i) = some (D 276 i) := aI_of (vN_276 H) (by decide) hi
theorem vW_276 (H : SP sh) (hi : i < 8) : oA sh 0 276 (Int32.ofNat i) = true := oA_of (vN_276 H) (by decide) hi
theorem vN_277 (H : SP sh) : aN sh 0 277 = some 8 := aN_of (SP_get H (by decide))
theorem vL_277 (H : SP sh) : aL sh 277 = some 8 := aL_of (SP_get H (by decide)) (by decide)
theorem vA_277 (H : SP sh) (hi : i < 8) : aI sh D 277 (Int32.ofNat i) = some (D 277 i) := aI_of (vN_277 H) (by decide) hi
theorem vW_277 (H : SP sh) (hi : i < 8) : oA sh 0 277 (Int32.ofNat i) = true := oA_of (vN_277 H) (by decide) hi
theorem vN_278 (H : SP sh) : aN sh 0 278 = some 8 := aN_of (SP_get H (by decide))
theorem vL_278 (H : SP sh) : aL sh 278 = some 8 := aL_of (SP_get H (by decide)) (by decide)
theorem vA_278 (H : SP sh) (hi : i < 8) : aI sh D 278 (Int32.ofNat i) = some (D 278 i) := aI_of (vN_278 H) (by decide) hi
theorem vW_278 (H : SP sh) (hi : i < 8) : oA sh 0 278 (Int32.ofNat i) = true := oA_of (vN_278 H) (by decide) hi
theorem gR_bestWay (H : SP sh) : fR sh 279 320 = some 280 := fR_of (SP_get H (by decide)) rfl rfl
theorem gI_most (H : SP sh) : fI sh D 279 321 = some (D 279 1) := fI_of (SP_get H (by decide)) rfl (Nat.le_of_ble_eq_true rfl)
theorem gF_most (H : SP sh) : oF sh 279 321 = true := oF_of (SP_get H (by decide)) rfl (Nat.le_of_ble_eq_true rfl)
theorem gR_way (H : SP sh) : fR sh 279 322 = some 281 := fR_of (SP_get H (by decide)) rfl rfl
theorem gR_aboard (H : SP sh) : fR sh 279 323 = some 282 := fR_of (SP_get H (by decide)) rfl rfl
theorem gO (H : SP sh) : isO sh 279 5 = true := isO_of (SP_get H (by decide))
theorem gN_280 (H : SP sh) : aN sh 0 280 = some 6 := aN_of (SP_get H (by decide))
theorem gL_280 (H : SP sh) : aL sh 280 = some 6 := aL_of (SP_get H (by decide)) (by decide)
theorem gA_280 (H : SP sh) (hi : i < 6) : aI sh D 280 (Int32.ofNat i) = some (D 280 i) := aI_of (gN_280 H) (by decide) hi
theorem gW_280 (H : SP sh) (hi : i < 6) : oA sh 0 280 (Int32.ofNat i) = true := oA_of (gN_280 H) (by decide) hi
theorem gN_281 (H : SP sh) : aN sh 0 281 = some 6 := aN_of (SP_get H (by decide))
theorem gL_281 (H : SP sh) : aL sh 281 = some 6 := aL_of (SP_get H (by decide)) (by decide)
theorem gA_281 (H : SP sh) (hi : i < 6) : aI sh D 281 (Int32.ofNat i) = some (D 281 i) := aI_of (gN_281 H) (by decide) hi
theorem gW_281 (H : SP sh) (hi : i < 6) : oA sh 0 281 (Int32.ofNat i) = true := oA_of (gN_281 H) (by decide) hi
theorem gN_282 (H : SP sh) : aN sh 0 282 = some 5 := aN_of (SP_get H (by decide))
theorem gL_282 (H : SP sh) : aL sh 282 = some 5 := aL_of (SP_get H (by decide)) (by decide)
theorem gA_282 (H : SP sh) (hi : i < 5) : aI sh D 282 (Int32.ofNat i) = some (D 282 i) := aI_of (gN_282 H) (by decide) hi
theorem gW_282 (H : SP sh) (hi : i < 5) : oA sh 0 282 (Int32.ofNat i) = true := oA_of (gN_282 H) (by decide) hi
theorem hR_bestWay (H : SP sh) : fR sh 283 256 = some 284 := fR_of (SP_get H (by decide)) rfl rfl
theorem hI_most (H : SP sh) : fI sh D 283 257 = some (D 283 1) := fI_of (SP_get H (by decide)) rfl (Nat.le_of_ble_eq_true rfl)
theorem hF_most (H : SP sh) : oF sh 283 257 = true := oF_of (SP_get H (by decide)) rfl (Nat.le_of_ble_eq_true rfl)
theorem hR_way (H : SP sh) : fR sh 283 258 = some 285 := fR_of (SP_get H (by decide)) rfl rfl
theorem hO (H : SP sh) : isO sh 283 4 = true := isO_of (SP_get H (by decide))
theorem hN_284 (H : SP sh) : aN sh 0 284 = some 6 := aN_of (SP_get H (by decide))
theorem hL_284 (H : SP sh) : aL sh 284 = some 6 := aL_of (SP_get H (by decide)) (by decide)
theorem hA_284 (H : SP sh) (hi : i < 6) : aI sh D 284 (Int32.ofNat i) = some (D 284 i) := aI_of (hN_284 H) (by decide) hi
theorem hW_284 (H : SP sh) (hi : i < 6) : oA sh 0 284 (Int32.ofNat i) = true := oA_of (hN_284 H) (by decide) hi
theorem hN_285 (H : SP sh) : aN sh 0 285 = some 6 := aN_of (SP_get H (by decide))
theorem hL_285 (H : SP sh) : aL sh 285 = some 6 := aL_of (SP_get H (by decide)) (by decide)
theorem hA_285 (H : SP sh) (hi : i < 6) : aI sh D 285 (Int32.ofNat i) = some (D 285 i) := aI_of (hN_285 H) (by decide) hi
theorem hW_285 (H : SP sh) (hi : i < 6) : oA sh 0 285 (Int32.ofNat i) = true := oA_of (hN_285 H) (by decide) hi
theorem mI_thrown (H : SP sh) : fI sh D 286 704 = some (D 286 0) := fI_of (SP_get H (by decide)) rfl (Nat.le_of_ble_eq_true rfl)
theorem mF_thrown (H : SP sh) : oF sh 286 704 = true := oF_of (SP_get H (by decide)) rfl (Nat.le_of_ble_eq_true rfl)
theorem mR_row (H : SP sh) : fR sh 286 705 = some 287 := fR_of (SP_get H (by decide)) rfl rfl
theorem mR_image (H : SP sh) : fR sh 286 706 = some 288 := fR_of (SP_get H (by decide)) rfl rfl
theorem mR_earlier (H : SP sh) : fR sh 286 707 = some 289 := fR_of (SP_get H (by decide)) rfl rfl
theorem mR_trial (H : SP sh) : fR sh 286 708 = some 290 := fR_of (SP_get H (by decide)) rfl rfl
theorem mR_acts (H : SP sh) : fR sh 286 709 = some 291 := fR_of (SP_get H (by decide)) rfl rfl
theorem mI_hasImage (H : SP sh) : fI sh D 286 710 = some (D 286 6) := fI_of (SP_get H (by decide)) rfl (Nat.le_of_ble_eq_true rfl)
theorem mF_hasImage (H : SP sh) : oF sh 286 710 = true := oF_of (SP_get H (by decide)) rfl (Nat.le_of_ble_eq_true rfl)
theorem mI_remembered (H : SP sh) : fI sh D 286 711 = some (D 286 7) := fI_of (SP_get H (by decide)) rfl (Nat.le_of_ble_eq_true rfl)
theorem mF_remembered (H : SP sh) : oF sh 286 711 = true := oF_of (SP_get H (by decide)) rfl (Nat.le_of_ble_eq_true rfl)
theorem mR_tape (H : SP sh) : fR sh 286 712 = some 292 := fR_of (SP_get H (by decide)) rfl rfl
theorem mI_taped (H : SP sh) : fI sh D 286 713 = some (D 286 9) := fI_of (SP_get H (by decide)) rfl (Nat.le_of_ble_eq_true rfl)
theorem mF_taped (H : SP sh) : oF sh 286 713 = true := oF_of (SP_get H (by decide)) rfl (Nat.le_of_ble_eq_true rfl)
theorem mI_point (H : SP sh) : fI sh D 286 714 = some (D 286 10) := fI_of (SP_get H (by decide)) rfl (Nat.le_of_ble_eq_true rfl)
theorem mF_point (H : SP sh) : oF sh 286 714 = true := oF_of (SP_get H (by decide)) rfl (Nat.le_of_ble_eq_true rfl)
theorem mI_end (H : SP sh) : fI sh D 286 715 = some (D 286 11) := fI_of (SP_get H (by decide)) rfl (Nat.le_of_ble_eq_true rfl)
theorem mF_end (H : SP sh) : oF sh 286 715 = true := oF_of (SP_get H (by decide)) rfl (Nat.le_of_ble_eq_true rfl)
theorem mI_begin (H : SP sh) : fI sh D 286 716 = some (D 286 12) := fI_of (SP_get H (by decide)) rfl (Nat.le_of_ble_eq_true rfl)
theorem mF_begin (H : SP sh) : oF sh 286 716 = true := oF_of (SP_get H (by decide)) rfl (Nat.le_of_ble_eq_true rfl)
theorem mI_deep (H : SP sh) : fI sh D 286 717 = some (D 286 13) := fI_of (SP_get H (by decide)) rfl (Nat.le_of_ble_eq_true rfl)
theorem mF_deep (H : SP sh) : oF sh 286 717 = true := oF_of (SP_get H (by decide)) rfl (Nat.le_of_ble_eq_true rfl)
theorem mI_faultAt (H : SP sh) : fI sh D 286 718 = some (D 286 14) := fI_of (SP_get H (by decide)) rfl (Nat.le_of_ble_eq_true rfl)
theorem mF_faultAt (H : SP sh) : oF sh 286 718 = true := oF_of (SP_get H (by decide)) rfl (Nat.le_of_ble_eq_true rfl)
theorem mR_five (H : SP sh) : fR sh 286 719 = some 293 := fR_of (SP_get H (by decide)) rfl rfl
theorem mI_codes (H : SP sh) : fI sh D 286 720 = some (D 286 16) := fI_of (SP_get H (by decide)) rfl (Nat.le_of_ble_eq_true rfl)
theorem mF_codes (H : SP sh) : oF sh 286 720 = true := oF_of (SP_get H (by decide)) rfl (Nat.le_of_ble_eq_true rfl)
theorem mR_value (H : SP sh) : fR sh 286 721 = some 294 := fR_of (SP_get H (by decide)) rfl rfl
theorem mI_so (H : SP sh) : fI sh D 286 722 = some (D 286 18) := fI_of (SP_get H (by decide)) rfl (Nat.le_of_ble_eq_true rfl)
theorem mF_so (H : SP sh) : oF sh 286 722 = true := oF_of (SP_get H (by decide)) rfl (Nat.le_of_ble_eq_true rfl)
theorem mR_lines (H : SP sh) : fR sh 286 723 = some 295 := fR_of (SP_get H (by decide)) rfl rfl
theorem mR_chosen (H : SP sh) : fR sh 286 724 = some 296 := fR_of (SP_get H (by decide)) rfl rfl
theorem mR_best (H : SP sh) : fR sh 286 725 = some 297 := fR_of (SP_get H (by decide)) rfl rfl
theorem mR_members (H : SP sh) : fR sh 286 726 = some 298 := fR_of (SP_get H (by decide)) rfl rfl
theorem mR_paired (H : SP sh) : fR sh 286 727 = some 299 := fR_of (SP_get H (by decide)) rfl rfl
theorem mO (H : SP sh) : isO sh 286 11 = true := isO_of (SP_get H (by decide))
theorem mN_287 (H : SP sh) : aN sh 0 287 = some 2050 := aN_of (SP_get H (by decide))
theorem mL_287 (H : SP sh) : aL sh 287 = some 2050 := aL_of (SP_get H (by decide)) (by decide)
theorem mA_287 (H : SP sh) (hi : i < 2050) : aI sh D 287 (Int32.ofNat i) = some (D 287 i) := aI_of (mN_287 H) (by decide) hi
theorem mW_287 (H : SP sh) (hi : i < 2050) : oA sh 0 287 (Int32.ofNat i) = true := oA_of (mN_287 H) (by decide) hi
theorem mN_288 (H : SP sh) : aN sh 0 288 = some 1201 := aN_of (SP_get H (by decide))
theorem mL_288 (H : SP sh) : aL sh 288 = some 1201 := aL_of (SP_get H (by decide)) (by decide)
theorem mA_288 (H : SP sh) (hi : i < 1201) : aI sh D 288 (Int32.ofNat i) = some (D 288 i) := aI_of (mN_288 H) (by decide) hi
theorem mW_288 (H : SP sh) (hi : i < 1201) : oA sh 0 288 (Int32.ofNat i) = true := oA_of (mN_288 H) (by decide) hi
theorem mN_289 (H : SP sh) : aN sh 0 289 = some 1201 := aN_of (SP_get H (by decide))
theorem mL_289 (H : SP sh) : aL sh 289 = some 1201 := aL_of (SP_get H (by decide)) (by decide)
theorem mA_289 (H : SP sh) (hi : i < 1201) : aI sh D 289 (Int32.ofNat i) = some (D 289 i) := aI_of (mN_289 H) (by decide) hi
theorem mW_289 (H : SP sh) (hi : i < 1201) : oA sh 0 289 (Int32.ofNat i) = true := oA_of (mN_289 H) (by decide) hi
theorem mN_290 (H : SP sh) : aN sh 0 290 = some 352 := aN_of (SP_get H (by decide))
theorem mL_290 (H : SP sh) : aL sh 290 = some 352 := aL_of (SP_get H (by decide)) (by decide)
theorem mA_290 (H : SP sh) (hi : i < 352) : aI sh D 290 (Int32.ofNat i) = some (D 290 i) := aI_of (mN_290 H) (by decide) hi
theorem mW_290 (H : SP sh) (hi : i < 352) : oA sh 0 290 (Int32.ofNat i) = true := oA_of (mN_290 H) (by decide) hi
theorem mN_291 (H : SP sh) : aN sh 0 291 = some 4224 := aN_of (SP_get H (by decide))
theorem mL_291 (H : SP sh) : aL sh 291 = some 4224 := aL_of (SP_get H (by decide)) (by decide)
theorem mA_291 (H : SP sh) (hi : i < 4224) : aI sh D 291 (Int32.ofNat i) = some (D 291 i) := aI_of (mN_291 H) (by decide) hi
theorem mW_291 (H : SP sh) (hi : i < 4224) : oA sh 0 291 (Int32.ofNat i) = true := oA_of (mN_291 H) (by decide) hi
theorem mN_292 (H : SP sh) : aN sh 1 292 = some 400 := aN_of (SP_get H (by decide))
theorem mL_292 (H : SP sh) : aL sh 292 = some 400 := aL_of (SP_get H (by decide)) (by decide)
theorem mA_292 (H : SP sh) (hi : i < 400) : aB sh D 292 (Int32.ofNat i) = some (D 292 i) := aB_of (mN_292 H) (by decide) hi
theorem mW_292 (H : SP sh) (hi : i < 400) : oA sh 1 292 (Int32.ofNat i) = true := oA_of (mN_292 H) (by decide) hi
theorem mN_293 (H : SP sh) : aN sh 0 293 = some 5 := aN_of (SP_get H (by decide))
theorem mL_293 (H : SP sh) : aL sh 293 = some 5 := aL_of (SP_get H (by decide)) (by decide)
theorem mA_293 (H : SP sh) (hi : i < 5) : aI sh D 293 (Int32.ofNat i) = some (D 293 i) := aI_of (mN_293 H) (by decide) hi
theorem mW_293 (H : SP sh) (hi : i < 5) : oA sh 0 293 (Int32.ofNat i) = true := oA_of (mN_293 H) (by decide) hi
theorem mN_294 (H : SP sh) : aN sh 0 294 = some 400 := aN_of (SP_get H (by decide))
theorem mL_294 (H : SP sh) : aL sh 294 = some 400 := aL_of (SP_get H (by decide)) (by decide)
theorem mA_294 (H : SP sh) (hi : i < 400) : aI sh D 294 (Int32.ofNat i) = some (D 294 i) := aI_of (mN_294 H) (by decide) hi
theorem mW_294 (H : SP sh) (hi : i < 400) : oA sh 0 294 (Int32.ofNat i) = true := oA_of (mN_294 H) (by decide) hi
theorem mN_295 (H : SP sh) : aN sh 0 295 = some 8 := aN_of (SP_get H (by decide))
theorem mL_295 (H : SP sh) : aL sh 295 = some 8 := aL_of (SP_get H (by decide)) (by decide)
theorem mA_295 (H : SP sh) (hi : i < 8) : aI sh D 295 (Int32.ofNat i) = some (D 295 i) := aI_of (mN_295 H) (by decide) hi
theorem mW_295 (H : SP sh) (hi : i < 8) : oA sh 0 295 (Int32.ofNat i) = true := oA_of (mN_295 H) (by decide) hi
theorem mN_296 (H : SP sh) : aN sh 0 296 = some 6 := aN_of (SP_get H (by decide))
theorem mL_296 (H : SP sh) : aL sh 296 = some 6 := aL_of (SP_get H (by decide)) (by decide)
theorem mA_296 (H : SP sh) (hi : i < 6) : aI sh D 296 (Int32.ofNat i) = some (D 296 i) := aI_of (mN_296 H) (by decide) hi
theorem mW_296 (H : SP sh) (hi : i < 6) : oA sh 0 296 (Int32.ofNat i) = true := oA_of (mN_296 H) (by decide) hi
theorem mN_297 (H : SP sh) : aN sh 0 297 = some 6 := aN_of (SP_get H (by decide))
theorem mL_297 (H : SP sh) : aL sh 297 = some 6 := aL_of (SP_get H (by decide)) (by decide)
theorem mA_297 (H : SP sh) (hi : i < 6) : aI sh D 297 (Int32.ofNat i) = some (D 297 i) := aI_of (mN_297 H) (by decide) hi
theorem mW_297 (H : SP sh) (hi : i < 6) : oA sh 0 297 (Int32.ofNat i) = true := oA_of (mN_297 H) (by decide) hi
theorem mN_298 (H : SP sh) : aN sh 0 298 = some 6 := aN_of (SP_get H (by decide))
theorem mL_298 (H : SP sh) : aL sh 298 = some 6 := aL_of (SP_get H (by decide)) (by decide)
theorem mA_298 (H : SP sh) (hi : i < 6) : aI sh D 298 (Int32.ofNat i) = some (D 298 i) := aI_of (mN_298 H) (by decide) hi
theorem mW_298 (H : SP sh) (hi : i < 6) : oA sh 0 298 (Int32.ofNat i) = true := oA_of (mN_298 H) (by decide) hi
theorem mN_299 (H : SP sh) : aN sh 0 299 = some 64 := aN_of (SP_get H (by decide))
theorem mL_299 (H : SP sh) : aL sh 299 = some 64 := aL_of (SP_get H (by decide)) (by decide)
theorem mA_299 (H : SP sh) (hi : i < 64) : aI sh D 299 (Int32.ofNat i) = some (D 299 i) := aI_of (mN_299 H) (by decide) hi
theorem mW_299 (H : SP sh) (hi : i < 64) : oA sh 0 299 (Int32.ofNat i) = true := oA_of (mN_299 H) (by decide) hi
theorem oN_300 (H : SP sh) : aN sh 2 300 = some 1 := aN_of (SP_get H (by decide))
theorem oL_300 (H : SP sh) : aL sh 300 = some 1 := aL_of (SP_get H (by decide)) (by decide)
theorem oW_300 (H : SP sh) (hi : i < 1) : oA sh 2 300 (Int32.ofNat i) = true := oA_of (oN_300 H) (by decide) hi
end SHS
theorem St_state {sh : List sC} (H : SP sh) : St sh 3 := fun k hk => (SP_get H (by omega)).trans ((by decide +kernel : ∀ k, k < 17 → SH0[3 + k]? = (stS 3)[k]?) k hk)
theorem St_image {sh : List sC} (H : SP sh) : St sh 20 := fun k hk => (SP_get H (by omega)).trans ((by decide +kernel : ∀ k, k < 17 → SH0[20 + k]? = (stS 20)[k]?) k hk)
theorem St_draft {sh : List sC} (H : SP sh) : St sh 37 := fun k hk => (SP_get H (by omega)).trans ((by decide +kernel : ∀ k, k < 17 → SH0[37 + k]? = (stS 37)[k]?) k hk)
theorem St_memA : ∀ j, j < 204 → SH0[56 + j]? = (stS (56 + 17 * (j / 17)))[j % 17]? := by decide +kernel
theorem St_mem {sh : List sC} (H : SP sh) {i : Nat} (hi : i < 12) : St sh (56 + 17 * i) := fun k hk => by
  have h := St_memA (17 * i + k) (by omega)
  rw [show (17 * i + k) / 17 = i by omega, show (17 * i + k) % 17 = k by omega, ← Nat.add_assoc] at h
  exact (SP_get H (by omega)).trans h
