/-! ===== THROWS AND CALLS ===== -/
/-- the words of a throw: the class's constructor calls its super's by the entry ix of the bytes bz -/
def av_tw (own : String) (ic : Nat) (E : String) (ix : Nat) (bz : ByteArray) : List Cond := (tn_atoms own ic E "java/lang/RuntimeException" ix bz ["java/lang/Exception"]).filter vx_no
def av_EnvT (P : av_P) (K : av_K) (Ts Xs : List Cond) (I : av_I) : Prop :=
  ∀ k oc ik is ic wd, I[k]? = some (oc, ik, is, ic, wd) → Bundle.fit (av_th P k) = true ∧ Cond.classLink (av_cn K oc) ik (av_th P k) ∈ Ts ∧ Cond.initialized (av_th P k) ∈ Ts ∧ (∃ si, (oc, is, si) ∈ av_sl K) ∧
    ∃ (ix : Nat) (bz : ByteArray), (decode bz 0 = .ok (.aload_n 0, 1) ∧ decode bz 1 = .ok (.aload_n 1, 1) ∧ decode bz 2 = .ok (.invokespecial ix, 3) ∧ decode bz 5 = .ok (.return_, 1)) ∧ (∀ w ∈ av_tw (av_cn K oc) ic (av_th P k) ix bz, w ∈ Ts ∨ w ∈ Xs) ∧ ∀ w ∈ av_tw (av_cn K oc) ic (av_th P k) ix bz, vx_ot w = true
section SJ
variable {P : av_P} {K : av_K} {Ts Xs : List Cond} {Nc : List (String × String)} {nt : Nat} {I : av_I} {cl : List vw_C} {cy τ : Nat → Nat} {D : va_G} {A : Nat → Prop} {σ0 σ : Nat → Nat} {n0 nL oc mi pc : Nat} {ini : Bool} {cc : ByteArray}
variable {p : Program} {l : Launch} {e : Env} {R : Room} {s : State} {m : MethodId} {args : Array Value} {below : List Frame} {meth : Method} {c : Code} {H : Heap} {locs : List Loc} {cells slots : Nat} {Q : State → Prop} {ls : Array Slot}
variable {L L' : av_L} {st st' : List Value} {h h' : av_H} {pc' cells' slots' : Nat}
theorem av_B_kept (r : av_Rel cy τ D cl A s.heap σ0 n0 nL σ L st h ls H locs) (hK : va_K D cl (av_tys cy) s) {t : State} (hvm : s.vm.Alike t.vm) (hq : ∀ q : Nat, q < H.size → t.heap[q]? = H[q]?) : av_B cy τ D cl A σ h t :=
  ⟨r.2.2.2.2.2.2.1.kept (fun k x hx => hq x.1 ((r.2.2.2.2.2.2.1 k x hx).lt)), va_K.moved hvm hK, r.2.2.2.2.2.2.2.1, r.2.2.2.2.2.1⟩
theorem sd_thr (hT : av_EnvT P K Ts Xs I) (hF : av_Fix P K Ts cl cy τ D A nL oc ini cc p R s m args meth c) (hO2 : av_Ol2 P Xs Nc nt τ A s) (hXs : ∀ w ∈ Xs, av_xw w = true) (hGd : ∀ w ∈ Ts, goodWord w = true) (hl : l.stackTraces = false) (hlocks : meth.locks = false) (htab : c.exceptionTable.toList = [])
    (r : av_Rel cy τ D cl A s.heap σ0 n0 nL σ L st h ls H locs) {k : Nat} (hok : av_tok I oc cc pc k = true) (h8 : (st.map fun v => v.category).sum ≤ 8) (hc : cells + 1 ≤ R.cells) (hs : slots + 6 ≤ R.slots) :
    W p l e R s m args below meth c H locs cells slots (vx_MQ below (av_Qc cy τ D cl A σ0 n0 (.inr (av_th P k)) h) (av_Xc cy τ D cl A σ0 n0 (.inr (av_th P k)) h) args s (cells + 1) (slots + 6) A) (F0 m pc ls (st.map (av_v σ τ))) := by
  obtain ⟨⟨hx, hb, hml, hown⟩, hts, hin, hK, hA, hOld, hR⟩ := hF
  have hX : ∀ t : State, s.vm.Alike t.vm → H.size ≤ t.heap.size → (∀ q : Nat, q < H.size → t.heap[q]? = H[q]?) → av_Xc cy τ D cl A σ0 n0 (.inr (av_th P k)) h (av_th P k) s t := fun t hvm hz hq =>
    ⟨rfl, σ, r.1, r.2.1, av_B_kept r hK hvm hq, ⟨Nat.le_trans r.2.2.2.2.2.2.2.2.1 hz, fun q h1 h2 => (hq q (Nat.lt_of_lt_of_le h1 r.2.2.2.2.2.2.2.2.1)).trans (r.2.2.2.2.2.2.2.2.2.1 q h1 h2)⟩⟩
  have hout : ∀ j, ∀ x ∈ c.exceptionTable.toList, covers x j = false := fun j x hx => by rw [htab] at hx; cases hx
  have hcat := av_cats σ τ st
  have hlen : (["java/lang/RuntimeException", "java/lang/Exception"] : List String).length = 2 := rfl
  unfold av_tok at hok
  split at hok
  · next oc' ik is ic hI =>
    simp only [Bool.and_eq_true, decide_eq_true_eq] at hok
    obtain ⟨⟨⟨⟨⟨rfl, d0⟩, d3⟩, d4⟩, d6⟩, d9⟩ := hok
    obtain ⟨t1, t2, t3, ⟨si, hsi⟩, ix, bz, ⟨z0, z1, z2, z5⟩, t5, t6⟩ := hT _ _ _ _ _ _ hI
    obtain ⟨tx, hZ⟩ := hOld.1 _ hsi
    have hat : ∀ w ∈ av_tw (av_cn K oc') ic (av_th P k) ix bz, w.before args s = true := fun w hw => (t5 w hw).elim (fun h1 => hts w h1) (fun h1 => va_Nw.use (by have h2 := hXs w h1; cases w <;> first | rfl | cases h2) (hO2.1 w h1))
    exact tn_throwS (sup := "java/lang/RuntimeException") (r := ["java/lang/Exception"]) hx hb hl z0 z1 z2 z5 hown t1 (by decide +kernel) (by decide +kernel) (hts _ t2) (hts _ t3) hZ hat (fun w hw => by
      rcases List.mem_cons.mp hw with h1 | h1
      · rw [h1]; exact Bool.or_eq_true _ _ |>.mpr (Or.inr (hGd _ t2))
      · rcases List.mem_cons.mp h1 with h2 | h2
        · rw [h2]; exact Bool.or_eq_true _ _ |>.mpr (Or.inr (hGd _ t3))
        · exact t6 w h2) hO2.2.2.1.1 hO2.2.2.1.2 r.2.2.2.2.2.2.2.2 (by rw [hml]; exact r.2.2.1.2.1) d0 d3 d4 d6 d9 (hout _) (by omega) (by omega) hc hs hlocks hX r.2.2.2.2.2.2.2.2.2.2 (Nat.le_refl _) (Nat.le_refl _)
  · next oc' ik is ic hI =>
    simp only [Bool.and_eq_true, decide_eq_true_eq] at hok
    obtain ⟨⟨⟨⟨⟨rfl, d0⟩, d3⟩, d4⟩, d6⟩, d9⟩ := hok
    obtain ⟨t1, t2, t3, ⟨si, hsi⟩, ix, bz, ⟨z0, z1, z2, z5⟩, t5, t6⟩ := hT _ _ _ _ _ _ hI
    obtain ⟨tx, hZ⟩ := hOld.1 _ hsi
    have hat : ∀ w ∈ av_tw (av_cn K oc') ic (av_th P k) ix bz, w.before args s = true := fun w hw => (t5 w hw).elim (fun h1 => hts w h1) (fun h1 => va_Nw.use (by have h2 := hXs w h1; cases w <;> first | rfl | cases h2) (hO2.1 w h1))
    exact tn_throwSW (sup := "java/lang/RuntimeException") (r := ["java/lang/Exception"]) hx hb hl z0 z1 z2 z5 hown t1 (by decide +kernel) (by decide +kernel) (hts _ t2) (hts _ t3) hZ hat (fun w hw => by
      rcases List.mem_cons.mp hw with h1 | h1
      · rw [h1]; exact Bool.or_eq_true _ _ |>.mpr (Or.inr (hGd _ t2))
      · rcases List.mem_cons.mp h1 with h2 | h2
        · rw [h2]; exact Bool.or_eq_true _ _ |>.mpr (Or.inr (hGd _ t3))
        · exact t6 w h2) hO2.2.2.1.1 hO2.2.2.1.2 r.2.2.2.2.2.2.2.2 (by rw [hml]; exact r.2.2.1.2.1) d0 d3 d4 d6 d9 (hout _) (by omega) (by omega) hc hs hlocks hX r.2.2.2.2.2.2.2.2.2.2 (Nat.le_refl _) (Nat.le_refl _)
  · cases hok
/-- behind a call: it has answered, or thrown -/
theorem sd_ran (hK : va_K D cl (av_tys cy) s) (r : av_Rel cy τ D cl A s.heap σ0 n0 nL σ L st h ls H locs) {rest : List Value} (hrest : ∀ v ∈ rest, av_wv h.length v) {mc ms : Nat} {st0 : List Value} {o : Option Value ⊕ String} {a0 : Array Value}
    (hr : vx_Run p l e R s m args below meth c H locs cells slots mc ms (F0 m pc ls st0) (rest.map (av_v σ τ)) (av_Qc cy τ D cl A σ h.length o h' a0) (av_Xc cy τ D cl A σ h.length o h') A)
    (kret : ∀ v, o = .inl v → av_K1 cy τ D cl A σ0 n0 nL p l e R s m args below meth c Q (pc + 3) L (v.toList ++ rest) h' (cells + mc) (slots + ms))
    (kthr : ∀ E, o = .inr E → ∀ (σ' : Nat → Nat) (H' : Heap) (locs' : List Loc) (q : Addr) (ce : Cell), av_Rel cy τ D cl A s.heap σ0 n0 nL σ' L [] h' ls H' locs' → H'[q]? = some ce → ce.vm = .none → s.vm.findClass E = some ce.cls → vx_W p l e R s m args below meth c H' locs' (cells + mc) (slots + ms) Q (F0 m pc ls (rest.map (av_v σ τ))) q) :
    W p l e R s m args below meth c H locs cells slots Q (F0 m pc ls st0) := by
  intro T hT X
  obtain ⟨r1, r2, r3, r4, r5, r6, r7, r8, r9⟩ := r
  have key : ∀ (σ' : Nat → Nat) (t T' : State) (st₀ : State) (Lc : List Loc) (stk : List Value), st₀.heap = H → T'.heap = t.heap → (∀ q ∈ Lc, A q.base) → (∀ k, k < h.length → σ' k = σ k) → h.length ≤ h'.length → av_B cy τ D cl A σ' h' t → va_F A st₀ t → (∀ v ∈ stk, av_wv h'.length v) →
      av_Rel cy τ D cl A s.heap σ0 n0 nL σ' L stk h' ls T'.heap (locs ++ Lc) := fun σ' t T' st₀ Lc stk h0 e1 hL hσ hn hB hF hstk => by
    obtain ⟨k1, k2, k3⟩ := vx_keep (A0 := A) (A1 := A) (free := A) h0 e1 r9 (fun _ _ z => z) (fun _ z => z) hL hF
    refine ⟨fun k hk => (hσ k (Nat.lt_of_lt_of_le hk r2)).trans (r1 k hk), Nat.le_trans r2 hn, ⟨r3.1, av_lv_ext hσ r4 r3.2⟩, fun i v hv => ⟨(r4 i v hv).1, av_wv_le hn (r4 i v hv).2⟩, hstk, hB.2.2.2, by rw [e1]; exact hB.1, hB.2.2.1, k3⟩
  rcases hr T hT X with ⟨v, st₀, t, T', Lc, h0, X', hL, e1, e2, hq, go⟩ | ⟨q, st₀, t, T', Lc, E, ce, h0, X', hL, e1, e2, hq, hce, hcv, hcl, go⟩
  · rcases o with v0 | E
    · obtain ⟨σ', hσ, hn, hv, hwv, hB, hF⟩ := hq
      cases hv
      have hrel := key σ' t T' st₀ Lc (v0.toList ++ rest) h0 e1 hL hσ hn hB hF (fun w hw => by
        rcases List.mem_append.mp hw with h1 | h1
        · exact hwv w (by simpa using h1)
        · exact av_wv_le hn (hrest w h1))
      obtain ⟨t2, a1, b1⟩ := kret v0 rfl σ' ls T'.heap (locs ++ Lc) hrel T' rfl X'
      refine ⟨t2, go t2 ?_, b1⟩
      have e3 : (v0.toList ++ rest).map (av_v σ' τ) = (v0.map (av_v σ' τ)).toList ++ rest.map (av_v σ τ) := by
        rw [List.map_append, List.map_congr_left (fun w hw => av_v_ext hσ (hrest w hw))]
        cases v0 <;> rfl
      rw [e3] at a1
      exact a1
    · exact hq.elim
  · rcases o with v0 | E0
    · exact hq.elim
    · obtain ⟨rfl, σ', hσ, hn, hB, hF⟩ := hq
      have hrel := key σ' t T' st₀ Lc [] h0 e1 hL hσ hn hB hF (fun w hw => by cases hw)
      obtain ⟨t2, a1, b1⟩ := kthr E rfl σ' T'.heap (locs ++ Lc) q ce hrel (by rw [e1]; exact hce) hcv hcl T' rfl X'
      exact ⟨t2, go.trans a1, b1⟩
end SJ
