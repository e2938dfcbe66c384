/-- all that the tables say -/
def av_All (P : av_P) (K : av_K) (Ts Xs : List Cond) (Nc : List (String × String)) (nm : Nat) (mo mk : Nat → Nat) (I : av_I) (cl : List vw_C) : Prop :=
  av_Env P K Ts cl ∧ av_EnvT P K Ts Xs I ∧ av_EnvM P K Ts Xs cl nm mo mk ∧ av_EnvH P K Ts Xs Nc nm mo ∧ ∀ mi, mi < nm → ∀ pc ins len ix, av_op P mi pc = some (ins, len, ix) → av_chk P K cl I nm mk (mo mi) mi (av_ini P mi) (av_me P mi).2.1 pc ins len ix = true
/-- the texts' methods, wherever -/
def av_Strs (P : av_P) (K : av_K) (Ts Xs : List Cond) (Nc : List (String × String)) (nt : Nat) (cl : List vw_C) (cy τ : Nat → Nat) (D : va_G) (A : Nat → Prop) (l : Launch) : Prop :=
  ∀ (nL oc : Nat) (ini : Bool) (cc : ByteArray) (p : Program) (e : Env) (R : Room) (s : State) (m : MethodId) (args : Array Value) (below : List Frame) (meth : Method) (c : Code) (Q : State → Prop), av_Fix P K Ts cl cy τ D A nL oc ini cc p R s m args meth c → av_Ol2 P Xs Nc nt τ A s → av_Str P K τ A oc cc p l e R s m args below meth c Q nL
section SM
variable {P : av_P} {K : av_K} {Ts Xs : List Cond} {Nc : List (String × String)} {nt nm : Nat} {mo mk : Nat → Nat} {I : av_I} {cl : List vw_C} {cy τ : Nat → Nat} {D : va_G} {A : Nat → Prop} {l : Launch}
/-- what a run gives, at n steps -/
def av_Snd (P : av_P) (K : av_K) (Ts Xs : List Cond) (Nc : List (String × String)) (nt nm : Nat) (mo : Nat → Nat) (cl : List vw_C) (cy τ : Nat → Nat) (D : va_G) (A : Nat → Prop) (l : Launch) (n : Nat) : Prop :=
  ∀ (d mi pc : Nat) (L : av_L) (st : List Value) (h : av_H) (c s : Nat) (o : Option Value ⊕ String) (h' : av_H) (c' s' : Nat), av_rn P n d mi pc L st h c s = some (o, h', c', s') → mi < nm →
  ∀ (p : Program) (e : Env) (S : State) (m : MethodId) (args : Array Value) (below : List Frame) (meth : Method) (cd : Code) (H : Heap) (locs : List Loc) (ls : Array Slot) (σ0 σ : Nat → Nat) (n0 : Nat) (R : Room), (d + 20 ≤ R.frames ∧ 100 * d + 400 ≤ R.locals ∧ c' ≤ R.cells ∧ s' ≤ R.slots) →
    av_Fix P K Ts cl cy τ D A (av_me P mi).2.2.1 (mo mi) (av_ini P mi) (av_me P mi).2.1 p R S m args meth cd → av_Ol2 P Xs Nc nt τ A S → meth.sig.returnType = (av_me P mi).2.2.2.1 → meth.locks = false → cd.exceptionTable.toList = tableOf (av_me P mi).2.2.2.2.2.1 →
    av_Rel cy τ D cl A S.heap σ0 n0 (av_me P mi).2.2.1 σ L st h ls H locs →
    W p l e R S m args below meth cd H locs c s (vx_MQ below (av_Qc cy τ D cl A σ0 n0 o h') (av_Xc cy τ D cl A σ0 n0 o h') args S c' s' A) (F0 m pc ls (st.map (av_v σ τ)))
/-- a method's contract, out of its run -/
theorem sd_meth (hAll : av_All P K Ts Xs Nc nm mo mk I cl) {n : Nat} (ih : av_Snd P K Ts Xs Nc nt nm mo cl cy τ D A l n) {d mj : Nat} (hmj : mj < nm) {as : List Value} {h h' : av_H} {o : Option Value ⊕ String} {c' s' : Nat} (hr : av_rn P n d mj 0 (av_ent P mj as) [] h 0 0 = some (o, h', c', s')) {σ : Nat → Nat}
    (hlen : as.length = (av_me P mj).2.2.2.2.1) (has : ∀ v ∈ as, v.category = 1 ∧ av_wv h.length v) :
    vx_Met l (av_me P mj).1 (av_cw (av_me P mj) :: Ts) (av_rm d c' s') (av_Pc P K Xs Nc nt cy τ D cl A σ h as) (av_Qc cy τ D cl A σ h.length o h') (av_Xc cy τ D cl A σ h.length o h') c' s' A := by
  obtain ⟨m1, m2, m3, m4, m5, m6, m7⟩ := hAll.2.2.1.2.2.1 mj hmj
  have body : ∀ (p : Program) (e : Env) (s : State) (m : MethodId) (args : Array Value) (below : List Frame) (meth : Method) (c : Code) (s₁ : State), BodyLoose p l (av_me P mj).1 (headSpec (av_cw (av_me P mj) :: Ts) (av_rm d c' s')) (av_me P mj).2.1 (av_me P mj).2.2.1 (av_me P mj).2.2.2.1 e s m args below meth c s₁ → c.maxLocals = (av_me P mj).2.2.1 → c.exceptionTable.toList = tableOf (av_me P mj).2.2.2.2.2.1 → av_Pc P K Xs Nc nt cy τ D cl A σ h as args s →
      W p l e (headSpec (av_cw (av_me P mj) :: Ts) (av_rm d c' s')).room s m args below meth c s.heap [] 0 0 (vx_MQ below (av_Qc cy τ D cl A σ h.length o h') (av_Xc cy τ D cl A σ h.length o h') args s c' s' A) (entryFrame m args (av_me P mj).2.2.1) := fun p e s m args below meth c s₁ B hml htab hv => by
    obtain ⟨rfl, ⟨b1, b2, b3, b4⟩, v2, v3, v4⟩ := hv
    have hts := atoms_spec (ws := av_cw (av_me P mj) :: Ts) B.pre
    have hown : s.vm.findClass (av_cn K (mo mj)) = some m.cls := by rw [m7]; exact findClass_of_methodNamed B.named
    have hcat : ∀ w ∈ as.map (av_v σ τ), w.category = 1 := fun w hw => by
      obtain ⟨v, hv, rfl⟩ := List.mem_map.mp hw
      rw [av_v_cat]
      exact (has v hv).1
    have hle : (lg_sl (as.map (av_v σ τ))).length ≤ (av_me P mj).2.2.1 := by rw [lg_sl1 _ hcat, List.length_map, hlen]; exact m6
    have hl := lv_entry (as.map (av_v σ τ)) hle
    rw [lg_entry_eq]
    refine ih d mj 0 (av_ent P mj as) [] h 0 0 o h' c' s' hr hmj p e s m _ below meth c s.heap [] _ σ σ h.length (av_rm d c' s') ⟨Nat.le_refl _, Nat.le_refl _, Nat.le_refl _, Nat.le_refl _⟩ ⟨⟨B.exec, B.bytes, hml, hown⟩, fun w hw => hts w (List.mem_cons_of_mem _ hw), fun hi => (name_of_methodNamed B.named B.method).1.trans (by simpa [av_ini] using hi), b2, v4, v2, ?_, ?_⟩ v3 B.returns B.notSynchronized htab ⟨fun _ _ => rfl, Nat.le_refl _, ⟨?_, hl.1, hl.2.1, fun q hq => ?_⟩, fun i v hv => ?_, fun v hv => (by cases hv), b4, b1, b3, va_S.rf⟩
    · show 20 ≤ d + 20
      omega
    · show 400 ≤ 100 * d + 400
      omega
    · simp only [av_ent, List.length_append, List.length_map, List.length_replicate]
      omega
    · obtain ⟨v, hv, e1⟩ := av_lv_mem.mp hq
      refine hl.2.2 q ?_
      have h1 : as[q.1]? = some v := by
        simp only [av_ent] at hv
        by_cases hq1 : q.1 < as.length
        · rw [List.getElem?_append_left (by simpa using hq1), List.getElem?_map] at hv
          cases h9 : as[q.1]? with
          | none => rw [h9] at hv; cases hv
          | some z => rw [h9] at hv; cases hv; rfl
        · rw [List.getElem?_append_right (by simpa using hq1)] at hv
          have := List.eq_of_mem_replicate (List.mem_of_getElem? hv)
          cases this
      have h2 := lv_args1 (as.map (av_v σ τ)) 0 q.1 (av_v σ τ v) hcat (by rw [List.getElem?_map, h1]; rfl)
      rw [Nat.zero_add, ← e1] at h2
      exact h2
    · have h1 : v ∈ as := by
        simp only [av_ent] at hv
        have h2 := List.mem_of_getElem? hv
        rcases List.mem_append.mp h2 with h3 | h3
        · obtain ⟨z, hz, e1⟩ := List.mem_map.mp h3
          cases e1
          exact hz
        · have := List.eq_of_mem_replicate h3
          cases this
      exact has v h1
  by_cases hh : (av_me P mj).2.2.2.2.2.1 = []
  · have hcw : av_cw (av_me P mj) = .code (av_me P mj).1 (av_me P mj).2.1 (av_me P mj).2.2.1 (av_me P mj).2.2.2.1 := by simp only [av_cw, hh]
    refine vx_ofW (cc := (av_me P mj).2.1) (maxL := (av_me P mj).2.2.1) (ret := (av_me P mj).2.2.2.1) m2 (by rw [hcw]) (fun p e s m args below meth c s₁ B hml hno hv => body p e s m args below meth c s₁ B hml ?_ hv)
    rw [hh]
    exact List.eq_nil_iff_forall_not_mem.mpr hno
  · obtain ⟨q0, qs, hq⟩ : ∃ q0 qs, (av_me P mj).2.2.2.2.2.1 = q0 :: qs := by
      cases hq : (av_me P mj).2.2.2.2.2.1 with
      | nil => exact absurd hq hh
      | cons q0 qs => exact ⟨q0, qs, rfl⟩
    have hcw : av_cw (av_me P mj) = .codeWith (av_me P mj).1 (av_me P mj).2.1 (av_me P mj).2.2.1 (av_me P mj).2.2.2.1 (q0 :: qs) := by simp only [av_cw, hq]
    refine vx_ofWH (cc := (av_me P mj).2.1) (maxL := (av_me P mj).2.2.1) (ret := (av_me P mj).2.2.2.1) (hh := q0 :: qs) m2 (by rw [hcw]) (fun p e s m args below meth c s₁ B hml hv => body p e s m args below meth c s₁ B hml ?_ hv)
    have hts := atoms_spec (ws := av_cw (av_me P mj) :: Ts) B.pre
    have h1 := hts _ List.mem_cons_self
    rw [hcw] at h1
    rw [hq]
    exact vx_table (x := (av_me P mj).1) B h1
set_option maxHeartbeats 4000000 in
/-- THE RUN IS SOUND -/
theorem sd_run (hAll : av_All P K Ts Xs Nc nm mo mk I cl) (hl : l.stackTraces = false) (hStr : av_Strs P K Ts Xs Nc nt cl cy τ D A l) : ∀ n, av_Snd P K Ts Xs Nc nt nm mo cl cy τ D A l n := by
  intro n
  induction n with
  | zero =>
    intro d mi pc L st h c s o h' c' s' hr
    simp [av_rn] at hr
  | succ n ih =>
    intro d mi pc L st h c s o h' c' s' hr hmi p e S m args below meth cd H locs ls σ0 σ n0 R hRm hF hO2 hret hlocks htab r
    have hmono := av_rn_mono (n + 1) d mi pc L st h c s _ hr
    simp only at hmono
    simp only [av_rn] at hr
    cases hstp : av_stp P mi pc L st h c s with
    | none => rw [hstp] at hr; cases hr
    | some x =>
      rw [hstp] at hr
      unfold av_stp at hstp
      cases hop : av_op P mi pc with
      | none => rw [hop] at hstp; cases hstp
      | some q =>
        obtain ⟨ins, len, ix⟩ := q
        rw [hop] at hstp
        simp only at hstp
        have hchk := hAll.2.2.2.2 mi hmi pc ins len ix hop
        rcases av_one_cls hstp with ⟨pc', L', st', h1, c1, s1, rfl, hc1, hs1⟩ | ⟨v, rfl, hi⟩ | ⟨mj, as, rs, rfl, hi, hlen, has⟩ | ⟨k, rfl, rfl, h8⟩
        · -- a plain instruction
          simp only at hr
          have hok : av_ok K cl (mo mi) (av_ini P mi) (av_me P mi).2.1 pc ins len ix = true := by
            cases ins with
            | instanceof k => simp only [av_one] at hstp; split at hstp <;> cases hstp
            | invokestatic k => simp only [av_one] at hstp; split at hstp <;> cases hstp
            | invokevirtual k => simp only [av_one] at hstp; split at hstp <;> cases hstp
            | invokespecial k => simp only [av_one] at hstp; split at hstp <;> cases hstp
            | _ => exact hchk
          have hm := av_rn_mono n d mi pc' L' st' h1 c1 s1 _ hr
          exact sd_one hAll.1 hF (hStr _ _ _ _ _ _ _ _ _ _ _ _ _ _ hF hO2) r hok hstp (Nat.le_trans hm.1 hRm.2.2.1) (Nat.le_trans hm.2 hRm.2.2.2) (fun σ' ls' H' locs' r' => ih d mi pc' L' st' h1 c1 s1 o h' c' s' hr hmi p e S m args below meth cd H' locs' ls' σ0 σ' n0 R hRm hF hO2 hret hlocks htab r')
        · -- an end
          simp only at hr
          cases hr
          have hok : av_ok K cl (mo mi) (av_ini P mi) (av_me P mi).2.1 pc ins len ix = true := by rcases hi with rfl | rfl | rfl <;> exact hchk
          exact sd_ret hF r hret hlocks hi hok hstp
        · -- a call
          simp only at hr
          cases d with
          | zero => simp only at hr; cases hr
          | succ d' =>
            simp only at hr
            have hmj : mj < nm := by
              rcases hi with rfl | rfl | rfl <;> (simp only [av_chk, Bool.and_eq_true, decide_eq_true_eq] at hchk; exact hchk.1.1.1.1)
            cases hcall : av_rn P n d' mj 0 (av_ent P mj as) [] h 0 0 with
            | none => rw [hcall] at hr; cases hr
            | some y =>
              obtain ⟨o1, h1, c1, s1⟩ := y
              rw [hcall] at hr
              have hM := sd_meth hAll ih hmj hcall (σ := σ) hlen (fun v hv => ⟨(has v hv).1, r.2.2.2.2.1 v (has v hv).2⟩)
              have hmt : ∀ E, o1 = .inr E → (av_me P mj).2.2.2.2.2.2.2.2 = true := fun E hE => by
                subst hE
                simp only at hr
                split at hr
                · cases hr
                · next hz => simpa using hz
              have hroom : c + c1 ≤ c' ∧ s + s1 ≤ s' := by
                rcases o1 with v | E
                · simp only at hr
                  have := av_rn_mono n _ mi _ _ _ _ _ _ _ hr
                  exact this
                · simp only at hr
                  split at hr
                  · cases hr
                  · split at hr
                    · cases hr; exact ⟨Nat.le_refl _, Nat.le_refl _⟩
                    · split at hr
                      · cases hr
                      · split at hr
                        · cases hr
                        · split at hr
                          · split at hr
                            · have := av_rn_mono n _ mi _ _ _ _ _ _ _ hr
                              exact this
                            · cases hr
                          · cases hr
              obtain ⟨-, hrs, hrun⟩ := sd_go (I := I) (mi := mi) (p := p) (e := e) (below := below) hAll.2.2.1 hF hO2 r hi hchk hstp (d' := d') (c1 := c1) (s1 := s1) (by constructor <;> (simp only [av_rm]; omega)) hmt ⟨Nat.le_trans hroom.1 hRm.2.2.1, Nat.le_trans hroom.2 hRm.2.2.2⟩ hM
              refine sd_ran hF.2.2.2.1 r hrs hrun (fun v hv => ?_) (fun E hE σ' H' locs' q ce r' hce hcv hcl => ?_)
              · subst hv
                simp only at hr
                intro σ' ls' H' locs' r'
                exact ih (d' + 1) mi (pc + 3) L (v.toList ++ rs) h1 (c + c1) (s + s1) o h' c' s' hr hmi p e S m args below meth cd H' locs' ls' σ0 σ' n0 R hRm hF hO2 hret hlocks htab r'
              · subst hE
                simp only at hr
                split at hr
                · cases hr
                · split at hr
                  · next hz1 hz =>
                    cases hr
                    refine vx_out (fun x hx => ?_) hlocks hce hcv hcl (fun t ht hvm => ⟨rfl, σ', r'.1, r'.2.1, ⟨by rw [ht]; exact r'.2.2.2.2.2.2.1, va_K.moved hvm hF.2.2.2.1, r'.2.2.2.2.2.2.2.1, r'.2.2.2.2.2.1⟩, r'.2.2.2.2.2.2.2.2.F ht⟩) r'.2.2.2.2.2.2.2.2.2.2 (Nat.le_refl _) (Nat.le_refl _)
                    rw [htab, hz] at hx
                    cases hx
                  · split at hr
                    · cases hr
                    · next hEs =>
                      split at hr
                      · cases hr
                      · next t ht =>
                        split at hr
                        · next i len1 ix1 hop1 =>
                          split at hr
                          · next hiL =>
                            refine sd_catch hAll.2.2.1 hAll.2.2.2.1 hF hO2 hmi htab (by simpa using hEs) ht hce hcv hcl ?_
                            have hchk1 := hAll.2.2.2.2 mi hmi t (.astore i) len1 ix1 hop1
                            simp only [av_chk, av_ok, Bool.or_eq_true, Bool.and_eq_true, decide_eq_true_eq] at hchk1
                            have hiL1 : i < (av_me P mi).2.2.1 := by rw [← r'.2.2.1.1]; exact hiL
                            have kk : ∀ ls' : Array Slot, lv_has ls' (av_me P mi).2.2.1 ((i, Value.ref q) :: (av_lv σ' τ L).filter (fun q => !(q.1 == i) && !(q.1 + 1 == i && q.2.category == 2))) → W p l e R S m args below meth cd H' locs' (c + c1) (s + s1) (vx_MQ below (av_Qc cy τ D cl A σ0 n0 o h') (av_Xc cy τ D cl A σ0 n0 o h') args S c' s' A) (F0 m (t + len1) ls' []) := fun ls' hl' =>
                              ih (d' + 1) mi (t + len1) (L.set i none) [] h1 (c + c1) (s + s1) o h' c' s' hr hmi p e S m args below meth cd H' locs' ls' σ0 σ' n0 R hRm hF hO2 hret hlocks htab (r'.drop hl')
                            rcases hchk1 with ⟨rfl, hd⟩ | ⟨⟨rfl, hi4⟩, hd⟩
                            · exact lv_astore hF.1.1 hF.1.2.1 hd r'.2.2.1.2 hiL1 rfl kk
                            · exact lv_astore_n hF.1.1 hF.1.2.1 hd (Nat.mod_eq_of_lt hi4) r'.2.2.1.2 hiL1 rfl kk
                          · cases hr
                        · cases hr
        · -- a throw
          simp only at hr
          cases hr
          simp only [av_chk, Bool.and_eq_true, decide_eq_true_eq] at hchk
          exact sd_thr hAll.2.1 hF hO2 hAll.2.2.1.2.1 hAll.2.2.1.1 hl hlocks (by rw [htab, hchk.2]; rfl) r hchk.1 h8 hRm.2.2.1 hRm.2.2.2
end SM
