/-! ===== the small machine's runs are the JVM's: the main theorem ===== -/
theorem mRun_mono : ∀ (n d k pc : Nat) (L : mLs) (S : List Value) (lay : List mShp) (M : mMem) (v : Option Value) (lay' : List mShp) (M' : mMem), mRun n d k pc L S lay M = some (v, lay', M') → lay.length ≤ lay'.length ∧ mSum lay ≤ mSum lay'
  | 0, d, k, pc, L, S, lay, M, v, lay', M', h => by simp [mRun] at h
  | n + 1, d, k, pc, L, S, lay, M, v, lay', M', h => by
    unfold mRun at h
    split at h
    · cases h
    · split at h
      · cases h
      · next hs =>
        have h1 := mRun_mono n _ _ _ _ _ _ _ _ _ _ h
        rcases mStep_lay hs with rfl | ⟨x, rfl⟩
        · exact h1
        · rw [List.length_append, mSum_app] at h1
          omega
      · cases h
        exact ⟨Nat.le_refl _, Nat.le_refl _⟩
      · split at h
        · cases h
        · split at h
          · split at h
            · next hr =>
              have h1 := mRun_mono n _ _ _ _ _ _ _ _ _ _ hr
              have h2 := mRun_mono n _ _ _ _ _ _ _ _ _ _ h
              omega
            · cases h
          · cases h
theorem mEntry_ok {n k : Nat} {vs : List Value} (h : mOkS n vs) : mOkL n (mEntry k vs) := by
  intro i v hv
  simp only [mEntry] at hv
  have hm := List.mem_of_getElem? hv
  rcases List.mem_append.mp hm with hm | hm
  · obtain ⟨w, hw, hm⟩ := List.mem_flatMap.mp hm
    split at hm
    · rcases List.mem_cons.mp hm with hm | hm
      · cases hm; exact h v hw
      · have := List.mem_singleton.mp hm; cases this
    · have := List.mem_singleton.mp hm
      cases this
      exact h v hw
  · have := List.eq_of_mem_replicate hm
    cases this
/-- a contract out of what the body does -/
theorem mMet {l : Launch} {D : va_G} {cy : Nat → ClassId} {t1 t2 d j mc ms sz : Nat} {as : List Value} {lay lay' : List mShp} {M M' : mMem} {v : Option Value} {ad : Nat → Nat} (hj : j < 231) (hmc : mc = lay'.length - lay.length) (hms : ms = mSum lay' - mSum lay) (hlen : (mArgs as).length ≤ (mM j).2.2.2.1)
    (hst : ad 1 = t1 ∧ ad 2 = t2) (hoM : mOkM lay.length M) (hki : mKinds lay) (hoS : mOkS lay.length as)
    (body : ∀ {p : Program} {e : Env} {s : State} {m : MethodId} {args : Array Value} {below : List Frame} {meth : Method} {c : Code} {A : Nat → Prop}, mCx D cy p (mRm d mc ms) s m args meth c A j t1 t2 → mTg D cy p l e (mRm d mc ms) s m args below meth c (MQ below (mQ D cy t1 t2 lay.length ad v lay' M' A) args s mc ms A) A j t1 t2 lay.length (mSum lay) ad 0 (mEntry (mM j).2.2.2.1 as) [] lay M) :
    Met l (mM j).2.1 (mWs j) (mRm d mc ms) (va_Pc (as.map (mV ad)) (mPre D cy t1 t2 sz (mWd cy ad lay M))) (mQ D cy t1 t2 lay.length ad v lay' M' (va_A (mWd cy ad lay M) sz)) mc ms (va_A (mWd cy ad lay M) sz) := by
  obtain ⟨hpl, hcls, hcode, hini, hdd, hstat, hinst, hsel, hnm, hmL⟩ := mM_ok hj
  refine Met.ofW (cc := (mM j).2.2.1) (maxL := (mM j).2.2.2.1) (ret := (mM j).2.2.2.2.1) hpl rfl ?_
  intro p e s m args below meth c s₁ B hml hv
  obtain ⟨rfl, hsz, hP, hK, hD0, hN, hsc⟩ := hv
  subst hsz
  have hts := atoms_spec (ws := mWs j) B.pre
  have hD : va_D (va_A (mWd cy ad lay M) s.heap.size) (mWd cy ad lay M) := hD0.self
  have X : mCx D cy p (mRm d mc ms) s m (as.map (mV ad)).toArray meth c (va_A (mWd cy ad lay M) s.heap.size) j t1 t2 :=
    ⟨B.exec, B.bytes, B.returns, hml, by rw [← hcls]; exact findClass_of_methodNamed B.named, fun w hw => hts w (List.mem_cons_of_mem _ hw), B.notSynchronized, fun h => ((name_of_methodNamed B.named B.method).1).trans (hnm h), hK, hN, hsc, fun q h => Or.inr h, ⟨Nat.succ_le_succ (Nat.zero_le _), by show 60 ≤ 40 * d + 60; omega⟩⟩
  have hl := lv_entry (as.map (mV ad)) (n := (mM j).2.2.2.1) (by rw [mArgs_len]; exact hlen)
  rw [lg_entry_eq]
  generalize (lg_sl (as.map (mV ad)) ++ List.replicate ((mM j).2.2.2.1 - (lg_sl (as.map (mV ad))).length) Slot.unset).toArray = ls at hl ⊢
  have kk := body (e := e) (below := below) X s.heap [] ls ad ⟨mEntry_LV hlen hl, hP, hD, va_S.rf, mEntry_ok hoS, hoM, hki, hst, ⟨Nat.le_refl _, Nat.le_refl _⟩, fun _ _ => rfl⟩ (by intro v hv; cases hv)
  rw [Nat.sub_self, Nat.sub_self] at kk
  exact kk
theorem mSound (l : Launch) (D : va_G) (cy : Nat → ClassId) (t1 t2 : Nat) : ∀ (n d k pc : Nat) (L : mLs) (S : List Value) (lay : List mShp) (M : mMem) (v : Option Value) (lay' : List mShp) (M' : mMem), mRun n d k pc L S lay M = some (v, lay', M') →
    ∀ {p : Program} {e : Env} {s : State} {m : MethodId} {args : Array Value} {below : List Frame} {meth : Method} {c : Code} {A : Nat → Prop} {n0 s0 : Nat} {ad0 : Nat → Nat} {mc ms : Nat}, mc = lay'.length - n0 → ms = mSum lay' - s0 → mCx D cy p (mRm d mc ms) s m args meth c A k t1 t2 →
      mTg D cy p l e (mRm d mc ms) s m args below meth c (MQ below (mQ D cy t1 t2 n0 ad0 v lay' M' A) args s mc ms A) A k t1 t2 n0 s0 ad0 pc L S lay M := by
  intro n
  induction n with
  | zero => intro d k pc L S lay M v lay' M' h; simp [mRun] at h
  | succ n ih =>
    intro d k pc L S lay M v lay' M' h p e s m args below meth c A n0 s0 ad0 mc ms hmc hms X
    unfold mRun at h
    split at h
    · cases h
    next i len hf =>
      split at h
      · cases h
      next pc2 L2 S2 lay2 M2 hs =>
        have hm := mRun_mono _ _ _ _ _ _ _ _ _ _ _ h
        exact mA X hf hs ⟨by show _ ≤ mc; omega, by show _ ≤ ms; omega⟩ (ih _ _ _ _ _ _ _ _ _ _ h hmc hms X)
      next v2 hs =>
        cases h
        subst hmc
        subst hms
        exact mR X hf hs
      next j as rest hs =>
        cases d with
        | zero => cases h
        | succ d =>
          dsimp only at h
          split at h
          next hlen =>
            split at h
            next v1 lay1 M1 hr =>
              have hm1 := mRun_mono _ _ _ _ _ _ _ _ _ _ _ hr
              have hm2 := mRun_mono _ _ _ _ _ _ _ _ _ _ _ h
              have hj : j < 231 := by
                obtain ⟨kd, cp, hinv, -⟩ := mStep_call hs
                obtain ⟨nst, j', a, z, as', rest', hz, hout, -⟩ := mInv_some hinv
                cases hout
                exact (mMt_ok _ _ (mFindR_mem hz)).1
              refine mC (lay' := lay1) (M' := M1) (v := v1) X hf hs rfl rfl hm1 ⟨by omega, by omega⟩ (fun ad sz hst hoM hki hoS => ?_) (ih _ _ _ _ _ _ _ _ _ _ h hmc hms X)
              exact mMet hj rfl rfl hlen hst hoM hki hoS (fun X2 => ih _ _ _ _ _ _ _ _ _ _ hr rfl rfl X2)
            next => cases h
          next => cases h
/-- a method's contract out of a run -/
theorem mContract (l : Launch) {D : va_G} {cy : Nat → ClassId} {t1 t2 n d j sz : Nat} {as : List Value} {lay lay' : List mShp} {M M' : mMem} {v : Option Value} (hj : j < 231) (h : mRun n d j 0 (mEntry (mM j).2.2.2.1 as) [] lay M = some (v, lay', M')) (hlen : (mArgs as).length ≤ (mM j).2.2.2.1) {ad : Nat → Nat}
    (hst : ad 1 = t1 ∧ ad 2 = t2) (hoM : mOkM lay.length M) (hki : mKinds lay) (hoS : mOkS lay.length as) :
    Met l (mM j).2.1 (mWs j) (mRm d (lay'.length - lay.length) (mSum lay' - mSum lay)) (va_Pc (as.map (mV ad)) (mPre D cy t1 t2 sz (mWd cy ad lay M))) (mQ D cy t1 t2 lay.length ad v lay' M' (va_A (mWd cy ad lay M) sz)) (lay'.length - lay.length) (mSum lay' - mSum lay) (va_A (mWd cy ad lay M) sz) :=
  mMet hj rfl rfl hlen hst hoM hki hoS (fun X2 => mSound l D cy t1 t2 _ _ _ _ _ _ _ _ _ _ _ h rfl rfl X2)
