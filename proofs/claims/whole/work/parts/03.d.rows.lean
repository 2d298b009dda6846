/-! ===== rows, makings, the JDK's few (partly by program: wip/whole/gen03d.py) ===== -/
theorem mIald_some {lay : List mShp} {M : mMem} {S : List Value} {f : List Value → Option mOut} {o : mOut} (h : mIald lay M S f = some o) : ∃ i r rest kd n v, S = .int i :: .ref r :: rest ∧ mSh lay r = some (kd, n) ∧ mIdx i n = true ∧ f (.int v :: rest) = some o ∧ ((kd = 0 ∧ v = M.1 r i.toNatClampNeg) ∨ (kd = 98 ∧ v = mAb i.toNatClampNeg) ∨ (kd = 97 ∧ v = mBo i.toNatClampNeg)) := by
  unfold mIald at h
  split at h
  next i r rest =>
    split at h
    next kd n hs =>
      split at h
      next hi =>
        split at h
        next h0 => exact ⟨i, r, rest, kd, n, _, rfl, hs, hi, h, Or.inl ⟨h0, rfl⟩⟩
        next =>
          split at h
          next h1 => exact ⟨i, r, rest, kd, n, _, rfl, hs, hi, h, Or.inr (Or.inl ⟨h1, rfl⟩)⟩
          next =>
            split at h
            next h2 => exact ⟨i, r, rest, kd, n, _, rfl, hs, hi, h, Or.inr (Or.inr ⟨h2, rfl⟩)⟩
            next => cases h
      next => cases h
    next => cases h
  next => cases h
theorem mAlen_some {lay : List mShp} {S : List Value} {f : List Value → Option mOut} {o : mOut} (h : mAlen lay S f = some o) : ∃ r rest kd n, S = .ref r :: rest ∧ mSh lay r = some (kd, n) ∧ (kd < 3 ∨ kd = 98 ∨ kd = 97) ∧ f (.int (Int32.ofNat n) :: rest) = some o := by
  unfold mAlen at h
  split at h
  next r rest =>
    split at h
    next kd n hs =>
      split at h
      next hi => exact ⟨r, rest, kd, n, rfl, hs, hi, h⟩
      next => cases h
    next => cases h
  next => cases h
theorem mCald_some {lay : List mShp} {M : mMem} {S : List Value} {f : List Value → Option mOut} {o : mOut} (h : mCald lay M S f = some o) : ∃ i r rest n, S = .int i :: .ref r :: rest ∧ mSh lay r = some (2, n) ∧ mIdx i n = true ∧ f (.int (M.1 r i.toNatClampNeg) :: rest) = some o := by
  unfold mCald at h
  split at h
  next i r rest =>
    split at h
    next kd n hs =>
      split at h
      next hi =>
        obtain ⟨rfl, hi⟩ := hi
        exact ⟨i, r, rest, n, rfl, hs, hi, h⟩
      next => cases h
    next => cases h
  next => cases h
theorem mLald_some {lay : List mShp} {M : mMem} {S : List Value} {f : List Value → Option mOut} {o : mOut} (h : mLald lay M S f = some o) : ∃ i r rest n, S = .int i :: .ref r :: rest ∧ mSh lay r = some (1, n) ∧ mIdx i n = true ∧ f (.long (M.2.1 r i.toNatClampNeg) :: rest) = some o := by
  unfold mLald at h
  split at h
  next i r rest =>
    split at h
    next kd n hs =>
      split at h
      next hi =>
        obtain ⟨rfl, hi⟩ := hi
        exact ⟨i, r, rest, n, rfl, hs, hi, h⟩
      next => cases h
    next => cases h
  next => cases h
theorem mIast_some {lay : List mShp} {M : mMem} {S : List Value} {f : List Value → mMem → Option mOut} {o : mOut} (h : mIast lay M S f = some o) : ∃ x i r rest n, S = .int x :: .int i :: .ref r :: rest ∧ mSh lay r = some (0, n) ∧ mIdx i n = true ∧ f rest (mSetI M r i.toNatClampNeg x) = some o := by
  unfold mIast at h
  split at h
  next x i r rest =>
    split at h
    next kd n hs =>
      split at h
      next hi =>
        obtain ⟨rfl, hi⟩ := hi
        exact ⟨x, i, r, rest, n, rfl, hs, hi, h⟩
      next => cases h
    next => cases h
  next => cases h
theorem mCast_some {lay : List mShp} {M : mMem} {S : List Value} {f : List Value → mMem → Option mOut} {o : mOut} (h : mCast lay M S f = some o) : ∃ x i r rest n, S = .int x :: .int i :: .ref r :: rest ∧ mSh lay r = some (2, n) ∧ mIdx i n = true ∧ f rest (mSetI M r i.toNatClampNeg (vp_nar .char x)) = some o := by
  unfold mCast at h
  split at h
  next x i r rest =>
    split at h
    next kd n hs =>
      split at h
      next hi =>
        obtain ⟨rfl, hi⟩ := hi
        exact ⟨x, i, r, rest, n, rfl, hs, hi, h⟩
      next => cases h
    next => cases h
  next => cases h
theorem mLast_some {lay : List mShp} {M : mMem} {S : List Value} {f : List Value → mMem → Option mOut} {o : mOut} (h : mLast lay M S f = some o) : ∃ x i r rest n, S = .long x :: .int i :: .ref r :: rest ∧ mSh lay r = some (1, n) ∧ mIdx i n = true ∧ f rest (mSetL M r i.toNatClampNeg x) = some o := by
  unfold mLast at h
  split at h
  next x i r rest =>
    split at h
    next kd n hs =>
      split at h
      next hi =>
        obtain ⟨rfl, hi⟩ := hi
        exact ⟨x, i, r, rest, n, rfl, hs, hi, h⟩
      next => cases h
    next => cases h
  next => cases h
section MAR
variable {D : va_G} {cy : Nat → ClassId} {p : Program} {l : Launch} {e : Env} {R : Room} {s : State} {m : MethodId} {args : Array Value} {below : List Frame} {meth : Method} {c : Code} {Q : State → Prop} {A : Nat → Prop} {k t1 t2 n0 s0 : Nat} {ad0 : Nat → Nat}
variable {pc pc' : Nat} {L L' : mLs} {S S' : List Value} {lay lay' : List mShp} {M M' : mMem}
theorem mA_iaload  (X : mCx D cy p R s m args meth c A k t1 t2) (hd : decode (mM k).2.2.1 pc = .ok (.iaload, 1)) (h : mStep k pc (.iaload) 1 L S lay M = some (.inl (pc', L', S', lay', M'))) (hk : mTg D cy p l e R s m args below meth c Q A k t1 t2 n0 s0 ad0 pc' L' S' lay' M') : mTg D cy p l e R s m args below meth c Q A k t1 t2 n0 s0 ad0 pc L S lay M := by
  obtain ⟨hx, hb, -, -, hown, hts, -, -, hK, hN, hst, -⟩ := X
  simp only [mStep] at h
  obtain ⟨i, r, rest, kd, n, v, rfl, hs, hi, h2, hvv⟩ := mIald_some h
  obtain ⟨rfl, rfl, rfl, rfl, rfl⟩ := mGo_some h2
  intro H locs ls ad hv hS
  have kk := hk H locs ls ad hv (mOkS_cons.mpr ⟨trivial, (mOkS_cons.mp (mOkS_cons.mp hS).2).2⟩)
  obtain ⟨hl, hP, hD, hSt, hoL, hoM, hki, hst2, hr⟩ := hv
  rcases mSh_in hki hs with ⟨hk14, q, rfl, hq⟩ | ⟨rfl, rfl, rfl⟩ | ⟨rfl, rfl, rfl⟩
  · rcases hvv with ⟨rfl, rfl⟩ | ⟨h0, -⟩ | ⟨h0, -⟩
    · have he : (mWd cy ad lay M)[q]? = some (ad (q + 3), .inl (cy 0, n, .inl (M.1 (q + 3)))) := by rw [mWd_get, hq]; rfl
      exact va_iald hx hb hK hP q 0 he rfl (mIdx_in hi) hd kk
    · omega
    · omega
  · rcases hvv with ⟨h0, -⟩ | ⟨-, rfl⟩ | ⟨h0, -⟩
    · omega
    · have e1 : mV ad (.ref 1) = .ref t1 := by show Value.ref _ = _; rw [hst2.1]
      show W p l e R s m args below meth c H locs _ _ Q (F0 m pc ls (.int i :: mV ad (.ref 1) :: rest.map (mV ad)))
      rw [e1]
      exact va_ti hx hb hst.2.1 hSt (mIdx_in hi) rfl hd kk
    · omega
  · rcases hvv with ⟨h0, -⟩ | ⟨h0, -⟩ | ⟨-, rfl⟩
    · omega
    · omega
    · have e1 : mV ad (.ref 2) = .ref t2 := by show Value.ref _ = _; rw [hst2.2]
      show W p l e R s m args below meth c H locs _ _ Q (F0 m pc ls (.int i :: mV ad (.ref 2) :: rest.map (mV ad)))
      rw [e1]
      exact va_ti hx hb hst.2.2.2 hSt (mIdx_in hi) rfl hd kk
theorem mA_arraylength  (X : mCx D cy p R s m args meth c A k t1 t2) (hd : decode (mM k).2.2.1 pc = .ok (.arraylength, 1)) (h : mStep k pc (.arraylength) 1 L S lay M = some (.inl (pc', L', S', lay', M'))) (hk : mTg D cy p l e R s m args below meth c Q A k t1 t2 n0 s0 ad0 pc' L' S' lay' M') : mTg D cy p l e R s m args below meth c Q A k t1 t2 n0 s0 ad0 pc L S lay M := by
  obtain ⟨hx, hb, -, -, hown, hts, -, -, hK, hN, hst, -⟩ := X
  simp only [mStep] at h
  obtain ⟨r, rest, kd, n, rfl, hs, hkd, h2⟩ := mAlen_some h
  obtain ⟨rfl, rfl, rfl, rfl, rfl⟩ := mGo_some h2
  intro H locs ls ad hv hS
  have kk := hk H locs ls ad hv (mOkS_cons.mpr ⟨trivial, (mOkS_cons.mp hS).2⟩)
  obtain ⟨hl, hP, hD, hSt, hoL, hoM, hki, hst2, hr⟩ := hv
  rcases mSh_in hki hs with ⟨hk14, q, rfl, hq⟩ | ⟨rfl, rfl, rfl⟩ | ⟨rfl, rfl, rfl⟩
  · rcases (by omega : kd = 0 ∨ kd = 1 ∨ kd = 2) with rfl | rfl | rfl
    · have he : (mWd cy ad lay M)[q]? = some (ad (q + 3), .inl (cy 0, n, .inl (M.1 (q + 3)))) := by rw [mWd_get, hq]; rfl
      exact va_alen hx hb hK hP q 0 he (ty := .int) rfl rfl hd kk
    · have he : (mWd cy ad lay M)[q]? = some (ad (q + 3), .inl (cy 1, n, .inr (.inl (M.2.1 (q + 3))))) := by rw [mWd_get, hq]; rfl
      exact va_alen hx hb hK hP q 1 he (ty := .long) rfl rfl hd kk
    · have he : (mWd cy ad lay M)[q]? = some (ad (q + 3), .inl (cy 2, n, .inl (M.1 (q + 3)))) := by rw [mWd_get, hq]; rfl
      exact va_alen hx hb hK hP q 2 he (ty := .char) rfl rfl hd kk
  · have e1 : mV ad (.ref 1) = .ref t1 := by show Value.ref _ = _; rw [hst2.1]
    show W p l e R s m args below meth c H locs _ _ Q (F0 m pc ls (mV ad (.ref 1) :: rest.map (mV ad)))
    rw [e1]
    exact va_tlen hx hb hst.2.1 hSt rfl hd kk
  · have e1 : mV ad (.ref 2) = .ref t2 := by show Value.ref _ = _; rw [hst2.2]
    show W p l e R s m args below meth c H locs _ _ Q (F0 m pc ls (mV ad (.ref 2) :: rest.map (mV ad)))
    rw [e1]
    exact va_tlen hx hb hst.2.2.2 hSt rfl hd kk
theorem mA_caload  (X : mCx D cy p R s m args meth c A k t1 t2) (hd : decode (mM k).2.2.1 pc = .ok (.caload, 1)) (h : mStep k pc (.caload) 1 L S lay M = some (.inl (pc', L', S', lay', M'))) (hk : mTg D cy p l e R s m args below meth c Q A k t1 t2 n0 s0 ad0 pc' L' S' lay' M') : mTg D cy p l e R s m args below meth c Q A k t1 t2 n0 s0 ad0 pc L S lay M := by
  obtain ⟨hx, hb, -, -, hown, hts, -, -, hK, hN, hst, -⟩ := X
  simp only [mStep] at h
  obtain ⟨i, r, rest, n, rfl, hs, hi, h2⟩ := mCald_some h
  obtain ⟨rfl, rfl, rfl, rfl, rfl⟩ := mGo_some h2
  intro H locs ls ad hv hS
  have kk := hk H locs ls ad hv (mOkS_cons.mpr ⟨trivial, (mOkS_cons.mp (mOkS_cons.mp hS).2).2⟩)
  obtain ⟨hl, hP, hD, hSt, hoL, hoM, hki, hst2, hr⟩ := hv
  rcases mSh_in hki hs with ⟨hk14, q, rfl, hq⟩ | ⟨-, h0, -⟩ | ⟨-, h0, -⟩
  · have he : (mWd cy ad lay M)[q]? = some (ad (q + 3), .inl (cy 2, n, .inl (M.1 (q + 3)))) := by rw [mWd_get, hq]; rfl
    exact va_cald hx hb hK hP q 2 he rfl (mIdx_in hi) hd kk
  · omega
  · omega
theorem mA_laload  (X : mCx D cy p R s m args meth c A k t1 t2) (hd : decode (mM k).2.2.1 pc = .ok (.laload, 1)) (h : mStep k pc (.laload) 1 L S lay M = some (.inl (pc', L', S', lay', M'))) (hk : mTg D cy p l e R s m args below meth c Q A k t1 t2 n0 s0 ad0 pc' L' S' lay' M') : mTg D cy p l e R s m args below meth c Q A k t1 t2 n0 s0 ad0 pc L S lay M := by
  obtain ⟨hx, hb, -, -, hown, hts, -, -, hK, hN, hst, -⟩ := X
  simp only [mStep] at h
  obtain ⟨i, r, rest, n, rfl, hs, hi, h2⟩ := mLald_some h
  obtain ⟨rfl, rfl, rfl, rfl, rfl⟩ := mGo_some h2
  intro H locs ls ad hv hS
  have kk := hk H locs ls ad hv (mOkS_cons.mpr ⟨trivial, (mOkS_cons.mp (mOkS_cons.mp hS).2).2⟩)
  obtain ⟨hl, hP, hD, hSt, hoL, hoM, hki, hst2, hr⟩ := hv
  rcases mSh_in hki hs with ⟨hk14, q, rfl, hq⟩ | ⟨-, h0, -⟩ | ⟨-, h0, -⟩
  · have he : (mWd cy ad lay M)[q]? = some (ad (q + 3), .inl (cy 1, n, .inr (.inl (M.2.1 (q + 3))))) := by rw [mWd_get, hq]; rfl
    exact va_lald hx hb hK hP q 1 he rfl (mIdx_in hi) hd kk
  · omega
  · omega
theorem mA_iastore  (X : mCx D cy p R s m args meth c A k t1 t2) (hd : decode (mM k).2.2.1 pc = .ok (.iastore, 1)) (h : mStep k pc (.iastore) 1 L S lay M = some (.inl (pc', L', S', lay', M'))) (hk : mTg D cy p l e R s m args below meth c Q A k t1 t2 n0 s0 ad0 pc' L' S' lay' M') : mTg D cy p l e R s m args below meth c Q A k t1 t2 n0 s0 ad0 pc L S lay M := by
  obtain ⟨hx, hb, -, -, hown, hts, -, -, hK, hN, hst, -⟩ := X
  simp only [mStep] at h
  obtain ⟨x, i, r, rest, n, rfl, hs, hi, h2⟩ := mIast_some h
  obtain ⟨rfl, rfl, rfl, rfl, rfl⟩ := mGo_some h2
  intro H locs ls ad hv hS
  have hS3 := (mOkS_cons.mp (mOkS_cons.mp (mOkS_cons.mp hS).2).2).2
  obtain ⟨hl, hP, hD, hSt, hoL, hoM, hki, hr⟩ := hv
  rcases mSh_in hki hs with ⟨hk14, q, rfl, hq⟩ | ⟨-, h0, -⟩ | ⟨-, h0, -⟩
  · have he : (mWd cy ad lay M)[q]? = some (ad (q + 3), .inl (cy 0, n, .inl (M.1 (q + 3)))) := by rw [mWd_get, hq]; rfl
    have hset : (mWd cy ad lay M).set q (ad (q + 3), .inl (cy 0, n, .inl (upd (M.1 (q + 3)) i.toNatClampNeg x))) = mWd cy ad lay (mSetI M (q + 3) i.toNatClampNeg x) := by
      refine mWd_set hoM hq (fun r hr => ?_) ?_
      · exact ⟨by funext b; simp [mSetI, hr], by funext b; simp [mSetI, hr], by funext b; simp [mSetI]⟩
      · simp only [mCell]
        congr 2
        first | (refine congrArg Sum.inl (?_ : _ = _); done) | skip
        all_goals (try congr 1)
        all_goals (try congr 1)
        all_goals (try refine congrArg Sum.inl ?_)
        all_goals (funext b; simp [mSetI, upd, vp_updL])
    refine va_iast hx hb hK hP hD hSt q 0 he rfl (mIdx_in hi) hd (fun H1 locs1 p1 p2 p3 => ?_)
    rw [hset] at p1 p2
    exact hk H1 locs1 ls ad ⟨hl, p1, p2, p3, hoL, hoM.setI _ _ _, hki, hr⟩ hS3
  · omega
  · omega
theorem mA_castore  (X : mCx D cy p R s m args meth c A k t1 t2) (hd : decode (mM k).2.2.1 pc = .ok (.castore, 1)) (h : mStep k pc (.castore) 1 L S lay M = some (.inl (pc', L', S', lay', M'))) (hk : mTg D cy p l e R s m args below meth c Q A k t1 t2 n0 s0 ad0 pc' L' S' lay' M') : mTg D cy p l e R s m args below meth c Q A k t1 t2 n0 s0 ad0 pc L S lay M := by
  obtain ⟨hx, hb, -, -, hown, hts, -, -, hK, hN, hst, -⟩ := X
  simp only [mStep] at h
  obtain ⟨x, i, r, rest, n, rfl, hs, hi, h2⟩ := mCast_some h
  obtain ⟨rfl, rfl, rfl, rfl, rfl⟩ := mGo_some h2
  intro H locs ls ad hv hS
  have hS3 := (mOkS_cons.mp (mOkS_cons.mp (mOkS_cons.mp hS).2).2).2
  obtain ⟨hl, hP, hD, hSt, hoL, hoM, hki, hr⟩ := hv
  rcases mSh_in hki hs with ⟨hk14, q, rfl, hq⟩ | ⟨-, h0, -⟩ | ⟨-, h0, -⟩
  · have he : (mWd cy ad lay M)[q]? = some (ad (q + 3), .inl (cy 2, n, .inl (M.1 (q + 3)))) := by rw [mWd_get, hq]; rfl
    have hset : (mWd cy ad lay M).set q (ad (q + 3), .inl (cy 2, n, .inl (upd (M.1 (q + 3)) i.toNatClampNeg (vp_nar .char x)))) = mWd cy ad lay (mSetI M (q + 3) i.toNatClampNeg (vp_nar .char x)) := by
      refine mWd_set hoM hq (fun r hr => ?_) ?_
      · exact ⟨by funext b; simp [mSetI, hr], by funext b; simp [mSetI, hr], by funext b; simp [mSetI]⟩
      · simp only [mCell]
        congr 2
        first | (refine congrArg Sum.inl (?_ : _ = _); done) | skip
        all_goals (try congr 1)
        all_goals (try congr 1)
        all_goals (try refine congrArg Sum.inl ?_)
        all_goals (funext b; simp [mSetI, upd, vp_updL])
    refine va_cast hx hb hK hP hD hSt q 2 he rfl (mIdx_in hi) hd (fun H1 locs1 p1 p2 p3 => ?_)
    rw [hset] at p1 p2
    exact hk H1 locs1 ls ad ⟨hl, p1, p2, p3, hoL, hoM.setI _ _ _, hki, hr⟩ hS3
  · omega
  · omega
theorem mA_lastore  (X : mCx D cy p R s m args meth c A k t1 t2) (hd : decode (mM k).2.2.1 pc = .ok (.lastore, 1)) (h : mStep k pc (.lastore) 1 L S lay M = some (.inl (pc', L', S', lay', M'))) (hk : mTg D cy p l e R s m args below meth c Q A k t1 t2 n0 s0 ad0 pc' L' S' lay' M') : mTg D cy p l e R s m args below meth c Q A k t1 t2 n0 s0 ad0 pc L S lay M := by
  obtain ⟨hx, hb, -, -, hown, hts, -, -, hK, hN, hst, -⟩ := X
  simp only [mStep] at h
  obtain ⟨x, i, r, rest, n, rfl, hs, hi, h2⟩ := mLast_some h
  obtain ⟨rfl, rfl, rfl, rfl, rfl⟩ := mGo_some h2
  intro H locs ls ad hv hS
  have hS3 := (mOkS_cons.mp (mOkS_cons.mp (mOkS_cons.mp hS).2).2).2
  obtain ⟨hl, hP, hD, hSt, hoL, hoM, hki, hr⟩ := hv
  rcases mSh_in hki hs with ⟨hk14, q, rfl, hq⟩ | ⟨-, h0, -⟩ | ⟨-, h0, -⟩
  · have he : (mWd cy ad lay M)[q]? = some (ad (q + 3), .inl (cy 1, n, .inr (.inl (M.2.1 (q + 3))))) := by rw [mWd_get, hq]; rfl
    have hset : (mWd cy ad lay M).set q (ad (q + 3), .inl (cy 1, n, .inr (.inl (vp_updL (M.2.1 (q + 3)) i.toNatClampNeg x)))) = mWd cy ad lay (mSetL M (q + 3) i.toNatClampNeg x) := by
      refine mWd_set hoM hq (fun r hr => ?_) ?_
      · exact ⟨by funext b; simp [mSetL, hr], by funext b; simp [mSetL, hr], by funext b; simp [mSetL]⟩
      · simp only [mCell]
        congr 2
        first | (refine congrArg Sum.inl (?_ : _ = _); done) | skip
        all_goals (try congr 1)
        all_goals (try congr 1)
        all_goals (try refine congrArg Sum.inl ?_)
        all_goals (funext b; simp [mSetL, upd, vp_updL])
    refine va_last hx hb hK hP hD hSt q 1 he rfl (mIdx_in hi) hd (fun H1 locs1 p1 p2 p3 => ?_)
    rw [hset] at p1 p2
    exact hk H1 locs1 ls ad ⟨hl, p1, p2, p3, hoL, hoM.setL _ _ _, hki, hr⟩ hS3
  · omega
  · omega
end MAR
