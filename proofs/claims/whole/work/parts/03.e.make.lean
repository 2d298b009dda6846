/-! ===== makings, the JDK's few, ends ===== -/
theorem mNewa_some {t : ArrayType} {lay : List mShp} {M : mMem} {S : List Value} {f : List Value → List mShp → mMem → Option mOut} {o : mOut} (h : mNewa t lay M S f = some o) : ∃ n rest kd, S = .int n :: rest ∧ 0 ≤ n.toInt ∧ n.toInt ≤ 100000 ∧ ((t = .int ∧ kd = 0) ∨ (t = .long ∧ kd = 1) ∨ (t = .char ∧ kd = 2)) ∧ f (.ref (lay.length + 3) :: rest) (lay ++ [(kd, n.toNatClampNeg)]) (mNew M (lay.length + 3)) = some o := by
  unfold mNewa at h
  split at h
  next n rest =>
    split at h
    next hn =>
      split at h
      · exact ⟨n, rest, 0, rfl, hn.1, hn.2, Or.inl ⟨rfl, rfl⟩, h⟩
      · exact ⟨n, rest, 1, rfl, hn.1, hn.2, Or.inr (Or.inl ⟨rfl, rfl⟩), h⟩
      · exact ⟨n, rest, 2, rfl, hn.1, hn.2, Or.inr (Or.inr ⟨rfl, rfl⟩), h⟩
      · cases h
    next => cases h
  next => cases h
theorem mNewO_some {o cp : Nat} {lay : List mShp} {M : mMem} {S : List Value} {f : List Value → List mShp → mMem → Option mOut} {out : mOut} (h : mNewO o cp lay M S f = some out) : ∃ ci a b z, mFindR (mCs o) cp = some (ci, a, b, z) ∧ f (.ref (lay.length + 3) :: S) (lay ++ [(ci + 3, (mCl ci).2.2)]) (mNew M (lay.length + 3)) = some out := by
  unfold mNewO at h
  split at h
  next ci a b z hz => exact ⟨ci, a, b, z, hz, h⟩
  next => cases h
theorem mCopy_some {lay : List mShp} {M : mMem} {S : List Value} {f : List Value → mMem → Option mOut} {o : mOut} (h : mCopy lay M S f = some o) : ∃ n dp r1 sp r0 rest kd n0 n1 M', S = .int n :: .int dp :: .ref r1 :: .int sp :: .ref r0 :: rest ∧ mSh lay r0 = some (kd, n0) ∧ mSh lay r1 = some (kd, n1) ∧ (0 ≤ n.toInt ∧ 0 ≤ dp.toInt ∧ 0 ≤ sp.toInt ∧ sp.toNatClampNeg + n.toNatClampNeg ≤ n0 ∧ dp.toNatClampNeg + n.toNatClampNeg ≤ n1 ∧ mCat rest ≤ 8) ∧ f rest M' = some o ∧ ((kd = 0 ∧ M' = mCpyI M r0 r1 sp.toNatClampNeg dp.toNatClampNeg n.toNatClampNeg) ∨ (kd = 1 ∧ M' = mCpyL M r0 r1 sp.toNatClampNeg dp.toNatClampNeg n.toNatClampNeg)) := by
  unfold mCopy at h
  split at h
  next n dp r1 sp r0 rest =>
    split at h
    next k0 n0 k1 n1 h0 h1 =>
      split at h
      next hc =>
        split at h
        next hk =>
          obtain ⟨rfl, rfl⟩ := hk
          exact ⟨n, dp, r1, sp, r0, rest, 0, n0, n1, _, rfl, h0, h1, hc, h, Or.inl ⟨rfl, rfl⟩⟩
        next =>
          split at h
          next hk =>
            obtain ⟨rfl, rfl⟩ := hk
            exact ⟨n, dp, r1, sp, r0, rest, 1, n0, n1, _, rfl, h0, h1, hc, h, Or.inr ⟨rfl, rfl⟩⟩
          next => cases h
      next => cases h
    next => cases h
  next => cases h
theorem i32_nneg {n : Int32} (h : 0 ≤ n.toInt) : ¬ n < 0 := by
  rw [Int32.lt_iff_toInt_lt, Int32.toInt_zero]; omega
theorem mDef {t : FieldType} {ad : Nat → Nat} {M : mMem} {r r2 j : Nat} (h : mTk t = true) (hr : r2 = r) : defaultValue t = mFV t ad (mNew M r) r2 j := by
  subst hr
  unfold mTk at h
  split at h <;> first | (simp [mFV, mNew, defaultValue, mRf]; done) | cases h
section MMK
variable {D : va_G} {cy : Nat → ClassId} {p : Program} {l : Launch} {e : Env} {R : Room} {s : State} {m : MethodId} {args : Array Value} {below : List Frame} {meth : Method} {c : Code} {Q : State → Prop} {A : Nat → Prop} {k t1 t2 n0 s0 : Nat} {ad0 : Nat → Nat}
variable {pc pc' : Nat} {L L' : mLs} {S S' : List Value} {lay lay' : List mShp} {M M' : mMem}
/-- what holds behind a making -/
theorem mSv_new {H H1 : Heap} {locs : List Loc} {ls : Array Slot} {ad : Nat → Nat} (hv : mSv D cy s A k t1 t2 n0 s0 ad0 H locs ls ad L lay M) {q : Nat} {x : mShp} {ce : va_E} (hx : x.1 < 14) (he : mCell cy (fun r => if r = lay.length + 3 then q else ad r) (mNew M (lay.length + 3)) (lay.length + 3) x = ce) (h1 : va_P D vwCl (mWd cy ad lay M ++ [(q, ce)]) H1) (h2 : va_D A (mWd cy ad lay M ++ [(q, ce)])) (h3 : va_S A s.heap H1 locs) : mSv D cy s A k t1 t2 n0 s0 ad0 H1 locs ls (fun r => if r = lay.length + 3 then q else ad r) L (lay ++ [x]) (mNew M (lay.length + 3)) := by
  obtain ⟨hl, hP, hD, hSt, hoL, hoM, hki, hst2, hn, hr⟩ := hv
  have hn2 : ∀ r, r < lay.length + 3 → (fun r => if r = lay.length + 3 then q else ad r) r = ad r := fun r hr => if_neg (by omega)
  have hw := mWd_new (cy := cy) (ad := ad) (ad' := fun r => if r = lay.length + 3 then q else ad r) (M' := mNew M (lay.length + 3)) (x := x) (q := q) hoM (if_pos rfl) hn2 (fun r hr => by
    have : r ≠ lay.length + 3 := by omega
    exact ⟨by funext b; simp [mNew, this], by funext b; simp [mNew, this], by funext b; simp [mNew, this]⟩) he
  rw [hw] at h1 h2
  refine ⟨hl.at hoL hn2, h1, h2, h3, ?_, ?_, ?_, ⟨?_, ?_⟩, ⟨?_, ?_⟩, ?_⟩
  · rw [List.length_append]; exact hoL.mono (by omega)
  · rw [List.length_append]; exact hoM.new _
  · intro y hy
    rcases List.mem_append.mp hy with h | h
    · exact hki y h
    · rw [List.mem_singleton.mp h]; exact hx
  · rw [← hst2.1]; exact if_neg (by omega)
  · rw [← hst2.2]; exact if_neg (by omega)
  · rw [List.length_append]; omega
  · rw [mSum_app]; omega
  · intro r h; rw [← hr r h]; exact if_neg (by omega)
theorem mA_newarray {t : ArrayType} (X : mCx D cy p R s m args meth c A k t1 t2) (hd : decode (mM k).2.2.1 pc = .ok (.newarray t, 2)) (h : mStep k pc (.newarray t) 2 L S lay M = some (.inl (pc', L', S', lay', M'))) (hrm : lay'.length - n0 ≤ R.cells ∧ mSum lay' - s0 ≤ R.slots) (hk : mTg D cy p l e R s m args below meth c Q A k t1 t2 n0 s0 ad0 pc' L' S' lay' M') : mTg D cy p l e R s m args below meth c Q A k t1 t2 n0 s0 ad0 pc L S lay M := by
  obtain ⟨hx, hb, -, -, hown, hts, -, -, hK, hN, hst, hA, -⟩ := X
  simp only [mStep] at h
  obtain ⟨n, rest, kd, rfl, hn0, hn1, hkd, h2⟩ := mNewa_some h
  obtain ⟨rfl, rfl, rfl, rfl, rfl⟩ := mGo_some h2
  intro H locs ls ad hv hS
  have hv0 := hv
  obtain ⟨hl, hP, hD, hSt, hoL, hoM, hki, hst2, hn, hr⟩ := hv
  have hlen : (lay ++ [(kd, n.toNatClampNeg)]).length = lay.length + 1 := by simp
  have hsum : mSum (lay ++ [(kd, n.toNatClampNeg)]) = mSum lay + n.toNatClampNeg := mSum_app _ _
  have hc1 : lay.length - n0 + 1 ≤ R.cells := by omega
  have hc2 : mSum lay - s0 + n.toNatClampNeg ≤ R.slots := by omega
  have hnn : n.toNatClampNeg ≤ 100000 := by
    have : n.toNatClampNeg = n.toInt.toNat := rfl
    omega
  have hgo : ∀ (q : Nat) (H1 : Heap) (ce : va_E), va_P D vwCl (mWd cy ad lay M ++ [(q, ce)]) H1 → va_D A (mWd cy ad lay M ++ [(q, ce)]) → va_S A s.heap H1 locs → mCell cy (fun r => if r = lay.length + 3 then q else ad r) (mNew M (lay.length + 3)) (lay.length + 3) (kd, n.toNatClampNeg) = ce → W p l e R s m args below meth c H1 locs (lay.length - n0 + 1) (mSum lay - s0 + n.toNatClampNeg) Q (F0 m (pc + 2) ls (.ref q :: rest.map (mV ad))) := by
    intro q H1 ce p1 p2 p3 p4
    have hv2 := mSv_new hv0 (by show kd < 14; omega) p4 p1 p2 p3
    have kk := hk H1 locs ls _ hv2 (mOkS_cons.mpr ⟨by rw [hlen]; exact Nat.lt_succ_self _, by rw [hlen]; exact ((mOkS_cons.mp hS).2).mono (Nat.le_succ _)⟩)
    rw [hlen, hsum] at kk
    have e1 : (Value.ref (lay.length + 3) :: rest).map (mV (fun r => if r = lay.length + 3 then q else ad r)) = .ref q :: rest.map (mV ad) := by
      rw [List.map_cons, (mOkS_cons.mp hS).2.at (fun r (hr : r < lay.length + 3) => (if_neg (by omega) : (if r = lay.length + 3 then q else ad r) = ad r))]
      congr 1
      show Value.ref (if lay.length + 3 = lay.length + 3 then q else _) = _
      rw [if_pos rfl]
    rw [e1] at kk
    refine W.cs ?_ ?_ kk
    · omega
    · omega
  have hcls : ∀ (cA : ClassId) (j : Nat) (ty : FieldType), (mTys cy)[j]? = some (cy j, ty) → (∀ C, ty ≠ .object C) → va_K D vwCl (mTys cy ++ [(cA, ty)]) s → cA = cy j := by
    intro cA j ty hj hty hK2
    have a1 := (hK.2 j _ hj).2
    have a2 := (hK2.2 3 (cA, ty) rfl).2
    unfold va_RA at a1 a2
    cases ty with
    | object C => exact absurd rfl (hty C)
    | _ => exact Option.some.inj (a2.symm.trans a1)
  rcases hkd with ⟨rfl, rfl⟩ | ⟨rfl, rfl⟩ | ⟨rfl, rfl⟩
  · refine va_newa (atype := .int) (a0 := (n.toNatClampNeg, .inl fun _ => 0)) (ty := .int) hx hb (hts _ mw_arr.1) rfl hK hP hD hSt hA (fun _ => rfl) (i32_nneg hn0) rfl (by show _ * 4 ≤ _; omega) hc1 hc2 hd (fun q cA H1 k1 p1 p2 p3 => ?_)
    have := hcls cA 0 .int rfl (fun _ h => by cases h) k1
    subst this
    exact hgo q H1 _ p1 p2 p3 (by show Sum.inl _ = _; congr 3; simp [mNew])
  · refine va_newa (atype := .long) (a0 := (n.toNatClampNeg, .inr (.inl fun _ => 0))) (ty := .long) hx hb (hts _ mw_arr.2.1) rfl hK hP hD hSt hA (fun _ => rfl) (i32_nneg hn0) rfl (by show _ * 8 ≤ _; omega) hc1 hc2 hd (fun q cA H1 k1 p1 p2 p3 => ?_)
    have := hcls cA 1 .long rfl (fun _ h => by cases h) k1
    subst this
    exact hgo q H1 _ p1 p2 p3 (by show Sum.inl _ = _; congr 4; simp [mNew])
  · refine va_newa (atype := .char) (a0 := (n.toNatClampNeg, .inl fun _ => 0)) (ty := .char) hx hb (hts _ mw_arr.2.2) rfl hK hP hD hSt hA (fun _ => rfl) (i32_nneg hn0) rfl (by show _ * 2 ≤ _; omega) hc1 hc2 hd (fun q cA H1 k1 p1 p2 p3 => ?_)
    have := hcls cA 2 .char rfl (fun _ h => by cases h) k1
    subst this
    exact hgo q H1 _ p1 p2 p3 (by show Sum.inl _ = _; congr 3; simp [mNew])
theorem mA_new {cp : Nat} (X : mCx D cy p R s m args meth c A k t1 t2) (hd : decode (mM k).2.2.1 pc = .ok (.new cp, 3)) (h : mStep k pc (.new cp) 3 L S lay M = some (.inl (pc', L', S', lay', M'))) (hrm : lay'.length - n0 ≤ R.cells ∧ mSum lay' - s0 ≤ R.slots) (hk : mTg D cy p l e R s m args below meth c Q A k t1 t2 n0 s0 ad0 pc' L' S' lay' M') : mTg D cy p l e R s m args below meth c Q A k t1 t2 n0 s0 ad0 pc L S lay M := by
  obtain ⟨hx, hb, -, -, hown, hts, -, -, hK, hN, hst, hA, -⟩ := X
  simp only [mStep] at h
  obtain ⟨ci, a, b, z, hz, h2⟩ := mNewO_some h
  obtain ⟨rfl, rfl, rfl, rfl, rfl⟩ := mGo_some h2
  intro H locs ls ad hv hS
  have hv0 := hv
  obtain ⟨hl, hP, hD, hSt, hoL, hoM, hki, hst2, hn, hr⟩ := hv
  obtain ⟨hci, hcl⟩ := mCs_ok _ _ (mFindR_mem hz)
  dsimp only at hci hcl
  have hlen : (lay ++ [(ci + 3, (mCl ci).2.2)]).length = lay.length + 1 := by simp
  have hsum : mSum (lay ++ [(ci + 3, (mCl ci).2.2)]) = mSum lay + (mCl ci).2.2 := mSum_app _ _
  have hc1 : lay.length - n0 + 1 ≤ R.cells := by omega
  have hc2 : mSum lay - s0 + (mCl ci).2.2 ≤ R.slots := by omega
  refine va_new (D := D) (ci := ci) (fs := (List.range (mCl ci).2.2).map fun j => mFV (mTy ci j) ad (mNew M (lay.length + 3)) (lay.length + 3) j) (C := (mCl ci).1) (T := (mCl ci).2.1) (N := (mCl ci).2.2) hx hb hts (mCl_ws hci) (mTy ci) (mCl_ty hci) hown (hts _ hcl) (hts _ (mw_ins ci hci).1) (hts _ (mw_ins ci hci).2) hK hP hD hSt hA (mCl_at hci) (fun j hj => ?_) hc1 hc2 hd (fun q H1 p1 p2 p3 => ?_)
  · rw [mDef (ad := ad) (M := M) (r := lay.length + 3) (r2 := lay.length + 3) (j := j) (mCl_tk hci j hj) rfl]
    simp [vp_V, hj]
  · have hcell : mCell cy (fun r => if r = lay.length + 3 then q else ad r) (mNew M (lay.length + 3)) (lay.length + 3) (ci + 3, (mCl ci).2.2) = .inr (ci, (List.range (mCl ci).2.2).map fun j => mFV (mTy ci j) ad (mNew M (lay.length + 3)) (lay.length + 3) j) := by
      show (Sum.inr (ci, _) : va_E) = _
      congr 2
      refine List.map_congr_left fun j hj => ?_
      have hj := List.mem_range.mp hj
      rw [← mDef (mCl_tk hci j hj) rfl, ← mDef (mCl_tk hci j hj) rfl]
    have hv2 := mSv_new hv0 (by show ci + 3 < 14; omega) hcell p1 p2 p3
    have kk := hk H1 locs ls _ hv2 (mOkS_cons.mpr ⟨by rw [hlen]; exact Nat.lt_succ_self _, by rw [hlen]; exact hS.mono (Nat.le_succ _)⟩)
    rw [hlen, hsum] at kk
    have e1 : (Value.ref (lay.length + 3) :: S).map (mV (fun r => if r = lay.length + 3 then q else ad r)) = .ref q :: S.map (mV ad) := by
      rw [List.map_cons, hS.at (fun r (hr : r < lay.length + 3) => (if_neg (by omega) : (if r = lay.length + 3 then q else ad r) = ad r))]
      congr 1
      show Value.ref (if lay.length + 3 = lay.length + 3 then q else _) = _
      rw [if_pos rfl]
    rw [e1] at kk
    refine W.cs ?_ ?_ kk
    · omega
    · omega
theorem mA_getstatic {cp : Nat} (X : mCx D cy p R s m args meth c A k t1 t2) (hd : decode (mM k).2.2.1 pc = .ok (.getstatic cp, 3)) (h : mStep k pc (.getstatic cp) 3 L S lay M = some (.inl (pc', L', S', lay', M'))) (hk : mTg D cy p l e R s m args below meth c Q A k t1 t2 n0 s0 ad0 pc' L' S' lay' M') : mTg D cy p l e R s m args below meth c Q A k t1 t2 n0 s0 ad0 pc L S lay M := by
  obtain ⟨hx, hb, -, -, hown, hts, -, -, hK, hN, hst, -⟩ := X
  simp only [mStep] at h
  split at h
  next w a b z hz =>
    obtain ⟨rfl, rfl, rfl, rfl, rfl⟩ := mGo_some h
    intro H locs ls ad hv hS
    obtain ⟨hlk, hw⟩ := mSf_ok _ _ (mFindR_mem hz)
    dsimp only at hlk hw
    have kk := hk H locs ls ad hv (mOkS_cons.mpr ⟨by show w < _; omega, hS⟩)
    have hSt := hv.2.2.2.1
    have hst2 := hv.2.2.2.2.2.2.2.1
    rcases hw with rfl | rfl
    · have e1 : mV ad (.ref 1) = .ref t1 := by show Value.ref _ = _; rw [hst2.1]
      rw [List.map_cons, e1] at kk
      exact va_gets hx hb hst.1 hSt hown (hts _ hlk) (fun _ h => h) hd kk
    · have e1 : mV ad (.ref 2) = .ref t2 := by show Value.ref _ = _; rw [hst2.2]
      rw [List.map_cons, e1] at kk
      exact va_gets hx hb hst.2.2.1 hSt hown (hts _ hlk) (fun _ h => h) hd kk
  next => cases h
theorem mA_objInit {cp a b : Nat} {z : Int} (X : mCx D cy p R s m args meth c A k t1 t2) (hd : decode (mM k).2.2.1 pc = .ok (.invokespecial cp, 3)) (hz : mFindR (mPr (mM k).1) cp = some (0, a, b, z)) {f : List Value → mMem → Option mOut} (hf : f = fun S M => mGo (pc + 3) L S lay M) (h : mPrim 0 lay M S f = some (.inl (pc', L', S', lay', M'))) (hk : mTg D cy p l e R s m args below meth c Q A k t1 t2 n0 s0 ad0 pc' L' S' lay' M') : mTg D cy p l e R s m args below meth c Q A k t1 t2 n0 s0 ad0 pc L S lay M := by
  obtain ⟨hx, hb, -, hml, hown, hts, -, -, hK, hN, hst, hA, hR⟩ := X
  subst hf
  simp only [mPrim] at h
  split at h
  next r rest =>
    split at h
    next hc =>
      obtain ⟨rfl, rfl, rfl, rfl, rfl⟩ := mGo_some h
      intro H locs ls ad hv hS
      have kk := hk H locs ls ad hv (mOkS_cons.mp hS).2
      have hrm := lv_room (m := m) (pc := pc) (ls := ls) (rest := (Value.ref (r + 1) :: rest).map (mV ad)) (st := rest.map (mV ad)) (by rw [mV_catS]; exact hc)
      exact W.objInit hx hb hown (hts _ (mPr_ok _ _ (mFindR_mem hz)).1) (hts _ mw_obj.1) (hts _ mw_obj.2) rfl (by rw [hml]; exact hv.1.2.1) rfl hd hR.1 (Nat.le_trans (Nat.add_le_add_right hrm 12) (Nat.le_trans (by omega : 8 + 12 ≤ 60) hR.2)) kk
    next => cases h
  next => cases h
theorem mA_prim {cp pn a b : Nat} {z : Int} (X : mCx D cy p R s m args meth c A k t1 t2) (hd : decode (mM k).2.2.1 pc = .ok (.invokestatic cp, 3)) (hz : mFindR (mPr (mM k).1) cp = some (pn, a, b, z)) (hp0 : pn ≠ 0) {f : List Value → mMem → Option mOut} (hf : f = fun S M => mGo (pc + 3) L S lay M) (h : mPrim pn lay M S f = some (.inl (pc', L', S', lay', M'))) (hrm : lay'.length - n0 ≤ R.cells ∧ mSum lay' - s0 ≤ R.slots) (hk : mTg D cy p l e R s m args below meth c Q A k t1 t2 n0 s0 ad0 pc' L' S' lay' M') : mTg D cy p l e R s m args below meth c Q A k t1 t2 n0 s0 ad0 pc L S lay M := by
  obtain ⟨hx, hb, -, hml, hown, hts, -, -, hK, hN, hst, hA, hR⟩ := X
  subst hf
  obtain ⟨hlk, hlt⟩ := mPr_ok _ _ (mFindR_mem hz)
  dsimp only at hlk hlt
  unfold mPrim at h
  split at h
  · exact absurd rfl hp0
  · split at h
    next y x rest =>
      split at h
      next hc =>
        obtain ⟨rfl, rfl, rfl, rfl, rfl⟩ := mGo_some h
        intro H locs ls ad hv hS
        have kk := hk H locs ls ad hv (mOkS_cons.mpr ⟨trivial, (mOkS_cons.mp (mOkS_cons.mp hS).2).2⟩)
        exact va_mmax hx hb (hml.trans hv.1.2.1.symm) hown (hts _ hlk) (hts _ mw_max.1) (hts _ mw_max.2.1) (hts _ mw_max.2.2) hR.1 (by rw [mV_catS]; omega) hrm.1 hrm.2 hd kk
      next => cases h
    next => cases h
  · split at h
    next y x rest =>
      split at h
      next hc =>
        obtain ⟨rfl, rfl, rfl, rfl, rfl⟩ := mGo_some h
        intro H locs ls ad hv hS
        have kk := hk H locs ls ad hv (mOkS_cons.mpr ⟨trivial, (mOkS_cons.mp (mOkS_cons.mp hS).2).2⟩)
        exact va_mmin hx hb (hml.trans hv.1.2.1.symm) hown (hts _ hlk) (hts _ mw_min.1) (hts _ mw_min.2.1) (hts _ mw_min.2.2) hR.1 (by rw [mV_catS]; omega) hrm.1 hrm.2 hd kk
      next => cases h
    next => cases h
  · split at h
    next x rest =>
      split at h
      next hc =>
        obtain ⟨rfl, rfl, rfl, rfl, rfl⟩ := mGo_some h
        intro H locs ls ad hv hS
        have kk := hk H locs ls ad hv (mOkS_cons.mpr ⟨trivial, (mOkS_cons.mp hS).2⟩)
        exact va_mabs hx hb (hml.trans hv.1.2.1.symm) hown (hts _ hlk) (hts _ mw_abs.1) (hts _ mw_abs.2.1) (hts _ mw_abs.2.2) hR.1 (by rw [mV_catS]; omega) hrm.1 hrm.2 hd kk
      next => cases h
    next => cases h
  · have hpn : mPrN pn = arraycopyName := by unfold mPrN; split <;> first | rfl | (rename_i q _ _ _; omega) | simp_all
    rw [hpn] at hlk
    obtain ⟨n, dp, r1, sp, r0, rest, kd, c0, c1, M2, rfl, hs0, hs1, ⟨g1, g2, g3, g4, g5, g6⟩, h2, hM⟩ := mCopy_some h
    obtain ⟨rfl, rfl, rfl, rfl, rfl⟩ := mGo_some h2
    intro H locs ls ad hv hS
    have hS5 := (mOkS_cons.mp (mOkS_cons.mp (mOkS_cons.mp (mOkS_cons.mp (mOkS_cons.mp hS).2).2).2).2).2
    obtain ⟨hl, hP, hD, hSt, hoL, hoM, hki, hr⟩ := hv
    have hwd : (rest.map (mV ad) |>.map fun v => v.category).sum + (nativeFrameWords "java/lang/System" "arraycopy" 5 + 11) ≤ R.locals := by
      rw [mV_catS]
      have : nativeFrameWords "java/lang/System" "arraycopy" 5 = 7 := by decide +kernel
      omega
    rcases mSh_in hki hs0 with ⟨hk14, q0, rfl, hq0⟩ | ⟨-, h0, -⟩ | ⟨-, h0, -⟩
    · rcases mSh_in hki hs1 with ⟨-, q1, rfl, hq1⟩ | ⟨-, h0, -⟩ | ⟨-, h0, -⟩
      · rcases hM with ⟨rfl, rfl⟩ | ⟨rfl, rfl⟩
        · have he0 : (mWd cy ad lay M)[q0]? = some (ad (q0 + 3), .inl (cy 0, c0, .inl (M.1 (q0 + 3)))) := by rw [mWd_get, hq0]; rfl
          have he1 : (mWd cy ad lay M)[q1]? = some (ad (q1 + 3), .inl (cy 0, c1, .inl (M.1 (q1 + 3)))) := by rw [mWd_get, hq1]; rfl
          have hset : (mWd cy ad lay M).set q1 (ad (q1 + 3), .inl (cy 0, c1, .inl (va_cpy (M.1 (q0 + 3)) (M.1 (q1 + 3)) sp.toNatClampNeg dp.toNatClampNeg n.toNatClampNeg))) = mWd cy ad lay (mCpyI M (q0 + 3) (q1 + 3) sp.toNatClampNeg dp.toNatClampNeg n.toNatClampNeg) := by
            refine mWd_set hoM hq1 (fun r hr => ?_) ?_
            · exact ⟨by funext b; simp [mCpyI, hr], rfl, rfl⟩
            · show Sum.inl _ = _
              congr 3
              refine congrArg Sum.inl ?_
              funext b
              simp [mCpyI]
          refine va_copyi (ty := .int) hx hb (hml.trans hl.2.1.symm) hown (hts _ hlk) (hts _ mw_copy.1) (hts _ mw_copy.2.1) (hts _ mw_copy.2.2) hK hP hD hSt q0 q1 0 0 he0 he1 rfl rfl rfl (i32_nneg g3) (i32_nneg g2) (i32_nneg g1) g4 g5 (fun _ _ => rfl) hR.1 hwd hd (fun H1 locs1 p1 p2 p3 => ?_)
          rw [hset] at p1 p2
          exact hk H1 locs1 ls ad ⟨hl, p1, p2, p3, hoL, hoM, hki, hr⟩ hS5
        · have he0 : (mWd cy ad lay M)[q0]? = some (ad (q0 + 3), .inl (cy 1, c0, .inr (.inl (M.2.1 (q0 + 3))))) := by rw [mWd_get, hq0]; rfl
          have he1 : (mWd cy ad lay M)[q1]? = some (ad (q1 + 3), .inl (cy 1, c1, .inr (.inl (M.2.1 (q1 + 3))))) := by rw [mWd_get, hq1]; rfl
          have hset : (mWd cy ad lay M).set q1 (ad (q1 + 3), .inl (cy 1, c1, .inr (.inl (va_cpy (M.2.1 (q0 + 3)) (M.2.1 (q1 + 3)) sp.toNatClampNeg dp.toNatClampNeg n.toNatClampNeg)))) = mWd cy ad lay (mCpyL M (q0 + 3) (q1 + 3) sp.toNatClampNeg dp.toNatClampNeg n.toNatClampNeg) := by
            refine mWd_set hoM hq1 (fun r hr => ?_) ?_
            · exact ⟨rfl, by funext b; simp [mCpyL, hr], rfl⟩
            · show Sum.inl _ = _
              congr 4
              refine congrArg Sum.inl ?_
              funext b
              simp [mCpyL]
          refine va_copyl (ty := .long) hx hb (hml.trans hl.2.1.symm) hown (hts _ hlk) (hts _ mw_copy.1) (hts _ mw_copy.2.1) (hts _ mw_copy.2.2) hK hP hD hSt q0 q1 1 1 he0 he1 rfl rfl rfl (i32_nneg g3) (i32_nneg g2) (i32_nneg g1) g4 g5 (fun _ _ => rfl) hR.1 hwd hd (fun H1 locs1 p1 p2 p3 => ?_)
          rw [hset] at p1 p2
          exact hk H1 locs1 ls ad ⟨hl, p1, p2, p3, hoL, hoM, hki, hr⟩ hS5
      · omega
      · omega
    · omega
    · omega
end MMK
