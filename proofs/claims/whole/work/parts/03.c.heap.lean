/-! ===== the small machine's steps on the heap ===== -/
theorem mCl_decl {c : Nat} (h : c < 11) : ∀ j, j < (mCl c).2.2 → ((mCl c).2.1 j).1 = mOwn c := by
  rcases (by omega : c = 0 ∨ c = 1 ∨ c = 2 ∨ c = 3 ∨ c = 4 ∨ c = 5 ∨ c = 6 ∨ c = 7 ∨ c = 8 ∨ c = 9 ∨ c = 10) with rfl | rfl | rfl | rfl | rfl | rfl | rfl | rfl | rfl | rfl | rfl <;> decide +kernel
def mTk (t : FieldType) : Bool := match t with
  | .int => true
  | .boolean => true
  | .object _ => true
  | .array _ => true
  | _ => false
theorem mCl_tk {c : Nat} (h : c < 11) : ∀ j, j < (mCl c).2.2 → mTk (mTy c j) = true := by
  rcases (by omega : c = 0 ∨ c = 1 ∨ c = 2 ∨ c = 3 ∨ c = 4 ∨ c = 5 ∨ c = 6 ∨ c = 7 ∨ c = 8 ∨ c = 9 ∨ c = 10) with rfl | rfl | rfl | rfl | rfl | rfl | rfl | rfl | rfl | rfl | rfl <;> decide +kernel
theorem mWd_set {cy : Nat → ClassId} {ad : Nat → Nat} {lay : List mShp} {M M' : mMem} {q : Nat} {x : mShp} {ce : va_E} (hM : mOkM lay.length M) (hq : lay[q]? = some x) (h : ∀ r, r ≠ q + 3 → M'.1 r = M.1 r ∧ M'.2.1 r = M.2.1 r ∧ M'.2.2 r = M.2.2 r) (he : mCell cy ad M' (q + 3) x = ce) : (mWd cy ad lay M).set q (ad (q + 3), ce) = mWd cy ad lay M' := by
  apply List.ext_getElem?
  intro i
  have hl : q < (mWd cy ad lay M).length := by simp only [mWd, List.length_mapIdx]; exact (List.getElem?_eq_some_iff.mp hq).1
  by_cases hi : i = q
  · subst hi
    rw [List.getElem?_set_self hl, mWd_get, hq, ← he]
    rfl
  · rw [List.getElem?_set_ne (fun z => hi z.symm), mWd_get, mWd_get]
    obtain ⟨h1, h2, h3⟩ := h (i + 3) (by omega)
    congr 1
    funext z
    rw [mCell_at hM (fun _ _ => rfl) h1 h2 h3]
theorem mWd_new {cy : Nat → ClassId} {ad ad' : Nat → Nat} {lay : List mShp} {M M' : mMem} {x : mShp} {q : Nat} {ce : va_E} (hM : mOkM lay.length M) (ha : ad' (lay.length + 3) = q) (hn : ∀ r, r < lay.length + 3 → ad' r = ad r) (h : ∀ r, r < lay.length + 3 → M'.1 r = M.1 r ∧ M'.2.1 r = M.2.1 r ∧ M'.2.2 r = M.2.2 r) (he : mCell cy ad' M' (lay.length + 3) x = ce) : mWd cy ad lay M ++ [(q, ce)] = mWd cy ad' (lay ++ [x]) M' := by
  apply List.ext_getElem?
  intro i
  have hl : (mWd cy ad lay M).length = lay.length := by simp only [mWd, List.length_mapIdx]
  rw [mWd_get]
  by_cases hi : i < lay.length
  · rw [List.getElem?_append_left (by omega), List.getElem?_append_left hi, mWd_get]
    obtain ⟨h1, h2, h3⟩ := h (i + 3) (by omega)
    rw [hn (i + 3) (by omega)]
    congr 1
    funext z
    rw [mCell_at hM hn h1 h2 h3]
  · rw [List.getElem?_append_right (by omega), List.getElem?_append_right (by omega), hl]
    by_cases h0 : i = lay.length
    · subst h0
      rw [Nat.sub_self, ha, ← he]
      rfl
    · rw [show i - lay.length = (i - lay.length - 1) + 1 by omega]
      rfl
/-- a ref's cell in the world -/
theorem mSh_in {lay : List mShp} (hk : mKinds lay) {r kd n : Nat} (h : mSh lay r = some (kd, n)) : (kd < 14 ∧ ∃ q, r = q + 3 ∧ lay[q]? = some (kd, n)) ∨ (r = 1 ∧ kd = 98 ∧ n = 8) ∨ (r = 2 ∧ kd = 97 ∧ n = 32) := by
  match r, h with
  | 1, h => cases h; exact Or.inr (Or.inl ⟨rfl, rfl, rfl⟩)
  | 2, h => cases h; exact Or.inr (Or.inr ⟨rfl, rfl, rfl⟩)
  | q + 3, h => exact Or.inl ⟨hk _ (List.mem_of_getElem? h), q, rfl, h⟩
theorem mIdx_in {i : Int32} {n : Nat} (h : mIdx i n = true) : vp_in i n := by
  simp only [mIdx, decide_eq_true_eq] at h
  exact vp_in_iff.mpr h
theorem mGetF_some {o cp : Nat} {lay : List mShp} {M : mMem} {S : List Value} {f : List Value → Option mOut} {out : mOut} (h : mGetF o cp lay M S f = some out) : ∃ r rest nst ci j z n v, S = .ref r :: rest ∧ mFindR (mFl o) cp = some (nst, ci, j, z) ∧ mSh lay r = some (ci + 3, n) ∧ j < n ∧ f (v :: rest) = some out ∧ ((∃ x, v = .int x) ∨ v = .ref (M.2.2 r j)) ∧ ∀ ad, mV ad v = mFV (mTy ci j) ad M r j := by
  unfold mGetF at h
  split at h
  next r rest =>
    split at h
    next nst ci j z hf =>
      split at h
      next kd n hs =>
        split at h
        next hc =>
          obtain ⟨rfl, hj⟩ := hc
          split at h
          next ht => exact ⟨r, rest, nst, ci, j, z, n, _, rfl, hf, hs, hj, h, Or.inl ⟨_, rfl⟩, fun ad => by rw [ht]; rfl⟩
          next ht => exact ⟨r, rest, nst, ci, j, z, n, _, rfl, hf, hs, hj, h, Or.inl ⟨_, rfl⟩, fun ad => by rw [ht]; rfl⟩
          next ht => exact ⟨r, rest, nst, ci, j, z, n, _, rfl, hf, hs, hj, h, Or.inr rfl, fun ad => by rw [ht]; rfl⟩
          next ht => exact ⟨r, rest, nst, ci, j, z, n, _, rfl, hf, hs, hj, h, Or.inr rfl, fun ad => by rw [ht]; rfl⟩
          next => cases h
        next => cases h
      next => cases h
    next => cases h
  next => cases h
theorem mPutF_some {init : Bool} {o cp : Nat} {lay : List mShp} {M : mMem} {S : List Value} {f : List Value → mMem → Option mOut} {out : mOut} (h : mPutF init o cp lay M S f = some out) : ∃ v r rest nst ci j z n M', S = v :: .ref r :: rest ∧ mFindR (mFl o) cp = some (nst, ci, j, z) ∧ mSh lay r = some (ci + 3, n) ∧ j < n ∧ (((mCl ci).2.1 j).2.2.2 = false ∨ (init = true ∧ ci = o ∧ nst = 0)) ∧ f rest M' = some out ∧ ((∃ x, M' = mSetI M r j x) ∨ ∃ x, v = .ref x ∧ M' = mSetR M r j x) ∧ ∀ ad, mV ad v = mFV (mTy ci j) ad M' r j ∧ narrow (mTy ci j) (mV ad v) = mV ad v ∧ fits (mTy ci j) (mV ad v) = true := by
  have rf : ∀ (ad : Nat → Nat) (x : Nat) (t : FieldType), ((∃ C, t = .object C) ∨ ∃ u, t = .array u) → narrow t (mRf ad x) = mRf ad x ∧ fits t (mRf ad x) = true := by
    intro ad x t ht
    rcases ht with ⟨C, rfl⟩ | ⟨u, rfl⟩ <;> cases x <;> exact ⟨rfl, rfl⟩
  unfold mPutF at h
  split at h
  next v r rest =>
    split at h
    next nst ci j z hf =>
      split at h
      next kd n hs =>
        split at h
        next hc =>
          obtain ⟨rfl, hj, hfin⟩ := hc
          split at h
          next x ht => exact ⟨_, r, rest, nst, ci, j, z, n, _, rfl, hf, hs, hj, hfin, h, Or.inl ⟨_, rfl⟩, fun ad => by rw [ht]; exact ⟨by simp [mV, mFV, mSetI], rfl, rfl⟩⟩
          next x ht =>
            split at h
            next hx => exact ⟨_, r, rest, nst, ci, j, z, n, _, rfl, hf, hs, hj, hfin, h, Or.inl ⟨_, rfl⟩, fun ad => by rw [ht]; refine ⟨by simp [mV, mFV, mSetI], ?_, ?_⟩ <;> rcases hx with rfl | rfl <;> rfl⟩
            next => cases h
          next x C ht => exact ⟨_, r, rest, nst, ci, j, z, n, _, rfl, hf, hs, hj, hfin, h, Or.inr ⟨_, rfl, rfl⟩, fun ad => by rw [ht]; exact ⟨by simp [mV, mFV, mSetR], rf ad _ _ (Or.inl ⟨_, rfl⟩)⟩⟩
          next x C ht => exact ⟨_, r, rest, nst, ci, j, z, n, _, rfl, hf, hs, hj, hfin, h, Or.inr ⟨_, rfl, rfl⟩, fun ad => by rw [ht]; exact ⟨by simp [mV, mFV, mSetR], rf ad _ _ (Or.inr ⟨_, rfl⟩)⟩⟩
          next => cases h
        next => cases h
      next => cases h
    next => cases h
  next => cases h
theorem mOkM.setI {n : Nat} {M : mMem} (h : mOkM n M) (r j : Nat) (x : Int32) : mOkM n (mSetI M r j x) := h
theorem mOkM.setL {n : Nat} {M : mMem} (h : mOkM n M) (r j : Nat) (x : Int64) : mOkM n (mSetL M r j x) := h
theorem mOkM.setR {n : Nat} {M : mMem} (h : mOkM n M) (r j x : Nat) (hx : x < n + 3) : mOkM n (mSetR M r j x) := by
  intro a b
  show (if a = r ∧ b = j then x else M.2.2 a b) < n + 3
  split
  · exact hx
  · exact h a b
theorem mOkM.new {n : Nat} {M : mMem} (h : mOkM n M) (r : Nat) : mOkM (n + 1) (mNew M r) := by
  intro a b
  show (if a = r then 0 else M.2.2 a b) < n + 1 + 3
  split
  · omega
  · have := h a b; omega
theorem mFs_set {f g : Nat → Value} {n j : Nat} (hj : j < n) {v : Value} (hv : v = g j) (ho : ∀ i, i ≠ j → f i = g i) : ((List.range n).map f).set j v = (List.range n).map g := by
  apply List.ext_getElem?
  intro i
  by_cases hi : i = j
  · subst hi
    rw [List.getElem?_set_self (by simp [hj]), hv]
    simp [hj]
  · rw [List.getElem?_set_ne (fun z => hi z.symm)]
    simp only [List.getElem?_map]
    by_cases hin : i < n
    · simp [hin, ho i hi]
    · simp [hin]
section MHP
variable {D : va_G} {cy : Nat → ClassId} {p : Program} {l : Launch} {e : Env} {R : Room} {s : State} {m : MethodId} {args : Array Value} {below : List Frame} {meth : Method} {c : Code} {Q : State → Prop} {A : Nat → Prop} {k t1 t2 n0 s0 : Nat} {ad0 : Nat → Nat}
variable {pc pc' : Nat} {L L' : mLs} {S S' : List Value} {lay lay' : List mShp} {M M' : mMem}
theorem mA_getfield {cp : Nat} (X : mCx D cy p R s m args meth c A k t1 t2) (hd : decode (mM k).2.2.1 pc = .ok (.getfield cp, 3)) (h : mStep k pc (.getfield cp) 3 L S lay M = some (.inl (pc', L', S', lay', M'))) (hk : mTg D cy p l e R s m args below meth c Q A k t1 t2 n0 s0 ad0 pc' L' S' lay' M') : mTg D cy p l e R s m args below meth c Q A k t1 t2 n0 s0 ad0 pc L S lay M := by
  obtain ⟨hx, hb, -, -, hown, hts, -, -, hK, hN, -⟩ := X
  simp only [mStep] at h
  obtain ⟨r, rest, nst, ci, j, z, n, v, rfl, hf, hs, hj, h2, hv1, hvv⟩ := mGetF_some h
  obtain ⟨rfl, rfl, rfl, rfl, rfl⟩ := mGo_some h2
  intro H locs ls ad hv hS
  obtain ⟨hci, hjN, hl0, hl1, hn2⟩ := mFl_ok _ _ (mFindR_mem hf)
  dsimp only at hci hjN hl0 hl1 hn2
  rcases mSh_in hv.2.2.2.2.2.2.1 hs with ⟨-, q, rfl, hq⟩ | ⟨-, h0, -⟩ | ⟨-, h0, -⟩
  · have hP := hv.2.1
    have he : (mWd cy ad lay M)[q]? = some (ad (q + 3), .inr (ci, (List.range n).map fun j => mFV (mTy ci j) ad M (q + 3) j)) := by rw [mWd_get, hq]; rfl
    have hfv : ((List.range n).map fun j => mFV (mTy ci j) ad M (q + 3) j)[j]? = some (mV ad v) := by rw [hvv ad]; simp [hj]
    have hok : mOkV lay.length v := by
      rcases hv1 with ⟨x, rfl⟩ | rfl
      · trivial
      · exact hv.2.2.2.2.2.1 _ _
    have kk := hk H locs ls ad hv (mOkS_cons.mpr ⟨hok, (mOkS_cons.mp hS).2⟩)
    by_cases hn0 : nst = 0
    · exact va_get (D := D) (ci := ci) (C := (mCl ci).1) (T := (mCl ci).2.1) (N := (mCl ci).2.2) hx hb hts (mCl_ws hci) hown hK hP q he (mCl_at hci) j hjN (hts _ (hl0 hn0)) (fun _ h => h) hfv hd kk
    · exact va_getN (D := D) (ci := ci) (C := (mCl ci).1) (T := (mCl ci).2.1) (N := (mCl ci).2.2) hx hb hts (mCl_ws hci) hown hK hP q he (mCl_at hci) j hjN ((hN _ (hl1 (by omega))).use rfl) (fun _ h => h) hfv hd kk
  · omega
  · omega
theorem mA_putfield {cp : Nat} (X : mCx D cy p R s m args meth c A k t1 t2) (hd : decode (mM k).2.2.1 pc = .ok (.putfield cp, 3)) (h : mStep k pc (.putfield cp) 3 L S lay M = some (.inl (pc', L', S', lay', M'))) (hk : mTg D cy p l e R s m args below meth c Q A k t1 t2 n0 s0 ad0 pc' L' S' lay' M') : mTg D cy p l e R s m args below meth c Q A k t1 t2 n0 s0 ad0 pc L S lay M := by
  obtain ⟨hx, hb, -, -, hown, hts, -, hin, hK, hN, -⟩ := X
  simp only [mStep] at h
  obtain ⟨v, r, rest, nst, ci, j, z, n, M2, rfl, hf, hs, hj, hfin, h2, hM2, hvv⟩ := mPutF_some h
  obtain ⟨rfl, rfl, rfl, rfl, rfl⟩ := mGo_some h2
  intro H locs ls ad hv hS
  obtain ⟨hci, hjN, hl0, hl1, hn2⟩ := mFl_ok _ _ (mFindR_mem hf)
  dsimp only at hci hjN hl0 hl1 hn2
  obtain ⟨hl, hP, hD, hSt, hoL, hoM, hki, hr⟩ := hv
  obtain ⟨hS1, hS2⟩ := mOkS_cons.mp hS
  obtain ⟨-, hS3⟩ := mOkS_cons.mp hS2
  rcases mSh_in hki hs with ⟨-, q, rfl, hq⟩ | ⟨-, h0, -⟩ | ⟨-, h0, -⟩
  · have he : (mWd cy ad lay M)[q]? = some (ad (q + 3), .inr (ci, (List.range n).map fun j => mFV (mTy ci j) ad M (q + 3) j)) := by rw [mWd_get, hq]; rfl
    obtain ⟨e1, e2, e3⟩ := hvv ad
    have hother : ∀ r, r ≠ q + 3 → M2.1 r = M.1 r ∧ M2.2.1 r = M.2.1 r ∧ M2.2.2 r = M.2.2 r := by
      intro r hr
      rcases hM2 with ⟨x, rfl⟩ | ⟨x, -, rfl⟩
      · exact ⟨by funext b; simp [mSetI, hr], rfl, rfl⟩
      · exact ⟨rfl, rfl, by funext b; simp [mSetR, hr]⟩
    have hcell : mCell cy ad M2 (q + 3) (ci + 3, n) = .inr (ci, ((List.range n).map fun j => mFV (mTy ci j) ad M (q + 3) j).set j (mV ad v)) := by
      show (Sum.inr (ci, _) : va_E) = _
      rw [mFs_set (g := fun j => mFV (mTy ci j) ad M2 (q + 3) j) hj e1]
      intro i hi
      refine mFV_at (n := M.2.2 (q + 3) i) (M := M2) (M' := M) (by rcases hM2 with ⟨x, rfl⟩ | ⟨x, -, rfl⟩ <;> simp [mSetI, mSetR, hi] <;> omega) (fun _ _ => rfl) ?_ ?_ ?_ <;> rcases hM2 with ⟨x, rfl⟩ | ⟨x, -, rfl⟩ <;> simp [mSetI, mSetR, hi]
    have hset := mWd_set hoM hq hother hcell
    have hoM2 : mOkM lay.length M2 := by
      rcases hM2 with ⟨x, rfl⟩ | ⟨x, rfl, rfl⟩
      · exact hoM.setI _ _ _
      · exact hoM.setR _ _ _ hS1
    have kk : ∀ (H1 : Heap) (locs1 : List Loc), va_P D vwCl ((mWd cy ad lay M).set q (ad (q + 3), .inr (ci, ((List.range n).map fun j => mFV (mTy ci j) ad M (q + 3) j).set j (mV ad v)))) H1 → va_D A ((mWd cy ad lay M).set q (ad (q + 3), .inr (ci, ((List.range n).map fun j => mFV (mTy ci j) ad M (q + 3) j).set j (mV ad v)))) → va_S A s.heap H1 locs1 → W p l e R s m args below meth c H1 locs1 (lay.length - n0) (mSum lay - s0) Q (F0 m (pc + 3) ls (rest.map (mV ad))) := by
      intro H1 locs1 p1 p2 p3
      rw [hset] at p1 p2
      exact hk H1 locs1 ls ad ⟨hl, p1, p2, p3, hoL, hoM2, hki, hr⟩ hS3
    have hlen : j < ((List.range n).map fun j => mFV (mTy ci j) ad M (q + 3) j).length := by simp [hj]
    rcases hfin with hfin | ⟨hi1, rfl, rfl⟩
    · by_cases hn0 : nst = 0
      · exact va_put (D := D) (ci := ci) (ty := mTy ci j) (C := (mCl ci).1) (T := (mCl ci).2.1) (N := (mCl ci).2.2) hx hb hts (mCl_ws hci) (mTy ci) (mCl_ty hci) (mCl_nm hci) hown hK hP hD hSt q he (mCl_at hci) j hjN (hts _ (hl0 hn0)) (fun _ h => h) hfin (mCl_ty hci j hjN) e2 e3 hlen hd kk
      · exact va_putN (D := D) (ci := ci) (ty := mTy ci j) (C := (mCl ci).1) (T := (mCl ci).2.1) (N := (mCl ci).2.2) hx hb hts (mCl_ws hci) (mTy ci) (mCl_ty hci) (mCl_nm hci) hown hK hP hD hSt q he (mCl_at hci) j hjN ((hN _ (hl1 (by omega))).use rfl) (fun _ h => h) hfin (mCl_ty hci j hjN) e2 e3 hlen hd kk
    · by_cases hfin : ((mCl (mM k).1).2.1 j).2.2.2 = true
      · exact va_putF (D := D) (ci := (mM k).1) (ty := mTy (mM k).1 j) (C := (mCl (mM k).1).1) (T := (mCl (mM k).1).2.1) (N := (mCl (mM k).1).2.2) hx hb hts (mCl_ws hci) (mTy (mM k).1) (mCl_ty hci) (mCl_nm hci) hown hK hP hD hSt q he (mCl_at hci) j hjN (hts _ (hl0 rfl)) (fun _ h => h) hfin (hin hi1) (mCl_decl hci j hjN) (mCl_ty hci j hjN) e2 e3 hlen hd kk
      · exact va_put (D := D) (ci := (mM k).1) (ty := mTy (mM k).1 j) (C := (mCl (mM k).1).1) (T := (mCl (mM k).1).2.1) (N := (mCl (mM k).1).2.2) hx hb hts (mCl_ws hci) (mTy (mM k).1) (mCl_ty hci) (mCl_nm hci) hown hK hP hD hSt q he (mCl_at hci) j hjN (hts _ (hl0 rfl)) (fun _ h => h) (by simpa using hfin) (mCl_ty hci j hjN) e2 e3 hlen hd kk
  · omega
  · omega
end MHP
