/-! ===== what the small machine's states mean on the JVM ===== -/
def mRf (ad : Nat → Nat) (r : Nat) : Value := match r with
  | 0 => .null
  | r + 1 => .ref (ad (r + 1))
def mV (ad : Nat → Nat) (v : Value) : Value := match v with
  | .ref r => mRf ad r
  | v => v
def mFV (ty : FieldType) (ad : Nat → Nat) (M : mMem) (r j : Nat) : Value := match ty with
  | .object _ => mRf ad (M.2.2 r j)
  | .array _ => mRf ad (M.2.2 r j)
  | .long => .long (M.2.1 r j)
  | _ => .int (M.1 r j)
def mCell (cy : Nat → ClassId) (ad : Nat → Nat) (M : mMem) (r : Nat) (s : mShp) : va_E := match s.1 with
  | 0 => .inl (cy 0, s.2, .inl (M.1 r))
  | 1 => .inl (cy 1, s.2, .inr (.inl (M.2.1 r)))
  | 2 => .inl (cy 2, s.2, .inl (M.1 r))
  | c + 3 => .inr (c, (List.range s.2).map fun j => mFV (mTy c j) ad M r j)
def mWd (cy : Nat → ClassId) (ad : Nat → Nat) (lay : List mShp) (M : mMem) : va_W := lay.mapIdx fun k s => (ad (k + 3), mCell cy ad M (k + 3) s)
theorem mWd_get {cy : Nat → ClassId} {ad : Nat → Nat} {lay : List mShp} {M : mMem} {k : Nat} : (mWd cy ad lay M)[k]? = (lay[k]?).map fun s => (ad (k + 3), mCell cy ad M (k + 3) s) := by
  simp [mWd]
def mTys (cy : Nat → ClassId) : List (ClassId × FieldType) := [(cy 0, .int), (cy 1, .long), (cy 2, .char)]
def mSum (lay : List mShp) : Nat := (lay.map fun s => s.2).sum
theorem mSum_app (lay : List mShp) (s : mShp) : mSum (lay ++ [s]) = mSum lay + s.2 := by simp [mSum]
/-! locals -/
def mPs (ad : Nat → Nat) (L : mLs) : List (Nat × Value) := (List.range L.length).filterMap fun i => match L[i]? with
  | some (some v) => some (i, mV ad v)
  | _ => none
theorem mPs_mem {ad : Nat → Nat} {L : mLs} {i : Nat} {w : Value} : (i, w) ∈ mPs ad L ↔ ∃ v, L[i]? = some (some v) ∧ w = mV ad v := by
  constructor
  · intro h
    obtain ⟨j, hj, h⟩ := List.mem_filterMap.mp h
    split at h
    next v hv =>
      cases h
      exact ⟨v, hv, rfl⟩
    next => cases h
  · rintro ⟨v, hv, rfl⟩
    refine List.mem_filterMap.mpr ⟨i, List.mem_range.mpr (List.getElem?_eq_some_iff.mp hv).1, ?_⟩
    simp [hv]
def mLV (ad : Nat → Nat) (nL : Nat) (ls : Array Slot) (L : mLs) : Prop := L.length = nL ∧ lv_has ls nL (mPs ad L)
theorem mLV_at {ad : Nat → Nat} {nL : Nat} {ls : Array Slot} {L : mLs} (h : mLV ad nL ls L) {i : Nat} {v : Value} (hv : L[i]? = some (some v)) : ls[i]? = some (.val (mV ad v)) := h.2.2.2 (i, mV ad v) (mPs_mem.mpr ⟨v, hv, rfl⟩)
theorem mV_cat (ad : Nat → Nat) (v : Value) : (mV ad v).category = v.category := by
  cases v with
  | ref r => cases r <;> rfl
  | _ => rfl
theorem mV_catS (ad : Nat → Nat) (S : List Value) : ((S.map (mV ad)).map fun v => v.category).sum = mCat S := by
  rw [List.map_map]
  congr 1
  apply List.map_congr_left
  intro v _
  exact mV_cat ad v
theorem mClr_len (L : mLs) (i : Nat) : (mClr L i).length = L.length := by
  cases i with
  | zero => rfl
  | succ j =>
    simp only [mClr]
    split
    · split <;> simp
    · rfl
theorem mClr_get {L : mLs} {i j : Nat} {w : Value} (h : (mClr L i)[j]? = some (some w)) : L[j]? = some (some w) ∧ ¬ (j + 1 = i ∧ w.category = 2) := by
  cases i with
  | zero => exact ⟨h, fun q => by omega⟩
  | succ k =>
    simp only [mClr] at h
    split at h
    next w0 hw0 =>
      split at h
      next hc =>
        by_cases hjk : j = k
        · subst hjk
          rw [List.getElem?_set] at h
          simp at h
        · rw [List.getElem?_set_ne (fun q => hjk q.symm)] at h
          exact ⟨h, fun q => hjk (by omega)⟩
      next hc =>
        refine ⟨h, fun q => ?_⟩
        have : j = k := by omega
        subst this
        rw [hw0] at h
        cases h
        exact hc q.2
    next hn =>
      refine ⟨h, fun q => ?_⟩
      have : j = k := by omega
      subst this
      exact hn w h
theorem mLV_sto1 {ad : Nat → Nat} {nL : Nat} {ls : Array Slot} {L : mLs} {i : Nat} {v : Value} (hL : L.length = nL) (h : lv_has ls nL ((i, mV ad v) :: (mPs ad L).filter (fun q => !(q.1 == i) && !(q.1 + 1 == i && q.2.category == 2)))) : mLV ad nL ls (mSto1 L i v) := by
  refine ⟨by simp [mSto1, mClr_len, hL], h.1, h.2.1, fun q hq => h.2.2 q ?_⟩
  obtain ⟨j, w⟩ := q
  obtain ⟨w0, hw0, rfl⟩ := mPs_mem.mp hq
  by_cases hj : j = i
  · subst hj
    simp only [mSto1] at hw0
    rw [List.getElem?_set] at hw0
    simp only [if_true] at hw0
    split at hw0
    · cases hw0
      exact List.mem_cons_self
    · cases hw0
  · simp only [mSto1] at hw0
    rw [List.getElem?_set_ne (fun q => hj q.symm)] at hw0
    obtain ⟨a, b⟩ := mClr_get hw0
    refine List.mem_cons_of_mem _ (List.mem_filter.mpr ⟨mPs_mem.mpr ⟨w0, a, rfl⟩, ?_⟩)
    simp only [mV_cat]
    simp only [Bool.and_eq_true, Bool.not_eq_true', beq_eq_false_iff_ne, ne_eq, Bool.and_eq_false_iff]
    refine ⟨hj, ?_⟩
    by_cases q1 : j + 1 = i
    · exact Or.inr fun q2 => b ⟨q1, q2⟩
    · exact Or.inl q1
theorem mLV_sto2 {ad : Nat → Nat} {nL : Nat} {ls : Array Slot} {L : mLs} {i : Nat} {v : Value} (hL : L.length = nL) (h : lv_has ls nL ((i, mV ad v) :: (mPs ad L).filter (fun q => !(q.1 == i) && (!(q.1 == i + 1) && !(q.1 + 1 == i && q.2.category == 2))))) : mLV ad nL ls (mSto2 L i v) := by
  refine ⟨by simp [mSto2, mClr_len, hL], h.1, h.2.1, fun q hq => h.2.2 q ?_⟩
  obtain ⟨j, w⟩ := q
  obtain ⟨w0, hw0, rfl⟩ := mPs_mem.mp hq
  simp only [mSto2] at hw0
  by_cases hj1 : j = i + 1
  · subst hj1
    rw [List.getElem?_set] at hw0
    simp at hw0
  · rw [List.getElem?_set_ne (fun q => hj1 q.symm)] at hw0
    by_cases hj : j = i
    · subst hj
      rw [List.getElem?_set] at hw0
      simp only [if_true] at hw0
      split at hw0
      · cases hw0
        exact List.mem_cons_self
      · cases hw0
    · rw [List.getElem?_set_ne (fun q => hj q.symm)] at hw0
      obtain ⟨a, b⟩ := mClr_get hw0
      refine List.mem_cons_of_mem _ (List.mem_filter.mpr ⟨mPs_mem.mpr ⟨w0, a, rfl⟩, ?_⟩)
      simp only [mV_cat]
      simp only [Bool.and_eq_true, Bool.not_eq_true', beq_eq_false_iff_ne, ne_eq, Bool.and_eq_false_iff]
      refine ⟨hj, hj1, ?_⟩
      by_cases q1 : j + 1 = i
      · exact Or.inr fun q2 => b ⟨q1, q2⟩
      · exact Or.inl q1
/-! the start -/
theorem mArgs_cons (v : Value) (vs : List Value) : mArgs (v :: vs) = (if v.category = 2 then [some v, none] else [some v]) ++ mArgs vs := by simp [mArgs]
theorem mArgs_in {ad : Nat → Nat} : ∀ (vs : List Value) (k i : Nat) (v : Value), (mArgs vs)[i]? = some (some v) → (k + i, mV ad v) ∈ lv_args k (vs.map (mV ad))
  | [], k, i, v, h => by simp [mArgs] at h
  | w :: vs, k, i, v, h => by
    rw [mArgs_cons] at h
    simp only [List.map_cons, lv_args, mV_cat]
    by_cases hc : w.category = 2
    · rw [if_pos hc] at h
      rw [if_pos hc]
      match i, h with
      | 0, h => simp at h; subst h; exact List.mem_cons_self
      | 1, h => simp at h
      | i + 2, h =>
        have h2 : (mArgs vs)[i]? = some (some v) := by simpa using h
        have := mArgs_in (ad := ad) vs (k + 2) i v h2
        rw [show k + 2 + i = k + (i + 2) by omega] at this
        exact List.mem_cons_of_mem _ this
    · rw [if_neg hc] at h
      rw [if_neg hc]
      match i, h with
      | 0, h => simp at h; subst h; exact List.mem_cons_self
      | i + 1, h =>
        have h2 : (mArgs vs)[i]? = some (some v) := by simpa using h
        have := mArgs_in (ad := ad) vs (k + 1) i v h2
        rw [show k + 1 + i = k + (i + 1) by omega] at this
        exact List.mem_cons_of_mem _ this
theorem mArgs_len (ad : Nat → Nat) (vs : List Value) : (lg_sl (vs.map (mV ad))).length = (mArgs vs).length := by
  induction vs with
  | nil => rfl
  | cons v vs ih =>
    rw [mArgs_cons]
    have e : lg_sl ((v :: vs).map (mV ad)) = (if (mV ad v).category = 2 then [Slot.val (mV ad v), Slot.second] else [Slot.val (mV ad v)]) ++ lg_sl (vs.map (mV ad)) := by simp [lg_sl]
    rw [e, List.length_append, List.length_append, ih, mV_cat]
    split <;> rfl
theorem mEntry_LV {ad : Nat → Nat} {n : Nat} {vs : List Value} (h : (mArgs vs).length ≤ n) {ls : Array Slot} (hl : lv_has ls n (lv_args 0 (vs.map (mV ad)))) : mLV ad n ls (mEntry n vs) := by
  refine ⟨by simp [mEntry]; omega, hl.1, hl.2.1, fun q hq => hl.2.2 q ?_⟩
  obtain ⟨j, w⟩ := q
  obtain ⟨w0, hw0, rfl⟩ := mPs_mem.mp hq
  simp only [mEntry] at hw0
  by_cases hj : j < (mArgs vs).length
  · rw [List.getElem?_append_left hj] at hw0
    have := mArgs_in (ad := ad) vs 0 j w0 hw0
    rwa [Nat.zero_add] at this
  · rw [List.getElem?_append_right (by omega)] at hw0
    have := List.eq_of_mem_replicate (List.mem_of_getElem? hw0)
    cases this
/-! refs in bounds -/
def mOkV (n : Nat) (v : Value) : Prop := match v with
  | .ref r => r < n + 3
  | _ => True
theorem mOkV_int {n : Nat} {x : Int32} : mOkV n (.int x) = True := rfl
theorem mOkV_long {n : Nat} {x : Int64} : mOkV n (.long x) = True := rfl
theorem mOkV_ref {n r : Nat} : mOkV n (.ref r) = (r < n + 3) := rfl
def mOkS (n : Nat) (S : List Value) : Prop := ∀ v ∈ S, mOkV n v
theorem mOkS_nil {n : Nat} : mOkS n [] = True := by simp [mOkS]
theorem mOkS_cons {n : Nat} {v : Value} {S : List Value} : mOkS n (v :: S) = (mOkV n v ∧ mOkS n S) := by simp [mOkS]
def mOkL (n : Nat) (L : mLs) : Prop := ∀ (i : Nat) (v : Value), L[i]? = some (some v) → mOkV n v
def mOkM (n : Nat) (M : mMem) : Prop := ∀ r j, M.2.2 r j < n + 3
theorem mOkV.mono {n m : Nat} {v : Value} (h : mOkV n v) (hm : n ≤ m) : mOkV m v := by
  cases v with
  | ref r => exact Nat.lt_of_lt_of_le h (by omega)
  | _ => trivial
theorem mOkS.mono {n m : Nat} {S : List Value} (h : mOkS n S) (hm : n ≤ m) : mOkS m S := fun v hv => (h v hv).mono hm
theorem mOkL.mono {n m : Nat} {L : mLs} (h : mOkL n L) (hm : n ≤ m) : mOkL m L := fun i v hv => (h i v hv).mono hm
theorem mOkL.sto1 {n i : Nat} {L : mLs} {v : Value} (h : mOkL n L) (hv : mOkV n v) : mOkL n (mSto1 L i v) := by
  intro j w hw
  simp only [mSto1] at hw
  by_cases hj : j = i
  · subst hj
    rw [List.getElem?_set] at hw
    simp only [if_true] at hw
    split at hw
    · cases hw; exact hv
    · cases hw
  · rw [List.getElem?_set_ne (fun q => hj q.symm)] at hw
    exact h j w (mClr_get hw).1
theorem mOkL.sto2 {n i : Nat} {L : mLs} {v : Value} (h : mOkL n L) (hv : mOkV n v) : mOkL n (mSto2 L i v) := by
  intro j w hw
  simp only [mSto2] at hw
  by_cases hj : j = i + 1
  · subst hj
    rw [List.getElem?_set] at hw
    simp at hw
  · rw [List.getElem?_set_ne (fun q => hj q.symm)] at hw
    exact mOkL.sto1 h hv j w hw
theorem mOkV.at {n : Nat} {v : Value} (h : mOkV n v) {ad ad' : Nat → Nat} (he : ∀ r, r < n + 3 → ad' r = ad r) : mV ad' v = mV ad v := by
  cases v with
  | ref r =>
    cases r with
    | zero => rfl
    | succ r => show Value.ref _ = Value.ref _; rw [he _ h]
  | _ => rfl
theorem mOkS.at {n : Nat} {S : List Value} (h : mOkS n S) {ad ad' : Nat → Nat} (he : ∀ r, r < n + 3 → ad' r = ad r) : S.map (mV ad') = S.map (mV ad) :=
  List.map_congr_left fun v hv => (h v hv).at he
theorem mOkL.at {n : Nat} {L : mLs} (h : mOkL n L) {ad ad' : Nat → Nat} (he : ∀ r, r < n + 3 → ad' r = ad r) : mPs ad' L = mPs ad L := by
  unfold mPs
  congr 1
  funext i
  cases hi : L[i]? with
  | none => rfl
  | some o => cases o with
    | none => rfl
    | some v => simp only [(h i v hi).at he]
theorem mLV.at {ad ad' : Nat → Nat} {n nL : Nat} {ls : Array Slot} {L : mLs} (h : mLV ad nL ls L) (hL : mOkL n L) (he : ∀ r, r < n + 3 → ad' r = ad r) : mLV ad' nL ls L := ⟨h.1, by rw [hL.at he]; exact h.2⟩
theorem mFV_at {ty : FieldType} {ad ad' : Nat → Nat} {n : Nat} {M M' : mMem} {r j : Nat} (h : M.2.2 r j < n + 3) (he : ∀ r, r < n + 3 → ad' r = ad r) (h1 : M'.1 r j = M.1 r j) (h2 : M'.2.1 r j = M.2.1 r j) (h3 : M'.2.2 r j = M.2.2 r j) : mFV ty ad' M' r j = mFV ty ad M r j := by
  have e : mRf ad' (M.2.2 r j) = mRf ad (M.2.2 r j) := mOkV.at (v := .ref (M.2.2 r j)) h he
  unfold mFV
  split <;> first | (rw [h3]; exact e) | rw [h2] | rw [h1]
theorem mCell_at {cy : Nat → ClassId} {ad ad' : Nat → Nat} {n : Nat} {M M' : mMem} {r : Nat} {s : mShp} (h : mOkM n M) (he : ∀ r, r < n + 3 → ad' r = ad r) (h1 : M'.1 r = M.1 r) (h2 : M'.2.1 r = M.2.1 r) (h3 : M'.2.2 r = M.2.2 r) : mCell cy ad' M' r s = mCell cy ad M r s := by
  unfold mCell
  split
  · rw [h1]
  · rw [h2]
  · rw [h1]
  · congr 2
    refine List.map_congr_left fun j _ => mFV_at (h r j) he (by rw [h1]) (by rw [h2]) (by rw [h3])
