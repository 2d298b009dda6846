/-! ===== what a run comes to: mG (from a place on), mF (a method), as predicates of what holds behind ===== -/
theorem mRun_fuel : ∀ (n d k pc : Nat) (L : mLs) (S : List Value) (lay : List mShp) (M : mMem) (x : Option Value × List mShp × mMem), mRun n d k pc L S lay M = some x → ∀ m, n ≤ m → mRun m d k pc L S lay M = some x
  | 0, d, k, pc, L, S, lay, M, x, h, m, hm => by simp [mRun] at h
  | n + 1, d, k, pc, L, S, lay, M, x, h, 0, hm => absurd hm (by omega)
  | n + 1, d, k, pc, L, S, lay, M, x, h, m + 1, hm => by
    simp only [mRun] at h ⊢
    cases hf : mFetch k pc with
    | none => simp only [hf] at h; cases h
    | some q =>
      obtain ⟨i, len⟩ := q
      simp only [hf] at h ⊢
      cases hs : mStep k pc i len L S lay M with
      | none => simp only [hs] at h; cases h
      | some o =>
        simp only [hs] at h ⊢
        rcases o with ⟨pc2, L2, S2, lay2, M2⟩ | v | ⟨j, as, rest⟩
        · exact mRun_fuel n _ _ _ _ _ _ _ _ h m (by omega)
        · exact h
        · cases d with
          | zero => cases h
          | succ d =>
            dsimp only at h ⊢
            by_cases hl : (mArgs as).length ≤ (mM j).2.2.2.1
            · rw [if_pos hl] at h ⊢
              cases hr : mRun n d j 0 (mEntry (mM j).2.2.2.1 as) [] lay M with
              | none => simp only [hr] at h; cases h
              | some y =>
                simp only [hr] at h
                rw [mRun_fuel n _ _ _ _ _ _ _ _ hr m (by omega)]
                exact mRun_fuel n _ _ _ _ _ _ _ _ h m (by omega)
            · rw [if_neg hl] at h
              cases h
abbrev mPost : Type := Option Value → List mShp → mMem → Prop
def mG (d k pc : Nat) (L : mLs) (S : List Value) (lay : List mShp) (M : mMem) (P : mPost) : Prop := ∃ n v lay' M', mRun n d k pc L S lay M = some (v, lay', M') ∧ P v lay' M'
def mF (d k : Nat) (as : List Value) (lay : List mShp) (M : mMem) (P : mPost) : Prop := (mArgs as).length ≤ (mM k).2.2.2.1 ∧ mG d k 0 (mEntry (mM k).2.2.2.1 as) [] lay M P
theorem mG_inl {d k pc len pc' : Nat} {i : Instr} {L L' : mLs} {S S' : List Value} {lay lay' : List mShp} {M M' : mMem} {P : mPost} (hf : mFetch k pc = some (i, len)) (hs : mStep k pc i len L S lay M = some (.inl (pc', L', S', lay', M'))) : mG d k pc L S lay M P = mG d k pc' L' S' lay' M' P := by
  apply propext
  constructor
  · rintro ⟨n, v, l2, M2, h, hP⟩
    cases n with
    | zero => simp [mRun] at h
    | succ n =>
      unfold mRun at h
      simp only [hf, hs] at h
      exact ⟨n, v, l2, M2, h, hP⟩
  · rintro ⟨n, v, l2, M2, h, hP⟩
    refine ⟨n + 1, v, l2, M2, ?_, hP⟩
    unfold mRun
    simp only [hf, hs]
    exact h
theorem mG_ret {d k pc len : Nat} {i : Instr} {L : mLs} {S : List Value} {lay : List mShp} {M : mMem} {P : mPost} {v : Option Value} (hf : mFetch k pc = some (i, len)) (hs : mStep k pc i len L S lay M = some (.inr (.inl v))) : mG d k pc L S lay M P = P v lay M := by
  apply propext
  constructor
  · rintro ⟨n, v, l2, M2, h, hP⟩
    cases n with
    | zero => simp [mRun] at h
    | succ n =>
      unfold mRun at h
      simp only [hf, hs] at h
      cases h
      exact hP
  · intro hP
    refine ⟨1, _, _, _, ?_, hP⟩
    unfold mRun
    simp only [hf, hs]
theorem mG_none {d k pc len : Nat} {i : Instr} {L : mLs} {S : List Value} {lay : List mShp} {M : mMem} {P : mPost} (hf : mFetch k pc = some (i, len)) (hs : mStep k pc i len L S lay M = none) : mG d k pc L S lay M P = False := by
  apply propext
  constructor
  · rintro ⟨n, v, l2, M2, h, hP⟩
    cases n with
    | zero => simp [mRun] at h
    | succ n =>
      unfold mRun at h
      simp only [hf, hs] at h
      cases h
  · intro h; exact h.elim
theorem mG_call {d k pc len j : Nat} {i : Instr} {L : mLs} {S as rest : List Value} {lay : List mShp} {M : mMem} {P : mPost} (hf : mFetch k pc = some (i, len)) (hs : mStep k pc i len L S lay M = some (.inr (.inr (j, as, rest)))) : mG (d + 1) k pc L S lay M P = mF d j as lay M (fun v lay1 M1 => mG (d + 1) k (pc + 3) L (v.toList ++ rest) lay1 M1 P) := by
  apply propext
  constructor
  · rintro ⟨n, v, l2, M2, h, hP⟩
    cases n with
    | zero => simp [mRun] at h
    | succ n =>
      unfold mRun at h
      simp only [hf, hs] at h
      split at h
      next hl =>
        split at h
        next v1 lay1 M1 hr => exact ⟨hl, n, v1, lay1, M1, hr, n, v, l2, M2, h, hP⟩
        next => cases h
      next => cases h
  · rintro ⟨hl, n1, v1, lay1, M1, hr, n2, v, l2, M2, h, hP⟩
    refine ⟨max n1 n2 + 1, v, l2, M2, ?_, hP⟩
    unfold mRun
    simp only [hf, hs]
    rw [if_pos hl, mRun_fuel _ _ _ _ _ _ _ _ _ hr _ (Nat.le_max_left _ _)]
    exact mRun_fuel _ _ _ _ _ _ _ _ _ h _ (Nat.le_max_right _ _)
theorem mG.imp {d k pc : Nat} {L : mLs} {S : List Value} {lay : List mShp} {M : mMem} {P Q : mPost} (h : mG d k pc L S lay M P) (hq : ∀ v l2 M2, P v l2 M2 → Q v l2 M2) : mG d k pc L S lay M Q := by
  obtain ⟨n, v, l2, M2, h1, h2⟩ := h
  exact ⟨n, v, l2, M2, h1, hq _ _ _ h2⟩
theorem mF.imp {d k : Nat} {as : List Value} {lay : List mShp} {M : mMem} {P Q : mPost} (h : mF d k as lay M P) (hq : ∀ v l2 M2, P v l2 M2 → Q v l2 M2) : mF d k as lay M Q := ⟨h.1, h.2.imp hq⟩
/-! what the equations ask of the layout -/
def mIsO (lay : List mShp) (r c j : Nat) : Bool := match mSh lay r with
  | some (kd, n) => decide (kd = c + 3 ∧ j < n)
  | none => false
def mIsA (lay : List mShp) (kd r n : Nat) : Prop := mSh lay r = some (kd, n)
def mNoL (o : Option Value) : Bool := match o with
  | some w => decide (w.category = 1)
  | none => true
theorem mNoL_none : mNoL none = true := rfl
theorem mNoL_int (x : Int32) : mNoL (some (.int x)) = true := rfl
theorem mNoL_ref (x : Nat) : mNoL (some (.ref x)) = true := rfl
theorem mClr_noL {L : mLs} {i : Nat} (h : ∀ j, i = j + 1 → ∀ o, L[j]? = some o → mNoL o = true) : mClr L i = L := by
  cases i with
  | zero => rfl
  | succ j =>
    simp only [mClr]
    cases hj : L[j]? with
    | none => rfl
    | some o =>
      cases o with
      | none => rfl
      | some w =>
        have := h j rfl _ hj
        simp only [mNoL, decide_eq_true_eq] at this
        simp only
        rw [if_neg (by omega)]
section MEQ
variable {d k pc : Nat} {L : mLs} {S : List Value} {lay : List mShp} {M : mMem} {P : mPost}
theorem e_iadd {x y : Int32} (h : mFetch k pc = some (.iadd, 1)) : mG d k pc L (.int y :: .int x :: S) lay M P = mG d k (pc + 1) L (.int (x + y) :: S) lay M P := mG_inl h rfl
theorem e_isub {x y : Int32} (h : mFetch k pc = some (.isub, 1)) : mG d k pc L (.int y :: .int x :: S) lay M P = mG d k (pc + 1) L (.int (x - y) :: S) lay M P := mG_inl h rfl
theorem e_imul {x y : Int32} (h : mFetch k pc = some (.imul, 1)) : mG d k pc L (.int y :: .int x :: S) lay M P = mG d k (pc + 1) L (.int (x * y) :: S) lay M P := mG_inl h rfl
theorem e_iand {x y : Int32} (h : mFetch k pc = some (.iand, 1)) : mG d k pc L (.int y :: .int x :: S) lay M P = mG d k (pc + 1) L (.int (x &&& y) :: S) lay M P := mG_inl h rfl
theorem e_ior {x y : Int32} (h : mFetch k pc = some (.ior, 1)) : mG d k pc L (.int y :: .int x :: S) lay M P = mG d k (pc + 1) L (.int (x ||| y) :: S) lay M P := mG_inl h rfl
theorem e_ixor {x y : Int32} (h : mFetch k pc = some (.ixor, 1)) : mG d k pc L (.int y :: .int x :: S) lay M P = mG d k (pc + 1) L (.int (x ^^^ y) :: S) lay M P := mG_inl h rfl
theorem e_ishl {x y : Int32} (h : mFetch k pc = some (.ishl, 1)) : mG d k pc L (.int y :: .int x :: S) lay M P = mG d k (pc + 1) L (.int (x <<< (y &&& 31)) :: S) lay M P := mG_inl h rfl
theorem e_ishr {x y : Int32} (h : mFetch k pc = some (.ishr, 1)) : mG d k pc L (.int y :: .int x :: S) lay M P = mG d k (pc + 1) L (.int (x >>> (y &&& 31)) :: S) lay M P := mG_inl h rfl
theorem e_iushr {x y : Int32} (h : mFetch k pc = some (.iushr, 1)) : mG d k pc L (.int y :: .int x :: S) lay M P = mG d k (pc + 1) L (.int ((x.toUInt32 >>> (y.toUInt32 &&& Int32.toUInt32 31)).toInt32) :: S) lay M P := mG_inl h rfl
theorem e_idiv {x y : Int32} (h : mFetch k pc = some (.idiv, 1)) : mG d k pc L (.int y :: .int x :: S) lay M P = (y ≠ 0 ∧ mG d k (pc + 1) L (.int (x / y) :: S) lay M P) := by
  by_cases hy : y = 0
  · rw [mG_none h (by simp only [mStep, mOp2]; rw [if_pos hy])]; simp [hy]
  · rw [mG_inl h (by simp only [mStep, mOp2]; rw [if_neg hy]; rfl)]; simp [hy]
theorem e_irem {x y : Int32} (h : mFetch k pc = some (.irem, 1)) : mG d k pc L (.int y :: .int x :: S) lay M P = (y ≠ 0 ∧ mG d k (pc + 1) L (.int (x - x / y * y) :: S) lay M P) := by
  by_cases hy : y = 0
  · rw [mG_none h (by simp only [mStep, mOp2]; rw [if_pos hy])]; simp [hy]
  · rw [mG_inl h (by simp only [mStep, mOp2]; rw [if_neg hy]; rfl)]; simp [hy]
theorem e_ineg {x : Int32} (h : mFetch k pc = some (.ineg, 1)) : mG d k pc L (.int x :: S) lay M P = mG d k (pc + 1) L (.int (-x) :: S) lay M P := mG_inl h rfl
theorem e_i2l {x : Int32} (h : mFetch k pc = some (.i2l, 1)) : mG d k pc L (.int x :: S) lay M P = mG d k (pc + 1) L (.long (x.toInt64) :: S) lay M P := mG_inl h rfl
theorem e_i2b {x : Int32} (h : mFetch k pc = some (.i2b, 1)) : mG d k pc L (.int x :: S) lay M P = mG d k (pc + 1) L (.int (x.toInt8.toInt32) :: S) lay M P := mG_inl h rfl
theorem e_i2s {x : Int32} (h : mFetch k pc = some (.i2s, 1)) : mG d k pc L (.int x :: S) lay M P = mG d k (pc + 1) L (.int (x.toInt16.toInt32) :: S) lay M P := mG_inl h rfl
theorem e_l2i {x : Int64} (h : mFetch k pc = some (.l2i, 1)) : mG d k pc L (.long x :: S) lay M P = mG d k (pc + 1) L (.int x.toInt32 :: S) lay M P := mG_inl h rfl
theorem e_ladd {x y : Int64} (h : mFetch k pc = some (.ladd, 1)) : mG d k pc L (.long y :: .long x :: S) lay M P = mG d k (pc + 1) L (.long (x + y) :: S) lay M P := mG_inl h rfl
theorem e_lmul {x y : Int64} (h : mFetch k pc = some (.lmul, 1)) : mG d k pc L (.long y :: .long x :: S) lay M P = mG d k (pc + 1) L (.long (x * y) :: S) lay M P := mG_inl h rfl
theorem e_lcmp {x y : Int64} (h : mFetch k pc = some (.lcmp, 1)) : mG d k pc L (.long y :: .long x :: S) lay M P = mG d k (pc + 1) L (.int (lg_cmp x y) :: S) lay M P := mG_inl h rfl
theorem e_iconst {n : Int} (h : mFetch k pc = some (.iconst n, 1)) : mG d k pc L S lay M P = mG d k (pc + 1) L (.int (Int32.ofInt n) :: S) lay M P := mG_inl h rfl
theorem e_bipush {n : Int} (h : mFetch k pc = some (.bipush n, 2)) : mG d k pc L S lay M P = mG d k (pc + 2) L (.int (Int32.ofInt n) :: S) lay M P := mG_inl h rfl
theorem e_sipush {n : Int} (h : mFetch k pc = some (.sipush n, 3)) : mG d k pc L S lay M P = mG d k (pc + 3) L (.int (Int32.ofInt n) :: S) lay M P := mG_inl h rfl
theorem e_lconst {n : Fin 2} (h : mFetch k pc = some (.lconst n, 1)) : mG d k pc L S lay M P = mG d k (pc + 1) L (.long (Int64.ofNat n.val) :: S) lay M P := mG_inl h rfl
theorem e_ldc {c a b : Nat} {z : Int} (hc : mFindR (mIn (mM k).1) c = some (0, a, b, z)) (h : mFetch k pc = some (.ldc c, 2)) : mG d k pc L S lay M P = mG d k (pc + 2) L (.int (Int32.ofInt z) :: S) lay M P := mG_inl h (by simp only [mStep, hc]; rfl)
theorem e_ldc_w {c a b : Nat} {z : Int} (hc : mFindR (mIn (mM k).1) c = some (0, a, b, z)) (h : mFetch k pc = some (.ldc_w c, 3)) : mG d k pc L S lay M P = mG d k (pc + 3) L (.int (Int32.ofInt z) :: S) lay M P := mG_inl h (by simp only [mStep, hc]; rfl)
theorem e_ldc2_w {c a b : Nat} {z : Int} (hc : mFindR (mIn (mM k).1) c = some (1, a, b, z)) (h : mFetch k pc = some (.ldc2_w c, 3)) : mG d k pc L S lay M P = mG d k (pc + 3) L (.long (Int64.ofInt z) :: S) lay M P := mG_inl h (by simp only [mStep, hc]; rfl)
theorem e_iload {x : Int32} {i : Nat}  (h : mFetch k pc = some (.iload i, 2)) (hl : L[i]? = some (some (.int x))) : mG d k pc L S lay M P = mG d k (pc + 2) L (.int x :: S) lay M P := mG_inl h (by simp only [mStep, mLoadI, hl]; rfl)
theorem e_iload_n {x : Int32} {i : Nat} {n : Fin 4} (h : mFetch k pc = some (.iload_n n, 1)) (hn : n.val = i) (hl : L[i]? = some (some (.int x))) : mG d k pc L S lay M P = mG d k (pc + 1) L (.int x :: S) lay M P := mG_inl h (by subst hn; simp only [mStep, mLoadI, hl]; rfl)
theorem e_lload {x : Int64} {i : Nat}  (h : mFetch k pc = some (.lload i, 2)) (hl : L[i]? = some (some (.long x))) : mG d k pc L S lay M P = mG d k (pc + 2) L (.long x :: S) lay M P := mG_inl h (by simp only [mStep, mLoadL, hl]; rfl)
theorem e_lload_n {x : Int64} {i : Nat} {n : Fin 4} (h : mFetch k pc = some (.lload_n n, 1)) (hn : n.val = i) (hl : L[i]? = some (some (.long x))) : mG d k pc L S lay M P = mG d k (pc + 1) L (.long x :: S) lay M P := mG_inl h (by subst hn; simp only [mStep, mLoadL, hl]; rfl)
theorem e_aload {x : Nat} {i : Nat}  (h : mFetch k pc = some (.aload i, 2)) (hl : L[i]? = some (some (.ref (x + 1)))) : mG d k pc L S lay M P = mG d k (pc + 2) L (.ref (x + 1) :: S) lay M P := mG_inl h (by simp only [mStep, mLoadA, hl]; rfl)
theorem e_aload_n {x : Nat} {i : Nat} {n : Fin 4} (h : mFetch k pc = some (.aload_n n, 1)) (hn : n.val = i) (hl : L[i]? = some (some (.ref (x + 1)))) : mG d k pc L S lay M P = mG d k (pc + 1) L (.ref (x + 1) :: S) lay M P := mG_inl h (by subst hn; simp only [mStep, mLoadA, hl]; rfl)
theorem e_istore {x : Int32} {i : Nat}  (h : mFetch k pc = some (.istore i, 2)) {L' : mLs} (hb : i < L.length) (hl : mSto1 L i (.int x) = L') : mG d k pc L (.int x :: S) lay M P = mG d k (pc + 2) L' S lay M P := mG_inl h (by subst hl; simp only [mStep, mStoreI]; rw [if_pos hb]; rfl)
theorem e_istore_n {x : Int32} {i : Nat} {n : Fin 4} (h : mFetch k pc = some (.istore_n n, 1)) (hn : n.val = i) {L' : mLs} (hb : i < L.length) (hl : mSto1 L i (.int x) = L') : mG d k pc L (.int x :: S) lay M P = mG d k (pc + 1) L' S lay M P := mG_inl h (by subst hn; subst hl; simp only [mStep, mStoreI]; rw [if_pos hb]; rfl)
theorem e_astore {x : Nat} {i : Nat}  (h : mFetch k pc = some (.astore i, 2)) {L' : mLs} (hb : i < L.length) (hl : mSto1 L i (.ref (x + 1)) = L') : mG d k pc L (.ref (x + 1) :: S) lay M P = mG d k (pc + 2) L' S lay M P := mG_inl h (by subst hl; simp only [mStep, mStoreA]; rw [if_pos hb]; rfl)
theorem e_astore_n {x : Nat} {i : Nat} {n : Fin 4} (h : mFetch k pc = some (.astore_n n, 1)) (hn : n.val = i) {L' : mLs} (hb : i < L.length) (hl : mSto1 L i (.ref (x + 1)) = L') : mG d k pc L (.ref (x + 1) :: S) lay M P = mG d k (pc + 1) L' S lay M P := mG_inl h (by subst hn; subst hl; simp only [mStep, mStoreA]; rw [if_pos hb]; rfl)
theorem e_lstore {x : Int64} {i : Nat}  (h : mFetch k pc = some (.lstore i, 2)) {L' : mLs} (hb : i + 1 < L.length) (hl : mSto2 L i (.long x) = L') : mG d k pc L (.long x :: S) lay M P = mG d k (pc + 2) L' S lay M P := mG_inl h (by subst hl; simp only [mStep, mStoreL]; rw [if_pos hb]; rfl)
theorem e_lstore_n {x : Int64} {i : Nat} {n : Fin 4} (h : mFetch k pc = some (.lstore_n n, 1)) (hn : n.val = i) {L' : mLs} (hb : i + 1 < L.length) (hl : mSto2 L i (.long x) = L') : mG d k pc L (.long x :: S) lay M P = mG d k (pc + 1) L' S lay M P := mG_inl h (by subst hn; subst hl; simp only [mStep, mStoreL]; rw [if_pos hb]; rfl)
theorem e_iinc {x : Int32} {n : Nat} {z : Int} (h : mFetch k pc = some (.iinc n z, 3)) {L' : mLs} (hx : L[n]? = some (some (.int x))) (hl : mSto1 L n (.int (x + Int32.ofInt z)) = L') : mG d k pc L S lay M P = mG d k (pc + 3) L' S lay M P := mG_inl h (by subst hl; simp only [mStep, hx]; rfl)
theorem e_if_eq {x : Int32} {off : Int} {t : Nat} (h : mFetch k pc = some (.ifCond .eq off, 3)) (ht : (pc : Int) + off = (t : Int)) : mG d k pc L (.int x :: S) lay M P = if x = 0 then mG d k t L S lay M P else mG d k (pc + 3) L S lay M P := by
  by_cases hq : x = 0
  · rw [if_pos hq, mG_inl (pc' := t) (L' := L) (S' := S) (lay' := lay) (M' := M) h (by simp only [mStep, mOp1, mJmp, mC1]; simp only [hq, ht]; simp [mGo])]
  · rw [if_neg hq, mG_inl (pc' := (pc + 3)) (L' := L) (S' := S) (lay' := lay) (M' := M) h (by simp only [mStep, mOp1, mJmp, mC1]; simp only [hq, ht]; simp [mGo])]
theorem e_icmp_eq {x y : Int32} {off : Int} {t : Nat} (h : mFetch k pc = some (.if_icmp .eq off, 3)) (ht : (pc : Int) + off = (t : Int)) : mG d k pc L (.int y :: .int x :: S) lay M P = if x = y then mG d k t L S lay M P else mG d k (pc + 3) L S lay M P := by
  by_cases hq : x = y
  · rw [if_pos hq, mG_inl (pc' := t) (L' := L) (S' := S) (lay' := lay) (M' := M) h (by simp only [mStep, mOp2, mJmp, mC2]; simp only [hq, ht]; simp [mGo])]
  · rw [if_neg hq, mG_inl (pc' := (pc + 3)) (L' := L) (S' := S) (lay' := lay) (M' := M) h (by simp only [mStep, mOp2, mJmp, mC2]; simp only [hq, ht]; simp [mGo])]
theorem e_if_ne {x : Int32} {off : Int} {t : Nat} (h : mFetch k pc = some (.ifCond .ne off, 3)) (ht : (pc : Int) + off = (t : Int)) : mG d k pc L (.int x :: S) lay M P = if x = 0 then mG d k (pc + 3) L S lay M P else mG d k t L S lay M P := by
  by_cases hq : x = 0
  · rw [if_pos hq, mG_inl (pc' := (pc + 3)) (L' := L) (S' := S) (lay' := lay) (M' := M) h (by simp only [mStep, mOp1, mJmp, mC1]; simp only [hq, ht]; simp [mGo])]
  · rw [if_neg hq, mG_inl (pc' := t) (L' := L) (S' := S) (lay' := lay) (M' := M) h (by simp only [mStep, mOp1, mJmp, mC1]; simp only [hq, ht]; simp [mGo])]
theorem e_icmp_ne {x y : Int32} {off : Int} {t : Nat} (h : mFetch k pc = some (.if_icmp .ne off, 3)) (ht : (pc : Int) + off = (t : Int)) : mG d k pc L (.int y :: .int x :: S) lay M P = if x = y then mG d k (pc + 3) L S lay M P else mG d k t L S lay M P := by
  by_cases hq : x = y
  · rw [if_pos hq, mG_inl (pc' := (pc + 3)) (L' := L) (S' := S) (lay' := lay) (M' := M) h (by simp only [mStep, mOp2, mJmp, mC2]; simp only [hq, ht]; simp [mGo])]
  · rw [if_neg hq, mG_inl (pc' := t) (L' := L) (S' := S) (lay' := lay) (M' := M) h (by simp only [mStep, mOp2, mJmp, mC2]; simp only [hq, ht]; simp [mGo])]
theorem e_if_lt {x : Int32} {off : Int} {t : Nat} (h : mFetch k pc = some (.ifCond .lt off, 3)) (ht : (pc : Int) + off = (t : Int)) : mG d k pc L (.int x :: S) lay M P = if x < 0 then mG d k t L S lay M P else mG d k (pc + 3) L S lay M P := by
  by_cases hq : x < 0
  · rw [if_pos hq, mG_inl (pc' := t) (L' := L) (S' := S) (lay' := lay) (M' := M) h (by simp only [mStep, mOp1, mJmp, mC1]; simp only [hq, ht]; simp [mGo])]
  · rw [if_neg hq, mG_inl (pc' := (pc + 3)) (L' := L) (S' := S) (lay' := lay) (M' := M) h (by simp only [mStep, mOp1, mJmp, mC1]; simp only [hq, ht]; simp [mGo])]
theorem e_icmp_lt {x y : Int32} {off : Int} {t : Nat} (h : mFetch k pc = some (.if_icmp .lt off, 3)) (ht : (pc : Int) + off = (t : Int)) : mG d k pc L (.int y :: .int x :: S) lay M P = if x < y then mG d k t L S lay M P else mG d k (pc + 3) L S lay M P := by
  by_cases hq : x < y
  · rw [if_pos hq, mG_inl (pc' := t) (L' := L) (S' := S) (lay' := lay) (M' := M) h (by simp only [mStep, mOp2, mJmp, mC2]; simp only [hq, ht]; simp [mGo])]
  · rw [if_neg hq, mG_inl (pc' := (pc + 3)) (L' := L) (S' := S) (lay' := lay) (M' := M) h (by simp only [mStep, mOp2, mJmp, mC2]; simp only [hq, ht]; simp [mGo])]
theorem e_if_ge {x : Int32} {off : Int} {t : Nat} (h : mFetch k pc = some (.ifCond .ge off, 3)) (ht : (pc : Int) + off = (t : Int)) : mG d k pc L (.int x :: S) lay M P = if x < 0 then mG d k (pc + 3) L S lay M P else mG d k t L S lay M P := by
  by_cases hq : x < 0
  · rw [if_pos hq, mG_inl (pc' := (pc + 3)) (L' := L) (S' := S) (lay' := lay) (M' := M) h (by simp only [mStep, mOp1, mJmp, mC1]; simp only [hq, ht]; simp [mGo])]
  · rw [if_neg hq, mG_inl (pc' := t) (L' := L) (S' := S) (lay' := lay) (M' := M) h (by simp only [mStep, mOp1, mJmp, mC1]; simp only [hq, ht]; simp [mGo])]
theorem e_icmp_ge {x y : Int32} {off : Int} {t : Nat} (h : mFetch k pc = some (.if_icmp .ge off, 3)) (ht : (pc : Int) + off = (t : Int)) : mG d k pc L (.int y :: .int x :: S) lay M P = if x < y then mG d k (pc + 3) L S lay M P else mG d k t L S lay M P := by
  by_cases hq : x < y
  · rw [if_pos hq, mG_inl (pc' := (pc + 3)) (L' := L) (S' := S) (lay' := lay) (M' := M) h (by simp only [mStep, mOp2, mJmp, mC2]; simp only [hq, ht]; simp [mGo])]
  · rw [if_neg hq, mG_inl (pc' := t) (L' := L) (S' := S) (lay' := lay) (M' := M) h (by simp only [mStep, mOp2, mJmp, mC2]; simp only [hq, ht]; simp [mGo])]
theorem e_if_gt {x : Int32} {off : Int} {t : Nat} (h : mFetch k pc = some (.ifCond .gt off, 3)) (ht : (pc : Int) + off = (t : Int)) : mG d k pc L (.int x :: S) lay M P = if 0 < x then mG d k t L S lay M P else mG d k (pc + 3) L S lay M P := by
  by_cases hq : 0 < x
  · rw [if_pos hq, mG_inl (pc' := t) (L' := L) (S' := S) (lay' := lay) (M' := M) h (by simp only [mStep, mOp1, mJmp, mC1]; simp only [hq, ht]; simp [mGo])]
  · rw [if_neg hq, mG_inl (pc' := (pc + 3)) (L' := L) (S' := S) (lay' := lay) (M' := M) h (by simp only [mStep, mOp1, mJmp, mC1]; simp only [hq, ht]; simp [mGo])]
theorem e_icmp_gt {x y : Int32} {off : Int} {t : Nat} (h : mFetch k pc = some (.if_icmp .gt off, 3)) (ht : (pc : Int) + off = (t : Int)) : mG d k pc L (.int y :: .int x :: S) lay M P = if y < x then mG d k t L S lay M P else mG d k (pc + 3) L S lay M P := by
  by_cases hq : y < x
  · rw [if_pos hq, mG_inl (pc' := t) (L' := L) (S' := S) (lay' := lay) (M' := M) h (by simp only [mStep, mOp2, mJmp, mC2]; simp only [hq, ht]; simp [mGo])]
  · rw [if_neg hq, mG_inl (pc' := (pc + 3)) (L' := L) (S' := S) (lay' := lay) (M' := M) h (by simp only [mStep, mOp2, mJmp, mC2]; simp only [hq, ht]; simp [mGo])]
theorem e_if_le {x : Int32} {off : Int} {t : Nat} (h : mFetch k pc = some (.ifCond .le off, 3)) (ht : (pc : Int) + off = (t : Int)) : mG d k pc L (.int x :: S) lay M P = if 0 < x then mG d k (pc + 3) L S lay M P else mG d k t L S lay M P := by
  by_cases hq : 0 < x
  · rw [if_pos hq, mG_inl (pc' := (pc + 3)) (L' := L) (S' := S) (lay' := lay) (M' := M) h (by simp only [mStep, mOp1, mJmp, mC1]; simp only [hq, ht]; simp [mGo])]
  · rw [if_neg hq, mG_inl (pc' := t) (L' := L) (S' := S) (lay' := lay) (M' := M) h (by simp only [mStep, mOp1, mJmp, mC1]; simp only [hq, ht]; simp [mGo])]
theorem e_icmp_le {x y : Int32} {off : Int} {t : Nat} (h : mFetch k pc = some (.if_icmp .le off, 3)) (ht : (pc : Int) + off = (t : Int)) : mG d k pc L (.int y :: .int x :: S) lay M P = if y < x then mG d k (pc + 3) L S lay M P else mG d k t L S lay M P := by
  by_cases hq : y < x
  · rw [if_pos hq, mG_inl (pc' := (pc + 3)) (L' := L) (S' := S) (lay' := lay) (M' := M) h (by simp only [mStep, mOp2, mJmp, mC2]; simp only [hq, ht]; simp [mGo])]
  · rw [if_neg hq, mG_inl (pc' := t) (L' := L) (S' := S) (lay' := lay) (M' := M) h (by simp only [mStep, mOp2, mJmp, mC2]; simp only [hq, ht]; simp [mGo])]
theorem e_goto {off : Int} {t : Nat} (h : mFetch k pc = some (.goto off, 3)) (ht : (pc : Int) + off = (t : Int)) : mG d k pc L S lay M P = mG d k t L S lay M P := mG_inl h (by simp only [mStep, mJmp]; simp only [ht]; simp [mGo])
theorem e_tswitch {len : Nat} {dflt lo hi : Int} {offs : Array Int} {x : Int32} {t : Nat} (h : mFetch k pc = some (.tableswitch dflt lo hi offs, len)) (ht : (if x.toInt < lo ∨ hi < x.toInt then some dflt else offs[(x.toInt - lo).toNat]?).map (fun o => (pc : Int) + o) = some (t : Int)) : mG d k pc L (.int x :: S) lay M P = mG d k t L S lay M P := by
  refine mG_inl h ?_
  simp only [mStep, mOp1]
  by_cases hq : x.toInt < lo ∨ hi < x.toInt
  · rw [if_pos hq] at ht ⊢
    simp only [Option.map_some, Option.some.injEq] at ht
    simp only [mJmp, ht]
    simp [mGo]
  · rw [if_neg hq] at ht ⊢
    cases ho : offs[(x.toInt - lo).toNat]? with
    | none => rw [ho] at ht; cases ht
    | some o =>
      rw [ho] at ht
      simp only [Option.map_some, Option.some.injEq] at ht
      simp only [mJmp, ht]
      simp [mGo]
theorem e_lswitch {len : Nat} {dflt : Int} {ps : Array (Int × Int)} {x : Int32} {t : Nat} (h : mFetch k pc = some (.lookupswitch dflt ps, len)) (ht : (pc : Int) + Op.lookupswitch.offset ps.toList dflt x.toInt = (t : Int)) : mG d k pc L (.int x :: S) lay M P = mG d k t L S lay M P := mG_inl h (by simp only [mStep, mOp1, mJmp, ht]; simp [mGo])
theorem e_dupi {x : Int32} (h : mFetch k pc = some (.dup, 1)) : mG d k pc L (.int x :: S) lay M P = mG d k (pc + 1) L (.int x :: .int x :: S) lay M P := mG_inl h rfl
theorem e_popi {x : Int32} (h : mFetch k pc = some (.pop, 1)) : mG d k pc L (.int x :: S) lay M P = mG d k (pc + 1) L S lay M P := mG_inl h rfl
theorem e_dupr {x : Nat} (h : mFetch k pc = some (.dup, 1)) : mG d k pc L (.ref x :: S) lay M P = mG d k (pc + 1) L (.ref x :: .ref x :: S) lay M P := mG_inl h rfl
theorem e_popr {x : Nat} (h : mFetch k pc = some (.pop, 1)) : mG d k pc L (.ref x :: S) lay M P = mG d k (pc + 1) L S lay M P := mG_inl h rfl
theorem e_dup2 {x : Int32} {y : Nat} (h : mFetch k pc = some (.dup2, 1)) : mG d k pc L (.int x :: .ref y :: S) lay M P = mG d k (pc + 1) L (.int x :: .ref y :: .int x :: .ref y :: S) lay M P := mG_inl h rfl
theorem e_getI {r cp nst ci j : Nat} {z : Int} (h : mFetch k pc = some (.getfield cp, 3)) (hf : mFindR (mFl (mM k).1) cp = some (nst, ci, j, z)) (ht : mTy ci j = .int) : mG d k pc L (.ref r :: S) lay M P = (mIsO lay r ci j = true ∧ mG d k (pc + 3) L (.int (M.1 r j) :: S) lay M P) := by
  unfold mIsO
  cases hs : mSh lay r with
  | none => rw [mG_none h (by simp only [mStep, mGetF, hf, hs])]; simp
  | some q =>
    obtain ⟨kd, n⟩ := q
    by_cases hc : kd = ci + 3 ∧ j < n
    · rw [mG_inl h (by simp only [mStep, mGetF, hf, hs]; rw [if_pos hc, ht]; rfl)]; simp [hc]
    · rw [mG_none h (by simp only [mStep, mGetF, hf, hs]; rw [if_neg hc])]; simp [hc]
theorem e_getZ {r cp nst ci j : Nat} {z : Int} (h : mFetch k pc = some (.getfield cp, 3)) (hf : mFindR (mFl (mM k).1) cp = some (nst, ci, j, z)) (ht : mTy ci j = .boolean) : mG d k pc L (.ref r :: S) lay M P = (mIsO lay r ci j = true ∧ mG d k (pc + 3) L (.int (M.1 r j) :: S) lay M P) := by
  unfold mIsO
  cases hs : mSh lay r with
  | none => rw [mG_none h (by simp only [mStep, mGetF, hf, hs])]; simp
  | some q =>
    obtain ⟨kd, n⟩ := q
    by_cases hc : kd = ci + 3 ∧ j < n
    · rw [mG_inl h (by simp only [mStep, mGetF, hf, hs]; rw [if_pos hc, ht]; rfl)]; simp [hc]
    · rw [mG_none h (by simp only [mStep, mGetF, hf, hs]; rw [if_neg hc])]; simp [hc]
theorem e_getO {r cp nst ci j : Nat} {z : Int} {C : String} (h : mFetch k pc = some (.getfield cp, 3)) (hf : mFindR (mFl (mM k).1) cp = some (nst, ci, j, z)) (ht : mTy ci j = .object C) : mG d k pc L (.ref r :: S) lay M P = (mIsO lay r ci j = true ∧ mG d k (pc + 3) L (.ref (M.2.2 r j) :: S) lay M P) := by
  unfold mIsO
  cases hs : mSh lay r with
  | none => rw [mG_none h (by simp only [mStep, mGetF, hf, hs])]; simp
  | some q =>
    obtain ⟨kd, n⟩ := q
    by_cases hc : kd = ci + 3 ∧ j < n
    · rw [mG_inl h (by simp only [mStep, mGetF, hf, hs]; rw [if_pos hc, ht]; rfl)]; simp [hc]
    · rw [mG_none h (by simp only [mStep, mGetF, hf, hs]; rw [if_neg hc])]; simp [hc]
theorem e_getA {r cp nst ci j : Nat} {z : Int} {C : FieldType} (h : mFetch k pc = some (.getfield cp, 3)) (hf : mFindR (mFl (mM k).1) cp = some (nst, ci, j, z)) (ht : mTy ci j = .array C) : mG d k pc L (.ref r :: S) lay M P = (mIsO lay r ci j = true ∧ mG d k (pc + 3) L (.ref (M.2.2 r j) :: S) lay M P) := by
  unfold mIsO
  cases hs : mSh lay r with
  | none => rw [mG_none h (by simp only [mStep, mGetF, hf, hs])]; simp
  | some q =>
    obtain ⟨kd, n⟩ := q
    by_cases hc : kd = ci + 3 ∧ j < n
    · rw [mG_inl h (by simp only [mStep, mGetF, hf, hs]; rw [if_pos hc, ht]; rfl)]; simp [hc]
    · rw [mG_none h (by simp only [mStep, mGetF, hf, hs]; rw [if_neg hc])]; simp [hc]
theorem e_putI {x : Int32} {r cp nst ci j : Nat} {z : Int} (h : mFetch k pc = some (.putfield cp, 3)) (hf : mFindR (mFl (mM k).1) cp = some (nst, ci, j, z)) (hfin : ((mCl ci).2.1 j).2.2.2 = false ∨ ((mM k).2.2.2.2.2.2.1 = true ∧ ci = (mM k).1 ∧ nst = 0)) (ht : mTy ci j = .int) : mG d k pc L (.int x :: .ref r :: S) lay M P = (mIsO lay r ci j = true ∧ mG d k (pc + 3) L S lay (mSetI M r j x) P) := by
  unfold mIsO
  cases hs : mSh lay r with
  | none => rw [mG_none h (by simp only [mStep, mPutF, hf, hs])]; simp
  | some q =>
    obtain ⟨kd, n⟩ := q
    by_cases hc : kd = ci + 3 ∧ j < n
    · have hc2 : kd = ci + 3 ∧ j < n ∧ (((mCl ci).2.1 j).2.2.2 = false ∨ ((mM k).2.2.2.2.2.2.1 = true ∧ ci = (mM k).1 ∧ nst = 0)) := ⟨hc.1, hc.2, hfin⟩
      rw [mG_inl h (by simp only [mStep, mPutF, hf, hs]; rw [if_pos hc2, ht]; rfl)]; simp [hc]
    · have hc2 : ¬ (kd = ci + 3 ∧ j < n ∧ (((mCl ci).2.1 j).2.2.2 = false ∨ ((mM k).2.2.2.2.2.2.1 = true ∧ ci = (mM k).1 ∧ nst = 0))) := fun q => hc ⟨q.1, q.2.1⟩
      rw [mG_none h (by simp only [mStep, mPutF, hf, hs]; rw [if_neg hc2])]; simp [hc]
theorem e_putZ {x : Int32} {r cp nst ci j : Nat} {z : Int} (h : mFetch k pc = some (.putfield cp, 3)) (hf : mFindR (mFl (mM k).1) cp = some (nst, ci, j, z)) (hfin : ((mCl ci).2.1 j).2.2.2 = false ∨ ((mM k).2.2.2.2.2.2.1 = true ∧ ci = (mM k).1 ∧ nst = 0)) (ht : mTy ci j = .boolean) : mG d k pc L (.int x :: .ref r :: S) lay M P = (mIsO lay r ci j = true ∧ (x = 0 ∨ x = 1) ∧ mG d k (pc + 3) L S lay (mSetI M r j x) P) := by
  unfold mIsO
  cases hs : mSh lay r with
  | none => rw [mG_none h (by simp only [mStep, mPutF, hf, hs])]; simp
  | some q =>
    obtain ⟨kd, n⟩ := q
    by_cases hc : kd = ci + 3 ∧ j < n
    · have hc2 : kd = ci + 3 ∧ j < n ∧ (((mCl ci).2.1 j).2.2.2 = false ∨ ((mM k).2.2.2.2.2.2.1 = true ∧ ci = (mM k).1 ∧ nst = 0)) := ⟨hc.1, hc.2, hfin⟩
      by_cases hx : x = 0 ∨ x = 1
      · rw [mG_inl h (by simp only [mStep, mPutF, hf, hs]; rw [if_pos hc2, ht]; dsimp only; rw [if_pos hx]; rfl)]; simp [hc, hx]
      · rw [mG_none h (by simp only [mStep, mPutF, hf, hs]; rw [if_pos hc2, ht]; dsimp only; rw [if_neg hx])]; simp [hx]
    · have hc2 : ¬ (kd = ci + 3 ∧ j < n ∧ (((mCl ci).2.1 j).2.2.2 = false ∨ ((mM k).2.2.2.2.2.2.1 = true ∧ ci = (mM k).1 ∧ nst = 0))) := fun q => hc ⟨q.1, q.2.1⟩
      rw [mG_none h (by simp only [mStep, mPutF, hf, hs]; rw [if_neg hc2])]; simp [hc]
theorem e_putO {x : Nat} {C : String} {r cp nst ci j : Nat} {z : Int} (h : mFetch k pc = some (.putfield cp, 3)) (hf : mFindR (mFl (mM k).1) cp = some (nst, ci, j, z)) (hfin : ((mCl ci).2.1 j).2.2.2 = false ∨ ((mM k).2.2.2.2.2.2.1 = true ∧ ci = (mM k).1 ∧ nst = 0)) (ht : mTy ci j = .object C) : mG d k pc L (.ref x :: .ref r :: S) lay M P = (mIsO lay r ci j = true ∧ mG d k (pc + 3) L S lay (mSetR M r j x) P) := by
  unfold mIsO
  cases hs : mSh lay r with
  | none => rw [mG_none h (by simp only [mStep, mPutF, hf, hs])]; simp
  | some q =>
    obtain ⟨kd, n⟩ := q
    by_cases hc : kd = ci + 3 ∧ j < n
    · have hc2 : kd = ci + 3 ∧ j < n ∧ (((mCl ci).2.1 j).2.2.2 = false ∨ ((mM k).2.2.2.2.2.2.1 = true ∧ ci = (mM k).1 ∧ nst = 0)) := ⟨hc.1, hc.2, hfin⟩
      rw [mG_inl h (by simp only [mStep, mPutF, hf, hs]; rw [if_pos hc2, ht]; rfl)]; simp [hc]
    · have hc2 : ¬ (kd = ci + 3 ∧ j < n ∧ (((mCl ci).2.1 j).2.2.2 = false ∨ ((mM k).2.2.2.2.2.2.1 = true ∧ ci = (mM k).1 ∧ nst = 0))) := fun q => hc ⟨q.1, q.2.1⟩
      rw [mG_none h (by simp only [mStep, mPutF, hf, hs]; rw [if_neg hc2])]; simp [hc]
theorem e_putA {x : Nat} {C : FieldType} {r cp nst ci j : Nat} {z : Int} (h : mFetch k pc = some (.putfield cp, 3)) (hf : mFindR (mFl (mM k).1) cp = some (nst, ci, j, z)) (hfin : ((mCl ci).2.1 j).2.2.2 = false ∨ ((mM k).2.2.2.2.2.2.1 = true ∧ ci = (mM k).1 ∧ nst = 0)) (ht : mTy ci j = .array C) : mG d k pc L (.ref x :: .ref r :: S) lay M P = (mIsO lay r ci j = true ∧ mG d k (pc + 3) L S lay (mSetR M r j x) P) := by
  unfold mIsO
  cases hs : mSh lay r with
  | none => rw [mG_none h (by simp only [mStep, mPutF, hf, hs])]; simp
  | some q =>
    obtain ⟨kd, n⟩ := q
    by_cases hc : kd = ci + 3 ∧ j < n
    · have hc2 : kd = ci + 3 ∧ j < n ∧ (((mCl ci).2.1 j).2.2.2 = false ∨ ((mM k).2.2.2.2.2.2.1 = true ∧ ci = (mM k).1 ∧ nst = 0)) := ⟨hc.1, hc.2, hfin⟩
      rw [mG_inl h (by simp only [mStep, mPutF, hf, hs]; rw [if_pos hc2, ht]; rfl)]; simp [hc]
    · have hc2 : ¬ (kd = ci + 3 ∧ j < n ∧ (((mCl ci).2.1 j).2.2.2 = false ∨ ((mM k).2.2.2.2.2.2.1 = true ∧ ci = (mM k).1 ∧ nst = 0))) := fun q => hc ⟨q.1, q.2.1⟩
      rw [mG_none h (by simp only [mStep, mPutF, hf, hs]; rw [if_neg hc2])]; simp [hc]
theorem e_iaload {r n : Nat} {i : Int32} (h : mFetch k pc = some (.iaload, 1)) (hs : mSh lay r = some (0, n)) : mG d k pc L (.int i :: .ref r :: S) lay M P = (mIdx i n = true ∧ mG d k (pc + 1) L (.int (M.1 r i.toNatClampNeg) :: S) lay M P) := by
  by_cases hi : mIdx i n = true
  · rw [mG_inl h (by simp only [mStep, mIald, hs]; rw [if_pos hi]; rfl)]; simp [hi]
  · rw [mG_none h (by simp only [mStep, mIald, hs]; rw [if_neg hi])]; simp [hi]
theorem e_iaload1 {i : Int32} (h : mFetch k pc = some (.iaload, 1)) : mG d k pc L (.int i :: .ref 1 :: S) lay M P = (mIdx i 8 = true ∧ mG d k (pc + 1) L (.int (mAb i.toNatClampNeg) :: S) lay M P) := by
  by_cases hi : mIdx i 8 = true
  · rw [mG_inl h (by simp only [mStep, mIald, mSh]; rw [if_pos hi]; rfl)]; simp [hi]
  · rw [mG_none h (by simp only [mStep, mIald, mSh]; rw [if_neg hi])]; simp [hi]
theorem e_iaload2 {i : Int32} (h : mFetch k pc = some (.iaload, 1)) : mG d k pc L (.int i :: .ref 2 :: S) lay M P = (mIdx i 32 = true ∧ mG d k (pc + 1) L (.int (mBo i.toNatClampNeg) :: S) lay M P) := by
  by_cases hi : mIdx i 32 = true
  · rw [mG_inl h (by simp only [mStep, mIald, mSh]; rw [if_pos hi]; rfl)]; simp [hi]
  · rw [mG_none h (by simp only [mStep, mIald, mSh]; rw [if_neg hi])]; simp [hi]
theorem e_caload {r n : Nat} {i : Int32} (h : mFetch k pc = some (.caload, 1)) (hs : mSh lay r = some (2, n)) : mG d k pc L (.int i :: .ref r :: S) lay M P = (mIdx i n = true ∧ mG d k (pc + 1) L (.int (M.1 r i.toNatClampNeg) :: S) lay M P) := by
  by_cases hi : mIdx i n = true
  · rw [mG_inl h (by simp only [mStep, mCald, hs]; rw [if_pos ⟨trivial, hi⟩]; rfl)]; simp [hi]
  · rw [mG_none h (by simp only [mStep, mCald, hs]; rw [if_neg (fun q => hi q.2)])]; simp [hi]
theorem e_laload {r n : Nat} {i : Int32} (h : mFetch k pc = some (.laload, 1)) (hs : mSh lay r = some (1, n)) : mG d k pc L (.int i :: .ref r :: S) lay M P = (mIdx i n = true ∧ mG d k (pc + 1) L (.long (M.2.1 r i.toNatClampNeg) :: S) lay M P) := by
  by_cases hi : mIdx i n = true
  · rw [mG_inl h (by simp only [mStep, mLald, hs]; rw [if_pos ⟨trivial, hi⟩]; rfl)]; simp [hi]
  · rw [mG_none h (by simp only [mStep, mLald, hs]; rw [if_neg (fun q => hi q.2)])]; simp [hi]
theorem e_iastore {x : Int32} {r n : Nat} {i : Int32} (h : mFetch k pc = some (.iastore, 1)) (hs : mSh lay r = some (0, n)) : mG d k pc L (.int x :: .int i :: .ref r :: S) lay M P = (mIdx i n = true ∧ mG d k (pc + 1) L S lay (mSetI M r i.toNatClampNeg x) P) := by
  by_cases hi : mIdx i n = true
  · rw [mG_inl h (by simp only [mStep, mIast, hs]; rw [if_pos ⟨trivial, hi⟩]; rfl)]; simp [hi]
  · rw [mG_none h (by simp only [mStep, mIast, hs]; rw [if_neg (fun q => hi q.2)])]; simp [hi]
theorem e_castore {x : Int32} {r n : Nat} {i : Int32} (h : mFetch k pc = some (.castore, 1)) (hs : mSh lay r = some (2, n)) : mG d k pc L (.int x :: .int i :: .ref r :: S) lay M P = (mIdx i n = true ∧ mG d k (pc + 1) L S lay (mSetI M r i.toNatClampNeg (vp_nar .char x)) P) := by
  by_cases hi : mIdx i n = true
  · rw [mG_inl h (by simp only [mStep, mCast, hs]; rw [if_pos ⟨trivial, hi⟩]; rfl)]; simp [hi]
  · rw [mG_none h (by simp only [mStep, mCast, hs]; rw [if_neg (fun q => hi q.2)])]; simp [hi]
theorem e_lastore {x : Int64} {r n : Nat} {i : Int32} (h : mFetch k pc = some (.lastore, 1)) (hs : mSh lay r = some (1, n)) : mG d k pc L (.long x :: .int i :: .ref r :: S) lay M P = (mIdx i n = true ∧ mG d k (pc + 1) L S lay (mSetL M r i.toNatClampNeg x) P) := by
  by_cases hi : mIdx i n = true
  · rw [mG_inl h (by simp only [mStep, mLast, hs]; rw [if_pos ⟨trivial, hi⟩]; rfl)]; simp [hi]
  · rw [mG_none h (by simp only [mStep, mLast, hs]; rw [if_neg (fun q => hi q.2)])]; simp [hi]
theorem e_alen {r kd n : Nat} (h : mFetch k pc = some (.arraylength, 1)) (hs : mSh lay r = some (kd, n)) (hk : kd < 3 ∨ kd = 98 ∨ kd = 97) : mG d k pc L (.ref r :: S) lay M P = mG d k (pc + 1) L (.int (Int32.ofNat n) :: S) lay M P := mG_inl h (by simp only [mStep, mAlen, hs]; rw [if_pos hk]; rfl)
theorem e_getstatic {cp w a b : Nat} {z : Int} (h : mFetch k pc = some (.getstatic cp, 3)) (hf : mFindR (mSf (mM k).1) cp = some (w, a, b, z)) : mG d k pc L S lay M P = mG d k (pc + 3) L (.ref w :: S) lay M P := mG_inl h (by simp only [mStep, hf]; rfl)
theorem e_newa_int {n : Int32} (h : mFetch k pc = some (.newarray .int, 2)) (hn : 0 ≤ n.toInt ∧ n.toInt ≤ 100000) : mG d k pc L (.int n :: S) lay M P = mG d k (pc + 2) L (.ref (lay.length + 3) :: S) (lay ++ [(0, n.toNatClampNeg)]) (mNew M (lay.length + 3)) P := mG_inl h (by simp only [mStep, mNewa]; rw [if_pos hn]; rfl)
theorem e_newa_long {n : Int32} (h : mFetch k pc = some (.newarray .long, 2)) (hn : 0 ≤ n.toInt ∧ n.toInt ≤ 100000) : mG d k pc L (.int n :: S) lay M P = mG d k (pc + 2) L (.ref (lay.length + 3) :: S) (lay ++ [(1, n.toNatClampNeg)]) (mNew M (lay.length + 3)) P := mG_inl h (by simp only [mStep, mNewa]; rw [if_pos hn]; rfl)
theorem e_newa_char {n : Int32} (h : mFetch k pc = some (.newarray .char, 2)) (hn : 0 ≤ n.toInt ∧ n.toInt ≤ 100000) : mG d k pc L (.int n :: S) lay M P = mG d k (pc + 2) L (.ref (lay.length + 3) :: S) (lay ++ [(2, n.toNatClampNeg)]) (mNew M (lay.length + 3)) P := mG_inl h (by simp only [mStep, mNewa]; rw [if_pos hn]; rfl)
theorem e_new {cp ci a b : Nat} {z : Int} (h : mFetch k pc = some (.new cp, 3)) (hf : mFindR (mCs (mM k).1) cp = some (ci, a, b, z)) : mG d k pc L S lay M P = mG d k (pc + 3) L (.ref (lay.length + 3) :: S) (lay ++ [(ci + 3, (mCl ci).2.2)]) (mNew M (lay.length + 3)) P := mG_inl h (by simp only [mStep, mNewO, hf]; rfl)
theorem e_objInit {cp a b r : Nat} {z : Int} (h : mFetch k pc = some (.invokespecial cp, 3)) (hf : mFindR (mPr (mM k).1) cp = some (0, a, b, z)) (hc : mCat S ≤ 8) : mG d k pc L (.ref (r + 1) :: S) lay M P = mG d k (pc + 3) L S lay M P := mG_inl h (by simp only [mStep, hf, mPrim]; rw [if_pos trivial, if_pos hc]; rfl)
theorem e_max {cp a b : Nat} {z : Int} {x y : Int32} (h : mFetch k pc = some (.invokestatic cp, 3)) (hf : mFindR (mPr (mM k).1) cp = some (1, a, b, z)) (hc : mCat S ≤ 8) : mG d k pc L (.int y :: .int x :: S) lay M P = mG d k (pc + 3) L (.int (if x < y then y else x) :: S) lay M P := mG_inl h (by simp only [mStep, hf, mPrim]; rw [if_neg (by decide), if_pos hc]; rfl)
theorem e_min {cp a b : Nat} {z : Int} {x y : Int32} (h : mFetch k pc = some (.invokestatic cp, 3)) (hf : mFindR (mPr (mM k).1) cp = some (2, a, b, z)) (hc : mCat S ≤ 8) : mG d k pc L (.int y :: .int x :: S) lay M P = mG d k (pc + 3) L (.int (if y < x then y else x) :: S) lay M P := mG_inl h (by simp only [mStep, hf, mPrim]; rw [if_neg (by decide), if_pos hc]; rfl)
theorem e_abs {cp a b : Nat} {z : Int} {x : Int32} (h : mFetch k pc = some (.invokestatic cp, 3)) (hf : mFindR (mPr (mM k).1) cp = some (3, a, b, z)) (hc : mCat S ≤ 8) : mG d k pc L (.int x :: S) lay M P = mG d k (pc + 3) L (.int (if 0 ≤ x then x else 0 - x) :: S) lay M P := mG_inl h (by simp only [mStep, hf, mPrim]; rw [if_neg (by decide), if_pos hc]; rfl)
theorem e_copyI {cp a b r0 r1 n0 n1 : Nat} {z : Int} {n sp dp : Int32} (h : mFetch k pc = some (.invokestatic cp, 3)) (hf : mFindR (mPr (mM k).1) cp = some (4, a, b, z)) (h0 : mSh lay r0 = some (0, n0)) (h1 : mSh lay r1 = some (0, n1)) (hc : 0 ≤ n.toInt ∧ 0 ≤ dp.toInt ∧ 0 ≤ sp.toInt ∧ sp.toNatClampNeg + n.toNatClampNeg ≤ n0 ∧ dp.toNatClampNeg + n.toNatClampNeg ≤ n1 ∧ mCat S ≤ 8) : mG d k pc L (.int n :: .int dp :: .ref r1 :: .int sp :: .ref r0 :: S) lay M P = mG d k (pc + 3) L S lay (mCpyI M r0 r1 sp.toNatClampNeg dp.toNatClampNeg n.toNatClampNeg) P := mG_inl h (by simp only [mStep, hf, mPrim, mCopy, h0, h1]; rw [if_neg (by decide), if_pos hc]; rfl)
theorem e_copyL {cp a b r0 r1 n0 n1 : Nat} {z : Int} {n sp dp : Int32} (h : mFetch k pc = some (.invokestatic cp, 3)) (hf : mFindR (mPr (mM k).1) cp = some (4, a, b, z)) (h0 : mSh lay r0 = some (1, n0)) (h1 : mSh lay r1 = some (1, n1)) (hc : 0 ≤ n.toInt ∧ 0 ≤ dp.toInt ∧ 0 ≤ sp.toInt ∧ sp.toNatClampNeg + n.toNatClampNeg ≤ n0 ∧ dp.toNatClampNeg + n.toNatClampNeg ≤ n1 ∧ mCat S ≤ 8) : mG d k pc L (.int n :: .int dp :: .ref r1 :: .int sp :: .ref r0 :: S) lay M P = mG d k (pc + 3) L S lay (mCpyL M r0 r1 sp.toNatClampNeg dp.toNatClampNeg n.toNatClampNeg) P := mG_inl h (by simp only [mStep, hf, mPrim, mCopy, h0, h1]; rw [if_neg (by decide), if_pos hc]; rfl)
theorem e_static0 {cp j nst a : Nat} {z : Int}  (h : mFetch (k) pc = some (.invokestatic cp, 3)) (hp : mFindR (mPr (mM k).1) cp = none) (hf : mFindR (mMt (mM k).1) cp = some (nst, j, a, z)) (hn : (mM j).2.2.2.2.2.1 = 0) (hs : (mM j).2.2.2.2.2.2.2 = true) (hc : mCat S ≤ 8) : mG (d + 1) k pc L (S) lay M P = mF d j [] lay M (fun v lay1 M1 => mG (d + 1) k (pc + 3) L (v.toList ++ S) lay1 M1 P) := mG_call h (by simp only [mStep, hp, mInv, hf, hn]; rw [if_pos trivial, if_pos ⟨hs, by simp, hc⟩]; rfl)
theorem e_virt0 {cp j nst a r c n : Nat} {z : Int}  (h : mFetch (k) pc = some (.invokevirtual cp, 3)) (hf : mFindR (mMt (mM k).1) cp = some (nst, j, a, z)) (hn : (mM j).2.2.2.2.2.1 = 0) (hs : (mM j).2.2.2.2.2.2.2 = false) (hi : (mM j).2.2.2.2.2.2.1 = false) (hk : (mM j).1 = c) (hsh : mSh lay (r + 1) = some (c + 3, n)) (hc : mCat S ≤ 8) : mG (d + 1) k pc L (.ref (r + 1) :: S) lay M P = mF d j (.ref (r + 1) :: []) lay M (fun v lay1 M1 => mG (d + 1) k (pc + 3) L (v.toList ++ S) lay1 M1 P) := mG_call h (by subst hk; simp only [mStep, mInv, hf, hn]; rw [if_neg (by decide)]; simp only [List.drop_succ_cons, List.drop_zero]; rw [if_pos ⟨hs, by rw [hi]; rfl, by simp, hc⟩]; simp only [hsh]; rw [if_pos trivial]; rfl)
theorem e_init0 {cp j nst a r c n : Nat} {z : Int}  (h : mFetch (k) pc = some (.invokespecial cp, 3)) (hp : mFindR (mPr (mM k).1) cp = none) (hf : mFindR (mMt (mM k).1) cp = some (nst, j, a, z)) (hn : (mM j).2.2.2.2.2.1 = 0) (hs : (mM j).2.2.2.2.2.2.2 = false) (hi : (mM j).2.2.2.2.2.2.1 = true) (hk : (mM j).1 = c) (hsh : mSh lay (r + 1) = some (c + 3, n)) (hc : mCat S ≤ 8) : mG (d + 1) k pc L (.ref (r + 1) :: S) lay M P = mF d j (.ref (r + 1) :: []) lay M (fun v lay1 M1 => mG (d + 1) k (pc + 3) L (v.toList ++ S) lay1 M1 P) := mG_call h (by subst hk; simp only [mStep, hp, mInv, hf, hn]; rw [if_neg (by decide)]; simp only [List.drop_zero]; rw [if_pos ⟨hs, by rw [hi]; rfl, by simp, hc⟩]; simp only [hsh]; rw [if_pos trivial]; rfl)
theorem e_static1 {cp j nst a : Nat} {z : Int} {x0 : Value} (h : mFetch (k) pc = some (.invokestatic cp, 3)) (hp : mFindR (mPr (mM k).1) cp = none) (hf : mFindR (mMt (mM k).1) cp = some (nst, j, a, z)) (hn : (mM j).2.2.2.2.2.1 = 1) (hs : (mM j).2.2.2.2.2.2.2 = true) (hc : mCat S ≤ 8) : mG (d + 1) k pc L (x0 :: S) lay M P = mF d j [x0] lay M (fun v lay1 M1 => mG (d + 1) k (pc + 3) L (v.toList ++ S) lay1 M1 P) := mG_call h (by simp only [mStep, hp, mInv, hf, hn]; rw [if_pos trivial, if_pos ⟨hs, by simp, hc⟩]; rfl)
theorem e_virt1 {cp j nst a r c n : Nat} {z : Int} {x0 : Value} (h : mFetch (k) pc = some (.invokevirtual cp, 3)) (hf : mFindR (mMt (mM k).1) cp = some (nst, j, a, z)) (hn : (mM j).2.2.2.2.2.1 = 1) (hs : (mM j).2.2.2.2.2.2.2 = false) (hi : (mM j).2.2.2.2.2.2.1 = false) (hk : (mM j).1 = c) (hsh : mSh lay (r + 1) = some (c + 3, n)) (hc : mCat S ≤ 8) : mG (d + 1) k pc L (x0 :: .ref (r + 1) :: S) lay M P = mF d j (.ref (r + 1) :: [x0]) lay M (fun v lay1 M1 => mG (d + 1) k (pc + 3) L (v.toList ++ S) lay1 M1 P) := mG_call h (by subst hk; simp only [mStep, mInv, hf, hn]; rw [if_neg (by decide)]; simp only [List.drop_succ_cons, List.drop_zero]; rw [if_pos ⟨hs, by rw [hi]; rfl, by simp, hc⟩]; simp only [hsh]; rw [if_pos trivial]; rfl)
theorem e_static2 {cp j nst a : Nat} {z : Int} {x0 x1 : Value} (h : mFetch (k) pc = some (.invokestatic cp, 3)) (hp : mFindR (mPr (mM k).1) cp = none) (hf : mFindR (mMt (mM k).1) cp = some (nst, j, a, z)) (hn : (mM j).2.2.2.2.2.1 = 2) (hs : (mM j).2.2.2.2.2.2.2 = true) (hc : mCat S ≤ 8) : mG (d + 1) k pc L (x1 :: x0 :: S) lay M P = mF d j [x0, x1] lay M (fun v lay1 M1 => mG (d + 1) k (pc + 3) L (v.toList ++ S) lay1 M1 P) := mG_call h (by simp only [mStep, hp, mInv, hf, hn]; rw [if_pos trivial, if_pos ⟨hs, by simp, hc⟩]; rfl)
theorem e_virt2 {cp j nst a r c n : Nat} {z : Int} {x0 x1 : Value} (h : mFetch (k) pc = some (.invokevirtual cp, 3)) (hf : mFindR (mMt (mM k).1) cp = some (nst, j, a, z)) (hn : (mM j).2.2.2.2.2.1 = 2) (hs : (mM j).2.2.2.2.2.2.2 = false) (hi : (mM j).2.2.2.2.2.2.1 = false) (hk : (mM j).1 = c) (hsh : mSh lay (r + 1) = some (c + 3, n)) (hc : mCat S ≤ 8) : mG (d + 1) k pc L (x1 :: x0 :: .ref (r + 1) :: S) lay M P = mF d j (.ref (r + 1) :: [x0, x1]) lay M (fun v lay1 M1 => mG (d + 1) k (pc + 3) L (v.toList ++ S) lay1 M1 P) := mG_call h (by subst hk; simp only [mStep, mInv, hf, hn]; rw [if_neg (by decide)]; simp only [List.drop_succ_cons, List.drop_zero]; rw [if_pos ⟨hs, by rw [hi]; rfl, by simp, hc⟩]; simp only [hsh]; rw [if_pos trivial]; rfl)
theorem e_static3 {cp j nst a : Nat} {z : Int} {x0 x1 x2 : Value} (h : mFetch (k) pc = some (.invokestatic cp, 3)) (hp : mFindR (mPr (mM k).1) cp = none) (hf : mFindR (mMt (mM k).1) cp = some (nst, j, a, z)) (hn : (mM j).2.2.2.2.2.1 = 3) (hs : (mM j).2.2.2.2.2.2.2 = true) (hc : mCat S ≤ 8) : mG (d + 1) k pc L (x2 :: x1 :: x0 :: S) lay M P = mF d j [x0, x1, x2] lay M (fun v lay1 M1 => mG (d + 1) k (pc + 3) L (v.toList ++ S) lay1 M1 P) := mG_call h (by simp only [mStep, hp, mInv, hf, hn]; rw [if_pos trivial, if_pos ⟨hs, by simp, hc⟩]; rfl)
theorem e_virt3 {cp j nst a r c n : Nat} {z : Int} {x0 x1 x2 : Value} (h : mFetch (k) pc = some (.invokevirtual cp, 3)) (hf : mFindR (mMt (mM k).1) cp = some (nst, j, a, z)) (hn : (mM j).2.2.2.2.2.1 = 3) (hs : (mM j).2.2.2.2.2.2.2 = false) (hi : (mM j).2.2.2.2.2.2.1 = false) (hk : (mM j).1 = c) (hsh : mSh lay (r + 1) = some (c + 3, n)) (hc : mCat S ≤ 8) : mG (d + 1) k pc L (x2 :: x1 :: x0 :: .ref (r + 1) :: S) lay M P = mF d j (.ref (r + 1) :: [x0, x1, x2]) lay M (fun v lay1 M1 => mG (d + 1) k (pc + 3) L (v.toList ++ S) lay1 M1 P) := mG_call h (by subst hk; simp only [mStep, mInv, hf, hn]; rw [if_neg (by decide)]; simp only [List.drop_succ_cons, List.drop_zero]; rw [if_pos ⟨hs, by rw [hi]; rfl, by simp, hc⟩]; simp only [hsh]; rw [if_pos trivial]; rfl)
theorem e_static4 {cp j nst a : Nat} {z : Int} {x0 x1 x2 x3 : Value} (h : mFetch (k) pc = some (.invokestatic cp, 3)) (hp : mFindR (mPr (mM k).1) cp = none) (hf : mFindR (mMt (mM k).1) cp = some (nst, j, a, z)) (hn : (mM j).2.2.2.2.2.1 = 4) (hs : (mM j).2.2.2.2.2.2.2 = true) (hc : mCat S ≤ 8) : mG (d + 1) k pc L (x3 :: x2 :: x1 :: x0 :: S) lay M P = mF d j [x0, x1, x2, x3] lay M (fun v lay1 M1 => mG (d + 1) k (pc + 3) L (v.toList ++ S) lay1 M1 P) := mG_call h (by simp only [mStep, hp, mInv, hf, hn]; rw [if_pos trivial, if_pos ⟨hs, by simp, hc⟩]; rfl)
theorem e_virt4 {cp j nst a r c n : Nat} {z : Int} {x0 x1 x2 x3 : Value} (h : mFetch (k) pc = some (.invokevirtual cp, 3)) (hf : mFindR (mMt (mM k).1) cp = some (nst, j, a, z)) (hn : (mM j).2.2.2.2.2.1 = 4) (hs : (mM j).2.2.2.2.2.2.2 = false) (hi : (mM j).2.2.2.2.2.2.1 = false) (hk : (mM j).1 = c) (hsh : mSh lay (r + 1) = some (c + 3, n)) (hc : mCat S ≤ 8) : mG (d + 1) k pc L (x3 :: x2 :: x1 :: x0 :: .ref (r + 1) :: S) lay M P = mF d j (.ref (r + 1) :: [x0, x1, x2, x3]) lay M (fun v lay1 M1 => mG (d + 1) k (pc + 3) L (v.toList ++ S) lay1 M1 P) := mG_call h (by subst hk; simp only [mStep, mInv, hf, hn]; rw [if_neg (by decide)]; simp only [List.drop_succ_cons, List.drop_zero]; rw [if_pos ⟨hs, by rw [hi]; rfl, by simp, hc⟩]; simp only [hsh]; rw [if_pos trivial]; rfl)
theorem e_static5 {cp j nst a : Nat} {z : Int} {x0 x1 x2 x3 x4 : Value} (h : mFetch (k) pc = some (.invokestatic cp, 3)) (hp : mFindR (mPr (mM k).1) cp = none) (hf : mFindR (mMt (mM k).1) cp = some (nst, j, a, z)) (hn : (mM j).2.2.2.2.2.1 = 5) (hs : (mM j).2.2.2.2.2.2.2 = true) (hc : mCat S ≤ 8) : mG (d + 1) k pc L (x4 :: x3 :: x2 :: x1 :: x0 :: S) lay M P = mF d j [x0, x1, x2, x3, x4] lay M (fun v lay1 M1 => mG (d + 1) k (pc + 3) L (v.toList ++ S) lay1 M1 P) := mG_call h (by simp only [mStep, hp, mInv, hf, hn]; rw [if_pos trivial, if_pos ⟨hs, by simp, hc⟩]; rfl)
theorem e_virt5 {cp j nst a r c n : Nat} {z : Int} {x0 x1 x2 x3 x4 : Value} (h : mFetch (k) pc = some (.invokevirtual cp, 3)) (hf : mFindR (mMt (mM k).1) cp = some (nst, j, a, z)) (hn : (mM j).2.2.2.2.2.1 = 5) (hs : (mM j).2.2.2.2.2.2.2 = false) (hi : (mM j).2.2.2.2.2.2.1 = false) (hk : (mM j).1 = c) (hsh : mSh lay (r + 1) = some (c + 3, n)) (hc : mCat S ≤ 8) : mG (d + 1) k pc L (x4 :: x3 :: x2 :: x1 :: x0 :: .ref (r + 1) :: S) lay M P = mF d j (.ref (r + 1) :: [x0, x1, x2, x3, x4]) lay M (fun v lay1 M1 => mG (d + 1) k (pc + 3) L (v.toList ++ S) lay1 M1 P) := mG_call h (by subst hk; simp only [mStep, mInv, hf, hn]; rw [if_neg (by decide)]; simp only [List.drop_succ_cons, List.drop_zero]; rw [if_pos ⟨hs, by rw [hi]; rfl, by simp, hc⟩]; simp only [hsh]; rw [if_pos trivial]; rfl)
theorem e_static6 {cp j nst a : Nat} {z : Int} {x0 x1 x2 x3 x4 x5 : Value} (h : mFetch (k) pc = some (.invokestatic cp, 3)) (hp : mFindR (mPr (mM k).1) cp = none) (hf : mFindR (mMt (mM k).1) cp = some (nst, j, a, z)) (hn : (mM j).2.2.2.2.2.1 = 6) (hs : (mM j).2.2.2.2.2.2.2 = true) (hc : mCat S ≤ 8) : mG (d + 1) k pc L (x5 :: x4 :: x3 :: x2 :: x1 :: x0 :: S) lay M P = mF d j [x0, x1, x2, x3, x4, x5] lay M (fun v lay1 M1 => mG (d + 1) k (pc + 3) L (v.toList ++ S) lay1 M1 P) := mG_call h (by simp only [mStep, hp, mInv, hf, hn]; rw [if_pos trivial, if_pos ⟨hs, by simp, hc⟩]; rfl)
theorem e_virt6 {cp j nst a r c n : Nat} {z : Int} {x0 x1 x2 x3 x4 x5 : Value} (h : mFetch (k) pc = some (.invokevirtual cp, 3)) (hf : mFindR (mMt (mM k).1) cp = some (nst, j, a, z)) (hn : (mM j).2.2.2.2.2.1 = 6) (hs : (mM j).2.2.2.2.2.2.2 = false) (hi : (mM j).2.2.2.2.2.2.1 = false) (hk : (mM j).1 = c) (hsh : mSh lay (r + 1) = some (c + 3, n)) (hc : mCat S ≤ 8) : mG (d + 1) k pc L (x5 :: x4 :: x3 :: x2 :: x1 :: x0 :: .ref (r + 1) :: S) lay M P = mF d j (.ref (r + 1) :: [x0, x1, x2, x3, x4, x5]) lay M (fun v lay1 M1 => mG (d + 1) k (pc + 3) L (v.toList ++ S) lay1 M1 P) := mG_call h (by subst hk; simp only [mStep, mInv, hf, hn]; rw [if_neg (by decide)]; simp only [List.drop_succ_cons, List.drop_zero]; rw [if_pos ⟨hs, by rw [hi]; rfl, by simp, hc⟩]; simp only [hsh]; rw [if_pos trivial]; rfl)
theorem e_ireturnI {x : Int32} (h : mFetch k pc = some (.ireturn, 1)) (hr : (mM k).2.2.2.2.1 = some .int) : mG d k pc L [.int x] lay M P = P (some (.int x)) lay M := mG_ret h (by simp only [mStep, hr]; rfl)
theorem e_ireturnZ {x : Int32} (h : mFetch k pc = some (.ireturn, 1)) (hr : (mM k).2.2.2.2.1 = some .boolean) : mG d k pc L [.int x] lay M P = ((x = 0 ∨ x = 1) ∧ P (some (.int x)) lay M) := by
  by_cases hx : x = 0 ∨ x = 1
  · rw [mG_ret h (v := some (.int x)) (by simp only [mStep, hr, mRetI]; rw [if_pos (by simp [hx])])]; simp [hx]
  · rw [mG_none h (by simp only [mStep, hr, mRetI]; rw [if_neg (by simp [hx])])]; simp [hx]
theorem e_lreturn {x : Int64} (h : mFetch k pc = some (.lreturn, 1)) (hr : (mM k).2.2.2.2.1 = some .long) : mG d k pc L [.long x] lay M P = P (some (.long x)) lay M := mG_ret h (by simp only [mStep]; rw [if_pos hr])
theorem e_areturn {x : Nat} (h : mFetch k pc = some (.areturn, 1)) (hr : (mM k).2.2.2.2.1 = some (.array .int)) : mG d k pc L [.ref x] lay M P = P (some (.ref x)) lay M := mG_ret h (by simp only [mStep]; rw [if_pos hr])
theorem e_return (h : mFetch k pc = some (.return_, 1)) (hr : (mM k).2.2.2.2.1 = none) : mG d k pc L [] lay M P = P none lay M := mG_ret h (by simp only [mStep]; rw [if_pos hr])
end MEQ
