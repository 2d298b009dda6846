/-! ===== an equation for each instruction, by program (wip/whole/gen05.py) ===== -/
theorem mG_of_and {A B X : Prop} (h : A) (e : X = (A ∧ B)) : X = B := e.trans (by simp [h])
theorem mIsO_of {lay : List mShp} {r c j n : Nat} (h : mSh lay r = some (c + 3, n)) (hj : j < n) : mIsO lay r c j = true := by simp [mIsO, h, hj]
theorem mF_in {d k : Nat} {as : List Value} {L : mLs} {lay : List mShp} {M : mMem} {P : mPost} (h : decide ((mArgs as).length ≤ (mM k).2.2.2.1) = true) (hL : mEntry (mM k).2.2.2.1 as = L) : mF d k as lay M P = mG d k 0 L [] lay M P := by
  subst hL
  apply propext
  exact ⟨fun h => h.2, fun h2 => ⟨of_decide_eq_true h, h2⟩⟩
theorem mS1_0 {a0 : Option Value} {L : mLs} {v : Value} : mSto1 (a0 :: L) 0 v = some v :: L := by
  unfold mSto1
  rw [mClr_noL (fun j hj o ho => by omega)]
  rfl
theorem mS1_1 {a0 a1 : Option Value} {L : mLs} {v : Value} (h0 : mNoL a0 = true) : mSto1 (a0 :: a1 :: L) 1 v = a0 :: some v :: L := by
  unfold mSto1
  rw [mClr_noL (fun j hj o ho => by cases hj; simp at ho; subst ho; exact h0)]
  rfl
theorem mS1_2 {a0 a1 a2 : Option Value} {L : mLs} {v : Value} (h0 : mNoL a1 = true) : mSto1 (a0 :: a1 :: a2 :: L) 2 v = a0 :: a1 :: some v :: L := by
  unfold mSto1
  rw [mClr_noL (fun j hj o ho => by cases hj; simp at ho; subst ho; exact h0)]
  rfl
theorem mS1_3 {a0 a1 a2 a3 : Option Value} {L : mLs} {v : Value} (h0 : mNoL a2 = true) : mSto1 (a0 :: a1 :: a2 :: a3 :: L) 3 v = a0 :: a1 :: a2 :: some v :: L := by
  unfold mSto1
  rw [mClr_noL (fun j hj o ho => by cases hj; simp at ho; subst ho; exact h0)]
  rfl
theorem mS1_4 {a0 a1 a2 a3 a4 : Option Value} {L : mLs} {v : Value} (h0 : mNoL a3 = true) : mSto1 (a0 :: a1 :: a2 :: a3 :: a4 :: L) 4 v = a0 :: a1 :: a2 :: a3 :: some v :: L := by
  unfold mSto1
  rw [mClr_noL (fun j hj o ho => by cases hj; simp at ho; subst ho; exact h0)]
  rfl
theorem mS1_5 {a0 a1 a2 a3 a4 a5 : Option Value} {L : mLs} {v : Value} (h0 : mNoL a4 = true) : mSto1 (a0 :: a1 :: a2 :: a3 :: a4 :: a5 :: L) 5 v = a0 :: a1 :: a2 :: a3 :: a4 :: some v :: L := by
  unfold mSto1
  rw [mClr_noL (fun j hj o ho => by cases hj; simp at ho; subst ho; exact h0)]
  rfl
theorem mS1_6 {a0 a1 a2 a3 a4 a5 a6 : Option Value} {L : mLs} {v : Value} (h0 : mNoL a5 = true) : mSto1 (a0 :: a1 :: a2 :: a3 :: a4 :: a5 :: a6 :: L) 6 v = a0 :: a1 :: a2 :: a3 :: a4 :: a5 :: some v :: L := by
  unfold mSto1
  rw [mClr_noL (fun j hj o ho => by cases hj; simp at ho; subst ho; exact h0)]
  rfl
theorem mS1_7 {a0 a1 a2 a3 a4 a5 a6 a7 : Option Value} {L : mLs} {v : Value} (h0 : mNoL a6 = true) : mSto1 (a0 :: a1 :: a2 :: a3 :: a4 :: a5 :: a6 :: a7 :: L) 7 v = a0 :: a1 :: a2 :: a3 :: a4 :: a5 :: a6 :: some v :: L := by
  unfold mSto1
  rw [mClr_noL (fun j hj o ho => by cases hj; simp at ho; subst ho; exact h0)]
  rfl
theorem mS1_8 {a0 a1 a2 a3 a4 a5 a6 a7 a8 : Option Value} {L : mLs} {v : Value} (h0 : mNoL a7 = true) : mSto1 (a0 :: a1 :: a2 :: a3 :: a4 :: a5 :: a6 :: a7 :: a8 :: L) 8 v = a0 :: a1 :: a2 :: a3 :: a4 :: a5 :: a6 :: a7 :: some v :: L := by
  unfold mSto1
  rw [mClr_noL (fun j hj o ho => by cases hj; simp at ho; subst ho; exact h0)]
  rfl
theorem mS1_9 {a0 a1 a2 a3 a4 a5 a6 a7 a8 a9 : Option Value} {L : mLs} {v : Value} (h0 : mNoL a8 = true) : mSto1 (a0 :: a1 :: a2 :: a3 :: a4 :: a5 :: a6 :: a7 :: a8 :: a9 :: L) 9 v = a0 :: a1 :: a2 :: a3 :: a4 :: a5 :: a6 :: a7 :: a8 :: some v :: L := by
  unfold mSto1
  rw [mClr_noL (fun j hj o ho => by cases hj; simp at ho; subst ho; exact h0)]
  rfl
theorem mS1_10 {a0 a1 a2 a3 a4 a5 a6 a7 a8 a9 a10 : Option Value} {L : mLs} {v : Value} (h0 : mNoL a9 = true) : mSto1 (a0 :: a1 :: a2 :: a3 :: a4 :: a5 :: a6 :: a7 :: a8 :: a9 :: a10 :: L) 10 v = a0 :: a1 :: a2 :: a3 :: a4 :: a5 :: a6 :: a7 :: a8 :: a9 :: some v :: L := by
  unfold mSto1
  rw [mClr_noL (fun j hj o ho => by cases hj; simp at ho; subst ho; exact h0)]
  rfl
theorem mS1_11 {a0 a1 a2 a3 a4 a5 a6 a7 a8 a9 a10 a11 : Option Value} {L : mLs} {v : Value} (h0 : mNoL a10 = true) : mSto1 (a0 :: a1 :: a2 :: a3 :: a4 :: a5 :: a6 :: a7 :: a8 :: a9 :: a10 :: a11 :: L) 11 v = a0 :: a1 :: a2 :: a3 :: a4 :: a5 :: a6 :: a7 :: a8 :: a9 :: a10 :: some v :: L := by
  unfold mSto1
  rw [mClr_noL (fun j hj o ho => by cases hj; simp at ho; subst ho; exact h0)]
  rfl
theorem mS2_0 {a0 a1 : Option Value} {L : mLs} {v : Value} : mSto2 (a0 :: a1 :: L) 0 v = some v :: none :: L := by
  unfold mSto2
  rw [mClr_noL (fun j hj o ho => by omega)]
  rfl
theorem mS2_1 {a0 a1 a2 : Option Value} {L : mLs} {v : Value} (h0 : mNoL a0 = true) : mSto2 (a0 :: a1 :: a2 :: L) 1 v = a0 :: some v :: none :: L := by
  unfold mSto2
  rw [mClr_noL (fun j hj o ho => by cases hj; simp at ho; subst ho; exact h0)]
  rfl
theorem mS2_2 {a0 a1 a2 a3 : Option Value} {L : mLs} {v : Value} (h0 : mNoL a1 = true) : mSto2 (a0 :: a1 :: a2 :: a3 :: L) 2 v = a0 :: a1 :: some v :: none :: L := by
  unfold mSto2
  rw [mClr_noL (fun j hj o ho => by cases hj; simp at ho; subst ho; exact h0)]
  rfl
theorem mS2_3 {a0 a1 a2 a3 a4 : Option Value} {L : mLs} {v : Value} (h0 : mNoL a2 = true) : mSto2 (a0 :: a1 :: a2 :: a3 :: a4 :: L) 3 v = a0 :: a1 :: a2 :: some v :: none :: L := by
  unfold mSto2
  rw [mClr_noL (fun j hj o ho => by cases hj; simp at ho; subst ho; exact h0)]
  rfl
theorem mS2_4 {a0 a1 a2 a3 a4 a5 : Option Value} {L : mLs} {v : Value} (h0 : mNoL a3 = true) : mSto2 (a0 :: a1 :: a2 :: a3 :: a4 :: a5 :: L) 4 v = a0 :: a1 :: a2 :: a3 :: some v :: none :: L := by
  unfold mSto2
  rw [mClr_noL (fun j hj o ho => by cases hj; simp at ho; subst ho; exact h0)]
  rfl
theorem mS2_5 {a0 a1 a2 a3 a4 a5 a6 : Option Value} {L : mLs} {v : Value} (h0 : mNoL a4 = true) : mSto2 (a0 :: a1 :: a2 :: a3 :: a4 :: a5 :: a6 :: L) 5 v = a0 :: a1 :: a2 :: a3 :: a4 :: some v :: none :: L := by
  unfold mSto2
  rw [mClr_noL (fun j hj o ho => by cases hj; simp at ho; subst ho; exact h0)]
  rfl
theorem mS2_6 {a0 a1 a2 a3 a4 a5 a6 a7 : Option Value} {L : mLs} {v : Value} (h0 : mNoL a5 = true) : mSto2 (a0 :: a1 :: a2 :: a3 :: a4 :: a5 :: a6 :: a7 :: L) 6 v = a0 :: a1 :: a2 :: a3 :: a4 :: a5 :: some v :: none :: L := by
  unfold mSto2
  rw [mClr_noL (fun j hj o ho => by cases hj; simp at ho; subst ho; exact h0)]
  rfl
theorem mS2_7 {a0 a1 a2 a3 a4 a5 a6 a7 a8 : Option Value} {L : mLs} {v : Value} (h0 : mNoL a6 = true) : mSto2 (a0 :: a1 :: a2 :: a3 :: a4 :: a5 :: a6 :: a7 :: a8 :: L) 7 v = a0 :: a1 :: a2 :: a3 :: a4 :: a5 :: a6 :: some v :: none :: L := by
  unfold mSto2
  rw [mClr_noL (fun j hj o ho => by cases hj; simp at ho; subst ho; exact h0)]
  rfl
theorem mS2_8 {a0 a1 a2 a3 a4 a5 a6 a7 a8 a9 : Option Value} {L : mLs} {v : Value} (h0 : mNoL a7 = true) : mSto2 (a0 :: a1 :: a2 :: a3 :: a4 :: a5 :: a6 :: a7 :: a8 :: a9 :: L) 8 v = a0 :: a1 :: a2 :: a3 :: a4 :: a5 :: a6 :: a7 :: some v :: none :: L := by
  unfold mSto2
  rw [mClr_noL (fun j hj o ho => by cases hj; simp at ho; subst ho; exact h0)]
  rfl
theorem mS2_9 {a0 a1 a2 a3 a4 a5 a6 a7 a8 a9 a10 : Option Value} {L : mLs} {v : Value} (h0 : mNoL a8 = true) : mSto2 (a0 :: a1 :: a2 :: a3 :: a4 :: a5 :: a6 :: a7 :: a8 :: a9 :: a10 :: L) 9 v = a0 :: a1 :: a2 :: a3 :: a4 :: a5 :: a6 :: a7 :: a8 :: some v :: none :: L := by
  unfold mSto2
  rw [mClr_noL (fun j hj o ho => by cases hj; simp at ho; subst ho; exact h0)]
  rfl
theorem mS2_10 {a0 a1 a2 a3 a4 a5 a6 a7 a8 a9 a10 a11 : Option Value} {L : mLs} {v : Value} (h0 : mNoL a9 = true) : mSto2 (a0 :: a1 :: a2 :: a3 :: a4 :: a5 :: a6 :: a7 :: a8 :: a9 :: a10 :: a11 :: L) 10 v = a0 :: a1 :: a2 :: a3 :: a4 :: a5 :: a6 :: a7 :: a8 :: a9 :: some v :: none :: L := by
  unfold mSto2
  rw [mClr_noL (fun j hj o ho => by cases hj; simp at ho; subst ho; exact h0)]
  rfl
theorem e_aloadP {d k pc : Nat} {L : mLs} {S : List Value} {lay : List mShp} {M : mMem} {P : mPost} {x : Nat} (hx : ¬ x = 0) {i : Nat} (h : mFetch k pc = some (.aload i, 2)) (hl : L[i]? = some (some (.ref x))) : mG d k pc L S lay M P = mG d k (pc + 2) L (.ref x :: S) lay M P := by
  cases x with
  | zero => exact absurd rfl hx
  | succ x => exact e_aload h hl
theorem e_astoreP {d k pc : Nat} {L : mLs} {S : List Value} {lay : List mShp} {M : mMem} {P : mPost} {x : Nat} (hx : ¬ x = 0) {i : Nat} (h : mFetch k pc = some (.astore i, 2)) {L' : mLs} (hb : i < L.length) (hl : mSto1 L i (.ref x) = L') : mG d k pc L (.ref x :: S) lay M P = mG d k (pc + 2) L' S lay M P := by
  cases x with
  | zero => exact absurd rfl hx
  | succ x => exact e_astore h hb hl
theorem e_aload_nP {d k pc : Nat} {L : mLs} {S : List Value} {lay : List mShp} {M : mMem} {P : mPost} {x : Nat} (hx : ¬ x = 0) {i : Nat} {n : Fin 4} (h : mFetch k pc = some (.aload_n n, 1)) (hn : n.val = i) (hl : L[i]? = some (some (.ref x))) : mG d k pc L S lay M P = mG d k (pc + 1) L (.ref x :: S) lay M P := by
  cases x with
  | zero => exact absurd rfl hx
  | succ x => exact e_aload_n h hn hl
theorem e_astore_nP {d k pc : Nat} {L : mLs} {S : List Value} {lay : List mShp} {M : mMem} {P : mPost} {x : Nat} (hx : ¬ x = 0) {i : Nat} {n : Fin 4} (h : mFetch k pc = some (.astore_n n, 1)) (hn : n.val = i) {L' : mLs} (hb : i < L.length) (hl : mSto1 L i (.ref x) = L') : mG d k pc L (.ref x :: S) lay M P = mG d k (pc + 1) L' S lay M P := by
  cases x with
  | zero => exact absurd rfl hx
  | succ x => exact e_astore_n h hn hb hl
theorem e_objInitP {d k pc : Nat} {L : mLs} {S : List Value} {lay : List mShp} {M : mMem} {P : mPost} {x : Nat} (hx : ¬ x = 0) {cp a b : Nat} {z : Int} (h : mFetch k pc = some (.invokespecial cp, 3)) (hf : mFindR (mPr (mM k).1) cp = some (0, a, b, z)) (hc : mCat S ≤ 8) : mG d k pc L (.ref x :: S) lay M P = mG d k (pc + 3) L S lay M P := by
  cases x with
  | zero => exact absurd rfl hx
  | succ x => exact e_objInit h hf hc
theorem e_virtP0 {d k pc : Nat} {L : mLs} {S : List Value} {lay : List mShp} {M : mMem} {P : mPost} {cp j nst a r c n : Nat} {z : Int}  (h : mFetch (k) pc = some (.invokevirtual cp, 3)) (hf : mFindR (mMt (mM k).1) cp = some (nst, j, a, z)) (hn : (mM j).2.2.2.2.2.1 = 0) (hs : (mM j).2.2.2.2.2.2.2 = false) (hi : (mM j).2.2.2.2.2.2.1 = false) (hk : (mM j).1 = c) (hsh : mSh lay r = some (c + 3, n)) (hc : mCat S ≤ 8) : mG (d + 1) k pc L (.ref r :: S) lay M P = mF d j (.ref r :: []) lay M (fun v lay1 M1 => mG (d + 1) k (pc + 3) L (v.toList ++ S) lay1 M1 P) := by
  cases r with
  | zero => cases hsh
  | succ r => exact e_virt0 h hf hn hs hi hk hsh hc
theorem e_virtP1 {d k pc : Nat} {L : mLs} {S : List Value} {lay : List mShp} {M : mMem} {P : mPost} {cp j nst a r c n : Nat} {z : Int} {x0 : Value} (h : mFetch (k) pc = some (.invokevirtual cp, 3)) (hf : mFindR (mMt (mM k).1) cp = some (nst, j, a, z)) (hn : (mM j).2.2.2.2.2.1 = 1) (hs : (mM j).2.2.2.2.2.2.2 = false) (hi : (mM j).2.2.2.2.2.2.1 = false) (hk : (mM j).1 = c) (hsh : mSh lay r = some (c + 3, n)) (hc : mCat S ≤ 8) : mG (d + 1) k pc L (x0 :: .ref r :: S) lay M P = mF d j (.ref r :: [x0]) lay M (fun v lay1 M1 => mG (d + 1) k (pc + 3) L (v.toList ++ S) lay1 M1 P) := by
  cases r with
  | zero => cases hsh
  | succ r => exact e_virt1 h hf hn hs hi hk hsh hc
theorem e_virtP2 {d k pc : Nat} {L : mLs} {S : List Value} {lay : List mShp} {M : mMem} {P : mPost} {cp j nst a r c n : Nat} {z : Int} {x0 x1 : Value} (h : mFetch (k) pc = some (.invokevirtual cp, 3)) (hf : mFindR (mMt (mM k).1) cp = some (nst, j, a, z)) (hn : (mM j).2.2.2.2.2.1 = 2) (hs : (mM j).2.2.2.2.2.2.2 = false) (hi : (mM j).2.2.2.2.2.2.1 = false) (hk : (mM j).1 = c) (hsh : mSh lay r = some (c + 3, n)) (hc : mCat S ≤ 8) : mG (d + 1) k pc L (x1 :: x0 :: .ref r :: S) lay M P = mF d j (.ref r :: [x0, x1]) lay M (fun v lay1 M1 => mG (d + 1) k (pc + 3) L (v.toList ++ S) lay1 M1 P) := by
  cases r with
  | zero => cases hsh
  | succ r => exact e_virt2 h hf hn hs hi hk hsh hc
theorem e_virtP3 {d k pc : Nat} {L : mLs} {S : List Value} {lay : List mShp} {M : mMem} {P : mPost} {cp j nst a r c n : Nat} {z : Int} {x0 x1 x2 : Value} (h : mFetch (k) pc = some (.invokevirtual cp, 3)) (hf : mFindR (mMt (mM k).1) cp = some (nst, j, a, z)) (hn : (mM j).2.2.2.2.2.1 = 3) (hs : (mM j).2.2.2.2.2.2.2 = false) (hi : (mM j).2.2.2.2.2.2.1 = false) (hk : (mM j).1 = c) (hsh : mSh lay r = some (c + 3, n)) (hc : mCat S ≤ 8) : mG (d + 1) k pc L (x2 :: x1 :: x0 :: .ref r :: S) lay M P = mF d j (.ref r :: [x0, x1, x2]) lay M (fun v lay1 M1 => mG (d + 1) k (pc + 3) L (v.toList ++ S) lay1 M1 P) := by
  cases r with
  | zero => cases hsh
  | succ r => exact e_virt3 h hf hn hs hi hk hsh hc
theorem e_virtP4 {d k pc : Nat} {L : mLs} {S : List Value} {lay : List mShp} {M : mMem} {P : mPost} {cp j nst a r c n : Nat} {z : Int} {x0 x1 x2 x3 : Value} (h : mFetch (k) pc = some (.invokevirtual cp, 3)) (hf : mFindR (mMt (mM k).1) cp = some (nst, j, a, z)) (hn : (mM j).2.2.2.2.2.1 = 4) (hs : (mM j).2.2.2.2.2.2.2 = false) (hi : (mM j).2.2.2.2.2.2.1 = false) (hk : (mM j).1 = c) (hsh : mSh lay r = some (c + 3, n)) (hc : mCat S ≤ 8) : mG (d + 1) k pc L (x3 :: x2 :: x1 :: x0 :: .ref r :: S) lay M P = mF d j (.ref r :: [x0, x1, x2, x3]) lay M (fun v lay1 M1 => mG (d + 1) k (pc + 3) L (v.toList ++ S) lay1 M1 P) := by
  cases r with
  | zero => cases hsh
  | succ r => exact e_virt4 h hf hn hs hi hk hsh hc
theorem e_virtP5 {d k pc : Nat} {L : mLs} {S : List Value} {lay : List mShp} {M : mMem} {P : mPost} {cp j nst a r c n : Nat} {z : Int} {x0 x1 x2 x3 x4 : Value} (h : mFetch (k) pc = some (.invokevirtual cp, 3)) (hf : mFindR (mMt (mM k).1) cp = some (nst, j, a, z)) (hn : (mM j).2.2.2.2.2.1 = 5) (hs : (mM j).2.2.2.2.2.2.2 = false) (hi : (mM j).2.2.2.2.2.2.1 = false) (hk : (mM j).1 = c) (hsh : mSh lay r = some (c + 3, n)) (hc : mCat S ≤ 8) : mG (d + 1) k pc L (x4 :: x3 :: x2 :: x1 :: x0 :: .ref r :: S) lay M P = mF d j (.ref r :: [x0, x1, x2, x3, x4]) lay M (fun v lay1 M1 => mG (d + 1) k (pc + 3) L (v.toList ++ S) lay1 M1 P) := by
  cases r with
  | zero => cases hsh
  | succ r => exact e_virt5 h hf hn hs hi hk hsh hc
theorem e_virtP6 {d k pc : Nat} {L : mLs} {S : List Value} {lay : List mShp} {M : mMem} {P : mPost} {cp j nst a r c n : Nat} {z : Int} {x0 x1 x2 x3 x4 x5 : Value} (h : mFetch (k) pc = some (.invokevirtual cp, 3)) (hf : mFindR (mMt (mM k).1) cp = some (nst, j, a, z)) (hn : (mM j).2.2.2.2.2.1 = 6) (hs : (mM j).2.2.2.2.2.2.2 = false) (hi : (mM j).2.2.2.2.2.2.1 = false) (hk : (mM j).1 = c) (hsh : mSh lay r = some (c + 3, n)) (hc : mCat S ≤ 8) : mG (d + 1) k pc L (x5 :: x4 :: x3 :: x2 :: x1 :: x0 :: .ref r :: S) lay M P = mF d j (.ref r :: [x0, x1, x2, x3, x4, x5]) lay M (fun v lay1 M1 => mG (d + 1) k (pc + 3) L (v.toList ++ S) lay1 M1 P) := by
  cases r with
  | zero => cases hsh
  | succ r => exact e_virt6 h hf hn hs hi hk hsh hc
theorem e_initP0 {d k pc : Nat} {L : mLs} {S : List Value} {lay : List mShp} {M : mMem} {P : mPost} {cp j nst a r c n : Nat} {z : Int} (h : mFetch (k) pc = some (.invokespecial cp, 3)) (hp : mFindR (mPr (mM k).1) cp = none) (hf : mFindR (mMt (mM k).1) cp = some (nst, j, a, z)) (hn : (mM j).2.2.2.2.2.1 = 0) (hs : (mM j).2.2.2.2.2.2.2 = false) (hi : (mM j).2.2.2.2.2.2.1 = true) (hk : (mM j).1 = c) (hsh : mSh lay r = some (c + 3, n)) (hc : mCat S ≤ 8) : mG (d + 1) k pc L (.ref r :: S) lay M P = mF d j [.ref r] lay M (fun v lay1 M1 => mG (d + 1) k (pc + 3) L (v.toList ++ S) lay1 M1 P) := by
  cases r with
  | zero => cases hsh
  | succ r => exact e_init0 h hp hf hn hs hi hk hsh hc
def mCpOk (n dp sp : Int32) (n0 n1 : Nat) : Prop := 0 ≤ n.toInt ∧ 0 ≤ dp.toInt ∧ 0 ≤ sp.toInt ∧ sp.toNatClampNeg + n.toNatClampNeg ≤ n0 ∧ dp.toNatClampNeg + n.toNatClampNeg ≤ n1
theorem e_copyIP {d k pc : Nat} {L : mLs} {S : List Value} {lay : List mShp} {M : mMem} {P : mPost} {cp a b r0 r1 n0 n1 : Nat} {z : Int} {n sp dp : Int32} (h : mFetch k pc = some (.invokestatic cp, 3)) (hf : mFindR (mPr (mM k).1) cp = some (4, a, b, z)) (h0 : mSh lay r0 = some (0, n0)) (h1 : mSh lay r1 = some (0, n1)) (hS : mCat S ≤ 8) : mG d k pc L (.int n :: .int dp :: .ref r1 :: .int sp :: .ref r0 :: S) lay M P = (mCpOk n dp sp n0 n1 ∧ mG d k (pc + 3) L S lay (mCpyI M r0 r1 sp.toNatClampNeg dp.toNatClampNeg n.toNatClampNeg) P) := by
  by_cases hc : mCpOk n dp sp n0 n1
  · rw [e_copyI h hf h0 h1 ⟨hc.1, hc.2.1, hc.2.2.1, hc.2.2.2.1, hc.2.2.2.2, hS⟩]; simp [hc]
  · rw [mG_none h (by simp only [mStep, hf, mPrim, mCopy, h0, h1]; rw [if_neg (by decide), if_neg (fun q => hc ⟨q.1, q.2.1, q.2.2.1, q.2.2.2.1, q.2.2.2.2.1⟩)])]; simp [hc]
theorem e_copyLP {d k pc : Nat} {L : mLs} {S : List Value} {lay : List mShp} {M : mMem} {P : mPost} {cp a b r0 r1 n0 n1 : Nat} {z : Int} {n sp dp : Int32} (h : mFetch k pc = some (.invokestatic cp, 3)) (hf : mFindR (mPr (mM k).1) cp = some (4, a, b, z)) (h0 : mSh lay r0 = some (1, n0)) (h1 : mSh lay r1 = some (1, n1)) (hS : mCat S ≤ 8) : mG d k pc L (.int n :: .int dp :: .ref r1 :: .int sp :: .ref r0 :: S) lay M P = (mCpOk n dp sp n0 n1 ∧ mG d k (pc + 3) L S lay (mCpyL M r0 r1 sp.toNatClampNeg dp.toNatClampNeg n.toNatClampNeg) P) := by
  by_cases hc : mCpOk n dp sp n0 n1
  · rw [e_copyL h hf h0 h1 ⟨hc.1, hc.2.1, hc.2.2.1, hc.2.2.2.1, hc.2.2.2.2, hS⟩]; simp [hc]
  · rw [mG_none h (by simp only [mStep, hf, mPrim, mCopy, h0, h1]; rw [if_neg (by decide), if_neg (fun q => hc ⟨q.1, q.2.1, q.2.2.1, q.2.2.2.1, q.2.2.2.2.1⟩)])]; simp [hc]
theorem e_newa_intP {d k pc : Nat} {L : mLs} {S : List Value} {lay : List mShp} {M : mMem} {P : mPost} {n : Int32} (h : mFetch k pc = some (.newarray .int, 2)) : mG d k pc L (.int n :: S) lay M P = ((0 ≤ n.toInt ∧ n.toInt ≤ 100000) ∧ mG d k (pc + 2) L (.ref (lay.length + 3) :: S) (lay ++ [(0, n.toNatClampNeg)]) (mNew M (lay.length + 3)) P) := by
  by_cases hc : 0 ≤ n.toInt ∧ n.toInt ≤ 100000
  · rw [e_newa_int h hc]; simp [hc]
  · rw [mG_none h (by simp only [mStep, mNewa]; rw [if_neg hc])]; simp [hc]
theorem e_newa_longP {d k pc : Nat} {L : mLs} {S : List Value} {lay : List mShp} {M : mMem} {P : mPost} {n : Int32} (h : mFetch k pc = some (.newarray .long, 2)) : mG d k pc L (.int n :: S) lay M P = ((0 ≤ n.toInt ∧ n.toInt ≤ 100000) ∧ mG d k (pc + 2) L (.ref (lay.length + 3) :: S) (lay ++ [(1, n.toNatClampNeg)]) (mNew M (lay.length + 3)) P) := by
  by_cases hc : 0 ≤ n.toInt ∧ n.toInt ≤ 100000
  · rw [e_newa_long h hc]; simp [hc]
  · rw [mG_none h (by simp only [mStep, mNewa]; rw [if_neg hc])]; simp [hc]
theorem e_newa_charP {d k pc : Nat} {L : mLs} {S : List Value} {lay : List mShp} {M : mMem} {P : mPost} {n : Int32} (h : mFetch k pc = some (.newarray .char, 2)) : mG d k pc L (.int n :: S) lay M P = ((0 ≤ n.toInt ∧ n.toInt ≤ 100000) ∧ mG d k (pc + 2) L (.ref (lay.length + 3) :: S) (lay ++ [(2, n.toNatClampNeg)]) (mNew M (lay.length + 3)) P) := by
  by_cases hc : 0 ≤ n.toInt ∧ n.toInt ≤ 100000
  · rw [e_newa_char h hc]; simp [hc]
  · rw [mG_none h (by simp only [mStep, mNewa]; rw [if_neg hc])]; simp [hc]
def mNotIn (x : Int32) (vs : List Int) : Bool := vs.all fun v => !decide (x.toInt = v)
theorem mNotIn_of {x : Int32} {vs : List Int} (h : mNotIn x vs = true) : ∀ v ∈ vs, ¬ x.toInt = v := by
  intro v hv
  have h1 := List.all_eq_true.mp h v hv
  simpa using h1
theorem mLsw_out {ps : List (Int × Int)} {d key : Int} (h : ∀ v ∈ ps.map (fun q => q.1), ¬ key = v) : Op.lookupswitch.offset ps d key = d := by
  induction ps with
  | nil => rfl
  | cons q ps ih =>
    simp only [Op.lookupswitch.offset]
    rw [if_neg (by first | exact h q.1 (by simp) | exact fun e => h q.1 (by simp) e.symm | (simp; exact h q.1 (by simp)) | (simp; exact fun e => h q.1 (by simp) e.symm))]
    exact ih (fun v hv => h v (by simp at hv ⊢; exact Or.inr hv))
