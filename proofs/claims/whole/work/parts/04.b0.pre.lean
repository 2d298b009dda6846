/-! ===== an equation for each instruction, by program (wip/whole/gen05.py) ===== -/
theorem mG_of_and {A B X : Prop} (h : A) (e : X = (A ∧ B)) : X = B := e.trans (by simp [h])
theorem mIsO_of {lay : List mShp} {r c j n : Nat} (h : mSh lay r = some (c + 3, n)) (hj : j < n) : mIsO lay r c j = true := by simp [mIsO, h, hj]
theorem mF_in {d k : Nat} {as : List Value} {L : mLs} {lay : List mShp} {M : mMem} {P : mPost} (h : decide ((mArgs as).length ≤ (mM k).2.2.2.1) = true) (hL : mEntry (mM k).2.2.2.1 as = L) : mF d k as lay M P = mG d k 0 L [] lay M P := by
  subst hL
  apply propext
  exact ⟨fun h => h.2, fun h2 => ⟨of_decide_eq_true h, h2⟩⟩
theorem mS1_0 {a0 : Option Value} {L : mLs} {v : Value} : mSto1 (a0 :: L) 0 v = some v :: L := by
  unfold mSto1
  rw [mClr_noL (fun j hj o ho => by omega)]
  rfl
theorem mS1_1 {a0 a1 : Option Value} {L : mLs} {v : Value} (h0 : mNoL a0 = true) : mSto1 (a0 :: a1 :: L) 1 v = a0 :: some v :: L := by
  unfold mSto1
  rw [mClr_noL (fun j hj o ho => by cases hj; simp at ho; subst ho; exact h0)]
  rfl
theorem mS1_2 {a0 a1 a2 : Option Value} {L : mLs} {v : Value} (h0 : mNoL a1 = true) : mSto1 (a0 :: a1 :: a2 :: L) 2 v = a0 :: a1 :: some v :: L := by
  unfold mSto1
  rw [mClr_noL (fun j hj o ho => by cases hj; simp at ho; subst ho; exact h0)]
  rfl
theorem mS1_3 {a0 a1 a2 a3 : Option Value} {L : mLs} {v : Value} (h0 : mNoL a2 = true) : mSto1 (a0 :: a1 :: a2 :: a3 :: L) 3 v = a0 :: a1 :: a2 :: some v :: L := by
  unfold mSto1
  rw [mClr_noL (fun j hj o ho => by cases hj; simp at ho; subst ho; exact h0)]
  rfl
theorem mS1_4 {a0 a1 a2 a3 a4 : Option Value} {L : mLs} {v : Value} (h0 : mNoL a3 = true) : mSto1 (a0 :: a1 :: a2 :: a3 :: a4 :: L) 4 v = a0 :: a1 :: a2 :: a3 :: some v :: L := by
  unfold mSto1
  rw [mClr_noL (fun j hj o ho => by cases hj; simp at ho; subst ho; exact h0)]
  rfl
theorem mS1_5 {a0 a1 a2 a3 a4 a5 : Option Value} {L : mLs} {v : Value} (h0 : mNoL a4 = true) : mSto1 (a0 :: a1 :: a2 :: a3 :: a4 :: a5 :: L) 5 v = a0 :: a1 :: a2 :: a3 :: a4 :: some v :: L := by
  unfold mSto1
  rw [mClr_noL (fun j hj o ho => by cases hj; simp at ho; subst ho; exact h0)]
  rfl
theorem mS1_6 {a0 a1 a2 a3 a4 a5 a6 : Option Value} {L : mLs} {v : Value} (h0 : mNoL a5 = true) : mSto1 (a0 :: a1 :: a2 :: a3 :: a4 :: a5 :: a6 :: L) 6 v = a0 :: a1 :: a2 :: a3 :: a4 :: a5 :: some v :: L := by
  unfold mSto1
  rw [mClr_noL (fun j hj o ho => by cases hj; simp at ho; subst ho; exact h0)]
  rfl
theorem mS1_7 {a0 a1 a2 a3 a4 a5 a6 a7 : Option Value} {L : mLs} {v : Value} (h0 : mNoL a6 = true) : mSto1 (a0 :: a1 :: a2 :: a3 :: a4 :: a5 :: a6 :: a7 :: L) 7 v = a0 :: a1 :: a2 :: a3 :: a4 :: a5 :: a6 :: some v :: L := by
  unfold mSto1
  rw [mClr_noL (fun j hj o ho => by cases hj; simp at ho; subst ho; exact h0)]
  rfl
theorem mS1_8 {a0 a1 a2 a3 a4 a5 a6 a7 a8 : Option Value} {L : mLs} {v : Value} (h0 : mNoL a7 = true) : mSto1 (a0 :: a1 :: a2 :: a3 :: a4 :: a5 :: a6 :: a7 :: a8 :: L) 8 v = a0 :: a1 :: a2 :: a3 :: a4 :: a5 :: a6 :: a7 :: some v :: L := by
  unfold mSto1
  rw [mClr_noL (fun j hj o ho => by cases hj; simp at ho; subst ho; exact h0)]
  rfl
theorem mS1_9 {a0 a1 a2 a3 a4 a5 a6 a7 a8 a9 : Option Value} {L : mLs} {v : Value} (h0 : mNoL a8 = true) : mSto1 (a0 :: a1 :: a2 :: a3 :: a4 :: a5 :: a6 :: a7 :: a8 :: a9 :: L) 9 v = a0 :: a1 :: a2 :: a3 :: a4 :: a5 :: a6 :: a7 :: a8 :: some v :: L := by
  unfold mSto1
  rw [mClr_noL (fun j hj o ho => by cases hj; simp at ho; subst ho; exact h0)]
  rfl
theorem mS1_10 {a0 a1 a2 a3 a4 a5 a6 a7 a8 a9 a10 : Option Value} {L : mLs} {v : Value} (h0 : mNoL a9 = true) : mSto1 (a0 :: a1 :: a2 :: a3 :: a4 :: a5 :: a6 :: a7 :: a8 :: a9 :: a10 :: L) 10 v = a0 :: a1 :: a2 :: a3 :: a4 :: a5 :: a6 :: a7 :: a8 :: a9 :: some v :: L := by
  unfold mSto1
  rw [mClr_noL (fun j hj o ho => by cases hj; simp at ho; subst ho; exact h0)]
  rfl
theorem mS1_11 {a0 a1 a2 a3 a4 a5 a6 a7 a8 a9 a10 a11 : Option Value} {L : mLs} {v : Value} (h0 : mNoL a10 = true) : mSto1 (a0 :: a1 :: a2 :: a3 :: a4 :: a5 :: a6 :: a7 :: a8 :: a9 :: a10 :: a11 :: L) 11 v = a0 :: a1 :: a2 :: a3 :: a4 :: a5 :: a6 :: a7 :: a8 :: a9 :: a10 :: some v :: L := by
  unfold mSto1
  rw [mClr_noL (fun j hj o ho => by cases hj; simp at ho; subst ho; exact h0)]
  rfl
theorem mS2_0 {a0 a1 : Option Value} {L : mLs} {v : Value} : mSto2 (a0 :: a1 :: L) 0 v = some v :: none :: L := by
  unfold mSto2
  rw [mClr_noL (fun j hj o ho => by omega)]
  rfl
theorem mS2_1 {a0 a1 a2 : Option Value} {L : mLs} {v : Value} (h0 : mNoL a0 = true) : mSto2 (a0 :: a1 :: a2 :: L) 1 v = a0 :: some v :: none :: L := by
  unfold mSto2
  rw [mClr_noL (fun j hj o ho => by cases hj; simp at ho; subst ho; exact h0)]
  rfl
theorem mS2_2 {a0 a1 a2 a3 : Option Value} {L : mLs} {v : Value} (h0 : mNoL a1 = true) : mSto2 (a0 :: a1 :: a2 :: a3 :: L) 2 v = a0 :: a1 :: some v :: none :: L := by
  unfold mSto2
  rw [mClr_noL (fun j hj o ho => by cases hj; simp at ho; subst ho; exact h0)]
  rfl
theorem mS2_3 {a0 a1 a2 a3 a4 : Option Value} {L : mLs} {v : Value} (h0 : mNoL a2 = true) : mSto2 (a0 :: a1 :: a2 :: a3 :: a4 :: L) 3 v = a0 :: a1 :: a2 :: some v :: none :: L := by
  unfold mSto2
  rw [mClr_noL (fun j hj o ho => by cases hj; simp at ho; subst ho; exact h0)]
  rfl
theorem mS2_4 {a0 a1 a2 a3 a4 a5 : Option Value} {L : mLs} {v : Value} (h0 : mNoL a3 = true) : mSto2 (a0 :: a1 :: a2 :: a3 :: a4 :: a5 :: L) 4 v = a0 :: a1 :: a2 :: a3 :: some v :: none :: L := by
  unfold mSto2
  rw [mClr_noL (fun j hj o ho => by cases hj; simp at ho; subst ho; exact h0)]
  rfl
theorem mS2_5 {a0 a1 a2 a3 a4 a5 a6 : Option Value} {L : mLs} {v : Value} (h0 : mNoL a4 = true) : mSto2 (a0 :: a1 :: a2 :: a3 :: a4 :: a5 :: a6 :: L) 5 v = a0 :: a1 :: a2 :: a3 :: a4 :: some v :: none :: L := by
  unfold mSto2
  rw [mClr_noL (fun j hj o ho => by cases hj; simp at ho; subst ho; exact h0)]
  rfl
theorem mS2_6 {a0 a1 a2 a3 a4 a5 a6 a7 : Option Value} {L : mLs} {v : Value} (h0 : mNoL a5 = true) : mSto2 (a0 :: a1 :: a2 :: a3 :: a4 :: a5 :: a6 :: a7 :: L) 6 v = a0 :: a1 :: a2 :: a3 :: a4 :: a5 :: some v :: none :: L := by
  unfold mSto2
  rw [mClr_noL (fun j hj o ho => by cases hj; simp at ho; subst ho; exact h0)]
  rfl
theorem mS2_7 {a0 a1 a2 a3 a4 a5 a6 a7 a8 : Option Value} {L : mLs} {v : Value} (h0 : mNoL a6 = true) : mSto2 (a0 :: a1 :: a2 :: a3 :: a4 :: a5 :: a6 :: a7 :: a8 :: L) 7 v = a0 :: a1 :: a2 :: a3 :: a4 :: a5 :: a6 :: some v :: none :: L := by
  unfold mSto2
  rw [mClr_noL (fun j hj o ho => by cases hj; simp at ho; subst ho; exact h0)]
  rfl
theorem mS2_8 {a0 a1 a2 a3 a4 a5 a6 a7 a8 a9 : Option Value} {L : mLs} {v : Value} (h0 : mNoL a7 = true) : mSto2 (a0 :: a1 :: a2 :: a3 :: a4 :: a5 :: a6 :: a7 :: a8 :: a9 :: L) 8 v = a0 :: a1 :: a2 :: a3 :: a4 :: a5 :: a6 :: a7 :: some v :: none :: L := by
  unfold mSto2
  rw [mClr_noL (fun j hj o ho => by cases hj; simp at ho; subst ho; exact h0)]
  rfl
theorem mS2_9 {a0 a1 a2 a3 a4 a5 a6 a7 a8 a9 a10 : Option Value} {L : mLs} {v : Value} (h0 : mNoL a8 = true) : mSto2 (a0 :: a1 :: a2 :: a3 :: a4 :: a5 :: a6 :: a7 :: a8 :: a9 :: a10 :: L) 9 v = a0 :: a1 :: a2 :: a3 :: a4 :: a5 :: a6 :: a7 :: a8 :: some v :: none :: L := by
  unfold mSto2
  rw [mClr_noL (fun j hj o ho => by cases hj; simp at ho; subst ho; exact h0)]
  rfl
theorem mS2_10 {a0 a1 a2 a3 a4 a5 a6 a7 a8 a9 a10 a11 : Option Value} {L : mLs} {v : Value} (h0 : mNoL a9 = true) : mSto2 (a0 :: a1 :: a2 :: a3 :: a4 :: a5 :: a6 :: a7 :: a8 :: a9 :: a10 :: a11 :: L) 10 v = a0 :: a1 :: a2 :: a3 :: a4 :: a5 :: a6 :: a7 :: a8 :: a9 :: some v :: none :: L := by
  unfold mSto2
  rw [mClr_noL (fun j hj o ho => by cases hj; simp at ho; subst ho; exact h0)]
  rfl
