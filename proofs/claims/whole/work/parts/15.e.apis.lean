/-! ===== image, back ===== -/
section IMG
variable {d o n : Nat} {lay : List mShp} {e : List mShp} {M : mMem} {I I' : Nat → Nat → Int32} {E : Nat → Nat → Int64} {F : Nat → Nat → Nat} {P : mPost} {T T' : Nat → Nat → Int} {lw : vLw} {st nx gf rl dr bn c : Nat} {a b v : Int}
theorem n5_5 : (Int32.ofInt 5).toNatClampNeg = 5 := by decide
theorem cp_5 : mCpOk (Int32.ofInt 5) (Int32.ofInt 0) (Int32.ofInt 0) 5 5 = True := by
  have h : mCpOk (Int32.ofInt 5) (Int32.ofInt 0) (Int32.ofInt 0) 5 5 := by unfold mCpOk; decide
  exact eq_true h
/-- row k1 has row k0's first m places -/
def rC (I : Nat → Nat → Int32) (k0 k1 m : Nat) : Nat → Nat → Int32 := fun r j => if r = k1 ∧ j < m then I k0 j else I r j
theorem rC_0 (k0 k1 : Nat) : rC I k0 k1 0 = I := by
  funext r j
  unfold rC
  rw [if_neg (by omega)]
theorem rC_S {k0 k1 m : Nat} : iU (rC I k0 k1 m) k1 m (I k0 m) = rC I k0 k1 (m + 1) := by
  funext r j
  simp only [rC, iU]
  by_cases h : r = k1 ∧ j = m
  · rw [if_pos h, if_pos (by omega), h.2]
  · rw [if_neg h]
    by_cases h' : r = k1 ∧ j < m
    · rw [if_pos h', if_pos (by omega)]
    · rw [if_neg h', if_neg (by omega)]
theorem rC_row {k0 k1 m r : Nat} (h : ¬ r = k1) : rC I k0 k1 m r = I r := by
  funext j
  unfold rC
  rw [if_neg (by omega)]
theorem rC_to {k0 k1 m j : Nat} (h : j < m) : rC I k0 k1 m k1 j = I k0 j := if_pos ⟨rfl, h⟩
theorem vAg_rC {R : Nat → Nat → Prop} {k0 k1 m : Nat} (h : vAg R I I') (hR : ∀ j, R k1 j) : vAg R I (rC I' k0 k1 m) := fun r j q => by
  have q' : ¬ r = k1 := fun w => q (by rw [w]; exact hR j)
  rw [rC_row q']
  exact h r j q
theorem vAg_cU {R : Nat → Nat → Prop} {k0 k1 sp dp m : Nat} (h : vAg R I I') (hR : ∀ j, R k1 j) : vAg R I (cU I' k0 k1 sp dp m) := fun r j q => by
  have q' : ¬ r = k1 := fun w => q (by rw [w]; exact hR j)
  rw [cU_row q']
  exact h r j q
theorem r214_a (hF : mFx F st nx gf rl dr) (hP : mG d 214 26 [some (.ref 80), some (.int (jI 42))] [] (mLay e) (rC I 81 99 42, E, F) P) : ∀ (k i : Nat) (z : Int), i + k = 42 → z = i → mG d 214 2 [some (.ref 80), some (.int (jI z))] [] (mLay e) (rC I 81 99 i, E, F) P
  | 0, i, z, hi, hz => by
    subst hz
    have e : i = 42 := by omega
    subst e
    rw [g214_2]
    simp only [g214_3, g214_5, g214_8, g214_9, g214_12, g214_13, g214_14, g214_17, g214_18, g214_19, g214_20, g214_23, nl_none, nl_int, nl_ref, Option.toList_some, Option.toList_none, List.cons_append, List.nil_append, mSetI_u, mSetL_u, Nat.add_one_ne_zero, Nat.add_eq_zero_iff, and_false, false_and, not_false_eq_true, ne_eq, j0_0, j0_1, j1_0, j1_1, if_true, if_false, ite_true, ite_false, true_and, and_true, or_true, true_or, false_or, or_false, ↓reduceIte, Nat.reduceEqDiff, Nat.reduceAdd, Nat.reduceMul, Nat.reduceSub, Int.reduceLE, Int.reduceLT, Int.reduceNeg, Int.reduceAdd, Int.reduceSub, Int.reduceEq, reduceCtorEq, jI_lt, jI_eq, jI_lt0, jI_0lt, jI_eq0, jI_0le, jn_lo, iU_row, iU_nr, iU_eq, iU_same, jI_ixn, jI_add, jI_sub, jI_nat, sh_80, show ¬ (((42 : Nat) : Int) < 42) by omega, show ((42 : Nat) : Int) = 42 from rfl]
    exact hP
  | k + 1, i, z, hi, hz => by
    have ih := r214_a hF hP k (i + 1)
    subst hz
    have fin : ∀ I2, I2 = iU (rC I 81 99 i) 99 i (I 81 i) → mG d 214 2 [some (.ref 80), some (.int (jI ((i : Int) + 1)))] [] (mLay e) (I2, E, F) P := by
      intro I2 h2
      rw [h2, rC_S]
      exact ih _ (by omega) (by omega)
    rw [g214_2]
    simp only [g214_3, g214_5, g214_8, g214_9, g214_12, g214_13, g214_14, g214_17, g214_18, g214_19, g214_20, g214_23, nl_none, nl_int, nl_ref, Option.toList_some, Option.toList_none, List.cons_append, List.nil_append, mSetI_u, mSetL_u, Nat.add_one_ne_zero, Nat.add_eq_zero_iff, and_false, false_and, not_false_eq_true, ne_eq, j0_0, j0_1, j1_0, j1_1, if_true, if_false, ite_true, ite_false, true_and, and_true, or_true, true_or, false_or, or_false, ↓reduceIte, Nat.reduceEqDiff, Nat.reduceAdd, Nat.reduceMul, Nat.reduceSub, Int.reduceLE, Int.reduceLT, Int.reduceNeg, Int.reduceAdd, Int.reduceSub, Int.reduceEq, reduceCtorEq, jI_lt, jI_eq, jI_lt0, jI_0lt, jI_eq0, jI_0le, jn_lo, iU_row, iU_nr, iU_eq, iU_same, jI_ixn, jI_add, jI_sub, jI_nat, sh_80, sh_81, sh_99, f_80_0 hF, f_80_34 hF, show ((i : Nat) : Int) ≤ 2147483647 by omega, show (i : Nat) ≤ 2147483647 by omega, show (i : Int) < 42 by omega, jI_in (z := ((i : Int) : Int)) (n := 42) (by omega) (by omega) (by omega), rC_row (I := I) (k0 := 81) (k1 := 99) (m := i) (r := 81) (by omega)]
    exact fin _ rfl
theorem r214_b (hF : mFx F st nx gf rl dr) (hP : mG d 214 51 [some (.ref 80), some (.int (jI 5))] [] (mLay e) (rC I 98 100 5, E, F) P) : ∀ (k i : Nat) (z : Int), i + k = 5 → z = i → mG d 214 28 [some (.ref 80), some (.int (jI z))] [] (mLay e) (rC I 98 100 i, E, F) P
  | 0, i, z, hi, hz => by
    subst hz
    have e : i = 5 := by omega
    subst e
    rw [g214_28]
    simp only [g214_29, g214_30, g214_33, g214_34, g214_37, g214_38, g214_39, g214_42, g214_43, g214_44, g214_45, g214_48, nl_none, nl_int, nl_ref, Option.toList_some, Option.toList_none, List.cons_append, List.nil_append, mSetI_u, mSetL_u, Nat.add_one_ne_zero, Nat.add_eq_zero_iff, and_false, false_and, not_false_eq_true, ne_eq, j0_0, j0_1, j1_0, j1_1, if_true, if_false, ite_true, ite_false, true_and, and_true, or_true, true_or, false_or, or_false, ↓reduceIte, Nat.reduceEqDiff, Nat.reduceAdd, Nat.reduceMul, Nat.reduceSub, Int.reduceLE, Int.reduceLT, Int.reduceNeg, Int.reduceAdd, Int.reduceSub, Int.reduceEq, reduceCtorEq, jI_lt, jI_eq, jI_lt0, jI_0lt, jI_eq0, jI_0le, jn_lo, iU_row, iU_nr, iU_eq, iU_same, jI_ixn, jI_add, jI_sub, jI_nat, sh_80, show ¬ (((5 : Nat) : Int) < 5) by omega, show ((5 : Nat) : Int) = 5 from rfl]
    exact hP
  | k + 1, i, z, hi, hz => by
    have ih := r214_b hF hP k (i + 1)
    subst hz
    have fin : ∀ I2, I2 = iU (rC I 98 100 i) 100 i (I 98 i) → mG d 214 28 [some (.ref 80), some (.int (jI ((i : Int) + 1)))] [] (mLay e) (I2, E, F) P := by
      intro I2 h2
      rw [h2, rC_S]
      exact ih _ (by omega) (by omega)
    rw [g214_28]
    simp only [g214_29, g214_30, g214_33, g214_34, g214_37, g214_38, g214_39, g214_42, g214_43, g214_44, g214_45, g214_48, nl_none, nl_int, nl_ref, Option.toList_some, Option.toList_none, List.cons_append, List.nil_append, mSetI_u, mSetL_u, Nat.add_one_ne_zero, Nat.add_eq_zero_iff, and_false, false_and, not_false_eq_true, ne_eq, j0_0, j0_1, j1_0, j1_1, if_true, if_false, ite_true, ite_false, true_and, and_true, or_true, true_or, false_or, or_false, ↓reduceIte, Nat.reduceEqDiff, Nat.reduceAdd, Nat.reduceMul, Nat.reduceSub, Int.reduceLE, Int.reduceLT, Int.reduceNeg, Int.reduceAdd, Int.reduceSub, Int.reduceEq, reduceCtorEq, jI_lt, jI_eq, jI_lt0, jI_0lt, jI_eq0, jI_0le, jn_lo, iU_row, iU_nr, iU_eq, iU_same, jI_ixn, jI_add, jI_sub, jI_nat, sh_80, sh_98, sh_100, f_80_33 hF, f_80_35 hF, show ((i : Nat) : Int) ≤ 2147483647 by omega, show (i : Nat) ≤ 2147483647 by omega, show (i : Int) < 5 by omega, jI_in (z := ((i : Int) : Int)) (n := 5) (by omega) (by omega) (by omega), rC_row (I := I) (k0 := 98) (k1 := 100) (m := i) (r := 98) (by omega)]
    exact fin _ rfl
theorem r215_b (hF : mFx F st nx gf rl dr) (hP : mG d 215 97 [some (.ref 80), some (.int (jI 5))] [] (mLay e) (rC I 100 98 5, E, F) P) : ∀ (k i : Nat) (z : Int), i + k = 5 → z = i → mG d 215 74 [some (.ref 80), some (.int (jI z))] [] (mLay e) (rC I 100 98 i, E, F) P
  | 0, i, z, hi, hz => by
    subst hz
    have e : i = 5 := by omega
    subst e
    rw [g215_74]
    simp only [g215_75, g215_76, g215_79, g215_80, g215_83, g215_84, g215_85, g215_88, g215_89, g215_90, g215_91, g215_94, nl_none, nl_int, nl_ref, Option.toList_some, Option.toList_none, List.cons_append, List.nil_append, mSetI_u, mSetL_u, Nat.add_one_ne_zero, Nat.add_eq_zero_iff, and_false, false_and, not_false_eq_true, ne_eq, j0_0, j0_1, j1_0, j1_1, if_true, if_false, ite_true, ite_false, true_and, and_true, or_true, true_or, false_or, or_false, ↓reduceIte, Nat.reduceEqDiff, Nat.reduceAdd, Nat.reduceMul, Nat.reduceSub, Int.reduceLE, Int.reduceLT, Int.reduceNeg, Int.reduceAdd, Int.reduceSub, Int.reduceEq, reduceCtorEq, jI_lt, jI_eq, jI_lt0, jI_0lt, jI_eq0, jI_0le, jn_lo, iU_row, iU_nr, iU_eq, iU_same, jI_ixn, jI_add, jI_sub, jI_nat, sh_80, show ¬ (((5 : Nat) : Int) < 5) by omega, show ((5 : Nat) : Int) = 5 from rfl]
    exact hP
  | k + 1, i, z, hi, hz => by
    have ih := r215_b hF hP k (i + 1)
    subst hz
    have fin : ∀ I2, I2 = iU (rC I 100 98 i) 98 i (I 100 i) → mG d 215 74 [some (.ref 80), some (.int (jI ((i : Int) + 1)))] [] (mLay e) (I2, E, F) P := by
      intro I2 h2
      rw [h2, rC_S]
      exact ih _ (by omega) (by omega)
    rw [g215_74]
    simp only [g215_75, g215_76, g215_79, g215_80, g215_83, g215_84, g215_85, g215_88, g215_89, g215_90, g215_91, g215_94, nl_none, nl_int, nl_ref, Option.toList_some, Option.toList_none, List.cons_append, List.nil_append, mSetI_u, mSetL_u, Nat.add_one_ne_zero, Nat.add_eq_zero_iff, and_false, false_and, not_false_eq_true, ne_eq, j0_0, j0_1, j1_0, j1_1, if_true, if_false, ite_true, ite_false, true_and, and_true, or_true, true_or, false_or, or_false, ↓reduceIte, Nat.reduceEqDiff, Nat.reduceAdd, Nat.reduceMul, Nat.reduceSub, Int.reduceLE, Int.reduceLT, Int.reduceNeg, Int.reduceAdd, Int.reduceSub, Int.reduceEq, reduceCtorEq, jI_lt, jI_eq, jI_lt0, jI_0lt, jI_eq0, jI_0le, jn_lo, iU_row, iU_nr, iU_eq, iU_same, jI_ixn, jI_add, jI_sub, jI_nat, sh_80, sh_98, sh_100, f_80_33 hF, f_80_35 hF, show ((i : Nat) : Int) ≤ 2147483647 by omega, show (i : Nat) ≤ 2147483647 by omega, show (i : Int) < 5 by omega, jI_in (z := ((i : Int) : Int)) (n := 5) (by omega) (by omega) (by omega), rC_row (I := I) (k0 := 100) (k1 := 98) (m := i) (r := 100) (by omega)]
    exact fin _ rfl
def vScI (r j : Nat) : Prop := (61 ≤ r ∧ r ≤ 66) ∨ r = 69 ∨ r = 99 ∨ r = 100 ∨ (r = 3 ∧ j = 12) ∨ (r = 80 ∧ (j = 36 ∨ j = 37))
theorem vInv_img (h : vInv c e I E F st nx gf rl dr n bn T lw) (ha : vAg vScI I I') (h10' : vImg n (I' 3 12) (I' 80 37) (I' 62) (I' 63) (I' 64) (I' 65) (I' 66) (I' 61 0) (I' 61 6) (I' 61 7) (I' 99) (I' 80 36) (I' 69) (I' 100)) : vInv c e I' E F st nx gf rl dr n bn T lw := by
  obtain ⟨h1, h2, h3, h4, h5, h6, h7, h8, h9, h10, h11, h12, h13, h14, h15, h16, h17, h18⟩ := h
  have hrow : ∀ r, (∀ j, ¬ vScI r j) → I' r = I r := fun r hr => vAg_row ha hr
  have hpl : ∀ r j, ¬ vScI r j → I' r j = I r j := ha
  have hrl : rl = 70 ∨ rl = 75 := by omega
  have hgf : gf = 27 ∨ gf = 105 := by rcases h4 with ⟨h, -⟩ | ⟨h, -⟩ <;> omega
  unfold vScI at hrow hpl
  refine ⟨h1, h2, h3, h4, h5, ?_, ?_, ?_, ?_, h10', ?_, ?_, ?_, ?_, ?_, ?_, ?_, ?_⟩
  · rw [hrow 5 (by omega), hrow 6 (by omega), hrow 7 (by omega), hrow 8 (by omega), hrow 9 (by omega), hpl 4 0 (by omega), hpl 4 6 (by omega), hpl 4 7 (by omega)]
    exact h6
  · rw [hrow 81 (by omega), hpl 80 2 (by omega)]
    exact h7
  · rw [hpl 80 20 (by omega)]
    exact h8
  · rw [hrow 60 (by omega), hrow 98 (by omega)]
    exact h9
  · rw [hpl 48 4 (by omega), hpl 48 5 (by omega), hpl 80 6 (by omega), hpl 80 7 (by omega), hrow 49 (by omega), hrow 50 (by omega), hrow 51 (by omega), hrow 52 (by omega), hrow 83 (by omega), hrow 84 (by omega), hrow 85 (by omega)]
    exact h11
  · rw [hpl 20 1 (by omega), hpl 80 9 (by omega), hrow 21 (by omega), hrow 86 (by omega)]
    exact h12
  · rw [hpl 53 1 (by omega), hpl 80 41 (by omega), hrow 54 (by omega), hrow 103 (by omega), hpl 53 3 (by omega), hpl 80 43 (by omega), hrow 55 (by omega), hrow 104 (by omega), hrow 101 (by omega), hrow 102 (by omega)]
    exact h13
  · rw [hrow 57 (by omega), hrow 58 (by omega), hrow 94 (by omega), hrow 95 (by omega)]
    exact h14
  · rw [hrow (rl + 1) (by omega), hrow (rl + 2) (by omega), hpl rl 2 (by omega)]
    exact h15
  · rw [hrow 87 (by omega), hrow 90 (by omega), hpl 80 11 (by omega), hpl 80 12 (by omega)]
    exact h16
  · rw [hrow 23 (by omega), hpl 22 1 (by omega), hpl 22 2 (by omega), hpl 22 3 (by omega), hpl 22 8 (by omega), hrow gf (by omega)]
    exact h17
  · rw [hrow 90 (by omega)]
    exact h18
end IMG
theorem api_image : mApiI vI 118 214 [] := by
  rintro c lay M hc ⟨e, I, E, F, st, nx, gf, rl, dr, n, bn, T, lw, rfl, rfl, hI⟩
  have hF := hI.1
  have hI0 := hI
  obtain ⟨-, -, h3, -, h5, h6, h7, h8, h9, h10, h11, h12, h13, h14, h15, h16, h17, h18⟩ := hI
  have hrl : rl = 70 ∨ rl = 75 := by omega
  clear h3
  have hn := h5.1
  have hc4 : vTc n T 4 I := h6
  have hrl0 : ¬ rl = 0 := by omega
  simp only [g118_in, g118_0, g118_1, g118_4, g118_5, g118_8, nl_none, nl_int, nl_ref, Option.toList_some, Option.toList_none, List.cons_append, List.nil_append, mSetI_u, mSetL_u, Nat.add_one_ne_zero, Nat.add_eq_zero_iff, and_false, false_and, not_false_eq_true, ne_eq, j0_0, j0_1, j1_0, j1_1, if_true, if_false, ite_true, ite_false, true_and, and_true, or_true, true_or, false_or, or_false, ↓reduceIte, Nat.reduceEqDiff, Nat.reduceAdd, Nat.reduceMul, Nat.reduceSub, Int.reduceLE, Int.reduceLT, Int.reduceNeg, Int.reduceAdd, Int.reduceSub, Int.reduceEq, reduceCtorEq, jI_lt, jI_eq, jI_lt0, jI_0lt, jI_eq0, jI_0le, jn_lo, iU_row, iU_nr, iU_eq, iU_same, jI_ixn, jI_add, jI_sub, jI_nat, sh_3, sh_61, f_3_0 hF, f_3_10 hF]
  refine c66 (vTw_61 hF) (vTw_4 hF) (by omega) (fun I1 h1' q0 q6 q7 qw => ?_)
  have hc61 : vTc n T 61 I1 := vTc_cp hn hc4 q0 q6 q7 qw
  have e60 : I1 60 = I 60 := vAg_row h1' (fun j q => by omega)
  have e98 : I1 98 = I 98 := vAg_row h1' (fun j q => by omega)
  have e81 : I1 81 = I 81 := vAg_row h1' (fun j q => by omega)
  have em : I1 80 2 = jI n := (h1' 80 2 (by omega)).trans h7.2.2.2
  have hA1 : vAg vScI I I1 := vAg_mono h1' (fun r j q => by unfold vScI; omega)
  simp only [g118_11, g118_12, g118_15, g118_16, g118_17, g118_20, g118_21, g118_22, g118_25, g118_26, g118_29, g118_30, g118_31, g118_34, g118_35, g118_38, g118_39, g118_40, nl_none, nl_int, nl_ref, Option.toList_some, Option.toList_none, List.cons_append, List.nil_append, mSetI_u, mSetL_u, Nat.add_one_ne_zero, Nat.add_eq_zero_iff, and_false, false_and, not_false_eq_true, ne_eq, j0_0, j0_1, j1_0, j1_1, if_true, if_false, ite_true, ite_false, true_and, and_true, or_true, true_or, false_or, or_false, ↓reduceIte, Nat.reduceEqDiff, Nat.reduceAdd, Nat.reduceMul, Nat.reduceSub, Int.reduceLE, Int.reduceLT, Int.reduceNeg, Int.reduceAdd, Int.reduceSub, Int.reduceEq, reduceCtorEq, jI_lt, jI_eq, jI_lt0, jI_0lt, jI_eq0, jI_0le, jn_lo, iU_row, iU_nr, iU_eq, iU_same, jI_ixn, jI_add, jI_sub, jI_nat, sh_3, sh_60, sh_69, f_3_9 hF, f_3_11 hF, mCpyI_u, n5_5, n0_0, cp_5, show ((5 : Nat) : Int) = 5 from rfl, show mIdx (Int32.ofInt 0) 5 = true from rfl, show (Int32.ofInt 0).toNatClampNeg = 0 from rfl, cU_row (I := I1) (k0 := 60) (k1 := 69) (sp := 0) (dp := 0) (n := 5) (a := 60) (by omega)]
  refine ⟨sh_80, ?_⟩
  have hA2 : vAg vScI I1 (iU (cU I1 60 69 0 0 5) 3 12 (Int32.ofInt 1)) := vAg_iU (vAg_cU vAg_rfl (fun j => by unfold vScI; omega)) (by unfold vScI; omega)
  have f69 : ∀ j, j < 5 → iU (cU I1 60 69 0 0 5) 3 12 (Int32.ofInt 1) 69 j = I 60 j := fun j hj => by
    rw [iU_nr (by omega)]
    exact (cU_0 hj).trans (congrFun e60 j)
  have f98 : iU (cU I1 60 69 0 0 5) 3 12 (Int32.ofInt 1) 98 = I 98 := (iU_row (by omega)).trans ((cU_row (by omega)).trans e98)
  have f81 : iU (cU I1 60 69 0 0 5) 3 12 (Int32.ofInt 1) 81 = I 81 := (iU_row (by omega)).trans ((cU_row (by omega)).trans e81)
  have f3 : iU (cU I1 60 69 0 0 5) 3 12 (Int32.ofInt 1) 3 12 = jI 1 := iU_eq
  have f80 : iU (cU I1 60 69 0 0 5) 3 12 (Int32.ofInt 1) 80 2 = jI n := (iU_nr (by omega)).trans ((congrFun (cU_row (by omega)) 2).trans em)
  have hc2 : vTc n T 61 (iU (cU I1 60 69 0 0 5) 3 12 (Int32.ofInt 1)) := vTc_ag (R := fun r j => r = 69 ∨ r = 3) (vAg_iU (vAg_cU vAg_rfl (fun j => .inl rfl)) (.inr rfl)) (fun r j q => by omega) hc61
  rw [e60]
  revert hA2 f69 f98 f81 f3 f80 hc2
  generalize iU (cU I1 60 69 0 0 5) 3 12 (Int32.ofInt 1) = I2
  intro hA2 f69 f98 f81 f3 f80 hc2
  simp only [g214_in, g214_0, g214_1, nl_none, nl_int, nl_ref, Option.toList_some, Option.toList_none, List.cons_append, List.nil_append, mSetI_u, mSetL_u, Nat.add_one_ne_zero, Nat.add_eq_zero_iff, and_false, false_and, not_false_eq_true, ne_eq, j0_0, j0_1, j1_0, j1_1, if_true, if_false, ite_true, ite_false, true_and, and_true, or_true, true_or, false_or, or_false, ↓reduceIte, Nat.reduceEqDiff, Nat.reduceAdd, Nat.reduceMul, Nat.reduceSub, Int.reduceLE, Int.reduceLT, Int.reduceNeg, Int.reduceAdd, Int.reduceSub, Int.reduceEq, reduceCtorEq, jI_lt, jI_eq, jI_lt0, jI_0lt, jI_eq0, jI_0le, jn_lo, iU_row, iU_nr, iU_eq, iU_same, jI_ixn, jI_add, jI_sub, jI_nat]
  have h := r214_a (d := 100) (e := e) (I := I2) (E := E) (F := F) (P := fun v2 l2 M2 => v2 = some (Value.int (I 60 0)) ∧ (∃ r, some (Value.int (I 60 0)) = some (Value.int r)) ∧ vI (c + 1) l2 M2) hF ?_ 42 0 0 (by omega) rfl
  · rw [rC_0] at h
    exact h
  · simp only [g214_26, g214_27, nl_none, nl_int, nl_ref, Option.toList_some, Option.toList_none, List.cons_append, List.nil_append, mSetI_u, mSetL_u, Nat.add_one_ne_zero, Nat.add_eq_zero_iff, and_false, false_and, not_false_eq_true, ne_eq, j0_0, j0_1, j1_0, j1_1, if_true, if_false, ite_true, ite_false, true_and, and_true, or_true, true_or, false_or, or_false, ↓reduceIte, Nat.reduceEqDiff, Nat.reduceAdd, Nat.reduceMul, Nat.reduceSub, Int.reduceLE, Int.reduceLT, Int.reduceNeg, Int.reduceAdd, Int.reduceSub, Int.reduceEq, reduceCtorEq, jI_lt, jI_eq, jI_lt0, jI_0lt, jI_eq0, jI_0le, jn_lo, iU_row, iU_nr, iU_eq, iU_same, jI_ixn, jI_add, jI_sub, jI_nat]
    have h := r214_b (d := 100) (e := e) (I := rC I2 81 99 42) (E := E) (F := F) (P := fun v2 l2 M2 => v2 = some (Value.int (I 60 0)) ∧ (∃ r, some (Value.int (I 60 0)) = some (Value.int r)) ∧ vI (c + 1) l2 M2) hF ?_ 5 0 0 (by omega) rfl
    · rw [rC_0] at h
      exact h
    · have g98 : rC (rC I2 81 99 42) 98 100 5 98 = I 98 := (rC_row (by omega)).trans ((rC_row (by omega)).trans f98)
      have g80 : rC (rC I2 81 99 42) 98 100 5 80 2 = jI n := (congrFun ((rC_row (by omega)).trans (rC_row (by omega))) 2).trans f80
      have h90 := h9 0 (by omega)
      simp only [g214_51, g214_52, g214_53, g214_56, g214_59, g214_60, g214_61, g214_64, g214_65, g214_68, g214_69, g214_70, nl_none, nl_int, nl_ref, Option.toList_some, Option.toList_none, List.cons_append, List.nil_append, mSetI_u, mSetL_u, Nat.add_one_ne_zero, Nat.add_eq_zero_iff, and_false, false_and, not_false_eq_true, ne_eq, j0_0, j0_1, j1_0, j1_1, if_true, if_false, ite_true, ite_false, true_and, and_true, or_true, true_or, false_or, or_false, ↓reduceIte, Nat.reduceEqDiff, Nat.reduceAdd, Nat.reduceMul, Nat.reduceSub, Int.reduceLE, Int.reduceLT, Int.reduceNeg, Int.reduceAdd, Int.reduceSub, Int.reduceEq, reduceCtorEq, jI_lt, jI_eq, jI_lt0, jI_0lt, jI_eq0, jI_0le, jn_lo, iU_row, iU_nr, iU_eq, iU_same, jI_ixn, jI_add, jI_sub, jI_nat, sh_80, sh_98, f_80_33 hF, g98, g80, h90, show mIdx (Int32.ofInt 0) 5 = true from rfl, show (Int32.ofInt 0).toNatClampNeg = 0 from rfl]
      rw [← h90]
      refine vI_fin (vI_of (vInv_up (vInv_img hI0 ?_ (.inr ⟨?_, ?_, n, T, Nat.le_refl n, h5, ?_, ?_, ?_⟩))))
      · exact vAg_iU (vAg_iU (vAg_rC (vAg_rC (vAg_tr hA1 hA2) (fun j => by unfold vScI; omega)) (fun j => by unfold vScI; omega)) (by unfold vScI; omega)) (by unfold vScI; omega)
      · rw [iU_nr (by omega), iU_nr (by omega), rC_row (by omega), rC_row (by omega)]
        exact f3
      · rw [iU_eq]
      · exact vTc_ag (o := 61) (R := fun r j => r = 80 ∨ r = 99 ∨ r = 100) (vAg_iU (vAg_iU (vAg_rC (vAg_rC vAg_rfl (fun j => .inr (.inl rfl))) (fun j => .inr (.inr rfl))) (.inl rfl)) (.inl rfl)) (fun r j q => by omega) hc2
      · rw [iU_same (by omega), iU_eq, iU_row (by omega), iU_row (by omega), rC_row (by omega)]
        refine ⟨fun i hi w hw => ?_, ?_, ?_, rfl⟩
        · rw [rC_to (by omega), f81]
          exact h7.1 i hi w hw
        · rw [rC_to (by omega), f81]
          exact h7.2.1
        · rw [rC_to (by omega), f81]
          exact h7.2.2.1
      · intro j hj
        rw [iU_nr (by omega), iU_nr (by omega), rC_row (by omega), rC_row (by omega), f69 j hj, iU_nr (by omega), iU_nr (by omega), rC_to hj, rC_row (by omega), f98]
        exact h9 j hj
