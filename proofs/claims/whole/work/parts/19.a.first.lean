/-! ===== first ===== -/
def pLb (T : Nat → Nat → Int) : Nat → Nat
  | 0 => 0
  | m + 1 => if T 3 m = 0 then pLb T m ||| 2 ^ m else pLb T m
theorem pLb_d : ∀ m : Fin 8, ∀ b : Fin 256, jI ((b.val : Nat) : Int) ||| pOne ((m.val : Nat) : Int) = jI ((b.val ||| 2 ^ m.val : Nat) : Int) ∧ b.val ||| 2 ^ m.val < 256 := by decide +kernel
theorem pLb_e (T : Nat → Nat → Int) : ∀ m, m ≤ 8 → pLack T (-1) m = jI (pLb T m) ∧ pLb T m < 256
  | 0, _ => ⟨rfl, show 0 < 256 by omega⟩
  | m + 1, hm => by
    obtain ⟨h1, h2⟩ := pLb_e T m (by omega)
    have h := pLb_d ⟨m, by omega⟩ ⟨pLb T m, h2⟩
    simp only [pLack, pLb]
    by_cases q : T 3 m = 0
    · rw [if_pos (show T 3 m = 0 ∧ ¬ (m : Int) = -1 from ⟨q, by omega⟩), if_pos q, h1]
      exact h
    · rw [if_neg (by omega), if_neg q]
      exact ⟨h1, h2⟩
def pT (b : Nat) : Nat := if b % 2 = 1 then 0 else if b % 4 = 2 then 1 else if b % 8 = 4 then 2 else if b % 16 = 8 then 3 else if b % 32 = 16 then 4 else if b % 64 = 32 then 5 else if b % 128 = 64 then 6 else 7
theorem pT_lt (b : Nat) : pT b ≤ 7 := by
  unfold pT
  repeat' split
  all_goals omega
theorem pSh_d : ∀ b : Fin 256, ∀ i : Fin 10, (jI ((b.val : Nat) : Int) >>> (jI ((i.val : Nat) : Int) &&& 31)) &&& jI 1 = if pBt b.val i.val then jI 1 else jI 0 := by decide +kernel
theorem pAn_d : ∀ b : Fin 256, ∀ i : Fin 8, jI ((b.val : Nat) : Int) &&& pOne ((i.val : Nat) : Int) = if pBt b.val i.val then jI (2 ^ i.val : Nat) else jI 0 := by decide +kernel
theorem pT_d : ∀ b : Fin 256, b.val ≠ 0 → pBt b.val (pT b.val) = true ∧ (∀ i : Fin 8, i.val < pT b.val → pBt b.val i.val = false) ∧ (jI ((b.val : Nat) : Int) ^^^ jI (-1)) &&& (jI ((b.val : Nat) : Int) - jI 1) = jI ((2 ^ pT b.val - 1 : Nat) : Int) := by decide +kernel
theorem p255_d : ∀ b : Fin 256, jI ((b.val : Nat) : Int) &&& jI 255 = jI ((b.val : Nat) : Int) := by decide +kernel
section FST
variable {d n : Nat} {lay : List mShp} {e : List mShp} {M : mMem} {I : Nat → Nat → Int32} {E : Nat → Nat → Int64} {F : Nat → Nat → Nat} {P : mPost} {T : Nat → Nat → Int} {lw : vLw} {st nx gf rl dr : Nat}
theorem c134_a {b : Nat} (hb : b < 256) (hb0 : b ≠ 0) (hP : P (some (.int (jI (pT b)))) lay M) : ∀ (k i : Nat) (z : Int), i + k = pT b → z = i → mG d 134 2 [some (.int (jI b)), some (.int (jI z))] [] lay M P
  | 0, i, z, hi, hz => by
    have ht := pT_lt b
    subst hz
    have e : i = pT b := by omega
    subst e
    have h := pSh_d ⟨b, hb⟩ ⟨pT b, by omega⟩
    rw [if_pos (pT_d ⟨b, hb⟩ hb0).1] at h
    rw [g134_2]
    simp only [g134_3, g134_5, g134_8, g134_9, g134_10, g134_11, g134_12, g134_13, g134_14, g134_17, g134_18, g134_19, g134_22, nl_none, nl_int, nl_ref, Option.toList_some, Option.toList_none, List.cons_append, List.nil_append, mSetI_u, mSetL_u, Nat.add_one_ne_zero, Nat.add_eq_zero_iff, and_false, false_and, not_false_eq_true, ne_eq, j0_0, j0_1, j1_0, j1_1, if_true, if_false, ite_true, ite_false, true_and, and_true, or_true, true_or, false_or, or_false, ↓reduceIte, Nat.reduceEqDiff, Nat.reduceAdd, Nat.reduceMul, Nat.reduceSub, Int.reduceLE, Int.reduceLT, Int.reduceNeg, Int.reduceAdd, Int.reduceSub, Int.reduceEq, reduceCtorEq, jI_lt, jI_eq, jI_lt0, jI_0lt, jI_eq0, jI_0le, jn_lo, iU_row, iU_nr, iU_eq, iU_same, jI_ixn, jI_add, jI_sub, jI_nat, show ((pT b : Nat) : Int) ≤ 2147483647 by omega, show (pT b : Nat) ≤ 2147483647 by omega, show (pT b : Int) < 10 by omega, h, eq_self]
    exact hP
  | k + 1, i, z, hi, hz => by
    have ih := c134_a hb hb0 hP k (i + 1)
    have ht := pT_lt b
    subst hz
    have h := pSh_d ⟨b, hb⟩ ⟨i, by omega⟩
    rw [if_neg (by rw [(pT_d ⟨b, hb⟩ hb0).2.1 ⟨i, by omega⟩ (by show i < pT b; omega)]; decide)] at h
    rw [g134_2]
    simp only [g134_3, g134_5, g134_8, g134_9, g134_10, g134_11, g134_12, g134_13, g134_14, g134_17, g134_18, g134_19, g134_22, nl_none, nl_int, nl_ref, Option.toList_some, Option.toList_none, List.cons_append, List.nil_append, mSetI_u, mSetL_u, Nat.add_one_ne_zero, Nat.add_eq_zero_iff, and_false, false_and, not_false_eq_true, ne_eq, j0_0, j0_1, j1_0, j1_1, if_true, if_false, ite_true, ite_false, true_and, and_true, or_true, true_or, false_or, or_false, ↓reduceIte, Nat.reduceEqDiff, Nat.reduceAdd, Nat.reduceMul, Nat.reduceSub, Int.reduceLE, Int.reduceLT, Int.reduceNeg, Int.reduceAdd, Int.reduceSub, Int.reduceEq, reduceCtorEq, jI_lt, jI_eq, jI_lt0, jI_0lt, jI_eq0, jI_0le, jn_lo, iU_row, iU_nr, iU_eq, iU_same, jI_ixn, jI_add, jI_sub, jI_nat, show ((i : Nat) : Int) ≤ 2147483647 by omega, show (i : Nat) ≤ 2147483647 by omega, show (i : Int) < 10 by omega, h]
    exact ih _ (by omega) (by omega)
theorem c134 {b : Nat} (hb : b < 256) (hb0 : b ≠ 0) : mF d 134 [.int (jI b)] lay M P = P (some (.int (jI (pT b)))) lay M := by
  refine mF_det ?_ P
  simp only [g134_in, g134_0, g134_1, nl_none, nl_int, nl_ref, Option.toList_some, Option.toList_none, List.cons_append, List.nil_append, mSetI_u, mSetL_u, Nat.add_one_ne_zero, Nat.add_eq_zero_iff, and_false, false_and, not_false_eq_true, ne_eq, j0_0, j0_1, j1_0, j1_1, if_true, if_false, ite_true, ite_false, true_and, and_true, or_true, true_or, false_or, or_false, ↓reduceIte, Nat.reduceEqDiff, Nat.reduceAdd, Nat.reduceMul, Nat.reduceSub, Int.reduceLE, Int.reduceLT, Int.reduceNeg, Int.reduceAdd, Int.reduceSub, Int.reduceEq, reduceCtorEq, jI_lt, jI_eq, jI_lt0, jI_0lt, jI_eq0, jI_0le, jn_lo, iU_row, iU_nr, iU_eq, iU_same, jI_ixn, jI_add, jI_sub, jI_nat]
  exact c134_a hb hb0 ⟨rfl, rfl, rfl⟩ (pT b) 0 0 (by omega) rfl
theorem r229 {b : Nat} (hb : b < 256) (hb0 : b ≠ 0) : mF d 229 [.int (jI b)] lay M P = P (some (.int (jI (pT b)))) lay M := by
  have h := (pT_d ⟨b, hb⟩ hb0).2.2
  have ht := pT_lt b
  simp only at h
  have f127 : ((Int32.ofInt 127).toUInt32 >>> ((Int32.ofInt 4).toUInt32 &&& Int32.toUInt32 31)).toInt32 = Int32.ofInt 7 := by decide
  have f63 : ((Int32.ofInt 63).toUInt32 >>> ((Int32.ofInt 4).toUInt32 &&& Int32.toUInt32 31)).toInt32 = Int32.ofInt 3 := by decide
  have f31 : ((Int32.ofInt 31).toUInt32 >>> ((Int32.ofInt 4).toUInt32 &&& Int32.toUInt32 31)).toInt32 = Int32.ofInt 1 := by decide
  have f15 : ((Int32.ofInt 15).toUInt32 >>> ((Int32.ofInt 2).toUInt32 &&& Int32.toUInt32 31)).toInt32 = Int32.ofInt 3 := by decide
  have f7 : ((Int32.ofInt 7).toUInt32 >>> ((Int32.ofInt 2).toUInt32 &&& Int32.toUInt32 31)).toInt32 = Int32.ofInt 1 := by decide
  have f3 : ((Int32.ofInt 3).toUInt32 >>> ((Int32.ofInt 1).toUInt32 &&& Int32.toUInt32 31)).toInt32 = Int32.ofInt 1 := by decide
  have f1 : ((Int32.ofInt 1).toUInt32 >>> ((Int32.ofInt 1).toUInt32 &&& Int32.toUInt32 31)).toInt32 = Int32.ofInt 0 := by decide
  have f0 : Int32.ofInt 0 &&& Int32.ofInt 32 = Int32.ofInt 0 := by decide
  simp only [g229_in, g229_0, g229_1, g229_2, g229_3, g229_4, g229_5, g229_6, g229_7, nl_none, nl_int, nl_ref, Option.toList_some, Option.toList_none, List.cons_append, List.nil_append, mSetI_u, mSetL_u, Nat.add_one_ne_zero, Nat.add_eq_zero_iff, and_false, false_and, not_false_eq_true, ne_eq, j0_0, j0_1, j1_0, j1_1, if_true, if_false, ite_true, ite_false, true_and, and_true, or_true, true_or, false_or, or_false, ↓reduceIte, Nat.reduceEqDiff, Nat.reduceAdd, Nat.reduceMul, Nat.reduceSub, Int.reduceLE, Int.reduceLT, Int.reduceNeg, Int.reduceAdd, Int.reduceSub, Int.reduceEq, reduceCtorEq, jI_lt, jI_eq, jI_lt0, jI_0lt, jI_eq0, jI_0le, jn_lo, iU_row, iU_nr, iU_eq, iU_same, jI_ixn, jI_add, jI_sub, jI_nat]
  rw [jI_sub] at h
  rcases (by omega : pT b = 0 ∨ pT b = 1 ∨ pT b = 2 ∨ pT b = 3 ∨ pT b = 4 ∨ pT b = 5 ∨ pT b = 6 ∨ pT b = 7) with q | q | q | q | q | q | q | q
  · rw [q] at h ⊢
    rw [h]
    simp only [g229_8, g229_9, g229_12, g229_13, g229_15, g229_16, g229_17, g229_18, g229_19, g229_20, g229_23, g229_26, g229_29, g229_30, g229_32, g229_33, g229_34, g229_35, g229_38, g229_41, g229_44, g229_45, g229_47, g229_48, g229_49, g229_50, g229_52, g229_55, g229_58, g229_59, g229_60, g229_61, g229_62, g229_63, g229_64, g229_67, g229_70, g229_71, g229_72, g229_73, g229_74, g229_75, g229_76, g229_77, g229_78, g229_79, nl_none, nl_int, nl_ref, Option.toList_some, Option.toList_none, List.cons_append, List.nil_append, mSetI_u, mSetL_u, Nat.add_one_ne_zero, Nat.add_eq_zero_iff, and_false, false_and, not_false_eq_true, ne_eq, j0_0, j0_1, j1_0, j1_1, if_true, if_false, ite_true, ite_false, true_and, and_true, or_true, true_or, false_or, or_false, ↓reduceIte, Nat.reduceEqDiff, Nat.reduceAdd, Nat.reduceMul, Nat.reduceSub, Int.reduceLE, Int.reduceLT, Int.reduceNeg, Int.reduceAdd, Int.reduceSub, Int.reduceEq, reduceCtorEq, jI_lt, jI_eq, jI_lt0, jI_0lt, jI_eq0, jI_0le, jn_lo, iU_row, iU_nr, iU_eq, iU_same, jI_ixn, jI_add, jI_sub, jI_nat, show ((2 ^ 0 - 1 : Nat) : Int) = 0 from rfl, f0]
  · rw [q] at h ⊢
    rw [h]
    simp only [g229_8, g229_9, g229_12, g229_13, g229_15, g229_16, g229_17, g229_18, g229_19, g229_20, g229_23, g229_26, g229_29, g229_30, g229_32, g229_33, g229_34, g229_35, g229_38, g229_41, g229_44, g229_45, g229_47, g229_48, g229_49, g229_50, g229_52, g229_55, g229_58, g229_59, g229_60, g229_61, g229_62, g229_63, g229_64, g229_67, g229_70, g229_71, g229_72, g229_73, g229_74, g229_75, g229_76, g229_77, g229_78, g229_79, nl_none, nl_int, nl_ref, Option.toList_some, Option.toList_none, List.cons_append, List.nil_append, mSetI_u, mSetL_u, Nat.add_one_ne_zero, Nat.add_eq_zero_iff, and_false, false_and, not_false_eq_true, ne_eq, j0_0, j0_1, j1_0, j1_1, if_true, if_false, ite_true, ite_false, true_and, and_true, or_true, true_or, false_or, or_false, ↓reduceIte, Nat.reduceEqDiff, Nat.reduceAdd, Nat.reduceMul, Nat.reduceSub, Int.reduceLE, Int.reduceLT, Int.reduceNeg, Int.reduceAdd, Int.reduceSub, Int.reduceEq, reduceCtorEq, jI_lt, jI_eq, jI_lt0, jI_0lt, jI_eq0, jI_0le, jn_lo, iU_row, iU_nr, iU_eq, iU_same, jI_ixn, jI_add, jI_sub, jI_nat, show ((2 ^ 1 - 1 : Nat) : Int) = 1 from rfl, f1]
  · rw [q] at h ⊢
    rw [h]
    simp only [g229_8, g229_9, g229_12, g229_13, g229_15, g229_16, g229_17, g229_18, g229_19, g229_20, g229_23, g229_26, g229_29, g229_30, g229_32, g229_33, g229_34, g229_35, g229_38, g229_41, g229_44, g229_45, g229_47, g229_48, g229_49, g229_50, g229_52, g229_55, g229_58, g229_59, g229_60, g229_61, g229_62, g229_63, g229_64, g229_67, g229_70, g229_71, g229_72, g229_73, g229_74, g229_75, g229_76, g229_77, g229_78, g229_79, nl_none, nl_int, nl_ref, Option.toList_some, Option.toList_none, List.cons_append, List.nil_append, mSetI_u, mSetL_u, Nat.add_one_ne_zero, Nat.add_eq_zero_iff, and_false, false_and, not_false_eq_true, ne_eq, j0_0, j0_1, j1_0, j1_1, if_true, if_false, ite_true, ite_false, true_and, and_true, or_true, true_or, false_or, or_false, ↓reduceIte, Nat.reduceEqDiff, Nat.reduceAdd, Nat.reduceMul, Nat.reduceSub, Int.reduceLE, Int.reduceLT, Int.reduceNeg, Int.reduceAdd, Int.reduceSub, Int.reduceEq, reduceCtorEq, jI_lt, jI_eq, jI_lt0, jI_0lt, jI_eq0, jI_0le, jn_lo, iU_row, iU_nr, iU_eq, iU_same, jI_ixn, jI_add, jI_sub, jI_nat, show ((2 ^ 2 - 1 : Nat) : Int) = 3 from rfl, f3]
    rfl
  · rw [q] at h ⊢
    rw [h]
    simp only [g229_8, g229_9, g229_12, g229_13, g229_15, g229_16, g229_17, g229_18, g229_19, g229_20, g229_23, g229_26, g229_29, g229_30, g229_32, g229_33, g229_34, g229_35, g229_38, g229_41, g229_44, g229_45, g229_47, g229_48, g229_49, g229_50, g229_52, g229_55, g229_58, g229_59, g229_60, g229_61, g229_62, g229_63, g229_64, g229_67, g229_70, g229_71, g229_72, g229_73, g229_74, g229_75, g229_76, g229_77, g229_78, g229_79, nl_none, nl_int, nl_ref, Option.toList_some, Option.toList_none, List.cons_append, List.nil_append, mSetI_u, mSetL_u, Nat.add_one_ne_zero, Nat.add_eq_zero_iff, and_false, false_and, not_false_eq_true, ne_eq, j0_0, j0_1, j1_0, j1_1, if_true, if_false, ite_true, ite_false, true_and, and_true, or_true, true_or, false_or, or_false, ↓reduceIte, Nat.reduceEqDiff, Nat.reduceAdd, Nat.reduceMul, Nat.reduceSub, Int.reduceLE, Int.reduceLT, Int.reduceNeg, Int.reduceAdd, Int.reduceSub, Int.reduceEq, reduceCtorEq, jI_lt, jI_eq, jI_lt0, jI_0lt, jI_eq0, jI_0le, jn_lo, iU_row, iU_nr, iU_eq, iU_same, jI_ixn, jI_add, jI_sub, jI_nat, show ((2 ^ 3 - 1 : Nat) : Int) = 7 from rfl, f7, f1]
    rfl
  · rw [q] at h ⊢
    rw [h]
    simp only [g229_8, g229_9, g229_12, g229_13, g229_15, g229_16, g229_17, g229_18, g229_19, g229_20, g229_23, g229_26, g229_29, g229_30, g229_32, g229_33, g229_34, g229_35, g229_38, g229_41, g229_44, g229_45, g229_47, g229_48, g229_49, g229_50, g229_52, g229_55, g229_58, g229_59, g229_60, g229_61, g229_62, g229_63, g229_64, g229_67, g229_70, g229_71, g229_72, g229_73, g229_74, g229_75, g229_76, g229_77, g229_78, g229_79, nl_none, nl_int, nl_ref, Option.toList_some, Option.toList_none, List.cons_append, List.nil_append, mSetI_u, mSetL_u, Nat.add_one_ne_zero, Nat.add_eq_zero_iff, and_false, false_and, not_false_eq_true, ne_eq, j0_0, j0_1, j1_0, j1_1, if_true, if_false, ite_true, ite_false, true_and, and_true, or_true, true_or, false_or, or_false, ↓reduceIte, Nat.reduceEqDiff, Nat.reduceAdd, Nat.reduceMul, Nat.reduceSub, Int.reduceLE, Int.reduceLT, Int.reduceNeg, Int.reduceAdd, Int.reduceSub, Int.reduceEq, reduceCtorEq, jI_lt, jI_eq, jI_lt0, jI_0lt, jI_eq0, jI_0le, jn_lo, iU_row, iU_nr, iU_eq, iU_same, jI_ixn, jI_add, jI_sub, jI_nat, show ((2 ^ 4 - 1 : Nat) : Int) = 15 from rfl, f15, f3]
    rfl
  · rw [q] at h ⊢
    rw [h]
    simp only [g229_8, g229_9, g229_12, g229_13, g229_15, g229_16, g229_17, g229_18, g229_19, g229_20, g229_23, g229_26, g229_29, g229_30, g229_32, g229_33, g229_34, g229_35, g229_38, g229_41, g229_44, g229_45, g229_47, g229_48, g229_49, g229_50, g229_52, g229_55, g229_58, g229_59, g229_60, g229_61, g229_62, g229_63, g229_64, g229_67, g229_70, g229_71, g229_72, g229_73, g229_74, g229_75, g229_76, g229_77, g229_78, g229_79, nl_none, nl_int, nl_ref, Option.toList_some, Option.toList_none, List.cons_append, List.nil_append, mSetI_u, mSetL_u, Nat.add_one_ne_zero, Nat.add_eq_zero_iff, and_false, false_and, not_false_eq_true, ne_eq, j0_0, j0_1, j1_0, j1_1, if_true, if_false, ite_true, ite_false, true_and, and_true, or_true, true_or, false_or, or_false, ↓reduceIte, Nat.reduceEqDiff, Nat.reduceAdd, Nat.reduceMul, Nat.reduceSub, Int.reduceLE, Int.reduceLT, Int.reduceNeg, Int.reduceAdd, Int.reduceSub, Int.reduceEq, reduceCtorEq, jI_lt, jI_eq, jI_lt0, jI_0lt, jI_eq0, jI_0le, jn_lo, iU_row, iU_nr, iU_eq, iU_same, jI_ixn, jI_add, jI_sub, jI_nat, show ((2 ^ 5 - 1 : Nat) : Int) = 31 from rfl, f31, f1]
    rfl
  · rw [q] at h ⊢
    rw [h]
    simp only [g229_8, g229_9, g229_12, g229_13, g229_15, g229_16, g229_17, g229_18, g229_19, g229_20, g229_23, g229_26, g229_29, g229_30, g229_32, g229_33, g229_34, g229_35, g229_38, g229_41, g229_44, g229_45, g229_47, g229_48, g229_49, g229_50, g229_52, g229_55, g229_58, g229_59, g229_60, g229_61, g229_62, g229_63, g229_64, g229_67, g229_70, g229_71, g229_72, g229_73, g229_74, g229_75, g229_76, g229_77, g229_78, g229_79, nl_none, nl_int, nl_ref, Option.toList_some, Option.toList_none, List.cons_append, List.nil_append, mSetI_u, mSetL_u, Nat.add_one_ne_zero, Nat.add_eq_zero_iff, and_false, false_and, not_false_eq_true, ne_eq, j0_0, j0_1, j1_0, j1_1, if_true, if_false, ite_true, ite_false, true_and, and_true, or_true, true_or, false_or, or_false, ↓reduceIte, Nat.reduceEqDiff, Nat.reduceAdd, Nat.reduceMul, Nat.reduceSub, Int.reduceLE, Int.reduceLT, Int.reduceNeg, Int.reduceAdd, Int.reduceSub, Int.reduceEq, reduceCtorEq, jI_lt, jI_eq, jI_lt0, jI_0lt, jI_eq0, jI_0le, jn_lo, iU_row, iU_nr, iU_eq, iU_same, jI_ixn, jI_add, jI_sub, jI_nat, show ((2 ^ 6 - 1 : Nat) : Int) = 63 from rfl, f63, f3]
    rfl
  · rw [q] at h ⊢
    rw [h]
    simp only [g229_8, g229_9, g229_12, g229_13, g229_15, g229_16, g229_17, g229_18, g229_19, g229_20, g229_23, g229_26, g229_29, g229_30, g229_32, g229_33, g229_34, g229_35, g229_38, g229_41, g229_44, g229_45, g229_47, g229_48, g229_49, g229_50, g229_52, g229_55, g229_58, g229_59, g229_60, g229_61, g229_62, g229_63, g229_64, g229_67, g229_70, g229_71, g229_72, g229_73, g229_74, g229_75, g229_76, g229_77, g229_78, g229_79, nl_none, nl_int, nl_ref, Option.toList_some, Option.toList_none, List.cons_append, List.nil_append, mSetI_u, mSetL_u, Nat.add_one_ne_zero, Nat.add_eq_zero_iff, and_false, false_and, not_false_eq_true, ne_eq, j0_0, j0_1, j1_0, j1_1, if_true, if_false, ite_true, ite_false, true_and, and_true, or_true, true_or, false_or, or_false, ↓reduceIte, Nat.reduceEqDiff, Nat.reduceAdd, Nat.reduceMul, Nat.reduceSub, Int.reduceLE, Int.reduceLT, Int.reduceNeg, Int.reduceAdd, Int.reduceSub, Int.reduceEq, reduceCtorEq, jI_lt, jI_eq, jI_lt0, jI_0lt, jI_eq0, jI_0le, jn_lo, iU_row, iU_nr, iU_eq, iU_same, jI_ixn, jI_add, jI_sub, jI_nat, show ((2 ^ 7 - 1 : Nat) : Int) = 127 from rfl, f127, f7, f1]
    rfl
end FST
