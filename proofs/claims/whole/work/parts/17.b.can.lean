/-! ===== can ===== -/
theorem jL_toInt {y : Int} (h0 : -128 ≤ y) (h1 : y ≤ 127) : (Int64.ofInt y).toInt = y := Int64.toInt_ofInt_of_le (by omega) (by omega)
theorem jL_eq {y w : Int} (h0 : -128 ≤ y) (h1 : y ≤ 127) (h2 : -128 ≤ w) (h3 : w ≤ 127) : (Int64.ofInt y = Int64.ofInt w) = (y = w) := by
  apply propext
  constructor
  · intro h
    have := congrArg Int64.toInt h
    rwa [jL_toInt h0 h1, jL_toInt h2 h3] at this
  · rintro rfl
    rfl
theorem lg_ne {x y : Int64} (h : ¬ x = y) : (lg_cmp x y = 0) = False := by
  apply eq_false
  intro q
  unfold lg_cmp at q
  split at q
  · exact absurd q (by decide)
  · first
    | exact absurd q (by decide)
    | (rw [if_neg h] at q
       exact absurd q (by decide))
theorem i64_lt_irr (x : Int64) : ¬ (x > x) := by
  intro h
  have := Int64.lt_iff_toInt_lt.mp h
  omega
theorem lg_self (x : Int64) : lg_cmp x x = 0 := by
  unfold lg_cmp
  rw [if_neg (i64_lt_irr x), if_pos rfl]
theorem jL_32 {y : Int} (h0 : -128 ≤ y) (h1 : y ≤ 127) : (Int64.ofInt y).toInt32 = jI y := by
  apply Int32.toInt_inj.mp
  rw [Int64.toInt_toInt32, jL_toInt h0 h1, jI_toInt (by omega) (by omega)]
  exact Int.bmod_eq_of_le (by omega) (by omega)
theorem jL_n1 : Int64.ofNat 1 = Int64.ofInt 1 := by decide
/-- nights: from i on, k more, as long as they're 0 or 1 -/
def pNi (y : Nat → Int) : Nat → Nat → Int → Int
  | 0, _, x => x
  | k + 1, i, x => if y i = 0 then pNi y k (i + 1) (x + -1) else if y i = 1 then pNi y k (i + 1) (x + 1) else x
theorem pNi_in (y : Nat → Int) : ∀ (k i : Nat) (x : Int), x - k ≤ pNi y k i x ∧ pNi y k i x ≤ x + k
  | 0, i, x => by simp only [pNi]; omega
  | k + 1, i, x => by
    simp only [pNi]
    have h1 := pNi_in y k (i + 1) (x + -1)
    have h2 := pNi_in y k (i + 1) (x + 1)
    split
    · omega
    · split <;> omega
def p3 : Nat → Int64
  | 0 => Int64.ofNat 1
  | m + 1 => p3 m * Int64.ofInt 3
section CAN
variable {d : Nat} {lay : List mShp} {e : List mShp} {M : mMem} {I I' : Nat → Nat → Int32} {E : Nat → Nat → Int64} {F : Nat → Nat → Nat} {P : mPost} {st nx gf rl dr : Nat} {y : Nat → Int}
theorem c143_a {m : Nat} (hm : m ≤ 100) (hP : P (some (.long (p3 m))) lay M) : ∀ (k i : Nat) (z : Int), i + k = m → z = i → mG d 143 4 [some (.int (jI m)), some (.long (p3 i)), none, some (.int (jI z))] [] lay M P
  | 0, i, z, hi, hz => by
    subst hz
    have e : i = m := by omega
    subst e
    rw [g143_4]
    simp only [g143_5, g143_6, g143_9, g143_10, g143_13, g143_14, g143_15, g143_18, g143_21, g143_22, nl_none, nl_int, nl_ref, Option.toList_some, Option.toList_none, List.cons_append, List.nil_append, mSetI_u, mSetL_u, Nat.add_one_ne_zero, Nat.add_eq_zero_iff, and_false, false_and, not_false_eq_true, ne_eq, j0_0, j0_1, j1_0, j1_1, if_true, if_false, ite_true, ite_false, true_and, and_true, or_true, true_or, false_or, or_false, ↓reduceIte, Nat.reduceEqDiff, Nat.reduceAdd, Nat.reduceMul, Nat.reduceSub, Int.reduceLE, Int.reduceLT, Int.reduceNeg, Int.reduceAdd, Int.reduceSub, Int.reduceEq, reduceCtorEq, jI_lt, jI_eq, jI_lt0, jI_0lt, jI_eq0, jI_0le, jn_lo, iU_row, iU_nr, iU_eq, iU_same, jI_ixn, jI_add, jI_sub, jI_nat, show ((i : Nat) : Int) ≤ 2147483647 by omega, show (i : Nat) ≤ 2147483647 by omega, show ¬ ((i : Int) < (i : Int)) by omega]
    exact hP
  | k + 1, i, z, hi, hz => by
    have ih := c143_a hm hP k (i + 1)
    subst hz
    rw [g143_4]
    simp only [g143_5, g143_6, g143_9, g143_10, g143_13, g143_14, g143_15, g143_18, g143_21, g143_22, nl_none, nl_int, nl_ref, Option.toList_some, Option.toList_none, List.cons_append, List.nil_append, mSetI_u, mSetL_u, Nat.add_one_ne_zero, Nat.add_eq_zero_iff, and_false, false_and, not_false_eq_true, ne_eq, j0_0, j0_1, j1_0, j1_1, if_true, if_false, ite_true, ite_false, true_and, and_true, or_true, true_or, false_or, or_false, ↓reduceIte, Nat.reduceEqDiff, Nat.reduceAdd, Nat.reduceMul, Nat.reduceSub, Int.reduceLE, Int.reduceLT, Int.reduceNeg, Int.reduceAdd, Int.reduceSub, Int.reduceEq, reduceCtorEq, jI_lt, jI_eq, jI_lt0, jI_0lt, jI_eq0, jI_0le, jn_lo, iU_row, iU_nr, iU_eq, iU_same, jI_ixn, jI_add, jI_sub, jI_nat, show ((i : Nat) : Int) ≤ 2147483647 by omega, show (i : Nat) ≤ 2147483647 by omega, show ((m : Nat) : Int) ≤ 2147483647 by omega, show (m : Nat) ≤ 2147483647 by omega, show (i : Int) < (m : Int) by omega]
    exact ih _ (by omega) (by omega)
theorem c143 {m : Nat} (hm : m ≤ 100) : mF d 143 [.int (jI m)] lay M P = P (some (.long (p3 m))) lay M := by
  refine mF_det ?_ P
  simp only [g143_in, g143_0, g143_1, g143_2, g143_3, nl_none, nl_int, nl_ref, Option.toList_some, Option.toList_none, List.cons_append, List.nil_append, mSetI_u, mSetL_u, Nat.add_one_ne_zero, Nat.add_eq_zero_iff, and_false, false_and, not_false_eq_true, ne_eq, j0_0, j0_1, j1_0, j1_1, if_true, if_false, ite_true, ite_false, true_and, and_true, or_true, true_or, false_or, or_false, ↓reduceIte, Nat.reduceEqDiff, Nat.reduceAdd, Nat.reduceMul, Nat.reduceSub, Int.reduceLE, Int.reduceLT, Int.reduceNeg, Int.reduceAdd, Int.reduceSub, Int.reduceEq, reduceCtorEq, jI_lt, jI_eq, jI_lt0, jI_0lt, jI_eq0, jI_0le, jn_lo, iU_row, iU_nr, iU_eq, iU_same, jI_ixn, jI_add, jI_sub, jI_nat]
  exact c143_a hm ⟨rfl, rfl, rfl⟩ m 0 0 (by omega) rfl
theorem r204_b {s : Nat} {w x : Int} {m : Nat} (hm : m ≤ 100) (hx : pAbs x = m) (hx0 : -100 ≤ x) (hx1 : x ≤ 100) (hP : mG d 204 110 [some (.ref 80), some (.int (jI s)), some (.int (jI w)), some (.int (jI x)), some (.long (p3 m)), none, some (.int (jI m))] [] lay M P) : ∀ (k i : Nat) (z : Int), i + k = m → z = i → mG d 204 87 [some (.ref 80), some (.int (jI s)), some (.int (jI w)), some (.int (jI x)), some (.long (p3 i)), none, some (.int (jI z))] [] lay M P
  | 0, i, z, hi, hz => by
    subst hz
    have e : i = m := by omega
    subst e
    rw [g204_87]
    simp only [g204_89, g204_90, g204_93, g204_96, g204_98, g204_101, g204_102, g204_104, g204_107, nl_none, nl_int, nl_ref, Option.toList_some, Option.toList_none, List.cons_append, List.nil_append, mSetI_u, mSetL_u, Nat.add_one_ne_zero, Nat.add_eq_zero_iff, and_false, false_and, not_false_eq_true, ne_eq, j0_0, j0_1, j1_0, j1_1, if_true, if_false, ite_true, ite_false, true_and, and_true, or_true, true_or, false_or, or_false, ↓reduceIte, Nat.reduceEqDiff, Nat.reduceAdd, Nat.reduceMul, Nat.reduceSub, Int.reduceLE, Int.reduceLT, Int.reduceNeg, Int.reduceAdd, Int.reduceSub, Int.reduceEq, reduceCtorEq, jI_lt, jI_eq, jI_lt0, jI_0lt, jI_eq0, jI_0le, jn_lo, iU_row, iU_nr, iU_eq, iU_same, jI_ixn, jI_add, jI_sub, jI_nat, show ((i : Nat) : Int) ≤ 2147483647 by omega, show (i : Nat) ≤ 2147483647 by omega, show -2147483648 ≤ (x : Int) by omega, show (x : Int) ≤ 2147483647 by omega, jI_pabs, hx, show ¬ ((i : Int) < (i : Int)) by omega]
    exact hP
  | k + 1, i, z, hi, hz => by
    have ih := r204_b (s := s) (w := w) hm hx hx0 hx1 hP k (i + 1)
    subst hz
    rw [g204_87]
    simp only [g204_89, g204_90, g204_93, g204_96, g204_98, g204_101, g204_102, g204_104, g204_107, nl_none, nl_int, nl_ref, Option.toList_some, Option.toList_none, List.cons_append, List.nil_append, mSetI_u, mSetL_u, Nat.add_one_ne_zero, Nat.add_eq_zero_iff, and_false, false_and, not_false_eq_true, ne_eq, j0_0, j0_1, j1_0, j1_1, if_true, if_false, ite_true, ite_false, true_and, and_true, or_true, true_or, false_or, or_false, ↓reduceIte, Nat.reduceEqDiff, Nat.reduceAdd, Nat.reduceMul, Nat.reduceSub, Int.reduceLE, Int.reduceLT, Int.reduceNeg, Int.reduceAdd, Int.reduceSub, Int.reduceEq, reduceCtorEq, jI_lt, jI_eq, jI_lt0, jI_0lt, jI_eq0, jI_0le, jn_lo, iU_row, iU_nr, iU_eq, iU_same, jI_ixn, jI_add, jI_sub, jI_nat, show ((i : Nat) : Int) ≤ 2147483647 by omega, show (i : Nat) ≤ 2147483647 by omega, show ((m : Nat) : Int) ≤ 2147483647 by omega, show (m : Nat) ≤ 2147483647 by omega, show -2147483648 ≤ (x : Int) by omega, show (x : Int) ≤ 2147483647 by omega, jI_pabs, hx, show (i : Int) < (m : Int) by omega]
    exact ih _ (by omega) (by omega)
theorem c142_a (hF : mFx F st nx gf rl dr) {s m : Nat} (hs : s < 6) (hm : m ≤ 30) (hy : ∀ i, i < 60 → -128 ≤ y i ∧ y i ≤ 127 ∧ E 59 (60 * s + i) = Int64.ofInt (y i)) {r : Int} (hP : P (some (.int (jI r))) (mLay e) (I, E, F)) : ∀ (k i : Nat) (z x : Int) a5 a6, i + k = m → z = i → r = pNi y k i x → mG (d + 1) 142 19 [some (.ref 3), some (.int (jI s)), some (.int (jI m)), some (.int (jI x)), some (.int (jI z)), a5, a6] [] (mLay e) (I, E, F) P
  | 0, i, z, x, a5, a6, hi, hz, hr => by
    subst hz
    have e : i = m := by omega
    subst e
    simp only [pNi] at hr
    subst hr
    rw [g142_19]
    simp only [g142_21, g142_22, g142_25, g142_26, g142_29, g142_30, g142_32, g142_35, g142_37, g142_39, g142_40, g142_41, g142_44, g142_46, g142_47, g142_48, g142_51, g142_54, g142_55, g142_57, g142_58, g142_59, g142_62, g142_63, g142_66, g142_67, g142_68, g142_69, g142_72, g142_75, g142_76, nl_none, nl_int, nl_ref, Option.toList_some, Option.toList_none, List.cons_append, List.nil_append, mSetI_u, mSetL_u, Nat.add_one_ne_zero, Nat.add_eq_zero_iff, and_false, false_and, not_false_eq_true, ne_eq, j0_0, j0_1, j1_0, j1_1, if_true, if_false, ite_true, ite_false, true_and, and_true, or_true, true_or, false_or, or_false, ↓reduceIte, Nat.reduceEqDiff, Nat.reduceAdd, Nat.reduceMul, Nat.reduceSub, Int.reduceLE, Int.reduceLT, Int.reduceNeg, Int.reduceAdd, Int.reduceSub, Int.reduceEq, reduceCtorEq, jI_lt, jI_eq, jI_lt0, jI_0lt, jI_eq0, jI_0le, jn_lo, iU_row, iU_nr, iU_eq, iU_same, jI_ixn, jI_add, jI_sub, jI_nat, show ((i : Nat) : Int) ≤ 2147483647 by omega, show (i : Nat) ≤ 2147483647 by omega, show ¬ ((i : Int) < (i : Int)) by omega]
    exact hP
  | k + 1, i, z, x, a5, a6, hi, hz, hr => by
    have ih := c142_a hF hs hm hy hP k (i + 1)
    obtain ⟨y0, y1, y2⟩ := hy i (by omega)
    have hx : ((s : Int) * 60 + (i : Int)).toNat = 60 * s + i := by omega
    subst hz
    simp only [pNi] at hr
    rw [g142_19]
    by_cases q0 : y i = 0
    · rw [if_pos q0] at hr
      simp only [g142_21, g142_22, g142_25, g142_26, g142_29, g142_30, g142_32, g142_35, g142_37, g142_39, g142_40, g142_41, g142_44, g142_46, g142_47, g142_48, g142_51, g142_54, g142_55, g142_57, g142_58, g142_59, g142_62, g142_63, g142_66, g142_67, g142_68, g142_69, g142_72, g142_75, g142_76, g47_in, g47_0, g47_1, g47_4, g47_5, g47_7, g47_8, g47_9, g47_10, g47_11, nl_none, nl_int, nl_ref, Option.toList_some, Option.toList_none, List.cons_append, List.nil_append, mSetI_u, mSetL_u, Nat.add_one_ne_zero, Nat.add_eq_zero_iff, and_false, false_and, not_false_eq_true, ne_eq, j0_0, j0_1, j1_0, j1_1, if_true, if_false, ite_true, ite_false, true_and, and_true, or_true, true_or, false_or, or_false, ↓reduceIte, Nat.reduceEqDiff, Nat.reduceAdd, Nat.reduceMul, Nat.reduceSub, Int.reduceLE, Int.reduceLT, Int.reduceNeg, Int.reduceAdd, Int.reduceSub, Int.reduceEq, reduceCtorEq, jI_lt, jI_eq, jI_lt0, jI_0lt, jI_eq0, jI_0le, jn_lo, iU_row, iU_nr, iU_eq, iU_same, jI_ixn, jI_add, jI_sub, jI_nat, sh_3, sh_56, sh_59, f_3_8 hF, f_56_2 hF, y2, q0, show ((i : Nat) : Int) ≤ 2147483647 by omega, show (i : Nat) ≤ 2147483647 by omega, show ((m : Nat) : Int) ≤ 2147483647 by omega, show (m : Nat) ≤ 2147483647 by omega, show ((s : Nat) : Int) ≤ 2147483647 by omega, show (s : Nat) ≤ 2147483647 by omega, show (i : Int) < (m : Int) by omega, jI_mul, jI_in (z := ((s : Int) * 60 + (i : Int) : Int)) (n := 360) (by omega) (by omega) (by omega), jI_ix (z := (s : Int) * 60 + (i : Int)) (by omega) (by omega), hx, i64_0, jL_n1, lg_self, lg_ne (x := Int64.ofInt 0) (y := Int64.ofInt 1) (by decide)]
      exact ih _ _ _ _ (by omega) (by omega) hr
    · rw [if_neg q0] at hr
      have n0 : ¬ Int64.ofInt (y i) = Int64.ofInt 0 := by
        rw [jL_eq y0 y1 (by omega) (by omega)]
        exact q0
      by_cases q1 : y i = 1
      · rw [if_pos q1] at hr
        rw [q1] at y2
        simp only [g142_21, g142_22, g142_25, g142_26, g142_29, g142_30, g142_32, g142_35, g142_37, g142_39, g142_40, g142_41, g142_44, g142_46, g142_47, g142_48, g142_51, g142_54, g142_55, g142_57, g142_58, g142_59, g142_62, g142_63, g142_66, g142_67, g142_68, g142_69, g142_72, g142_75, g142_76, g47_in, g47_0, g47_1, g47_4, g47_5, g47_7, g47_8, g47_9, g47_10, g47_11, nl_none, nl_int, nl_ref, Option.toList_some, Option.toList_none, List.cons_append, List.nil_append, mSetI_u, mSetL_u, Nat.add_one_ne_zero, Nat.add_eq_zero_iff, and_false, false_and, not_false_eq_true, ne_eq, j0_0, j0_1, j1_0, j1_1, if_true, if_false, ite_true, ite_false, true_and, and_true, or_true, true_or, false_or, or_false, ↓reduceIte, Nat.reduceEqDiff, Nat.reduceAdd, Nat.reduceMul, Nat.reduceSub, Int.reduceLE, Int.reduceLT, Int.reduceNeg, Int.reduceAdd, Int.reduceSub, Int.reduceEq, reduceCtorEq, jI_lt, jI_eq, jI_lt0, jI_0lt, jI_eq0, jI_0le, jn_lo, iU_row, iU_nr, iU_eq, iU_same, jI_ixn, jI_add, jI_sub, jI_nat, sh_3, sh_56, sh_59, f_3_8 hF, f_56_2 hF, y2, show ((i : Nat) : Int) ≤ 2147483647 by omega, show (i : Nat) ≤ 2147483647 by omega, show ((m : Nat) : Int) ≤ 2147483647 by omega, show (m : Nat) ≤ 2147483647 by omega, show ((s : Nat) : Int) ≤ 2147483647 by omega, show (s : Nat) ≤ 2147483647 by omega, show (i : Int) < (m : Int) by omega, jI_mul, jI_in (z := ((s : Int) * 60 + (i : Int) : Int)) (n := 360) (by omega) (by omega) (by omega), jI_ix (z := (s : Int) * 60 + (i : Int)) (by omega) (by omega), hx, i64_0, jL_n1, lg_self, lg_ne (x := Int64.ofInt 1) (y := Int64.ofInt 0) (by decide)]
        exact ih _ _ _ _ (by omega) (by omega) hr
      · rw [if_neg q1] at hr
        subst hr
        have n1 : ¬ Int64.ofInt (y i) = Int64.ofInt 1 := by
          rw [jL_eq y0 y1 (by omega) (by omega)]
          exact q1
        simp only [g142_21, g142_22, g142_25, g142_26, g142_29, g142_30, g142_32, g142_35, g142_37, g142_39, g142_40, g142_41, g142_44, g142_46, g142_47, g142_48, g142_51, g142_54, g142_55, g142_57, g142_58, g142_59, g142_62, g142_63, g142_66, g142_67, g142_68, g142_69, g142_72, g142_75, g142_76, g47_in, g47_0, g47_1, g47_4, g47_5, g47_7, g47_8, g47_9, g47_10, g47_11, nl_none, nl_int, nl_ref, Option.toList_some, Option.toList_none, List.cons_append, List.nil_append, mSetI_u, mSetL_u, Nat.add_one_ne_zero, Nat.add_eq_zero_iff, and_false, false_and, not_false_eq_true, ne_eq, j0_0, j0_1, j1_0, j1_1, if_true, if_false, ite_true, ite_false, true_and, and_true, or_true, true_or, false_or, or_false, ↓reduceIte, Nat.reduceEqDiff, Nat.reduceAdd, Nat.reduceMul, Nat.reduceSub, Int.reduceLE, Int.reduceLT, Int.reduceNeg, Int.reduceAdd, Int.reduceSub, Int.reduceEq, reduceCtorEq, jI_lt, jI_eq, jI_lt0, jI_0lt, jI_eq0, jI_0le, jn_lo, iU_row, iU_nr, iU_eq, iU_same, jI_ixn, jI_add, jI_sub, jI_nat, sh_3, sh_56, sh_59, f_3_8 hF, f_56_2 hF, y2, show ((i : Nat) : Int) ≤ 2147483647 by omega, show (i : Nat) ≤ 2147483647 by omega, show ((m : Nat) : Int) ≤ 2147483647 by omega, show (m : Nat) ≤ 2147483647 by omega, show ((s : Nat) : Int) ≤ 2147483647 by omega, show (s : Nat) ≤ 2147483647 by omega, show (i : Int) < (m : Int) by omega, jI_mul, jI_in (z := ((s : Int) * 60 + (i : Int) : Int)) (n := 360) (by omega) (by omega) (by omega), jI_ix (z := (s : Int) * 60 + (i : Int)) (by omega) (by omega), hx, i64_0, jL_n1, lg_ne n0, lg_ne n1]
        exact hP
/-- a byte of the reference, or -1 behind the row's end -/
theorem r199_t (hF : mFx F st nx gf rl dr) {s i zz : Nat} (hs : s < 6) (hzz : zz ≤ 60) (hi : i < zz) (hz : I 95 s = jI zz) (hy : ∀ i, i < 60 → -128 ≤ y i ∧ y i ≤ 127 ∧ E 96 (60 * s + i) = Int64.ofInt (y i)) : mF d 199 [.ref 80, .int (jI s), .int (jI i)] (mLay e) (I, E, F) P = P (some (.int (jI (y i)))) (mLay e) (I, E, F) := by
  obtain ⟨y0, y1, y2⟩ := hy i (by omega)
  have hx : (60 * (s : Int) + (i : Int)).toNat = 60 * s + i := by omega
  simp only [g199_in, g199_0, g199_1, g199_2, g199_5, g199_6, g199_7, g199_10, g199_11, g199_14, g199_16, g199_17, g199_18, g199_19, g199_20, g199_21, g199_22, g199_25, g199_26, nl_none, nl_int, nl_ref, Option.toList_some, Option.toList_none, List.cons_append, List.nil_append, mSetI_u, mSetL_u, Nat.add_one_ne_zero, Nat.add_eq_zero_iff, and_false, false_and, not_false_eq_true, ne_eq, j0_0, j0_1, j1_0, j1_1, if_true, if_false, ite_true, ite_false, true_and, and_true, or_true, true_or, false_or, or_false, ↓reduceIte, Nat.reduceEqDiff, Nat.reduceAdd, Nat.reduceMul, Nat.reduceSub, Int.reduceLE, Int.reduceLT, Int.reduceNeg, Int.reduceAdd, Int.reduceSub, Int.reduceEq, reduceCtorEq, jI_lt, jI_eq, jI_lt0, jI_0lt, jI_eq0, jI_0le, jn_lo, iU_row, iU_nr, iU_eq, iU_same, jI_ixn, jI_add, jI_sub, jI_nat, sh_80, sh_95, sh_96, f_80_29 hF, f_80_30 hF, hz, y2, show ((s : Nat) : Int) ≤ 2147483647 by omega, show (s : Nat) ≤ 2147483647 by omega, show ((i : Nat) : Int) ≤ 2147483647 by omega, show (i : Nat) ≤ 2147483647 by omega, show ((zz : Nat) : Int) ≤ 2147483647 by omega, show (zz : Nat) ≤ 2147483647 by omega, show (i : Int) < (zz : Int) by omega, jI_in (z := ((s : Int) : Int)) (n := 6) (by omega) (by omega) (by omega), jI_in (z := (60 * (s : Int) + (i : Int) : Int)) (n := 360) (by omega) (by omega) (by omega), jI_mul, jI_ix (z := 60 * (s : Int) + (i : Int)) (by omega) (by omega), hx, jL_32 y0 y1]
theorem r199_f (hF : mFx F st nx gf rl dr) {s i zz : Nat} (hs : s < 6) (hzz : zz ≤ 60) (hi : ¬ i < zz) (hi2 : i ≤ 1000) (hz : I 95 s = jI zz) : mF d 199 [.ref 80, .int (jI s), .int (jI i)] (mLay e) (I, E, F) P = P (some (.int (jI (-1)))) (mLay e) (I, E, F) := by
  simp only [g199_in, g199_0, g199_1, g199_2, g199_5, g199_6, g199_7, g199_10, g199_11, g199_14, g199_16, g199_17, g199_18, g199_19, g199_20, g199_21, g199_22, g199_25, g199_26, nl_none, nl_int, nl_ref, Option.toList_some, Option.toList_none, List.cons_append, List.nil_append, mSetI_u, mSetL_u, Nat.add_one_ne_zero, Nat.add_eq_zero_iff, and_false, false_and, not_false_eq_true, ne_eq, j0_0, j0_1, j1_0, j1_1, if_true, if_false, ite_true, ite_false, true_and, and_true, or_true, true_or, false_or, or_false, ↓reduceIte, Nat.reduceEqDiff, Nat.reduceAdd, Nat.reduceMul, Nat.reduceSub, Int.reduceLE, Int.reduceLT, Int.reduceNeg, Int.reduceAdd, Int.reduceSub, Int.reduceEq, reduceCtorEq, jI_lt, jI_eq, jI_lt0, jI_0lt, jI_eq0, jI_0le, jn_lo, iU_row, iU_nr, iU_eq, iU_same, jI_ixn, jI_add, jI_sub, jI_nat, sh_80, sh_95, f_80_29 hF, hz, show ((s : Nat) : Int) ≤ 2147483647 by omega, show (s : Nat) ≤ 2147483647 by omega, show ((i : Nat) : Int) ≤ 2147483647 by omega, show (i : Nat) ≤ 2147483647 by omega, show ((zz : Nat) : Int) ≤ 2147483647 by omega, show (zz : Nat) ≤ 2147483647 by omega, show ¬ ((i : Int) < (zz : Int)) by omega, jI_in (z := ((s : Int) : Int)) (n := 6) (by omega) (by omega) (by omega)]
theorem r204_a (hF : mFx F st nx gf rl dr) {s zz m : Nat} {w : Int} (hs : s < 6) (hzz : zz ≤ 60) (hm : m = min zz 30) (hz : I 95 s = jI zz) (hy : ∀ i, i < 60 → -128 ≤ y i ∧ y i ≤ 127 ∧ E 96 (60 * s + i) = Int64.ofInt (y i)) {r : Int} (hP : ∀ z4, mG (d + 1) 204 81 [some (.ref 80), some (.int (jI s)), some (.int (jI w)), some (.int (jI r)), some (.int z4), none, none] [] (mLay e) (I, E, F) P) : ∀ (k i : Nat) (z x : Int), i + k = m → z = i → r = pNi y k i x → mG (d + 1) 204 34 [some (.ref 80), some (.int (jI s)), some (.int (jI w)), some (.int (jI x)), some (.int (jI z)), none, none] [] (mLay e) (I, E, F) P
  | 0, i, z, x, hi, hz', hr => by
    subst hz'
    have e : i = m := by omega
    subst e
    simp only [pNi] at hr
    subst hr
    rw [g204_34]
    by_cases q : zz < 30
    · have c1 : i = zz := by omega
      have h199 := fun (P : mPost) => r199_f (d := d) (e := e) (E := E) (I := I) (P := P) hF hs hzz (i := i) (by omega) (by omega) hz
      simp only [g204_36, g204_38, g204_41, g204_42, g204_43, g204_45, g204_48, g204_49, g204_50, g204_53, g204_56, g204_57, g204_58, g204_59, g204_61, g204_64, g204_65, g204_68, g204_69, g204_72, g204_73, g204_74, g204_75, g204_78, nl_none, nl_int, nl_ref, Option.toList_some, Option.toList_none, List.cons_append, List.nil_append, mSetI_u, mSetL_u, Nat.add_one_ne_zero, Nat.add_eq_zero_iff, and_false, false_and, not_false_eq_true, ne_eq, j0_0, j0_1, j1_0, j1_1, if_true, if_false, ite_true, ite_false, true_and, and_true, or_true, true_or, false_or, or_false, ↓reduceIte, Nat.reduceEqDiff, Nat.reduceAdd, Nat.reduceMul, Nat.reduceSub, Int.reduceLE, Int.reduceLT, Int.reduceNeg, Int.reduceAdd, Int.reduceSub, Int.reduceEq, reduceCtorEq, jI_lt, jI_eq, jI_lt0, jI_0lt, jI_eq0, jI_0le, jn_lo, iU_row, iU_nr, iU_eq, iU_same, jI_ixn, jI_add, jI_sub, jI_nat, sh_80, show ((i : Nat) : Int) ≤ 2147483647 by omega, show (i : Nat) ≤ 2147483647 by omega, show (i : Int) < 30 by omega, h199, r146_f (z := -1) (a := 0) (b := 1) (by omega) (by omega) (by omega) (by omega) (by omega) (by omega) (by omega)]
      exact hP _
    · simp only [g204_36, g204_38, g204_41, g204_42, g204_43, g204_45, g204_48, g204_49, g204_50, g204_53, g204_56, g204_57, g204_58, g204_59, g204_61, g204_64, g204_65, g204_68, g204_69, g204_72, g204_73, g204_74, g204_75, g204_78, nl_none, nl_int, nl_ref, Option.toList_some, Option.toList_none, List.cons_append, List.nil_append, mSetI_u, mSetL_u, Nat.add_one_ne_zero, Nat.add_eq_zero_iff, and_false, false_and, not_false_eq_true, ne_eq, j0_0, j0_1, j1_0, j1_1, if_true, if_false, ite_true, ite_false, true_and, and_true, or_true, true_or, false_or, or_false, ↓reduceIte, Nat.reduceEqDiff, Nat.reduceAdd, Nat.reduceMul, Nat.reduceSub, Int.reduceLE, Int.reduceLT, Int.reduceNeg, Int.reduceAdd, Int.reduceSub, Int.reduceEq, reduceCtorEq, jI_lt, jI_eq, jI_lt0, jI_0lt, jI_eq0, jI_0le, jn_lo, iU_row, iU_nr, iU_eq, iU_same, jI_ixn, jI_add, jI_sub, jI_nat, sh_80, show ((i : Nat) : Int) ≤ 2147483647 by omega, show (i : Nat) ≤ 2147483647 by omega, show ¬ ((i : Int) < 30) by omega]
      exact hP _
  | k + 1, i, z, x, hi, hz', hr => by
    have ih := r204_a (w := w) hF hs hzz hm hz hy hP k (i + 1)
    obtain ⟨y0, y1, y2⟩ := hy i (by omega)
    have h199 := fun (P : mPost) => r199_t (d := d) (e := e) (E := E) (I := I) (P := P) hF hs hzz (show i < zz by omega) hz hy
    subst hz'
    simp only [pNi] at hr
    rw [g204_34]
    by_cases q0 : y i = 0
    · rw [if_pos q0] at hr
      simp only [g204_36, g204_38, g204_41, g204_42, g204_43, g204_45, g204_48, g204_49, g204_50, g204_53, g204_56, g204_57, g204_58, g204_59, g204_61, g204_64, g204_65, g204_68, g204_69, g204_72, g204_73, g204_74, g204_75, g204_78, nl_none, nl_int, nl_ref, Option.toList_some, Option.toList_none, List.cons_append, List.nil_append, mSetI_u, mSetL_u, Nat.add_one_ne_zero, Nat.add_eq_zero_iff, and_false, false_and, not_false_eq_true, ne_eq, j0_0, j0_1, j1_0, j1_1, if_true, if_false, ite_true, ite_false, true_and, and_true, or_true, true_or, false_or, or_false, ↓reduceIte, Nat.reduceEqDiff, Nat.reduceAdd, Nat.reduceMul, Nat.reduceSub, Int.reduceLE, Int.reduceLT, Int.reduceNeg, Int.reduceAdd, Int.reduceSub, Int.reduceEq, reduceCtorEq, jI_lt, jI_eq, jI_lt0, jI_0lt, jI_eq0, jI_0le, jn_lo, iU_row, iU_nr, iU_eq, iU_same, jI_ixn, jI_add, jI_sub, jI_nat, sh_80, show ((i : Nat) : Int) ≤ 2147483647 by omega, show (i : Nat) ≤ 2147483647 by omega, show (i : Int) < 30 by omega, h199, q0, r146_t (z := 0) (a := 0) (b := 1) (by omega) (by omega) (by omega) (by omega)]
      exact ih _ _ (by omega) (by omega) hr
    · rw [if_neg q0] at hr
      by_cases q1 : y i = 1
      · rw [if_pos q1] at hr
        simp only [g204_36, g204_38, g204_41, g204_42, g204_43, g204_45, g204_48, g204_49, g204_50, g204_53, g204_56, g204_57, g204_58, g204_59, g204_61, g204_64, g204_65, g204_68, g204_69, g204_72, g204_73, g204_74, g204_75, g204_78, nl_none, nl_int, nl_ref, Option.toList_some, Option.toList_none, List.cons_append, List.nil_append, mSetI_u, mSetL_u, Nat.add_one_ne_zero, Nat.add_eq_zero_iff, and_false, false_and, not_false_eq_true, ne_eq, j0_0, j0_1, j1_0, j1_1, if_true, if_false, ite_true, ite_false, true_and, and_true, or_true, true_or, false_or, or_false, ↓reduceIte, Nat.reduceEqDiff, Nat.reduceAdd, Nat.reduceMul, Nat.reduceSub, Int.reduceLE, Int.reduceLT, Int.reduceNeg, Int.reduceAdd, Int.reduceSub, Int.reduceEq, reduceCtorEq, jI_lt, jI_eq, jI_lt0, jI_0lt, jI_eq0, jI_0le, jn_lo, iU_row, iU_nr, iU_eq, iU_same, jI_ixn, jI_add, jI_sub, jI_nat, sh_80, show ((i : Nat) : Int) ≤ 2147483647 by omega, show (i : Nat) ≤ 2147483647 by omega, show (i : Int) < 30 by omega, h199, q1, r146_t (z := 1) (a := 0) (b := 1) (by omega) (by omega) (by omega) (by omega)]
        exact ih _ _ (by omega) (by omega) hr
      · rw [if_neg q1] at hr
        subst hr
        simp only [g204_36, g204_38, g204_41, g204_42, g204_43, g204_45, g204_48, g204_49, g204_50, g204_53, g204_56, g204_57, g204_58, g204_59, g204_61, g204_64, g204_65, g204_68, g204_69, g204_72, g204_73, g204_74, g204_75, g204_78, nl_none, nl_int, nl_ref, Option.toList_some, Option.toList_none, List.cons_append, List.nil_append, mSetI_u, mSetL_u, Nat.add_one_ne_zero, Nat.add_eq_zero_iff, and_false, false_and, not_false_eq_true, ne_eq, j0_0, j0_1, j1_0, j1_1, if_true, if_false, ite_true, ite_false, true_and, and_true, or_true, true_or, false_or, or_false, ↓reduceIte, Nat.reduceEqDiff, Nat.reduceAdd, Nat.reduceMul, Nat.reduceSub, Int.reduceLE, Int.reduceLT, Int.reduceNeg, Int.reduceAdd, Int.reduceSub, Int.reduceEq, reduceCtorEq, jI_lt, jI_eq, jI_lt0, jI_0lt, jI_eq0, jI_0le, jn_lo, iU_row, iU_nr, iU_eq, iU_same, jI_ixn, jI_add, jI_sub, jI_nat, sh_80, show ((i : Nat) : Int) ≤ 2147483647 by omega, show (i : Nat) ≤ 2147483647 by omega, show (i : Int) < 30 by omega, h199, r146_f (z := y i) (a := 0) (b := 1) (by omega) (by omega) (by omega) (by omega) (by omega) (by omega) (by omega)]
        exact hP _
end CAN
theorem api_can (x y : Int32) : mApiL vI 110 204 [.int x, .int y] := by
  rintro c lay M hc ⟨e, I, E, F, st, nx, gf, rl, dr, n, bn, T, lw, rfl, rfl, hI⟩
  have hF := hI.1
  have hI0 := hI
  obtain ⟨-, -, h3, -, h5, h6, h7, h8, h9, h10, h11, h12, h13, h14, h15, h16, h17, h18⟩ := hI
  have hrl : rl = 70 ∨ rl = 75 := by omega
  clear h3
  have hn := h5.1
  have hc4 : vTc n T 4 I := h6
  have hrl0 : ¬ rl = 0 := by omega
  obtain ⟨z, hz0, hz1, rfl⟩ := jI_of x
  obtain ⟨w, hw0, hw1, rfl⟩ := jI_of y
  have hb50 := h13.1
  by_cases h : 0 ≤ z ∧ z ≤ 5
  · by_cases hw : 0 ≤ w ∧ w ≤ 1
    · obtain ⟨s, rfl⟩ : ∃ s : Nat, z = s := ⟨z.toNat, by omega⟩
      have hs6 : s < 6 := by omega
      rcases h14.1 s hs6 with ⟨g1, g2⟩ | ⟨g1, b, g2, g3, g4⟩ | ⟨a, zz, g1, g2, g3, g4, g5, g6, g7, g8⟩
      · simp only [g110_in, g110_0, g110_1, g110_4, g110_7, g110_8, g110_9, g110_10, g110_13, g110_16, g110_17, g110_20, g110_21, g110_24, g110_27, g110_30, g110_31, g110_32, g110_33, g110_36, g110_37, g110_38, g110_41, g110_44, g110_46, g110_47, g110_48, g110_51, g110_53, g110_54, g110_55, g110_56, g110_57, g110_60, g110_62, g110_65, g110_66, g40_in, g40_0, g40_1, g40_4, g40_5, g40_6, g40_9, g40_10, g40_13, g40_14, g204_in, g204_0, g204_1, g204_4, g204_7, g204_8, g204_9, g204_10, g204_13, g204_16, g204_17, g204_18, g204_21, g204_22, g204_25, g204_28, g204_29, g204_30, g204_31, g204_32, g204_34, g204_36, g204_38, g204_41, g204_42, g204_43, g204_45, g204_48, g204_49, g204_50, g204_53, g204_56, g204_57, g204_58, g204_59, g204_61, g204_64, g204_65, g204_68, g204_69, g204_72, g204_73, g204_74, g204_75, g204_78, g204_81, g204_82, g204_84, g204_85, g204_87, g204_89, g204_90, g204_93, g204_96, g204_98, g204_101, g204_102, g204_104, g204_107, g204_110, g204_111, g204_112, g204_115, g204_117, g204_118, g204_119, g204_122, g204_123, g204_126, g204_128, g204_131, g204_132, g198_in, g198_0, g198_1, g198_4, g198_5, g198_6, g198_7, g198_10, g198_12, g198_15, g198_16, g198_19, g198_20, g198_21, g198_24, g198_26, g198_29, g198_30, nl_none, nl_int, nl_ref, Option.toList_some, Option.toList_none, List.cons_append, List.nil_append, mSetI_u, mSetL_u, Nat.add_one_ne_zero, Nat.add_eq_zero_iff, and_false, false_and, not_false_eq_true, ne_eq, j0_0, j0_1, j1_0, j1_1, if_true, if_false, ite_true, ite_false, true_and, and_true, or_true, true_or, false_or, or_false, ↓reduceIte, Nat.reduceEqDiff, Nat.reduceAdd, Nat.reduceMul, Nat.reduceSub, Int.reduceLE, Int.reduceLT, Int.reduceNeg, Int.reduceAdd, Int.reduceSub, Int.reduceEq, reduceCtorEq, jI_lt, jI_eq, jI_lt0, jI_0lt, jI_eq0, jI_0le, jn_lo, iU_row, iU_nr, iU_eq, iU_same, jI_ixn, jI_add, jI_sub, jI_nat, sh_3, sh_56, sh_57, sh_80, sh_94, f_3_8 hF, f_56_0 hF, f_80_28 hF, c37_t h.1 h.2, r197_t h.1 h.2, c132_t (z := w) (a := 0) (b := 1) hw.1 hw.2 (by omega) (by omega), r146_t (z := w) (a := 0) (b := 1) hw.1 hw.2 (by omega) (by omega), g1, g2, show ((s : Nat) : Int) ≤ 2147483647 by omega, show (s : Nat) ≤ 2147483647 by omega, jI_in (z := ((s : Int) : Int)) (n := 6) (by omega) (by omega) (by omega)]
        exact vI_fin_long (vI_same hI0)
      · simp only [g110_in, g110_0, g110_1, g110_4, g110_7, g110_8, g110_9, g110_10, g110_13, g110_16, g110_17, g110_20, g110_21, g110_24, g110_27, g110_30, g110_31, g110_32, g110_33, g110_36, g110_37, g110_38, g110_41, g110_44, g110_46, g110_47, g110_48, g110_51, g110_53, g110_54, g110_55, g110_56, g110_57, g110_60, g110_62, g110_65, g110_66, g40_in, g40_0, g40_1, g40_4, g40_5, g40_6, g40_9, g40_10, g40_13, g40_14, g204_in, g204_0, g204_1, g204_4, g204_7, g204_8, g204_9, g204_10, g204_13, g204_16, g204_17, g204_18, g204_21, g204_22, g204_25, g204_28, g204_29, g204_30, g204_31, g204_32, g204_34, g204_36, g204_38, g204_41, g204_42, g204_43, g204_45, g204_48, g204_49, g204_50, g204_53, g204_56, g204_57, g204_58, g204_59, g204_61, g204_64, g204_65, g204_68, g204_69, g204_72, g204_73, g204_74, g204_75, g204_78, g204_81, g204_82, g204_84, g204_85, g204_87, g204_89, g204_90, g204_93, g204_96, g204_98, g204_101, g204_102, g204_104, g204_107, g204_110, g204_111, g204_112, g204_115, g204_117, g204_118, g204_119, g204_122, g204_123, g204_126, g204_128, g204_131, g204_132, g198_in, g198_0, g198_1, g198_4, g198_5, g198_6, g198_7, g198_10, g198_12, g198_15, g198_16, g198_19, g198_20, g198_21, g198_24, g198_26, g198_29, g198_30, nl_none, nl_int, nl_ref, Option.toList_some, Option.toList_none, List.cons_append, List.nil_append, mSetI_u, mSetL_u, Nat.add_one_ne_zero, Nat.add_eq_zero_iff, and_false, false_and, not_false_eq_true, ne_eq, j0_0, j0_1, j1_0, j1_1, if_true, if_false, ite_true, ite_false, true_and, and_true, or_true, true_or, false_or, or_false, ↓reduceIte, Nat.reduceEqDiff, Nat.reduceAdd, Nat.reduceMul, Nat.reduceSub, Int.reduceLE, Int.reduceLT, Int.reduceNeg, Int.reduceAdd, Int.reduceSub, Int.reduceEq, reduceCtorEq, jI_lt, jI_eq, jI_lt0, jI_0lt, jI_eq0, jI_0le, jn_lo, iU_row, iU_nr, iU_eq, iU_same, jI_ixn, jI_add, jI_sub, jI_nat, sh_3, sh_56, sh_57, sh_80, sh_94, f_3_8 hF, f_56_0 hF, f_80_28 hF, c37_t h.1 h.2, r197_t h.1 h.2, c132_t (z := w) (a := 0) (b := 1) hw.1 hw.2 (by omega) (by omega), r146_t (z := w) (a := 0) (b := 1) hw.1 hw.2 (by omega) (by omega), g1, g4, show ((s : Nat) : Int) ≤ 2147483647 by omega, show (s : Nat) ≤ 2147483647 by omega, show -2147483648 ≤ (10 + (b : Int) : Int) by omega, show (10 + (b : Int) : Int) ≤ 2147483647 by omega, show ¬ (10 + (b : Int) = -1) by omega, show ¬ (10 + (b : Int) = 0) by omega, jI_in (z := ((s : Int) : Int)) (n := 6) (by omega) (by omega) (by omega)]
        exact vI_fin_long (vI_same hI0)
      · by_cases ha : a = 0
        · subst ha
          have g8 := g8 rfl
          have hy : ∃ y : Nat → Int, ∀ i, i < 60 → -128 ≤ y i ∧ y i ≤ 127 ∧ E 59 (60 * s + i) = Int64.ofInt (y i) := by
            refine ⟨fun i => if h : i < 60 then (g8 i h).choose else 0, fun i hi => ?_⟩
            simp only [hi, dite_true]
            exact (g8 i hi).choose_spec
          obtain ⟨y, hy⟩ := hy
          have hy' : ∀ i, i < 60 → -128 ≤ y i ∧ y i ≤ 127 ∧ E 96 (60 * s + i) = Int64.ofInt (y i) := fun i hi => ⟨(hy i hi).1, (hy i hi).2.1, (h14.2 _ (by omega)).symm.trans (hy i hi).2.2⟩
          have hmn : min zz 30 ≤ 30 := Nat.min_le_right _ _
          have hr := pNi_in y (min zz 30) 0 0
          obtain ⟨mm, hmm⟩ : ∃ mm : Nat, pAbs (pNi y (min zz 30) 0 0) = mm := ⟨(pAbs (pNi y (min zz 30) 0 0)).toNat, by have := pAbs_le (z := pNi y (min zz 30) 0 0) (m := 30) (by omega) (by omega); omega⟩
          have hmm2 : mm ≤ 100 := by
            have := pAbs_le (z := pNi y (min zz 30) 0 0) (m := 30) (by omega) (by omega)
            omega
          have hmin : (if (30 : Int) < (zz : Int) then Int32.ofInt 30 else Int32.ofInt (zz : Int)) = jI ((min zz 30 : Nat) : Int) := by
            split
            · rw [Nat.min_eq_right (by omega)]
              rfl
            · rw [Nat.min_eq_left (by omega)]
          simp only [g110_in, g110_0, g110_1, g110_4, g110_7, g110_8, g110_9, g110_10, g110_13, g110_16, g110_17, g110_20, g110_21, g110_24, g110_27, g110_30, g110_31, g110_32, g110_33, g40_in, g40_0, g40_1, g40_4, g40_5, g40_6, g40_9, g40_10, g40_13, g40_14, g142_in, g142_0, g142_1, g142_4, g142_5, g142_8, g142_10, g142_13, g142_14, g142_15, g142_16, g142_17, g43_in, g43_0, g43_1, g43_4, g43_5, g43_6, nl_none, nl_int, nl_ref, Option.toList_some, Option.toList_none, List.cons_append, List.nil_append, mSetI_u, mSetL_u, Nat.add_one_ne_zero, Nat.add_eq_zero_iff, and_false, false_and, not_false_eq_true, ne_eq, j0_0, j0_1, j1_0, j1_1, if_true, if_false, ite_true, ite_false, true_and, and_true, or_true, true_or, false_or, or_false, ↓reduceIte, Nat.reduceEqDiff, Nat.reduceAdd, Nat.reduceMul, Nat.reduceSub, Int.reduceLE, Int.reduceLT, Int.reduceNeg, Int.reduceAdd, Int.reduceSub, Int.reduceEq, reduceCtorEq, jI_lt, jI_eq, jI_lt0, jI_0lt, jI_eq0, jI_0le, jn_lo, iU_row, iU_nr, iU_eq, iU_same, jI_ixn, jI_add, jI_sub, jI_nat, sh_3, sh_56, sh_57, sh_58, f_3_8 hF, f_56_0 hF, f_56_1 hF, c37_t h.1 h.2, c132_t (z := w) (a := 0) (b := 1) hw.1 hw.2 (by omega) (by omega), g4, g6, show ((s : Nat) : Int) ≤ 2147483647 by omega, show (s : Nat) ≤ 2147483647 by omega, show ((zz : Nat) : Int) ≤ 2147483647 by omega, show (zz : Nat) ≤ 2147483647 by omega, jI_in (z := ((s : Int) : Int)) (n := 6) (by omega) (by omega) (by omega), hmin]
          refine c142_a (d := 98) hF hs6 hmn hy (r := pNi y (min zz 30) 0 0) ?_ (min zz 30) 0 0 0 _ _ (by omega) rfl rfl
          have hcond : ∀ (Q : Prop), Q → Q := fun _ q => q
          have tail : ∀ v : Int64, (v = if w = 1 then p3 mm + Int64.ofNat 1 else if 0 < pNi y (min zz 30) 0 0 then p3 mm else Int64.ofNat 1) → mSh (mLay e) 80 = some (13, 44) ∧ mF 100 204 [.ref 80, .int (jI s), .int (jI w)] (mLay e) (I, E, F) (fun v2 l2 M2 => v2 = some (.long v) ∧ (∃ r, some (Value.long v) = some (.long r)) ∧ vI (c + 1) l2 M2) := by
            intro v hv
            refine ⟨sh_80, ?_⟩
            simp only [g204_in, g204_0, g204_1, g204_4, g204_7, g204_8, g204_9, g204_10, g204_13, g204_16, g204_17, g204_18, g204_21, g204_22, g204_25, g204_28, g204_29, g204_30, g204_31, g204_32, g198_in, g198_0, g198_1, g198_4, g198_5, g198_6, g198_7, g198_10, g198_12, g198_15, g198_16, g198_19, g198_20, g198_21, g198_24, g198_26, g198_29, g198_30, nl_none, nl_int, nl_ref, Option.toList_some, Option.toList_none, List.cons_append, List.nil_append, mSetI_u, mSetL_u, Nat.add_one_ne_zero, Nat.add_eq_zero_iff, and_false, false_and, not_false_eq_true, ne_eq, j0_0, j0_1, j1_0, j1_1, if_true, if_false, ite_true, ite_false, true_and, and_true, or_true, true_or, false_or, or_false, ↓reduceIte, Nat.reduceEqDiff, Nat.reduceAdd, Nat.reduceMul, Nat.reduceSub, Int.reduceLE, Int.reduceLT, Int.reduceNeg, Int.reduceAdd, Int.reduceSub, Int.reduceEq, reduceCtorEq, jI_lt, jI_eq, jI_lt0, jI_0lt, jI_eq0, jI_0le, jn_lo, iU_row, iU_nr, iU_eq, iU_same, jI_ixn, jI_add, jI_sub, jI_nat, sh_80, sh_94, f_80_28 hF, r197_t h.1 h.2, r146_t (z := w) (a := 0) (b := 1) hw.1 hw.2 (by omega) (by omega), g5, show ((s : Nat) : Int) ≤ 2147483647 by omega, show (s : Nat) ≤ 2147483647 by omega, jI_in (z := ((s : Int) : Int)) (n := 6) (by omega) (by omega) (by omega)]
            refine r204_a (d := 99) (m := min zz 30) hF hs6 g3 rfl g7 hy' (r := pNi y (min zz 30) 0 0) (fun z4 => ?_) (min zz 30) 0 0 0 (by omega) rfl rfl
            simp only [g204_81, g204_82, g204_84, g204_85, nl_none, nl_int, nl_ref, Option.toList_some, Option.toList_none, List.cons_append, List.nil_append, mSetI_u, mSetL_u, Nat.add_one_ne_zero, Nat.add_eq_zero_iff, and_false, false_and, not_false_eq_true, ne_eq, j0_0, j0_1, j1_0, j1_1, if_true, if_false, ite_true, ite_false, true_and, and_true, or_true, true_or, false_or, or_false, ↓reduceIte, Nat.reduceEqDiff, Nat.reduceAdd, Nat.reduceMul, Nat.reduceSub, Int.reduceLE, Int.reduceLT, Int.reduceNeg, Int.reduceAdd, Int.reduceSub, Int.reduceEq, reduceCtorEq, jI_lt, jI_eq, jI_lt0, jI_0lt, jI_eq0, jI_0le, jn_lo, iU_row, iU_nr, iU_eq, iU_same, jI_ixn, jI_add, jI_sub, jI_nat]
            refine r204_b (s := s) (w := w) hmm2 hmm (by omega) (by omega) ?_ mm 0 0 (by omega) rfl
            by_cases q1 : w = 1
            · subst q1
              rw [if_pos rfl] at hv
              subst hv
              simp only [g204_110, g204_111, g204_112, g204_115, g204_117, g204_118, g204_119, g204_122, g204_123, g204_126, g204_128, g204_131, g204_132, nl_none, nl_int, nl_ref, Option.toList_some, Option.toList_none, List.cons_append, List.nil_append, mSetI_u, mSetL_u, Nat.add_one_ne_zero, Nat.add_eq_zero_iff, and_false, false_and, not_false_eq_true, ne_eq, j0_0, j0_1, j1_0, j1_1, if_true, if_false, ite_true, ite_false, true_and, and_true, or_true, true_or, false_or, or_false, ↓reduceIte, Nat.reduceEqDiff, Nat.reduceAdd, Nat.reduceMul, Nat.reduceSub, Int.reduceLE, Int.reduceLT, Int.reduceNeg, Int.reduceAdd, Int.reduceSub, Int.reduceEq, reduceCtorEq, jI_lt, jI_eq, jI_lt0, jI_0lt, jI_eq0, jI_0le, jn_lo, iU_row, iU_nr, iU_eq, iU_same, jI_ixn, jI_add, jI_sub, jI_nat, eq_self]
              exact vI_fin_long (vI_same hI0)
            · rw [if_neg q1] at hv
              by_cases q2 : 0 < pNi y (min zz 30) 0 0
              · rw [if_pos q2] at hv
                subst hv
                simp only [g204_110, g204_111, g204_112, g204_115, g204_117, g204_118, g204_119, g204_122, g204_123, g204_126, g204_128, g204_131, g204_132, nl_none, nl_int, nl_ref, Option.toList_some, Option.toList_none, List.cons_append, List.nil_append, mSetI_u, mSetL_u, Nat.add_one_ne_zero, Nat.add_eq_zero_iff, and_false, false_and, not_false_eq_true, ne_eq, j0_0, j0_1, j1_0, j1_1, if_true, if_false, ite_true, ite_false, true_and, and_true, or_true, true_or, false_or, or_false, ↓reduceIte, Nat.reduceEqDiff, Nat.reduceAdd, Nat.reduceMul, Nat.reduceSub, Int.reduceLE, Int.reduceLT, Int.reduceNeg, Int.reduceAdd, Int.reduceSub, Int.reduceEq, reduceCtorEq, jI_lt, jI_eq, jI_lt0, jI_0lt, jI_eq0, jI_0le, jn_lo, iU_row, iU_nr, iU_eq, iU_same, jI_ixn, jI_add, jI_sub, jI_nat, hw0, hw1, show -2147483648 ≤ (pNi y (min zz 30) 0 0 : Int) by omega, show (pNi y (min zz 30) 0 0 : Int) ≤ 2147483647 by omega, show ¬ (w = 1) by omega, show ¬ (pNi y (min zz 30) 0 0 < 0) by omega]
                exact vI_fin_long (vI_same hI0)
              · rw [if_neg q2] at hv
                subst hv
                by_cases q3 : pNi y (min zz 30) 0 0 = 0
                · have : mm = 0 := by
                    rw [q3] at hmm
                    have : pAbs 0 = 0 := rfl
                    omega
                  subst this
                  simp only [g204_110, g204_111, g204_112, g204_115, g204_117, g204_118, g204_119, g204_122, g204_123, g204_126, g204_128, g204_131, g204_132, nl_none, nl_int, nl_ref, Option.toList_some, Option.toList_none, List.cons_append, List.nil_append, mSetI_u, mSetL_u, Nat.add_one_ne_zero, Nat.add_eq_zero_iff, and_false, false_and, not_false_eq_true, ne_eq, j0_0, j0_1, j1_0, j1_1, if_true, if_false, ite_true, ite_false, true_and, and_true, or_true, true_or, false_or, or_false, ↓reduceIte, Nat.reduceEqDiff, Nat.reduceAdd, Nat.reduceMul, Nat.reduceSub, Int.reduceLE, Int.reduceLT, Int.reduceNeg, Int.reduceAdd, Int.reduceSub, Int.reduceEq, reduceCtorEq, jI_lt, jI_eq, jI_lt0, jI_0lt, jI_eq0, jI_0le, jn_lo, iU_row, iU_nr, iU_eq, iU_same, jI_ixn, jI_add, jI_sub, jI_nat, hw0, hw1, show -2147483648 ≤ (pNi y (min zz 30) 0 0 : Int) by omega, show (pNi y (min zz 30) 0 0 : Int) ≤ 2147483647 by omega, show ¬ (w = 1) by omega, show ¬ (pNi y (min zz 30) 0 0 < 0) by omega]
                  exact ⟨rfl, vI_fin_long (vI_same hI0)⟩
                · simp only [g204_110, g204_111, g204_112, g204_115, g204_117, g204_118, g204_119, g204_122, g204_123, g204_126, g204_128, g204_131, g204_132, nl_none, nl_int, nl_ref, Option.toList_some, Option.toList_none, List.cons_append, List.nil_append, mSetI_u, mSetL_u, Nat.add_one_ne_zero, Nat.add_eq_zero_iff, and_false, false_and, not_false_eq_true, ne_eq, j0_0, j0_1, j1_0, j1_1, if_true, if_false, ite_true, ite_false, true_and, and_true, or_true, true_or, false_or, or_false, ↓reduceIte, Nat.reduceEqDiff, Nat.reduceAdd, Nat.reduceMul, Nat.reduceSub, Int.reduceLE, Int.reduceLT, Int.reduceNeg, Int.reduceAdd, Int.reduceSub, Int.reduceEq, reduceCtorEq, jI_lt, jI_eq, jI_lt0, jI_0lt, jI_eq0, jI_0le, jn_lo, iU_row, iU_nr, iU_eq, iU_same, jI_ixn, jI_add, jI_sub, jI_nat, hw0, hw1, show -2147483648 ≤ (pNi y (min zz 30) 0 0 : Int) by omega, show (pNi y (min zz 30) 0 0 : Int) ≤ 2147483647 by omega, show pNi y (min zz 30) 0 0 < 0 by omega, show ¬ (w = 1) by omega]
                  exact vI_fin_long (vI_same hI0)
          by_cases q1 : w = 1
          · subst q1
            simp only [g110_36, g110_37, g110_38, g110_41, g110_44, g110_46, g110_47, g110_48, g110_51, g110_53, g110_54, g110_55, g110_56, g110_57, g110_60, g110_62, g110_65, g110_66, nl_none, nl_int, nl_ref, Option.toList_some, Option.toList_none, List.cons_append, List.nil_append, mSetI_u, mSetL_u, Nat.add_one_ne_zero, Nat.add_eq_zero_iff, and_false, false_and, not_false_eq_true, ne_eq, j0_0, j0_1, j1_0, j1_1, if_true, if_false, ite_true, ite_false, true_and, and_true, or_true, true_or, false_or, or_false, ↓reduceIte, Nat.reduceEqDiff, Nat.reduceAdd, Nat.reduceMul, Nat.reduceSub, Int.reduceLE, Int.reduceLT, Int.reduceNeg, Int.reduceAdd, Int.reduceSub, Int.reduceEq, reduceCtorEq, jI_lt, jI_eq, jI_lt0, jI_0lt, jI_eq0, jI_0le, jn_lo, iU_row, iU_nr, iU_eq, iU_same, jI_ixn, jI_add, jI_sub, jI_nat, show -2147483648 ≤ (pNi y (min zz 30) 0 0 : Int) by omega, show (pNi y (min zz 30) 0 0 : Int) ≤ 2147483647 by omega, jI_pabs, hmm, c143 hmm2, eq_self]
            exact tail _ (by rw [if_pos rfl])
          · by_cases q2 : 0 < pNi y (min zz 30) 0 0
            · simp only [g110_36, g110_37, g110_38, g110_41, g110_44, g110_46, g110_47, g110_48, g110_51, g110_53, g110_54, g110_55, g110_56, g110_57, g110_60, g110_62, g110_65, g110_66, nl_none, nl_int, nl_ref, Option.toList_some, Option.toList_none, List.cons_append, List.nil_append, mSetI_u, mSetL_u, Nat.add_one_ne_zero, Nat.add_eq_zero_iff, and_false, false_and, not_false_eq_true, ne_eq, j0_0, j0_1, j1_0, j1_1, if_true, if_false, ite_true, ite_false, true_and, and_true, or_true, true_or, false_or, or_false, ↓reduceIte, Nat.reduceEqDiff, Nat.reduceAdd, Nat.reduceMul, Nat.reduceSub, Int.reduceLE, Int.reduceLT, Int.reduceNeg, Int.reduceAdd, Int.reduceSub, Int.reduceEq, reduceCtorEq, jI_lt, jI_eq, jI_lt0, jI_0lt, jI_eq0, jI_0le, jn_lo, iU_row, iU_nr, iU_eq, iU_same, jI_ixn, jI_add, jI_sub, jI_nat, hw0, hw1, show -2147483648 ≤ (pNi y (min zz 30) 0 0 : Int) by omega, show (pNi y (min zz 30) 0 0 : Int) ≤ 2147483647 by omega, jI_pabs, hmm, c143 hmm2, show 0 < pNi y (min zz 30) 0 0 by omega, show ¬ (w = 1) by omega]
              exact tail _ (by rw [if_neg q1, if_pos q2])
            · simp only [g110_36, g110_37, g110_38, g110_41, g110_44, g110_46, g110_47, g110_48, g110_51, g110_53, g110_54, g110_55, g110_56, g110_57, g110_60, g110_62, g110_65, g110_66, nl_none, nl_int, nl_ref, Option.toList_some, Option.toList_none, List.cons_append, List.nil_append, mSetI_u, mSetL_u, Nat.add_one_ne_zero, Nat.add_eq_zero_iff, and_false, false_and, not_false_eq_true, ne_eq, j0_0, j0_1, j1_0, j1_1, if_true, if_false, ite_true, ite_false, true_and, and_true, or_true, true_or, false_or, or_false, ↓reduceIte, Nat.reduceEqDiff, Nat.reduceAdd, Nat.reduceMul, Nat.reduceSub, Int.reduceLE, Int.reduceLT, Int.reduceNeg, Int.reduceAdd, Int.reduceSub, Int.reduceEq, reduceCtorEq, jI_lt, jI_eq, jI_lt0, jI_0lt, jI_eq0, jI_0le, jn_lo, iU_row, iU_nr, iU_eq, iU_same, jI_ixn, jI_add, jI_sub, jI_nat, hw0, hw1, show -2147483648 ≤ (pNi y (min zz 30) 0 0 : Int) by omega, show (pNi y (min zz 30) 0 0 : Int) ≤ 2147483647 by omega, jI_pabs, hmm, c143 hmm2, show ¬ (w = 1) by omega, show ¬ (0 < pNi y (min zz 30) 0 0) by omega]
              exact tail _ (by rw [if_neg q1, if_neg q2])
        · simp only [g110_in, g110_0, g110_1, g110_4, g110_7, g110_8, g110_9, g110_10, g110_13, g110_16, g110_17, g110_20, g110_21, g110_24, g110_27, g110_30, g110_31, g110_32, g110_33, g110_36, g110_37, g110_38, g110_41, g110_44, g110_46, g110_47, g110_48, g110_51, g110_53, g110_54, g110_55, g110_56, g110_57, g110_60, g110_62, g110_65, g110_66, g40_in, g40_0, g40_1, g40_4, g40_5, g40_6, g40_9, g40_10, g40_13, g40_14, g204_in, g204_0, g204_1, g204_4, g204_7, g204_8, g204_9, g204_10, g204_13, g204_16, g204_17, g204_18, g204_21, g204_22, g204_25, g204_28, g204_29, g204_30, g204_31, g204_32, g204_34, g204_36, g204_38, g204_41, g204_42, g204_43, g204_45, g204_48, g204_49, g204_50, g204_53, g204_56, g204_57, g204_58, g204_59, g204_61, g204_64, g204_65, g204_68, g204_69, g204_72, g204_73, g204_74, g204_75, g204_78, g204_81, g204_82, g204_84, g204_85, g204_87, g204_89, g204_90, g204_93, g204_96, g204_98, g204_101, g204_102, g204_104, g204_107, g204_110, g204_111, g204_112, g204_115, g204_117, g204_118, g204_119, g204_122, g204_123, g204_126, g204_128, g204_131, g204_132, g198_in, g198_0, g198_1, g198_4, g198_5, g198_6, g198_7, g198_10, g198_12, g198_15, g198_16, g198_19, g198_20, g198_21, g198_24, g198_26, g198_29, g198_30, nl_none, nl_int, nl_ref, Option.toList_some, Option.toList_none, List.cons_append, List.nil_append, mSetI_u, mSetL_u, Nat.add_one_ne_zero, Nat.add_eq_zero_iff, and_false, false_and, not_false_eq_true, ne_eq, j0_0, j0_1, j1_0, j1_1, if_true, if_false, ite_true, ite_false, true_and, and_true, or_true, true_or, false_or, or_false, ↓reduceIte, Nat.reduceEqDiff, Nat.reduceAdd, Nat.reduceMul, Nat.reduceSub, Int.reduceLE, Int.reduceLT, Int.reduceNeg, Int.reduceAdd, Int.reduceSub, Int.reduceEq, reduceCtorEq, jI_lt, jI_eq, jI_lt0, jI_0lt, jI_eq0, jI_0le, jn_lo, iU_row, iU_nr, iU_eq, iU_same, jI_ixn, jI_add, jI_sub, jI_nat, sh_3, sh_56, sh_57, sh_80, sh_94, f_3_8 hF, f_56_0 hF, f_80_28 hF, c37_t h.1 h.2, r197_t h.1 h.2, c132_t (z := w) (a := 0) (b := 1) hw.1 hw.2 (by omega) (by omega), r146_t (z := w) (a := 0) (b := 1) hw.1 hw.2 (by omega) (by omega), g4, g5, show ((s : Nat) : Int) ≤ 2147483647 by omega, show (s : Nat) ≤ 2147483647 by omega, show -2147483648 ≤ (a : Int) by omega, show (a : Int) ≤ 2147483647 by omega, show ¬ (a = -1) by omega, show ¬ (a = 0) by omega, jI_in (z := ((s : Int) : Int)) (n := 6) (by omega) (by omega) (by omega)]
          exact vI_fin_long (vI_same hI0)
    · simp only [g110_in, g110_0, g110_1, g110_4, g110_7, g110_8, g110_9, g110_10, g110_13, g110_16, g110_17, g110_20, g110_21, g110_24, g110_27, g110_30, g110_31, g110_32, g110_33, g110_36, g110_37, g110_38, g110_41, g110_44, g110_46, g110_47, g110_48, g110_51, g110_53, g110_54, g110_55, g110_56, g110_57, g110_60, g110_62, g110_65, g110_66, g204_in, g204_0, g204_1, g204_4, g204_7, g204_8, g204_9, g204_10, g204_13, g204_16, g204_17, g204_18, g204_21, g204_22, g204_25, g204_28, g204_29, g204_30, g204_31, g204_32, g204_34, g204_36, g204_38, g204_41, g204_42, g204_43, g204_45, g204_48, g204_49, g204_50, g204_53, g204_56, g204_57, g204_58, g204_59, g204_61, g204_64, g204_65, g204_68, g204_69, g204_72, g204_73, g204_74, g204_75, g204_78, g204_81, g204_82, g204_84, g204_85, g204_87, g204_89, g204_90, g204_93, g204_96, g204_98, g204_101, g204_102, g204_104, g204_107, g204_110, g204_111, g204_112, g204_115, g204_117, g204_118, g204_119, g204_122, g204_123, g204_126, g204_128, g204_131, g204_132, nl_none, nl_int, nl_ref, Option.toList_some, Option.toList_none, List.cons_append, List.nil_append, mSetI_u, mSetL_u, Nat.add_one_ne_zero, Nat.add_eq_zero_iff, and_false, false_and, not_false_eq_true, ne_eq, j0_0, j0_1, j1_0, j1_1, if_true, if_false, ite_true, ite_false, true_and, and_true, or_true, true_or, false_or, or_false, ↓reduceIte, Nat.reduceEqDiff, Nat.reduceAdd, Nat.reduceMul, Nat.reduceSub, Int.reduceLE, Int.reduceLT, Int.reduceNeg, Int.reduceAdd, Int.reduceSub, Int.reduceEq, reduceCtorEq, jI_lt, jI_eq, jI_lt0, jI_0lt, jI_eq0, jI_0le, jn_lo, iU_row, iU_nr, iU_eq, iU_same, jI_ixn, jI_add, jI_sub, jI_nat, sh_3, sh_80, c37_t h.1 h.2, r197_t h.1 h.2, c132_f (z := w) (a := 0) (b := 1) hw0 hw1 hw (by omega) (by omega) (by omega) (by omega), r146_f (z := w) (a := 0) (b := 1) hw0 hw1 hw (by omega) (by omega) (by omega) (by omega)]
      exact vI_fin_long (vI_same hI0)
  · simp only [g110_in, g110_0, g110_1, g110_4, g110_7, g110_8, g110_9, g110_10, g110_13, g110_16, g110_17, g110_20, g110_21, g110_24, g110_27, g110_30, g110_31, g110_32, g110_33, g110_36, g110_37, g110_38, g110_41, g110_44, g110_46, g110_47, g110_48, g110_51, g110_53, g110_54, g110_55, g110_56, g110_57, g110_60, g110_62, g110_65, g110_66, g204_in, g204_0, g204_1, g204_4, g204_7, g204_8, g204_9, g204_10, g204_13, g204_16, g204_17, g204_18, g204_21, g204_22, g204_25, g204_28, g204_29, g204_30, g204_31, g204_32, g204_34, g204_36, g204_38, g204_41, g204_42, g204_43, g204_45, g204_48, g204_49, g204_50, g204_53, g204_56, g204_57, g204_58, g204_59, g204_61, g204_64, g204_65, g204_68, g204_69, g204_72, g204_73, g204_74, g204_75, g204_78, g204_81, g204_82, g204_84, g204_85, g204_87, g204_89, g204_90, g204_93, g204_96, g204_98, g204_101, g204_102, g204_104, g204_107, g204_110, g204_111, g204_112, g204_115, g204_117, g204_118, g204_119, g204_122, g204_123, g204_126, g204_128, g204_131, g204_132, nl_none, nl_int, nl_ref, Option.toList_some, Option.toList_none, List.cons_append, List.nil_append, mSetI_u, mSetL_u, Nat.add_one_ne_zero, Nat.add_eq_zero_iff, and_false, false_and, not_false_eq_true, ne_eq, j0_0, j0_1, j1_0, j1_1, if_true, if_false, ite_true, ite_false, true_and, and_true, or_true, true_or, false_or, or_false, ↓reduceIte, Nat.reduceEqDiff, Nat.reduceAdd, Nat.reduceMul, Nat.reduceSub, Int.reduceLE, Int.reduceLT, Int.reduceNeg, Int.reduceAdd, Int.reduceSub, Int.reduceEq, reduceCtorEq, jI_lt, jI_eq, jI_lt0, jI_0lt, jI_eq0, jI_0le, jn_lo, iU_row, iU_nr, iU_eq, iU_same, jI_ixn, jI_add, jI_sub, jI_nat, sh_3, sh_80, c37_f hz0 hz1 h, r197_f hz0 hz1 h]
    exact vI_fin_long (vI_same hI0)
