/-! ===== the reference's day ===== -/
theorem mF_det {d k : Nat} {as : List Value} {lay : List mShp} {M : mMem} {v : Option Value} {l1 : List mShp} {M1 : mMem} (h : mF d k as lay M (fun v' l' M' => v' = v ∧ l' = l1 ∧ M' = M1)) (P : mPost) : mF d k as lay M P = P v l1 M1 := by
  obtain ⟨hl, n, v', l', M', hr, rfl, rfl, rfl⟩ := h
  apply propext
  constructor
  · rintro ⟨-, n2, v2, l2, M2, hr2, hP⟩
    have a := mRun_fuel n _ _ _ _ _ _ _ _ hr (max n n2) (by omega)
    have b := mRun_fuel n2 _ _ _ _ _ _ _ _ hr2 (max n n2) (by omega)
    rw [a] at b
    injection b with b
    injection b with b1 b
    injection b with b2 b3
    subst b1 b2 b3
    exact hP
  · intro hP
    exact ⟨hl, n, _, _, _, hr, hP⟩
section REFT
variable {d n : Nat} {e : List mShp} {I : Nat → Nat → Int32} {E : Nat → Nat → Int64} {F : Nat → Nat → Nat} {P : mPost} {T : Nat → Nat → Int} {lw : vLw} {st nx gf rl dr : Nat}
theorem r152 (hF : mFx F st nx gf rl dr) {i : Nat} {w : Int} (hi : i ≤ 7) (h0 : 0 ≤ w) (h1 : w ≤ 4) : mF d 152 [.ref 80, .int (jI i), .int (jI w)] (mLay e) (I, E, F) P = P (some (.int (I 81 (5 * i + w.toNat)))) (mLay e) (I, E, F) := by
  have hx : (5 * (i : Int) + w).toNat = 5 * i + w.toNat := by omega
  simp only [g152_in, g152_0, g152_1, g152_4, g152_5, g152_6, g152_7, g152_8, g152_9, g152_10, nl_none, nl_int, nl_ref, Option.toList_some, Option.toList_none, List.cons_append, List.nil_append, mSetI_u, mSetL_u, Nat.add_one_ne_zero, Nat.add_eq_zero_iff, and_false, false_and, not_false_eq_true, ne_eq, j0_0, j0_1, j1_0, j1_1, if_true, if_false, ite_true, ite_false, true_and, and_true, or_true, true_or, false_or, or_false, ↓reduceIte, Nat.reduceEqDiff, Nat.reduceAdd, Nat.reduceMul, Nat.reduceSub, Int.reduceLE, Int.reduceLT, Int.reduceNeg, Int.reduceAdd, Int.reduceSub, Int.reduceEq, reduceCtorEq, jI_lt, jI_eq, jI_lt0, jI_0lt, jI_eq0, jI_0le, jn_lo, iU_row, iU_nr, iU_eq, iU_same, jI_ixn, jI_add, jI_sub, jI_nat, sh_80, sh_81, f_80_0 hF, jI_mul, jI_in (z := (5 * (i : Int) + w : Int)) (n := 42) (by omega) (by omega) (by omega), jI_ix (z := 5 * (i : Int) + w) (by omega) (by omega), hx]
theorem r153 (hF : mFx F st nx gf rl dr) {i : Nat} {w : Int} {x : Int32} (hi : i ≤ 7) (h0 : 0 ≤ w) (h1 : w ≤ 4) : mF d 153 [.ref 80, .int (jI i), .int (jI w), .int x] (mLay e) (I, E, F) P = P none (mLay e) (iU I 81 (5 * i + w.toNat) x, E, F) := by
  have hx : (5 * (i : Int) + w).toNat = 5 * i + w.toNat := by omega
  simp only [g153_in, g153_0, g153_1, g153_4, g153_5, g153_6, g153_7, g153_8, g153_9, g153_10, g153_11, nl_none, nl_int, nl_ref, Option.toList_some, Option.toList_none, List.cons_append, List.nil_append, mSetI_u, mSetL_u, Nat.add_one_ne_zero, Nat.add_eq_zero_iff, and_false, false_and, not_false_eq_true, ne_eq, j0_0, j0_1, j1_0, j1_1, if_true, if_false, ite_true, ite_false, true_and, and_true, or_true, true_or, false_or, or_false, ↓reduceIte, Nat.reduceEqDiff, Nat.reduceAdd, Nat.reduceMul, Nat.reduceSub, Int.reduceLE, Int.reduceLT, Int.reduceNeg, Int.reduceAdd, Int.reduceSub, Int.reduceEq, reduceCtorEq, jI_lt, jI_eq, jI_lt0, jI_0lt, jI_eq0, jI_0le, jn_lo, iU_row, iU_nr, iU_eq, iU_same, jI_ixn, jI_add, jI_sub, jI_nat, sh_80, sh_81, f_80_0 hF, jI_mul, jI_in (z := (5 * (i : Int) + w : Int)) (n := 42) (by omega) (by omega) (by omega), jI_ix (z := 5 * (i : Int) + w) (by omega) (by omega), hx]
theorem r175 {lay : List mShp} {M : mMem} {a b : Int} (ha0 : 0 ≤ a) (ha1 : a ≤ 35) (hb0 : 0 ≤ b) (hb1 : b ≤ 35) : mF d 175 [.int (jI a), .int (jI b)] lay M P = P (some (.int (jI (pFar a b)))) lay M := by
  simp only [g175_in, g175_0, g175_1, g175_3, g175_4, g175_5, g175_7, g175_8, g175_9, g175_12, g175_13, g175_15, g175_16, g175_17, g175_19, g175_20, g175_21, g175_24, g175_25, nl_none, nl_int, nl_ref, Option.toList_some, Option.toList_none, List.cons_append, List.nil_append, mSetI_u, mSetL_u, Nat.add_one_ne_zero, Nat.add_eq_zero_iff, and_false, false_and, not_false_eq_true, ne_eq, j0_0, j0_1, j1_0, j1_1, if_true, if_false, ite_true, ite_false, true_and, and_true, or_true, true_or, false_or, or_false, ↓reduceIte, Nat.reduceEqDiff, Nat.reduceAdd, Nat.reduceMul, Nat.reduceSub, Int.reduceLE, Int.reduceLT, Int.reduceNeg, Int.reduceAdd, Int.reduceSub, Int.reduceEq, reduceCtorEq, jI_lt, jI_eq, jI_lt0, jI_0lt, jI_eq0, jI_0le, jn_lo, iU_row, iU_nr, iU_eq, iU_same, jI_ixn, jI_add, jI_sub, jI_nat, show -2147483648 ≤ (a : Int) by omega, show (a : Int) ≤ 2147483647 by omega, show -2147483648 ≤ (b : Int) by omega, show (b : Int) ≤ 2147483647 by omega, show -2147483648 ≤ (a / 6 : Int) by omega, show (a / 6 : Int) ≤ 2147483647 by omega, show -2147483648 ≤ (b / 6 : Int) by omega, show (b / 6 : Int) ≤ 2147483647 by omega, show -2147483648 ≤ (a - a / 6 * 6 - (b - b / 6 * 6) : Int) by omega, show (a - a / 6 * 6 - (b - b / 6 * 6) : Int) ≤ 2147483647 by omega, show -2147483648 ≤ (a / 6 - b / 6 : Int) by omega, show (a / 6 - b / 6 : Int) ≤ 2147483647 by omega, show 0 ≤ a by omega, show 0 ≤ b by omega, jI_div, jI_mul, jI_pabs, Int.reduceLT]
  rw [pFar, Int.add_comm]
theorem r176_a (hF : mFx F st nx gf rl dr) (hok : vTownOk n T) (hR : vTownR n T (I 81) (I 80 2)) {j : Nat} (hj : j ≤ 8) (hP : P (some (.int (jI (pCar T j n)))) (mLay e) (I, E, F)) : ∀ k i (z x : Int), i + k = n → z = i → x = pCar T j i → mG (d + 1) 176 4 [some (.ref 80), some (.int (jI j)), some (.int (jI x)), some (.int (jI z))] [] (mLay e) (I, E, F) P
  | 0, i, z, x, hi, hz, hx => by
    have hn := hok.1
    subst hz hx
    have e : i = n := by omega
    subst e
    rw [g176_4]
    simp only [g176_5, g176_6, g176_9, g176_12, g176_13, g176_14, g176_15, g176_16, g176_19, g176_20, g176_23, g176_24, g176_27, g176_28, g176_29, g176_30, g176_33, g176_36, g176_37, nl_none, nl_int, nl_ref, Option.toList_some, Option.toList_none, List.cons_append, List.nil_append, mSetI_u, mSetL_u, Nat.add_one_ne_zero, Nat.add_eq_zero_iff, and_false, false_and, not_false_eq_true, ne_eq, j0_0, j0_1, j1_0, j1_1, if_true, if_false, ite_true, ite_false, true_and, and_true, or_true, true_or, false_or, or_false, ↓reduceIte, Nat.reduceEqDiff, Nat.reduceAdd, Nat.reduceMul, Nat.reduceSub, Int.reduceLE, Int.reduceLT, Int.reduceNeg, Int.reduceAdd, Int.reduceSub, Int.reduceEq, reduceCtorEq, jI_lt, jI_eq, jI_lt0, jI_0lt, jI_eq0, jI_0le, jn_lo, iU_row, iU_nr, iU_eq, iU_same, jI_ixn, jI_add, jI_sub, jI_nat, sh_80, hR.2.2.2, show ((i : Nat) : Int) ≤ 2147483647 by omega, show (i : Nat) ≤ 2147483647 by omega, show ¬ ((i : Int) < (i : Int)) by omega]
    exact hP
  | k + 1, i, z, x, hi, hz, hx => by
    have ih := r176_a hF hok hR hj hP k (i + 1)
    have hn := hok.1
    have hin : i < n := by omega
    subst hz hx
    have hw0 := hR.1 i hin 4 (by omega)
    obtain ⟨a0, a1, b0, b1, c0, c1, e0, e1, w0, w1, w2⟩ := vOk_w hok hin
    rw [g176_4]
    by_cases hx : T 4 i = j
    · simp only [g176_5, g176_6, g176_9, g176_12, g176_13, g176_14, g176_15, g176_16, g176_19, g176_20, g176_23, g176_24, g176_27, g176_28, g176_29, g176_30, g176_33, g176_36, g176_37, nl_none, nl_int, nl_ref, Option.toList_some, Option.toList_none, List.cons_append, List.nil_append, mSetI_u, mSetL_u, Nat.add_one_ne_zero, Nat.add_eq_zero_iff, and_false, false_and, not_false_eq_true, ne_eq, j0_0, j0_1, j1_0, j1_1, if_true, if_false, ite_true, ite_false, true_and, and_true, or_true, true_or, false_or, or_false, ↓reduceIte, Nat.reduceEqDiff, Nat.reduceAdd, Nat.reduceMul, Nat.reduceSub, Int.reduceLE, Int.reduceLT, Int.reduceNeg, Int.reduceAdd, Int.reduceSub, Int.reduceEq, reduceCtorEq, jI_lt, jI_eq, jI_lt0, jI_0lt, jI_eq0, jI_0le, jn_lo, iU_row, iU_nr, iU_eq, iU_same, jI_ixn, jI_add, jI_sub, jI_nat, sh_80, hR.2.2.2, show ((i : Nat) : Int) ≤ 2147483647 by omega, show (i : Nat) ≤ 2147483647 by omega, show ((n : Nat) : Int) ≤ 2147483647 by omega, show (n : Nat) ≤ 2147483647 by omega, show ((j : Nat) : Int) ≤ 2147483647 by omega, show (j : Nat) ≤ 2147483647 by omega, show -2147483648 ≤ (T 4 i : Int) by omega, show (T 4 i : Int) ≤ 2147483647 by omega, r152 hF, Int.reduceToNat, hw0, hx, show (i : Int) < (n : Int) by omega, show i ≤ 7 by omega]
      exact ih _ _ (by omega) (by omega) (by rw [pCar, if_pos hx]; rfl)
    · simp only [g176_5, g176_6, g176_9, g176_12, g176_13, g176_14, g176_15, g176_16, g176_19, g176_20, g176_23, g176_24, g176_27, g176_28, g176_29, g176_30, g176_33, g176_36, g176_37, nl_none, nl_int, nl_ref, Option.toList_some, Option.toList_none, List.cons_append, List.nil_append, mSetI_u, mSetL_u, Nat.add_one_ne_zero, Nat.add_eq_zero_iff, and_false, false_and, not_false_eq_true, ne_eq, j0_0, j0_1, j1_0, j1_1, if_true, if_false, ite_true, ite_false, true_and, and_true, or_true, true_or, false_or, or_false, ↓reduceIte, Nat.reduceEqDiff, Nat.reduceAdd, Nat.reduceMul, Nat.reduceSub, Int.reduceLE, Int.reduceLT, Int.reduceNeg, Int.reduceAdd, Int.reduceSub, Int.reduceEq, reduceCtorEq, jI_lt, jI_eq, jI_lt0, jI_0lt, jI_eq0, jI_0le, jn_lo, iU_row, iU_nr, iU_eq, iU_same, jI_ixn, jI_add, jI_sub, jI_nat, sh_80, hR.2.2.2, show ((i : Nat) : Int) ≤ 2147483647 by omega, show (i : Nat) ≤ 2147483647 by omega, show ((n : Nat) : Int) ≤ 2147483647 by omega, show (n : Nat) ≤ 2147483647 by omega, show ((j : Nat) : Int) ≤ 2147483647 by omega, show (j : Nat) ≤ 2147483647 by omega, show -2147483648 ≤ (T 4 i : Int) by omega, show (T 4 i : Int) ≤ 2147483647 by omega, r152 hF, Int.reduceToNat, hw0, hx, show (i : Int) < (n : Int) by omega, show i ≤ 7 by omega, Int.add_zero]
      exact ih _ _ (by omega) (by omega) (by rw [pCar, if_neg hx]; rfl)
theorem r176 (hF : mFx F st nx gf rl dr) (hok : vTownOk n T) {j : Nat} (hj : j ≤ 8) (hR : vTownR n T (I 81) (I 80 2)) : mF (d + 1) 176 [.ref 80, .int (jI j)] (mLay e) (I, E, F) P = P (some (.int (jI (pCar T j n)))) (mLay e) (I, E, F) := by
  refine mF_det ?_ P
  simp only [g176_in, g176_0, g176_1, g176_2, g176_3, nl_none, nl_int, nl_ref, Option.toList_some, Option.toList_none, List.cons_append, List.nil_append, mSetI_u, mSetL_u, Nat.add_one_ne_zero, Nat.add_eq_zero_iff, and_false, false_and, not_false_eq_true, ne_eq, j0_0, j0_1, j1_0, j1_1, if_true, if_false, ite_true, ite_false, true_and, and_true, or_true, true_or, false_or, or_false, ↓reduceIte, Nat.reduceEqDiff, Nat.reduceAdd, Nat.reduceMul, Nat.reduceSub, Int.reduceLE, Int.reduceLT, Int.reduceNeg, Int.reduceAdd, Int.reduceSub, Int.reduceEq, reduceCtorEq, jI_lt, jI_eq, jI_lt0, jI_0lt, jI_eq0, jI_0le, jn_lo, iU_row, iU_nr, iU_eq, iU_same, jI_ixn, jI_add, jI_sub, jI_nat]
  exact r176_a hF hok hR hj ⟨rfl, rfl, rfl⟩ n 0 0 0 (by omega) rfl rfl
/-- what a day writes -/
def vScD (r j : Nat) : Prop := r = 89 ∨ r = 88 ∨ (r = 80 ∧ 14 ≤ j ∧ j ≤ 17)
theorem r177 (hF : mFx F st nx gf rl dr) (hok : vTownOk n T) (hR : vTownR n T (I 81) (I 80 2)) (hlw : vLawR lw (I 87) (I 80 11) (I 80 12) (I 90)) {i : Nat} (hi : i < n) (hP : ∀ I', vAg vScD I I' → P (some (.int (jI (pCome lw n T i)))) (mLay e) (I', E, F)) : mF (d + 71) 177 [.ref 80, .int (jI i)] (mLay e) (I, E, F) P := by
  have hn := hok.1
  have hday := hok.2.2.2
  obtain ⟨a0, a1, b0, b1, c0, c1, e0, e1, w0, w1, w2⟩ := vOk_w hok hi
  have h0 := hR.1 i hi 0 (by omega)
  have h1 := hR.1 i hi 1 (by omega)
  have h3 := hR.1 i hi 3 (by omega)
  have h4 := hR.1 i hi 4 (by omega)
  rcases (by omega : T 4 i = -1 ∨ 0 ≤ T 4 i) with hx | hx
  · have hp := hP I vAg_rfl
    rw [pCome_0 (.inl hx)] at hp
    simp only [g177_in, g177_0, g177_1, g177_2, g177_3, g177_6, g177_7, g177_8, g177_9, g177_12, g177_13, g177_14, g177_15, g177_18, g177_21, g177_22, g177_23, g177_24, g177_27, g177_28, g177_29, g177_30, g177_31, g177_34, g177_35, g177_36, g177_39, g177_40, g177_41, g177_42, g177_43, g177_46, g177_47, g177_48, g177_49, g177_52, g177_55, g177_56, g177_57, g177_60, g177_61, g177_62, g177_63, g177_64, g177_67, g177_68, g177_69, g177_72, g177_73, g177_74, g177_75, g177_78, g177_79, g177_80, g177_83, g177_84, g177_85, g177_86, g177_87, g177_90, g177_91, g177_92, g177_95, g177_96, g177_97, g177_100, g177_102, g177_103, g177_104, g177_105, g177_108, g177_109, g177_111, g177_114, nl_none, nl_int, nl_ref, Option.toList_some, Option.toList_none, List.cons_append, List.nil_append, mSetI_u, mSetL_u, Nat.add_one_ne_zero, Nat.add_eq_zero_iff, and_false, false_and, not_false_eq_true, ne_eq, j0_0, j0_1, j1_0, j1_1, if_true, if_false, ite_true, ite_false, true_and, and_true, or_true, true_or, false_or, or_false, ↓reduceIte, Nat.reduceEqDiff, Nat.reduceAdd, Nat.reduceMul, Nat.reduceSub, Int.reduceLE, Int.reduceLT, Int.reduceNeg, Int.reduceAdd, Int.reduceSub, Int.reduceEq, reduceCtorEq, jI_lt, jI_eq, jI_lt0, jI_0lt, jI_eq0, jI_0le, jn_lo, iU_row, iU_nr, iU_eq, iU_same, jI_ixn, jI_add, jI_sub, jI_nat, sh_80, r152 hF, Int.reduceToNat, h4, hx, show i ≤ 7 by omega]
    exact hp
  · obtain ⟨w, hw⟩ : ∃ w : Nat, T 4 i = w := ⟨(T 4 i).toNat, by omega⟩
    have hwn : w < n := by omega
    rcases (by omega : T 3 i = 0 ∨ ¬ T 3 i = 0) with hy | hy
    · have hp := hP I vAg_rfl
      rw [pCome_0 (.inr hy)] at hp
      simp only [g177_in, g177_0, g177_1, g177_2, g177_3, g177_6, g177_7, g177_8, g177_9, g177_12, g177_13, g177_14, g177_15, g177_18, g177_21, g177_22, g177_23, g177_24, g177_27, g177_28, g177_29, g177_30, g177_31, g177_34, g177_35, g177_36, g177_39, g177_40, g177_41, g177_42, g177_43, g177_46, g177_47, g177_48, g177_49, g177_52, g177_55, g177_56, g177_57, g177_60, g177_61, g177_62, g177_63, g177_64, g177_67, g177_68, g177_69, g177_72, g177_73, g177_74, g177_75, g177_78, g177_79, g177_80, g177_83, g177_84, g177_85, g177_86, g177_87, g177_90, g177_91, g177_92, g177_95, g177_96, g177_97, g177_100, g177_102, g177_103, g177_104, g177_105, g177_108, g177_109, g177_111, g177_114, nl_none, nl_int, nl_ref, Option.toList_some, Option.toList_none, List.cons_append, List.nil_append, mSetI_u, mSetL_u, Nat.add_one_ne_zero, Nat.add_eq_zero_iff, and_false, false_and, not_false_eq_true, ne_eq, j0_0, j0_1, j1_0, j1_1, if_true, if_false, ite_true, ite_false, true_and, and_true, or_true, true_or, false_or, or_false, ↓reduceIte, Nat.reduceEqDiff, Nat.reduceAdd, Nat.reduceMul, Nat.reduceSub, Int.reduceLE, Int.reduceLT, Int.reduceNeg, Int.reduceAdd, Int.reduceSub, Int.reduceEq, reduceCtorEq, jI_lt, jI_eq, jI_lt0, jI_0lt, jI_eq0, jI_0le, jn_lo, iU_row, iU_nr, iU_eq, iU_same, jI_ixn, jI_add, jI_sub, jI_nat, sh_80, r152 hF, Int.reduceToNat, h3, h4, hw, hy, show ((w : Nat) : Int) ≤ 2147483647 by omega, show (w : Nat) ≤ 2147483647 by omega, show i ≤ 7 by omega, show ¬ ((w : Int) = -1) by omega]
      exact hp
    · have g0 := hR.1 w hwn 0 (by omega)
      have g2 := hR.1 w hwn 2 (by omega)
      obtain ⟨x0, x1, y0, y1, z0, z1, -⟩ := vOk_w hok hwn
      have hk := pCar_le T w n
      have hfar := pFar_in ⟨a0, a1⟩ ⟨x0, x1⟩
      simp only [Nat.add_zero] at h0 g0
      simp only [g177_in, g177_0, g177_1, g177_2, g177_3, g177_6, g177_7, g177_8, g177_9, g177_12, g177_13, g177_14, g177_15, g177_18, g177_21, g177_22, g177_23, g177_24, g177_27, g177_28, g177_29, g177_30, g177_31, g177_34, g177_35, g177_36, g177_39, g177_40, g177_41, g177_42, g177_43, g177_46, g177_47, g177_48, g177_49, g177_52, g177_55, g177_56, g177_57, g177_60, g177_61, g177_62, g177_63, g177_64, g177_67, g177_68, g177_69, g177_72, g177_73, g177_74, g177_75, g177_78, g177_79, g177_80, g177_83, g177_84, g177_85, g177_86, g177_87, g177_90, g177_91, g177_92, g177_95, g177_96, g177_97, g177_100, g177_102, g177_103, g177_104, g177_105, g177_108, g177_109, g177_111, g177_114, nl_none, nl_int, nl_ref, Option.toList_some, Option.toList_none, List.cons_append, List.nil_append, mSetI_u, mSetL_u, Nat.add_one_ne_zero, Nat.add_eq_zero_iff, and_false, false_and, not_false_eq_true, ne_eq, j0_0, j0_1, j1_0, j1_1, if_true, if_false, ite_true, ite_false, true_and, and_true, or_true, true_or, false_or, or_false, ↓reduceIte, Nat.reduceEqDiff, Nat.reduceAdd, Nat.reduceMul, Nat.reduceSub, Int.reduceLE, Int.reduceLT, Int.reduceNeg, Int.reduceAdd, Int.reduceSub, Int.reduceEq, reduceCtorEq, jI_lt, jI_eq, jI_lt0, jI_0lt, jI_eq0, jI_0le, jn_lo, iU_row, iU_nr, iU_eq, iU_same, jI_ixn, jI_add, jI_sub, jI_nat, sh_80, sh_81, sh_89, f_80_18 hF, f_80_0 hF, r152 hF, r175 a0 a1 x0 x1, r176 (n := n) (T := T) hF hok (show w ≤ 8 by omega), hR, Int.reduceToNat, Nat.add_zero, h0, h1, h3, h4, g0, g2, hw, hR.2.2.1, show ((w : Nat) : Int) ≤ 2147483647 by omega, show (w : Nat) ≤ 2147483647 by omega, show -2147483648 ≤ (T 3 i : Int) by omega, show (T 3 i : Int) ≤ 2147483647 by omega, show i ≤ 7 by omega, show w ≤ 7 by omega, show ¬ ((w : Int) = -1) by omega, show ¬ (T 3 i = 0) by omega, show mIdx (Int32.ofInt 0) 6 = true from rfl, show mIdx (Int32.ofInt 1) 6 = true from rfl, show mIdx (Int32.ofInt 2) 6 = true from rfl, show mIdx (Int32.ofInt 3) 6 = true from rfl, show mIdx (Int32.ofInt 4) 6 = true from rfl, show mIdx (Int32.ofInt 5) 6 = true from rfl, show mIdx (Int32.ofInt 41) 42 = true from rfl, show (Int32.ofInt 0).toNatClampNeg = 0 from rfl, show (Int32.ofInt 1).toNatClampNeg = 1 from rfl, show (Int32.ofInt 2).toNatClampNeg = 2 from rfl, show (Int32.ofInt 3).toNatClampNeg = 3 from rfl, show (Int32.ofInt 4).toNatClampNeg = 4 from rfl, show (Int32.ofInt 5).toNatClampNeg = 5 from rfl, show (Int32.ofInt 41).toNatClampNeg = 41 from rfl]
      refine hlw e F st nx gf rl dr _ E _ _ (T 1 i) (pFar (T 0 i) (T 0 w)) (T 2 w) (pCar T w n) (T 3 i) (T 6 0) hF ?_ ?_ ?_ ?_ ?_ ?_ ?_ ?_ ?_ ?_ ⟨⟨b0, b1⟩, hfar, ⟨z0, z1⟩, ⟨by omega, by omega⟩, ⟨e0, e1⟩, hday⟩ (fun I' z hI' hz0 hz1 hz => ?_)
      · simp only [iU_row, not_false_eq_true, Nat.reduceEqDiff]
      · simp only [iU_row, not_false_eq_true, Nat.reduceEqDiff]
      · simp only [iU_row, not_false_eq_true, Nat.reduceEqDiff]
      · simp only [iU_row, not_false_eq_true, Nat.reduceEqDiff]
      · simp [iU_r]
      · simp [iU_r]
      · simp only [iU_same, iU_eq, not_false_eq_true, Nat.reduceEqDiff]
      · simp only [iU_same, iU_eq, not_false_eq_true, Nat.reduceEqDiff]
      · simp only [iU_same, iU_eq, not_false_eq_true, Nat.reduceEqDiff]
      · simp only [iU_eq]
      · simp only [g177_108, g177_109, g177_111, g177_114, nl_none, nl_int, nl_ref, Option.toList_some, Option.toList_none, List.cons_append, List.nil_append, mSetI_u, mSetL_u, Nat.add_one_ne_zero, Nat.add_eq_zero_iff, and_false, false_and, not_false_eq_true, ne_eq, j0_0, j0_1, j1_0, j1_1, if_true, if_false, ite_true, ite_false, true_and, and_true, or_true, true_or, false_or, or_false, ↓reduceIte, Nat.reduceEqDiff, Nat.reduceAdd, Nat.reduceMul, Nat.reduceSub, Int.reduceLE, Int.reduceLT, Int.reduceNeg, Int.reduceAdd, Int.reduceSub, Int.reduceEq, reduceCtorEq, jI_lt, jI_eq, jI_lt0, jI_0lt, jI_eq0, jI_0le, jn_lo, iU_row, iU_nr, iU_eq, iU_same, jI_ixn, jI_add, jI_sub, jI_nat, r147 hz0 hz1 (show (0 : Int) ≤ 20 by omega) (show (20 : Int) ≤ 2147483647 by omega), hz]
        have hp := hP I' (fun r j hr => ?_)
        · rw [pCome_w hw hy] at hp
          exact hp
        · have hr1 : ¬ r = 89 := fun q => hr (.inl q)
          rw [hI' r j (fun q => hr (.inr q))]
          simp only [iU_nr, hr1, ne_eq, not_false_eq_true]
end REFT
