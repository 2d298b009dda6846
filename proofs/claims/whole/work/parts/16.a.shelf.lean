/-! ===== shelves: keep, row, put, element ===== -/
section SHE
variable {d o n : Nat} {lay : List mShp} {e : List mShp} {M : mMem} {I I' : Nat → Nat → Int32} {E E' : Nat → Nat → Int64} {F : Nat → Nat → Nat} {P : mPost} {T T' : Nat → Nat → Int} {lw : vLw} {st nx gf rl dr bn c : Nat} {z : Int}
theorem eU_eq {k j : Nat} {x : Int64} : eU E k j x k j = x := by simp [eU]
theorem eU_ne {k j a b : Nat} {x : Int64} (h : ¬ (a = k ∧ b = j)) : eU E k j x a b = E a b := by
  simp only [eU]
  rw [if_neg h]
theorem vInv_shl (h : vInv c e I E F st nx gf rl dr n bn T lw) (ha : vAg (fun r _ => r = 57 ∨ r = 58 ∨ r = 94 ∨ r = 95) I I') (h14' : vShl bn (I' 57) (I' 58) (I' 94) (I' 95) (E' 59) (E' 96)) : vInv c e I' E' F st nx gf rl dr n bn T lw := by
  obtain ⟨h1, h2, h3, h4, h5, h6, h7, h8, h9, h10, h11, h12, h13, h14, h15, h16, h17, h18⟩ := h
  have hrow : ∀ r, ¬ (r = 57 ∨ r = 58 ∨ r = 94 ∨ r = 95) → I' r = I r := fun r hr => vAg_row ha (fun _ => hr)
  have hrl : rl = 70 ∨ rl = 75 := by omega
  have hgf : gf = 27 ∨ gf = 105 := by rcases h4 with ⟨h, -⟩ | ⟨h, -⟩ <;> omega
  refine ⟨h1, h2, h3, h4, h5, ?_, ?_, ?_, ?_, ?_, ?_, ?_, ?_, h14', ?_, ?_, ?_, ?_⟩
  · rw [hrow 5 (by omega), hrow 6 (by omega), hrow 7 (by omega), hrow 8 (by omega), hrow 9 (by omega), hrow 4 (by omega)]
    exact h6
  · rw [hrow 81 (by omega), hrow 80 (by omega)]
    exact h7
  · rw [hrow 80 (by omega)]
    exact h8
  · rw [hrow 60 (by omega), hrow 98 (by omega)]
    exact h9
  · rw [hrow 3 (by omega), hrow 80 (by omega), hrow 61 (by omega), hrow 62 (by omega), hrow 63 (by omega), hrow 64 (by omega), hrow 65 (by omega), hrow 66 (by omega), hrow 99 (by omega), hrow 69 (by omega), hrow 100 (by omega)]
    exact h10
  · rw [hrow 48 (by omega), hrow 80 (by omega), hrow 49 (by omega), hrow 50 (by omega), hrow 51 (by omega), hrow 52 (by omega), hrow 83 (by omega), hrow 84 (by omega), hrow 85 (by omega)]
    exact h11
  · rw [hrow 20 (by omega), hrow 80 (by omega), hrow 21 (by omega), hrow 86 (by omega)]
    exact h12
  · rw [hrow 53 (by omega), hrow 80 (by omega), hrow 54 (by omega), hrow 103 (by omega), hrow 55 (by omega), hrow 104 (by omega), hrow 101 (by omega), hrow 102 (by omega)]
    exact h13
  · rw [hrow (rl + 1) (by omega), hrow (rl + 2) (by omega), hrow rl (by omega)]
    exact h15
  · rw [hrow 87 (by omega), hrow 90 (by omega), hrow 80 (by omega)]
    exact h16
  · rw [hrow 23 (by omega), hrow 22 (by omega), hrow gf (by omega)]
    exact h17
  · rw [hrow 90 (by omega)]
    exact h18
theorem c37_t (h0 : 0 ≤ z) (h1 : z ≤ 5) : mF d 37 [.int (jI z)] lay M P = P (some (.int (jI 1))) lay M := by
  simp only [g37_in, g37_0, g37_1, g37_4, g37_5, g37_7, g37_10, g37_11, g37_14, g37_15, nl_none, nl_int, nl_ref, Option.toList_some, Option.toList_none, List.cons_append, List.nil_append, mSetI_u, mSetL_u, Nat.add_one_ne_zero, Nat.add_eq_zero_iff, and_false, false_and, not_false_eq_true, ne_eq, j0_0, j0_1, j1_0, j1_1, if_true, if_false, ite_true, ite_false, true_and, and_true, or_true, true_or, false_or, or_false, ↓reduceIte, Nat.reduceEqDiff, Nat.reduceAdd, Nat.reduceMul, Nat.reduceSub, Int.reduceLE, Int.reduceLT, Int.reduceNeg, Int.reduceAdd, Int.reduceSub, Int.reduceEq, reduceCtorEq, jI_lt, jI_eq, jI_lt0, jI_0lt, jI_eq0, jI_0le, jn_lo, iU_row, iU_nr, iU_eq, iU_same, jI_ixn, jI_add, jI_sub, jI_nat, show -2147483648 ≤ (z : Int) by omega, show (z : Int) ≤ 2147483647 by omega, show z < 6 by omega, show ¬ (z < 0) by omega]
theorem c37_f (hz0 : -2147483648 ≤ z) (hz1 : z ≤ 2147483647) (h : ¬ (0 ≤ z ∧ z ≤ 5)) : mF d 37 [.int (jI z)] lay M P = P (some (.int (jI 0))) lay M := by
  by_cases q : z < 0
  · simp only [g37_in, g37_0, g37_1, g37_4, g37_5, g37_7, g37_10, g37_11, g37_14, g37_15, nl_none, nl_int, nl_ref, Option.toList_some, Option.toList_none, List.cons_append, List.nil_append, mSetI_u, mSetL_u, Nat.add_one_ne_zero, Nat.add_eq_zero_iff, and_false, false_and, not_false_eq_true, ne_eq, j0_0, j0_1, j1_0, j1_1, if_true, if_false, ite_true, ite_false, true_and, and_true, or_true, true_or, false_or, or_false, ↓reduceIte, Nat.reduceEqDiff, Nat.reduceAdd, Nat.reduceMul, Nat.reduceSub, Int.reduceLE, Int.reduceLT, Int.reduceNeg, Int.reduceAdd, Int.reduceSub, Int.reduceEq, reduceCtorEq, jI_lt, jI_eq, jI_lt0, jI_0lt, jI_eq0, jI_0le, jn_lo, iU_row, iU_nr, iU_eq, iU_same, jI_ixn, jI_add, jI_sub, jI_nat, hz0, hz1, show z < 0 by omega]
  · simp only [g37_in, g37_0, g37_1, g37_4, g37_5, g37_7, g37_10, g37_11, g37_14, g37_15, nl_none, nl_int, nl_ref, Option.toList_some, Option.toList_none, List.cons_append, List.nil_append, mSetI_u, mSetL_u, Nat.add_one_ne_zero, Nat.add_eq_zero_iff, and_false, false_and, not_false_eq_true, ne_eq, j0_0, j0_1, j1_0, j1_1, if_true, if_false, ite_true, ite_false, true_and, and_true, or_true, true_or, false_or, or_false, ↓reduceIte, Nat.reduceEqDiff, Nat.reduceAdd, Nat.reduceMul, Nat.reduceSub, Int.reduceLE, Int.reduceLT, Int.reduceNeg, Int.reduceAdd, Int.reduceSub, Int.reduceEq, reduceCtorEq, jI_lt, jI_eq, jI_lt0, jI_0lt, jI_eq0, jI_0le, jn_lo, iU_row, iU_nr, iU_eq, iU_same, jI_ixn, jI_add, jI_sub, jI_nat, hz0, hz1, show ¬ (z < 0) by omega, show ¬ (z < 6) by omega]
theorem r197_t (h0 : 0 ≤ z) (h1 : z ≤ 5) : mF (d + 1) 197 [.int (jI z)] lay M P = P (some (.int (jI 1))) lay M := by
  simp only [g197_in, g197_0, g197_1, g197_2, g197_3, g197_6, nl_none, nl_int, nl_ref, Option.toList_some, Option.toList_none, List.cons_append, List.nil_append, mSetI_u, mSetL_u, Nat.add_one_ne_zero, Nat.add_eq_zero_iff, and_false, false_and, not_false_eq_true, ne_eq, j0_0, j0_1, j1_0, j1_1, if_true, if_false, ite_true, ite_false, true_and, and_true, or_true, true_or, false_or, or_false, ↓reduceIte, Nat.reduceEqDiff, Nat.reduceAdd, Nat.reduceMul, Nat.reduceSub, Int.reduceLE, Int.reduceLT, Int.reduceNeg, Int.reduceAdd, Int.reduceSub, Int.reduceEq, reduceCtorEq, jI_lt, jI_eq, jI_lt0, jI_0lt, jI_eq0, jI_0le, jn_lo, iU_row, iU_nr, iU_eq, iU_same, jI_ixn, jI_add, jI_sub, jI_nat, r146_t (z := z) (a := 0) (b := 5) h0 h1 (by omega) (by omega)]
theorem r197_f (hz0 : -2147483648 ≤ z) (hz1 : z ≤ 2147483647) (h : ¬ (0 ≤ z ∧ z ≤ 5)) : mF (d + 1) 197 [.int (jI z)] lay M P = P (some (.int (jI 0))) lay M := by
  simp only [g197_in, g197_0, g197_1, g197_2, g197_3, g197_6, nl_none, nl_int, nl_ref, Option.toList_some, Option.toList_none, List.cons_append, List.nil_append, mSetI_u, mSetL_u, Nat.add_one_ne_zero, Nat.add_eq_zero_iff, and_false, false_and, not_false_eq_true, ne_eq, j0_0, j0_1, j1_0, j1_1, if_true, if_false, ite_true, ite_false, true_and, and_true, or_true, true_or, false_or, or_false, ↓reduceIte, Nat.reduceEqDiff, Nat.reduceAdd, Nat.reduceMul, Nat.reduceSub, Int.reduceLE, Int.reduceLT, Int.reduceNeg, Int.reduceAdd, Int.reduceSub, Int.reduceEq, reduceCtorEq, jI_lt, jI_eq, jI_lt0, jI_0lt, jI_eq0, jI_0le, jn_lo, iU_row, iU_nr, iU_eq, iU_same, jI_ixn, jI_add, jI_sub, jI_nat, r146_f (z := z) (a := 0) (b := 5) hz0 hz1 h (by omega) (by omega) (by omega) (by omega)]
/-- sixty places of a row of longs are nought -/
def eZ (E : Nat → Nat → Int64) (r b m : Nat) : Nat → Nat → Int64 := fun a q => if a = r ∧ b ≤ q ∧ q < b + m then Int64.ofNat 0 else E a q
theorem eZ_0 (r b : Nat) : eZ E r b 0 = E := by
  funext a q
  unfold eZ
  rw [if_neg (by omega)]
theorem eZ_S {r b m : Nat} : eU (eZ E r b m) r (b + m) (Int64.ofNat 0) = eZ E r b (m + 1) := by
  funext a q
  simp only [eU, eZ]
  by_cases h : a = r ∧ q = b + m
  · rw [if_pos h, if_pos (by omega)]
  · rw [if_neg h]
    by_cases h' : a = r ∧ b ≤ q ∧ q < b + m
    · rw [if_pos h', if_pos (by omega)]
    · rw [if_neg h', if_neg (by omega)]
theorem eZ_row {r b m a : Nat} (h : ¬ a = r) : eZ E r b m a = E a := by
  funext q
  unfold eZ
  rw [if_neg (by omega)]
theorem c46_a (hF : mFx F st nx gf rl dr) {s : Nat} (hs : s < 6) {a2 a3 : Int32} (hP : P none (mLay e) (I, eZ E 59 (60 * s) 60, F)) : ∀ (k i : Nat) (z : Int), i + k = 60 → z = i → mG d 46 17 [some (.ref 56), some (.int (jI s)), some (.int a2), some (.int a3), some (.int (jI z))] [] (mLay e) (I, eZ E 59 (60 * s) i, F) P
  | 0, i, z, hi, hz => by
    subst hz
    have e : i = 60 := by omega
    subst e
    rw [g46_17]
    simp only [g46_19, g46_21, g46_24, g46_25, g46_28, g46_29, g46_31, g46_32, g46_34, g46_35, g46_36, g46_37, g46_40, g46_43, nl_none, nl_int, nl_ref, Option.toList_some, Option.toList_none, List.cons_append, List.nil_append, mSetI_u, mSetL_u, Nat.add_one_ne_zero, Nat.add_eq_zero_iff, and_false, false_and, not_false_eq_true, ne_eq, j0_0, j0_1, j1_0, j1_1, if_true, if_false, ite_true, ite_false, true_and, and_true, or_true, true_or, false_or, or_false, ↓reduceIte, Nat.reduceEqDiff, Nat.reduceAdd, Nat.reduceMul, Nat.reduceSub, Int.reduceLE, Int.reduceLT, Int.reduceNeg, Int.reduceAdd, Int.reduceSub, Int.reduceEq, reduceCtorEq, jI_lt, jI_eq, jI_lt0, jI_0lt, jI_eq0, jI_0le, jn_lo, iU_row, iU_nr, iU_eq, iU_same, jI_ixn, jI_add, jI_sub, jI_nat, sh_56, show ¬ (((60 : Nat) : Int) < 60) by omega, show ((60 : Nat) : Int) = 60 from rfl]
    exact hP
  | k + 1, i, z, hi, hz => by
    have ih := c46_a hF hs (a2 := a2) (a3 := a3) hP k (i + 1)
    subst hz
    have hx : ((s : Int) * 60 + (i : Int)).toNat = 60 * s + i := by omega
    have fin : ∀ E2, E2 = eU (eZ E 59 (60 * s) i) 59 (60 * s + i) (Int64.ofNat 0) → mG d 46 17 [some (.ref 56), some (.int (jI s)), some (.int a2), some (.int a3), some (.int (jI ((i : Int) + 1)))] [] (mLay e) (I, E2, F) P := by
      intro E2 h2
      rw [h2, eZ_S]
      exact ih _ (by omega) (by omega)
    rw [g46_17]
    simp only [g46_19, g46_21, g46_24, g46_25, g46_28, g46_29, g46_31, g46_32, g46_34, g46_35, g46_36, g46_37, g46_40, g46_43, nl_none, nl_int, nl_ref, Option.toList_some, Option.toList_none, List.cons_append, List.nil_append, mSetI_u, mSetL_u, Nat.add_one_ne_zero, Nat.add_eq_zero_iff, and_false, false_and, not_false_eq_true, ne_eq, j0_0, j0_1, j1_0, j1_1, if_true, if_false, ite_true, ite_false, true_and, and_true, or_true, true_or, false_or, or_false, ↓reduceIte, Nat.reduceEqDiff, Nat.reduceAdd, Nat.reduceMul, Nat.reduceSub, Int.reduceLE, Int.reduceLT, Int.reduceNeg, Int.reduceAdd, Int.reduceSub, Int.reduceEq, reduceCtorEq, jI_lt, jI_eq, jI_lt0, jI_0lt, jI_eq0, jI_0le, jn_lo, iU_row, iU_nr, iU_eq, iU_same, jI_ixn, jI_add, jI_sub, jI_nat, sh_56, sh_59, f_56_2 hF, jI_mul, show ((i : Nat) : Int) ≤ 2147483647 by omega, show (i : Nat) ≤ 2147483647 by omega, show ((s : Nat) : Int) ≤ 2147483647 by omega, show (s : Nat) ≤ 2147483647 by omega, show (i : Int) < 60 by omega, jI_in (z := ((s : Int) * 60 + (i : Int) : Int)) (n := 360) (by omega) (by omega) (by omega), jI_ix (z := (s : Int) * 60 + (i : Int)) (by omega) (by omega), hx]
    exact fin _ rfl
theorem r222_a (hF : mFx F st nx gf rl dr) {s : Nat} (hs : s < 6) {a2 a3 : Int32} (hP : mG d 222 74 [some (.ref 80), some (.int (jI s)), some (.int a2), some (.int a3), some (.int (jI 60))] [] (mLay e) (I, eZ E 96 (60 * s) 60, F) P) : ∀ (k i : Nat) (z : Int), i + k = 60 → z = i → mG d 222 48 [some (.ref 80), some (.int (jI s)), some (.int a2), some (.int a3), some (.int (jI z))] [] (mLay e) (I, eZ E 96 (60 * s) i, F) P
  | 0, i, z, hi, hz => by
    subst hz
    have e : i = 60 := by omega
    subst e
    rw [g222_48]
    simp only [g222_50, g222_52, g222_55, g222_56, g222_59, g222_61, g222_62, g222_63, g222_65, g222_66, g222_67, g222_68, g222_71, nl_none, nl_int, nl_ref, Option.toList_some, Option.toList_none, List.cons_append, List.nil_append, mSetI_u, mSetL_u, Nat.add_one_ne_zero, Nat.add_eq_zero_iff, and_false, false_and, not_false_eq_true, ne_eq, j0_0, j0_1, j1_0, j1_1, if_true, if_false, ite_true, ite_false, true_and, and_true, or_true, true_or, false_or, or_false, ↓reduceIte, Nat.reduceEqDiff, Nat.reduceAdd, Nat.reduceMul, Nat.reduceSub, Int.reduceLE, Int.reduceLT, Int.reduceNeg, Int.reduceAdd, Int.reduceSub, Int.reduceEq, reduceCtorEq, jI_lt, jI_eq, jI_lt0, jI_0lt, jI_eq0, jI_0le, jn_lo, iU_row, iU_nr, iU_eq, iU_same, jI_ixn, jI_add, jI_sub, jI_nat, sh_80, show ¬ (((60 : Nat) : Int) < 60) by omega, show ((60 : Nat) : Int) = 60 from rfl]
    exact hP
  | k + 1, i, z, hi, hz => by
    have ih := r222_a hF hs (a2 := a2) (a3 := a3) hP k (i + 1)
    subst hz
    have hx : (60 * (s : Int) + (i : Int)).toNat = 60 * s + i := by omega
    have fin : ∀ E2, E2 = eU (eZ E 96 (60 * s) i) 96 (60 * s + i) (Int64.ofNat 0) → mG d 222 48 [some (.ref 80), some (.int (jI s)), some (.int a2), some (.int a3), some (.int (jI ((i : Int) + 1)))] [] (mLay e) (I, E2, F) P := by
      intro E2 h2
      rw [h2, eZ_S]
      exact ih _ (by omega) (by omega)
    rw [g222_48]
    simp only [g222_50, g222_52, g222_55, g222_56, g222_59, g222_61, g222_62, g222_63, g222_65, g222_66, g222_67, g222_68, g222_71, nl_none, nl_int, nl_ref, Option.toList_some, Option.toList_none, List.cons_append, List.nil_append, mSetI_u, mSetL_u, Nat.add_one_ne_zero, Nat.add_eq_zero_iff, and_false, false_and, not_false_eq_true, ne_eq, j0_0, j0_1, j1_0, j1_1, if_true, if_false, ite_true, ite_false, true_and, and_true, or_true, true_or, false_or, or_false, ↓reduceIte, Nat.reduceEqDiff, Nat.reduceAdd, Nat.reduceMul, Nat.reduceSub, Int.reduceLE, Int.reduceLT, Int.reduceNeg, Int.reduceAdd, Int.reduceSub, Int.reduceEq, reduceCtorEq, jI_lt, jI_eq, jI_lt0, jI_0lt, jI_eq0, jI_0le, jn_lo, iU_row, iU_nr, iU_eq, iU_same, jI_ixn, jI_add, jI_sub, jI_nat, sh_80, sh_96, f_80_30 hF, jI_mul, show ((i : Nat) : Int) ≤ 2147483647 by omega, show (i : Nat) ≤ 2147483647 by omega, show ((s : Nat) : Int) ≤ 2147483647 by omega, show (s : Nat) ≤ 2147483647 by omega, show (i : Int) < 60 by omega, jI_in (z := (60 * (s : Int) + (i : Int) : Int)) (n := 360) (by omega) (by omega) (by omega), jI_ix (z := 60 * (s : Int) + (i : Int)) (by omega) (by omega), hx]
    exact fin _ rfl
theorem vI_fin_long {c : Nat} {r : Int64} {M' : mMem} (h : vI (c + 1) lay M') : (∃ r', some (Value.long r) = some (.long r')) ∧ vI (c + 1) lay M' := ⟨⟨r, rfl⟩, h⟩
theorem i64_0 : Int64.ofNat 0 = Int64.ofInt 0 := by decide
end SHE
theorem api_keep (x y : Int32) : mApiI vI 125 221 [.int x, .int y] := by
  rintro c lay M hc ⟨e, I, E, F, st, nx, gf, rl, dr, n, bn, T, lw, rfl, rfl, hI⟩
  have hF := hI.1
  have hI0 := hI
  obtain ⟨-, -, h3, -, h5, h6, h7, h8, h9, h10, h11, h12, h13, h14, h15, h16, h17, h18⟩ := hI
  have hrl : rl = 70 ∨ rl = 75 := by omega
  clear h3
  have hn := h5.1
  have hc4 : vTc n T 4 I := h6
  have hrl0 : ¬ rl = 0 := by omega
  obtain ⟨z, hz0, hz1, rfl⟩ := jI_of x
  obtain ⟨b, hb0, hb1, rfl⟩ := jI_of y
  obtain ⟨hbn, hmc, hmr, -⟩ := h13
  by_cases h : 0 ≤ z ∧ z ≤ 5
  · obtain ⟨s, rfl⟩ : ∃ s : Nat, z = s := ⟨z.toNat, by omega⟩
    have hs6 : s < 6 := by omega
    rcases (by omega : b = -1 ∨ (0 ≤ b ∧ b < bn) ∨ (¬ b = -1 ∧ ¬ (0 ≤ b ∧ b < bn))) with rfl | hb | hb
    · simp only [g125_in, g125_0, g125_1, g125_4, g125_7, g125_8, g125_9, g125_12, g125_13, g125_16, g125_17, g125_20, g125_23, g125_24, g125_25, g125_26, g125_27, g125_30, g125_31, g125_34, g125_35, g125_38, g125_41, g125_42, g125_45, g125_46, g125_47, g125_50, g125_51, g221_in, g221_0, g221_1, g221_4, g221_7, g221_8, g221_9, g221_10, g221_13, g221_14, g221_15, g221_18, g221_21, g221_22, g221_23, g221_24, g221_27, g221_28, g221_29, g221_30, g221_33, g221_34, g221_37, g221_39, g221_40, g221_41, g221_42, g221_43, g44_in, g44_0, g44_1, g44_4, g44_5, g44_7, g44_8, g44_9, g44_12, g44_13, g44_14, g44_15, nl_none, nl_int, nl_ref, Option.toList_some, Option.toList_none, List.cons_append, List.nil_append, mSetI_u, mSetL_u, Nat.add_one_ne_zero, Nat.add_eq_zero_iff, and_false, false_and, not_false_eq_true, ne_eq, j0_0, j0_1, j1_0, j1_1, if_true, if_false, ite_true, ite_false, true_and, and_true, or_true, true_or, false_or, or_false, ↓reduceIte, Nat.reduceEqDiff, Nat.reduceAdd, Nat.reduceMul, Nat.reduceSub, Int.reduceLE, Int.reduceLT, Int.reduceNeg, Int.reduceAdd, Int.reduceSub, Int.reduceEq, reduceCtorEq, jI_lt, jI_eq, jI_lt0, jI_0lt, jI_eq0, jI_0le, jn_lo, iU_row, iU_nr, iU_eq, iU_same, jI_ixn, jI_add, jI_sub, jI_nat, sh_3, sh_56, sh_57, sh_58, sh_80, sh_94, f_3_8 hF, f_56_0 hF, f_56_1 hF, f_80_28 hF, c37_t h.1 h.2, r197_t h.1 h.2, hmr, show ((s : Nat) : Int) ≤ 2147483647 by omega, show (s : Nat) ≤ 2147483647 by omega, jI_in (z := ((s : Int) : Int)) (n := 6) (by omega) (by omega) (by omega), r146_t (z := -1) (a := -1) (b := (bn : Int) - 1) (by omega) (by omega) (by omega) (by omega)]
      refine vI_fin (vI_of (vInv_up (vInv_shl hI0 (vAg_iU (vAg_iU (vAg_iU vAg_rfl (.inl rfl)) (.inr (.inl rfl))) (.inr (.inr (.inl rfl)))) ⟨fun q hq => ?_, h14.2⟩)))
      simp only [iU_rf, iU_row, Nat.reduceEqDiff, not_false_eq_true]
      by_cases e : q = s
      · exact .inl ⟨by rw [if_pos e], by rw [if_pos e]⟩
      · simp only [e, if_false]
        exact h14.1 q hq
    · obtain ⟨b, rfl⟩ : ∃ k : Nat, b = k := ⟨b.toNat, by omega⟩
      simp only [g125_in, g125_0, g125_1, g125_4, g125_7, g125_8, g125_9, g125_12, g125_13, g125_16, g125_17, g125_20, g125_23, g125_24, g125_25, g125_26, g125_27, g125_30, g125_31, g125_34, g125_35, g125_38, g125_41, g125_42, g125_45, g125_46, g125_47, g125_50, g125_51, g221_in, g221_0, g221_1, g221_4, g221_7, g221_8, g221_9, g221_10, g221_13, g221_14, g221_15, g221_18, g221_21, g221_22, g221_23, g221_24, g221_27, g221_28, g221_29, g221_30, g221_33, g221_34, g221_37, g221_39, g221_40, g221_41, g221_42, g221_43, g45_in, g45_0, g45_1, g45_4, g45_5, g45_6, g45_7, g45_8, g45_11, g45_12, g45_13, g45_14, g55_in, g55_0, g55_1, g55_4, g55_5, g55_6, g55_9, g55_12, g55_13, g55_16, g55_17, nl_none, nl_int, nl_ref, Option.toList_some, Option.toList_none, List.cons_append, List.nil_append, mSetI_u, mSetL_u, Nat.add_one_ne_zero, Nat.add_eq_zero_iff, and_false, false_and, not_false_eq_true, ne_eq, j0_0, j0_1, j1_0, j1_1, if_true, if_false, ite_true, ite_false, true_and, and_true, or_true, true_or, false_or, or_false, ↓reduceIte, Nat.reduceEqDiff, Nat.reduceAdd, Nat.reduceMul, Nat.reduceSub, Int.reduceLE, Int.reduceLT, Int.reduceNeg, Int.reduceAdd, Int.reduceSub, Int.reduceEq, reduceCtorEq, jI_lt, jI_eq, jI_lt0, jI_0lt, jI_eq0, jI_0le, jn_lo, iU_row, iU_nr, iU_eq, iU_same, jI_ixn, jI_add, jI_sub, jI_nat, sh_3, sh_53, sh_56, sh_57, sh_58, sh_80, sh_94, f_3_7 hF, f_3_8 hF, f_56_0 hF, f_56_1 hF, f_80_28 hF, c37_t h.1 h.2, r197_t h.1 h.2, hmr, hmc, show ((s : Nat) : Int) ≤ 2147483647 by omega, show (s : Nat) ≤ 2147483647 by omega, show ((b : Nat) : Int) ≤ 2147483647 by omega, show (b : Nat) ≤ 2147483647 by omega, show ((bn : Nat) : Int) ≤ 2147483647 by omega, show (bn : Nat) ≤ 2147483647 by omega, show (b : Int) < (bn : Int) by omega, show ¬ ((b : Int) = -1) by omega, show ¬ ((b : Int) < 0) by omega, jI_in (z := ((s : Int) : Int)) (n := 6) (by omega) (by omega) (by omega), r146_t (z := (b : Int)) (a := -1) (b := (bn : Int) - 1) (by omega) (by omega) (by omega) (by omega)]
      refine vI_fin (vI_of (vInv_up (vInv_shl hI0 (vAg_iU (vAg_iU (vAg_iU vAg_rfl (.inl rfl)) (.inr (.inl rfl))) (.inr (.inr (.inl rfl)))) ⟨fun q hq => ?_, h14.2⟩)))
      simp only [iU_rf, iU_row, Nat.reduceEqDiff, not_false_eq_true]
      by_cases e : q = s
      · exact .inr (.inl ⟨by rw [if_pos e], b, by omega, by rw [if_pos e], by rw [if_pos e]⟩)
      · simp only [e, if_false]
        exact h14.1 q hq
    · by_cases q : b < 0
      · simp only [g125_in, g125_0, g125_1, g125_4, g125_7, g125_8, g125_9, g125_12, g125_13, g125_16, g125_17, g125_20, g125_23, g125_24, g125_25, g125_26, g125_27, g125_30, g125_31, g125_34, g125_35, g125_38, g125_41, g125_42, g125_45, g125_46, g125_47, g125_50, g125_51, g221_in, g221_0, g221_1, g221_4, g221_7, g221_8, g221_9, g221_10, g221_13, g221_14, g221_15, g221_18, g221_21, g221_22, g221_23, g221_24, g221_27, g221_28, g221_29, g221_30, g221_33, g221_34, g221_37, g221_39, g221_40, g221_41, g221_42, g221_43, g55_in, g55_0, g55_1, g55_4, g55_5, g55_6, g55_9, g55_12, g55_13, g55_16, g55_17, nl_none, nl_int, nl_ref, Option.toList_some, Option.toList_none, List.cons_append, List.nil_append, mSetI_u, mSetL_u, Nat.add_one_ne_zero, Nat.add_eq_zero_iff, and_false, false_and, not_false_eq_true, ne_eq, j0_0, j0_1, j1_0, j1_1, if_true, if_false, ite_true, ite_false, true_and, and_true, or_true, true_or, false_or, or_false, ↓reduceIte, Nat.reduceEqDiff, Nat.reduceAdd, Nat.reduceMul, Nat.reduceSub, Int.reduceLE, Int.reduceLT, Int.reduceNeg, Int.reduceAdd, Int.reduceSub, Int.reduceEq, reduceCtorEq, jI_lt, jI_eq, jI_lt0, jI_0lt, jI_eq0, jI_0le, jn_lo, iU_row, iU_nr, iU_eq, iU_same, jI_ixn, jI_add, jI_sub, jI_nat, sh_3, sh_53, sh_80, f_3_7 hF, c37_t h.1 h.2, r197_t h.1 h.2, hmr, hmc, hb0, hb1, show ((bn : Nat) : Int) ≤ 2147483647 by omega, show (bn : Nat) ≤ 2147483647 by omega, show b < 0 by omega, show ¬ (b = -1) by omega, r146_f (z := b) (a := -1) (b := (bn : Int) - 1) hb0 hb1 (by omega) (by omega) (by omega) (by omega) (by omega)]
        exact vI_fin (vI_same hI0)
      · simp only [g125_in, g125_0, g125_1, g125_4, g125_7, g125_8, g125_9, g125_12, g125_13, g125_16, g125_17, g125_20, g125_23, g125_24, g125_25, g125_26, g125_27, g125_30, g125_31, g125_34, g125_35, g125_38, g125_41, g125_42, g125_45, g125_46, g125_47, g125_50, g125_51, g221_in, g221_0, g221_1, g221_4, g221_7, g221_8, g221_9, g221_10, g221_13, g221_14, g221_15, g221_18, g221_21, g221_22, g221_23, g221_24, g221_27, g221_28, g221_29, g221_30, g221_33, g221_34, g221_37, g221_39, g221_40, g221_41, g221_42, g221_43, g55_in, g55_0, g55_1, g55_4, g55_5, g55_6, g55_9, g55_12, g55_13, g55_16, g55_17, nl_none, nl_int, nl_ref, Option.toList_some, Option.toList_none, List.cons_append, List.nil_append, mSetI_u, mSetL_u, Nat.add_one_ne_zero, Nat.add_eq_zero_iff, and_false, false_and, not_false_eq_true, ne_eq, j0_0, j0_1, j1_0, j1_1, if_true, if_false, ite_true, ite_false, true_and, and_true, or_true, true_or, false_or, or_false, ↓reduceIte, Nat.reduceEqDiff, Nat.reduceAdd, Nat.reduceMul, Nat.reduceSub, Int.reduceLE, Int.reduceLT, Int.reduceNeg, Int.reduceAdd, Int.reduceSub, Int.reduceEq, reduceCtorEq, jI_lt, jI_eq, jI_lt0, jI_0lt, jI_eq0, jI_0le, jn_lo, iU_row, iU_nr, iU_eq, iU_same, jI_ixn, jI_add, jI_sub, jI_nat, sh_3, sh_53, sh_80, f_3_7 hF, c37_t h.1 h.2, r197_t h.1 h.2, hmr, hmc, hb0, hb1, show ((bn : Nat) : Int) ≤ 2147483647 by omega, show (bn : Nat) ≤ 2147483647 by omega, show ¬ (b = -1) by omega, show ¬ (b < 0) by omega, show ¬ (b < (bn : Int)) by omega, r146_f (z := b) (a := -1) (b := (bn : Int) - 1) hb0 hb1 (by omega) (by omega) (by omega) (by omega) (by omega)]
        exact vI_fin (vI_same hI0)
  · simp only [g125_in, g125_0, g125_1, g125_4, g125_7, g125_8, g125_9, g125_12, g125_13, g125_16, g125_17, g125_20, g125_23, g125_24, g125_25, g125_26, g125_27, g125_30, g125_31, g125_34, g125_35, g125_38, g125_41, g125_42, g125_45, g125_46, g125_47, g125_50, g125_51, g221_in, g221_0, g221_1, g221_4, g221_7, g221_8, g221_9, g221_10, g221_13, g221_14, g221_15, g221_18, g221_21, g221_22, g221_23, g221_24, g221_27, g221_28, g221_29, g221_30, g221_33, g221_34, g221_37, g221_39, g221_40, g221_41, g221_42, g221_43, nl_none, nl_int, nl_ref, Option.toList_some, Option.toList_none, List.cons_append, List.nil_append, mSetI_u, mSetL_u, Nat.add_one_ne_zero, Nat.add_eq_zero_iff, and_false, false_and, not_false_eq_true, ne_eq, j0_0, j0_1, j1_0, j1_1, if_true, if_false, ite_true, ite_false, true_and, and_true, or_true, true_or, false_or, or_false, ↓reduceIte, Nat.reduceEqDiff, Nat.reduceAdd, Nat.reduceMul, Nat.reduceSub, Int.reduceLE, Int.reduceLT, Int.reduceNeg, Int.reduceAdd, Int.reduceSub, Int.reduceEq, reduceCtorEq, jI_lt, jI_eq, jI_lt0, jI_0lt, jI_eq0, jI_0le, jn_lo, iU_row, iU_nr, iU_eq, iU_same, jI_ixn, jI_add, jI_sub, jI_nat, sh_3, sh_80, c37_f hz0 hz1 h, r197_f hz0 hz1 h]
    exact vI_fin (vI_same hI0)
theorem api_row (x y q : Int32) : mApiI vI 126 222 [.int x, .int y, .int q] := by
  rintro c lay M hc ⟨e, I, E, F, st, nx, gf, rl, dr, n, bn, T, lw, rfl, rfl, hI⟩
  have hF := hI.1
  have hI0 := hI
  obtain ⟨-, -, h3, -, h5, h6, h7, h8, h9, h10, h11, h12, h13, h14, h15, h16, h17, h18⟩ := hI
  have hrl : rl = 70 ∨ rl = 75 := by omega
  clear h3
  have hn := h5.1
  have hc4 : vTc n T 4 I := h6
  have hrl0 : ¬ rl = 0 := by omega
  obtain ⟨z, hz0, hz1, rfl⟩ := jI_of x
  obtain ⟨b, hb0, hb1, rfl⟩ := jI_of y
  obtain ⟨m, hm0, hm1, rfl⟩ := jI_of q
  by_cases h : 0 ≤ z ∧ z ≤ 5
  · by_cases hb : 0 ≤ b ∧ b ≤ 4
    · rcases (by omega : 60 < m ∨ m < 0 ∨ (0 ≤ m ∧ m ≤ 60)) with hm | hm | hm
      · simp only [g126_in, g126_0, g126_1, g126_4, g126_7, g126_8, g126_9, g126_10, g126_13, g126_16, g126_17, g126_19, g126_22, g126_23, g126_24, g126_25, g126_28, g126_30, g126_31, g126_32, g126_35, g126_36, g126_37, g126_38, g126_41, g126_42, g222_in, g222_0, g222_1, g222_4, g222_7, g222_8, g222_9, g222_10, g222_13, g222_16, g222_17, g222_19, g222_22, g222_23, g222_24, g222_25, g222_28, g222_30, g222_31, g222_32, g222_35, g222_36, g222_37, g222_38, g222_39, g222_42, g222_43, g222_44, g222_45, g222_46, g222_48, g222_50, g222_52, g222_55, g222_56, g222_59, g222_61, g222_62, g222_63, g222_65, g222_66, g222_67, g222_68, g222_71, g222_74, g222_75, nl_none, nl_int, nl_ref, Option.toList_some, Option.toList_none, List.cons_append, List.nil_append, mSetI_u, mSetL_u, Nat.add_one_ne_zero, Nat.add_eq_zero_iff, and_false, false_and, not_false_eq_true, ne_eq, j0_0, j0_1, j1_0, j1_1, if_true, if_false, ite_true, ite_false, true_and, and_true, or_true, true_or, false_or, or_false, ↓reduceIte, Nat.reduceEqDiff, Nat.reduceAdd, Nat.reduceMul, Nat.reduceSub, Int.reduceLE, Int.reduceLT, Int.reduceNeg, Int.reduceAdd, Int.reduceSub, Int.reduceEq, reduceCtorEq, jI_lt, jI_eq, jI_lt0, jI_0lt, jI_eq0, jI_0le, jn_lo, iU_row, iU_nr, iU_eq, iU_same, jI_ixn, jI_add, jI_sub, jI_nat, sh_3, sh_80, c37_t h.1 h.2, r197_t h.1 h.2, hm0, hm1, show 60 < m by omega, c132_t (z := b) (a := 0) (b := 4) hb.1 hb.2 (by omega) (by omega), r146_t (z := b) (a := 0) (b := 4) hb.1 hb.2 (by omega) (by omega)]
        exact vI_fin (vI_same hI0)
      · simp only [g126_in, g126_0, g126_1, g126_4, g126_7, g126_8, g126_9, g126_10, g126_13, g126_16, g126_17, g126_19, g126_22, g126_23, g126_24, g126_25, g126_28, g126_30, g126_31, g126_32, g126_35, g126_36, g126_37, g126_38, g126_41, g126_42, g222_in, g222_0, g222_1, g222_4, g222_7, g222_8, g222_9, g222_10, g222_13, g222_16, g222_17, g222_19, g222_22, g222_23, g222_24, g222_25, g222_28, g222_30, g222_31, g222_32, g222_35, g222_36, g222_37, g222_38, g222_39, g222_42, g222_43, g222_44, g222_45, g222_46, g222_48, g222_50, g222_52, g222_55, g222_56, g222_59, g222_61, g222_62, g222_63, g222_65, g222_66, g222_67, g222_68, g222_71, g222_74, g222_75, nl_none, nl_int, nl_ref, Option.toList_some, Option.toList_none, List.cons_append, List.nil_append, mSetI_u, mSetL_u, Nat.add_one_ne_zero, Nat.add_eq_zero_iff, and_false, false_and, not_false_eq_true, ne_eq, j0_0, j0_1, j1_0, j1_1, if_true, if_false, ite_true, ite_false, true_and, and_true, or_true, true_or, false_or, or_false, ↓reduceIte, Nat.reduceEqDiff, Nat.reduceAdd, Nat.reduceMul, Nat.reduceSub, Int.reduceLE, Int.reduceLT, Int.reduceNeg, Int.reduceAdd, Int.reduceSub, Int.reduceEq, reduceCtorEq, jI_lt, jI_eq, jI_lt0, jI_0lt, jI_eq0, jI_0le, jn_lo, iU_row, iU_nr, iU_eq, iU_same, jI_ixn, jI_add, jI_sub, jI_nat, sh_3, sh_80, c37_t h.1 h.2, r197_t h.1 h.2, hm0, hm1, show m < 0 by omega, show ¬ (60 < m) by omega, c132_t (z := b) (a := 0) (b := 4) hb.1 hb.2 (by omega) (by omega), r146_t (z := b) (a := 0) (b := 4) hb.1 hb.2 (by omega) (by omega)]
        exact vI_fin (vI_same hI0)
      · obtain ⟨s, rfl⟩ : ∃ s : Nat, z = s := ⟨z.toNat, by omega⟩
        obtain ⟨m, rfl⟩ : ∃ s : Nat, m = s := ⟨m.toNat, by omega⟩
        have hs6 : s < 6 := by omega
        simp only [g126_in, g126_0, g126_1, g126_4, g126_7, g126_8, g126_9, g126_10, g126_13, g126_16, g126_17, g126_19, g126_22, g126_23, g126_24, g126_25, g126_28, g126_30, g126_31, g126_32, g126_35, g126_36, g126_37, g126_38, g126_41, g126_42, g46_in, g46_0, g46_1, g46_4, g46_5, g46_6, g46_7, g46_8, g46_11, g46_12, g46_13, g46_14, g46_15, nl_none, nl_int, nl_ref, Option.toList_some, Option.toList_none, List.cons_append, List.nil_append, mSetI_u, mSetL_u, Nat.add_one_ne_zero, Nat.add_eq_zero_iff, and_false, false_and, not_false_eq_true, ne_eq, j0_0, j0_1, j1_0, j1_1, if_true, if_false, ite_true, ite_false, true_and, and_true, or_true, true_or, false_or, or_false, ↓reduceIte, Nat.reduceEqDiff, Nat.reduceAdd, Nat.reduceMul, Nat.reduceSub, Int.reduceLE, Int.reduceLT, Int.reduceNeg, Int.reduceAdd, Int.reduceSub, Int.reduceEq, reduceCtorEq, jI_lt, jI_eq, jI_lt0, jI_0lt, jI_eq0, jI_0le, jn_lo, iU_row, iU_nr, iU_eq, iU_same, jI_ixn, jI_add, jI_sub, jI_nat, sh_3, sh_56, sh_57, sh_58, f_3_8 hF, f_56_0 hF, f_56_1 hF, c37_t h.1 h.2, show ((s : Nat) : Int) ≤ 2147483647 by omega, show (s : Nat) ≤ 2147483647 by omega, show ((m : Nat) : Int) ≤ 2147483647 by omega, show (m : Nat) ≤ 2147483647 by omega, jI_in (z := ((s : Int) : Int)) (n := 6) (by omega) (by omega) (by omega), show ¬ ((60 : Int) < (m : Int)) by omega, show ¬ ((m : Int) < 0) by omega, c132_t (z := b) (a := 0) (b := 4) hb.1 hb.2 (by omega) (by omega)]
        have key := c46_a (d := 99) (e := e) (I := iU (iU I 57 s (jI b)) 58 s (jI m)) (E := E) (F := F) (a2 := jI b) (a3 := jI m) (P := fun v lay1 M1 => mG 100 126 41 [some (.ref 3), some (.int (jI s)), some (.int (jI b)), some (.int (jI m))] (v.toList ++ []) lay1 M1 (fun v l1 M1 => mSh l1 80 = some (13, 44) ∧ mF 100 222 [Value.ref 80, Value.int (jI s), Value.int (jI b), Value.int (jI m)] l1 M1 (fun v2 l2 M2 => v2 = v ∧ (∃ r, v = some (.int r)) ∧ vI (c + 1) l2 M2))) hF hs6 ?_ 60 0 0 (by omega) rfl
        · rw [eZ_0] at key
          exact key
        · simp only [g126_41, g126_42, nl_none, nl_int, nl_ref, Option.toList_some, Option.toList_none, List.cons_append, List.nil_append, mSetI_u, mSetL_u, Nat.add_one_ne_zero, Nat.add_eq_zero_iff, and_false, false_and, not_false_eq_true, ne_eq, j0_0, j0_1, j1_0, j1_1, if_true, if_false, ite_true, ite_false, true_and, and_true, or_true, true_or, false_or, or_false, ↓reduceIte, Nat.reduceEqDiff, Nat.reduceAdd, Nat.reduceMul, Nat.reduceSub, Int.reduceLE, Int.reduceLT, Int.reduceNeg, Int.reduceAdd, Int.reduceSub, Int.reduceEq, reduceCtorEq, jI_lt, jI_eq, jI_lt0, jI_0lt, jI_eq0, jI_0le, jn_lo, iU_row, iU_nr, iU_eq, iU_same, jI_ixn, jI_add, jI_sub, jI_nat]
          refine ⟨sh_80, ?_⟩
          simp only [g222_in, g222_0, g222_1, g222_4, g222_7, g222_8, g222_9, g222_10, g222_13, g222_16, g222_17, g222_19, g222_22, g222_23, g222_24, g222_25, g222_28, g222_30, g222_31, g222_32, g222_35, g222_36, g222_37, g222_38, g222_39, g222_42, g222_43, g222_44, g222_45, g222_46, nl_none, nl_int, nl_ref, Option.toList_some, Option.toList_none, List.cons_append, List.nil_append, mSetI_u, mSetL_u, Nat.add_one_ne_zero, Nat.add_eq_zero_iff, and_false, false_and, not_false_eq_true, ne_eq, j0_0, j0_1, j1_0, j1_1, if_true, if_false, ite_true, ite_false, true_and, and_true, or_true, true_or, false_or, or_false, ↓reduceIte, Nat.reduceEqDiff, Nat.reduceAdd, Nat.reduceMul, Nat.reduceSub, Int.reduceLE, Int.reduceLT, Int.reduceNeg, Int.reduceAdd, Int.reduceSub, Int.reduceEq, reduceCtorEq, jI_lt, jI_eq, jI_lt0, jI_0lt, jI_eq0, jI_0le, jn_lo, iU_row, iU_nr, iU_eq, iU_same, jI_ixn, jI_add, jI_sub, jI_nat, sh_80, sh_94, sh_95, f_80_28 hF, f_80_29 hF, r197_t h.1 h.2, show ((s : Nat) : Int) ≤ 2147483647 by omega, show (s : Nat) ≤ 2147483647 by omega, show ((m : Nat) : Int) ≤ 2147483647 by omega, show (m : Nat) ≤ 2147483647 by omega, jI_in (z := ((s : Int) : Int)) (n := 6) (by omega) (by omega) (by omega), show ¬ ((60 : Int) < (m : Int)) by omega, show ¬ ((m : Int) < 0) by omega, r146_t (z := b) (a := 0) (b := 4) hb.1 hb.2 (by omega) (by omega)]
          have key := r222_a (d := 100) (e := e) (I := iU (iU (iU (iU I 57 s (jI b)) 58 s (jI m)) 94 s (jI b)) 95 s (jI m)) (E := eZ E 59 (60 * s) 60) (F := F) (a2 := jI b) (a3 := jI m) (P := fun v2 l2 M2 => v2 = some (Value.int (jI 1)) ∧ (∃ r, some (Value.int (jI 1)) = some (.int r)) ∧ vI (c + 1) l2 M2) hF hs6 ?_ 60 0 0 (by omega) rfl
          · rw [eZ_0] at key
            exact key
          · simp only [g222_74, g222_75, nl_none, nl_int, nl_ref, Option.toList_some, Option.toList_none, List.cons_append, List.nil_append, mSetI_u, mSetL_u, Nat.add_one_ne_zero, Nat.add_eq_zero_iff, and_false, false_and, not_false_eq_true, ne_eq, j0_0, j0_1, j1_0, j1_1, if_true, if_false, ite_true, ite_false, true_and, and_true, or_true, true_or, false_or, or_false, ↓reduceIte, Nat.reduceEqDiff, Nat.reduceAdd, Nat.reduceMul, Nat.reduceSub, Int.reduceLE, Int.reduceLT, Int.reduceNeg, Int.reduceAdd, Int.reduceSub, Int.reduceEq, reduceCtorEq, jI_lt, jI_eq, jI_lt0, jI_0lt, jI_eq0, jI_0le, jn_lo, iU_row, iU_nr, iU_eq, iU_same, jI_ixn, jI_add, jI_sub, jI_nat]
            refine vI_fin (vI_of (vInv_up (vInv_shl hI0 (vAg_iU (vAg_iU (vAg_iU (vAg_iU vAg_rfl (.inl rfl)) (.inr (.inl rfl))) (.inr (.inr (.inl rfl)))) (.inr (.inr (.inr rfl)))) ⟨fun q hq => ?_, fun q hq => ?_⟩)))
            · simp only [iU_rf, iU_row, Nat.reduceEqDiff, not_false_eq_true, eZ_row (r := 96) (a := 59) (show ¬ 59 = 96 by omega)]
              by_cases e : q = s
              · refine .inr (.inr ⟨b, m, hb.1, hb.2, by omega, by rw [if_pos e], by rw [if_pos e], by rw [if_pos e], by rw [if_pos e], fun _ i hi => ⟨0, by omega, by omega, ?_⟩⟩)
                unfold eZ
                rw [if_pos (by omega)]
                exact i64_0
              · simp only [e, if_false]
                rcases h14.1 q hq with g | g | ⟨hh, zz, g1, g2, g3, g4, g5, g6, g7, g8⟩
                · exact .inl g
                · exact .inr (.inl g)
                · refine .inr (.inr ⟨hh, zz, g1, g2, g3, g4, g5, g6, g7, fun w i hi => ?_⟩)
                  unfold eZ
                  rw [if_neg (by omega)]
                  exact g8 w i hi
            · rw [eZ_row (r := 96) (a := 59) (by omega)]
              by_cases e : 60 * s ≤ q ∧ q < 60 * s + 60
              · unfold eZ
                rw [if_pos ⟨rfl, e⟩, if_pos ⟨rfl, e⟩]
              · unfold eZ
                rw [if_neg (by omega), if_neg (by omega), if_neg (by omega)]
                exact h14.2 q hq
    · simp only [g126_in, g126_0, g126_1, g126_4, g126_7, g126_8, g126_9, g126_10, g126_13, g126_16, g126_17, g126_19, g126_22, g126_23, g126_24, g126_25, g126_28, g126_30, g126_31, g126_32, g126_35, g126_36, g126_37, g126_38, g126_41, g126_42, g222_in, g222_0, g222_1, g222_4, g222_7, g222_8, g222_9, g222_10, g222_13, g222_16, g222_17, g222_19, g222_22, g222_23, g222_24, g222_25, g222_28, g222_30, g222_31, g222_32, g222_35, g222_36, g222_37, g222_38, g222_39, g222_42, g222_43, g222_44, g222_45, g222_46, g222_48, g222_50, g222_52, g222_55, g222_56, g222_59, g222_61, g222_62, g222_63, g222_65, g222_66, g222_67, g222_68, g222_71, g222_74, g222_75, nl_none, nl_int, nl_ref, Option.toList_some, Option.toList_none, List.cons_append, List.nil_append, mSetI_u, mSetL_u, Nat.add_one_ne_zero, Nat.add_eq_zero_iff, and_false, false_and, not_false_eq_true, ne_eq, j0_0, j0_1, j1_0, j1_1, if_true, if_false, ite_true, ite_false, true_and, and_true, or_true, true_or, false_or, or_false, ↓reduceIte, Nat.reduceEqDiff, Nat.reduceAdd, Nat.reduceMul, Nat.reduceSub, Int.reduceLE, Int.reduceLT, Int.reduceNeg, Int.reduceAdd, Int.reduceSub, Int.reduceEq, reduceCtorEq, jI_lt, jI_eq, jI_lt0, jI_0lt, jI_eq0, jI_0le, jn_lo, iU_row, iU_nr, iU_eq, iU_same, jI_ixn, jI_add, jI_sub, jI_nat, sh_3, sh_80, c37_t h.1 h.2, r197_t h.1 h.2, c132_f (z := b) (a := 0) (b := 4) hb0 hb1 hb (by omega) (by omega) (by omega) (by omega), r146_f (z := b) (a := 0) (b := 4) hb0 hb1 hb (by omega) (by omega) (by omega) (by omega)]
      exact vI_fin (vI_same hI0)
  · simp only [g126_in, g126_0, g126_1, g126_4, g126_7, g126_8, g126_9, g126_10, g126_13, g126_16, g126_17, g126_19, g126_22, g126_23, g126_24, g126_25, g126_28, g126_30, g126_31, g126_32, g126_35, g126_36, g126_37, g126_38, g126_41, g126_42, g222_in, g222_0, g222_1, g222_4, g222_7, g222_8, g222_9, g222_10, g222_13, g222_16, g222_17, g222_19, g222_22, g222_23, g222_24, g222_25, g222_28, g222_30, g222_31, g222_32, g222_35, g222_36, g222_37, g222_38, g222_39, g222_42, g222_43, g222_44, g222_45, g222_46, g222_48, g222_50, g222_52, g222_55, g222_56, g222_59, g222_61, g222_62, g222_63, g222_65, g222_66, g222_67, g222_68, g222_71, g222_74, g222_75, nl_none, nl_int, nl_ref, Option.toList_some, Option.toList_none, List.cons_append, List.nil_append, mSetI_u, mSetL_u, Nat.add_one_ne_zero, Nat.add_eq_zero_iff, and_false, false_and, not_false_eq_true, ne_eq, j0_0, j0_1, j1_0, j1_1, if_true, if_false, ite_true, ite_false, true_and, and_true, or_true, true_or, false_or, or_false, ↓reduceIte, Nat.reduceEqDiff, Nat.reduceAdd, Nat.reduceMul, Nat.reduceSub, Int.reduceLE, Int.reduceLT, Int.reduceNeg, Int.reduceAdd, Int.reduceSub, Int.reduceEq, reduceCtorEq, jI_lt, jI_eq, jI_lt0, jI_0lt, jI_eq0, jI_0le, jn_lo, iU_row, iU_nr, iU_eq, iU_same, jI_ixn, jI_add, jI_sub, jI_nat, sh_3, sh_80, c37_f hz0 hz1 h, r197_f hz0 hz1 h]
    exact vI_fin (vI_same hI0)
