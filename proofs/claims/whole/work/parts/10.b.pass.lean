/-! ===== the class's day ===== -/
theorem c133 {d : Nat} {lay : List mShp} {M : mMem} {P : mPost} {v m : Int} (h0 : -2147483648 ≤ v) (h1 : v ≤ 2147483647) (h2 : -2147483648 ≤ m) (h3 : m ≤ 2147483647) : mF d 133 [.int (jI v), .int (jI m)] lay M P = P (some (.int (jI (pHold v m)))) lay M := by
  rcases (by omega : v < 0 ∨ (¬ v < 0 ∧ m < v) ∨ (¬ v < 0 ∧ ¬ m < v)) with h | h | h
  · simp only [g133_in, g133_0, g133_1, g133_4, g133_5, g133_6, g133_7, g133_8, g133_11, g133_12, g133_15, g133_16, nl_none, nl_int, nl_ref, Option.toList_some, Option.toList_none, List.cons_append, List.nil_append, mSetI_u, mSetL_u, Nat.add_one_ne_zero, Nat.add_eq_zero_iff, and_false, false_and, not_false_eq_true, ne_eq, j0_0, j0_1, j1_0, j1_1, if_true, if_false, ite_true, ite_false, true_and, and_true, or_true, true_or, false_or, or_false, ↓reduceIte, Nat.reduceEqDiff, Nat.reduceAdd, Nat.reduceMul, Nat.reduceSub, Int.reduceLE, Int.reduceLT, Int.reduceNeg, Int.reduceAdd, Int.reduceSub, Int.reduceEq, reduceCtorEq, jI_lt, jI_eq, jI_lt0, jI_0lt, jI_eq0, jI_0le, jn_lo, iU_row, iU_nr, iU_eq, iU_same, jI_ixn, jI_add, jI_sub, jI_nat, h0, h1, h2, h3, show v < 0 by omega, pHold]
  · simp only [g133_in, g133_0, g133_1, g133_4, g133_5, g133_6, g133_7, g133_8, g133_11, g133_12, g133_15, g133_16, nl_none, nl_int, nl_ref, Option.toList_some, Option.toList_none, List.cons_append, List.nil_append, mSetI_u, mSetL_u, Nat.add_one_ne_zero, Nat.add_eq_zero_iff, and_false, false_and, not_false_eq_true, ne_eq, j0_0, j0_1, j1_0, j1_1, if_true, if_false, ite_true, ite_false, true_and, and_true, or_true, true_or, false_or, or_false, ↓reduceIte, Nat.reduceEqDiff, Nat.reduceAdd, Nat.reduceMul, Nat.reduceSub, Int.reduceLE, Int.reduceLT, Int.reduceNeg, Int.reduceAdd, Int.reduceSub, Int.reduceEq, reduceCtorEq, jI_lt, jI_eq, jI_lt0, jI_0lt, jI_eq0, jI_0le, jn_lo, iU_row, iU_nr, iU_eq, iU_same, jI_ixn, jI_add, jI_sub, jI_nat, h0, h1, h2, h3, show m < v by omega, show ¬ (v < 0) by omega, pHold]
  · simp only [g133_in, g133_0, g133_1, g133_4, g133_5, g133_6, g133_7, g133_8, g133_11, g133_12, g133_15, g133_16, nl_none, nl_int, nl_ref, Option.toList_some, Option.toList_none, List.cons_append, List.nil_append, mSetI_u, mSetL_u, Nat.add_one_ne_zero, Nat.add_eq_zero_iff, and_false, false_and, not_false_eq_true, ne_eq, j0_0, j0_1, j1_0, j1_1, if_true, if_false, ite_true, ite_false, true_and, and_true, or_true, true_or, false_or, or_false, ↓reduceIte, Nat.reduceEqDiff, Nat.reduceAdd, Nat.reduceMul, Nat.reduceSub, Int.reduceLE, Int.reduceLT, Int.reduceNeg, Int.reduceAdd, Int.reduceSub, Int.reduceEq, reduceCtorEq, jI_lt, jI_eq, jI_lt0, jI_0lt, jI_eq0, jI_0le, jn_lo, iU_row, iU_nr, iU_eq, iU_same, jI_ixn, jI_add, jI_sub, jI_nat, h0, h1, h2, h3, show ¬ (v < 0) by omega, show ¬ (m < v) by omega, pHold]
theorem r147 {d : Nat} {lay : List mShp} {M : mMem} {P : mPost} {v m : Int} (h0 : -2147483648 ≤ v) (h1 : v ≤ 2147483647) (h2 : 0 ≤ m) (h3 : m ≤ 2147483647) : mF d 147 [.int (jI v), .int (jI 0), .int (jI m)] lay M P = P (some (.int (jI (pHold v m)))) lay M := by
  have h2' : -2147483648 ≤ m := by omega
  rcases (by omega : v < 0 ∨ (¬ v < 0 ∧ m < v) ∨ (¬ v < 0 ∧ v = m) ∨ (¬ v < 0 ∧ v < m)) with h | h | h | h
  · simp only [g147_in, g147_0, g147_1, g147_2, g147_3, g147_6, g147_9, nl_none, nl_int, nl_ref, Option.toList_some, Option.toList_none, List.cons_append, List.nil_append, mSetI_u, mSetL_u, Nat.add_one_ne_zero, Nat.add_eq_zero_iff, and_false, false_and, not_false_eq_true, ne_eq, j0_0, j0_1, j1_0, j1_1, if_true, if_false, ite_true, ite_false, true_and, and_true, or_true, true_or, false_or, or_false, ↓reduceIte, Nat.reduceEqDiff, Nat.reduceAdd, Nat.reduceMul, Nat.reduceSub, Int.reduceLE, Int.reduceLT, Int.reduceNeg, Int.reduceAdd, Int.reduceSub, Int.reduceEq, reduceCtorEq, jI_lt, jI_eq, jI_lt0, jI_0lt, jI_eq0, jI_0le, jn_lo, iU_row, iU_nr, iU_eq, iU_same, jI_ixn, jI_add, jI_sub, jI_nat, h0, h1, h2', h3, show v < 0 by omega, show v < m by omega, show ¬ (0 < v) by omega, pHold]
  · simp only [g147_in, g147_0, g147_1, g147_2, g147_3, g147_6, g147_9, nl_none, nl_int, nl_ref, Option.toList_some, Option.toList_none, List.cons_append, List.nil_append, mSetI_u, mSetL_u, Nat.add_one_ne_zero, Nat.add_eq_zero_iff, and_false, false_and, not_false_eq_true, ne_eq, j0_0, j0_1, j1_0, j1_1, if_true, if_false, ite_true, ite_false, true_and, and_true, or_true, true_or, false_or, or_false, ↓reduceIte, Nat.reduceEqDiff, Nat.reduceAdd, Nat.reduceMul, Nat.reduceSub, Int.reduceLE, Int.reduceLT, Int.reduceNeg, Int.reduceAdd, Int.reduceSub, Int.reduceEq, reduceCtorEq, jI_lt, jI_eq, jI_lt0, jI_0lt, jI_eq0, jI_0le, jn_lo, iU_row, iU_nr, iU_eq, iU_same, jI_ixn, jI_add, jI_sub, jI_nat, h0, h1, h2', h3, show m < v by omega, show ¬ (v < 0) by omega, show ¬ (v < m) by omega, show ¬ (m < 0) by omega, pHold, jI_if]
    rw [show (if 0 < m then m else 0) = m by split <;> omega]
  · simp only [g147_in, g147_0, g147_1, g147_2, g147_3, g147_6, g147_9, nl_none, nl_int, nl_ref, Option.toList_some, Option.toList_none, List.cons_append, List.nil_append, mSetI_u, mSetL_u, Nat.add_one_ne_zero, Nat.add_eq_zero_iff, and_false, false_and, not_false_eq_true, ne_eq, j0_0, j0_1, j1_0, j1_1, if_true, if_false, ite_true, ite_false, true_and, and_true, or_true, true_or, false_or, or_false, ↓reduceIte, Nat.reduceEqDiff, Nat.reduceAdd, Nat.reduceMul, Nat.reduceSub, Int.reduceLE, Int.reduceLT, Int.reduceNeg, Int.reduceAdd, Int.reduceSub, Int.reduceEq, reduceCtorEq, jI_lt, jI_eq, jI_lt0, jI_0lt, jI_eq0, jI_0le, jn_lo, iU_row, iU_nr, iU_eq, iU_same, jI_ixn, jI_add, jI_sub, jI_nat, h0, h1, h2', h3, show ¬ (v < 0) by omega, show ¬ (v < m) by omega, show ¬ (m < v) by omega, show ¬ (m < 0) by omega, pHold, jI_if]
    rw [show (if 0 < m then m else 0) = v by split <;> omega]
  · simp only [g147_in, g147_0, g147_1, g147_2, g147_3, g147_6, g147_9, nl_none, nl_int, nl_ref, Option.toList_some, Option.toList_none, List.cons_append, List.nil_append, mSetI_u, mSetL_u, Nat.add_one_ne_zero, Nat.add_eq_zero_iff, and_false, false_and, not_false_eq_true, ne_eq, j0_0, j0_1, j1_0, j1_1, if_true, if_false, ite_true, ite_false, true_and, and_true, or_true, true_or, false_or, or_false, ↓reduceIte, Nat.reduceEqDiff, Nat.reduceAdd, Nat.reduceMul, Nat.reduceSub, Int.reduceLE, Int.reduceLT, Int.reduceNeg, Int.reduceAdd, Int.reduceSub, Int.reduceEq, reduceCtorEq, jI_lt, jI_eq, jI_lt0, jI_0lt, jI_eq0, jI_0le, jn_lo, iU_row, iU_nr, iU_eq, iU_same, jI_ixn, jI_add, jI_sub, jI_nat, h0, h1, h2', h3, show v < m by omega, show ¬ (v < 0) by omega, show ¬ (m < v) by omega, pHold, jI_if]
    rw [show (if 0 < v then v else 0) = v by split <;> omega]
section DAYC
variable {d o l n : Nat} {lay : List mShp} {I : Nat → Nat → Int32} {E : Nat → Nat → Int64} {F : Nat → Nat → Nat} {P : mPost} {T : Nat → Nat → Int} {lw : vLw}
theorem vTc_ag {R : Nat → Nat → Prop} {I' : Nat → Nat → Int32} (h : vAg R I I') (hR : ∀ r j, R r j → ¬ (o + 1 ≤ r ∧ r ≤ o + 5) ∧ ¬ (r = o ∧ (j = 0 ∨ j = 6 ∨ j = 7))) (hc : vTc n T o I) : vTc n T o I' := by
  have e : ∀ w, 1 ≤ w → w ≤ 5 → I' (o + w) = I (o + w) := fun w h1 h2 => vAg_row h (fun j q => (hR _ _ q).1 ⟨by omega, by omega⟩)
  have z : ∀ j, (j = 0 ∨ j = 6 ∨ j = 7) → I' o j = I o j := fun j hj => h o j (fun q => (hR _ _ q).2 ⟨rfl, hj⟩)
  unfold vTc
  rw [e 1 (by omega) (by omega), e 2 (by omega) (by omega), e 3 (by omega) (by omega), e 4 (by omega) (by omega), e 5 (by omega) (by omega), z 0 (by omega), z 6 (by omega), z 7 (by omega)]
  exact hc
theorem vLw_ag {R : Nat → Nat → Prop} {I' : Nat → Nat → Int32} (h : vAg R I I') (hR : ∀ r j, R r j → ¬ r = l + 1 ∧ ¬ r = l + 2 ∧ ¬ (r = l ∧ j = 2)) (hlw : vLawC lw (I (l + 1)) (I (l + 2)) (I l 2)) : vLawC lw (I' (l + 1)) (I' (l + 2)) (I' l 2) := by
  rw [vAg_row h (fun j q => (hR _ _ q).1 rfl), vAg_row h (fun j q => (hR _ _ q).2.1 rfl), h l 2 (fun q => (hR _ _ q).2.2 ⟨rfl, rfl⟩)]
  exact hlw
theorem c80_a {a3 : Option Value} (hT : vTw lay F o) (hn : n ≤ 8) (hm : I o 0 = jI n) (hP : ∀ I', vAg (fun r _ => r = o + 7) I I' → (∀ j, j < n → I' (o + 7) j = jI 0) → mG (d + 1) 80 32 [some (.ref o), some (.ref l), some (.int (jI n)), a3] [] lay (I', E, F) P) : ∀ k i (z : Int) I', i + k = n → z = i → vAg (fun r _ => r = o + 7) I I' → (∀ j, j < i → I' (o + 7) j = jI 0) → mG (d + 1) 80 11 [some (.ref o), some (.ref l), some (.int (jI z)), a3] [] lay (I', E, F) P
  | 0, i, z, I', hi, hz, ha, hq => by
    obtain ⟨t, t0, t1, t2, t3, t4, t5, t6, t7, f1, f2, f3, f4, f5, f6, f7⟩ := hT
    subst hz
    have e : i = n := by omega
    subst e
    rw [g80_11]
    simp only [g80_12, g80_13, g80_16, g80_19, g80_20, g80_23, g80_24, g80_25, g80_26, g80_29, nl_none, nl_int, nl_ref, Option.toList_some, Option.toList_none, List.cons_append, List.nil_append, mSetI_u, mSetL_u, Nat.add_one_ne_zero, Nat.add_eq_zero_iff, and_false, false_and, not_false_eq_true, ne_eq, j0_0, j0_1, j1_0, j1_1, if_true, if_false, ite_true, ite_false, true_and, and_true, or_true, true_or, false_or, or_false, ↓reduceIte, Nat.reduceEqDiff, Nat.reduceAdd, Nat.reduceMul, Nat.reduceSub, Int.reduceLE, Int.reduceLT, Int.reduceNeg, Int.reduceAdd, Int.reduceSub, Int.reduceEq, reduceCtorEq, jI_lt, jI_eq, jI_lt0, jI_0lt, jI_eq0, jI_0le, jn_lo, iU_row, iU_nr, iU_eq, iU_same, jI_ixn, jI_add, jI_sub, jI_nat, t, t0, t7, f7, show I' o 0 = jI i from (ha o 0 (by omega)).trans hm, show ((i : Nat) : Int) ≤ 2147483647 by omega, show (i : Nat) ≤ 2147483647 by omega, show ¬ ((i : Int) < (i : Int)) by omega]
    exact hP I' ha hq
  | k + 1, i, z, I', hi, hz, ha, hq => by
    have ih := c80_a hT hn hm hP k (i + 1)
    obtain ⟨t, t0, t1, t2, t3, t4, t5, t6, t7, f1, f2, f3, f4, f5, f6, f7⟩ := hT
    subst hz
    rw [g80_11]
    simp only [g80_12, g80_13, g80_16, g80_19, g80_20, g80_23, g80_24, g80_25, g80_26, g80_29, nl_none, nl_int, nl_ref, Option.toList_some, Option.toList_none, List.cons_append, List.nil_append, mSetI_u, mSetL_u, Nat.add_one_ne_zero, Nat.add_eq_zero_iff, and_false, false_and, not_false_eq_true, ne_eq, j0_0, j0_1, j1_0, j1_1, if_true, if_false, ite_true, ite_false, true_and, and_true, or_true, true_or, false_or, or_false, ↓reduceIte, Nat.reduceEqDiff, Nat.reduceAdd, Nat.reduceMul, Nat.reduceSub, Int.reduceLE, Int.reduceLT, Int.reduceNeg, Int.reduceAdd, Int.reduceSub, Int.reduceEq, reduceCtorEq, jI_lt, jI_eq, jI_lt0, jI_0lt, jI_eq0, jI_0le, jn_lo, iU_row, iU_nr, iU_eq, iU_same, jI_ixn, jI_add, jI_sub, jI_nat, t, t0, t7, f7, show I' o 0 = jI n from (ha o 0 (by omega)).trans hm, show ((i : Nat) : Int) ≤ 2147483647 by omega, show (i : Nat) ≤ 2147483647 by omega, show ((n : Nat) : Int) ≤ 2147483647 by omega, show (n : Nat) ≤ 2147483647 by omega, show (i : Int) < (n : Int) by omega, jI_in (z := ((i : Int) : Int)) (n := 8) (by omega) (by omega) (by omega)]
    refine ih _ _ (by omega) (by omega) (vAg_iU ha rfl) (fun j hj => ?_)
    rw [iU_r]
    split
    · rfl
    · exact hq j (by omega)
theorem c80_b (hT : vTw lay F o) (hL : vLo lay F l) (hok : vTownOk n T) (hc : vTc n T o I) (hca : ∀ j, j < n → I (o + 6) j = jI (pCar T j n)) (hlw : vLawC lw (I (l + 1)) (I (l + 2)) (I l 2)) (hdis : o + 8 ≤ l ∨ l + 5 ≤ o) (hP : ∀ I' a3, vAg (fun r j => r = o + 7 ∨ (r = o ∧ j = 10) ∨ r = l + 3 ∨ r = l + 4) I I' → (∀ j, j < n → I' (o + 7) j = jI (pIn lw n T j n)) → I' o 10 = jI (pCame lw n T n) → mG (d + 6) 80 93 [some (.ref o), some (.ref l), some (.int (jI n)), a3] [] lay (I', E, F) P) : ∀ k i (z : Int) I' a3, i + k = n → z = i → vAg (fun r j => r = o + 7 ∨ (r = o ∧ j = 10) ∨ r = l + 3 ∨ r = l + 4) I I' → (∀ j, j < n → I' (o + 7) j = jI (pIn lw n T j i)) → I' o 10 = jI (pCame lw n T i) → mG (d + 6) 80 34 [some (.ref o), some (.ref l), some (.int (jI z)), a3] [] lay (I', E, F) P
  | 0, i, z, I', a3, hi, hz, ha, hq, hk => by
    obtain ⟨t, t0, t1, t2, t3, t4, t5, t6, t7, f1, f2, f3, f4, f5, f6, f7⟩ := hT
    have hn := hok.1
    subst hz
    have e : i = n := by omega
    subst e
    rw [g80_34]
    simp only [g80_35, g80_36, g80_39, g80_42, g80_43, g80_44, g80_47, g80_48, g80_49, g80_52, g80_55, g80_56, g80_57, g80_58, g80_61, g80_62, g80_63, g80_66, g80_67, g80_70, g80_71, g80_72, g80_73, g80_74, g80_75, g80_76, g80_77, g80_78, g80_79, g80_82, g80_83, g80_84, g80_87, g80_90, nl_none, nl_int, nl_ref, Option.toList_some, Option.toList_none, List.cons_append, List.nil_append, mSetI_u, mSetL_u, Nat.add_one_ne_zero, Nat.add_eq_zero_iff, and_false, false_and, not_false_eq_true, ne_eq, j0_0, j0_1, j1_0, j1_1, if_true, if_false, ite_true, ite_false, true_and, and_true, or_true, true_or, false_or, or_false, ↓reduceIte, Nat.reduceEqDiff, Nat.reduceAdd, Nat.reduceMul, Nat.reduceSub, Int.reduceLE, Int.reduceLT, Int.reduceNeg, Int.reduceAdd, Int.reduceSub, Int.reduceEq, reduceCtorEq, jI_lt, jI_eq, jI_lt0, jI_0lt, jI_eq0, jI_0le, jn_lo, iU_row, iU_nr, iU_eq, iU_same, jI_ixn, jI_add, jI_sub, jI_nat, t, t0, show I' o 0 = jI i from (ha o 0 (by omega)).trans hc.2.1, show ((i : Nat) : Int) ≤ 2147483647 by omega, show (i : Nat) ≤ 2147483647 by omega, show ¬ ((i : Int) < (i : Int)) by omega]
    exact hP I' a3 ha hq hk
  | k + 1, i, z, I', a3, hi, hz, ha, hq, hk => by
    have ih := c80_b hT hL hok hc hca hlw hdis hP k (i + 1)
    have hn := hok.1
    have hT' := hT
    obtain ⟨t, t0, t1, t2, t3, t4, t5, t6, t7, f1, f2, f3, f4, f5, f6, f7⟩ := hT
    subst hz
    have hin : i < n := by omega
    have hm : I' o 0 = jI n := (ha o 0 (by omega)).trans hc.2.1
    have hw0 : I' (o + 5) i = jI (T 4 i) := (ha (o + 5) i (by omega)).trans (hc.1 i hin).2.2.2.2
    obtain ⟨a0, a1, b0, b1, c0, c1, e0, e1, w0, w1, w2⟩ := vOk_w hok hin
    rw [g80_34]
    rcases (by omega : T 4 i = -1 ∨ 0 ≤ T 4 i) with hx | hx
    · rw [hx] at hw0
      simp only [g80_35, g80_36, g80_39, g80_42, g80_43, g80_44, g80_47, g80_48, g80_49, g80_52, g80_55, g80_56, g80_57, g80_58, g80_61, g80_62, g80_63, g80_66, g80_67, g80_70, g80_71, g80_72, g80_73, g80_74, g80_75, g80_76, g80_77, g80_78, g80_79, g80_82, g80_83, g80_84, g80_87, g80_90, g67_in, g67_0, g67_1, g67_4, g67_5, g67_6, g67_9, g67_12, g67_13, g67_16, g67_17, nl_none, nl_int, nl_ref, Option.toList_some, Option.toList_none, List.cons_append, List.nil_append, mSetI_u, mSetL_u, Nat.add_one_ne_zero, Nat.add_eq_zero_iff, and_false, false_and, not_false_eq_true, ne_eq, j0_0, j0_1, j1_0, j1_1, if_true, if_false, ite_true, ite_false, true_and, and_true, or_true, true_or, false_or, or_false, ↓reduceIte, Nat.reduceEqDiff, Nat.reduceAdd, Nat.reduceMul, Nat.reduceSub, Int.reduceLE, Int.reduceLT, Int.reduceNeg, Int.reduceAdd, Int.reduceSub, Int.reduceEq, reduceCtorEq, jI_lt, jI_eq, jI_lt0, jI_0lt, jI_eq0, jI_0le, jn_lo, iU_row, iU_nr, iU_eq, iU_same, jI_ixn, jI_add, jI_sub, jI_nat, hL.1, t, t0, t5, f5, hw0, hm, show ((i : Nat) : Int) ≤ 2147483647 by omega, show (i : Nat) ≤ 2147483647 by omega, show ((n : Nat) : Int) ≤ 2147483647 by omega, show (n : Nat) ≤ 2147483647 by omega, show (i : Int) < (n : Int) by omega, jI_in (z := ((i : Int) : Int)) (n := 8) (by omega) (by omega) (by omega)]
      refine ih _ _ _ (by omega) (by omega) ha (fun j hj => ?_) ?_
      · rw [hq j hj, pIn, if_neg (by omega), Int.add_zero]
      · rw [hk, pCame, pCome_0 (.inl hx), Int.add_zero]
    · obtain ⟨w, hw⟩ : ∃ w : Nat, T 4 i = w := ⟨(T 4 i).toNat, by omega⟩
      have hwn : w < n := by omega
      rw [hw] at hw0
      simp only [g80_35, g80_36, g80_39, g80_42, g80_43, g80_44, g80_47, g80_48, g80_49, g80_52, g80_55, g80_56, g80_57, g80_58, g80_61, g80_62, g80_63, g80_66, g80_67, g80_70, g80_71, g80_72, g80_73, g80_74, g80_75, g80_76, g80_77, g80_78, g80_79, g80_82, g80_83, g80_84, g80_87, g80_90, g67_in, g67_0, g67_1, g67_4, g67_5, g67_6, g67_9, g67_12, g67_13, g67_16, g67_17, nl_none, nl_int, nl_ref, Option.toList_some, Option.toList_none, List.cons_append, List.nil_append, mSetI_u, mSetL_u, Nat.add_one_ne_zero, Nat.add_eq_zero_iff, and_false, false_and, not_false_eq_true, ne_eq, j0_0, j0_1, j1_0, j1_1, if_true, if_false, ite_true, ite_false, true_and, and_true, or_true, true_or, false_or, or_false, ↓reduceIte, Nat.reduceEqDiff, Nat.reduceAdd, Nat.reduceMul, Nat.reduceSub, Int.reduceLE, Int.reduceLT, Int.reduceNeg, Int.reduceAdd, Int.reduceSub, Int.reduceEq, reduceCtorEq, jI_lt, jI_eq, jI_lt0, jI_0lt, jI_eq0, jI_0le, jn_lo, iU_row, iU_nr, iU_eq, iU_same, jI_ixn, jI_add, jI_sub, jI_nat, hL.1, t, t0, t5, f5, hw0, hm, show ((i : Nat) : Int) ≤ 2147483647 by omega, show (i : Nat) ≤ 2147483647 by omega, show ((n : Nat) : Int) ≤ 2147483647 by omega, show (n : Nat) ≤ 2147483647 by omega, show ((w : Nat) : Int) ≤ 2147483647 by omega, show (w : Nat) ≤ 2147483647 by omega, show (i : Int) < (n : Int) by omega, show (w : Int) < (n : Int) by omega, show ¬ ((w : Int) < 0) by omega, jI_in (z := ((i : Int) : Int)) (n := 8) (by omega) (by omega) (by omega)]
      refine c79 hT' hL hok (vTc_ag ha (fun r j q => by omega) hc) (fun j hj => (ha (o + 6) j (by omega)).trans (hca j hj)) (vLw_ag ha (fun r j q => by omega) hlw) hin (fun I2 h2 => ?_)
      have hw2 : I2 (o + 5) i = jI w := (h2 _ _ (by omega)).trans hw0
      have hq2 : I2 (o + 7) w = jI (pIn lw n T w i) := (h2 _ _ (by omega)).trans (hq w hwn)
      have hk2 : I2 o 10 = jI (pCame lw n T i) := (h2 _ _ (by omega)).trans hk
      simp only [g80_61, g80_62, g80_63, g80_66, g80_67, g80_70, g80_71, g80_72, g80_73, g80_74, g80_75, g80_76, g80_77, g80_78, g80_79, g80_82, g80_83, g80_84, g80_87, g80_90, nl_none, nl_int, nl_ref, Option.toList_some, Option.toList_none, List.cons_append, List.nil_append, mSetI_u, mSetL_u, Nat.add_one_ne_zero, Nat.add_eq_zero_iff, and_false, false_and, not_false_eq_true, ne_eq, j0_0, j0_1, j1_0, j1_1, if_true, if_false, ite_true, ite_false, true_and, and_true, or_true, true_or, false_or, or_false, ↓reduceIte, Nat.reduceEqDiff, Nat.reduceAdd, Nat.reduceMul, Nat.reduceSub, Int.reduceLE, Int.reduceLT, Int.reduceNeg, Int.reduceAdd, Int.reduceSub, Int.reduceEq, reduceCtorEq, jI_lt, jI_eq, jI_lt0, jI_0lt, jI_eq0, jI_0le, jn_lo, iU_row, iU_nr, iU_eq, iU_same, jI_ixn, jI_add, jI_sub, jI_nat, t, t0, t5, t7, f5, f7, hw2, hq2, hk2, show ((i : Nat) : Int) ≤ 2147483647 by omega, show (i : Nat) ≤ 2147483647 by omega, show ((n : Nat) : Int) ≤ 2147483647 by omega, show (n : Nat) ≤ 2147483647 by omega, show ((w : Nat) : Int) ≤ 2147483647 by omega, show (w : Nat) ≤ 2147483647 by omega, jI_in (z := ((i : Int) : Int)) (n := 8) (by omega) (by omega) (by omega), jI_in (z := ((w : Int) : Int)) (n := 8) (by omega) (by omega) (by omega), show ¬ o + 7 = o by omega, show ¬ o = o + 7 by omega]
      refine ih _ _ _ (by omega) (by omega) (vAg_iU (vAg_iU (vAg_tr ha (vAg_mono h2 (fun r j q => by omega))) (.inl rfl)) (.inr (.inl ⟨rfl, rfl⟩))) (fun j hj => ?_) ?_
      · rw [iU_nr (by omega), iU_r, pIn]
        by_cases e : j = w
        · rw [if_pos e, e, if_pos hw]
        · rw [if_neg e, if_neg (by omega), h2 _ _ (by omega), hq j hj]
          exact congrArg jI (by omega)
      · rw [iU_eq, pCame]
theorem c80_c (hT : vTw lay F o) (hok : vTownOk n T) (hl : ∀ g q n k s t, 0 ≤ lw g q n k s t ∧ lw g q n k s t ≤ 20) (hc : vTc n T o I) (hca : ∀ j, j < n → I (o + 6) j = jI (pCar T j n)) (hco : ∀ j, j < n → I (o + 7) j = jI (pIn lw n T j n)) (hP : ∀ I' a3, vAg (fun r j => r = o + 4) I I' → (∀ j, j < n → I' (o + 4) j = jI (pNew lw n T j)) → mG (d + 6) 80 165 [some (.ref o), some (.ref l), some (.int (jI n)), a3] [] lay (I', E, F) P) : ∀ k i (z : Int) I' a3, i + k = n → z = i → vAg (fun r j => r = o + 4) I I' → (∀ j, j < n → I' (o + 4) j = if j < i then jI (pNew lw n T j) else jI (T 3 j)) → mG (d + 6) 80 95 [some (.ref o), some (.ref l), some (.int (jI z)), a3] [] lay (I', E, F) P
  | 0, i, z, I', a3, hi, hz, ha, hq => by
    obtain ⟨t, t0, t1, t2, t3, t4, t5, t6, t7, f1, f2, f3, f4, f5, f6, f7⟩ := hT
    have hn := hok.1
    subst hz
    have e : i = n := by omega
    subst e
    rw [g80_95]
    simp only [g80_96, g80_97, g80_100, g80_103, g80_104, g80_107, g80_108, g80_109, g80_112, g80_113, g80_116, g80_117, g80_118, g80_119, g80_122, g80_123, g80_126, g80_127, g80_130, g80_131, g80_132, g80_133, g80_134, g80_137, g80_138, g80_139, g80_142, g80_143, g80_144, g80_145, g80_148, g80_149, g80_150, g80_151, g80_152, g80_153, g80_155, g80_158, g80_159, g80_162, nl_none, nl_int, nl_ref, Option.toList_some, Option.toList_none, List.cons_append, List.nil_append, mSetI_u, mSetL_u, Nat.add_one_ne_zero, Nat.add_eq_zero_iff, and_false, false_and, not_false_eq_true, ne_eq, j0_0, j0_1, j1_0, j1_1, if_true, if_false, ite_true, ite_false, true_and, and_true, or_true, true_or, false_or, or_false, ↓reduceIte, Nat.reduceEqDiff, Nat.reduceAdd, Nat.reduceMul, Nat.reduceSub, Int.reduceLE, Int.reduceLT, Int.reduceNeg, Int.reduceAdd, Int.reduceSub, Int.reduceEq, reduceCtorEq, jI_lt, jI_eq, jI_lt0, jI_0lt, jI_eq0, jI_0le, jn_lo, iU_row, iU_nr, iU_eq, iU_same, jI_ixn, jI_add, jI_sub, jI_nat, t, t0, show I' o 0 = jI i from (ha o 0 (by omega)).trans hc.2.1, show ((i : Nat) : Int) ≤ 2147483647 by omega, show (i : Nat) ≤ 2147483647 by omega, show ¬ ((i : Int) < (i : Int)) by omega]
    exact hP I' a3 ha (fun j hj => by rw [hq j hj, if_pos hj])
  | k + 1, i, z, I', a3, hi, hz, ha, hq => by
    have ih := c80_c hT hok hl hc hca hco hP k (i + 1)
    have hn := hok.1
    obtain ⟨t, t0, t1, t2, t3, t4, t5, t6, t7, f1, f2, f3, f4, f5, f6, f7⟩ := hT
    subst hz
    have hin : i < n := by omega
    have hm : I' o 0 = jI n := (ha o 0 (by omega)).trans hc.2.1
    have hwd : I' o 6 = jI (T 5 0) := (ha o 6 (by omega)).trans hc.2.2.1
    have hd0 : I' (o + 3) i = jI (T 2 i) := (ha (o + 3) i (by omega)).trans (hc.1 i hin).2.2.1
    have hs0 : I' (o + 4) i = jI (T 3 i) := by rw [hq i hin, if_neg (by omega)]
    have hk0 : I' (o + 6) i = jI (pCar T i n) := (ha (o + 6) i (by omega)).trans (hca i hin)
    have ho0 : I' (o + 7) i = jI (pIn lw n T i n) := (ha (o + 7) i (by omega)).trans (hco i hin)
    have hwi := hok.2.2.1
    have hkl := pCar_le T i n
    have hin2 := pIn_in hl n T i n
    obtain ⟨a0, a1, b0, b1, c0, c1, e0, e1, w0, w1, w2⟩ := vOk_w hok hin
    have fin : ∀ I2, I2 = iU I' (o + 4) i (jI (pNew lw n T i)) → ∀ a3, mG (d + 6) 80 95 [some (.ref o), some (.ref l), some (.int (jI ((i : Int) + 1))), a3] [] lay (I2, E, F) P := by
      intro I2 h2 a3
      subst h2
      refine ih _ _ _ (by omega) (by omega) (vAg_iU ha rfl) (fun j hj => ?_)
      rw [iU_r]
      by_cases e : j = i
      · rw [if_pos e, e, if_pos (by omega)]
      · rw [if_neg e, hq j hj]
        by_cases e' : j < i
        · rw [if_pos e', if_pos (by omega)]
        · rw [if_neg e', if_neg (by omega)]
    rw [g80_95]
    rcases (by omega : pCar T i n = 0 ∨ ¬ pCar T i n = 0) with hx | hx
    · have e : pLost n T i = T 2 i + T 5 0 := by rw [pLost, if_pos hx]
      rw [hx] at hk0
      simp only [g80_96, g80_97, g80_100, g80_103, g80_104, g80_107, g80_108, g80_109, g80_112, g80_113, g80_116, g80_117, g80_118, g80_119, g80_122, g80_123, g80_126, g80_127, g80_130, g80_131, g80_132, g80_133, g80_134, g80_137, g80_138, g80_139, g80_142, g80_143, g80_144, g80_145, g80_148, g80_149, g80_150, g80_151, g80_152, g80_153, g80_155, g80_158, g80_159, g80_162, nl_none, nl_int, nl_ref, Option.toList_some, Option.toList_none, List.cons_append, List.nil_append, mSetI_u, mSetL_u, Nat.add_one_ne_zero, Nat.add_eq_zero_iff, and_false, false_and, not_false_eq_true, ne_eq, j0_0, j0_1, j1_0, j1_1, if_true, if_false, ite_true, ite_false, true_and, and_true, or_true, true_or, false_or, or_false, ↓reduceIte, Nat.reduceEqDiff, Nat.reduceAdd, Nat.reduceMul, Nat.reduceSub, Int.reduceLE, Int.reduceLT, Int.reduceNeg, Int.reduceAdd, Int.reduceSub, Int.reduceEq, reduceCtorEq, jI_lt, jI_eq, jI_lt0, jI_0lt, jI_eq0, jI_0le, jn_lo, iU_row, iU_nr, iU_eq, iU_same, jI_ixn, jI_add, jI_sub, jI_nat, t, t0, t3, t4, t6, t7, f3, f4, f6, f7, hm, hwd, hd0, hs0, hk0, ho0, show ((i : Nat) : Int) ≤ 2147483647 by omega, show (i : Nat) ≤ 2147483647 by omega, show ((n : Nat) : Int) ≤ 2147483647 by omega, show (n : Nat) ≤ 2147483647 by omega, show (i : Int) < (n : Int) by omega, jI_in (z := ((i : Int) : Int)) (n := 8) (by omega) (by omega) (by omega), show ((0 : Nat) : Int) = 0 from rfl]
      rw [c133 (by omega) (by omega) (by omega) (by omega)]
      simp only [g80_158, g80_159, g80_162, nl_none, nl_int, nl_ref, Option.toList_some, Option.toList_none, List.cons_append, List.nil_append, mSetI_u, mSetL_u, Nat.add_one_ne_zero, Nat.add_eq_zero_iff, and_false, false_and, not_false_eq_true, ne_eq, j0_0, j0_1, j1_0, j1_1, if_true, if_false, ite_true, ite_false, true_and, and_true, or_true, true_or, false_or, or_false, ↓reduceIte, Nat.reduceEqDiff, Nat.reduceAdd, Nat.reduceMul, Nat.reduceSub, Int.reduceLE, Int.reduceLT, Int.reduceNeg, Int.reduceAdd, Int.reduceSub, Int.reduceEq, reduceCtorEq, jI_lt, jI_eq, jI_lt0, jI_0lt, jI_eq0, jI_0le, jn_lo, iU_row, iU_nr, iU_eq, iU_same, jI_ixn, jI_add, jI_sub, jI_nat, t, t0, t4, f4, show ((i : Nat) : Int) ≤ 2147483647 by omega, show (i : Nat) ≤ 2147483647 by omega, show ((n : Nat) : Int) ≤ 2147483647 by omega, show (n : Nat) ≤ 2147483647 by omega, jI_in (z := ((i : Int) : Int)) (n := 8) (by omega) (by omega) (by omega)]
      exact fin _ (by rw [pNew, e]) _
    · have e : pLost n T i = T 2 i := by rw [pLost, if_neg hx, Int.add_zero]
      simp only [g80_96, g80_97, g80_100, g80_103, g80_104, g80_107, g80_108, g80_109, g80_112, g80_113, g80_116, g80_117, g80_118, g80_119, g80_122, g80_123, g80_126, g80_127, g80_130, g80_131, g80_132, g80_133, g80_134, g80_137, g80_138, g80_139, g80_142, g80_143, g80_144, g80_145, g80_148, g80_149, g80_150, g80_151, g80_152, g80_153, g80_155, g80_158, g80_159, g80_162, nl_none, nl_int, nl_ref, Option.toList_some, Option.toList_none, List.cons_append, List.nil_append, mSetI_u, mSetL_u, Nat.add_one_ne_zero, Nat.add_eq_zero_iff, and_false, false_and, not_false_eq_true, ne_eq, j0_0, j0_1, j1_0, j1_1, if_true, if_false, ite_true, ite_false, true_and, and_true, or_true, true_or, false_or, or_false, ↓reduceIte, Nat.reduceEqDiff, Nat.reduceAdd, Nat.reduceMul, Nat.reduceSub, Int.reduceLE, Int.reduceLT, Int.reduceNeg, Int.reduceAdd, Int.reduceSub, Int.reduceEq, reduceCtorEq, jI_lt, jI_eq, jI_lt0, jI_0lt, jI_eq0, jI_0le, jn_lo, iU_row, iU_nr, iU_eq, iU_same, jI_ixn, jI_add, jI_sub, jI_nat, t, t0, t3, t4, t6, t7, f3, f4, f6, f7, hm, hwd, hd0, hs0, hk0, ho0, show ((i : Nat) : Int) ≤ 2147483647 by omega, show (i : Nat) ≤ 2147483647 by omega, show ((n : Nat) : Int) ≤ 2147483647 by omega, show (n : Nat) ≤ 2147483647 by omega, show ((pCar T i n : Nat) : Int) ≤ 2147483647 by omega, show (pCar T i n : Nat) ≤ 2147483647 by omega, show (i : Int) < (n : Int) by omega, show ¬ ((pCar T i n : Int) = 0) by omega, jI_in (z := ((i : Int) : Int)) (n := 8) (by omega) (by omega) (by omega)]
      rw [c133 (by omega) (by omega) (by omega) (by omega)]
      simp only [g80_158, g80_159, g80_162, nl_none, nl_int, nl_ref, Option.toList_some, Option.toList_none, List.cons_append, List.nil_append, mSetI_u, mSetL_u, Nat.add_one_ne_zero, Nat.add_eq_zero_iff, and_false, false_and, not_false_eq_true, ne_eq, j0_0, j0_1, j1_0, j1_1, if_true, if_false, ite_true, ite_false, true_and, and_true, or_true, true_or, false_or, or_false, ↓reduceIte, Nat.reduceEqDiff, Nat.reduceAdd, Nat.reduceMul, Nat.reduceSub, Int.reduceLE, Int.reduceLT, Int.reduceNeg, Int.reduceAdd, Int.reduceSub, Int.reduceEq, reduceCtorEq, jI_lt, jI_eq, jI_lt0, jI_0lt, jI_eq0, jI_0le, jn_lo, iU_row, iU_nr, iU_eq, iU_same, jI_ixn, jI_add, jI_sub, jI_nat, t, t0, t4, f4, show ((i : Nat) : Int) ≤ 2147483647 by omega, show (i : Nat) ≤ 2147483647 by omega, show ((n : Nat) : Int) ≤ 2147483647 by omega, show (n : Nat) ≤ 2147483647 by omega, jI_in (z := ((i : Int) : Int)) (n := 8) (by omega) (by omega) (by omega)]
      exact fin _ (by rw [pNew, e]) _
/-- passDay -/
theorem c80 (hT : vTw lay F o) (hL : vLo lay F l) (hok : vTownOk n T) (hc : vTc n T o I) (hlw : vLawC lw (I (l + 1)) (I (l + 2)) (I l 2)) (hdis : o + 8 ≤ l ∨ l + 5 ≤ o) (hP : ∀ I', vAg (fun r j => r = o + 4 ∨ r = o + 6 ∨ r = o + 7 ∨ (r = o ∧ (j = 7 ∨ j = 10)) ∨ r = l + 3 ∨ r = l + 4) I I' → vTc n (pDay lw n T) o I' → I' o 10 = jI (pCame lw n T n) → P none lay (I', E, F)) : mF (d + 6) 80 [.ref o, .ref l] lay (I, E, F) P := by
  have hn := hok.1
  have hday := hok.2.2.2
  have hT' := hT
  obtain ⟨t, t0, t1, t2, t3, t4, t5, t6, t7, f1, f2, f3, f4, f5, f6, f7⟩ := hT
  simp only [g80_in, g80_0, g80_1, g80_4, g80_5, g80_6, g80_9, g80_10, nl_none, nl_int, nl_ref, Option.toList_some, Option.toList_none, List.cons_append, List.nil_append, mSetI_u, mSetL_u, Nat.add_one_ne_zero, Nat.add_eq_zero_iff, and_false, false_and, not_false_eq_true, ne_eq, j0_0, j0_1, j1_0, j1_1, if_true, if_false, ite_true, ite_false, true_and, and_true, or_true, true_or, false_or, or_false, ↓reduceIte, Nat.reduceEqDiff, Nat.reduceAdd, Nat.reduceMul, Nat.reduceSub, Int.reduceLE, Int.reduceLT, Int.reduceNeg, Int.reduceAdd, Int.reduceSub, Int.reduceEq, reduceCtorEq, jI_lt, jI_eq, jI_lt0, jI_0lt, jI_eq0, jI_0le, jn_lo, iU_row, iU_nr, iU_eq, iU_same, jI_ixn, jI_add, jI_sub, jI_nat, t, t0]
  refine c75 hT' hn hc.2.1 (fun i hi => ⟨(hc.1 i hi).2.2.2.2, (vOk_w hok hi).2.2.2.2.2.2.2.2.1, (vOk_w hok hi).2.2.2.2.2.2.2.2.2.1⟩) (fun I1 h1 hca => ?_)
  simp only [g80_in, g80_0, g80_1, g80_4, g80_5, g80_6, g80_9, g80_10, nl_none, nl_int, nl_ref, Option.toList_some, Option.toList_none, List.cons_append, List.nil_append, mSetI_u, mSetL_u, Nat.add_one_ne_zero, Nat.add_eq_zero_iff, and_false, false_and, not_false_eq_true, ne_eq, j0_0, j0_1, j1_0, j1_1, if_true, if_false, ite_true, ite_false, true_and, and_true, or_true, true_or, false_or, or_false, ↓reduceIte, Nat.reduceEqDiff, Nat.reduceAdd, Nat.reduceMul, Nat.reduceSub, Int.reduceLE, Int.reduceLT, Int.reduceNeg, Int.reduceAdd, Int.reduceSub, Int.reduceEq, reduceCtorEq, jI_lt, jI_eq, jI_lt0, jI_0lt, jI_eq0, jI_0le, jn_lo, iU_row, iU_nr, iU_eq, iU_same, jI_ixn, jI_add, jI_sub, jI_nat, t, t0]
  have hc1 : vTc n T o (iU I1 o 10 (jI 0)) := vTc_ag (vAg_iU (R := fun r j => r = o + 6 ∨ (r = o ∧ j = 10)) (vAg_mono h1 (fun r j q => .inl q)) (.inr ⟨rfl, rfl⟩)) (fun r j q => by omega) hc
  refine c80_a (d := d + 5) hT' hn hc1.2.1 (fun I2 h2 hz => ?_) n 0 0 _ (by omega) rfl vAg_rfl (fun j hj => absurd hj (by omega))
  simp only [g80_32, g80_33, nl_none, nl_int, nl_ref, Option.toList_some, Option.toList_none, List.cons_append, List.nil_append, mSetI_u, mSetL_u, Nat.add_one_ne_zero, Nat.add_eq_zero_iff, and_false, false_and, not_false_eq_true, ne_eq, j0_0, j0_1, j1_0, j1_1, if_true, if_false, ite_true, ite_false, true_and, and_true, or_true, true_or, false_or, or_false, ↓reduceIte, Nat.reduceEqDiff, Nat.reduceAdd, Nat.reduceMul, Nat.reduceSub, Int.reduceLE, Int.reduceLT, Int.reduceNeg, Int.reduceAdd, Int.reduceSub, Int.reduceEq, reduceCtorEq, jI_lt, jI_eq, jI_lt0, jI_0lt, jI_eq0, jI_0le, jn_lo, iU_row, iU_nr, iU_eq, iU_same, jI_ixn, jI_add, jI_sub, jI_nat]
  have h02 : vAg (fun r j => r = o + 6 ∨ (r = o ∧ j = 10) ∨ r = o + 7) I I2 := vAg_tr (vAg_iU (R := fun r j => r = o + 6 ∨ (r = o ∧ j = 10) ∨ r = o + 7) (vAg_mono h1 (fun r j q => .inl q)) (.inr (.inl ⟨rfl, rfl⟩))) (vAg_mono h2 (fun r j q => .inr (.inr q)))
  refine c80_b hT' hL hok (vTc_ag h02 (fun r j q => by omega) hc) (fun j hj => ?_) (vLw_ag h02 (fun r j q => by omega) hlw) hdis (fun I3 a3 h3 hco hcm => ?_) n 0 0 _ _ (by omega) rfl vAg_rfl (fun j hj => hz j hj) ?_
  · rw [h2 _ _ (by omega), iU_nr (by omega)]
    exact hca j hj
  · simp only [g80_93, g80_94, nl_none, nl_int, nl_ref, Option.toList_some, Option.toList_none, List.cons_append, List.nil_append, mSetI_u, mSetL_u, Nat.add_one_ne_zero, Nat.add_eq_zero_iff, and_false, false_and, not_false_eq_true, ne_eq, j0_0, j0_1, j1_0, j1_1, if_true, if_false, ite_true, ite_false, true_and, and_true, or_true, true_or, false_or, or_false, ↓reduceIte, Nat.reduceEqDiff, Nat.reduceAdd, Nat.reduceMul, Nat.reduceSub, Int.reduceLE, Int.reduceLT, Int.reduceNeg, Int.reduceAdd, Int.reduceSub, Int.reduceEq, reduceCtorEq, jI_lt, jI_eq, jI_lt0, jI_0lt, jI_eq0, jI_0le, jn_lo, iU_row, iU_nr, iU_eq, iU_same, jI_ixn, jI_add, jI_sub, jI_nat]
    have h03 : vAg (fun r j => r = o + 6 ∨ (r = o ∧ j = 10) ∨ r = o + 7 ∨ r = l + 3 ∨ r = l + 4) I I3 := vAg_tr (vAg_mono h02 (fun r j q => by omega)) (vAg_mono h3 (fun r j q => by omega))
    have hc3 := vTc_ag h03 (fun r j q => by omega) hc
    refine c80_c hT' hok hlw.1 hc3 (fun j hj => ?_) hco (fun I4 a3 h4 hs => ?_) n 0 0 _ _ (by omega) rfl vAg_rfl (fun j hj => ?_)
    · rw [h3 _ _ (by omega), h2 _ _ (by omega), iU_nr (by omega)]
      exact hca j hj
    · have hto : I4 o 7 = jI (T 6 0) := (h4 _ _ (by omega)).trans hc3.2.2.2
      simp only [g80_165, g80_166, g80_167, g80_170, g80_171, g80_172, g80_174, g80_177, g80_180, nl_none, nl_int, nl_ref, Option.toList_some, Option.toList_none, List.cons_append, List.nil_append, mSetI_u, mSetL_u, Nat.add_one_ne_zero, Nat.add_eq_zero_iff, and_false, false_and, not_false_eq_true, ne_eq, j0_0, j0_1, j1_0, j1_1, if_true, if_false, ite_true, ite_false, true_and, and_true, or_true, true_or, false_or, or_false, ↓reduceIte, Nat.reduceEqDiff, Nat.reduceAdd, Nat.reduceMul, Nat.reduceSub, Int.reduceLE, Int.reduceLT, Int.reduceNeg, Int.reduceAdd, Int.reduceSub, Int.reduceEq, reduceCtorEq, jI_lt, jI_eq, jI_lt0, jI_0lt, jI_eq0, jI_0le, jn_lo, iU_row, iU_nr, iU_eq, iU_same, jI_ixn, jI_add, jI_sub, jI_nat, t, t0, hto, show -2147483648 ≤ (T 6 0 + 1 : Int) by omega, show (T 6 0 + 1 : Int) ≤ 2147483647 by omega, jI_if]
      refine hP _ (vAg_iU (vAg_tr (vAg_mono h03 (fun r j q => by omega)) (vAg_mono h4 (fun r j q => by omega))) (.inr (.inr (.inr (.inl ⟨rfl, .inl rfl⟩))))) ⟨fun i hi => ?_, ?_, ?_, ?_⟩ ?_
      · obtain ⟨q0, q1, q2, q3, q4⟩ := hc3.1 i hi
        rw [iU_nr (by omega), iU_nr (by omega), iU_nr (by omega), iU_nr (by omega), iU_nr (by omega), h4 _ _ (by omega), h4 _ _ (by omega), h4 _ _ (by omega), hs i hi, h4 _ _ (by omega)]
        exact ⟨q0, q1, q2, rfl, q4⟩
      · rw [iU_ne (by omega), h4 _ _ (by omega)]
        exact hc3.2.1
      · rw [iU_ne (by omega), h4 _ _ (by omega)]
        exact hc3.2.2.1
      · rw [iU_eq]
        rfl
      · rw [iU_ne (by omega), h4 _ _ (by omega)]
        exact hcm
    · rw [if_neg (by omega)]
      exact (hc3.1 j hj).2.2.2.1
  · rw [h2 _ _ (by omega), iU_eq]
    rfl
end DAYC
