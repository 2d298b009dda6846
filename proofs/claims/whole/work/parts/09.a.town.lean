/-! ===== towns: what each method of a Town does, for any Town object o whose rows are o+1 .. o+7 ===== -/
def vTw (lay : List mShp) (F : Nat → Nat → Nat) (o : Nat) : Prop := (¬ o = 0) ∧ mSh lay o = some (10, 11) ∧ mSh lay (o + 1) = some (0, 8) ∧ mSh lay (o + 2) = some (0, 8) ∧ mSh lay (o + 3) = some (0, 8) ∧ mSh lay (o + 4) = some (0, 8) ∧ mSh lay (o + 5) = some (0, 8) ∧ mSh lay (o + 6) = some (0, 8) ∧ mSh lay (o + 7) = some (0, 8) ∧ F o 1 = o + 1 ∧ F o 2 = o + 2 ∧ F o 3 = o + 3 ∧ F o 4 = o + 4 ∧ F o 5 = o + 5 ∧ F o 8 = o + 6 ∧ F o 9 = o + 7
theorem pCar_le (T : Nat → Nat → Int) (j : Nat) : ∀ m, pCar T j m ≤ m
  | 0 => Nat.le_refl 0
  | m + 1 => by
    have h := pCar_le T j m
    simp only [pCar]
    split <;> omega
theorem c75_a {d o n : Nat} {lay : List mShp} {I : Nat → Nat → Int32} {E : Nat → Nat → Int64} {F : Nat → Nat → Nat} {P : mPost} (hT : vTw lay F o) (hn : n ≤ 8) (hm : I o 0 = jI n) (hP : ∀ I', vAg (fun r _ => r = o + 6) I I' → (∀ j, j < n → I' (o + 6) j = jI 0) → mG (d + 1) 75 23 [some (.ref o), some (.int (jI n))] [] lay (I', E, F) P) : ∀ k i (z : Int) I', i + k = n → z = i → vAg (fun r _ => r = o + 6) I I' → (∀ j, j < i → I' (o + 6) j = jI 0) → mG (d + 1) 75 2 [some (.ref o), some (.int (jI z))] [] lay (I', E, F) P
  | 0, i, z, I', hi, hz, ha, hq => by
    obtain ⟨t, t0, t1, t2, t3, t4, t5, t6, t7, f1, f2, f3, f4, f5, f6, f7⟩ := hT
    subst hz
    rw [g75_2]
    simp only [g75_3, g75_4, g75_7, g75_10, g75_11, g75_14, g75_15, g75_16, g75_17, g75_20, nl_none, nl_int, nl_ref, Option.toList_some, Option.toList_none, List.cons_append, List.nil_append, mSetI_u, mSetL_u, Nat.add_one_ne_zero, Nat.add_eq_zero_iff, and_false, false_and, not_false_eq_true, ne_eq, j0_0, j0_1, j1_0, j1_1, if_true, if_false, ite_true, ite_false, true_and, and_true, or_true, true_or, false_or, or_false, ↓reduceIte, Nat.reduceEqDiff, Nat.reduceAdd, Nat.reduceMul, Nat.reduceSub, Int.reduceLE, Int.reduceLT, Int.reduceNeg, Int.reduceAdd, Int.reduceSub, Int.reduceEq, reduceCtorEq, jI_lt, jI_eq, jI_lt0, jI_0lt, jI_eq0, jI_0le, jn_lo, iU_row, iU_nr, iU_eq, iU_same, jI_ixn, jI_add, jI_sub, jI_nat, t, t0, t6, f6, show I' o 0 = jI n from (ha o 0 (by omega)).trans hm, show (i : Int) ≤ 2147483647 by omega, show (n : Int) ≤ 2147483647 by omega, show -2147483648 ≤ (n : Int) by omega, show -2147483648 ≤ (i : Int) by omega, show ¬ ((i : Int) < (n : Int)) by omega]
    have e : i = n := by omega
    subst e
    exact hP I' ha hq
  | k + 1, i, z, I', hi, hz, ha, hq => by
    have ih := c75_a (d := d) (E := E) (P := P) hT hn hm hP k (i + 1)
    obtain ⟨t, t0, t1, t2, t3, t4, t5, t6, t7, f1, f2, f3, f4, f5, f6, f7⟩ := hT
    subst hz
    rw [g75_2]
    simp only [g75_3, g75_4, g75_7, g75_10, g75_11, g75_14, g75_15, g75_16, g75_17, g75_20, nl_none, nl_int, nl_ref, Option.toList_some, Option.toList_none, List.cons_append, List.nil_append, mSetI_u, mSetL_u, Nat.add_one_ne_zero, Nat.add_eq_zero_iff, and_false, false_and, not_false_eq_true, ne_eq, j0_0, j0_1, j1_0, j1_1, if_true, if_false, ite_true, ite_false, true_and, and_true, or_true, true_or, false_or, or_false, ↓reduceIte, Nat.reduceEqDiff, Nat.reduceAdd, Nat.reduceMul, Nat.reduceSub, Int.reduceLE, Int.reduceLT, Int.reduceNeg, Int.reduceAdd, Int.reduceSub, Int.reduceEq, reduceCtorEq, jI_lt, jI_eq, jI_lt0, jI_0lt, jI_eq0, jI_0le, jn_lo, iU_row, iU_nr, iU_eq, iU_same, jI_ixn, jI_add, jI_sub, jI_nat, t, t0, t6, f6, show I' o 0 = jI n from (ha o 0 (by omega)).trans hm, show (i : Int) ≤ 2147483647 by omega, show (n : Int) ≤ 2147483647 by omega, show -2147483648 ≤ (n : Int) by omega, show -2147483648 ≤ (i : Int) by omega, show (i : Int) < (n : Int) by omega, show i ≤ 2147483647 by omega, jI_in (z := (i : Int)) (n := 8) (by omega) (by omega) (by omega)]
    refine ih _ _ (by omega) (by omega) (vAg_iU ha rfl) (fun j hj => ?_)
    rw [iU_r]
    split
    · rfl
    · exact hq j (by omega)
theorem c75_b {d o n : Nat} {lay : List mShp} {I : Nat → Nat → Int32} {E : Nat → Nat → Int64} {F : Nat → Nat → Nat} {P : mPost} {T : Nat → Nat → Int} (hT : vTw lay F o) (hn : n ≤ 8) (hm : I o 0 = jI n) (hw : ∀ i, i < n → I (o + 5) i = jI (T 4 i) ∧ -1 ≤ T 4 i ∧ T 4 i < n) (hP : ∀ I', vAg (fun r _ => r = o + 6) I I' → (∀ j, j < n → I' (o + 6) j = jI (pCar T j n)) → P none lay (I', E, F)) : ∀ k i (z : Int) I', i + k = n → z = i → vAg (fun r _ => r = o + 6) I I' → (∀ j, j < n → I' (o + 6) j = jI (pCar T j i)) → mG (d + 2) 75 25 [some (.ref o), some (.int (jI z))] [] lay (I', E, F) P
  | 0, i, z, I', hi, hz, ha, hq => by
    obtain ⟨t, t0, t1, t2, t3, t4, t5, t6, t7, f1, f2, f3, f4, f5, f6, f7⟩ := hT
    subst hz
    have e : i = n := by omega
    subst e
    rw [g75_25]
    simp only [g75_26, g75_27, g75_30, g75_33, g75_34, g75_35, g75_38, g75_39, g75_40, g75_43, g75_46, g75_47, g75_50, g75_51, g75_54, g75_55, g75_56, g75_57, g75_58, g75_59, g75_60, g75_61, g75_64, g75_67, nl_none, nl_int, nl_ref, Option.toList_some, Option.toList_none, List.cons_append, List.nil_append, mSetI_u, mSetL_u, Nat.add_one_ne_zero, Nat.add_eq_zero_iff, and_false, false_and, not_false_eq_true, ne_eq, j0_0, j0_1, j1_0, j1_1, if_true, if_false, ite_true, ite_false, true_and, and_true, or_true, true_or, false_or, or_false, ↓reduceIte, Nat.reduceEqDiff, Nat.reduceAdd, Nat.reduceMul, Nat.reduceSub, Int.reduceLE, Int.reduceLT, Int.reduceNeg, Int.reduceAdd, Int.reduceSub, Int.reduceEq, reduceCtorEq, jI_lt, jI_eq, jI_lt0, jI_0lt, jI_eq0, jI_0le, jn_lo, iU_row, iU_nr, iU_eq, iU_same, jI_ixn, jI_add, jI_sub, jI_nat, t, t0, t6, f6, show I' o 0 = jI i from (ha o 0 (by omega)).trans hm, show (i : Int) ≤ 2147483647 by omega, show -2147483648 ≤ (i : Int) by omega, show ¬ ((i : Int) < (i : Int)) by omega]
    exact hP I' ha hq
  | k + 1, i, z, I', hi, hz, ha, hq => by
    have ih := c75_b (d := d) (E := E) (P := P) hT hn hm hw hP k (i + 1)
    obtain ⟨t, t0, t1, t2, t3, t4, t5, t6, t7, f1, f2, f3, f4, f5, f6, f7⟩ := hT
    subst hz
    obtain ⟨hw0, hw1, hw2⟩ := hw i (by omega)
    have hwi : I' (o + 5) i = jI (T 4 i) := (ha (o + 5) i (by omega)).trans hw0
    rw [g75_25]
    rcases (by omega : T 4 i = -1 ∨ 0 ≤ T 4 i) with hx | hx
    · simp only [g75_26, g75_27, g75_30, g75_33, g75_34, g75_35, g75_38, g75_39, g75_40, g75_43, g75_46, g75_47, g75_50, g75_51, g75_54, g75_55, g75_56, g75_57, g75_58, g75_59, g75_60, g75_61, g75_64, g75_67, g67_in, g67_0, g67_1, g67_4, g67_5, g67_6, g67_9, g67_12, g67_13, g67_16, g67_17, nl_none, nl_int, nl_ref, Option.toList_some, Option.toList_none, List.cons_append, List.nil_append, mSetI_u, mSetL_u, Nat.add_one_ne_zero, Nat.add_eq_zero_iff, and_false, false_and, not_false_eq_true, ne_eq, j0_0, j0_1, j1_0, j1_1, if_true, if_false, ite_true, ite_false, true_and, and_true, or_true, true_or, false_or, or_false, ↓reduceIte, Nat.reduceEqDiff, Nat.reduceAdd, Nat.reduceMul, Nat.reduceSub, Int.reduceLE, Int.reduceLT, Int.reduceNeg, Int.reduceAdd, Int.reduceSub, Int.reduceEq, reduceCtorEq, jI_lt, jI_eq, jI_lt0, jI_0lt, jI_eq0, jI_0le, jn_lo, iU_row, iU_nr, iU_eq, iU_same, jI_ixn, jI_add, jI_sub, jI_nat, t, t0, t5, t6, f5, f6, hwi, hx, show I' o 0 = jI n from (ha o 0 (by omega)).trans hm, show (i : Int) ≤ 2147483647 by omega, show (n : Int) ≤ 2147483647 by omega, show -2147483648 ≤ (n : Int) by omega, show -2147483648 ≤ (i : Int) by omega, show (i : Int) < (n : Int) by omega, show i ≤ 2147483647 by omega, jI_in (z := (i : Int)) (n := 8) (by omega) (by omega) (by omega)]
      refine ih _ _ (by omega) (by omega) ha (fun j hj => ?_)
      rw [hq j hj]
      simp only [pCar, hx, show ¬ ((-1 : Int) = (j : Int)) by omega, if_false, Nat.add_zero]
    · obtain ⟨w, hwn⟩ : ∃ w : Nat, T 4 i = w := ⟨(T 4 i).toNat, by omega⟩
      have hwlt : w < n := by omega
      have hpw := pCar_le T w i
      rw [hwn] at hwi
      simp only [g75_26, g75_27, g75_30, g75_33, g75_34, g75_35, g75_38, g75_39, g75_40, g75_43, g75_46, g75_47, g75_50, g75_51, g75_54, g75_55, g75_56, g75_57, g75_58, g75_59, g75_60, g75_61, g75_64, g75_67, g67_in, g67_0, g67_1, g67_4, g67_5, g67_6, g67_9, g67_12, g67_13, g67_16, g67_17, nl_none, nl_int, nl_ref, Option.toList_some, Option.toList_none, List.cons_append, List.nil_append, mSetI_u, mSetL_u, Nat.add_one_ne_zero, Nat.add_eq_zero_iff, and_false, false_and, not_false_eq_true, ne_eq, j0_0, j0_1, j1_0, j1_1, if_true, if_false, ite_true, ite_false, true_and, and_true, or_true, true_or, false_or, or_false, ↓reduceIte, Nat.reduceEqDiff, Nat.reduceAdd, Nat.reduceMul, Nat.reduceSub, Int.reduceLE, Int.reduceLT, Int.reduceNeg, Int.reduceAdd, Int.reduceSub, Int.reduceEq, reduceCtorEq, jI_lt, jI_eq, jI_lt0, jI_0lt, jI_eq0, jI_0le, jn_lo, iU_row, iU_nr, iU_eq, iU_same, jI_ixn, jI_add, jI_sub, jI_nat, t, t0, t5, t6, f5, f6, hwi, hq w hwlt, show I' o 0 = jI n from (ha o 0 (by omega)).trans hm, show (i : Int) ≤ 2147483647 by omega, show (n : Int) ≤ 2147483647 by omega, show -2147483648 ≤ (n : Int) by omega, show -2147483648 ≤ (i : Int) by omega, show (i : Int) < (n : Int) by omega, show i ≤ 2147483647 by omega, show w ≤ 2147483647 by omega, show (w : Int) ≤ 2147483647 by omega, show -2147483648 ≤ (w : Int) by omega, show (w : Int) < (n : Int) by omega, show 0 ≤ (w : Int) by omega, show ¬ ((w : Int) < 0) by omega, jI_in (z := (i : Int)) (n := 8) (by omega) (by omega) (by omega), jI_in (z := (w : Int)) (n := 8) (by omega) (by omega) (by omega)]
      refine ih _ _ (by omega) (by omega) (vAg_iU ha rfl) (fun j hj => ?_)
      rw [iU_r]
      simp only [pCar, hwn]
      by_cases e : j = w
      · rw [if_pos e, e, if_pos rfl]
        rfl
      · rw [if_neg e, hq j hj, if_neg (by omega)]
        rfl
/-- countCarers -/
theorem c75 {d o n : Nat} {lay : List mShp} {I : Nat → Nat → Int32} {E : Nat → Nat → Int64} {F : Nat → Nat → Nat} {P : mPost} {T : Nat → Nat → Int} (hT : vTw lay F o) (hn : n ≤ 8) (hm : I o 0 = jI n) (hw : ∀ i, i < n → I (o + 5) i = jI (T 4 i) ∧ -1 ≤ T 4 i ∧ T 4 i < n) (hP : ∀ I', vAg (fun r _ => r = o + 6) I I' → (∀ j, j < n → I' (o + 6) j = jI (pCar T j n)) → P none lay (I', E, F)) : mF (d + 2) 75 [.ref o] lay (I, E, F) P := by
  simp only [g75_in, g75_0, g75_1, nl_ref, nl_none]
  refine c75_a (d := d + 1) hT hn hm (fun I1 h1 h2 => ?_) n 0 0 I (by omega) rfl vAg_rfl (fun j hj => absurd hj (by omega))
  simp only [g75_23, g75_24, nl_ref, nl_int]
  exact c75_b hT hn hm hw hP n 0 0 I1 (by omega) rfl h1 h2
theorem c77 {d o n m : Nat} {lay : List mShp} {I : Nat → Nat → Int32} {E : Nat → Nat → Int64} {F : Nat → Nat → Nat} {P : mPost} {w : Int} {i : Nat} (hT : vTw lay F o) (hn : n ≤ 8) (hi : i < n) (hm : I o 0 = jI n) (hw : I (o + 5) i = jI w) (hw1 : -1 ≤ w) (hw2 : w < n) (hc : ∀ j : Nat, w = j → I (o + 6) j = jI m ∧ m ≤ 8) (hP : ∀ b : Int32, (b = jI 1 ∧ 0 ≤ w ∧ m = 1) ∨ (b = jI 0 ∧ ¬ (0 ≤ w ∧ m = 1)) → P (some (.int b)) lay (I, E, F)) : mF (d + 2) 77 [.ref o, .int (jI i)] lay (I, E, F) P := by
  obtain ⟨t, t0, t1, t2, t3, t4, t5, t6, t7, f1, f2, f3, f4, f5, f6, f7⟩ := hT
  rcases (by omega : w = -1 ∨ 0 ≤ w) with hx | hx
  · simp only [g77_in, g77_0, g77_1, g77_2, g77_5, g77_6, g77_7, g77_10, g77_13, g77_14, g77_17, g77_18, g77_21, g77_22, g77_23, g77_24, g77_25, g77_28, g77_29, g77_32, g77_33, g67_in, g67_0, g67_1, g67_4, g67_5, g67_6, g67_9, g67_12, g67_13, g67_16, g67_17, nl_none, nl_int, nl_ref, Option.toList_some, Option.toList_none, List.cons_append, List.nil_append, mSetI_u, mSetL_u, Nat.add_one_ne_zero, Nat.add_eq_zero_iff, and_false, false_and, not_false_eq_true, ne_eq, j0_0, j0_1, j1_0, j1_1, if_true, if_false, ite_true, ite_false, true_and, and_true, or_true, true_or, false_or, or_false, ↓reduceIte, Nat.reduceEqDiff, Nat.reduceAdd, Nat.reduceMul, Nat.reduceSub, Int.reduceLE, Int.reduceLT, Int.reduceNeg, Int.reduceAdd, Int.reduceSub, Int.reduceEq, reduceCtorEq, jI_lt, jI_eq, jI_lt0, jI_0lt, jI_eq0, jI_0le, jn_lo, iU_row, iU_nr, iU_eq, iU_same, jI_ixn, jI_add, jI_sub, jI_nat, t, t0, t5, t6, f5, f6, hw, hm, hx, show (n : Int) ≤ 2147483647 by omega, show -2147483648 ≤ (n : Int) by omega, show i ≤ 2147483647 by omega, jI_in (z := (i : Int)) (n := 8) (by omega) (by omega) (by omega)]
    exact hP _ (.inr ⟨rfl, by omega⟩)
  · obtain ⟨v, hv⟩ : ∃ v : Nat, w = v := ⟨w.toNat, by omega⟩
    obtain ⟨hc1, hc2⟩ := hc v hv
    subst hv
    rcases (by omega : m = 1 ∨ ¬ m = 1) with hx | hx
    · simp only [g77_in, g77_0, g77_1, g77_2, g77_5, g77_6, g77_7, g77_10, g77_13, g77_14, g77_17, g77_18, g77_21, g77_22, g77_23, g77_24, g77_25, g77_28, g77_29, g77_32, g77_33, g67_in, g67_0, g67_1, g67_4, g67_5, g67_6, g67_9, g67_12, g67_13, g67_16, g67_17, nl_none, nl_int, nl_ref, Option.toList_some, Option.toList_none, List.cons_append, List.nil_append, mSetI_u, mSetL_u, Nat.add_one_ne_zero, Nat.add_eq_zero_iff, and_false, false_and, not_false_eq_true, ne_eq, j0_0, j0_1, j1_0, j1_1, if_true, if_false, ite_true, ite_false, true_and, and_true, or_true, true_or, false_or, or_false, ↓reduceIte, Nat.reduceEqDiff, Nat.reduceAdd, Nat.reduceMul, Nat.reduceSub, Int.reduceLE, Int.reduceLT, Int.reduceNeg, Int.reduceAdd, Int.reduceSub, Int.reduceEq, reduceCtorEq, jI_lt, jI_eq, jI_lt0, jI_0lt, jI_eq0, jI_0le, jn_lo, iU_row, iU_nr, iU_eq, iU_same, jI_ixn, jI_add, jI_sub, jI_nat, t, t0, t5, t6, f5, f6, hw, hm, hc1, hx, show (n : Int) ≤ 2147483647 by omega, show -2147483648 ≤ (n : Int) by omega, show i ≤ 2147483647 by omega, show v ≤ 2147483647 by omega, show (v : Int) ≤ 2147483647 by omega, show -2147483648 ≤ (v : Int) by omega, show (v : Int) < (n : Int) by omega, show 0 ≤ (v : Int) by omega, show ¬ ((v : Int) < 0) by omega, jI_in (z := (i : Int)) (n := 8) (by omega) (by omega) (by omega), jI_in (z := (v : Int)) (n := 8) (by omega) (by omega) (by omega)]
      exact hP _ (.inl ⟨rfl, by omega, hx⟩)
    · simp only [g77_in, g77_0, g77_1, g77_2, g77_5, g77_6, g77_7, g77_10, g77_13, g77_14, g77_17, g77_18, g77_21, g77_22, g77_23, g77_24, g77_25, g77_28, g77_29, g77_32, g77_33, g67_in, g67_0, g67_1, g67_4, g67_5, g67_6, g67_9, g67_12, g67_13, g67_16, g67_17, nl_none, nl_int, nl_ref, Option.toList_some, Option.toList_none, List.cons_append, List.nil_append, mSetI_u, mSetL_u, Nat.add_one_ne_zero, Nat.add_eq_zero_iff, and_false, false_and, not_false_eq_true, ne_eq, j0_0, j0_1, j1_0, j1_1, if_true, if_false, ite_true, ite_false, true_and, and_true, or_true, true_or, false_or, or_false, ↓reduceIte, Nat.reduceEqDiff, Nat.reduceAdd, Nat.reduceMul, Nat.reduceSub, Int.reduceLE, Int.reduceLT, Int.reduceNeg, Int.reduceAdd, Int.reduceSub, Int.reduceEq, reduceCtorEq, jI_lt, jI_eq, jI_lt0, jI_0lt, jI_eq0, jI_0le, jn_lo, iU_row, iU_nr, iU_eq, iU_same, jI_ixn, jI_add, jI_sub, jI_nat, t, t0, t5, t6, f5, f6, hw, hm, hc1, hx, show (n : Int) ≤ 2147483647 by omega, show -2147483648 ≤ (n : Int) by omega, show i ≤ 2147483647 by omega, show v ≤ 2147483647 by omega, show (v : Int) ≤ 2147483647 by omega, show -2147483648 ≤ (v : Int) by omega, show (v : Int) < (n : Int) by omega, show 0 ≤ (v : Int) by omega, show (m : Int) ≤ 2147483647 by omega, show -2147483648 ≤ (m : Int) by omega, show ¬ ((v : Int) < 0) by omega, show ¬ ((m : Int) = 1) by omega, jI_in (z := (i : Int)) (n := 8) (by omega) (by omega) (by omega), jI_in (z := (v : Int)) (n := 8) (by omega) (by omega) (by omega)]
      exact hP _ (.inr ⟨rfl, by omega⟩)
/-! who lacks, as bits: the same expression on both sides; g is who doesn't count -/
def pLack (T : Nat → Nat → Int) (g : Int) : Nat → Int32
  | 0 => jI 0
  | m + 1 => if T 3 m = 0 ∧ ¬ (m : Int) = g then pLack T g m ||| (jI 1 <<< (jI m &&& 31)) else pLack T g m
theorem c74_a {d o n : Nat} {lay : List mShp} {I : Nat → Nat → Int32} {E : Nat → Nat → Int64} {F : Nat → Nat → Nat} {P : mPost} {T : Nat → Nat → Int} (hT : vTw lay F o) (hn : n ≤ 8) (hm : I o 0 = jI n) (hs : ∀ i, i < n → I (o + 4) i = jI (T 3 i) ∧ 0 ≤ T 3 i ∧ T 3 i ≤ 99) (hP : P (some (.int (pLack T (-1) n))) lay (I, E, F)) : ∀ k i (z : Int) x, i + k = n → z = i → x = pLack T (-1) i → mG (d + 2) 74 4 [some (.ref o), some (.int x), some (.int (jI z))] [] lay (I, E, F) P
  | 0, i, z, x, hi, hz, hx => by
    obtain ⟨t, t0, t1, t2, t3, t4, t5, t6, t7, f1, f2, f3, f4, f5, f6, f7⟩ := hT
    subst hz hx
    have e : i = n := by omega
    subst e
    rw [g74_4]
    simp only [g74_5, g74_6, g74_9, g74_12, g74_13, g74_16, g74_17, g74_18, g74_21, g74_22, g74_23, g74_24, g74_25, g74_26, g74_27, g74_30, g74_33, g74_34, nl_none, nl_int, nl_ref, Option.toList_some, Option.toList_none, List.cons_append, List.nil_append, mSetI_u, mSetL_u, Nat.add_one_ne_zero, Nat.add_eq_zero_iff, and_false, false_and, not_false_eq_true, ne_eq, j0_0, j0_1, j1_0, j1_1, if_true, if_false, ite_true, ite_false, true_and, and_true, or_true, true_or, false_or, or_false, ↓reduceIte, Nat.reduceEqDiff, Nat.reduceAdd, Nat.reduceMul, Nat.reduceSub, Int.reduceLE, Int.reduceLT, Int.reduceNeg, Int.reduceAdd, Int.reduceSub, Int.reduceEq, reduceCtorEq, jI_lt, jI_eq, jI_lt0, jI_0lt, jI_eq0, jI_0le, jn_lo, iU_row, iU_nr, iU_eq, iU_same, jI_ixn, jI_add, jI_sub, jI_nat, t, t0, hm, show (i : Int) ≤ 2147483647 by omega, show -2147483648 ≤ (i : Int) by omega, show ¬ ((i : Int) < (i : Int)) by omega]
    exact hP
  | k + 1, i, z, x, hi, hz, hx => by
    have ih := c74_a (d := d) (E := E) (P := P) hT hn hm hs hP k (i + 1)
    obtain ⟨t, t0, t1, t2, t3, t4, t5, t6, t7, f1, f2, f3, f4, f5, f6, f7⟩ := hT
    subst hz hx
    obtain ⟨hs0, hs1, hs2⟩ := hs i (by omega)
    rw [g74_4]
    rcases (by omega : T 3 i = 0 ∨ ¬ T 3 i = 0) with hx | hx
    · simp only [g74_5, g74_6, g74_9, g74_12, g74_13, g74_16, g74_17, g74_18, g74_21, g74_22, g74_23, g74_24, g74_25, g74_26, g74_27, g74_30, g74_33, g74_34, nl_none, nl_int, nl_ref, Option.toList_some, Option.toList_none, List.cons_append, List.nil_append, mSetI_u, mSetL_u, Nat.add_one_ne_zero, Nat.add_eq_zero_iff, and_false, false_and, not_false_eq_true, ne_eq, j0_0, j0_1, j1_0, j1_1, if_true, if_false, ite_true, ite_false, true_and, and_true, or_true, true_or, false_or, or_false, ↓reduceIte, Nat.reduceEqDiff, Nat.reduceAdd, Nat.reduceMul, Nat.reduceSub, Int.reduceLE, Int.reduceLT, Int.reduceNeg, Int.reduceAdd, Int.reduceSub, Int.reduceEq, reduceCtorEq, jI_lt, jI_eq, jI_lt0, jI_0lt, jI_eq0, jI_0le, jn_lo, iU_row, iU_nr, iU_eq, iU_same, jI_ixn, jI_add, jI_sub, jI_nat, t, t0, t4, f4, hs0, hx, hm, show (i : Int) ≤ 2147483647 by omega, show (n : Int) ≤ 2147483647 by omega, show -2147483648 ≤ (n : Int) by omega, show -2147483648 ≤ (i : Int) by omega, show (i : Int) < (n : Int) by omega, show i ≤ 2147483647 by omega, jI_in (z := (i : Int)) (n := 8) (by omega) (by omega) (by omega)]
      refine ih _ _ (by omega) (by omega) ?_
      simp only [pLack, hx, true_and, show ¬ (i : Int) = -1 by omega, not_false_eq_true, if_true]
      done
    · simp only [g74_5, g74_6, g74_9, g74_12, g74_13, g74_16, g74_17, g74_18, g74_21, g74_22, g74_23, g74_24, g74_25, g74_26, g74_27, g74_30, g74_33, g74_34, nl_none, nl_int, nl_ref, Option.toList_some, Option.toList_none, List.cons_append, List.nil_append, mSetI_u, mSetL_u, Nat.add_one_ne_zero, Nat.add_eq_zero_iff, and_false, false_and, not_false_eq_true, ne_eq, j0_0, j0_1, j1_0, j1_1, if_true, if_false, ite_true, ite_false, true_and, and_true, or_true, true_or, false_or, or_false, ↓reduceIte, Nat.reduceEqDiff, Nat.reduceAdd, Nat.reduceMul, Nat.reduceSub, Int.reduceLE, Int.reduceLT, Int.reduceNeg, Int.reduceAdd, Int.reduceSub, Int.reduceEq, reduceCtorEq, jI_lt, jI_eq, jI_lt0, jI_0lt, jI_eq0, jI_0le, jn_lo, iU_row, iU_nr, iU_eq, iU_same, jI_ixn, jI_add, jI_sub, jI_nat, t, t0, t4, f4, hs0, hx, hm, show (i : Int) ≤ 2147483647 by omega, show (n : Int) ≤ 2147483647 by omega, show -2147483648 ≤ (n : Int) by omega, show -2147483648 ≤ (i : Int) by omega, show (i : Int) < (n : Int) by omega, show i ≤ 2147483647 by omega, show -2147483648 ≤ T 3 i by omega, show T 3 i ≤ 2147483647 by omega, jI_in (z := (i : Int)) (n := 8) (by omega) (by omega) (by omega)]
      refine ih _ _ (by omega) (by omega) ?_
      simp only [pLack, hx, false_and, if_false]
/-! copies -/
def cU (I : Nat → Nat → Int32) (k0 k1 sp dp n : Nat) : Nat → Nat → Int32 := fun a b => if a = k1 then va_cpy (I k0) (I k1) sp dp n b else I a b
theorem mCpyI_u {I : Nat → Nat → Int32} {E : Nat → Nat → Int64} {F : Nat → Nat → Nat} {k0 k1 sp dp n : Nat} : mCpyI (I, E, F) k0 k1 sp dp n = (cU I k0 k1 sp dp n, E, F) := rfl
theorem cU_row {I : Nat → Nat → Int32} {k0 k1 sp dp n a : Nat} (h : ¬ a = k1) : cU I k0 k1 sp dp n a = I a := by
  funext b
  simp only [cU, if_neg h]
theorem cU_to {I : Nat → Nat → Int32} {k0 k1 sp dp n b : Nat} : cU I k0 k1 sp dp n k1 b = if dp ≤ b ∧ b < dp + n then I k0 (sp + (b - dp)) else I k1 b := by simp [cU, va_cpy]
theorem cU_0 {I : Nat → Nat → Int32} {k0 k1 n b : Nat} (h : b < n) : cU I k0 k1 0 0 n k1 b = I k0 b := by rw [cU_to, if_pos (by omega)]; congr 1; omega
theorem n8_8 : (Int32.ofInt 8).toNatClampNeg = 8 := by decide
theorem n0_0 : (Int32.ofInt 0).toNatClampNeg = 0 := by decide
theorem cp_8 : mCpOk (Int32.ofInt 8) (Int32.ofInt 0) (Int32.ofInt 0) 8 8 = True := by
  have h : mCpOk (Int32.ofInt 8) (Int32.ofInt 0) (Int32.ofInt 0) 8 8 := by unfold mCpOk; decide
  exact eq_true h
/-- m copies, row by row -/
def cC (X : Nat → Nat → Int32) (o q : Nat) : Nat → Nat → Nat → Int32
  | 0 => X
  | m + 1 => cU (cC X o q m) (q + (m + 1)) (o + (m + 1)) 0 0 8
theorem cC_of {X : Nat → Nat → Int32} {o q : Nat} (hoq : o + 8 ≤ q ∨ q + 8 ≤ o) : ∀ m, m ≤ 5 → (∀ r, ¬ (o + 1 ≤ r ∧ r ≤ o + m) → cC X o q m r = X r) ∧ (∀ w, w < m → ∀ j, j < 8 → cC X o q m (o + 1 + w) j = X (q + 1 + w) j)
  | 0, _ => ⟨fun _ _ => rfl, fun w hw => absurd hw (by omega)⟩
  | m + 1, hm => by
    obtain ⟨h1, h2⟩ := cC_of (X := X) hoq m (by omega)
    refine ⟨fun r hr => ?_, fun w hw j hj => ?_⟩
    · have e : ¬ r = o + (m + 1) := by omega
      exact (cU_row e).trans (h1 r (by omega))
    · by_cases e : w = m
      · have e2 : o + 1 + w = o + (m + 1) := by omega
        have e3 : q + 1 + w = q + (m + 1) := by omega
        rw [e2, e3]
        have h3 := h1 (q + (m + 1)) (by omega)
        exact (cU_0 hj).trans (congrFun h3 j)
      · have e2 : ¬ o + 1 + w = o + (m + 1) := by omega
        exact (congrFun (cU_row e2) j).trans (h2 w (by omega) j hj)
/-- become: the five rows and the three numbers are the other's -/
theorem c66 {d o q : Nat} {lay : List mShp} {I : Nat → Nat → Int32} {E : Nat → Nat → Int64} {F : Nat → Nat → Nat} {P : mPost} (hT : vTw lay F o) (hQ : vTw lay F q) (hoq : o + 8 ≤ q ∨ q + 8 ≤ o) (hP : ∀ I', vAg (fun r j => (r = o ∧ (j = 0 ∨ j = 6 ∨ j = 7)) ∨ (o + 1 ≤ r ∧ r ≤ o + 5)) I I' → I' o 0 = I q 0 → I' o 6 = I q 6 → I' o 7 = I q 7 → (∀ w, w < 5 → ∀ j, j < 8 → I' (o + 1 + w) j = I (q + 1 + w) j) → P none lay (I', E, F)) : mF (d + 2) 66 [.ref o, .ref q] lay (I, E, F) P := by
  obtain ⟨t, t0, t1, t2, t3, t4, t5, t6, t7, f1, f2, f3, f4, f5, f6, f7⟩ := hT
  obtain ⟨s, s0, s1, s2, s3, s4, s5, s6, s7, g1, g2, g3, g4, g5, g6, g7⟩ := hQ
  have key : ∀ J, J = cC (iU I o 0 (I q 0)) o q 5 → P none lay (iU (iU J o 6 (J q 6)) o 7 (iU J o 6 (J q 6) q 7), E, F) := by
    intro J hJ
    obtain ⟨h1, h2⟩ := cC_of (X := iU I o 0 (I q 0)) hoq 5 (by omega)
    rw [← hJ] at h1 h2
    have hq1 : J q = I q := (h1 q (by omega)).trans (iU_row (by omega))
    have ho1 : J o = iU I o 0 (I q 0) o := h1 o (by omega)
    refine hP _ (fun r j hr => ?_) ?_ ?_ ?_ (fun w hw j hj => ?_)
    · by_cases e : r = o
      · subst e
        have e0 : ¬ j = 0 := fun h => hr (.inl ⟨rfl, .inl h⟩)
        have e1 : ¬ j = 6 := fun h => hr (.inl ⟨rfl, .inr (.inl h)⟩)
        have e2 : ¬ j = 7 := fun h => hr (.inl ⟨rfl, .inr (.inr h)⟩)
        rw [iU_same e2, iU_same e1, ho1, iU_same e0]
      · rw [iU_row e, iU_row e, h1 r (fun h => hr (.inr h)), iU_row e]
    · rw [iU_same (by decide), iU_same (by decide), ho1, iU_eq]
    · rw [iU_same (by decide), iU_eq, hq1]
    · have e : ¬ q = o := by omega
      rw [iU_eq, iU_row e, hq1]
    · have e : ¬ o + 1 + w = o := by omega
      have e' : ¬ q + 1 + w = o := by omega
      rw [iU_row e, iU_row e, h2 w hw j hj, iU_row e']
  simp only [g66_in, g66_0, g66_1, g66_2, g66_5, g66_8, g66_9, g66_12, g66_13, g66_14, g66_17, g66_18, g66_20, g66_23, g66_24, g66_27, g66_28, g66_29, g66_32, g66_33, g66_35, g66_38, g66_39, g66_42, g66_43, g66_44, g66_47, g66_48, g66_50, g66_53, g66_54, g66_57, g66_58, g66_59, g66_62, g66_63, g66_65, g66_68, g66_69, g66_72, g66_73, g66_74, g66_77, g66_78, g66_80, g66_83, g66_84, g66_85, g66_88, g66_91, g66_92, g66_93, g66_96, g66_99, nl_none, nl_int, nl_ref, Option.toList_some, Option.toList_none, List.cons_append, List.nil_append, mSetI_u, mSetL_u, Nat.add_one_ne_zero, Nat.add_eq_zero_iff, and_false, false_and, not_false_eq_true, ne_eq, j0_0, j0_1, j1_0, j1_1, if_true, if_false, ite_true, ite_false, true_and, and_true, or_true, true_or, false_or, or_false, ↓reduceIte, Nat.reduceEqDiff, Nat.reduceAdd, Nat.reduceMul, Nat.reduceSub, Int.reduceLE, Int.reduceLT, Int.reduceNeg, Int.reduceAdd, Int.reduceSub, Int.reduceEq, reduceCtorEq, jI_lt, jI_eq, jI_lt0, jI_0lt, jI_eq0, jI_0le, jn_lo, iU_row, iU_nr, iU_eq, iU_same, jI_ixn, jI_add, jI_sub, jI_nat, t, t0, t1, t2, t3, t4, t5, f1, f2, f3, f4, f5, s, s0, s1, s2, s3, s4, s5, g1, g2, g3, g4, g5, mCpyI_u, n8_8, n0_0, cp_8]
  exact key _ rfl
