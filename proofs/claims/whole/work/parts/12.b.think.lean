/-! ===== the class's sums, days, and thought ===== -/
section THINK
variable {d o l n : Nat} {lay : List mShp} {e : List mShp} {I : Nat → Nat → Int32} {E : Nat → Nat → Int64} {F : Nat → Nat → Nat} {P : mPost} {T : Nat → Nat → Int} {lw : vLw} {st nx gf rl dr : Nat}
theorem c74 (hT : vTw lay F o) (hok : vTownOk n T) (hc : vTc n T o I) : mF (d + 2) 74 [.ref o] lay (I, E, F) P = P (some (.int (pLack T (-1) n))) lay (I, E, F) := by
  refine mF_det ?_ P
  simp only [g74_in, g74_0, g74_1, g74_2, g74_3, nl_none, nl_int, nl_ref, Option.toList_some, Option.toList_none, List.cons_append, List.nil_append, mSetI_u, mSetL_u, Nat.add_one_ne_zero, Nat.add_eq_zero_iff, and_false, false_and, not_false_eq_true, ne_eq, j0_0, j0_1, j1_0, j1_1, if_true, if_false, ite_true, ite_false, true_and, and_true, or_true, true_or, false_or, or_false, ↓reduceIte, Nat.reduceEqDiff, Nat.reduceAdd, Nat.reduceMul, Nat.reduceSub, Int.reduceLE, Int.reduceLT, Int.reduceNeg, Int.reduceAdd, Int.reduceSub, Int.reduceEq, reduceCtorEq, jI_lt, jI_eq, jI_lt0, jI_0lt, jI_eq0, jI_0le, jn_lo, iU_row, iU_nr, iU_eq, iU_same, jI_ixn, jI_add, jI_sub, jI_nat]
  exact c74_a hT hok.1 hc.2.1 (fun i hi => ⟨(hc.1 i hi).2.2.2.1, (vOk_w hok hi).2.2.2.2.2.2.1, (vOk_w hok hi).2.2.2.2.2.2.2.1⟩) ⟨rfl, rfl, rfl⟩ n 0 0 _ (by omega) rfl rfl
theorem c73_a (hT : vTw lay F o) (hok : vTownOk n T) (hc : vTc n T o I) (hP : P (some (.int (jI (pSum T n)))) lay (I, E, F)) : ∀ k i (z x : Int), i + k = n → z = i → x = pSum T i → mG d 73 4 [some (.ref o), some (.int (jI x)), some (.int (jI z))] [] lay (I, E, F) P
  | 0, i, z, x, hi, hz, hx => by
    obtain ⟨t, t0, t1, t2, t3, t4, t5, t6, t7, f1, f2, f3, f4, f5, f6, f7⟩ := hT
    have hn := hok.1
    subst hz hx
    have e : i = n := by omega
    subst e
    rw [g73_4]
    simp only [g73_5, g73_6, g73_9, g73_12, g73_13, g73_14, g73_17, g73_18, g73_19, g73_20, g73_21, g73_24, g73_27, g73_28, nl_none, nl_int, nl_ref, Option.toList_some, Option.toList_none, List.cons_append, List.nil_append, mSetI_u, mSetL_u, Nat.add_one_ne_zero, Nat.add_eq_zero_iff, and_false, false_and, not_false_eq_true, ne_eq, j0_0, j0_1, j1_0, j1_1, if_true, if_false, ite_true, ite_false, true_and, and_true, or_true, true_or, false_or, or_false, ↓reduceIte, Nat.reduceEqDiff, Nat.reduceAdd, Nat.reduceMul, Nat.reduceSub, Int.reduceLE, Int.reduceLT, Int.reduceNeg, Int.reduceAdd, Int.reduceSub, Int.reduceEq, reduceCtorEq, jI_lt, jI_eq, jI_lt0, jI_0lt, jI_eq0, jI_0le, jn_lo, iU_row, iU_nr, iU_eq, iU_same, jI_ixn, jI_add, jI_sub, jI_nat, t, t0, hc.2.1, show ((i : Nat) : Int) ≤ 2147483647 by omega, show (i : Nat) ≤ 2147483647 by omega, show ¬ ((i : Int) < (i : Int)) by omega]
    exact hP
  | k + 1, i, z, x, hi, hz, hx => by
    have ih := c73_a hT hok hc hP k (i + 1)
    obtain ⟨t, t0, t1, t2, t3, t4, t5, t6, t7, f1, f2, f3, f4, f5, f6, f7⟩ := hT
    have hn := hok.1
    have hin : i < n := by omega
    subst hz hx
    have hs0 := (hc.1 i hin).2.2.2.1
    rw [g73_4]
    simp only [g73_5, g73_6, g73_9, g73_12, g73_13, g73_14, g73_17, g73_18, g73_19, g73_20, g73_21, g73_24, g73_27, g73_28, nl_none, nl_int, nl_ref, Option.toList_some, Option.toList_none, List.cons_append, List.nil_append, mSetI_u, mSetL_u, Nat.add_one_ne_zero, Nat.add_eq_zero_iff, and_false, false_and, not_false_eq_true, ne_eq, j0_0, j0_1, j1_0, j1_1, if_true, if_false, ite_true, ite_false, true_and, and_true, or_true, true_or, false_or, or_false, ↓reduceIte, Nat.reduceEqDiff, Nat.reduceAdd, Nat.reduceMul, Nat.reduceSub, Int.reduceLE, Int.reduceLT, Int.reduceNeg, Int.reduceAdd, Int.reduceSub, Int.reduceEq, reduceCtorEq, jI_lt, jI_eq, jI_lt0, jI_0lt, jI_eq0, jI_0le, jn_lo, iU_row, iU_nr, iU_eq, iU_same, jI_ixn, jI_add, jI_sub, jI_nat, t, t0, t4, f4, hs0, hc.2.1, show ((i : Nat) : Int) ≤ 2147483647 by omega, show (i : Nat) ≤ 2147483647 by omega, show ((n : Nat) : Int) ≤ 2147483647 by omega, show (n : Nat) ≤ 2147483647 by omega, show (i : Int) < (n : Int) by omega, jI_in (z := ((i : Int) : Int)) (n := 8) (by omega) (by omega) (by omega)]
    exact ih _ _ (by omega) (by omega) rfl
theorem c73 (hT : vTw lay F o) (hok : vTownOk n T) (hc : vTc n T o I) : mF d 73 [.ref o] lay (I, E, F) P = P (some (.int (jI (pSum T n)))) lay (I, E, F) := by
  refine mF_det ?_ P
  simp only [g73_in, g73_0, g73_1, g73_2, g73_3, nl_none, nl_int, nl_ref, Option.toList_some, Option.toList_none, List.cons_append, List.nil_append, mSetI_u, mSetL_u, Nat.add_one_ne_zero, Nat.add_eq_zero_iff, and_false, false_and, not_false_eq_true, ne_eq, j0_0, j0_1, j1_0, j1_1, if_true, if_false, ite_true, ite_false, true_and, and_true, or_true, true_or, false_or, or_false, ↓reduceIte, Nat.reduceEqDiff, Nat.reduceAdd, Nat.reduceMul, Nat.reduceSub, Int.reduceLE, Int.reduceLT, Int.reduceNeg, Int.reduceAdd, Int.reduceSub, Int.reduceEq, reduceCtorEq, jI_lt, jI_eq, jI_lt0, jI_0lt, jI_eq0, jI_0le, jn_lo, iU_row, iU_nr, iU_eq, iU_same, jI_ixn, jI_add, jI_sub, jI_nat]
  exact c73_a hT hok hc ⟨rfl, rfl, rfl⟩ n 0 0 0 (by omega) rfl rfl
theorem c72 (hT : vTw lay F o) (hok : vTownOk n T) {i : Nat} (hi : i < n) (hc : vTc n T o I) : mF (d + 1) 72 [.ref o, .int (jI i)] lay (I, E, F) P = P (some (.int (jI (T 3 i)))) lay (I, E, F) := by
  obtain ⟨t, t0, t1, t2, t3, t4, t5, t6, t7, f1, f2, f3, f4, f5, f6, f7⟩ := hT
  have hn := hok.1
  have hs0 := (hc.1 i hi).2.2.2.1
  simp only [g72_in, g72_0, g72_1, g72_2, g72_5, g72_8, g72_9, g72_12, g72_13, g72_14, g72_17, g72_18, g67_in, g67_0, g67_1, g67_4, g67_5, g67_6, g67_9, g67_12, g67_13, g67_16, g67_17, nl_none, nl_int, nl_ref, Option.toList_some, Option.toList_none, List.cons_append, List.nil_append, mSetI_u, mSetL_u, Nat.add_one_ne_zero, Nat.add_eq_zero_iff, and_false, false_and, not_false_eq_true, ne_eq, j0_0, j0_1, j1_0, j1_1, if_true, if_false, ite_true, ite_false, true_and, and_true, or_true, true_or, false_or, or_false, ↓reduceIte, Nat.reduceEqDiff, Nat.reduceAdd, Nat.reduceMul, Nat.reduceSub, Int.reduceLE, Int.reduceLT, Int.reduceNeg, Int.reduceAdd, Int.reduceSub, Int.reduceEq, reduceCtorEq, jI_lt, jI_eq, jI_lt0, jI_0lt, jI_eq0, jI_0le, jn_lo, iU_row, iU_nr, iU_eq, iU_same, jI_ixn, jI_add, jI_sub, jI_nat, t, t0, t4, f4, hs0, hc.2.1, show ((i : Nat) : Int) ≤ 2147483647 by omega, show (i : Nat) ≤ 2147483647 by omega, show ((n : Nat) : Int) ≤ 2147483647 by omega, show (n : Nat) ≤ 2147483647 by omega, show (i : Int) < (n : Int) by omega, show ¬ ((i : Int) < 0) by omega, jI_in (z := ((i : Int) : Int)) (n := 8) (by omega) (by omega) (by omega)]
/-- what a day writes in the class -/
def vScC (o l r j : Nat) : Prop := r = o + 4 ∨ r = o + 6 ∨ r = o + 7 ∨ (r = o ∧ (j = 7 ∨ j = 10)) ∨ r = l + 3 ∨ r = l + 4
theorem c81_a (hT : vTw lay F o) (hL : vLo lay F l) (hok : vTownOk n T) (hlw : vLawC lw (I (l + 1)) (I (l + 2)) (I l 2)) (hdis : o + 8 ≤ l ∨ l + 5 ≤ o) {m : Nat} (hm : m ≤ 100) (hP : ∀ I', vAg (vScC o l) I I' → vTc n (pDays lw n T m) o I' → P none lay (I', E, F)) : ∀ k i (z : Int) I', i + k = m → z = i → vAg (vScC o l) I I' → vTc n (pDays lw n T i) o I' → mG (d + 7) 81 2 [some (.ref o), some (.ref l), some (.int (jI m)), some (.int (jI z))] [] lay (I', E, F) P
  | 0, i, z, I', hi, hz, ha, hc => by
    subst hz
    have e : i = m := by omega
    subst e
    rw [g81_2]
    simp only [g81_3, g81_4, g81_7, g81_8, g81_9, g81_12, g81_15, g81_18, nl_none, nl_int, nl_ref, Option.toList_some, Option.toList_none, List.cons_append, List.nil_append, mSetI_u, mSetL_u, Nat.add_one_ne_zero, Nat.add_eq_zero_iff, and_false, false_and, not_false_eq_true, ne_eq, j0_0, j0_1, j1_0, j1_1, if_true, if_false, ite_true, ite_false, true_and, and_true, or_true, true_or, false_or, or_false, ↓reduceIte, Nat.reduceEqDiff, Nat.reduceAdd, Nat.reduceMul, Nat.reduceSub, Int.reduceLE, Int.reduceLT, Int.reduceNeg, Int.reduceAdd, Int.reduceSub, Int.reduceEq, reduceCtorEq, jI_lt, jI_eq, jI_lt0, jI_0lt, jI_eq0, jI_0le, jn_lo, iU_row, iU_nr, iU_eq, iU_same, jI_ixn, jI_add, jI_sub, jI_nat, show ((i : Nat) : Int) ≤ 2147483647 by omega, show (i : Nat) ≤ 2147483647 by omega, show ¬ ((i : Int) < (i : Int)) by omega]
    exact hP I' ha hc
  | k + 1, i, z, I', hi, hz, ha, hc => by
    have ih := c81_a hT hL hok hlw hdis hm hP k (i + 1)
    have hT1 := hT.1
    have hL1 := hL.1
    subst hz
    rw [g81_2]
    simp only [g81_3, g81_4, g81_7, g81_8, g81_9, g81_12, g81_15, g81_18, nl_none, nl_int, nl_ref, Option.toList_some, Option.toList_none, List.cons_append, List.nil_append, mSetI_u, mSetL_u, Nat.add_one_ne_zero, Nat.add_eq_zero_iff, and_false, false_and, not_false_eq_true, ne_eq, j0_0, j0_1, j1_0, j1_1, if_true, if_false, ite_true, ite_false, true_and, and_true, or_true, true_or, false_or, or_false, ↓reduceIte, Nat.reduceEqDiff, Nat.reduceAdd, Nat.reduceMul, Nat.reduceSub, Int.reduceLE, Int.reduceLT, Int.reduceNeg, Int.reduceAdd, Int.reduceSub, Int.reduceEq, reduceCtorEq, jI_lt, jI_eq, jI_lt0, jI_0lt, jI_eq0, jI_0le, jn_lo, iU_row, iU_nr, iU_eq, iU_same, jI_ixn, jI_add, jI_sub, jI_nat, hT1, hL1, hT.2.1, show ((i : Nat) : Int) ≤ 2147483647 by omega, show (i : Nat) ≤ 2147483647 by omega, show ((m : Nat) : Int) ≤ 2147483647 by omega, show (m : Nat) ≤ 2147483647 by omega, show (i : Int) < (m : Int) by omega]
    refine c80 hT hL (pDays_ok hok i) hc (vLw_ag ha (fun r j q => by unfold vScC at q; omega) hlw) hdis (fun I2 h2 hc2 _ => ?_)
    simp only [g81_12, g81_15, nl_none, nl_int, nl_ref, Option.toList_some, Option.toList_none, List.cons_append, List.nil_append, mSetI_u, mSetL_u, Nat.add_one_ne_zero, Nat.add_eq_zero_iff, and_false, false_and, not_false_eq_true, ne_eq, j0_0, j0_1, j1_0, j1_1, if_true, if_false, ite_true, ite_false, true_and, and_true, or_true, true_or, false_or, or_false, ↓reduceIte, Nat.reduceEqDiff, Nat.reduceAdd, Nat.reduceMul, Nat.reduceSub, Int.reduceLE, Int.reduceLT, Int.reduceNeg, Int.reduceAdd, Int.reduceSub, Int.reduceEq, reduceCtorEq, jI_lt, jI_eq, jI_lt0, jI_0lt, jI_eq0, jI_0le, jn_lo, iU_row, iU_nr, iU_eq, iU_same, jI_ixn, jI_add, jI_sub, jI_nat]
    exact ih _ _ (by omega) (by omega) (vAg_tr ha h2) hc2
theorem c81 (hT : vTw lay F o) (hL : vLo lay F l) (hok : vTownOk n T) (hc : vTc n T o I) (hlw : vLawC lw (I (l + 1)) (I (l + 2)) (I l 2)) (hdis : o + 8 ≤ l ∨ l + 5 ≤ o) {m : Nat} (hm : m ≤ 100) (hP : ∀ I', vAg (vScC o l) I I' → vTc n (pDays lw n T m) o I' → P none lay (I', E, F)) : mF (d + 7) 81 [.ref o, .ref l, .int (jI m)] lay (I, E, F) P := by
  simp only [g81_in, g81_0, g81_1, nl_none, nl_int, nl_ref, Option.toList_some, Option.toList_none, List.cons_append, List.nil_append, mSetI_u, mSetL_u, Nat.add_one_ne_zero, Nat.add_eq_zero_iff, and_false, false_and, not_false_eq_true, ne_eq, j0_0, j0_1, j1_0, j1_1, if_true, if_false, ite_true, ite_false, true_and, and_true, or_true, true_or, false_or, or_false, ↓reduceIte, Nat.reduceEqDiff, Nat.reduceAdd, Nat.reduceMul, Nat.reduceSub, Int.reduceLE, Int.reduceLT, Int.reduceNeg, Int.reduceAdd, Int.reduceSub, Int.reduceEq, reduceCtorEq, jI_lt, jI_eq, jI_lt0, jI_0lt, jI_eq0, jI_0le, jn_lo, iU_row, iU_nr, iU_eq, iU_same, jI_ixn, jI_add, jI_sub, jI_nat]
  exact c81_a hT hL hok hlw hdis hm hP m 0 0 I (by omega) rfl vAg_rfl hc
theorem vTw_4 (h : mFx F st nx gf rl dr) : vTw (mLay e) F 4 := ⟨by omega, sh_4, sh_5, sh_6, sh_7, sh_8, sh_9, sh_10, sh_11, f_4_1 h, f_4_2 h, f_4_3 h, f_4_4 h, f_4_5 h, f_4_8 h, f_4_9 h⟩
theorem vTw_12 (h : mFx F st nx gf rl dr) : vTw (mLay e) F 12 := ⟨by omega, sh_12, sh_13, sh_14, sh_15, sh_16, sh_17, sh_18, sh_19, f_12_1 h, f_12_2 h, f_12_3 h, f_12_4 h, f_12_5 h, f_12_8 h, f_12_9 h⟩
theorem vTw_32 (h : mFx F st nx gf rl dr) : vTw (mLay e) F 32 := ⟨by omega, sh_32, sh_33, sh_34, sh_35, sh_36, sh_37, sh_38, sh_39, f_32_1 h, f_32_2 h, f_32_3 h, f_32_4 h, f_32_5 h, f_32_8 h, f_32_9 h⟩
theorem vTw_40 (h : mFx F st nx gf rl dr) : vTw (mLay e) F 40 := ⟨by omega, sh_40, sh_41, sh_42, sh_43, sh_44, sh_45, sh_46, sh_47, f_40_1 h, f_40_2 h, f_40_3 h, f_40_4 h, f_40_5 h, f_40_8 h, f_40_9 h⟩
theorem vTw_61 (h : mFx F st nx gf rl dr) : vTw (mLay e) F 61 := ⟨by omega, sh_61, sh_62, sh_63, sh_64, sh_65, sh_66, sh_67, sh_68, f_61_1 h, f_61_2 h, f_61_3 h, f_61_4 h, f_61_5 h, f_61_8 h, f_61_9 h⟩
theorem vLo_70 (h : mFx F st nx gf rl dr) : vLo (mLay e) F 70 := ⟨by omega, sh_70, sh_71, sh_72, sh_73, sh_74, f_70_0 h, f_70_1 h, f_70_3 h, f_70_4 h⟩
theorem vLo_75 (h : mFx F st nx gf rl dr) : vLo (mLay e) F 75 := ⟨by omega, sh_75, sh_76, sh_77, sh_78, sh_79, f_75_0 h, f_75_1 h, f_75_3 h, f_75_4 h⟩
theorem vLo_rl {l : Nat} (h : mFx F st nx gf rl dr) (hl : l = 70 ∨ l = 75) : vLo (mLay e) F l := by
  rcases hl with rfl | rfl
  · exact vLo_70 h
  · exact vLo_75 h
theorem vTc_cp {q : Nat} {I' : Nat → Nat → Int32} (hn : n ≤ 8) (hc : vTc n T q I) (h0 : I' o 0 = I q 0) (h6 : I' o 6 = I q 6) (h7 : I' o 7 = I q 7) (hw : ∀ w, w < 5 → ∀ j, j < 8 → I' (o + 1 + w) j = I (q + 1 + w) j) : vTc n T o I' := by
  refine ⟨fun i hi => ?_, h0.trans hc.2.1, h6.trans hc.2.2.1, h7.trans hc.2.2.2⟩
  obtain ⟨q0, q1, q2, q3, q4⟩ := hc.1 i hi
  exact ⟨(hw 0 (by omega) i (by omega)).trans q0, (hw 1 (by omega) i (by omega)).trans q1, (hw 2 (by omega) i (by omega)).trans q2, (hw 3 (by omega) i (by omega)).trans q3, (hw 4 (by omega) i (by omega)).trans q4⟩
/-- thought becomes the town -/
theorem c66_12 (hF : mFx F st nx gf rl dr) (hn : n ≤ 8) (hc : vTc n T 4 I) (hP : ∀ I', vAg (fun r _ => 12 ≤ r ∧ r ≤ 17) I I' → vTc n T 12 I' → P none (mLay e) (I', E, F)) : mF (d + 2) 66 [.ref 12, .ref 4] (mLay e) (I, E, F) P := by
  refine c66 (vTw_12 hF) (vTw_4 hF) (by omega) (fun I' h h0 h6 h7 hw => hP I' (vAg_mono h (fun r j q => by omega)) (vTc_cp hn hc h0 h6 h7 hw))
theorem c137 (hF : mFx F st nx gf rl dr) (hrl : rl = 70 ∨ rl = 75) (hok : vTownOk n T) (hc : vTc n T 4 I) (hlw : vLawC lw (I (rl + 1)) (I (rl + 2)) (I rl 2)) {m : Nat} (hm : m ≤ 100) (hP : ∀ I', vAg (fun r _ => (12 ≤ r ∧ r ≤ 19) ∨ r = rl + 3 ∨ r = rl + 4) I I' → vTc n (pDays lw n T m) 12 I' → P none (mLay e) (I', E, F)) : mF (d + 8) 137 [.ref 3, .int (jI m)] (mLay e) (I, E, F) P := by
  have hrl0 : ¬ rl = 0 := by omega
  simp only [g137_in, g137_0, g137_1, g137_4, g137_5, g137_8, nl_none, nl_int, nl_ref, Option.toList_some, Option.toList_none, List.cons_append, List.nil_append, mSetI_u, mSetL_u, Nat.add_one_ne_zero, Nat.add_eq_zero_iff, and_false, false_and, not_false_eq_true, ne_eq, j0_0, j0_1, j1_0, j1_1, if_true, if_false, ite_true, ite_false, true_and, and_true, or_true, true_or, false_or, or_false, ↓reduceIte, Nat.reduceEqDiff, Nat.reduceAdd, Nat.reduceMul, Nat.reduceSub, Int.reduceLE, Int.reduceLT, Int.reduceNeg, Int.reduceAdd, Int.reduceSub, Int.reduceEq, reduceCtorEq, jI_lt, jI_eq, jI_lt0, jI_0lt, jI_eq0, jI_0le, jn_lo, iU_row, iU_nr, iU_eq, iU_same, jI_ixn, jI_add, jI_sub, jI_nat, sh_3, sh_12, f_3_0 hF, f_3_1 hF]
  refine c66_12 hF hok.1 hc (fun I1 h1 hc1 => ?_)
  simp only [g137_11, g137_12, g137_15, g137_16, g137_19, g137_20, nl_none, nl_int, nl_ref, Option.toList_some, Option.toList_none, List.cons_append, List.nil_append, mSetI_u, mSetL_u, Nat.add_one_ne_zero, Nat.add_eq_zero_iff, and_false, false_and, not_false_eq_true, ne_eq, j0_0, j0_1, j1_0, j1_1, if_true, if_false, ite_true, ite_false, true_and, and_true, or_true, true_or, false_or, or_false, ↓reduceIte, Nat.reduceEqDiff, Nat.reduceAdd, Nat.reduceMul, Nat.reduceSub, Int.reduceLE, Int.reduceLT, Int.reduceNeg, Int.reduceAdd, Int.reduceSub, Int.reduceEq, reduceCtorEq, jI_lt, jI_eq, jI_lt0, jI_0lt, jI_eq0, jI_0le, jn_lo, iU_row, iU_nr, iU_eq, iU_same, jI_ixn, jI_add, jI_sub, jI_nat, sh_3, sh_12, f_3_1 hF, f_3_13 hF, hrl0]
  refine c81 (vTw_12 hF) (vLo_rl hF hrl) hok hc1 (vLw_ag h1 (fun r j q => by omega) hlw) (by omega) hm (fun I2 h2 hc2 => ?_)
  simp only [g137_23, nl_none, nl_int, nl_ref, Option.toList_some, Option.toList_none, List.cons_append, List.nil_append, mSetI_u, mSetL_u, Nat.add_one_ne_zero, Nat.add_eq_zero_iff, and_false, false_and, not_false_eq_true, ne_eq, j0_0, j0_1, j1_0, j1_1, if_true, if_false, ite_true, ite_false, true_and, and_true, or_true, true_or, false_or, or_false, ↓reduceIte, Nat.reduceEqDiff, Nat.reduceAdd, Nat.reduceMul, Nat.reduceSub, Int.reduceLE, Int.reduceLT, Int.reduceNeg, Int.reduceAdd, Int.reduceSub, Int.reduceEq, reduceCtorEq, jI_lt, jI_eq, jI_lt0, jI_0lt, jI_eq0, jI_0le, jn_lo, iU_row, iU_nr, iU_eq, iU_same, jI_ixn, jI_add, jI_sub, jI_nat]
  exact hP I2 (vAg_tr (vAg_mono h1 (fun r j q => by omega)) (vAg_mono h2 (fun r j q => by unfold vScC at q; omega))) hc2
/-- places that the invariant doesn't speak of -/
def vScr (r j : Nat) : Prop := r = 10 ∨ r = 11 ∨ (r = 4 ∧ j = 10) ∨ (12 ≤ r ∧ r ≤ 19) ∨ (r = 20 ∧ j = 2) ∨ (24 ≤ r ∧ r ≤ 26) ∨ (r = 22 ∧ j = 9) ∨ (28 ≤ r ∧ r ≤ 47) ∨ (r = 53 ∧ j = 4) ∨ r = 73 ∨ r = 74 ∨ r = 78 ∨ r = 79 ∨ r = 82 ∨ r = 88 ∨ r = 89 ∨ (91 ≤ r ∧ r ≤ 93) ∨ r = 97 ∨ (r = 80 ∧ ((14 ≤ j ∧ j ≤ 17) ∨ j = 22 ∨ (25 ≤ j ∧ j ≤ 27) ∨ j = 32))
theorem vInv_ag {c bn : Nat} {I' : Nat → Nat → Int32} (h : vInv c e I E F st nx gf rl dr n bn T lw) (ha : vAg (fun r j => vScr r j ∨ r = 81) I I') (h81 : ∀ j, j < 42 → I' 81 j = I 81 j) : vInv c e I' E F st nx gf rl dr n bn T lw := by
  obtain ⟨h1, h2, h3, h4, h5, h6, h7, h8, h9, h10, h11, h12, h13, h14, h15, h16, h17, h18⟩ := h
  have hrow : ∀ r, (∀ j, ¬ (vScr r j ∨ r = 81)) → I' r = I r := fun r hr => vAg_row ha hr
  have hpl : ∀ r j, ¬ (vScr r j ∨ r = 81) → I' r j = I r j := ha
  have hrl : rl = 70 ∨ rl = 75 := by omega
  have hgf : gf = 27 ∨ gf = 105 := by rcases h4 with ⟨h, -⟩ | ⟨h, -⟩ <;> omega
  unfold vScr at hrow hpl
  refine ⟨h1, h2, h3, h4, h5, ?_, ?_, ?_, ?_, ?_, ?_, ?_, ?_, ?_, ?_, ?_, ?_, ?_⟩
  · rw [hrow 5 (by omega), hrow 6 (by omega), hrow 7 (by omega), hrow 8 (by omega), hrow 9 (by omega), hpl 4 0 (by omega), hpl 4 6 (by omega), hpl 4 7 (by omega)]
    exact h6
  · have hn := h5.1
    refine ⟨fun i hi w hw => ?_, ?_, ?_, ?_⟩
    · rw [h81 _ (by omega)]
      exact h7.1 i hi w hw
    · rw [h81 _ (by omega)]
      exact h7.2.1
    · rw [h81 _ (by omega)]
      exact h7.2.2.1
    · rw [hpl 80 2 (by omega)]
      exact h7.2.2.2
  · rw [hpl 80 20 (by omega)]
    exact h8
  · rw [hrow 60 (by omega), hrow 98 (by omega)]
    exact h9
  · rw [hpl 3 12 (by omega), hpl 80 37 (by omega), hrow 62 (by omega), hrow 63 (by omega), hrow 64 (by omega), hrow 65 (by omega), hrow 66 (by omega), hpl 61 0 (by omega), hpl 61 6 (by omega), hpl 61 7 (by omega), hrow 99 (by omega), hpl 80 36 (by omega), hrow 69 (by omega), hrow 100 (by omega)]
    exact h10
  · rw [hpl 48 4 (by omega), hpl 48 5 (by omega), hpl 80 6 (by omega), hpl 80 7 (by omega), hrow 49 (by omega), hrow 50 (by omega), hrow 51 (by omega), hrow 52 (by omega), hrow 83 (by omega), hrow 84 (by omega), hrow 85 (by omega)]
    exact h11
  · rw [hpl 20 1 (by omega), hpl 80 9 (by omega), hrow 21 (by omega), hrow 86 (by omega)]
    exact h12
  · rw [hpl 53 1 (by omega), hpl 80 41 (by omega), hrow 54 (by omega), hrow 103 (by omega), hpl 53 3 (by omega), hpl 80 43 (by omega), hrow 55 (by omega), hrow 104 (by omega), hrow 101 (by omega), hrow 102 (by omega)]
    exact h13
  · rw [hrow 57 (by omega), hrow 58 (by omega), hrow 94 (by omega), hrow 95 (by omega)]
    exact h14
  · rw [hrow (rl + 1) (by omega), hrow (rl + 2) (by omega), hpl rl 2 (by omega)]
    exact h15
  · rw [hrow 87 (by omega), hrow 90 (by omega), hpl 80 11 (by omega), hpl 80 12 (by omega)]
    exact h16
  · rw [hrow 23 (by omega), hpl 22 1 (by omega), hpl 22 2 (by omega), hpl 22 3 (by omega), hpl 22 8 (by omega), hrow gf (by omega)]
    exact h17
  · rw [hrow 90 (by omega)]
    exact h18
end THINK
