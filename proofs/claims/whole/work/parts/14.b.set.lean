section SET
variable {d o n : Nat} {lay : List mShp} {e : List mShp} {M : mMem} {I : Nat → Nat → Int32} {E : Nat → Nat → Int64} {F : Nat → Nat → Nat} {P : mPost} {T : Nat → Nat → Int} {lw : vLw} {st nx gf rl dr : Nat} {a b v : Int}
theorem vTc_iff : vTc n T o I ↔ (∀ i, i < n → ∀ w, w < 5 → I (o + 1 + w) i = jI (T w i)) ∧ I o 0 = jI n ∧ I o 6 = jI (T 5 0) ∧ I o 7 = jI (T 6 0) := by
  constructor
  · intro h
    refine ⟨fun i hi w hw => ?_, h.2⟩
    obtain ⟨q0, q1, q2, q3, q4⟩ := h.1 i hi
    rcases (by omega : w = 0 ∨ w = 1 ∨ w = 2 ∨ w = 3 ∨ w = 4) with rfl | rfl | rfl | rfl | rfl
    · exact q0
    · exact q1
    · exact q2
    · exact q3
    · exact q4
  · intro h
    exact ⟨fun i hi => ⟨h.1 i hi 0 (by omega), h.1 i hi 1 (by omega), h.1 i hi 2 (by omega), h.1 i hi 3 (by omega), h.1 i hi 4 (by omega)⟩, h.2⟩
theorem vTc_set {w i : Nat} (hw : w < 5) (h : vTc n T o I) : vTc n (pSet T w i v) o (iU I (o + 1 + w) i (jI v)) := by
  rw [vTc_iff] at h ⊢
  refine ⟨fun j hj w' hw' => ?_, ?_, ?_, ?_⟩
  · unfold pSet
    by_cases q : w' = w ∧ j = i
    · rw [if_pos q, q.1, q.2, iU_eq]
    · rw [if_neg q, iU_ne (by omega)]
      exact h.1 j hj w' hw'
  · rw [iU_ne (by omega)]
    exact h.2.1
  · rw [iU_ne (by omega), pSet_w (by omega)]
    exact h.2.2.1
  · rw [iU_ne (by omega), pSet_w (by omega)]
    exact h.2.2.2
theorem vTc_set5 (h : vTc n T o I) : vTc n (pSet T 5 0 v) o (iU I o 6 (jI v)) := by
  rw [vTc_iff] at h ⊢
  refine ⟨fun j hj w' hw' => ?_, ?_, ?_, ?_⟩
  · rw [iU_ne (by omega), pSet_w (by omega)]
    exact h.1 j hj w' hw'
  · rw [iU_ne (by omega)]
    exact h.2.1
  · rw [iU_eq, pSet_same]
  · rw [iU_ne (by omega), pSet_w (by omega)]
    exact h.2.2.2
theorem vTc_set6 (h : vTc n T o I) : vTc n (pSet T 6 0 v) o (iU I o 7 (jI v)) := by
  rw [vTc_iff] at h ⊢
  refine ⟨fun j hj w' hw' => ?_, ?_, ?_, ?_⟩
  · rw [iU_ne (by omega), pSet_w (by omega)]
    exact h.1 j hj w' hw'
  · rw [iU_ne (by omega)]
    exact h.2.1
  · rw [iU_ne (by omega), pSet_w (by omega)]
    exact h.2.2.1
  · rw [iU_eq, pSet_same]
/-- what setNumber writes -/
def vScN (o r j : Nat) : Prop := (o + 1 ≤ r ∧ r ≤ o + 5) ∨ (r = o ∧ (j = 6 ∨ j = 7))
theorem c71 (hT : vTw lay F o) (hok : vTownOk n T) (h : pHas n a b) (h' : pMay n a b v) (hc : vTc n T o I) (hP : ∀ I', vAg (vScN o) I I' → vTc n (pSet T b.toNat a.toNat v) o I' → P none lay (I', E, F)) : mF (d + 2) 71 [.ref o, .int (jI a), .int (jI b), .int (jI v)] lay (I, E, F) P := by
  have hn := hok.1
  have ha : -2147483648 ≤ a ∧ a ≤ 2147483647 := by
    unfold pHas at h
    omega
  have h68 := fun (P : mPost) => c68_t (d := d) (E := E) (P := P) hT hn h hc.2.1
  have h69 := fun (P : mPost) => c69_t (d := d) (E := E) (P := P) hT hn ha.1 ha.2 h' hc.2.1
  obtain ⟨t, t0, t1, t2, t3, t4, t5, t6, t7, f1, f2, f3, f4, f5, f6, f7⟩ := hT
  unfold pHas at h
  rcases h with ⟨rfl | rfl, rfl⟩ | ⟨h0, h1, h2, h3⟩
  · simp only [g71_in, g71_0, g71_1, g71_2, g71_3, g71_6, g71_9, g71_10, g71_11, g71_12, g71_13, g71_16, g71_19, g71_20, g71_21_v0, g71_21_v1, g71_21_v2, g71_21_v3, g71_21_v4, g71_21_v5, g71_21_d, g71_60, g71_61, g71_64, g71_65, g71_66, g71_67, g71_70, g71_71, g71_74, g71_75, g71_76, g71_77, g71_80, g71_81, g71_84, g71_85, g71_86, g71_87, g71_90, g71_91, g71_94, g71_95, g71_96, g71_97, g71_100, g71_101, g71_104, g71_105, g71_106, g71_107, g71_110, g71_111, g71_112, g71_115, g71_118, g71_119, g71_120, g71_123, nl_none, nl_int, nl_ref, Option.toList_some, Option.toList_none, List.cons_append, List.nil_append, mSetI_u, mSetL_u, Nat.add_one_ne_zero, Nat.add_eq_zero_iff, and_false, false_and, not_false_eq_true, ne_eq, j0_0, j0_1, j1_0, j1_1, if_true, if_false, ite_true, ite_false, true_and, and_true, or_true, true_or, false_or, or_false, ↓reduceIte, Nat.reduceEqDiff, Nat.reduceAdd, Nat.reduceMul, Nat.reduceSub, Int.reduceLE, Int.reduceLT, Int.reduceNeg, Int.reduceAdd, Int.reduceSub, Int.reduceEq, reduceCtorEq, jI_lt, jI_eq, jI_lt0, jI_0lt, jI_eq0, jI_0le, jn_lo, iU_row, iU_nr, iU_eq, iU_same, jI_ixn, jI_add, jI_sub, jI_nat, t, t0, h68, h69]
    exact hP _ (vAg_iU vAg_rfl (.inr ⟨rfl, .inl rfl⟩)) (vTc_set5 hc)
  · have hN : mNotIn (jI 6) [0, 1, 2, 3, 4, 5] = true := mN_05 (by omega) (by omega) (by omega)
    simp only [g71_in, g71_0, g71_1, g71_2, g71_3, g71_6, g71_9, g71_10, g71_11, g71_12, g71_13, g71_16, g71_19, g71_20, g71_21_v0, g71_21_v1, g71_21_v2, g71_21_v3, g71_21_v4, g71_21_v5, g71_21_d, g71_60, g71_61, g71_64, g71_65, g71_66, g71_67, g71_70, g71_71, g71_74, g71_75, g71_76, g71_77, g71_80, g71_81, g71_84, g71_85, g71_86, g71_87, g71_90, g71_91, g71_94, g71_95, g71_96, g71_97, g71_100, g71_101, g71_104, g71_105, g71_106, g71_107, g71_110, g71_111, g71_112, g71_115, g71_118, g71_119, g71_120, g71_123, nl_none, nl_int, nl_ref, Option.toList_some, Option.toList_none, List.cons_append, List.nil_append, mSetI_u, mSetL_u, Nat.add_one_ne_zero, Nat.add_eq_zero_iff, and_false, false_and, not_false_eq_true, ne_eq, j0_0, j0_1, j1_0, j1_1, if_true, if_false, ite_true, ite_false, true_and, and_true, or_true, true_or, false_or, or_false, ↓reduceIte, Nat.reduceEqDiff, Nat.reduceAdd, Nat.reduceMul, Nat.reduceSub, Int.reduceLE, Int.reduceLT, Int.reduceNeg, Int.reduceAdd, Int.reduceSub, Int.reduceEq, reduceCtorEq, jI_lt, jI_eq, jI_lt0, jI_0lt, jI_eq0, jI_0le, jn_lo, iU_row, iU_nr, iU_eq, iU_same, jI_ixn, jI_add, jI_sub, jI_nat, t, t0, h68, h69, hN]
    exact hP _ (vAg_iU vAg_rfl (.inr ⟨rfl, .inr rfl⟩)) (vTc_set6 hc)
  · obtain ⟨i, rfl⟩ : ∃ i : Nat, a = i := ⟨a.toNat, by omega⟩
    have hi : i < n := by omega
    rcases (by omega : b = 0 ∨ b = 1 ∨ b = 2 ∨ b = 3 ∨ b = 4) with rfl | rfl | rfl | rfl | rfl
    · simp only [g71_in, g71_0, g71_1, g71_2, g71_3, g71_6, g71_9, g71_10, g71_11, g71_12, g71_13, g71_16, g71_19, g71_20, g71_21_v0, g71_21_v1, g71_21_v2, g71_21_v3, g71_21_v4, g71_21_v5, g71_21_d, g71_60, g71_61, g71_64, g71_65, g71_66, g71_67, g71_70, g71_71, g71_74, g71_75, g71_76, g71_77, g71_80, g71_81, g71_84, g71_85, g71_86, g71_87, g71_90, g71_91, g71_94, g71_95, g71_96, g71_97, g71_100, g71_101, g71_104, g71_105, g71_106, g71_107, g71_110, g71_111, g71_112, g71_115, g71_118, g71_119, g71_120, g71_123, nl_none, nl_int, nl_ref, Option.toList_some, Option.toList_none, List.cons_append, List.nil_append, mSetI_u, mSetL_u, Nat.add_one_ne_zero, Nat.add_eq_zero_iff, and_false, false_and, not_false_eq_true, ne_eq, j0_0, j0_1, j1_0, j1_1, if_true, if_false, ite_true, ite_false, true_and, and_true, or_true, true_or, false_or, or_false, ↓reduceIte, Nat.reduceEqDiff, Nat.reduceAdd, Nat.reduceMul, Nat.reduceSub, Int.reduceLE, Int.reduceLT, Int.reduceNeg, Int.reduceAdd, Int.reduceSub, Int.reduceEq, reduceCtorEq, jI_lt, jI_eq, jI_lt0, jI_0lt, jI_eq0, jI_0le, jn_lo, iU_row, iU_nr, iU_eq, iU_same, jI_ixn, jI_add, jI_sub, jI_nat, t, t0, t1, f1, h68, h69, show ((i : Nat) : Int) ≤ 2147483647 by omega, show (i : Nat) ≤ 2147483647 by omega, jI_in (z := ((i : Int) : Int)) (n := 8) (by omega) (by omega) (by omega)]
      exact hP _ (vAg_iU vAg_rfl (.inl (by omega))) (vTc_set (w := 0) (by omega) hc)
    · simp only [g71_in, g71_0, g71_1, g71_2, g71_3, g71_6, g71_9, g71_10, g71_11, g71_12, g71_13, g71_16, g71_19, g71_20, g71_21_v0, g71_21_v1, g71_21_v2, g71_21_v3, g71_21_v4, g71_21_v5, g71_21_d, g71_60, g71_61, g71_64, g71_65, g71_66, g71_67, g71_70, g71_71, g71_74, g71_75, g71_76, g71_77, g71_80, g71_81, g71_84, g71_85, g71_86, g71_87, g71_90, g71_91, g71_94, g71_95, g71_96, g71_97, g71_100, g71_101, g71_104, g71_105, g71_106, g71_107, g71_110, g71_111, g71_112, g71_115, g71_118, g71_119, g71_120, g71_123, nl_none, nl_int, nl_ref, Option.toList_some, Option.toList_none, List.cons_append, List.nil_append, mSetI_u, mSetL_u, Nat.add_one_ne_zero, Nat.add_eq_zero_iff, and_false, false_and, not_false_eq_true, ne_eq, j0_0, j0_1, j1_0, j1_1, if_true, if_false, ite_true, ite_false, true_and, and_true, or_true, true_or, false_or, or_false, ↓reduceIte, Nat.reduceEqDiff, Nat.reduceAdd, Nat.reduceMul, Nat.reduceSub, Int.reduceLE, Int.reduceLT, Int.reduceNeg, Int.reduceAdd, Int.reduceSub, Int.reduceEq, reduceCtorEq, jI_lt, jI_eq, jI_lt0, jI_0lt, jI_eq0, jI_0le, jn_lo, iU_row, iU_nr, iU_eq, iU_same, jI_ixn, jI_add, jI_sub, jI_nat, t, t0, t2, f2, h68, h69, show ((i : Nat) : Int) ≤ 2147483647 by omega, show (i : Nat) ≤ 2147483647 by omega, jI_in (z := ((i : Int) : Int)) (n := 8) (by omega) (by omega) (by omega)]
      exact hP _ (vAg_iU vAg_rfl (.inl (by omega))) (vTc_set (w := 1) (by omega) hc)
    · simp only [g71_in, g71_0, g71_1, g71_2, g71_3, g71_6, g71_9, g71_10, g71_11, g71_12, g71_13, g71_16, g71_19, g71_20, g71_21_v0, g71_21_v1, g71_21_v2, g71_21_v3, g71_21_v4, g71_21_v5, g71_21_d, g71_60, g71_61, g71_64, g71_65, g71_66, g71_67, g71_70, g71_71, g71_74, g71_75, g71_76, g71_77, g71_80, g71_81, g71_84, g71_85, g71_86, g71_87, g71_90, g71_91, g71_94, g71_95, g71_96, g71_97, g71_100, g71_101, g71_104, g71_105, g71_106, g71_107, g71_110, g71_111, g71_112, g71_115, g71_118, g71_119, g71_120, g71_123, nl_none, nl_int, nl_ref, Option.toList_some, Option.toList_none, List.cons_append, List.nil_append, mSetI_u, mSetL_u, Nat.add_one_ne_zero, Nat.add_eq_zero_iff, and_false, false_and, not_false_eq_true, ne_eq, j0_0, j0_1, j1_0, j1_1, if_true, if_false, ite_true, ite_false, true_and, and_true, or_true, true_or, false_or, or_false, ↓reduceIte, Nat.reduceEqDiff, Nat.reduceAdd, Nat.reduceMul, Nat.reduceSub, Int.reduceLE, Int.reduceLT, Int.reduceNeg, Int.reduceAdd, Int.reduceSub, Int.reduceEq, reduceCtorEq, jI_lt, jI_eq, jI_lt0, jI_0lt, jI_eq0, jI_0le, jn_lo, iU_row, iU_nr, iU_eq, iU_same, jI_ixn, jI_add, jI_sub, jI_nat, t, t0, t3, f3, h68, h69, show ((i : Nat) : Int) ≤ 2147483647 by omega, show (i : Nat) ≤ 2147483647 by omega, jI_in (z := ((i : Int) : Int)) (n := 8) (by omega) (by omega) (by omega)]
      exact hP _ (vAg_iU vAg_rfl (.inl (by omega))) (vTc_set (w := 2) (by omega) hc)
    · simp only [g71_in, g71_0, g71_1, g71_2, g71_3, g71_6, g71_9, g71_10, g71_11, g71_12, g71_13, g71_16, g71_19, g71_20, g71_21_v0, g71_21_v1, g71_21_v2, g71_21_v3, g71_21_v4, g71_21_v5, g71_21_d, g71_60, g71_61, g71_64, g71_65, g71_66, g71_67, g71_70, g71_71, g71_74, g71_75, g71_76, g71_77, g71_80, g71_81, g71_84, g71_85, g71_86, g71_87, g71_90, g71_91, g71_94, g71_95, g71_96, g71_97, g71_100, g71_101, g71_104, g71_105, g71_106, g71_107, g71_110, g71_111, g71_112, g71_115, g71_118, g71_119, g71_120, g71_123, nl_none, nl_int, nl_ref, Option.toList_some, Option.toList_none, List.cons_append, List.nil_append, mSetI_u, mSetL_u, Nat.add_one_ne_zero, Nat.add_eq_zero_iff, and_false, false_and, not_false_eq_true, ne_eq, j0_0, j0_1, j1_0, j1_1, if_true, if_false, ite_true, ite_false, true_and, and_true, or_true, true_or, false_or, or_false, ↓reduceIte, Nat.reduceEqDiff, Nat.reduceAdd, Nat.reduceMul, Nat.reduceSub, Int.reduceLE, Int.reduceLT, Int.reduceNeg, Int.reduceAdd, Int.reduceSub, Int.reduceEq, reduceCtorEq, jI_lt, jI_eq, jI_lt0, jI_0lt, jI_eq0, jI_0le, jn_lo, iU_row, iU_nr, iU_eq, iU_same, jI_ixn, jI_add, jI_sub, jI_nat, t, t0, t4, f4, h68, h69, show ((i : Nat) : Int) ≤ 2147483647 by omega, show (i : Nat) ≤ 2147483647 by omega, jI_in (z := ((i : Int) : Int)) (n := 8) (by omega) (by omega) (by omega)]
      exact hP _ (vAg_iU vAg_rfl (.inl (by omega))) (vTc_set (w := 3) (by omega) hc)
    · simp only [g71_in, g71_0, g71_1, g71_2, g71_3, g71_6, g71_9, g71_10, g71_11, g71_12, g71_13, g71_16, g71_19, g71_20, g71_21_v0, g71_21_v1, g71_21_v2, g71_21_v3, g71_21_v4, g71_21_v5, g71_21_d, g71_60, g71_61, g71_64, g71_65, g71_66, g71_67, g71_70, g71_71, g71_74, g71_75, g71_76, g71_77, g71_80, g71_81, g71_84, g71_85, g71_86, g71_87, g71_90, g71_91, g71_94, g71_95, g71_96, g71_97, g71_100, g71_101, g71_104, g71_105, g71_106, g71_107, g71_110, g71_111, g71_112, g71_115, g71_118, g71_119, g71_120, g71_123, nl_none, nl_int, nl_ref, Option.toList_some, Option.toList_none, List.cons_append, List.nil_append, mSetI_u, mSetL_u, Nat.add_one_ne_zero, Nat.add_eq_zero_iff, and_false, false_and, not_false_eq_true, ne_eq, j0_0, j0_1, j1_0, j1_1, if_true, if_false, ite_true, ite_false, true_and, and_true, or_true, true_or, false_or, or_false, ↓reduceIte, Nat.reduceEqDiff, Nat.reduceAdd, Nat.reduceMul, Nat.reduceSub, Int.reduceLE, Int.reduceLT, Int.reduceNeg, Int.reduceAdd, Int.reduceSub, Int.reduceEq, reduceCtorEq, jI_lt, jI_eq, jI_lt0, jI_0lt, jI_eq0, jI_0le, jn_lo, iU_row, iU_nr, iU_eq, iU_same, jI_ixn, jI_add, jI_sub, jI_nat, t, t0, t5, f5, h68, h69, show ((i : Nat) : Int) ≤ 2147483647 by omega, show (i : Nat) ≤ 2147483647 by omega, jI_in (z := ((i : Int) : Int)) (n := 8) (by omega) (by omega) (by omega)]
      exact hP _ (vAg_iU vAg_rfl (.inl (by omega))) (vTc_set (w := 4) (by omega) hc)
theorem c135 (hF : mFx F st nx gf rl dr) (hok : vTownOk n T) (h : pHas n a b) (h' : pMay n a b v) (hc : vTc n T 4 I) (hP : ∀ I', vAg (fun r j => (4 ≤ r ∧ r ≤ 9) ∨ (r = 22 ∧ j = 3)) I I' → vTc n (pSet T b.toNat a.toNat v) 4 I' → I' 22 3 = jI (-1) → P none (mLay e) (I', E, F)) : mF (d + 3) 135 [.ref 3, .int (jI a), .int (jI b), .int (jI v)] (mLay e) (I, E, F) P := by
  simp only [g135_in, g135_0, g135_1, g135_4, g135_7, g135_8, g135_11, g135_12, g135_13, g135_14, g29_in, g29_0, g29_1, g29_2, g29_5, nl_none, nl_int, nl_ref, Option.toList_some, Option.toList_none, List.cons_append, List.nil_append, mSetI_u, mSetL_u, Nat.add_one_ne_zero, Nat.add_eq_zero_iff, and_false, false_and, not_false_eq_true, ne_eq, j0_0, j0_1, j1_0, j1_1, if_true, if_false, ite_true, ite_false, true_and, and_true, or_true, true_or, false_or, or_false, ↓reduceIte, Nat.reduceEqDiff, Nat.reduceAdd, Nat.reduceMul, Nat.reduceSub, Int.reduceLE, Int.reduceLT, Int.reduceNeg, Int.reduceAdd, Int.reduceSub, Int.reduceEq, reduceCtorEq, jI_lt, jI_eq, jI_lt0, jI_0lt, jI_eq0, jI_0le, jn_lo, iU_row, iU_nr, iU_eq, iU_same, jI_ixn, jI_add, jI_sub, jI_nat, sh_3, sh_22, sh_4, f_3_0 hF, f_3_3 hF]
  have hc1 : vTc n T 4 (iU I 22 3 (jI (-1))) := vTc_ag (vAg_iU (R := fun r j => r = 22) vAg_rfl rfl) (fun r j q => by omega) hc
  refine c71 (vTw_4 hF) hok h h' hc1 (fun I1 h1 hc1 => ?_)
  simp only [g135_17, nl_none, nl_int, nl_ref, Option.toList_some, Option.toList_none, List.cons_append, List.nil_append, mSetI_u, mSetL_u, Nat.add_one_ne_zero, Nat.add_eq_zero_iff, and_false, false_and, not_false_eq_true, ne_eq, j0_0, j0_1, j1_0, j1_1, if_true, if_false, ite_true, ite_false, true_and, and_true, or_true, true_or, false_or, or_false, ↓reduceIte, Nat.reduceEqDiff, Nat.reduceAdd, Nat.reduceMul, Nat.reduceSub, Int.reduceLE, Int.reduceLT, Int.reduceNeg, Int.reduceAdd, Int.reduceSub, Int.reduceEq, reduceCtorEq, jI_lt, jI_eq, jI_lt0, jI_0lt, jI_eq0, jI_0le, jn_lo, iU_row, iU_nr, iU_eq, iU_same, jI_ixn, jI_add, jI_sub, jI_nat]
  refine hP I1 (vAg_tr (vAg_iU vAg_rfl (.inr ⟨rfl, rfl⟩)) (vAg_mono h1 (fun r j q => ?_))) hc1 ?_
  · unfold vScN at q
    omega
  · rw [h1 22 3 (by unfold vScN; omega), iU_eq]
/-- the place in the reference's row -/
theorem r156_t (hF : mFx F st nx gf rl dr) (hn : n ≤ 8) (h : pHas n a b) (hm : I 80 2 = jI n) : mF (d + 2) 156 [.ref 80, .int (jI a), .int (jI b)] (mLay e) (I, E, F) P = P (some (.int (jI (vCode a b)))) (mLay e) (I, E, F) := by
  unfold pHas at h
  rcases h with ⟨rfl | rfl, rfl⟩ | h
  · simp only [g156_in, g156_0, g156_1, g156_2, g156_5, g156_6, g156_8, g156_11, g156_12, g156_15, g156_17, g156_18, g156_19, g156_20, g156_21, g156_24, g156_25, g156_26, g156_27, g156_28, g156_29, g156_32, g156_35, g156_36, g156_37, g156_40, g156_43, g156_44, g156_45, g156_46, g156_47, g156_48, g156_51, g156_52, nl_none, nl_int, nl_ref, Option.toList_some, Option.toList_none, List.cons_append, List.nil_append, mSetI_u, mSetL_u, Nat.add_one_ne_zero, Nat.add_eq_zero_iff, and_false, false_and, not_false_eq_true, ne_eq, j0_0, j0_1, j1_0, j1_1, if_true, if_false, ite_true, ite_false, true_and, and_true, or_true, true_or, false_or, or_false, ↓reduceIte, Nat.reduceEqDiff, Nat.reduceAdd, Nat.reduceMul, Nat.reduceSub, Int.reduceLE, Int.reduceLT, Int.reduceNeg, Int.reduceAdd, Int.reduceSub, Int.reduceEq, reduceCtorEq, jI_lt, jI_eq, jI_lt0, jI_0lt, jI_eq0, jI_0le, jn_lo, iU_row, iU_nr, iU_eq, iU_same, jI_ixn, jI_add, jI_sub, jI_nat]
    rfl
  · simp only [g156_in, g156_0, g156_1, g156_2, g156_5, g156_6, g156_8, g156_11, g156_12, g156_15, g156_17, g156_18, g156_19, g156_20, g156_21, g156_24, g156_25, g156_26, g156_27, g156_28, g156_29, g156_32, g156_35, g156_36, g156_37, g156_40, g156_43, g156_44, g156_45, g156_46, g156_47, g156_48, g156_51, g156_52, nl_none, nl_int, nl_ref, Option.toList_some, Option.toList_none, List.cons_append, List.nil_append, mSetI_u, mSetL_u, Nat.add_one_ne_zero, Nat.add_eq_zero_iff, and_false, false_and, not_false_eq_true, ne_eq, j0_0, j0_1, j1_0, j1_1, if_true, if_false, ite_true, ite_false, true_and, and_true, or_true, true_or, false_or, or_false, ↓reduceIte, Nat.reduceEqDiff, Nat.reduceAdd, Nat.reduceMul, Nat.reduceSub, Int.reduceLE, Int.reduceLT, Int.reduceNeg, Int.reduceAdd, Int.reduceSub, Int.reduceEq, reduceCtorEq, jI_lt, jI_eq, jI_lt0, jI_0lt, jI_eq0, jI_0le, jn_lo, iU_row, iU_nr, iU_eq, iU_same, jI_ixn, jI_add, jI_sub, jI_nat]
    rfl
  · have e : vCode a b = 5 * a + b := if_pos (by omega)
    simp only [g156_in, g156_0, g156_1, g156_2, g156_5, g156_6, g156_8, g156_11, g156_12, g156_15, g156_17, g156_18, g156_19, g156_20, g156_21, g156_24, g156_25, g156_26, g156_27, g156_28, g156_29, g156_32, g156_35, g156_36, g156_37, g156_40, g156_43, g156_44, g156_45, g156_46, g156_47, g156_48, g156_51, g156_52, nl_none, nl_int, nl_ref, Option.toList_some, Option.toList_none, List.cons_append, List.nil_append, mSetI_u, mSetL_u, Nat.add_one_ne_zero, Nat.add_eq_zero_iff, and_false, false_and, not_false_eq_true, ne_eq, j0_0, j0_1, j1_0, j1_1, if_true, if_false, ite_true, ite_false, true_and, and_true, or_true, true_or, false_or, or_false, ↓reduceIte, Nat.reduceEqDiff, Nat.reduceAdd, Nat.reduceMul, Nat.reduceSub, Int.reduceLE, Int.reduceLT, Int.reduceNeg, Int.reduceAdd, Int.reduceSub, Int.reduceEq, reduceCtorEq, jI_lt, jI_eq, jI_lt0, jI_0lt, jI_eq0, jI_0le, jn_lo, iU_row, iU_nr, iU_eq, iU_same, jI_ixn, jI_add, jI_sub, jI_nat, sh_80, show -2147483648 ≤ (b : Int) by omega, show (b : Int) ≤ 2147483647 by omega, show ¬ (b = 5) by omega, show ¬ (b = 6) by omega, r146_t (z := b) (a := 0) (b := 4) h.1 h.2.1 (by omega) (by omega), r151_t hF hn h.2.2.1 h.2.2.2 hm, jI_mul, e]
theorem r156_f (hF : mFx F st nx gf rl dr) (hn : n ≤ 8) (ha0 : -2147483648 ≤ a) (ha1 : a ≤ 2147483647) (hb0 : -2147483648 ≤ b) (hb1 : b ≤ 2147483647) (h : ¬ pHas n a b) (hm : I 80 2 = jI n) : mF (d + 2) 156 [.ref 80, .int (jI a), .int (jI b)] (mLay e) (I, E, F) P = P (some (.int (jI (-1)))) (mLay e) (I, E, F) := by
  unfold pHas at h
  rcases (by omega : b = 5 ∨ b = 6 ∨ (¬ b = 5 ∧ ¬ b = 6 ∧ ¬ (0 ≤ b ∧ b ≤ 4)) ∨ ((0 ≤ b ∧ b ≤ 4) ∧ ¬ (0 ≤ a ∧ a < n))) with rfl | rfl | q | q
  · simp only [g156_in, g156_0, g156_1, g156_2, g156_5, g156_6, g156_8, g156_11, g156_12, g156_15, g156_17, g156_18, g156_19, g156_20, g156_21, g156_24, g156_25, g156_26, g156_27, g156_28, g156_29, g156_32, g156_35, g156_36, g156_37, g156_40, g156_43, g156_44, g156_45, g156_46, g156_47, g156_48, g156_51, g156_52, nl_none, nl_int, nl_ref, Option.toList_some, Option.toList_none, List.cons_append, List.nil_append, mSetI_u, mSetL_u, Nat.add_one_ne_zero, Nat.add_eq_zero_iff, and_false, false_and, not_false_eq_true, ne_eq, j0_0, j0_1, j1_0, j1_1, if_true, if_false, ite_true, ite_false, true_and, and_true, or_true, true_or, false_or, or_false, ↓reduceIte, Nat.reduceEqDiff, Nat.reduceAdd, Nat.reduceMul, Nat.reduceSub, Int.reduceLE, Int.reduceLT, Int.reduceNeg, Int.reduceAdd, Int.reduceSub, Int.reduceEq, reduceCtorEq, jI_lt, jI_eq, jI_lt0, jI_0lt, jI_eq0, jI_0le, jn_lo, iU_row, iU_nr, iU_eq, iU_same, jI_ixn, jI_add, jI_sub, jI_nat, ha0, ha1, show ¬ (a = 0) by omega]
  · simp only [g156_in, g156_0, g156_1, g156_2, g156_5, g156_6, g156_8, g156_11, g156_12, g156_15, g156_17, g156_18, g156_19, g156_20, g156_21, g156_24, g156_25, g156_26, g156_27, g156_28, g156_29, g156_32, g156_35, g156_36, g156_37, g156_40, g156_43, g156_44, g156_45, g156_46, g156_47, g156_48, g156_51, g156_52, nl_none, nl_int, nl_ref, Option.toList_some, Option.toList_none, List.cons_append, List.nil_append, mSetI_u, mSetL_u, Nat.add_one_ne_zero, Nat.add_eq_zero_iff, and_false, false_and, not_false_eq_true, ne_eq, j0_0, j0_1, j1_0, j1_1, if_true, if_false, ite_true, ite_false, true_and, and_true, or_true, true_or, false_or, or_false, ↓reduceIte, Nat.reduceEqDiff, Nat.reduceAdd, Nat.reduceMul, Nat.reduceSub, Int.reduceLE, Int.reduceLT, Int.reduceNeg, Int.reduceAdd, Int.reduceSub, Int.reduceEq, reduceCtorEq, jI_lt, jI_eq, jI_lt0, jI_0lt, jI_eq0, jI_0le, jn_lo, iU_row, iU_nr, iU_eq, iU_same, jI_ixn, jI_add, jI_sub, jI_nat, ha0, ha1, show ¬ (a = 0) by omega]
  · simp only [g156_in, g156_0, g156_1, g156_2, g156_5, g156_6, g156_8, g156_11, g156_12, g156_15, g156_17, g156_18, g156_19, g156_20, g156_21, g156_24, g156_25, g156_26, g156_27, g156_28, g156_29, g156_32, g156_35, g156_36, g156_37, g156_40, g156_43, g156_44, g156_45, g156_46, g156_47, g156_48, g156_51, g156_52, nl_none, nl_int, nl_ref, Option.toList_some, Option.toList_none, List.cons_append, List.nil_append, mSetI_u, mSetL_u, Nat.add_one_ne_zero, Nat.add_eq_zero_iff, and_false, false_and, not_false_eq_true, ne_eq, j0_0, j0_1, j1_0, j1_1, if_true, if_false, ite_true, ite_false, true_and, and_true, or_true, true_or, false_or, or_false, ↓reduceIte, Nat.reduceEqDiff, Nat.reduceAdd, Nat.reduceMul, Nat.reduceSub, Int.reduceLE, Int.reduceLT, Int.reduceNeg, Int.reduceAdd, Int.reduceSub, Int.reduceEq, reduceCtorEq, jI_lt, jI_eq, jI_lt0, jI_0lt, jI_eq0, jI_0le, jn_lo, iU_row, iU_nr, iU_eq, iU_same, jI_ixn, jI_add, jI_sub, jI_nat, sh_80, hb0, hb1, show ¬ (b = 5) by omega, show ¬ (b = 6) by omega, r146_f (z := b) (a := 0) (b := 4) hb0 hb1 q.2.2 (by omega) (by omega) (by omega) (by omega)]
  · simp only [g156_in, g156_0, g156_1, g156_2, g156_5, g156_6, g156_8, g156_11, g156_12, g156_15, g156_17, g156_18, g156_19, g156_20, g156_21, g156_24, g156_25, g156_26, g156_27, g156_28, g156_29, g156_32, g156_35, g156_36, g156_37, g156_40, g156_43, g156_44, g156_45, g156_46, g156_47, g156_48, g156_51, g156_52, nl_none, nl_int, nl_ref, Option.toList_some, Option.toList_none, List.cons_append, List.nil_append, mSetI_u, mSetL_u, Nat.add_one_ne_zero, Nat.add_eq_zero_iff, and_false, false_and, not_false_eq_true, ne_eq, j0_0, j0_1, j1_0, j1_1, if_true, if_false, ite_true, ite_false, true_and, and_true, or_true, true_or, false_or, or_false, ↓reduceIte, Nat.reduceEqDiff, Nat.reduceAdd, Nat.reduceMul, Nat.reduceSub, Int.reduceLE, Int.reduceLT, Int.reduceNeg, Int.reduceAdd, Int.reduceSub, Int.reduceEq, reduceCtorEq, jI_lt, jI_eq, jI_lt0, jI_0lt, jI_eq0, jI_0le, jn_lo, iU_row, iU_nr, iU_eq, iU_same, jI_ixn, jI_add, jI_sub, jI_nat, sh_80, hb0, hb1, show ¬ (b = 5) by omega, show ¬ (b = 6) by omega, r146_t (z := b) (a := 0) (b := 4) q.1.1 q.1.2 (by omega) (by omega), r151_f hF hn ha0 ha1 q.2 hm]
theorem vCode_in (hn : n ≤ 8) (h : pHas n a b) : 0 ≤ vCode a b ∧ vCode a b ≤ 41 := by
  unfold pHas at h
  unfold vCode
  split <;> omega
theorem vTr_get (hn : n ≤ 8) (h : pHas n a b) (hR : vTownR n T (I 81) (I 80 2)) : I 81 (vCode a b).toNat = jI (T b.toNat a.toNat) := by
  unfold pHas at h
  rcases h with ⟨rfl | rfl, rfl⟩ | h
  · exact hR.2.1
  · exact hR.2.2.1
  · have e : (vCode a b).toNat = 5 * a.toNat + b.toNat := by
      rw [vCode, if_pos (by omega)]
      omega
    rw [e]
    exact hR.1 _ (by omega) _ (by omega)
theorem vTr_set (hn : n ≤ 8) (h : pHas n a b) (hR : vTownR n T (I 81) (I 80 2)) : vTownR n (pSet T b.toNat a.toNat v) (iU I 81 (vCode a b).toNat (jI v) 81) (iU I 81 (vCode a b).toNat (jI v) 80 2) := by
  unfold pHas at h
  rcases h with ⟨rfl | rfl, rfl⟩ | h
  · show vTownR n (pSet T 5 0 v) (iU I 81 40 (jI v) 81) (iU I 81 40 (jI v) 80 2)
    refine ⟨fun i hi w hw => ?_, ?_, ?_, ?_⟩
    · rw [iU_ne (by omega), pSet_w (by omega)]
      exact hR.1 i hi w hw
    · rw [iU_eq, pSet_same]
    · rw [iU_ne (by omega), pSet_w (by omega)]
      exact hR.2.2.1
    · rw [iU_row (by omega)]
      exact hR.2.2.2
  · show vTownR n (pSet T 6 0 v) (iU I 81 41 (jI v) 81) (iU I 81 41 (jI v) 80 2)
    refine ⟨fun i hi w hw => ?_, ?_, ?_, ?_⟩
    · rw [iU_ne (by omega), pSet_w (by omega)]
      exact hR.1 i hi w hw
    · rw [iU_ne (by omega), pSet_w (by omega)]
      exact hR.2.1
    · rw [iU_eq, pSet_same]
    · rw [iU_row (by omega)]
      exact hR.2.2.2
  · have e : (vCode a b).toNat = 5 * a.toNat + b.toNat := by
      rw [vCode, if_pos (by omega)]
      omega
    rw [e]
    refine ⟨fun i hi w hw => ?_, ?_, ?_, ?_⟩
    · rw [iU_r]
      unfold pSet
      by_cases q : w = b.toNat ∧ i = a.toNat
      · rw [if_pos q, if_pos (show 5 * i + w = 5 * a.toNat + b.toNat by omega)]
      · rw [if_neg q, if_neg (show ¬ 5 * i + w = 5 * a.toNat + b.toNat by omega)]
        exact hR.1 i hi w hw
    · rw [iU_ne (by omega), pSet_w (by omega)]
      exact hR.2.1
    · rw [iU_ne (by omega), pSet_w (by omega)]
      exact hR.2.2.1
    · rw [iU_row (by omega)]
      exact hR.2.2.2
theorem vRing_off {c c' n' : Nat} {T' : Nat → Nat → Int} {lw' : vLw} {best best' : Nat → Int32} {few few' most most' held stamp : Int32} {gf : Nat} {gifts : Nat → Int32} (h : vRing c n T lw best few most held stamp gf gifts) (hc : c ≤ c') : vRing c' n' T' lw' best' few' most' (jI (-1)) stamp gf gifts := by
  obtain ⟨⟨sn, a, b, q⟩, h2⟩ := h
  exact ⟨⟨sn, a, by omega, q⟩, .inl rfl⟩
theorem vImg_up {n n' : Nat} {hc hr : Int32} {p1 p2 p3 p4 p5 : Nat → Int32} {pm pw pt : Int32} {kept : Nat → Int32} {km : Int32} {pl kl : Nat → Int32} (h : vImg n hc hr p1 p2 p3 p4 p5 pm pw pt kept km pl kl) (hn : n ≤ n') : vImg n' hc hr p1 p2 p3 p4 p5 pm pw pt kept km pl kl := by
  rcases h with h | ⟨h1, h2, pn, Tp, h3, h4⟩
  · exact .inl h
  · exact .inr ⟨h1, h2, pn, Tp, Nat.le_trans h3 hn, h4⟩
/-- what a change of the town may write -/
def vScT (r j : Nat) : Prop := vScr r j ∨ r = 81 ∨ (4 ≤ r ∧ r ≤ 9) ∨ (r = 22 ∧ j = 3) ∨ r = 60 ∨ r = 98 ∨ (48 ≤ r ∧ r ≤ 52) ∨ (r = 80 ∧ (j = 2 ∨ j = 6 ∨ j = 7)) ∨ (83 ≤ r ∧ r ≤ 85)
theorem vInv_gen {c bn n' : Nat} {T' : Nat → Nat → Int} {I' : Nat → Nat → Int32} (h : vInv c e I E F st nx gf rl dr n bn T lw) (ha : vAg vScT I I') (hn' : n ≤ n') (hok : vTownOk n' T') (hc : vTc n' T' 4 I') (hR : vTownR n' T' (I' 81) (I' 80 2)) (hheld : I' 22 3 = jI (-1)) (hled : vLed (I' 60) (I' 98)) (hchg : vChgs n' (I' 48 4) (I' 48 5) (I' 80 6) (I' 80 7) (I' 49) (I' 50) (I' 51) (I' 52) (I' 83) (I' 84) (I' 85)) : vInv c e I' E F st nx gf rl dr n' bn T' lw := by
  obtain ⟨h1, h2, h3, h4, h5, h6, h7, h8, h9, h10, h11, h12, h13, h14, h15, h16, h17, h18⟩ := h
  have hrow : ∀ r, (∀ j, ¬ vScT r j) → I' r = I r := fun r hr => vAg_row ha hr
  have hpl : ∀ r j, ¬ vScT r j → I' r j = I r j := ha
  have hrl : rl = 70 ∨ rl = 75 := by omega
  have hgf : gf = 27 ∨ gf = 105 := by rcases h4 with ⟨h, -⟩ | ⟨h, -⟩ <;> omega
  unfold vScT vScr at hrow hpl
  refine ⟨h1, h2, h3, h4, hok, hc, hR, ?_, hled, ?_, hchg, ?_, ?_, ?_, ?_, ?_, ?_, ?_⟩
  · rw [hpl 80 20 (by omega)]
    exact h8
  · rw [hpl 3 12 (by omega), hpl 80 37 (by omega), hrow 62 (by omega), hrow 63 (by omega), hrow 64 (by omega), hrow 65 (by omega), hrow 66 (by omega), hpl 61 0 (by omega), hpl 61 6 (by omega), hpl 61 7 (by omega), hrow 99 (by omega), hpl 80 36 (by omega), hrow 69 (by omega), hrow 100 (by omega)]
    exact vImg_up h10 hn'
  · rw [hpl 20 1 (by omega), hpl 80 9 (by omega), hrow 21 (by omega), hrow 86 (by omega)]
    exact h12
  · rw [hpl 53 1 (by omega), hpl 80 41 (by omega), hrow 54 (by omega), hrow 103 (by omega), hpl 53 3 (by omega), hpl 80 43 (by omega), hrow 55 (by omega), hrow 104 (by omega), hrow 101 (by omega), hrow 102 (by omega)]
    exact h13
  · rw [hrow 57 (by omega), hrow 58 (by omega), hrow 94 (by omega), hrow 95 (by omega)]
    exact h14
  · rw [hrow (rl + 1) (by omega), hrow (rl + 2) (by omega), hpl rl 2 (by omega)]
    exact h15
  · rw [hrow 87 (by omega), hrow 90 (by omega), hpl 80 11 (by omega), hpl 80 12 (by omega)]
    exact h16
  · rw [hheld, hpl 22 8 (by omega), hrow gf (by omega)]
    exact vRing_off h17 (Nat.le_refl c)
  · rw [hrow 90 (by omega)]
    exact h18
end SET
