/-! ===== guards; comes, later, lacking ===== -/
section GRD
variable {d o n : Nat} {lay : List mShp} {e : List mShp} {M : mMem} {I : Nat → Nat → Int32} {E : Nat → Nat → Int64} {F : Nat → Nat → Nat} {P : mPost} {T : Nat → Nat → Int} {lw : vLw} {st nx gf rl dr : Nat} {z : Int}
theorem c67_t (hT : vTw lay F o) (hn : n ≤ 8) (h0 : 0 ≤ z) (h1 : z < n) (hm : I o 0 = jI n) : mF d 67 [.ref o, .int (jI z)] lay (I, E, F) P = P (some (.int (jI 1))) lay (I, E, F) := by
  simp only [g67_in, g67_0, g67_1, g67_4, g67_5, g67_6, g67_9, g67_12, g67_13, g67_16, g67_17, nl_none, nl_int, nl_ref, Option.toList_some, Option.toList_none, List.cons_append, List.nil_append, mSetI_u, mSetL_u, Nat.add_one_ne_zero, Nat.add_eq_zero_iff, and_false, false_and, not_false_eq_true, ne_eq, j0_0, j0_1, j1_0, j1_1, if_true, if_false, ite_true, ite_false, true_and, and_true, or_true, true_or, false_or, or_false, ↓reduceIte, Nat.reduceEqDiff, Nat.reduceAdd, Nat.reduceMul, Nat.reduceSub, Int.reduceLE, Int.reduceLT, Int.reduceNeg, Int.reduceAdd, Int.reduceSub, Int.reduceEq, reduceCtorEq, jI_lt, jI_eq, jI_lt0, jI_0lt, jI_eq0, jI_0le, jn_lo, iU_row, iU_nr, iU_eq, iU_same, jI_ixn, jI_add, jI_sub, jI_nat, hT.1, hT.2.1, hm, show ((n : Nat) : Int) ≤ 2147483647 by omega, show (n : Nat) ≤ 2147483647 by omega, show -2147483648 ≤ (z : Int) by omega, show (z : Int) ≤ 2147483647 by omega, show z < (n : Int) by omega, show ¬ (z < 0) by omega]
theorem c67_f (hT : vTw lay F o) (hn : n ≤ 8) (hz0 : -2147483648 ≤ z) (hz1 : z ≤ 2147483647) (h : ¬ (0 ≤ z ∧ z < n)) (hm : I o 0 = jI n) : mF d 67 [.ref o, .int (jI z)] lay (I, E, F) P = P (some (.int (jI 0))) lay (I, E, F) := by
  by_cases q : z < 0
  · simp only [g67_in, g67_0, g67_1, g67_4, g67_5, g67_6, g67_9, g67_12, g67_13, g67_16, g67_17, nl_none, nl_int, nl_ref, Option.toList_some, Option.toList_none, List.cons_append, List.nil_append, mSetI_u, mSetL_u, Nat.add_one_ne_zero, Nat.add_eq_zero_iff, and_false, false_and, not_false_eq_true, ne_eq, j0_0, j0_1, j1_0, j1_1, if_true, if_false, ite_true, ite_false, true_and, and_true, or_true, true_or, false_or, or_false, ↓reduceIte, Nat.reduceEqDiff, Nat.reduceAdd, Nat.reduceMul, Nat.reduceSub, Int.reduceLE, Int.reduceLT, Int.reduceNeg, Int.reduceAdd, Int.reduceSub, Int.reduceEq, reduceCtorEq, jI_lt, jI_eq, jI_lt0, jI_0lt, jI_eq0, jI_0le, jn_lo, iU_row, iU_nr, iU_eq, iU_same, jI_ixn, jI_add, jI_sub, jI_nat, hT.1, hT.2.1, hm, hz0, hz1, show z < 0 by omega]
  · simp only [g67_in, g67_0, g67_1, g67_4, g67_5, g67_6, g67_9, g67_12, g67_13, g67_16, g67_17, nl_none, nl_int, nl_ref, Option.toList_some, Option.toList_none, List.cons_append, List.nil_append, mSetI_u, mSetL_u, Nat.add_one_ne_zero, Nat.add_eq_zero_iff, and_false, false_and, not_false_eq_true, ne_eq, j0_0, j0_1, j1_0, j1_1, if_true, if_false, ite_true, ite_false, true_and, and_true, or_true, true_or, false_or, or_false, ↓reduceIte, Nat.reduceEqDiff, Nat.reduceAdd, Nat.reduceMul, Nat.reduceSub, Int.reduceLE, Int.reduceLT, Int.reduceNeg, Int.reduceAdd, Int.reduceSub, Int.reduceEq, reduceCtorEq, jI_lt, jI_eq, jI_lt0, jI_0lt, jI_eq0, jI_0le, jn_lo, iU_row, iU_nr, iU_eq, iU_same, jI_ixn, jI_add, jI_sub, jI_nat, hT.1, hT.2.1, hm, hz0, hz1, show ((n : Nat) : Int) ≤ 2147483647 by omega, show (n : Nat) ≤ 2147483647 by omega, show ¬ (z < 0) by omega, show ¬ (z < (n : Int)) by omega]
theorem c132_t {a b : Int} (h0 : a ≤ z) (h1 : z ≤ b) (ha : -2147483648 ≤ a) (hb : b ≤ 2147483647) : mF d 132 [.int (jI z), .int (jI a), .int (jI b)] lay M P = P (some (.int (jI 1))) lay M := by
  simp only [g132_in, g132_0, g132_1, g132_2, g132_5, g132_6, g132_7, g132_10, g132_11, g132_14, g132_15, nl_none, nl_int, nl_ref, Option.toList_some, Option.toList_none, List.cons_append, List.nil_append, mSetI_u, mSetL_u, Nat.add_one_ne_zero, Nat.add_eq_zero_iff, and_false, false_and, not_false_eq_true, ne_eq, j0_0, j0_1, j1_0, j1_1, if_true, if_false, ite_true, ite_false, true_and, and_true, or_true, true_or, false_or, or_false, ↓reduceIte, Nat.reduceEqDiff, Nat.reduceAdd, Nat.reduceMul, Nat.reduceSub, Int.reduceLE, Int.reduceLT, Int.reduceNeg, Int.reduceAdd, Int.reduceSub, Int.reduceEq, reduceCtorEq, jI_lt, jI_eq, jI_lt0, jI_0lt, jI_eq0, jI_0le, jn_lo, iU_row, iU_nr, iU_eq, iU_same, jI_ixn, jI_add, jI_sub, jI_nat, show -2147483648 ≤ (z : Int) by omega, show (z : Int) ≤ 2147483647 by omega, show -2147483648 ≤ (a : Int) by omega, show (a : Int) ≤ 2147483647 by omega, show -2147483648 ≤ (b : Int) by omega, show (b : Int) ≤ 2147483647 by omega, show ¬ (z < a) by omega, show ¬ (b < z) by omega]
theorem c132_f {a b : Int} (hz0 : -2147483648 ≤ z) (hz1 : z ≤ 2147483647) (h : ¬ (a ≤ z ∧ z ≤ b)) (ha : -2147483648 ≤ a) (ha' : a ≤ 2147483647) (hb : b ≤ 2147483647) (hb' : -2147483648 ≤ b) : mF d 132 [.int (jI z), .int (jI a), .int (jI b)] lay M P = P (some (.int (jI 0))) lay M := by
  by_cases q : z < a
  · simp only [g132_in, g132_0, g132_1, g132_2, g132_5, g132_6, g132_7, g132_10, g132_11, g132_14, g132_15, nl_none, nl_int, nl_ref, Option.toList_some, Option.toList_none, List.cons_append, List.nil_append, mSetI_u, mSetL_u, Nat.add_one_ne_zero, Nat.add_eq_zero_iff, and_false, false_and, not_false_eq_true, ne_eq, j0_0, j0_1, j1_0, j1_1, if_true, if_false, ite_true, ite_false, true_and, and_true, or_true, true_or, false_or, or_false, ↓reduceIte, Nat.reduceEqDiff, Nat.reduceAdd, Nat.reduceMul, Nat.reduceSub, Int.reduceLE, Int.reduceLT, Int.reduceNeg, Int.reduceAdd, Int.reduceSub, Int.reduceEq, reduceCtorEq, jI_lt, jI_eq, jI_lt0, jI_0lt, jI_eq0, jI_0le, jn_lo, iU_row, iU_nr, iU_eq, iU_same, jI_ixn, jI_add, jI_sub, jI_nat, hz0, hz1, ha, ha', hb, hb', show z < a by omega]
  · simp only [g132_in, g132_0, g132_1, g132_2, g132_5, g132_6, g132_7, g132_10, g132_11, g132_14, g132_15, nl_none, nl_int, nl_ref, Option.toList_some, Option.toList_none, List.cons_append, List.nil_append, mSetI_u, mSetL_u, Nat.add_one_ne_zero, Nat.add_eq_zero_iff, and_false, false_and, not_false_eq_true, ne_eq, j0_0, j0_1, j1_0, j1_1, if_true, if_false, ite_true, ite_false, true_and, and_true, or_true, true_or, false_or, or_false, ↓reduceIte, Nat.reduceEqDiff, Nat.reduceAdd, Nat.reduceMul, Nat.reduceSub, Int.reduceLE, Int.reduceLT, Int.reduceNeg, Int.reduceAdd, Int.reduceSub, Int.reduceEq, reduceCtorEq, jI_lt, jI_eq, jI_lt0, jI_0lt, jI_eq0, jI_0le, jn_lo, iU_row, iU_nr, iU_eq, iU_same, jI_ixn, jI_add, jI_sub, jI_nat, hz0, hz1, ha, ha', hb, hb', show b < z by omega, show ¬ (z < a) by omega]
theorem r146_t {a b : Int} (h0 : a ≤ z) (h1 : z ≤ b) (ha : -2147483648 ≤ a) (hb : b ≤ 2147483647) : mF d 146 [.int (jI z), .int (jI a), .int (jI b)] lay M P = P (some (.int (jI 1))) lay M := by
  simp only [g146_in, g146_0, g146_1, g146_2, g146_5, g146_6, g146_7, g146_10, g146_11, g146_14, g146_15, nl_none, nl_int, nl_ref, Option.toList_some, Option.toList_none, List.cons_append, List.nil_append, mSetI_u, mSetL_u, Nat.add_one_ne_zero, Nat.add_eq_zero_iff, and_false, false_and, not_false_eq_true, ne_eq, j0_0, j0_1, j1_0, j1_1, if_true, if_false, ite_true, ite_false, true_and, and_true, or_true, true_or, false_or, or_false, ↓reduceIte, Nat.reduceEqDiff, Nat.reduceAdd, Nat.reduceMul, Nat.reduceSub, Int.reduceLE, Int.reduceLT, Int.reduceNeg, Int.reduceAdd, Int.reduceSub, Int.reduceEq, reduceCtorEq, jI_lt, jI_eq, jI_lt0, jI_0lt, jI_eq0, jI_0le, jn_lo, iU_row, iU_nr, iU_eq, iU_same, jI_ixn, jI_add, jI_sub, jI_nat, show -2147483648 ≤ (z : Int) by omega, show (z : Int) ≤ 2147483647 by omega, show -2147483648 ≤ (a : Int) by omega, show (a : Int) ≤ 2147483647 by omega, show -2147483648 ≤ (b : Int) by omega, show (b : Int) ≤ 2147483647 by omega, show ¬ (z < a) by omega, show ¬ (b < z) by omega]
theorem r146_f {a b : Int} (hz0 : -2147483648 ≤ z) (hz1 : z ≤ 2147483647) (h : ¬ (a ≤ z ∧ z ≤ b)) (ha : -2147483648 ≤ a) (ha' : a ≤ 2147483647) (hb : b ≤ 2147483647) (hb' : -2147483648 ≤ b) : mF d 146 [.int (jI z), .int (jI a), .int (jI b)] lay M P = P (some (.int (jI 0))) lay M := by
  by_cases q : z < a
  · simp only [g146_in, g146_0, g146_1, g146_2, g146_5, g146_6, g146_7, g146_10, g146_11, g146_14, g146_15, nl_none, nl_int, nl_ref, Option.toList_some, Option.toList_none, List.cons_append, List.nil_append, mSetI_u, mSetL_u, Nat.add_one_ne_zero, Nat.add_eq_zero_iff, and_false, false_and, not_false_eq_true, ne_eq, j0_0, j0_1, j1_0, j1_1, if_true, if_false, ite_true, ite_false, true_and, and_true, or_true, true_or, false_or, or_false, ↓reduceIte, Nat.reduceEqDiff, Nat.reduceAdd, Nat.reduceMul, Nat.reduceSub, Int.reduceLE, Int.reduceLT, Int.reduceNeg, Int.reduceAdd, Int.reduceSub, Int.reduceEq, reduceCtorEq, jI_lt, jI_eq, jI_lt0, jI_0lt, jI_eq0, jI_0le, jn_lo, iU_row, iU_nr, iU_eq, iU_same, jI_ixn, jI_add, jI_sub, jI_nat, hz0, hz1, ha, ha', hb, hb', show z < a by omega]
  · simp only [g146_in, g146_0, g146_1, g146_2, g146_5, g146_6, g146_7, g146_10, g146_11, g146_14, g146_15, nl_none, nl_int, nl_ref, Option.toList_some, Option.toList_none, List.cons_append, List.nil_append, mSetI_u, mSetL_u, Nat.add_one_ne_zero, Nat.add_eq_zero_iff, and_false, false_and, not_false_eq_true, ne_eq, j0_0, j0_1, j1_0, j1_1, if_true, if_false, ite_true, ite_false, true_and, and_true, or_true, true_or, false_or, or_false, ↓reduceIte, Nat.reduceEqDiff, Nat.reduceAdd, Nat.reduceMul, Nat.reduceSub, Int.reduceLE, Int.reduceLT, Int.reduceNeg, Int.reduceAdd, Int.reduceSub, Int.reduceEq, reduceCtorEq, jI_lt, jI_eq, jI_lt0, jI_0lt, jI_eq0, jI_0le, jn_lo, iU_row, iU_nr, iU_eq, iU_same, jI_ixn, jI_add, jI_sub, jI_nat, hz0, hz1, ha, ha', hb, hb', show b < z by omega, show ¬ (z < a) by omega]
theorem r151_t (hF : mFx F st nx gf rl dr) (hn : n ≤ 8) (h0 : 0 ≤ z) (h1 : z < n) (hm : I 80 2 = jI n) : mF (d + 1) 151 [.ref 80, .int (jI z)] (mLay e) (I, E, F) P = P (some (.int (jI 1))) (mLay e) (I, E, F) := by
  simp only [g151_in, g151_0, g151_1, g151_2, g151_3, g151_6, g151_7, g151_8, g151_11, nl_none, nl_int, nl_ref, Option.toList_some, Option.toList_none, List.cons_append, List.nil_append, mSetI_u, mSetL_u, Nat.add_one_ne_zero, Nat.add_eq_zero_iff, and_false, false_and, not_false_eq_true, ne_eq, j0_0, j0_1, j1_0, j1_1, if_true, if_false, ite_true, ite_false, true_and, and_true, or_true, true_or, false_or, or_false, ↓reduceIte, Nat.reduceEqDiff, Nat.reduceAdd, Nat.reduceMul, Nat.reduceSub, Int.reduceLE, Int.reduceLT, Int.reduceNeg, Int.reduceAdd, Int.reduceSub, Int.reduceEq, reduceCtorEq, jI_lt, jI_eq, jI_lt0, jI_0lt, jI_eq0, jI_0le, jn_lo, iU_row, iU_nr, iU_eq, iU_same, jI_ixn, jI_add, jI_sub, jI_nat, sh_80, hm, r146_t (z := z) (a := 0) (b := (n : Int) - 1) (by omega) (by omega) (by omega) (by omega)]
theorem r151_f (hF : mFx F st nx gf rl dr) (hn : n ≤ 8) (hz0 : -2147483648 ≤ z) (hz1 : z ≤ 2147483647) (h : ¬ (0 ≤ z ∧ z < n)) (hm : I 80 2 = jI n) : mF (d + 1) 151 [.ref 80, .int (jI z)] (mLay e) (I, E, F) P = P (some (.int (jI 0))) (mLay e) (I, E, F) := by
  simp only [g151_in, g151_0, g151_1, g151_2, g151_3, g151_6, g151_7, g151_8, g151_11, nl_none, nl_int, nl_ref, Option.toList_some, Option.toList_none, List.cons_append, List.nil_append, mSetI_u, mSetL_u, Nat.add_one_ne_zero, Nat.add_eq_zero_iff, and_false, false_and, not_false_eq_true, ne_eq, j0_0, j0_1, j1_0, j1_1, if_true, if_false, ite_true, ite_false, true_and, and_true, or_true, true_or, false_or, or_false, ↓reduceIte, Nat.reduceEqDiff, Nat.reduceAdd, Nat.reduceMul, Nat.reduceSub, Int.reduceLE, Int.reduceLT, Int.reduceNeg, Int.reduceAdd, Int.reduceSub, Int.reduceEq, reduceCtorEq, jI_lt, jI_eq, jI_lt0, jI_0lt, jI_eq0, jI_0le, jn_lo, iU_row, iU_nr, iU_eq, iU_same, jI_ixn, jI_add, jI_sub, jI_nat, sh_80, hm, r146_f (z := z) (a := 0) (b := (n : Int) - 1) hz0 hz1 (by omega) (by omega) (by omega) (by omega) (by omega)]
theorem r149_0 (hF : mFx F st nx gf rl dr) : mF d 149 [.ref 80, .int (jI 0)] (mLay e) (I, E, F) P = P none (mLay e) (kU I 0 42, E, F) := r149 (v := 0) hF (by omega)
theorem r150_0 (hF : mFx F st nx gf rl dr) : mF d 150 [.ref 80, .int (jI 0)] (mLay e) (I, E, F) P = P none (mLay e) (lU I 0 42, E, F) := r150 (v := 0) hF (by omega)
theorem vAg_kU {R : Nat → Nat → Prop} {I' : Nat → Nat → Int32} {v m : Nat} (h : vAg R I I') (hR : ∀ j, R 82 j) : vAg R I (kU I' v m) := fun r j q => by
  have q' : ¬ r = 82 := fun w => q (by rw [w]; exact hR j)
  rw [kU_row q']
  exact h r j q
theorem vAg_lU {R : Nat → Nat → Prop} {I' : Nat → Nat → Int32} {v m : Nat} (h : vAg R I I') (hR : ∀ j, R 81 j) : vAg R I (lU I' v m) := fun r j q => by
  have q' : ¬ r = 81 := fun w => q (by rw [w]; exact hR j)
  rw [lU_row q']
  exact h r j q
theorem vI_ag {c bn : Nat} {I' : Nat → Nat → Int32} (h : vInv c e I E F st nx gf rl dr n bn T lw) (ha : vAg (fun r j => vScr r j ∨ r = 81) I I') (h81 : ∀ j, j < 42 → I' 81 j = I 81 j) : vI (c + 1) (mLay e) (I', E, F) := vI_of (vInv_up (vInv_ag h ha h81))
theorem vI_ag' {c bn : Nat} {I' : Nat → Nat → Int32} (h : vInv c e I E F st nx gf rl dr n bn T lw) (ha : vAg vScr I I') : vI (c + 1) (mLay e) (I', E, F) := vI_ag h (vAg_mono ha (fun _ _ q => .inl q)) (fun j _ => ha 81 j (by unfold vScr; omega))
theorem sc_D {r j : Nat} (q : vScD r j) : vScr r j := by
  unfold vScD at q
  unfold vScr
  rcases q with rfl | rfl | ⟨rfl, q⟩
  · omega
  · omega
  · omega
theorem sc_E {r j : Nat} (q : vScE r j) : vScr r j ∨ r = 81 := by
  unfold vScE at q
  rcases q with rfl | rfl | ⟨rfl, rfl⟩ | q
  · exact .inr rfl
  · unfold vScr
    omega
  · unfold vScr
    omega
  · exact .inl (sc_D q)
theorem sc_E82 {r j : Nat} (q : vScE r j) : r = 82 → False := by
  unfold vScE vScD at q
  omega
theorem sc_lw {r j : Nat} (hrl : rl = 70 ∨ rl = 75) (q : r = rl + 3 ∨ r = rl + 4) : vScr r j := by
  unfold vScr
  rcases hrl with rfl | rfl <;> rcases q with rfl | rfl
  · omega
  · omega
  · omega
  · omega
theorem sc_th {r j : Nat} (hrl : rl = 70 ∨ rl = 75) (q : (12 ≤ r ∧ r ≤ 19) ∨ r = rl + 3 ∨ r = rl + 4) : vScr r j := by
  rcases q with q | q
  · unfold vScr
    exact .inr (.inr (.inr (.inl q)))
  · exact sc_lw hrl q
theorem sc_10 {r j : Nat} (q : r = 4 + 6) : vScr r j := .inl q
theorem sc_82 (j : Nat) : vScr 82 j := by
  unfold vScr
  omega
theorem sc_R {r j : Nat} (q : vScr r j) : ¬ r = 81 ∧ ¬ (r = 80 ∧ j = 2) := by
  unfold vScr at q
  omega
theorem sc_L {r j : Nat} (q : vScr r j) : ¬ r = 87 ∧ ¬ r = 90 ∧ ¬ (r = 80 ∧ (j = 11 ∨ j = 12)) := by
  unfold vScr at q
  omega
theorem sc_g (q : vScr 80 20) : False := by
  unfold vScr at q
  omega
theorem sc_Eg (q : vScE 80 20) : False := by
  unfold vScE vScD at q
  omega
theorem vTr_sc {I' : Nat → Nat → Int32} (h : vAg vScr I I') (hc : vTownR n T (I 81) (I 80 2)) : vTownR n T (I' 81) (I' 80 2) := vTr_ag h (fun _ _ q => sc_R q) hc
theorem vLr_sc {I' : Nat → Nat → Int32} (h : vAg vScr I I') (hc : vLawR lw (I 87) (I 80 11) (I 80 12) (I 90)) : vLawR lw (I' 87) (I' 80 11) (I' 80 12) (I' 90) := vLr_ag h (fun _ _ q => sc_L q) hc
theorem kR {v m : Nat} (hc : vTownR n T (I 81) (I 80 2)) : vTownR n T (kU I v m 81) (kU I v m 80 2) := by
  rw [kU_row (show ¬ 81 = 82 by omega), kU_row (show ¬ 80 = 82 by omega)]
  exact hc
theorem kL {v m : Nat} (hc : vLawR lw (I 87) (I 80 11) (I 80 12) (I 90)) : vLawR lw (kU I v m 87) (kU I v m 80 11) (kU I v m 80 12) (kU I v m 90) := by
  rw [kU_row (show ¬ 87 = 82 by omega), kU_row (show ¬ 80 = 82 by omega), kU_row (show ¬ 90 = 82 by omega)]
  exact hc
theorem kg {v m : Nat} {I' : Nat → Nat → Int32} (h : vAg vScE (kU I v m) I') (hc : I 80 20 = jI (-1)) : I' 80 20 = jI (-1) := by
  rw [h _ _ sc_Eg, kU_row (show ¬ 80 = 82 by omega)]
  exact hc
theorem vI_fin {c : Nat} {r : Int32} {M' : mMem} (h : vI (c + 1) lay M') : (∃ r', some (Value.int r) = some (.int r')) ∧ vI (c + 1) lay M' := ⟨⟨r, rfl⟩, h⟩
theorem vI_th {c bn : Nat} {I1 I2 : Nat → Nat → Int32} (hI : vInv c e I E F st nx gf rl dr n bn T lw) (h01 : vAg vScr I I1) (h : vAg vScE (kU I1 0 42) I2) : vI (c + 1) (mLay e) (lU I2 0 42, E, F) := by
  refine vI_ag hI (vAg_lU (vAg_tr (vAg_kU (vAg_mono h01 (fun _ _ q => .inl q)) (fun j => .inl (sc_82 j))) (vAg_mono h (fun _ _ q => sc_E q))) (fun _ => .inr rfl)) (fun j hj => ?_)
  rw [lU_k h (fun r j q q' => absurd q' (fun w => sc_E82 q w)) j hj]
  exact h01 81 j (fun q => (sc_R q).1 rfl)
end GRD
theorem api_comes (x : Int32) : mApiI vI 99 178 [.int x] := by
  rintro c lay M hc ⟨e, I, E, F, st, nx, gf, rl, dr, n, bn, T, lw, rfl, rfl, hI⟩
  have hF := hI.1
  have hI0 := hI
  obtain ⟨-, -, h3, -, h5, h6, h7, h8, h9, h10, h11, h12, h13, h14, h15, h16, h17, h18⟩ := hI
  have hrl : rl = 70 ∨ rl = 75 := by omega
  clear h3
  have hn := h5.1
  have hc4 : vTc n T 4 I := h6
  have hrl0 : ¬ rl = 0 := by omega
  obtain ⟨z, hz0, hz1, rfl⟩ := jI_of x
  by_cases h : 0 ≤ z ∧ z < n
  · obtain ⟨i, rfl⟩ : ∃ i : Nat, z = i := ⟨z.toNat, by omega⟩
    have hin : i < n := by omega
    simp only [g99_in, g99_0, g99_1, g99_4, g99_5, g99_8, g99_11, g99_12, g99_13, g99_14, g99_17, g99_20, g99_21, g99_24, g99_25, g99_26, g99_29, g99_32, nl_none, nl_int, nl_ref, Option.toList_some, Option.toList_none, List.cons_append, List.nil_append, mSetI_u, mSetL_u, Nat.add_one_ne_zero, Nat.add_eq_zero_iff, and_false, false_and, not_false_eq_true, ne_eq, j0_0, j0_1, j1_0, j1_1, if_true, if_false, ite_true, ite_false, true_and, and_true, or_true, true_or, false_or, or_false, ↓reduceIte, Nat.reduceEqDiff, Nat.reduceAdd, Nat.reduceMul, Nat.reduceSub, Int.reduceLE, Int.reduceLT, Int.reduceNeg, Int.reduceAdd, Int.reduceSub, Int.reduceEq, reduceCtorEq, jI_lt, jI_eq, jI_lt0, jI_0lt, jI_eq0, jI_0le, jn_lo, iU_row, iU_nr, iU_eq, iU_same, jI_ixn, jI_add, jI_sub, jI_nat, sh_3, sh_4, f_3_0 hF, f_3_13 hF, hrl0, c67_t (vTw_4 hF) hn h.1 h.2 hc4.2.1]
    refine c75 (vTw_4 hF) hn hc4.2.1 (fun j hj => ⟨(hc4.1 j hj).2.2.2.2, (vOk_w h5 hj).2.2.2.2.2.2.2.2.1, (vOk_w h5 hj).2.2.2.2.2.2.2.2.2.1⟩) (fun I1 h1' hca => ?_)
    simp only [g99_20, g99_21, g99_24, g99_25, g99_26, g99_29, nl_none, nl_int, nl_ref, Option.toList_some, Option.toList_none, List.cons_append, List.nil_append, mSetI_u, mSetL_u, Nat.add_one_ne_zero, Nat.add_eq_zero_iff, and_false, false_and, not_false_eq_true, ne_eq, j0_0, j0_1, j1_0, j1_1, if_true, if_false, ite_true, ite_false, true_and, and_true, or_true, true_or, false_or, or_false, ↓reduceIte, Nat.reduceEqDiff, Nat.reduceAdd, Nat.reduceMul, Nat.reduceSub, Int.reduceLE, Int.reduceLT, Int.reduceNeg, Int.reduceAdd, Int.reduceSub, Int.reduceEq, reduceCtorEq, jI_lt, jI_eq, jI_lt0, jI_0lt, jI_eq0, jI_0le, jn_lo, iU_row, iU_nr, iU_eq, iU_same, jI_ixn, jI_add, jI_sub, jI_nat, sh_3, sh_4, f_3_0 hF, f_3_13 hF, hrl0]
    refine c79 (vTw_4 hF) (vLo_rl hF hrl) h5 (vTc_ag h1' (fun r j q => by omega) hc4) hca (vLw_ag h1' (fun r j q => by omega) h15) hin (fun I2 h2' => ?_)
    have h02 : vAg vScr I I2 := vAg_tr (vAg_mono h1' (fun r j q => sc_10 q)) (vAg_mono h2' (fun r j q => sc_lw hrl q))
    simp only [g99_32, nl_none, nl_int, nl_ref, Option.toList_some, Option.toList_none, List.cons_append, List.nil_append, mSetI_u, mSetL_u, Nat.add_one_ne_zero, Nat.add_eq_zero_iff, and_false, false_and, not_false_eq_true, ne_eq, j0_0, j0_1, j1_0, j1_1, if_true, if_false, ite_true, ite_false, true_and, and_true, or_true, true_or, false_or, or_false, ↓reduceIte, Nat.reduceEqDiff, Nat.reduceAdd, Nat.reduceMul, Nat.reduceSub, Int.reduceLE, Int.reduceLT, Int.reduceNeg, Int.reduceAdd, Int.reduceSub, Int.reduceEq, reduceCtorEq, jI_lt, jI_eq, jI_lt0, jI_0lt, jI_eq0, jI_0le, jn_lo, iU_row, iU_nr, iU_eq, iU_same, jI_ixn, jI_add, jI_sub, jI_nat]
    refine ⟨sh_80, ?_⟩
    have hR2 : vTownR n T (I2 81) (I2 80 2) := vTr_sc h02 h7
    simp only [g178_in, g178_0, g178_1, g178_2, g178_5, g178_8, g178_9, g178_10, nl_none, nl_int, nl_ref, Option.toList_some, Option.toList_none, List.cons_append, List.nil_append, mSetI_u, mSetL_u, Nat.add_one_ne_zero, Nat.add_eq_zero_iff, and_false, false_and, not_false_eq_true, ne_eq, j0_0, j0_1, j1_0, j1_1, if_true, if_false, ite_true, ite_false, true_and, and_true, or_true, true_or, false_or, or_false, ↓reduceIte, Nat.reduceEqDiff, Nat.reduceAdd, Nat.reduceMul, Nat.reduceSub, Int.reduceLE, Int.reduceLT, Int.reduceNeg, Int.reduceAdd, Int.reduceSub, Int.reduceEq, reduceCtorEq, jI_lt, jI_eq, jI_lt0, jI_0lt, jI_eq0, jI_0le, jn_lo, iU_row, iU_nr, iU_eq, iU_same, jI_ixn, jI_add, jI_sub, jI_nat, sh_80, r151_t hF hn h.1 h.2 hR2.2.2.2]
    refine r177 hF h5 hR2 (vLr_sc h02 h16) hin (fun I3 h3' => ?_)
    simp only [g178_13, g178_16, g178_17, nl_none, nl_int, nl_ref, Option.toList_some, Option.toList_none, List.cons_append, List.nil_append, mSetI_u, mSetL_u, Nat.add_one_ne_zero, Nat.add_eq_zero_iff, and_false, false_and, not_false_eq_true, ne_eq, j0_0, j0_1, j1_0, j1_1, if_true, if_false, ite_true, ite_false, true_and, and_true, or_true, true_or, false_or, or_false, ↓reduceIte, Nat.reduceEqDiff, Nat.reduceAdd, Nat.reduceMul, Nat.reduceSub, Int.reduceLE, Int.reduceLT, Int.reduceNeg, Int.reduceAdd, Int.reduceSub, Int.reduceEq, reduceCtorEq, jI_lt, jI_eq, jI_lt0, jI_0lt, jI_eq0, jI_0le, jn_lo, iU_row, iU_nr, iU_eq, iU_same, jI_ixn, jI_add, jI_sub, jI_nat]
    exact vI_fin (vI_ag' hI0 (vAg_tr h02 (vAg_mono h3' (fun r j q => sc_D q))))
  · simp only [g99_in, g99_0, g99_1, g99_4, g99_5, g99_8, g99_11, g99_12, g99_13, g99_14, g99_17, g99_20, g99_21, g99_24, g99_25, g99_26, g99_29, g99_32, g178_in, g178_0, g178_1, g178_2, g178_5, g178_8, g178_9, g178_10, g178_13, g178_16, g178_17, nl_none, nl_int, nl_ref, Option.toList_some, Option.toList_none, List.cons_append, List.nil_append, mSetI_u, mSetL_u, Nat.add_one_ne_zero, Nat.add_eq_zero_iff, and_false, false_and, not_false_eq_true, ne_eq, j0_0, j0_1, j1_0, j1_1, if_true, if_false, ite_true, ite_false, true_and, and_true, or_true, true_or, false_or, or_false, ↓reduceIte, Nat.reduceEqDiff, Nat.reduceAdd, Nat.reduceMul, Nat.reduceSub, Int.reduceLE, Int.reduceLT, Int.reduceNeg, Int.reduceAdd, Int.reduceSub, Int.reduceEq, reduceCtorEq, jI_lt, jI_eq, jI_lt0, jI_0lt, jI_eq0, jI_0le, jn_lo, iU_row, iU_nr, iU_eq, iU_same, jI_ixn, jI_add, jI_sub, jI_nat, sh_3, sh_4, sh_80, f_3_0 hF, c67_f (vTw_4 hF) hn hz0 hz1 h hc4.2.1, r151_f hF hn hz0 hz1 h h7.2.2.2]
    exact vI_fin (vI_same hI0)
theorem api_later (x y : Int32) : mApiI vI 100 183 [.int x, .int y] := by
  rintro c lay M hc ⟨e, I, E, F, st, nx, gf, rl, dr, n, bn, T, lw, rfl, rfl, hI⟩
  have hF := hI.1
  have hI0 := hI
  obtain ⟨-, -, h3, -, h5, h6, h7, h8, h9, h10, h11, h12, h13, h14, h15, h16, h17, h18⟩ := hI
  have hrl : rl = 70 ∨ rl = 75 := by omega
  clear h3
  have hn := h5.1
  have hc4 : vTc n T 4 I := h6
  have hrl0 : ¬ rl = 0 := by omega
  obtain ⟨z, hz0, hz1, rfl⟩ := jI_of x
  obtain ⟨w, hw0, hw1, rfl⟩ := jI_of y
  rcases (by omega : ¬ (0 ≤ z ∧ z ≤ 40) ∨ ((0 ≤ z ∧ z ≤ 40) ∧ ¬ w = -1 ∧ ¬ (0 ≤ w ∧ w < n)) ∨ ((0 ≤ z ∧ z ≤ 40) ∧ (w = -1 ∨ (0 ≤ w ∧ w < n)))) with h | h | ⟨h, hw⟩
  · simp only [g100_in, g100_0, g100_1, g100_2, g100_4, g100_7, g100_10, g100_11, g100_12, g100_15, g100_16, g100_19, g100_20, g100_23, g100_26, g100_27, g100_28, g100_29, g100_30, g100_33, g100_34, g100_35, g100_38, g100_39, g100_42, g100_45, g100_48, g100_49, g100_52, g100_53, g100_56, g183_in, g183_0, g183_1, g183_2, g183_4, g183_7, g183_10, g183_11, g183_12, g183_15, g183_16, g183_17, g183_20, g183_23, g183_24, g183_25, g183_26, g183_27, g183_30, g183_31, g183_32, g183_35, g183_36, g183_37, g183_40, g183_41, g183_44, g183_47, g183_48, g183_49, g183_50, g183_53, g183_54, g183_55, g183_56, g183_59, g183_60, nl_none, nl_int, nl_ref, Option.toList_some, Option.toList_none, List.cons_append, List.nil_append, mSetI_u, mSetL_u, Nat.add_one_ne_zero, Nat.add_eq_zero_iff, and_false, false_and, not_false_eq_true, ne_eq, j0_0, j0_1, j1_0, j1_1, if_true, if_false, ite_true, ite_false, true_and, and_true, or_true, true_or, false_or, or_false, ↓reduceIte, Nat.reduceEqDiff, Nat.reduceAdd, Nat.reduceMul, Nat.reduceSub, Int.reduceLE, Int.reduceLT, Int.reduceNeg, Int.reduceAdd, Int.reduceSub, Int.reduceEq, reduceCtorEq, jI_lt, jI_eq, jI_lt0, jI_0lt, jI_eq0, jI_0le, jn_lo, iU_row, iU_nr, iU_eq, iU_same, jI_ixn, jI_add, jI_sub, jI_nat, sh_3, sh_80, c132_f (z := z) (a := 0) (b := 40) hz0 hz1 h (by omega) (by omega) (by omega) (by omega), r146_f (z := z) (a := 0) (b := 40) hz0 hz1 h (by omega) (by omega) (by omega) (by omega)]
    exact vI_fin (vI_same hI0)
  · simp only [g100_in, g100_0, g100_1, g100_2, g100_4, g100_7, g100_10, g100_11, g100_12, g100_15, g100_16, g100_19, g100_20, g100_23, g100_26, g100_27, g100_28, g100_29, g100_30, g100_33, g100_34, g100_35, g100_38, g100_39, g100_42, g100_45, g100_48, g100_49, g100_52, g100_53, g100_56, g183_in, g183_0, g183_1, g183_2, g183_4, g183_7, g183_10, g183_11, g183_12, g183_15, g183_16, g183_17, g183_20, g183_23, g183_24, g183_25, g183_26, g183_27, g183_30, g183_31, g183_32, g183_35, g183_36, g183_37, g183_40, g183_41, g183_44, g183_47, g183_48, g183_49, g183_50, g183_53, g183_54, g183_55, g183_56, g183_59, g183_60, nl_none, nl_int, nl_ref, Option.toList_some, Option.toList_none, List.cons_append, List.nil_append, mSetI_u, mSetL_u, Nat.add_one_ne_zero, Nat.add_eq_zero_iff, and_false, false_and, not_false_eq_true, ne_eq, j0_0, j0_1, j1_0, j1_1, if_true, if_false, ite_true, ite_false, true_and, and_true, or_true, true_or, false_or, or_false, ↓reduceIte, Nat.reduceEqDiff, Nat.reduceAdd, Nat.reduceMul, Nat.reduceSub, Int.reduceLE, Int.reduceLT, Int.reduceNeg, Int.reduceAdd, Int.reduceSub, Int.reduceEq, reduceCtorEq, jI_lt, jI_eq, jI_lt0, jI_0lt, jI_eq0, jI_0le, jn_lo, iU_row, iU_nr, iU_eq, iU_same, jI_ixn, jI_add, jI_sub, jI_nat, sh_3, sh_4, sh_80, f_3_0 hF, hw0, hw1, show ¬ (w = -1) by omega, c132_t (z := z) (a := 0) (b := 40) h.1.1 h.1.2 (by omega) (by omega), r146_t (z := z) (a := 0) (b := 40) h.1.1 h.1.2 (by omega) (by omega), c67_f (vTw_4 hF) hn hw0 hw1 h.2.2 hc4.2.1, r151_f hF hn hw0 hw1 h.2.2 h7.2.2.2]
    exact vI_fin (vI_same hI0)
  · obtain ⟨m, rfl⟩ : ∃ m : Nat, z = m := ⟨z.toNat, by omega⟩
    have hm : m ≤ 100 := by omega
    have hok := pDays_ok (lw := lw) h5 m
    rcases hw with rfl | hw
    · simp only [g100_in, g100_0, g100_1, g100_2, g100_4, g100_7, g100_10, g100_11, g100_12, g100_15, g100_16, g100_19, g100_20, g100_23, g100_26, g100_27, g100_28, g100_29, g100_30, nl_none, nl_int, nl_ref, Option.toList_some, Option.toList_none, List.cons_append, List.nil_append, mSetI_u, mSetL_u, Nat.add_one_ne_zero, Nat.add_eq_zero_iff, and_false, false_and, not_false_eq_true, ne_eq, j0_0, j0_1, j1_0, j1_1, if_true, if_false, ite_true, ite_false, true_and, and_true, or_true, true_or, false_or, or_false, ↓reduceIte, Nat.reduceEqDiff, Nat.reduceAdd, Nat.reduceMul, Nat.reduceSub, Int.reduceLE, Int.reduceLT, Int.reduceNeg, Int.reduceAdd, Int.reduceSub, Int.reduceEq, reduceCtorEq, jI_lt, jI_eq, jI_lt0, jI_0lt, jI_eq0, jI_0le, jn_lo, iU_row, iU_nr, iU_eq, iU_same, jI_ixn, jI_add, jI_sub, jI_nat, sh_3, sh_4, c132_t (z := (m : Int)) (a := 0) (b := 40) h.1 h.2 (by omega) (by omega)]
      refine c137 hF hrl h5 hc4 h15 hm (fun I1 h1' hc1 => ?_)
      have h01 : vAg vScr I I1 := vAg_mono h1' (fun r j q => sc_th hrl q)
      simp only [g100_33, g100_34, g100_35, g100_38, g100_39, g100_42, g100_45, g100_48, g100_49, g100_52, g100_53, g100_56, nl_none, nl_int, nl_ref, Option.toList_some, Option.toList_none, List.cons_append, List.nil_append, mSetI_u, mSetL_u, Nat.add_one_ne_zero, Nat.add_eq_zero_iff, and_false, false_and, not_false_eq_true, ne_eq, j0_0, j0_1, j1_0, j1_1, if_true, if_false, ite_true, ite_false, true_and, and_true, or_true, true_or, false_or, or_false, ↓reduceIte, Nat.reduceEqDiff, Nat.reduceAdd, Nat.reduceMul, Nat.reduceSub, Int.reduceLE, Int.reduceLT, Int.reduceNeg, Int.reduceAdd, Int.reduceSub, Int.reduceEq, reduceCtorEq, jI_lt, jI_eq, jI_lt0, jI_0lt, jI_eq0, jI_0le, jn_lo, iU_row, iU_nr, iU_eq, iU_same, jI_ixn, jI_add, jI_sub, jI_nat, sh_3, sh_12, f_3_1 hF, c73 (vTw_12 hF) hok hc1]
      refine ⟨sh_80, ?_⟩
      simp only [g183_in, g183_0, g183_1, g183_2, g183_4, g183_7, g183_10, g183_11, g183_12, g183_15, g183_16, g183_17, g183_20, g183_23, g183_24, g183_25, g183_26, g183_27, g183_30, g183_31, g183_32, nl_none, nl_int, nl_ref, Option.toList_some, Option.toList_none, List.cons_append, List.nil_append, mSetI_u, mSetL_u, Nat.add_one_ne_zero, Nat.add_eq_zero_iff, and_false, false_and, not_false_eq_true, ne_eq, j0_0, j0_1, j1_0, j1_1, if_true, if_false, ite_true, ite_false, true_and, and_true, or_true, true_or, false_or, or_false, ↓reduceIte, Nat.reduceEqDiff, Nat.reduceAdd, Nat.reduceMul, Nat.reduceSub, Int.reduceLE, Int.reduceLT, Int.reduceNeg, Int.reduceAdd, Int.reduceSub, Int.reduceEq, reduceCtorEq, jI_lt, jI_eq, jI_lt0, jI_0lt, jI_eq0, jI_0le, jn_lo, iU_row, iU_nr, iU_eq, iU_same, jI_ixn, jI_add, jI_sub, jI_nat, sh_80, r149_0 hF, r146_t (z := (m : Int)) (a := 0) (b := 40) h.1 h.2 (by omega) (by omega)]
      refine r180 hF h5 h15.1 (kR (vTr_sc h01 h7)) (kL (vLr_sc h01 h16)) hm (fun I2 h2' hR2 => ?_)
      simp only [g183_35, g183_36, g183_37, g183_40, g183_41, g183_44, g183_47, g183_48, g183_49, g183_50, g183_53, g183_54, g183_55, g183_56, g183_59, g183_60, nl_none, nl_int, nl_ref, Option.toList_some, Option.toList_none, List.cons_append, List.nil_append, mSetI_u, mSetL_u, Nat.add_one_ne_zero, Nat.add_eq_zero_iff, and_false, false_and, not_false_eq_true, ne_eq, j0_0, j0_1, j1_0, j1_1, if_true, if_false, ite_true, ite_false, true_and, and_true, or_true, true_or, false_or, or_false, ↓reduceIte, Nat.reduceEqDiff, Nat.reduceAdd, Nat.reduceMul, Nat.reduceSub, Int.reduceLE, Int.reduceLT, Int.reduceNeg, Int.reduceAdd, Int.reduceSub, Int.reduceEq, reduceCtorEq, jI_lt, jI_eq, jI_lt0, jI_0lt, jI_eq0, jI_0le, jn_lo, iU_row, iU_nr, iU_eq, iU_same, jI_ixn, jI_add, jI_sub, jI_nat, sh_80, r182 hF hok hR2, r150_0 hF]
      exact vI_fin (vI_th hI0 h01 h2')
    · obtain ⟨i, rfl⟩ : ∃ i : Nat, w = i := ⟨w.toNat, by omega⟩
      have hin : i < n := by omega
      simp only [g100_in, g100_0, g100_1, g100_2, g100_4, g100_7, g100_10, g100_11, g100_12, g100_15, g100_16, g100_19, g100_20, g100_23, g100_26, g100_27, g100_28, g100_29, g100_30, nl_none, nl_int, nl_ref, Option.toList_some, Option.toList_none, List.cons_append, List.nil_append, mSetI_u, mSetL_u, Nat.add_one_ne_zero, Nat.add_eq_zero_iff, and_false, false_and, not_false_eq_true, ne_eq, j0_0, j0_1, j1_0, j1_1, if_true, if_false, ite_true, ite_false, true_and, and_true, or_true, true_or, false_or, or_false, ↓reduceIte, Nat.reduceEqDiff, Nat.reduceAdd, Nat.reduceMul, Nat.reduceSub, Int.reduceLE, Int.reduceLT, Int.reduceNeg, Int.reduceAdd, Int.reduceSub, Int.reduceEq, reduceCtorEq, jI_lt, jI_eq, jI_lt0, jI_0lt, jI_eq0, jI_0le, jn_lo, iU_row, iU_nr, iU_eq, iU_same, jI_ixn, jI_add, jI_sub, jI_nat, sh_3, sh_4, f_3_0 hF, show ((i : Nat) : Int) ≤ 2147483647 by omega, show (i : Nat) ≤ 2147483647 by omega, show ¬ ((i : Int) = -1) by omega, c132_t (z := (m : Int)) (a := 0) (b := 40) h.1 h.2 (by omega) (by omega), c67_t (vTw_4 hF) hn hw.1 hw.2 hc4.2.1]
      refine c137 hF hrl h5 hc4 h15 hm (fun I1 h1' hc1 => ?_)
      have h01 : vAg vScr I I1 := vAg_mono h1' (fun r j q => sc_th hrl q)
      simp only [g100_33, g100_34, g100_35, g100_38, g100_39, g100_42, g100_45, g100_48, g100_49, g100_52, g100_53, g100_56, nl_none, nl_int, nl_ref, Option.toList_some, Option.toList_none, List.cons_append, List.nil_append, mSetI_u, mSetL_u, Nat.add_one_ne_zero, Nat.add_eq_zero_iff, and_false, false_and, not_false_eq_true, ne_eq, j0_0, j0_1, j1_0, j1_1, if_true, if_false, ite_true, ite_false, true_and, and_true, or_true, true_or, false_or, or_false, ↓reduceIte, Nat.reduceEqDiff, Nat.reduceAdd, Nat.reduceMul, Nat.reduceSub, Int.reduceLE, Int.reduceLT, Int.reduceNeg, Int.reduceAdd, Int.reduceSub, Int.reduceEq, reduceCtorEq, jI_lt, jI_eq, jI_lt0, jI_0lt, jI_eq0, jI_0le, jn_lo, iU_row, iU_nr, iU_eq, iU_same, jI_ixn, jI_add, jI_sub, jI_nat, sh_3, sh_12, f_3_1 hF, show ((i : Nat) : Int) ≤ 2147483647 by omega, show (i : Nat) ≤ 2147483647 by omega, show ¬ ((i : Int) = -1) by omega, c72 (vTw_12 hF) hok hin hc1]
      refine ⟨sh_80, ?_⟩
      have hR1 : vTownR n T (I1 81) (I1 80 2) := vTr_sc h01 h7
      simp only [g183_in, g183_0, g183_1, g183_2, g183_4, g183_7, g183_10, g183_11, g183_12, g183_15, g183_16, g183_17, g183_20, g183_23, g183_24, g183_25, g183_26, g183_27, g183_30, g183_31, g183_32, nl_none, nl_int, nl_ref, Option.toList_some, Option.toList_none, List.cons_append, List.nil_append, mSetI_u, mSetL_u, Nat.add_one_ne_zero, Nat.add_eq_zero_iff, and_false, false_and, not_false_eq_true, ne_eq, j0_0, j0_1, j1_0, j1_1, if_true, if_false, ite_true, ite_false, true_and, and_true, or_true, true_or, false_or, or_false, ↓reduceIte, Nat.reduceEqDiff, Nat.reduceAdd, Nat.reduceMul, Nat.reduceSub, Int.reduceLE, Int.reduceLT, Int.reduceNeg, Int.reduceAdd, Int.reduceSub, Int.reduceEq, reduceCtorEq, jI_lt, jI_eq, jI_lt0, jI_0lt, jI_eq0, jI_0le, jn_lo, iU_row, iU_nr, iU_eq, iU_same, jI_ixn, jI_add, jI_sub, jI_nat, sh_80, show ((i : Nat) : Int) ≤ 2147483647 by omega, show (i : Nat) ≤ 2147483647 by omega, show ¬ ((i : Int) = -1) by omega, r149_0 hF, r146_t (z := (m : Int)) (a := 0) (b := 40) h.1 h.2 (by omega) (by omega), r151_t hF hn hw.1 hw.2 hR1.2.2.2]
      refine r180 hF h5 h15.1 (kR hR1) (kL (vLr_sc h01 h16)) hm (fun I2 h2' hR2 => ?_)
      simp only [g183_35, g183_36, g183_37, g183_40, g183_41, g183_44, g183_47, g183_48, g183_49, g183_50, g183_53, g183_54, g183_55, g183_56, g183_59, g183_60, nl_none, nl_int, nl_ref, Option.toList_some, Option.toList_none, List.cons_append, List.nil_append, mSetI_u, mSetL_u, Nat.add_one_ne_zero, Nat.add_eq_zero_iff, and_false, false_and, not_false_eq_true, ne_eq, j0_0, j0_1, j1_0, j1_1, if_true, if_false, ite_true, ite_false, true_and, and_true, or_true, true_or, false_or, or_false, ↓reduceIte, Nat.reduceEqDiff, Nat.reduceAdd, Nat.reduceMul, Nat.reduceSub, Int.reduceLE, Int.reduceLT, Int.reduceNeg, Int.reduceAdd, Int.reduceSub, Int.reduceEq, reduceCtorEq, jI_lt, jI_eq, jI_lt0, jI_0lt, jI_eq0, jI_0le, jn_lo, iU_row, iU_nr, iU_eq, iU_same, jI_ixn, jI_add, jI_sub, jI_nat, sh_80, show ((i : Nat) : Int) ≤ 2147483647 by omega, show (i : Nat) ≤ 2147483647 by omega, show i ≤ 7 by omega, show ¬ ((i : Int) = -1) by omega, r152 hF, Int.reduceToNat, hR2.1 i hin 3 (by omega), r150_0 hF]
      exact vI_fin (vI_th hI0 h01 h2')
theorem api_lacking (x : Int32) : mApiI vI 101 184 [.int x] := by
  rintro c lay M hc ⟨e, I, E, F, st, nx, gf, rl, dr, n, bn, T, lw, rfl, rfl, hI⟩
  have hF := hI.1
  have hI0 := hI
  obtain ⟨-, -, h3, -, h5, h6, h7, h8, h9, h10, h11, h12, h13, h14, h15, h16, h17, h18⟩ := hI
  have hrl : rl = 70 ∨ rl = 75 := by omega
  clear h3
  have hn := h5.1
  have hc4 : vTc n T 4 I := h6
  have hrl0 : ¬ rl = 0 := by omega
  obtain ⟨z, hz0, hz1, rfl⟩ := jI_of x
  by_cases h : 0 ≤ z ∧ z ≤ 40
  · obtain ⟨m, rfl⟩ : ∃ m : Nat, z = m := ⟨z.toNat, by omega⟩
    have hm : m ≤ 100 := by omega
    have hok := pDays_ok (lw := lw) h5 m
    simp only [g101_in, g101_0, g101_1, g101_2, g101_4, g101_7, g101_10, g101_11, g101_12, g101_13, g101_14, nl_none, nl_int, nl_ref, Option.toList_some, Option.toList_none, List.cons_append, List.nil_append, mSetI_u, mSetL_u, Nat.add_one_ne_zero, Nat.add_eq_zero_iff, and_false, false_and, not_false_eq_true, ne_eq, j0_0, j0_1, j1_0, j1_1, if_true, if_false, ite_true, ite_false, true_and, and_true, or_true, true_or, false_or, or_false, ↓reduceIte, Nat.reduceEqDiff, Nat.reduceAdd, Nat.reduceMul, Nat.reduceSub, Int.reduceLE, Int.reduceLT, Int.reduceNeg, Int.reduceAdd, Int.reduceSub, Int.reduceEq, reduceCtorEq, jI_lt, jI_eq, jI_lt0, jI_0lt, jI_eq0, jI_0le, jn_lo, iU_row, iU_nr, iU_eq, iU_same, jI_ixn, jI_add, jI_sub, jI_nat, sh_3, sh_4, c132_t (z := (m : Int)) (a := 0) (b := 40) h.1 h.2 (by omega) (by omega)]
    refine c137 hF hrl h5 hc4 h15 hm (fun I1 h1' hc1 => ?_)
    have h01 : vAg vScr I I1 := vAg_mono h1' (fun r j q => sc_th hrl q)
    simp only [g101_17, g101_18, g101_21, g101_24, nl_none, nl_int, nl_ref, Option.toList_some, Option.toList_none, List.cons_append, List.nil_append, mSetI_u, mSetL_u, Nat.add_one_ne_zero, Nat.add_eq_zero_iff, and_false, false_and, not_false_eq_true, ne_eq, j0_0, j0_1, j1_0, j1_1, if_true, if_false, ite_true, ite_false, true_and, and_true, or_true, true_or, false_or, or_false, ↓reduceIte, Nat.reduceEqDiff, Nat.reduceAdd, Nat.reduceMul, Nat.reduceSub, Int.reduceLE, Int.reduceLT, Int.reduceNeg, Int.reduceAdd, Int.reduceSub, Int.reduceEq, reduceCtorEq, jI_lt, jI_eq, jI_lt0, jI_0lt, jI_eq0, jI_0le, jn_lo, iU_row, iU_nr, iU_eq, iU_same, jI_ixn, jI_add, jI_sub, jI_nat, sh_3, sh_12, f_3_1 hF, c74 (vTw_12 hF) hok hc1]
    refine ⟨sh_80, ?_⟩
    simp only [g184_in, g184_0, g184_1, g184_2, g184_4, g184_7, g184_10, g184_11, g184_12, g184_13, g184_14, g184_17, g184_18, g184_19, nl_none, nl_int, nl_ref, Option.toList_some, Option.toList_none, List.cons_append, List.nil_append, mSetI_u, mSetL_u, Nat.add_one_ne_zero, Nat.add_eq_zero_iff, and_false, false_and, not_false_eq_true, ne_eq, j0_0, j0_1, j1_0, j1_1, if_true, if_false, ite_true, ite_false, true_and, and_true, or_true, true_or, false_or, or_false, ↓reduceIte, Nat.reduceEqDiff, Nat.reduceAdd, Nat.reduceMul, Nat.reduceSub, Int.reduceLE, Int.reduceLT, Int.reduceNeg, Int.reduceAdd, Int.reduceSub, Int.reduceEq, reduceCtorEq, jI_lt, jI_eq, jI_lt0, jI_0lt, jI_eq0, jI_0le, jn_lo, iU_row, iU_nr, iU_eq, iU_same, jI_ixn, jI_add, jI_sub, jI_nat, sh_80, r149_0 hF, r146_t (z := (m : Int)) (a := 0) (b := 40) h.1 h.2 (by omega) (by omega)]
    refine r180 hF h5 h15.1 (kR (vTr_sc h01 h7)) (kL (vLr_sc h01 h16)) hm (fun I2 h2' hR2 => ?_)
    have hg2 : I2 80 20 = jI (-1) := kg h2' ((h01 _ _ sc_g).trans h8)
    simp only [g184_22, g184_23, g184_26, g184_27, g184_28, g184_29, g184_32, g184_33, nl_none, nl_int, nl_ref, Option.toList_some, Option.toList_none, List.cons_append, List.nil_append, mSetI_u, mSetL_u, Nat.add_one_ne_zero, Nat.add_eq_zero_iff, and_false, false_and, not_false_eq_true, ne_eq, j0_0, j0_1, j1_0, j1_1, if_true, if_false, ite_true, ite_false, true_and, and_true, or_true, true_or, false_or, or_false, ↓reduceIte, Nat.reduceEqDiff, Nat.reduceAdd, Nat.reduceMul, Nat.reduceSub, Int.reduceLE, Int.reduceLT, Int.reduceNeg, Int.reduceAdd, Int.reduceSub, Int.reduceEq, reduceCtorEq, jI_lt, jI_eq, jI_lt0, jI_0lt, jI_eq0, jI_0le, jn_lo, iU_row, iU_nr, iU_eq, iU_same, jI_ixn, jI_add, jI_sub, jI_nat, sh_80, r181 (g := -1) hF hok (by omega) (by omega) hR2 hg2, r150_0 hF]
    exact vI_fin (vI_th hI0 h01 h2')
  · simp only [g101_in, g101_0, g101_1, g101_2, g101_4, g101_7, g101_10, g101_11, g101_12, g101_13, g101_14, g101_17, g101_18, g101_21, g101_24, g184_in, g184_0, g184_1, g184_2, g184_4, g184_7, g184_10, g184_11, g184_12, g184_13, g184_14, g184_17, g184_18, g184_19, g184_22, g184_23, g184_26, g184_27, g184_28, g184_29, g184_32, g184_33, nl_none, nl_int, nl_ref, Option.toList_some, Option.toList_none, List.cons_append, List.nil_append, mSetI_u, mSetL_u, Nat.add_one_ne_zero, Nat.add_eq_zero_iff, and_false, false_and, not_false_eq_true, ne_eq, j0_0, j0_1, j1_0, j1_1, if_true, if_false, ite_true, ite_false, true_and, and_true, or_true, true_or, false_or, or_false, ↓reduceIte, Nat.reduceEqDiff, Nat.reduceAdd, Nat.reduceMul, Nat.reduceSub, Int.reduceLE, Int.reduceLT, Int.reduceNeg, Int.reduceAdd, Int.reduceSub, Int.reduceEq, reduceCtorEq, jI_lt, jI_eq, jI_lt0, jI_0lt, jI_eq0, jI_0le, jn_lo, iU_row, iU_nr, iU_eq, iU_same, jI_ixn, jI_add, jI_sub, jI_nat, sh_3, sh_80, c132_f (z := z) (a := 0) (b := 40) hz0 hz1 h (by omega) (by omega) (by omega) (by omega), r146_f (z := z) (a := 0) (b := 40) hz0 hz1 h (by omega) (by omega) (by omega) (by omega)]
    exact vI_fin (vI_same hI0)
