theorem api_act (u t x : Int32) : mApiI vI 123 219 [.int u, .int t, .int x] := by
  rintro c lay M hc ⟨e, I, E, F, st, nx, gf, rl, dr, n, bn, T, lw, rfl, rfl, hI⟩
  have hF := hI.1
  have hI0 := hI
  obtain ⟨-, -, h3, -, h5, h6, h7, h8, h9, h10, h11, h12, h13, h14, h15, h16, h17, h18⟩ := hI
  have hrl : rl = 70 ∨ rl = 75 := by omega
  clear h3
  have hn := h5.1
  have hc4 : vTc n T 4 I := h6
  have hrl0 : ¬ rl = 0 := by omega
  obtain ⟨b, hbl, hbh, rfl⟩ := jI_of u
  obtain ⟨a, ha0, ha1, rfl⟩ := jI_of t
  obtain ⟨hb0, hmc, hmr, hk, -, hab, hac⟩ := h13
  by_cases hb : 0 ≤ b ∧ b < bn
  · by_cases ha : 0 ≤ a ∧ a ≤ 3
    · obtain ⟨b, rfl⟩ : ∃ k : Nat, b = k := ⟨b.toNat, by omega⟩
      have hbn2 : b < bn := by omega
      obtain ⟨k, k0, k1, k2, k3⟩ := hk b hbn2
      have main : ∀ kk aa : Int, k = kk → a = aa → (0 ≤ kk ∧ kk ≤ 7) → (0 ≤ aa ∧ aa ≤ 3) → mF 100 123 [.ref 3, .int (jI b), .int (jI aa), .int x] (mLay e) (I, E, F) (fun v l1 M1 => mSh l1 80 = some (13, 44) ∧ mF 100 219 [.ref 80, .int (jI b), .int (jI aa), .int x] l1 M1 (fun v2 l2 M2 => v2 = v ∧ (∃ r, v = some (.int r)) ∧ vI (c + 1) l2 M2)) := by
        intro kk aa e1 e2 hk7 ha3
        have k2 := k2
        have k3 := k3
        rw [e1] at k2 k3
        clear e1 e2
        rcases (by omega : kk = 0 ∨ kk = 1 ∨ kk = 2 ∨ kk = 3 ∨ kk = 4 ∨ kk = 5 ∨ kk = 6 ∨ kk = 7) with rfl | rfl | rfl | rfl | rfl | rfl | rfl | rfl <;> rcases (by omega : aa = 0 ∨ aa = 1 ∨ aa = 2 ∨ aa = 3) with rfl | rfl | rfl | rfl
        · exact act_0_0 hI0 hF hbn2 hb0 hmc hmr k2 k3 hab hac
        · exact act_0_1 hI0 hF hbn2 hb0 hmc hmr k2 k3 hab hac
        · exact act_0_2 hI0 hF hbn2 hb0 hmc hmr k2 k3 hab hac
        · exact act_0_3 hI0 hF hbn2 hb0 hmc hmr k2 k3 hab hac
        · exact act_1_0 hI0 hF hbn2 hb0 hmc hmr k2 k3 hab hac
        · exact act_1_1 hI0 hF hbn2 hb0 hmc hmr k2 k3 hab hac
        · exact act_1_2 hI0 hF hbn2 hb0 hmc hmr k2 k3 hab hac
        · exact act_1_3 hI0 hF hbn2 hb0 hmc hmr k2 k3 hab hac
        · exact act_2_0 hI0 hF hbn2 hb0 hmc hmr k2 k3 hab hac
        · exact act_2_1 hI0 hF hbn2 hb0 hmc hmr k2 k3 hab hac
        · exact act_2_2 hI0 hF hbn2 hb0 hmc hmr k2 k3 hab hac
        · exact act_2_3 hI0 hF hbn2 hb0 hmc hmr k2 k3 hab hac
        · exact act_3_0 hI0 hF hbn2 hb0 hmc hmr k2 k3 hab hac
        · exact act_3_1 hI0 hF hbn2 hb0 hmc hmr k2 k3 hab hac
        · exact act_3_2 hI0 hF hbn2 hb0 hmc hmr k2 k3 hab hac
        · exact act_3_3 hI0 hF hbn2 hb0 hmc hmr k2 k3 hab hac
        · exact act_4_0 hI0 hF hbn2 hb0 hmc hmr k2 k3 hab hac
        · exact act_4_1 hI0 hF hbn2 hb0 hmc hmr k2 k3 hab hac
        · exact act_4_2 hI0 hF hbn2 hb0 hmc hmr k2 k3 hab hac
        · exact act_4_3 hI0 hF hbn2 hb0 hmc hmr k2 k3 hab hac
        · exact act_5_0 hI0 hF hbn2 hb0 hmc hmr k2 k3 hab hac
        · exact act_5_1 hI0 hF hbn2 hb0 hmc hmr k2 k3 hab hac
        · exact act_5_2 hI0 hF hbn2 hb0 hmc hmr k2 k3 hab hac
        · exact act_5_3 hI0 hF hbn2 hb0 hmc hmr k2 k3 hab hac
        · exact act_6_0 hI0 hF hbn2 hb0 hmc hmr k2 k3 hab hac
        · exact act_6_1 hI0 hF hbn2 hb0 hmc hmr k2 k3 hab hac
        · exact act_6_2 hI0 hF hbn2 hb0 hmc hmr k2 k3 hab hac
        · exact act_6_3 hI0 hF hbn2 hb0 hmc hmr k2 k3 hab hac
        · exact act_7_0 hI0 hF hbn2 hb0 hmc hmr k2 k3 hab hac
        · exact act_7_1 hI0 hF hbn2 hb0 hmc hmr k2 k3 hab hac
        · exact act_7_2 hI0 hF hbn2 hb0 hmc hmr k2 k3 hab hac
        · exact act_7_3 hI0 hF hbn2 hb0 hmc hmr k2 k3 hab hac
      exact main k a rfl rfl ⟨k0, k1⟩ ha
    · simp only [g123_in, g123_0, g123_1, g123_4, g123_5, g123_6, g123_7, g123_10, g59_in, g59_0, g59_1, g59_2, g59_5, g59_6, g59_7, g59_10, g59_13, g59_14, g59_15, g59_16, g59_19, g59_22, g59_23, g59_24, g59_25, g59_26, g59_29, g59_30, g59_31, g59_32, g59_33, g59_36, g55_in, g55_0, g55_1, g55_4, g55_5, g55_6, g55_9, g55_12, g55_13, g55_16, g55_17, g219_in, g219_0, g219_1, g219_2, g219_5, g219_6, g219_7, g219_8, g219_11, g219_12, g219_13, g219_16, g219_19, g219_20, g219_21, g219_22, g219_25, g219_28, g219_29, g219_30, g219_31, g219_32, g219_35, g219_38, g219_39, nl_none, nl_int, nl_ref, Option.toList_some, Option.toList_none, List.cons_append, List.nil_append, mSetI_u, mSetL_u, Nat.add_one_ne_zero, Nat.add_eq_zero_iff, and_false, false_and, not_false_eq_true, ne_eq, j0_0, j0_1, j1_0, j1_1, if_true, if_false, ite_true, ite_false, true_and, and_true, or_true, true_or, false_or, or_false, ↓reduceIte, Nat.reduceEqDiff, Nat.reduceAdd, Nat.reduceMul, Nat.reduceSub, Int.reduceLE, Int.reduceLT, Int.reduceNeg, Int.reduceAdd, Int.reduceSub, Int.reduceEq, reduceCtorEq, jI_lt, jI_eq, jI_lt0, jI_0lt, jI_eq0, jI_0le, jn_lo, iU_row, iU_nr, iU_eq, iU_same, jI_ixn, jI_add, jI_sub, jI_nat, sh_3, sh_53, sh_80, f_3_7 hF, hmc, hmr, hbl, hbh, show ((bn : Nat) : Int) ≤ 2147483647 by omega, show (bn : Nat) ≤ 2147483647 by omega, show b < (bn : Int) by omega, show ¬ (b < 0) by omega, c132_f (z := a) (a := 0) (b := 3) ha0 ha1 ha (by omega) (by omega) (by omega) (by omega), r146_f (z := a) (a := 0) (b := 3) ha0 ha1 ha (by omega) (by omega) (by omega) (by omega), r146_t (z := b) (a := 0) (b := (bn : Int) - 1) (by omega) (by omega) (by omega) (by omega)]
      refine vI_fin (vI_of (vInv_up (vInv_bod (N := 0) hI0 (vAg_iU (vAg_iU vAg_rfl (.inl ⟨rfl, .inl rfl⟩)) (.inr (.inr (.inl ⟨rfl, rfl⟩)))) (by omega) ?_ ?_ (fun j _ hj => absurd hj (by omega)))))
      · simp only [iU_row, iU_eq, Nat.reduceEqDiff, not_false_eq_true]
        rfl
      · simp only [iU_eq]
        rfl
  · have fin : (∃ r', some (Value.int (jI 0)) = some (.int r')) ∧ vI (c + 1) (mLay e) (iU (iU I 53 3 (jI 0)) 80 43 (jI 0), E, F) := by
      refine vI_fin (vI_of (vInv_up (vInv_bod (N := 0) hI0 (vAg_iU (vAg_iU vAg_rfl (.inl ⟨rfl, .inl rfl⟩)) (.inr (.inr (.inl ⟨rfl, rfl⟩)))) (by omega) ?_ ?_ (fun j _ hj => absurd hj (by omega)))))
      · simp only [iU_row, iU_eq, Nat.reduceEqDiff, not_false_eq_true]
        rfl
      · simp only [iU_eq]
        rfl
    by_cases q : b < 0
    · simp only [g123_in, g123_0, g123_1, g123_4, g123_5, g123_6, g123_7, g123_10, g59_in, g59_0, g59_1, g59_2, g59_5, g59_6, g59_7, g59_10, g59_13, g59_14, g59_15, g59_16, g59_19, g59_22, g59_23, g59_24, g59_25, g59_26, g59_29, g59_30, g59_31, g59_32, g59_33, g59_36, g55_in, g55_0, g55_1, g55_4, g55_5, g55_6, g55_9, g55_12, g55_13, g55_16, g55_17, g219_in, g219_0, g219_1, g219_2, g219_5, g219_6, g219_7, g219_8, g219_11, g219_12, g219_13, g219_16, g219_19, g219_20, g219_21, g219_22, g219_25, g219_28, g219_29, g219_30, g219_31, g219_32, g219_35, g219_38, g219_39, nl_none, nl_int, nl_ref, Option.toList_some, Option.toList_none, List.cons_append, List.nil_append, mSetI_u, mSetL_u, Nat.add_one_ne_zero, Nat.add_eq_zero_iff, and_false, false_and, not_false_eq_true, ne_eq, j0_0, j0_1, j1_0, j1_1, if_true, if_false, ite_true, ite_false, true_and, and_true, or_true, true_or, false_or, or_false, ↓reduceIte, Nat.reduceEqDiff, Nat.reduceAdd, Nat.reduceMul, Nat.reduceSub, Int.reduceLE, Int.reduceLT, Int.reduceNeg, Int.reduceAdd, Int.reduceSub, Int.reduceEq, reduceCtorEq, jI_lt, jI_eq, jI_lt0, jI_0lt, jI_eq0, jI_0le, jn_lo, iU_row, iU_nr, iU_eq, iU_same, jI_ixn, jI_add, jI_sub, jI_nat, sh_3, sh_53, sh_80, f_3_7 hF, hmc, hmr, hbl, hbh, show ((bn : Nat) : Int) ≤ 2147483647 by omega, show (bn : Nat) ≤ 2147483647 by omega, show b < 0 by omega, r146_f (z := b) (a := 0) (b := (bn : Int) - 1) hbl hbh (by omega) (by omega) (by omega) (by omega) (by omega)]
      exact fin
    · simp only [g123_in, g123_0, g123_1, g123_4, g123_5, g123_6, g123_7, g123_10, g59_in, g59_0, g59_1, g59_2, g59_5, g59_6, g59_7, g59_10, g59_13, g59_14, g59_15, g59_16, g59_19, g59_22, g59_23, g59_24, g59_25, g59_26, g59_29, g59_30, g59_31, g59_32, g59_33, g59_36, g55_in, g55_0, g55_1, g55_4, g55_5, g55_6, g55_9, g55_12, g55_13, g55_16, g55_17, g219_in, g219_0, g219_1, g219_2, g219_5, g219_6, g219_7, g219_8, g219_11, g219_12, g219_13, g219_16, g219_19, g219_20, g219_21, g219_22, g219_25, g219_28, g219_29, g219_30, g219_31, g219_32, g219_35, g219_38, g219_39, nl_none, nl_int, nl_ref, Option.toList_some, Option.toList_none, List.cons_append, List.nil_append, mSetI_u, mSetL_u, Nat.add_one_ne_zero, Nat.add_eq_zero_iff, and_false, false_and, not_false_eq_true, ne_eq, j0_0, j0_1, j1_0, j1_1, if_true, if_false, ite_true, ite_false, true_and, and_true, or_true, true_or, false_or, or_false, ↓reduceIte, Nat.reduceEqDiff, Nat.reduceAdd, Nat.reduceMul, Nat.reduceSub, Int.reduceLE, Int.reduceLT, Int.reduceNeg, Int.reduceAdd, Int.reduceSub, Int.reduceEq, reduceCtorEq, jI_lt, jI_eq, jI_lt0, jI_0lt, jI_eq0, jI_0le, jn_lo, iU_row, iU_nr, iU_eq, iU_same, jI_ixn, jI_add, jI_sub, jI_nat, sh_3, sh_53, sh_80, f_3_7 hF, hmc, hmr, hbl, hbh, show ((bn : Nat) : Int) ≤ 2147483647 by omega, show (bn : Nat) ≤ 2147483647 by omega, show ¬ (b < 0) by omega, show ¬ (b < (bn : Int)) by omega, r146_f (z := b) (a := 0) (b := (bn : Int) - 1) hbl hbh (by omega) (by omega) (by omega) (by omega) (by omega)]
      exact fin
