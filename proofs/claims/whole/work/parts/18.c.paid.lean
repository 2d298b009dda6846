theorem yEx {E : Nat → Nat → Int64} {b : Nat} (g8 : ∀ i, i < 60 → ∃ y : Int, -128 ≤ y ∧ y ≤ 127 ∧ E 59 (b + i) = Int64.ofInt y) : ∃ y : Nat → Int, ∀ i, i < 60 → -128 ≤ y i ∧ y i ≤ 127 ∧ E 59 (b + i) = Int64.ofInt (y i) := by
  refine ⟨fun i => if h : i < 60 then (g8 i h).choose else 0, fun i hi => ?_⟩
  simp only [hi, dite_true]
  exact (g8 i hi).choose_spec
theorem api_judge (x y : Int32) : mApiI vI 108 202 [.int x, .int y] := by
  rintro c lay M hc ⟨e, I, E, F, st, nx, gf, rl, dr, n, bn, T, lw, rfl, rfl, hI⟩
  have hF := hI.1
  have hI0 := hI
  obtain ⟨-, -, h3, -, h5, h6, h7, h8, h9, h10, h11, h12, h13, h14, h15, h16, h17, h18⟩ := hI
  have hrl : rl = 70 ∨ rl = 75 := by omega
  clear h3
  have hn := h5.1
  have hc4 : vTc n T 4 I := h6
  have hrl0 : ¬ rl = 0 := by omega
  obtain ⟨z, hz0, hz1, rfl⟩ := jI_of x
  obtain ⟨w, hw0, hw1, rfl⟩ := jI_of y
  have hb50 := h13.1
  by_cases h : 0 ≤ z ∧ z ≤ 5
  · by_cases hw : 0 ≤ w ∧ w < n
    · obtain ⟨s, rfl⟩ : ∃ s : Nat, z = s := ⟨z.toNat, by omega⟩
      obtain ⟨p, rfl⟩ : ∃ s : Nat, w = s := ⟨w.toNat, by omega⟩
      have hs6 : s < 6 := by omega
      have hpn : p < n := by omega
      rcases h14.1 s hs6 with ⟨g1, g2⟩ | ⟨g1, b, g2, g3, g4⟩ | ⟨a, zz, g1, g2, g3, g4, g5, g6, g7, g8⟩
      · simp only [g108_in, g108_0, g108_1, g108_4, g108_7, g108_8, g108_11, g108_12, g108_15, g108_18, g108_19, g108_20, g108_21, g108_24, g108_25, g108_28, g108_29, g108_30, g108_33, g108_34, g108_35, g108_36, g108_39, g108_40, g108_43, g108_46, g108_47, g108_48, g108_49, g108_52, g38_in, g38_0, g38_1, g38_4, g38_5, g38_6, g38_8, g38_11, g38_12, g38_15, g38_16, g42_in, g42_0, g42_1, g42_2, g42_5, g42_8, g42_10, g42_11, g42_12, g42_13, g42_16, g42_19, g42_20, g42_23, g42_25, g202_in, g202_0, g202_1, g202_4, g202_7, g202_8, g202_9, g202_12, g202_15, g202_16, g202_17, g202_18, g202_19, g202_22, g202_23, g202_26, g202_27, g202_28, g202_31, g202_34, g202_35, g202_36, g202_37, g202_40, g198_in, g198_0, g198_1, g198_4, g198_5, g198_6, g198_7, g198_10, g198_12, g198_15, g198_16, g198_19, g198_20, g198_21, g198_24, g198_26, g198_29, g198_30, nl_none, nl_int, nl_ref, Option.toList_some, Option.toList_none, List.cons_append, List.nil_append, mSetI_u, mSetL_u, Nat.add_one_ne_zero, Nat.add_eq_zero_iff, and_false, false_and, not_false_eq_true, ne_eq, j0_0, j0_1, j1_0, j1_1, if_true, if_false, ite_true, ite_false, true_and, and_true, or_true, true_or, false_or, or_false, ↓reduceIte, Nat.reduceEqDiff, Nat.reduceAdd, Nat.reduceMul, Nat.reduceSub, Int.reduceLE, Int.reduceLT, Int.reduceNeg, Int.reduceAdd, Int.reduceSub, Int.reduceEq, reduceCtorEq, jI_lt, jI_eq, jI_lt0, jI_0lt, jI_eq0, jI_0le, jn_lo, iU_row, iU_nr, iU_eq, iU_same, jI_ixn, jI_add, jI_sub, jI_nat, sh_3, sh_4, sh_56, sh_57, sh_80, sh_94, f_3_0 hF, f_3_8 hF, f_56_0 hF, f_80_28 hF, c37_t h.1 h.2, r197_t h.1 h.2, c67_t (vTw_4 hF) hn hw.1 hw.2 hc4.2.1, r151_t hF hn hw.1 hw.2 h7.2.2.2, g1, g2, show ((s : Nat) : Int) ≤ 2147483647 by omega, show (s : Nat) ≤ 2147483647 by omega, jI_in (z := ((s : Int) : Int)) (n := 6) (by omega) (by omega) (by omega)]
        exact vI_fin (vI_same hI0)
      · simp only [g108_in, g108_0, g108_1, g108_4, g108_7, g108_8, g108_11, g108_12, g108_15, g108_18, g108_19, g108_20, g108_21, g108_24, g108_25, g108_28, g108_29, g108_30, g108_33, g108_34, g108_35, g108_36, g108_39, g108_40, g108_43, g108_46, g108_47, g108_48, g108_49, g108_52, g38_in, g38_0, g38_1, g38_4, g38_5, g38_6, g38_8, g38_11, g38_12, g38_15, g38_16, g40_in, g40_0, g40_1, g40_4, g40_5, g40_6, g40_9, g40_10, g40_13, g40_14, g42_in, g42_0, g42_1, g42_2, g42_5, g42_8, g42_10, g42_11, g42_12, g42_13, g42_16, g42_19, g42_20, g42_23, g42_25, g202_in, g202_0, g202_1, g202_4, g202_7, g202_8, g202_9, g202_12, g202_15, g202_16, g202_17, g202_18, g202_19, g202_22, g202_23, g202_26, g202_27, g202_28, g202_31, g202_34, g202_35, g202_36, g202_37, g202_40, g198_in, g198_0, g198_1, g198_4, g198_5, g198_6, g198_7, g198_10, g198_12, g198_15, g198_16, g198_19, g198_20, g198_21, g198_24, g198_26, g198_29, g198_30, nl_none, nl_int, nl_ref, Option.toList_some, Option.toList_none, List.cons_append, List.nil_append, mSetI_u, mSetL_u, Nat.add_one_ne_zero, Nat.add_eq_zero_iff, and_false, false_and, not_false_eq_true, ne_eq, j0_0, j0_1, j1_0, j1_1, if_true, if_false, ite_true, ite_false, true_and, and_true, or_true, true_or, false_or, or_false, ↓reduceIte, Nat.reduceEqDiff, Nat.reduceAdd, Nat.reduceMul, Nat.reduceSub, Int.reduceLE, Int.reduceLT, Int.reduceNeg, Int.reduceAdd, Int.reduceSub, Int.reduceEq, reduceCtorEq, jI_lt, jI_eq, jI_lt0, jI_0lt, jI_eq0, jI_0le, jn_lo, iU_row, iU_nr, iU_eq, iU_same, jI_ixn, jI_add, jI_sub, jI_nat, sh_3, sh_4, sh_56, sh_57, sh_80, sh_94, f_3_0 hF, f_3_8 hF, f_56_0 hF, f_80_28 hF, c37_t h.1 h.2, r197_t h.1 h.2, c67_t (vTw_4 hF) hn hw.1 hw.2 hc4.2.1, r151_t hF hn hw.1 hw.2 h7.2.2.2, g1, g4, show ((s : Nat) : Int) ≤ 2147483647 by omega, show (s : Nat) ≤ 2147483647 by omega, show -2147483648 ≤ (10 + (b : Int) : Int) by omega, show (10 + (b : Int) : Int) ≤ 2147483647 by omega, show ¬ (10 + (b : Int) = -1) by omega, show ¬ (10 + (b : Int) = 0) by omega, jI_in (z := ((s : Int) : Int)) (n := 6) (by omega) (by omega) (by omega)]
        exact vI_fin (vI_same hI0)
      · by_cases ha : a = 0
        · subst ha
          obtain ⟨y, hy⟩ := yEx (g8 rfl)
          have hy' : ∀ i, i < 60 → -128 ≤ y i ∧ y i ≤ 127 ∧ E 96 (60 * s + i) = Int64.ofInt (y i) := fun i hi => ⟨(hy i hi).1, (hy i hi).2.1, (h14.2 _ (by omega)).symm.trans (hy i hi).2.2⟩
          simp only [g108_in, g108_0, g108_1, g108_4, g108_7, g108_8, g108_11, g108_12, g108_15, g108_18, g108_19, g108_20, g108_21, g108_24, g108_25, g108_28, g108_29, g108_30, g108_33, g108_34, g108_35, g108_36, g108_39, g108_40, g108_43, g38_in, g38_0, g38_1, g38_4, g38_5, g38_6, g38_8, g38_11, g38_12, g38_15, g38_16, g40_in, g40_0, g40_1, g40_4, g40_5, g40_6, g40_9, g40_10, g40_13, g40_14, g42_in, g42_0, g42_1, g42_2, g42_5, g42_8, g42_10, g42_11, g42_12, g42_13, g42_16, g42_19, g42_20, g42_23, g42_25, nl_none, nl_int, nl_ref, Option.toList_some, Option.toList_none, List.cons_append, List.nil_append, mSetI_u, mSetL_u, Nat.add_one_ne_zero, Nat.add_eq_zero_iff, and_false, false_and, not_false_eq_true, ne_eq, j0_0, j0_1, j1_0, j1_1, if_true, if_false, ite_true, ite_false, true_and, and_true, or_true, true_or, false_or, or_false, ↓reduceIte, Nat.reduceEqDiff, Nat.reduceAdd, Nat.reduceMul, Nat.reduceSub, Int.reduceLE, Int.reduceLT, Int.reduceNeg, Int.reduceAdd, Int.reduceSub, Int.reduceEq, reduceCtorEq, jI_lt, jI_eq, jI_lt0, jI_0lt, jI_eq0, jI_0le, jn_lo, iU_row, iU_nr, iU_eq, iU_same, jI_ixn, jI_add, jI_sub, jI_nat, sh_3, sh_4, sh_12, sh_56, sh_57, f_3_0 hF, f_3_1 hF, f_3_8 hF, f_56_0 hF, c37_t h.1 h.2, c67_t (vTw_4 hF) hn hw.1 hw.2 hc4.2.1, g4, show ((s : Nat) : Int) ≤ 2147483647 by omega, show (s : Nat) ≤ 2147483647 by omega, jI_in (z := ((s : Int) : Int)) (n := 6) (by omega) (by omega) (by omega)]
          refine c66_12 hF hn hc4 (fun I1 h1' hc1 => ?_)
          simp only [g108_46, g108_47, g108_48, g108_49, nl_none, nl_int, nl_ref, Option.toList_some, Option.toList_none, List.cons_append, List.nil_append, mSetI_u, mSetL_u, Nat.add_one_ne_zero, Nat.add_eq_zero_iff, and_false, false_and, not_false_eq_true, ne_eq, j0_0, j0_1, j1_0, j1_1, if_true, if_false, ite_true, ite_false, true_and, and_true, or_true, true_or, false_or, or_false, ↓reduceIte, Nat.reduceEqDiff, Nat.reduceAdd, Nat.reduceMul, Nat.reduceSub, Int.reduceLE, Int.reduceLT, Int.reduceNeg, Int.reduceAdd, Int.reduceSub, Int.reduceEq, reduceCtorEq, jI_lt, jI_eq, jI_lt0, jI_0lt, jI_eq0, jI_0le, jn_lo, iU_row, iU_nr, iU_eq, iU_same, jI_ixn, jI_add, jI_sub, jI_nat, sh_3]
          refine c139 hF hrl h5 (vLw_ag h1' (fun r j q => by omega) h15) hs6 hpn g3 ((h1' 58 s (by omega)).trans g6) hy hc1 (fun I2 h2' => ?_)
          have h02 : vAg vScr I I2 := vAg_mono (vAg_tr (vAg_mono h1' (fun r j q => .inl ⟨q.1, by omega⟩)) h2') (fun r j q => sc_th hrl q)
          simp only [g108_52, nl_none, nl_int, nl_ref, Option.toList_some, Option.toList_none, List.cons_append, List.nil_append, mSetI_u, mSetL_u, Nat.add_one_ne_zero, Nat.add_eq_zero_iff, and_false, false_and, not_false_eq_true, ne_eq, j0_0, j0_1, j1_0, j1_1, if_true, if_false, ite_true, ite_false, true_and, and_true, or_true, true_or, false_or, or_false, ↓reduceIte, Nat.reduceEqDiff, Nat.reduceAdd, Nat.reduceMul, Nat.reduceSub, Int.reduceLE, Int.reduceLT, Int.reduceNeg, Int.reduceAdd, Int.reduceSub, Int.reduceEq, reduceCtorEq, jI_lt, jI_eq, jI_lt0, jI_0lt, jI_eq0, jI_0le, jn_lo, iU_row, iU_nr, iU_eq, iU_same, jI_ixn, jI_add, jI_sub, jI_nat]
          refine ⟨sh_80, ?_⟩
          have hR2 : vTownR n T (I2 81) (I2 80 2) := vTr_sc h02 h7
          have e94 : I2 94 s = jI 0 := (h02 94 s (by unfold vScr; omega)).trans g5
          have e95 : I2 95 s = jI zz := (h02 95 s (by unfold vScr; omega)).trans g7
          simp only [g202_in, g202_0, g202_1, g202_4, g202_7, g202_8, g202_9, g202_12, g202_15, g202_16, g202_17, g202_18, g202_19, g202_22, g202_23, g202_26, g202_27, g202_28, g202_31, g202_34, g202_35, g202_36, g202_37, g198_in, g198_0, g198_1, g198_4, g198_5, g198_6, g198_7, g198_10, g198_12, g198_15, g198_16, g198_19, g198_20, g198_21, g198_24, g198_26, g198_29, g198_30, nl_none, nl_int, nl_ref, Option.toList_some, Option.toList_none, List.cons_append, List.nil_append, mSetI_u, mSetL_u, Nat.add_one_ne_zero, Nat.add_eq_zero_iff, and_false, false_and, not_false_eq_true, ne_eq, j0_0, j0_1, j1_0, j1_1, if_true, if_false, ite_true, ite_false, true_and, and_true, or_true, true_or, false_or, or_false, ↓reduceIte, Nat.reduceEqDiff, Nat.reduceAdd, Nat.reduceMul, Nat.reduceSub, Int.reduceLE, Int.reduceLT, Int.reduceNeg, Int.reduceAdd, Int.reduceSub, Int.reduceEq, reduceCtorEq, jI_lt, jI_eq, jI_lt0, jI_0lt, jI_eq0, jI_0le, jn_lo, iU_row, iU_nr, iU_eq, iU_same, jI_ixn, jI_add, jI_sub, jI_nat, sh_80, sh_94, f_80_28 hF, r197_t h.1 h.2, r151_t hF hn hw.1 hw.2 hR2.2.2.2, e94, show ((s : Nat) : Int) ≤ 2147483647 by omega, show (s : Nat) ≤ 2147483647 by omega, jI_in (z := ((s : Int) : Int)) (n := 6) (by omega) (by omega) (by omega)]
          refine r201 hF h5 h15.1 hR2 (vLr_sc h02 h16) hs6 hpn g3 e95 hy' (fun I3 h3' h81 => ?_)
          simp only [g202_40, nl_none, nl_int, nl_ref, Option.toList_some, Option.toList_none, List.cons_append, List.nil_append, mSetI_u, mSetL_u, Nat.add_one_ne_zero, Nat.add_eq_zero_iff, and_false, false_and, not_false_eq_true, ne_eq, j0_0, j0_1, j1_0, j1_1, if_true, if_false, ite_true, ite_false, true_and, and_true, or_true, true_or, false_or, or_false, ↓reduceIte, Nat.reduceEqDiff, Nat.reduceAdd, Nat.reduceMul, Nat.reduceSub, Int.reduceLE, Int.reduceLT, Int.reduceNeg, Int.reduceAdd, Int.reduceSub, Int.reduceEq, reduceCtorEq, jI_lt, jI_eq, jI_lt0, jI_0lt, jI_eq0, jI_0le, jn_lo, iU_row, iU_nr, iU_eq, iU_same, jI_ixn, jI_add, jI_sub, jI_nat]
          exact vI_fin (vI_ag hI0 (vAg_tr (vAg_mono h02 (fun _ _ q => .inl q)) h3') (fun j hj => (h81 j hj).trans (h02 81 j (fun q => (sc_R q).1 rfl))))
        · simp only [g108_in, g108_0, g108_1, g108_4, g108_7, g108_8, g108_11, g108_12, g108_15, g108_18, g108_19, g108_20, g108_21, g108_24, g108_25, g108_28, g108_29, g108_30, g108_33, g108_34, g108_35, g108_36, g108_39, g108_40, g108_43, g108_46, g108_47, g108_48, g108_49, g108_52, g38_in, g38_0, g38_1, g38_4, g38_5, g38_6, g38_8, g38_11, g38_12, g38_15, g38_16, g40_in, g40_0, g40_1, g40_4, g40_5, g40_6, g40_9, g40_10, g40_13, g40_14, g42_in, g42_0, g42_1, g42_2, g42_5, g42_8, g42_10, g42_11, g42_12, g42_13, g42_16, g42_19, g42_20, g42_23, g42_25, g202_in, g202_0, g202_1, g202_4, g202_7, g202_8, g202_9, g202_12, g202_15, g202_16, g202_17, g202_18, g202_19, g202_22, g202_23, g202_26, g202_27, g202_28, g202_31, g202_34, g202_35, g202_36, g202_37, g202_40, g198_in, g198_0, g198_1, g198_4, g198_5, g198_6, g198_7, g198_10, g198_12, g198_15, g198_16, g198_19, g198_20, g198_21, g198_24, g198_26, g198_29, g198_30, nl_none, nl_int, nl_ref, Option.toList_some, Option.toList_none, List.cons_append, List.nil_append, mSetI_u, mSetL_u, Nat.add_one_ne_zero, Nat.add_eq_zero_iff, and_false, false_and, not_false_eq_true, ne_eq, j0_0, j0_1, j1_0, j1_1, if_true, if_false, ite_true, ite_false, true_and, and_true, or_true, true_or, false_or, or_false, ↓reduceIte, Nat.reduceEqDiff, Nat.reduceAdd, Nat.reduceMul, Nat.reduceSub, Int.reduceLE, Int.reduceLT, Int.reduceNeg, Int.reduceAdd, Int.reduceSub, Int.reduceEq, reduceCtorEq, jI_lt, jI_eq, jI_lt0, jI_0lt, jI_eq0, jI_0le, jn_lo, iU_row, iU_nr, iU_eq, iU_same, jI_ixn, jI_add, jI_sub, jI_nat, sh_3, sh_4, sh_56, sh_57, sh_80, sh_94, f_3_0 hF, f_3_8 hF, f_56_0 hF, f_80_28 hF, c37_t h.1 h.2, r197_t h.1 h.2, c67_t (vTw_4 hF) hn hw.1 hw.2 hc4.2.1, r151_t hF hn hw.1 hw.2 h7.2.2.2, g4, g5, show ((s : Nat) : Int) ≤ 2147483647 by omega, show (s : Nat) ≤ 2147483647 by omega, show -2147483648 ≤ (a : Int) by omega, show (a : Int) ≤ 2147483647 by omega, show ¬ (a = 6) by omega, show ¬ (a = -1) by omega, show ¬ (a = 0) by omega, jI_in (z := ((s : Int) : Int)) (n := 6) (by omega) (by omega) (by omega)]
          exact vI_fin (vI_same hI0)
    · simp only [g108_in, g108_0, g108_1, g108_4, g108_7, g108_8, g108_11, g108_12, g108_15, g108_18, g108_19, g108_20, g108_21, g108_24, g108_25, g108_28, g108_29, g108_30, g108_33, g108_34, g108_35, g108_36, g108_39, g108_40, g108_43, g108_46, g108_47, g108_48, g108_49, g108_52, g202_in, g202_0, g202_1, g202_4, g202_7, g202_8, g202_9, g202_12, g202_15, g202_16, g202_17, g202_18, g202_19, g202_22, g202_23, g202_26, g202_27, g202_28, g202_31, g202_34, g202_35, g202_36, g202_37, g202_40, nl_none, nl_int, nl_ref, Option.toList_some, Option.toList_none, List.cons_append, List.nil_append, mSetI_u, mSetL_u, Nat.add_one_ne_zero, Nat.add_eq_zero_iff, and_false, false_and, not_false_eq_true, ne_eq, j0_0, j0_1, j1_0, j1_1, if_true, if_false, ite_true, ite_false, true_and, and_true, or_true, true_or, false_or, or_false, ↓reduceIte, Nat.reduceEqDiff, Nat.reduceAdd, Nat.reduceMul, Nat.reduceSub, Int.reduceLE, Int.reduceLT, Int.reduceNeg, Int.reduceAdd, Int.reduceSub, Int.reduceEq, reduceCtorEq, jI_lt, jI_eq, jI_lt0, jI_0lt, jI_eq0, jI_0le, jn_lo, iU_row, iU_nr, iU_eq, iU_same, jI_ixn, jI_add, jI_sub, jI_nat, sh_3, sh_4, sh_80, f_3_0 hF, c37_t h.1 h.2, r197_t h.1 h.2, c67_f (vTw_4 hF) hn hw0 hw1 hw hc4.2.1, r151_f hF hn hw0 hw1 hw h7.2.2.2]
      exact vI_fin (vI_same hI0)
  · simp only [g108_in, g108_0, g108_1, g108_4, g108_7, g108_8, g108_11, g108_12, g108_15, g108_18, g108_19, g108_20, g108_21, g108_24, g108_25, g108_28, g108_29, g108_30, g108_33, g108_34, g108_35, g108_36, g108_39, g108_40, g108_43, g108_46, g108_47, g108_48, g108_49, g108_52, g202_in, g202_0, g202_1, g202_4, g202_7, g202_8, g202_9, g202_12, g202_15, g202_16, g202_17, g202_18, g202_19, g202_22, g202_23, g202_26, g202_27, g202_28, g202_31, g202_34, g202_35, g202_36, g202_37, g202_40, nl_none, nl_int, nl_ref, Option.toList_some, Option.toList_none, List.cons_append, List.nil_append, mSetI_u, mSetL_u, Nat.add_one_ne_zero, Nat.add_eq_zero_iff, and_false, false_and, not_false_eq_true, ne_eq, j0_0, j0_1, j1_0, j1_1, if_true, if_false, ite_true, ite_false, true_and, and_true, or_true, true_or, false_or, or_false, ↓reduceIte, Nat.reduceEqDiff, Nat.reduceAdd, Nat.reduceMul, Nat.reduceSub, Int.reduceLE, Int.reduceLT, Int.reduceNeg, Int.reduceAdd, Int.reduceSub, Int.reduceEq, reduceCtorEq, jI_lt, jI_eq, jI_lt0, jI_0lt, jI_eq0, jI_0le, jn_lo, iU_row, iU_nr, iU_eq, iU_same, jI_ixn, jI_add, jI_sub, jI_nat, sh_3, sh_80, c37_f hz0 hz1 h, r197_f hz0 hz1 h]
    exact vI_fin (vI_same hI0)
/-! ===== paid ===== -/
def pTog (T : Nat → Nat → Int) (n : Nat) : Nat → Int
  | 0 => 0
  | m + 1 => pTog T n m + if 0 ≤ T 4 m ∧ pCar T (T 4 m).toNat n = 1 then T 1 m else 0
theorem pTog_in {n : Nat} {T : Nat → Nat → Int} (hok : vTownOk n T) : ∀ m : Nat, m ≤ n → 0 ≤ pTog T n m ∧ pTog T n m ≤ 9 * m
  | 0, _ => ⟨Int.le_refl 0, Int.le_refl 0⟩
  | m + 1, hm => by
    have h := pTog_in hok m (by omega)
    have h' := vOk_w hok (show m < n by omega)
    simp only [pTog]
    split <;> omega
section PAI
variable {d n : Nat} {e : List mShp} {I : Nat → Nat → Int32} {E : Nat → Nat → Int64} {F : Nat → Nat → Nat} {P : mPost} {T : Nat → Nat → Int} {lw : vLw} {st nx gf rl dr : Nat}
theorem c77_e (hF : mFx F st nx gf rl dr) (hok : vTownOk n T) {i : Nat} (hi : i < n) (hc : vTc n T 4 I) (hca : ∀ j, j < n → I (4 + 6) j = jI (pCar T j n)) : mF (d + 2) 77 [.ref 4, .int (jI i)] (mLay e) (I, E, F) P = P (some (.int (jI (if 0 ≤ T 4 i ∧ pCar T (T 4 i).toNat n = 1 then 1 else 0)))) (mLay e) (I, E, F) := by
  have hw := vOk_w hok hi
  have w1 : -1 ≤ T 4 i := hw.2.2.2.2.2.2.2.2.1
  have w2 : T 4 i < n := hw.2.2.2.2.2.2.2.2.2.1
  refine mF_det ?_ P
  refine c77 (m := pCar T (T 4 i).toNat n) (vTw_4 hF) hok.1 hi hc.2.1 (hc.1 i hi).2.2.2.2 w1 w2 (fun j hj => ?_) (fun b hb => ?_)
  · have e : (T 4 i).toNat = j := by omega
    rw [e]
    exact ⟨hca j (by omega), Nat.le_trans (pCar_le T j n) hok.1⟩
  · rcases hb with ⟨rfl, h1, h2⟩ | ⟨rfl, h⟩
    · rw [if_pos ⟨h1, h2⟩]
      exact ⟨rfl, rfl, rfl⟩
    · rw [if_neg h]
      exact ⟨rfl, rfl, rfl⟩
theorem c111_a (hF : mFx F st nx gf rl dr) (hok : vTownOk n T) (hc : vTc n T 4 I) (hca : ∀ j, j < n → I (4 + 6) j = jI (pCar T j n)) {a1 a2 : Int32} (hP : mG (d + 3) 111 92 [some (.ref 3), some (.int a1), some (.int a2), some (.int (jI (pTog T n n))), some (.int (jI n))] [] (mLay e) (I, E, F) P) : ∀ (k i : Nat) (z : Int), i + k = n → z = i → mG (d + 3) 111 49 [some (.ref 3), some (.int a1), some (.int a2), some (.int (jI (pTog T n i))), some (.int (jI z))] [] (mLay e) (I, E, F) P
  | 0, i, z, hi, hz => by
    have hn := hok.1
    subst hz
    have e : i = n := by omega
    subst e
    rw [g111_49]
    simp only [g111_51, g111_52, g111_55, g111_58, g111_61, g111_62, g111_65, g111_67, g111_70, g111_73, g111_74, g111_75, g111_78, g111_81, g111_83, g111_84, g111_85, g111_86, g111_89, nl_none, nl_int, nl_ref, Option.toList_some, Option.toList_none, List.cons_append, List.nil_append, mSetI_u, mSetL_u, Nat.add_one_ne_zero, Nat.add_eq_zero_iff, and_false, false_and, not_false_eq_true, ne_eq, j0_0, j0_1, j1_0, j1_1, if_true, if_false, ite_true, ite_false, true_and, and_true, or_true, true_or, false_or, or_false, ↓reduceIte, Nat.reduceEqDiff, Nat.reduceAdd, Nat.reduceMul, Nat.reduceSub, Int.reduceLE, Int.reduceLT, Int.reduceNeg, Int.reduceAdd, Int.reduceSub, Int.reduceEq, reduceCtorEq, jI_lt, jI_eq, jI_lt0, jI_0lt, jI_eq0, jI_0le, jn_lo, iU_row, iU_nr, iU_eq, iU_same, jI_ixn, jI_add, jI_sub, jI_nat, sh_3, sh_4, f_3_0 hF, hc.2.1, show ((i : Nat) : Int) ≤ 2147483647 by omega, show (i : Nat) ≤ 2147483647 by omega, show ¬ ((i : Int) < (i : Int)) by omega]
    exact hP
  | k + 1, i, z, hi, hz => by
    have ih := c111_a hF hok hc hca (a1 := a1) (a2 := a2) hP k (i + 1)
    have hn := hok.1
    have hin : i < n := by omega
    have hg := (hc.1 i hin).2.1
    have h77 := fun (P : mPost) => c77_e (d := d) (e := e) (E := E) (P := P) hF hok hin hc hca
    subst hz
    rw [g111_49]
    by_cases q : 0 ≤ T 4 i ∧ pCar T (T 4 i).toNat n = 1
    · have ih' := ih ((i : Int) + 1) (by omega) (by omega)
      rw [pTog, if_pos q] at ih'
      simp only [if_pos q] at h77
      simp only [g111_51, g111_52, g111_55, g111_58, g111_61, g111_62, g111_65, g111_67, g111_70, g111_73, g111_74, g111_75, g111_78, g111_81, g111_83, g111_84, g111_85, g111_86, g111_89, nl_none, nl_int, nl_ref, Option.toList_some, Option.toList_none, List.cons_append, List.nil_append, mSetI_u, mSetL_u, Nat.add_one_ne_zero, Nat.add_eq_zero_iff, and_false, false_and, not_false_eq_true, ne_eq, j0_0, j0_1, j1_0, j1_1, if_true, if_false, ite_true, ite_false, true_and, and_true, or_true, true_or, false_or, or_false, ↓reduceIte, Nat.reduceEqDiff, Nat.reduceAdd, Nat.reduceMul, Nat.reduceSub, Int.reduceLE, Int.reduceLT, Int.reduceNeg, Int.reduceAdd, Int.reduceSub, Int.reduceEq, reduceCtorEq, jI_lt, jI_eq, jI_lt0, jI_0lt, jI_eq0, jI_0le, jn_lo, iU_row, iU_nr, iU_eq, iU_same, jI_ixn, jI_add, jI_sub, jI_nat, sh_3, sh_4, sh_6, f_3_0 hF, f_4_2 hF, hc.2.1, hg, h77, show ((i : Nat) : Int) ≤ 2147483647 by omega, show (i : Nat) ≤ 2147483647 by omega, show ((n : Nat) : Int) ≤ 2147483647 by omega, show (n : Nat) ≤ 2147483647 by omega, show (i : Int) < (n : Int) by omega, jI_in (z := ((i : Int) : Int)) (n := 8) (by omega) (by omega) (by omega)]
      exact ih'
    · have ih' := ih ((i : Int) + 1) (by omega) (by omega)
      rw [pTog, if_neg q, Int.add_zero] at ih'
      simp only [if_neg q] at h77
      simp only [g111_51, g111_52, g111_55, g111_58, g111_61, g111_62, g111_65, g111_67, g111_70, g111_73, g111_74, g111_75, g111_78, g111_81, g111_83, g111_84, g111_85, g111_86, g111_89, nl_none, nl_int, nl_ref, Option.toList_some, Option.toList_none, List.cons_append, List.nil_append, mSetI_u, mSetL_u, Nat.add_one_ne_zero, Nat.add_eq_zero_iff, and_false, false_and, not_false_eq_true, ne_eq, j0_0, j0_1, j1_0, j1_1, if_true, if_false, ite_true, ite_false, true_and, and_true, or_true, true_or, false_or, or_false, ↓reduceIte, Nat.reduceEqDiff, Nat.reduceAdd, Nat.reduceMul, Nat.reduceSub, Int.reduceLE, Int.reduceLT, Int.reduceNeg, Int.reduceAdd, Int.reduceSub, Int.reduceEq, reduceCtorEq, jI_lt, jI_eq, jI_lt0, jI_0lt, jI_eq0, jI_0le, jn_lo, iU_row, iU_nr, iU_eq, iU_same, jI_ixn, jI_add, jI_sub, jI_nat, sh_3, sh_4, f_3_0 hF, hc.2.1, h77, show ((i : Nat) : Int) ≤ 2147483647 by omega, show (i : Nat) ≤ 2147483647 by omega, show ((n : Nat) : Int) ≤ 2147483647 by omega, show (n : Nat) ≤ 2147483647 by omega, show (i : Int) < (n : Int) by omega]
      exact ih'
theorem r205_a (hF : mFx F st nx gf rl dr) (hok : vTownOk n T) (hR : vTownR n T (I 81) (I 80 2)) {p : Nat} (hp : p < n) {a2 : Int32} {G : Int} (hG : G = if 0 ≤ T 4 p ∧ pCar T (T 4 p).toNat n = 1 then T 1 p else 0) (hP : ∀ a6, mG (d + 3) 205 121 [some (.ref 80), some (.int (jI p)), some (.int a2), some (.int (jI (pTog T n n))), some (.int (jI G)), some (.int (jI n)), a6] [] (mLay e) (I, E, F) P) : ∀ (k i : Nat) (z x : Int) a6, i + k = n → z = i → (x = if p < i then G else 0) → mG (d + 3) 205 29 [some (.ref 80), some (.int (jI p)), some (.int a2), some (.int (jI (pTog T n i))), some (.int (jI x)), some (.int (jI z)), a6] [] (mLay e) (I, E, F) P
  | 0, i, z, x, a6, hi, hz, hx => by
    have hn := hok.1
    subst hz
    have e : i = n := by omega
    subst e
    rw [if_pos hp] at hx
    subst hx
    rw [g205_29]
    simp only [g205_31, g205_32, g205_35, g205_38, g205_39, g205_41, g205_42, g205_45, g205_46, g205_49, g205_50, g205_51, g205_53, g205_54, g205_57, g205_60, g205_61, g205_64, g205_65, g205_68, g205_69, g205_71, g205_72, g205_74, g205_77, g205_78, g205_80, g205_81, g205_84, g205_87, g205_88, g205_89, g205_90, g205_92, g205_95, g205_97, g205_98, g205_101, g205_102, g205_104, g205_105, g205_108, g205_111, g205_113, g205_115, g205_118, nl_none, nl_int, nl_ref, Option.toList_some, Option.toList_none, List.cons_append, List.nil_append, mSetI_u, mSetL_u, Nat.add_one_ne_zero, Nat.add_eq_zero_iff, and_false, false_and, not_false_eq_true, ne_eq, j0_0, j0_1, j1_0, j1_1, if_true, if_false, ite_true, ite_false, true_and, and_true, or_true, true_or, false_or, or_false, ↓reduceIte, Nat.reduceEqDiff, Nat.reduceAdd, Nat.reduceMul, Nat.reduceSub, Int.reduceLE, Int.reduceLT, Int.reduceNeg, Int.reduceAdd, Int.reduceSub, Int.reduceEq, reduceCtorEq, jI_lt, jI_eq, jI_lt0, jI_0lt, jI_eq0, jI_0le, jn_lo, iU_row, iU_nr, iU_eq, iU_same, jI_ixn, jI_add, jI_sub, jI_nat, sh_80, hR.2.2.2, show ((i : Nat) : Int) ≤ 2147483647 by omega, show (i : Nat) ≤ 2147483647 by omega, show ¬ ((i : Int) < (i : Int)) by omega]
    exact hP _
  | k + 1, i, z, x, a6, hi, hz, hx => by
    have ih := r205_a hF hok hR hp (a2 := a2) hG hP k (i + 1)
    have hn := hok.1
    have hin : i < n := by omega
    have hw := vOk_w hok hin
    have w1 : -1 ≤ T 4 i ∧ T 4 i < n := ⟨hw.2.2.2.2.2.2.2.2.1, hw.2.2.2.2.2.2.2.2.2.1⟩
    have k4 := hR.1 i hin 4 (by omega)
    have k1 := hR.1 i hin 1 (by omega)
    subst hz
    rw [g205_29]
    rcases (by omega : T 4 i = -1 ∨ 0 ≤ T 4 i) with q | q
    · have ih' := ih ((i : Int) + 1) x (some (.int (jI 0))) (by omega) (by omega) (by
        rw [hx]
        by_cases e : i = p
        · subst e
          rw [if_neg (by omega), if_pos (by omega), hG, if_neg (by omega)]
        · by_cases e' : p < i
          · rw [if_pos e', if_pos (by omega)]
          · rw [if_neg e', if_neg (by omega)])
      rw [pTog, if_neg (by omega), Int.add_zero] at ih'
      simp only [g205_31, g205_32, g205_35, g205_38, g205_39, g205_41, g205_42, g205_45, g205_46, g205_49, g205_50, g205_51, g205_53, g205_54, g205_57, g205_60, g205_61, g205_64, g205_65, g205_68, g205_69, g205_71, g205_72, g205_74, g205_77, g205_78, g205_80, g205_81, g205_84, g205_87, g205_88, g205_89, g205_90, g205_92, g205_95, g205_97, g205_98, g205_101, g205_102, g205_104, g205_105, g205_108, g205_111, g205_113, g205_115, g205_118, nl_none, nl_int, nl_ref, Option.toList_some, Option.toList_none, List.cons_append, List.nil_append, mSetI_u, mSetL_u, Nat.add_one_ne_zero, Nat.add_eq_zero_iff, and_false, false_and, not_false_eq_true, ne_eq, j0_0, j0_1, j1_0, j1_1, if_true, if_false, ite_true, ite_false, true_and, and_true, or_true, true_or, false_or, or_false, ↓reduceIte, Nat.reduceEqDiff, Nat.reduceAdd, Nat.reduceMul, Nat.reduceSub, Int.reduceLE, Int.reduceLT, Int.reduceNeg, Int.reduceAdd, Int.reduceSub, Int.reduceEq, reduceCtorEq, jI_lt, jI_eq, jI_lt0, jI_0lt, jI_eq0, jI_0le, jn_lo, iU_row, iU_nr, iU_eq, iU_same, jI_ixn, jI_add, jI_sub, jI_nat, sh_80, hR.2.2.2, r152 hF, Int.reduceToNat, k4, q, show ((i : Nat) : Int) ≤ 2147483647 by omega, show (i : Nat) ≤ 2147483647 by omega, show ((n : Nat) : Int) ≤ 2147483647 by omega, show (n : Nat) ≤ 2147483647 by omega, show (i : Int) < (n : Int) by omega, show i ≤ 7 by omega, Int.add_zero]
      exact ih'
    · obtain ⟨w, hw⟩ : ∃ w : Nat, T 4 i = w := ⟨(T 4 i).toNat, by omega⟩
      have hkc := pCar_le T w n
      have h176 := fun (P : mPost) => r176 (d := d + 1) (e := e) (I := I) (E := E) (P := P) hF hok (show w ≤ 8 by omega) hR
      have ew : (T 4 i).toNat = w := by omega
      by_cases q1 : pCar T w n = 1
      · by_cases e : i = p
        · subst e
          have ih' := ih ((i : Int) + 1) (T 1 i) (some (.int (jI 1))) (by omega) (by omega) (by
            rw [if_pos (by omega), hG, ew, if_pos ⟨by omega, q1⟩])
          rw [pTog, ew, if_pos ⟨by omega, q1⟩] at ih'
          simp only [g205_31, g205_32, g205_35, g205_38, g205_39, g205_41, g205_42, g205_45, g205_46, g205_49, g205_50, g205_51, g205_53, g205_54, g205_57, g205_60, g205_61, g205_64, g205_65, g205_68, g205_69, g205_71, g205_72, g205_74, g205_77, g205_78, g205_80, g205_81, g205_84, g205_87, g205_88, g205_89, g205_90, g205_92, g205_95, g205_97, g205_98, g205_101, g205_102, g205_104, g205_105, g205_108, g205_111, g205_113, g205_115, g205_118, nl_none, nl_int, nl_ref, Option.toList_some, Option.toList_none, List.cons_append, List.nil_append, mSetI_u, mSetL_u, Nat.add_one_ne_zero, Nat.add_eq_zero_iff, and_false, false_and, not_false_eq_true, ne_eq, j0_0, j0_1, j1_0, j1_1, if_true, if_false, ite_true, ite_false, true_and, and_true, or_true, true_or, false_or, or_false, ↓reduceIte, Nat.reduceEqDiff, Nat.reduceAdd, Nat.reduceMul, Nat.reduceSub, Int.reduceLE, Int.reduceLT, Int.reduceNeg, Int.reduceAdd, Int.reduceSub, Int.reduceEq, reduceCtorEq, jI_lt, jI_eq, jI_lt0, jI_0lt, jI_eq0, jI_0le, jn_lo, iU_row, iU_nr, iU_eq, iU_same, jI_ixn, jI_add, jI_sub, jI_nat, sh_80, hR.2.2.2, r152 hF, Int.reduceToNat, k4, k1, hw, h176, q1, show ((i : Nat) : Int) ≤ 2147483647 by omega, show (i : Nat) ≤ 2147483647 by omega, show ((n : Nat) : Int) ≤ 2147483647 by omega, show (n : Nat) ≤ 2147483647 by omega, show ((w : Nat) : Int) ≤ 2147483647 by omega, show (w : Nat) ≤ 2147483647 by omega, show (i : Int) < (n : Int) by omega, show i ≤ 7 by omega, show ¬ ((w : Int) = -1) by omega, show ((1 : Nat) : Int) = 1 from rfl, eq_self]
          exact ih'
        · have ih' := ih ((i : Int) + 1) x (some (.int (jI 1))) (by omega) (by omega) (by
            rw [hx]
            by_cases e' : p < i
            · rw [if_pos e', if_pos (by omega)]
            · rw [if_neg e', if_neg (by omega)])
          rw [pTog, ew, if_pos ⟨by omega, q1⟩] at ih'
          simp only [g205_31, g205_32, g205_35, g205_38, g205_39, g205_41, g205_42, g205_45, g205_46, g205_49, g205_50, g205_51, g205_53, g205_54, g205_57, g205_60, g205_61, g205_64, g205_65, g205_68, g205_69, g205_71, g205_72, g205_74, g205_77, g205_78, g205_80, g205_81, g205_84, g205_87, g205_88, g205_89, g205_90, g205_92, g205_95, g205_97, g205_98, g205_101, g205_102, g205_104, g205_105, g205_108, g205_111, g205_113, g205_115, g205_118, nl_none, nl_int, nl_ref, Option.toList_some, Option.toList_none, List.cons_append, List.nil_append, mSetI_u, mSetL_u, Nat.add_one_ne_zero, Nat.add_eq_zero_iff, and_false, false_and, not_false_eq_true, ne_eq, j0_0, j0_1, j1_0, j1_1, if_true, if_false, ite_true, ite_false, true_and, and_true, or_true, true_or, false_or, or_false, ↓reduceIte, Nat.reduceEqDiff, Nat.reduceAdd, Nat.reduceMul, Nat.reduceSub, Int.reduceLE, Int.reduceLT, Int.reduceNeg, Int.reduceAdd, Int.reduceSub, Int.reduceEq, reduceCtorEq, jI_lt, jI_eq, jI_lt0, jI_0lt, jI_eq0, jI_0le, jn_lo, iU_row, iU_nr, iU_eq, iU_same, jI_ixn, jI_add, jI_sub, jI_nat, sh_80, hR.2.2.2, r152 hF, Int.reduceToNat, k4, k1, hw, h176, q1, show ((i : Nat) : Int) ≤ 2147483647 by omega, show (i : Nat) ≤ 2147483647 by omega, show ((n : Nat) : Int) ≤ 2147483647 by omega, show (n : Nat) ≤ 2147483647 by omega, show ((w : Nat) : Int) ≤ 2147483647 by omega, show (w : Nat) ≤ 2147483647 by omega, show ((p : Nat) : Int) ≤ 2147483647 by omega, show (p : Nat) ≤ 2147483647 by omega, show (i : Int) < (n : Int) by omega, show i ≤ 7 by omega, show ¬ ((w : Int) = -1) by omega, show ¬ ((i : Int) = (p : Int)) by omega, show ((1 : Nat) : Int) = 1 from rfl]
          exact ih'
      · have ih' := ih ((i : Int) + 1) x (some (.int (jI 0))) (by omega) (by omega) (by
          rw [hx]
          by_cases e : i = p
          · subst e
            rw [if_neg (by omega), if_pos (by omega), hG, ew, if_neg (fun w => q1 w.2)]
          · by_cases e' : p < i
            · rw [if_pos e', if_pos (by omega)]
            · rw [if_neg e', if_neg (by omega)])
        rw [pTog, ew, if_neg (fun w => q1 w.2), Int.add_zero] at ih'
        simp only [g205_31, g205_32, g205_35, g205_38, g205_39, g205_41, g205_42, g205_45, g205_46, g205_49, g205_50, g205_51, g205_53, g205_54, g205_57, g205_60, g205_61, g205_64, g205_65, g205_68, g205_69, g205_71, g205_72, g205_74, g205_77, g205_78, g205_80, g205_81, g205_84, g205_87, g205_88, g205_89, g205_90, g205_92, g205_95, g205_97, g205_98, g205_101, g205_102, g205_104, g205_105, g205_108, g205_111, g205_113, g205_115, g205_118, nl_none, nl_int, nl_ref, Option.toList_some, Option.toList_none, List.cons_append, List.nil_append, mSetI_u, mSetL_u, Nat.add_one_ne_zero, Nat.add_eq_zero_iff, and_false, false_and, not_false_eq_true, ne_eq, j0_0, j0_1, j1_0, j1_1, if_true, if_false, ite_true, ite_false, true_and, and_true, or_true, true_or, false_or, or_false, ↓reduceIte, Nat.reduceEqDiff, Nat.reduceAdd, Nat.reduceMul, Nat.reduceSub, Int.reduceLE, Int.reduceLT, Int.reduceNeg, Int.reduceAdd, Int.reduceSub, Int.reduceEq, reduceCtorEq, jI_lt, jI_eq, jI_lt0, jI_0lt, jI_eq0, jI_0le, jn_lo, iU_row, iU_nr, iU_eq, iU_same, jI_ixn, jI_add, jI_sub, jI_nat, sh_80, hR.2.2.2, r152 hF, Int.reduceToNat, k4, hw, h176, show ((i : Nat) : Int) ≤ 2147483647 by omega, show (i : Nat) ≤ 2147483647 by omega, show ((n : Nat) : Int) ≤ 2147483647 by omega, show (n : Nat) ≤ 2147483647 by omega, show ((w : Nat) : Int) ≤ 2147483647 by omega, show (w : Nat) ≤ 2147483647 by omega, show ((pCar T w n : Nat) : Int) ≤ 2147483647 by omega, show (pCar T w n : Nat) ≤ 2147483647 by omega, show (i : Int) < (n : Int) by omega, show i ≤ 7 by omega, show ¬ ((w : Int) = -1) by omega, show ¬ ((pCar T w n : Int) = 1) by omega, Int.add_zero]
        exact ih'
end PAI
theorem api_paid (x y : Int32) : mApiI vI 111 205 [.int x, .int y] := by
  rintro c lay M hc ⟨e, I, E, F, st, nx, gf, rl, dr, n, bn, T, lw, rfl, rfl, hI⟩
  have hF := hI.1
  have hI0 := hI
  obtain ⟨-, -, h3, -, h5, h6, h7, h8, h9, h10, h11, h12, h13, h14, h15, h16, h17, h18⟩ := hI
  have hrl : rl = 70 ∨ rl = 75 := by omega
  clear h3
  have hn := h5.1
  have hc4 : vTc n T 4 I := h6
  have hrl0 : ¬ rl = 0 := by omega
  obtain ⟨z, hz0, hz1, rfl⟩ := jI_of x
  obtain ⟨v, hv0, hv1, rfl⟩ := jI_of y
  by_cases h : 0 ≤ z ∧ z < n
  · by_cases hv : 0 ≤ v ∧ v ≤ 9999
    · obtain ⟨p, rfl⟩ : ∃ s : Nat, z = s := ⟨z.toNat, by omega⟩
      have hpn : p < n := by omega
      have hwh : ∀ j, j < n → I (4 + 5) j = jI (T 4 j) ∧ -1 ≤ T 4 j ∧ T 4 j < n := fun j hj => ⟨(hc4.1 j hj).2.2.2.2, (vOk_w h5 hj).2.2.2.2.2.2.2.2.1, (vOk_w h5 hj).2.2.2.2.2.2.2.2.2.1⟩
      simp only [g111_in, g111_0, g111_1, g111_4, g111_5, g111_8, g111_11, g111_12, g111_13, g111_16, g111_19, g111_22, g111_23, g111_24, g111_25, g111_28, nl_none, nl_int, nl_ref, Option.toList_some, Option.toList_none, List.cons_append, List.nil_append, mSetI_u, mSetL_u, Nat.add_one_ne_zero, Nat.add_eq_zero_iff, and_false, false_and, not_false_eq_true, ne_eq, j0_0, j0_1, j1_0, j1_1, if_true, if_false, ite_true, ite_false, true_and, and_true, or_true, true_or, false_or, or_false, ↓reduceIte, Nat.reduceEqDiff, Nat.reduceAdd, Nat.reduceMul, Nat.reduceSub, Int.reduceLE, Int.reduceLT, Int.reduceNeg, Int.reduceAdd, Int.reduceSub, Int.reduceEq, reduceCtorEq, jI_lt, jI_eq, jI_lt0, jI_0lt, jI_eq0, jI_0le, jn_lo, iU_row, iU_nr, iU_eq, iU_same, jI_ixn, jI_add, jI_sub, jI_nat, sh_3, sh_4, f_3_0 hF, c67_t (vTw_4 hF) hn h.1 h.2 hc4.2.1, c132_t (z := v) (a := 0) (b := 9999) hv.1 hv.2 (by omega) (by omega)]
      refine c75 (vTw_4 hF) hn hc4.2.1 hwh (fun I1 h1' hca => ?_)
      have h01 : vAg vScr I I1 := vAg_mono h1' (fun r j q => sc_10 q)
      have hc1 : vTc n T 4 I1 := vTc_ag h1' (fun r j q => by omega) hc4
      have hR1 : vTownR n T (I1 81) (I1 80 2) := vTr_sc h01 h7
      have h77 := fun (P : mPost) => c77_e (d := 97) (e := e) (E := E) (P := P) hF h5 hpn hc1 hca
      have ht := pTog_in h5 n (Nat.le_refl n)
      have hgp := vOk_w h5 hpn
      have hg : 0 ≤ T 1 p ∧ T 1 p ≤ 9 := ⟨hgp.2.2.1, hgp.2.2.2.1⟩
      clear hgp
      have key : ∀ G r : Int, (G = if 0 ≤ T 4 p ∧ pCar T (T 4 p).toNat n = 1 then T 1 p else 0) → (r = if pTog T n n = 0 then 0 else v * G / pTog T n n) → mSh (mLay e) 80 = some (13, 44) ∧ mF 100 205 [.ref 80, .int (jI p), .int (jI v)] (mLay e) (I1, E, F) (fun v2 l2 M2 => v2 = some (.int (jI r)) ∧ (∃ q, some (Value.int (jI r)) = some (.int q)) ∧ vI (c + 1) l2 M2) := by
        intro G r hG hr
        have hG0 : 0 ≤ G ∧ G ≤ 9 := by
          rw [hG]
          split <;> omega
        have hmul : 0 ≤ v * G ∧ v * G ≤ 89991 := ⟨Int.mul_nonneg hv.1 hG0.1, by
          have h1 : v * G ≤ 9999 * G := Int.mul_le_mul_of_nonneg_right hv.2 hG0.1
          omega⟩
        refine ⟨sh_80, ?_⟩
        simp only [g205_in, g205_0, g205_1, g205_2, g205_5, g205_8, g205_9, g205_10, g205_13, g205_16, g205_19, g205_20, g205_21, g205_22, g205_23, g205_24, g205_26, g205_27, nl_none, nl_int, nl_ref, Option.toList_some, Option.toList_none, List.cons_append, List.nil_append, mSetI_u, mSetL_u, Nat.add_one_ne_zero, Nat.add_eq_zero_iff, and_false, false_and, not_false_eq_true, ne_eq, j0_0, j0_1, j1_0, j1_1, if_true, if_false, ite_true, ite_false, true_and, and_true, or_true, true_or, false_or, or_false, ↓reduceIte, Nat.reduceEqDiff, Nat.reduceAdd, Nat.reduceMul, Nat.reduceSub, Int.reduceLE, Int.reduceLT, Int.reduceNeg, Int.reduceAdd, Int.reduceSub, Int.reduceEq, reduceCtorEq, jI_lt, jI_eq, jI_lt0, jI_0lt, jI_eq0, jI_0le, jn_lo, iU_row, iU_nr, iU_eq, iU_same, jI_ixn, jI_add, jI_sub, jI_nat, sh_80, r151_t hF hn h.1 h.2 hR1.2.2.2, r146_t (z := v) (a := 0) (b := 9999) hv.1 hv.2 (by omega) (by omega)]
        refine r205_a (d := 97) (G := G) hF h5 hR1 hpn hG (fun a6 => ?_) n 0 0 0 _ (by omega) rfl (by rw [if_neg (by omega)])
        by_cases q : pTog T n n = 0
        · rw [if_pos q] at hr
          subst hr
          simp only [g205_121, g205_122, g205_125, g205_126, g205_129, g205_130, g205_132, g205_133, g205_134, g205_135, nl_none, nl_int, nl_ref, Option.toList_some, Option.toList_none, List.cons_append, List.nil_append, mSetI_u, mSetL_u, Nat.add_one_ne_zero, Nat.add_eq_zero_iff, and_false, false_and, not_false_eq_true, ne_eq, j0_0, j0_1, j1_0, j1_1, if_true, if_false, ite_true, ite_false, true_and, and_true, or_true, true_or, false_or, or_false, ↓reduceIte, Nat.reduceEqDiff, Nat.reduceAdd, Nat.reduceMul, Nat.reduceSub, Int.reduceLE, Int.reduceLT, Int.reduceNeg, Int.reduceAdd, Int.reduceSub, Int.reduceEq, reduceCtorEq, jI_lt, jI_eq, jI_lt0, jI_0lt, jI_eq0, jI_0le, jn_lo, iU_row, iU_nr, iU_eq, iU_same, jI_ixn, jI_add, jI_sub, jI_nat, q]
          exact vI_fin (vI_ag' hI0 h01)
        · rw [if_neg q] at hr
          subst hr
          simp only [g205_121, g205_122, g205_125, g205_126, g205_129, g205_130, g205_132, g205_133, g205_134, g205_135, nl_none, nl_int, nl_ref, Option.toList_some, Option.toList_none, List.cons_append, List.nil_append, mSetI_u, mSetL_u, Nat.add_one_ne_zero, Nat.add_eq_zero_iff, and_false, false_and, not_false_eq_true, ne_eq, j0_0, j0_1, j1_0, j1_1, if_true, if_false, ite_true, ite_false, true_and, and_true, or_true, true_or, false_or, or_false, ↓reduceIte, Nat.reduceEqDiff, Nat.reduceAdd, Nat.reduceMul, Nat.reduceSub, Int.reduceLE, Int.reduceLT, Int.reduceNeg, Int.reduceAdd, Int.reduceSub, Int.reduceEq, reduceCtorEq, jI_lt, jI_eq, jI_lt0, jI_0lt, jI_eq0, jI_0le, jn_lo, iU_row, iU_nr, iU_eq, iU_same, jI_ixn, jI_add, jI_sub, jI_nat, show -2147483648 ≤ (pTog T n n : Int) by omega, show (pTog T n n : Int) ≤ 2147483647 by omega, show ¬ (pTog T n n = 0) by omega, jI_mul, jI_div (a := v * G) (b := pTog T n n) hmul.1 (by omega) (by omega) (by omega)]
          exact vI_fin (vI_ag' hI0 h01)
      by_cases ha : 0 ≤ T 4 p ∧ pCar T (T 4 p).toNat n = 1
      · simp only [if_pos ha] at h77
        have key' := key (T 1 p) _ (by rw [if_pos ha]) rfl
        have hmul : 0 ≤ v * T 1 p ∧ v * T 1 p ≤ 89991 := ⟨Int.mul_nonneg hv.1 hg.1, by
          have h1 : v * T 1 p ≤ 9999 * T 1 p := Int.mul_le_mul_of_nonneg_right hv.2 hg.1
          omega⟩
        simp only [g111_31, g111_32, g111_35, g111_36, g111_39, g111_42, g111_43, g111_44, g111_45, g111_46, g111_47, nl_none, nl_int, nl_ref, Option.toList_some, Option.toList_none, List.cons_append, List.nil_append, mSetI_u, mSetL_u, Nat.add_one_ne_zero, Nat.add_eq_zero_iff, and_false, false_and, not_false_eq_true, ne_eq, j0_0, j0_1, j1_0, j1_1, if_true, if_false, ite_true, ite_false, true_and, and_true, or_true, true_or, false_or, or_false, ↓reduceIte, Nat.reduceEqDiff, Nat.reduceAdd, Nat.reduceMul, Nat.reduceSub, Int.reduceLE, Int.reduceLT, Int.reduceNeg, Int.reduceAdd, Int.reduceSub, Int.reduceEq, reduceCtorEq, jI_lt, jI_eq, jI_lt0, jI_0lt, jI_eq0, jI_0le, jn_lo, iU_row, iU_nr, iU_eq, iU_same, jI_ixn, jI_add, jI_sub, jI_nat, sh_3, sh_4, f_3_0 hF, h77]
        refine c111_a (d := 97) hF h5 hc1 hca ?_ n 0 0 (by omega) rfl
        by_cases q : pTog T n n = 0
        · rw [if_pos q] at key'
          simp only [g111_92, g111_93, g111_96, g111_97, g111_100, g111_101, g111_102, g111_105, g111_108, g111_109, g111_110, g111_111, g111_112, g111_113, nl_none, nl_int, nl_ref, Option.toList_some, Option.toList_none, List.cons_append, List.nil_append, mSetI_u, mSetL_u, Nat.add_one_ne_zero, Nat.add_eq_zero_iff, and_false, false_and, not_false_eq_true, ne_eq, j0_0, j0_1, j1_0, j1_1, if_true, if_false, ite_true, ite_false, true_and, and_true, or_true, true_or, false_or, or_false, ↓reduceIte, Nat.reduceEqDiff, Nat.reduceAdd, Nat.reduceMul, Nat.reduceSub, Int.reduceLE, Int.reduceLT, Int.reduceNeg, Int.reduceAdd, Int.reduceSub, Int.reduceEq, reduceCtorEq, jI_lt, jI_eq, jI_lt0, jI_0lt, jI_eq0, jI_0le, jn_lo, iU_row, iU_nr, iU_eq, iU_same, jI_ixn, jI_add, jI_sub, jI_nat, q]
          exact key'
        · rw [if_neg q] at key'
          simp only [g111_92, g111_93, g111_96, g111_97, g111_100, g111_101, g111_102, g111_105, g111_108, g111_109, g111_110, g111_111, g111_112, g111_113, nl_none, nl_int, nl_ref, Option.toList_some, Option.toList_none, List.cons_append, List.nil_append, mSetI_u, mSetL_u, Nat.add_one_ne_zero, Nat.add_eq_zero_iff, and_false, false_and, not_false_eq_true, ne_eq, j0_0, j0_1, j1_0, j1_1, if_true, if_false, ite_true, ite_false, true_and, and_true, or_true, true_or, false_or, or_false, ↓reduceIte, Nat.reduceEqDiff, Nat.reduceAdd, Nat.reduceMul, Nat.reduceSub, Int.reduceLE, Int.reduceLT, Int.reduceNeg, Int.reduceAdd, Int.reduceSub, Int.reduceEq, reduceCtorEq, jI_lt, jI_eq, jI_lt0, jI_0lt, jI_eq0, jI_0le, jn_lo, iU_row, iU_nr, iU_eq, iU_same, jI_ixn, jI_add, jI_sub, jI_nat, sh_3, sh_4, sh_6, f_3_0 hF, f_4_2 hF, (hc1.1 p hpn).2.1, show ((p : Nat) : Int) ≤ 2147483647 by omega, show (p : Nat) ≤ 2147483647 by omega, jI_in (z := ((p : Int) : Int)) (n := 8) (by omega) (by omega) (by omega), show -2147483648 ≤ (pTog T n n : Int) by omega, show (pTog T n n : Int) ≤ 2147483647 by omega, show 0 < pTog T n n by omega, show ¬ (pTog T n n = 0) by omega, jI_mul, jI_div (a := v * T 1 p) (b := pTog T n n) hmul.1 (by omega) (by omega) (by omega)]
          exact key'
      · simp only [if_neg ha] at h77
        have key' := key 0 0 (by rw [if_neg ha]) (by split <;> simp)
        simp only [g111_31, g111_32, g111_35, g111_36, g111_39, g111_42, g111_43, g111_44, g111_45, g111_46, g111_47, nl_none, nl_int, nl_ref, Option.toList_some, Option.toList_none, List.cons_append, List.nil_append, mSetI_u, mSetL_u, Nat.add_one_ne_zero, Nat.add_eq_zero_iff, and_false, false_and, not_false_eq_true, ne_eq, j0_0, j0_1, j1_0, j1_1, if_true, if_false, ite_true, ite_false, true_and, and_true, or_true, true_or, false_or, or_false, ↓reduceIte, Nat.reduceEqDiff, Nat.reduceAdd, Nat.reduceMul, Nat.reduceSub, Int.reduceLE, Int.reduceLT, Int.reduceNeg, Int.reduceAdd, Int.reduceSub, Int.reduceEq, reduceCtorEq, jI_lt, jI_eq, jI_lt0, jI_0lt, jI_eq0, jI_0le, jn_lo, iU_row, iU_nr, iU_eq, iU_same, jI_ixn, jI_add, jI_sub, jI_nat, sh_3, sh_4, f_3_0 hF, h77]
        exact key'
    · simp only [g111_in, g111_0, g111_1, g111_4, g111_5, g111_8, g111_11, g111_12, g111_13, g111_16, g111_19, g111_22, g111_23, g111_24, g111_25, g111_28, g111_31, g111_32, g111_35, g111_36, g111_39, g111_42, g111_43, g111_44, g111_45, g111_46, g111_47, g111_49, g111_51, g111_52, g111_55, g111_58, g111_61, g111_62, g111_65, g111_67, g111_70, g111_73, g111_74, g111_75, g111_78, g111_81, g111_83, g111_84, g111_85, g111_86, g111_89, g111_92, g111_93, g111_96, g111_97, g111_100, g111_101, g111_102, g111_105, g111_108, g111_109, g111_110, g111_111, g111_112, g111_113, g205_in, g205_0, g205_1, g205_2, g205_5, g205_8, g205_9, g205_10, g205_13, g205_16, g205_19, g205_20, g205_21, g205_22, g205_23, g205_24, g205_26, g205_27, g205_29, g205_31, g205_32, g205_35, g205_38, g205_39, g205_41, g205_42, g205_45, g205_46, g205_49, g205_50, g205_51, g205_53, g205_54, g205_57, g205_60, g205_61, g205_64, g205_65, g205_68, g205_69, g205_71, g205_72, g205_74, g205_77, g205_78, g205_80, g205_81, g205_84, g205_87, g205_88, g205_89, g205_90, g205_92, g205_95, g205_97, g205_98, g205_101, g205_102, g205_104, g205_105, g205_108, g205_111, g205_113, g205_115, g205_118, g205_121, g205_122, g205_125, g205_126, g205_129, g205_130, g205_132, g205_133, g205_134, g205_135, nl_none, nl_int, nl_ref, Option.toList_some, Option.toList_none, List.cons_append, List.nil_append, mSetI_u, mSetL_u, Nat.add_one_ne_zero, Nat.add_eq_zero_iff, and_false, false_and, not_false_eq_true, ne_eq, j0_0, j0_1, j1_0, j1_1, if_true, if_false, ite_true, ite_false, true_and, and_true, or_true, true_or, false_or, or_false, ↓reduceIte, Nat.reduceEqDiff, Nat.reduceAdd, Nat.reduceMul, Nat.reduceSub, Int.reduceLE, Int.reduceLT, Int.reduceNeg, Int.reduceAdd, Int.reduceSub, Int.reduceEq, reduceCtorEq, jI_lt, jI_eq, jI_lt0, jI_0lt, jI_eq0, jI_0le, jn_lo, iU_row, iU_nr, iU_eq, iU_same, jI_ixn, jI_add, jI_sub, jI_nat, sh_3, sh_4, sh_80, f_3_0 hF, c67_t (vTw_4 hF) hn h.1 h.2 hc4.2.1, r151_t hF hn h.1 h.2 h7.2.2.2, c132_f (z := v) (a := 0) (b := 9999) hv0 hv1 hv (by omega) (by omega) (by omega) (by omega), r146_f (z := v) (a := 0) (b := 9999) hv0 hv1 hv (by omega) (by omega) (by omega) (by omega)]
      exact vI_fin (vI_same hI0)
  · simp only [g111_in, g111_0, g111_1, g111_4, g111_5, g111_8, g111_11, g111_12, g111_13, g111_16, g111_19, g111_22, g111_23, g111_24, g111_25, g111_28, g111_31, g111_32, g111_35, g111_36, g111_39, g111_42, g111_43, g111_44, g111_45, g111_46, g111_47, g111_49, g111_51, g111_52, g111_55, g111_58, g111_61, g111_62, g111_65, g111_67, g111_70, g111_73, g111_74, g111_75, g111_78, g111_81, g111_83, g111_84, g111_85, g111_86, g111_89, g111_92, g111_93, g111_96, g111_97, g111_100, g111_101, g111_102, g111_105, g111_108, g111_109, g111_110, g111_111, g111_112, g111_113, g205_in, g205_0, g205_1, g205_2, g205_5, g205_8, g205_9, g205_10, g205_13, g205_16, g205_19, g205_20, g205_21, g205_22, g205_23, g205_24, g205_26, g205_27, g205_29, g205_31, g205_32, g205_35, g205_38, g205_39, g205_41, g205_42, g205_45, g205_46, g205_49, g205_50, g205_51, g205_53, g205_54, g205_57, g205_60, g205_61, g205_64, g205_65, g205_68, g205_69, g205_71, g205_72, g205_74, g205_77, g205_78, g205_80, g205_81, g205_84, g205_87, g205_88, g205_89, g205_90, g205_92, g205_95, g205_97, g205_98, g205_101, g205_102, g205_104, g205_105, g205_108, g205_111, g205_113, g205_115, g205_118, g205_121, g205_122, g205_125, g205_126, g205_129, g205_130, g205_132, g205_133, g205_134, g205_135, nl_none, nl_int, nl_ref, Option.toList_some, Option.toList_none, List.cons_append, List.nil_append, mSetI_u, mSetL_u, Nat.add_one_ne_zero, Nat.add_eq_zero_iff, and_false, false_and, not_false_eq_true, ne_eq, j0_0, j0_1, j1_0, j1_1, if_true, if_false, ite_true, ite_false, true_and, and_true, or_true, true_or, false_or, or_false, ↓reduceIte, Nat.reduceEqDiff, Nat.reduceAdd, Nat.reduceMul, Nat.reduceSub, Int.reduceLE, Int.reduceLT, Int.reduceNeg, Int.reduceAdd, Int.reduceSub, Int.reduceEq, reduceCtorEq, jI_lt, jI_eq, jI_lt0, jI_0lt, jI_eq0, jI_0le, jn_lo, iU_row, iU_nr, iU_eq, iU_same, jI_ixn, jI_add, jI_sub, jI_nat, sh_3, sh_4, sh_80, f_3_0 hF, c67_f (vTw_4 hF) hn hz0 hz1 h hc4.2.1, r151_f hF hn hz0 hz1 h h7.2.2.2]
    exact vI_fin (vI_same hI0)
