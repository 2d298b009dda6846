/-! ===== day ===== -/
theorem sT_C {rl r j : Nat} (hrl : rl = 70 ∨ rl = 75) (q : vScC 4 rl r j) : vScT r j := by
  unfold vScC at q
  unfold vScT
  rcases q with q | q | q | q | q | q
  · exact .inr (.inr (.inl ⟨by omega, by omega⟩))
  · exact .inl (.inl (by omega))
  · exact .inl (.inr (.inl (by omega)))
  · exact .inr (.inr (.inl ⟨by omega, by omega⟩))
  · exact .inl (sc_lw hrl (.inl q))
  · exact .inl (sc_lw hrl (.inr q))
theorem sT_E {r j : Nat} (q : vScE r j) : vScT r j := by
  rcases sc_E q with h | h
  · exact .inl h
  · exact .inr (.inl h)
theorem sT_60 (j : Nat) : vScT 60 j := sc_ST (sS_60 j)
theorem sT_98 (j : Nat) : vScT 98 j := sc_ST (sS_98 j)
theorem sT_held : vScT 22 3 := sc_UT sU_held
theorem api_day : mApiI vI 114 210 [] := by
  rintro c lay M hc ⟨e, I, E, F, st, nx, gf, rl, dr, n, bn, T, lw, rfl, rfl, hI⟩
  have hF := hI.1
  have hI0 := hI
  obtain ⟨-, -, h3, -, h5, h6, h7, h8, h9, h10, h11, h12, h13, h14, h15, h16, h17, h18⟩ := hI
  have hrl : rl = 70 ∨ rl = 75 := by omega
  clear h3
  have hn := h5.1
  have hc4 : vTc n T 4 I := h6
  have hrl0 : ¬ rl = 0 := by omega
  have hc4' : ∀ x, vTc n T 4 (iU I 22 3 x) := fun x => vTc_ag (R := fun r j => r = 22) (vAg_iU vAg_rfl rfl) (fun r j q => by omega) hc4
  have hok1 := pDay_ok (lw := lw) h5
  simp only [g114_in, g114_0, g114_1, g114_4, g114_7, g114_8, g114_11, g114_14, g114_15, g114_16, g114_19, g114_20, g114_23, g29_in, g29_0, g29_1, g29_2, g29_5, nl_none, nl_int, nl_ref, Option.toList_some, Option.toList_none, List.cons_append, List.nil_append, mSetI_u, mSetL_u, Nat.add_one_ne_zero, Nat.add_eq_zero_iff, and_false, false_and, not_false_eq_true, ne_eq, j0_0, j0_1, j1_0, j1_1, if_true, if_false, ite_true, ite_false, true_and, and_true, or_true, true_or, false_or, or_false, ↓reduceIte, Nat.reduceEqDiff, Nat.reduceAdd, Nat.reduceMul, Nat.reduceSub, Int.reduceLE, Int.reduceLT, Int.reduceNeg, Int.reduceAdd, Int.reduceSub, Int.reduceEq, reduceCtorEq, jI_lt, jI_eq, jI_lt0, jI_0lt, jI_eq0, jI_0le, jn_lo, iU_row, iU_nr, iU_eq, iU_same, jI_ixn, jI_add, jI_sub, jI_nat, sh_3, sh_4, sh_22, f_3_0 hF, f_3_3 hF, f_3_13 hF, hrl0, c74 (vTw_4 hF) h5 (hc4' _)]
  refine c80 (vTw_4 hF) (vLo_rl hF hrl) h5 (hc4' _) (vLw_ag (R := fun r j => r = 22) (vAg_iU vAg_rfl rfl) (fun r j q => by omega) h15) (by omega) (fun I1 h1' hc1 hcm => ?_)
  have hA1 : vAg (fun r j => vScC 4 rl r j ∨ (r = 22 ∧ j = 3)) I I1 := vAg_tr (vAg_iU vAg_rfl (.inr ⟨rfl, rfl⟩)) (vAg_mono h1' (fun r j q => .inl q))
  have hd1 : I1 22 3 = jI (-1) := (h1' 22 3 (by omega)).trans iU_eq
  simp only [g114_26, g114_27, g114_30, g114_33, g114_34, g114_35, g114_38, g114_39, g114_40, g114_41, g114_42, g114_43, g114_44, g114_45, g114_48, g114_49, g114_50, g114_51, g114_52, g114_55, g114_58, g114_59, g114_60, g114_61, g114_64, g114_65, g114_66, g114_67, g114_68, g114_69, g114_70, g114_71, g114_72, g114_75, g114_76, g114_77, g114_78, g114_81, nl_none, nl_int, nl_ref, Option.toList_some, Option.toList_none, List.cons_append, List.nil_append, mSetI_u, mSetL_u, Nat.add_one_ne_zero, Nat.add_eq_zero_iff, and_false, false_and, not_false_eq_true, ne_eq, j0_0, j0_1, j1_0, j1_1, if_true, if_false, ite_true, ite_false, true_and, and_true, or_true, true_or, false_or, or_false, ↓reduceIte, Nat.reduceEqDiff, Nat.reduceAdd, Nat.reduceMul, Nat.reduceSub, Int.reduceLE, Int.reduceLT, Int.reduceNeg, Int.reduceAdd, Int.reduceSub, Int.reduceEq, reduceCtorEq, jI_lt, jI_eq, jI_lt0, jI_0lt, jI_eq0, jI_0le, jn_lo, iU_row, iU_nr, iU_eq, iU_same, jI_ixn, jI_add, jI_sub, jI_nat, sh_3, sh_4, sh_60, f_3_0 hF, f_3_9 hF, show mIdx (Int32.ofInt 0) 5 = true from rfl, show (Int32.ofInt 0).toNatClampNeg = 0 from rfl, show mIdx (Int32.ofInt 1) 5 = true from rfl, show (Int32.ofInt 1).toNatClampNeg = 1 from rfl, show mIdx (Int32.ofInt 4) 5 = true from rfl, show (Int32.ofInt 4).toNatClampNeg = 4 from rfl, c74 (vTw_4 hF) hok1 hc1, hcm, r230]
  refine ⟨sh_80, ?_⟩
  have e60 : I1 60 = I 60 := vAg_row hA1 (fun j q => by unfold vScC at q; omega)
  have e98 : I1 98 = I 98 := vAg_row hA1 (fun j q => by unfold vScC at q; omega)
  have hR1 : vTownR n T (I1 81) (I1 80 2) := vTr_ag hA1 (fun r j q => by unfold vScC at q; omega) h7
  have hL1 : vLawR lw (I1 87) (I1 80 11) (I1 80 12) (I1 90) := vLr_ag hA1 (fun r j q => by unfold vScC at q; omega) h16
  have hg1 : I1 80 20 = jI (-1) := (hA1 80 20 (by unfold vScC; omega)).trans h8
  rw [e60]
  have hA2 : vAg (fun r j => r = 60) I1 (iU (iU (iU I1 60 0 (I 60 0 + Int32.ofInt 1)) 60 1 (I 60 1 + jI (pCame lw n T n))) 60 4 (I 60 4 + pBits (pLack (pDay lw n T) (-1) n &&& (pLack T (-1) n ^^^ Int32.ofInt (-1))))) := vAg_iU (vAg_iU (vAg_iU vAg_rfl rfl) rfl) rfl
  have e2 : (iU (iU (iU I1 60 0 (I 60 0 + Int32.ofInt 1)) 60 1 (I 60 1 + jI (pCame lw n T n))) 60 4 (I 60 4 + pBits (pLack (pDay lw n T) (-1) n &&& (pLack T (-1) n ^^^ Int32.ofInt (-1))))) 60 = fun j => if j = 4 then I 60 4 + pBits (pLack (pDay lw n T) (-1) n &&& (pLack T (-1) n ^^^ Int32.ofInt (-1))) else if j = 1 then I 60 1 + jI (pCame lw n T n) else if j = 0 then I 60 0 + Int32.ofInt 1 else I 60 j := by
    simp only [iU_rf, e60]
  revert hA2 e2
  generalize (iU (iU (iU I1 60 0 (I 60 0 + Int32.ofInt 1)) 60 1 (I 60 1 + jI (pCame lw n T n))) 60 4 (I 60 4 + pBits (pLack (pDay lw n T) (-1) n &&& (pLack T (-1) n ^^^ Int32.ofInt (-1))))) = I2
  intro hA2 e2
  have hR2 : vTownR n T (I2 81) (I2 80 2) := vTr_ag hA2 (fun r j q => by omega) hR1
  have hg2 : I2 80 20 = jI (-1) := (hA2 80 20 (by omega)).trans hg1
  simp only [g210_in, g210_0, g210_1, g210_4, g210_5, g210_6, nl_none, nl_int, nl_ref, Option.toList_some, Option.toList_none, List.cons_append, List.nil_append, mSetI_u, mSetL_u, Nat.add_one_ne_zero, Nat.add_eq_zero_iff, and_false, false_and, not_false_eq_true, ne_eq, j0_0, j0_1, j1_0, j1_1, if_true, if_false, ite_true, ite_false, true_and, and_true, or_true, true_or, false_or, or_false, ↓reduceIte, Nat.reduceEqDiff, Nat.reduceAdd, Nat.reduceMul, Nat.reduceSub, Int.reduceLE, Int.reduceLT, Int.reduceNeg, Int.reduceAdd, Int.reduceSub, Int.reduceEq, reduceCtorEq, jI_lt, jI_eq, jI_lt0, jI_0lt, jI_eq0, jI_0le, jn_lo, iU_row, iU_nr, iU_eq, iU_same, jI_ixn, jI_add, jI_sub, jI_nat, sh_80, r181 (g := -1) hF h5 (by omega) (by omega) hR2 hg2]
  refine r179 hF h5 h15.1 hR2 (vLr_ag hA2 (fun r j q => by omega) hL1) (fun I3 h3' hR3 hcm3 => ?_)
  have hg3 : I3 80 20 = jI (-1) := (h3' 80 20 sc_Eg).trans hg2
  have e98' : I3 98 = I 98 := ((vAg_row h3' (fun j q => by unfold vScE vScD at q; omega)).trans (vAg_row hA2 (fun j q => by omega))).trans e98
  have e60' : I3 60 = I2 60 := vAg_row h3' (fun j q => by unfold vScE vScD at q; omega)
  simp only [g210_9, g210_10, g210_13, g210_14, g210_15, g210_16, g210_17, g210_18, g210_19, g210_20, g210_23, g210_24, g210_25, g210_26, g210_27, g210_30, g210_31, g210_32, g210_33, g210_36, g210_37, g210_38, g210_39, g210_40, g210_43, g210_44, g210_45, g210_46, g210_47, g210_50, g210_51, g210_52, g210_53, g210_56, g210_59, nl_none, nl_int, nl_ref, Option.toList_some, Option.toList_none, List.cons_append, List.nil_append, mSetI_u, mSetL_u, Nat.add_one_ne_zero, Nat.add_eq_zero_iff, and_false, false_and, not_false_eq_true, ne_eq, j0_0, j0_1, j1_0, j1_1, if_true, if_false, ite_true, ite_false, true_and, and_true, or_true, true_or, false_or, or_false, ↓reduceIte, Nat.reduceEqDiff, Nat.reduceAdd, Nat.reduceMul, Nat.reduceSub, Int.reduceLE, Int.reduceLT, Int.reduceNeg, Int.reduceAdd, Int.reduceSub, Int.reduceEq, reduceCtorEq, jI_lt, jI_eq, jI_lt0, jI_0lt, jI_eq0, jI_0le, jn_lo, iU_row, iU_nr, iU_eq, iU_same, jI_ixn, jI_add, jI_sub, jI_nat, sh_80, sh_98, f_80_33 hF, show mIdx (Int32.ofInt 0) 5 = true from rfl, show (Int32.ofInt 0).toNatClampNeg = 0 from rfl, show mIdx (Int32.ofInt 1) 5 = true from rfl, show (Int32.ofInt 1).toNatClampNeg = 1 from rfl, show mIdx (Int32.ofInt 4) 5 = true from rfl, show (Int32.ofInt 4).toNatClampNeg = 4 from rfl, r181 (n := n) (T := pDay lw n T) (g := -1) hF hok1 (show (-1 : Int) ≤ -1 by omega) (show (-1 : Int) ≤ 8 by omega), hR3, hg3, hcm3, r230]
  refine vI_fin (vI_of (vInv_up (vInv_gen hI0 ?_ (Nat.le_refl n) hok1 ?_ ?_ ?_ ?_ ?_)))
  · exact vAg_iU (vAg_iU (vAg_iU (vAg_tr (vAg_tr (vAg_mono hA1 (fun r j q => q.elim (fun q => sT_C hrl q) (fun q => by rw [q.1, q.2]; exact sT_held))) (vAg_mono hA2 (fun r j q => by rw [q]; exact sT_60 j))) (vAg_mono h3' (fun r j q => sT_E q))) (sT_98 _)) (sT_98 _)) (sT_98 _)
  · exact vTc_ag (R := fun r j => r = 60 ∨ r = 98 ∨ vScE r j) (vAg_iU (vAg_iU (vAg_iU (vAg_tr (vAg_mono hA2 (fun r j q => .inl q)) (vAg_mono h3' (fun r j q => .inr (.inr q)))) (.inr (.inl rfl))) (.inr (.inl rfl))) (.inr (.inl rfl))) (fun r j q => by unfold vScE vScD at q; omega) hc1
  · simp only [iU_row, Nat.reduceEqDiff, not_false_eq_true]
    exact hR3
  · simp only [iU_row, Nat.reduceEqDiff, not_false_eq_true]
    exact ((h3' 22 3 (by unfold vScE vScD; omega)).trans (hA2 22 3 (by omega))).trans hd1
  · simp only [iU_rf, iU_row, Nat.reduceEqDiff, not_false_eq_true]
    rw [e60', e2, e98']
    intro j hj
    have q0 := h9 0 (by omega)
    have q1 := h9 1 (by omega)
    have q4 := h9 4 (by omega)
    have qj := h9 j hj
    simp only [q0, q1, q4, qj]
  · refine vChgs_ag (R := fun r j => vScC 4 rl r j ∨ (r = 22 ∧ j = 3) ∨ r = 60 ∨ r = 98 ∨ vScE r j) (vAg_iU (vAg_iU (vAg_iU (vAg_tr (vAg_tr (vAg_mono hA1 (fun r j q => q.elim .inl (fun q => .inr (.inl q)))) (vAg_mono hA2 (fun r j q => .inr (.inr (.inl q))))) (vAg_mono h3' (fun r j q => .inr (.inr (.inr (.inr q)))))) (.inr (.inr (.inr (.inl rfl))))) (.inr (.inr (.inr (.inl rfl))))) (.inr (.inr (.inr (.inl rfl))))) (fun r j q => ?_) h11
    unfold vScC vScE vScD at q
    omega
