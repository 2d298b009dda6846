/-! ===== back ===== -/
section BCK
variable {d o n pn : Nat} {e : List mShp} {I I' : Nat → Nat → Int32} {E : Nat → Nat → Int64} {F : Nat → Nat → Nat} {P : mPost} {T Tp : Nat → Nat → Int} {lw : vLw} {st nx gf rl dr : Nat}
def pBk (T Tp : Nat → Nat → Int) (m : Nat) : Nat → Nat → Int := fun w j => if (w = 3 ∨ w = 4) ∧ j < m then Tp w j else T w j
theorem pBk_0 : pBk T Tp 0 = T := by
  funext w j
  unfold pBk
  rw [if_neg (by omega)]
theorem pBk_S {i : Nat} : pSet (pSet (pBk T Tp i) 3 i (Tp 3 i)) 4 i (Tp 4 i) = pBk T Tp (i + 1) := by
  funext w j
  simp only [pSet, pBk]
  by_cases h : w = 4 ∧ j = i
  · rw [if_pos h, if_pos (by omega), h.1, h.2]
  · rw [if_neg h]
    by_cases h' : w = 3 ∧ j = i
    · rw [if_pos h', if_pos (by omega), h'.1, h'.2]
    · rw [if_neg h']
      by_cases h'' : (w = 3 ∨ w = 4) ∧ j < i
      · rw [if_pos h'', if_pos (by omega)]
      · rw [if_neg h'', if_neg (by omega)]
theorem pBk_ok (hok : vTownOk n T) (hokp : vTownOk pn Tp) (hpn : pn ≤ n) {i : Nat} (hi : i ≤ pn) : vTownOk n (pBk T Tp i) := by
  refine vOk_of hok.1 (fun j hj => ?_) hok.2.2.1 hok.2.2.2
  have h := vOk_w hok hj
  by_cases q : j < i
  · have h' := vOk_w hokp (show j < pn by omega)
    rw [show pBk T Tp i 0 j = T 0 j from if_neg (by omega), show pBk T Tp i 1 j = T 1 j from if_neg (by omega), show pBk T Tp i 2 j = T 2 j from if_neg (by omega), show pBk T Tp i 3 j = Tp 3 j from if_pos (by omega), show pBk T Tp i 4 j = Tp 4 j from if_pos (by omega)]
    omega
  · rw [show pBk T Tp i 0 j = T 0 j from if_neg (by omega), show pBk T Tp i 1 j = T 1 j from if_neg (by omega), show pBk T Tp i 2 j = T 2 j from if_neg (by omega), show pBk T Tp i 3 j = T 3 j from if_neg (by omega), show pBk T Tp i 4 j = T 4 j from if_neg (by omega)]
    exact h
theorem c119_a (hF : mFx F st nx gf rl dr) (hok : vTownOk n T) (hokp : vTownOk pn Tp) (hpn : pn ≤ n) (hcp : vTc pn Tp 61 I) (hP : ∀ I', vAg (fun r j => (4 ≤ r ∧ r ≤ 9) ∨ (r = 22 ∧ j = 3)) I I' → vTc n (pBk T Tp pn) 4 I' → mG (d + 5) 119 59 [some (.ref 3), some (.int (jI pn))] [] (mLay e) (I', E, F) P) : ∀ (k i : Nat) (z : Int) I', i + k = pn → z = i → vAg (fun r j => (4 ≤ r ∧ r ≤ 9) ∨ (r = 22 ∧ j = 3)) I I' → vTc n (pBk T Tp i) 4 I' → mG (d + 5) 119 12 [some (.ref 3), some (.int (jI z))] [] (mLay e) (I', E, F) P
  | 0, i, z, I', hi, hz, ha, hc => by
    have hn := hokp.1
    have hm : I' 61 0 = jI pn := (ha 61 0 (by omega)).trans hcp.2.1
    subst hz
    have e : i = pn := by omega
    subst e
    rw [g119_12]
    simp only [g119_13, g119_14, g119_17, g119_20, g119_23, g119_24, g119_25, g119_26, g119_27, g119_30, g119_31, g119_32, g119_35, g119_38, g119_39, g119_40, g119_41, g119_42, g119_45, g119_46, g119_47, g119_50, g119_53, g119_56, nl_none, nl_int, nl_ref, Option.toList_some, Option.toList_none, List.cons_append, List.nil_append, mSetI_u, mSetL_u, Nat.add_one_ne_zero, Nat.add_eq_zero_iff, and_false, false_and, not_false_eq_true, ne_eq, j0_0, j0_1, j1_0, j1_1, if_true, if_false, ite_true, ite_false, true_and, and_true, or_true, true_or, false_or, or_false, ↓reduceIte, Nat.reduceEqDiff, Nat.reduceAdd, Nat.reduceMul, Nat.reduceSub, Int.reduceLE, Int.reduceLT, Int.reduceNeg, Int.reduceAdd, Int.reduceSub, Int.reduceEq, reduceCtorEq, jI_lt, jI_eq, jI_lt0, jI_0lt, jI_eq0, jI_0le, jn_lo, iU_row, iU_nr, iU_eq, iU_same, jI_ixn, jI_add, jI_sub, jI_nat, sh_3, sh_61, f_3_10 hF, hm, show ((i : Nat) : Int) ≤ 2147483647 by omega, show (i : Nat) ≤ 2147483647 by omega, show ¬ ((i : Int) < (i : Int)) by omega]
    exact hP I' ha hc
  | k + 1, i, z, I', hi, hz, ha, hc => by
    have ih := c119_a hF hok hokp hpn hcp hP k (i + 1)
    have hn := hok.1
    have hip : i < pn := by omega
    have hm : I' 61 0 = jI pn := (ha 61 0 (by omega)).trans hcp.2.1
    have hcp' : vTc pn Tp 61 I' := vTc_ag ha (fun r j q => by omega) hcp
    have ho := vOk_w hokp hip
    have h3 : 0 ≤ Tp 3 i ∧ Tp 3 i ≤ 99 := ⟨ho.2.2.2.2.2.2.1, ho.2.2.2.2.2.2.2.1⟩
    have h4 : -1 ≤ Tp 4 i ∧ Tp 4 i < pn ∧ ¬ Tp 4 i = i := ho.2.2.2.2.2.2.2.2
    clear ho
    have p3 : pHas pn (i : Int) 3 := .inr ⟨by omega, by omega, by omega, by omega⟩
    have p4 : pHas pn (i : Int) 4 := .inr ⟨by omega, by omega, by omega, by omega⟩
    have n3 : pHas n (i : Int) 3 := .inr ⟨by omega, by omega, by omega, by omega⟩
    have n4 : pHas n (i : Int) 4 := .inr ⟨by omega, by omega, by omega, by omega⟩
    have m3 : pMay n (i : Int) 3 (Tp 3 i) := .inr (.inr (.inr (.inl ⟨rfl, h3⟩)))
    have m4 : pMay n (i : Int) 4 (Tp 4 i) := .inr (.inr (.inr (.inr (.inl ⟨rfl, by omega⟩))))
    have hok1 := pBk_ok hok hokp hpn (i := i) (by omega)
    have hok2 : vTownOk n (pSet (pBk T Tp i) 3 i (Tp 3 i)) := pSet_ok hok1 n3 m3
    subst hz
    rw [g119_12]
    simp only [g119_13, g119_14, g119_17, g119_20, g119_23, g119_24, g119_25, g119_26, g119_27, g119_30, g119_31, g119_32, g119_35, g119_38, g119_39, g119_40, g119_41, g119_42, g119_45, g119_46, g119_47, g119_50, g119_53, g119_56, nl_none, nl_int, nl_ref, Option.toList_some, Option.toList_none, List.cons_append, List.nil_append, mSetI_u, mSetL_u, Nat.add_one_ne_zero, Nat.add_eq_zero_iff, and_false, false_and, not_false_eq_true, ne_eq, j0_0, j0_1, j1_0, j1_1, if_true, if_false, ite_true, ite_false, true_and, and_true, or_true, true_or, false_or, or_false, ↓reduceIte, Nat.reduceEqDiff, Nat.reduceAdd, Nat.reduceMul, Nat.reduceSub, Int.reduceLE, Int.reduceLT, Int.reduceNeg, Int.reduceAdd, Int.reduceSub, Int.reduceEq, reduceCtorEq, jI_lt, jI_eq, jI_lt0, jI_0lt, jI_eq0, jI_0le, jn_lo, iU_row, iU_nr, iU_eq, iU_same, jI_ixn, jI_add, jI_sub, jI_nat, sh_3, sh_61, f_3_10 hF, hm, show ((i : Nat) : Int) ≤ 2147483647 by omega, show (i : Nat) ≤ 2147483647 by omega, show ((pn : Nat) : Int) ≤ 2147483647 by omega, show (pn : Nat) ≤ 2147483647 by omega, show (i : Int) < (pn : Int) by omega, c70 (vTw_61 hF) hokp p3 hcp', Int.toNat_natCast, Int.reduceToNat]
    refine c135 hF hok1 n3 m3 hc (fun I1 h1 hc1 hd1 => ?_)
    have hc1 : vTc n (pSet (pBk T Tp i) 3 i (Tp 3 i)) 4 I1 := hc1
    have hcp1 : vTc pn Tp 61 I1 := vTc_ag h1 (fun r j q => by omega) hcp'
    simp only [g119_38, g119_39, g119_40, g119_41, g119_42, g119_45, g119_46, g119_47, g119_50, nl_none, nl_int, nl_ref, Option.toList_some, Option.toList_none, List.cons_append, List.nil_append, mSetI_u, mSetL_u, Nat.add_one_ne_zero, Nat.add_eq_zero_iff, and_false, false_and, not_false_eq_true, ne_eq, j0_0, j0_1, j1_0, j1_1, if_true, if_false, ite_true, ite_false, true_and, and_true, or_true, true_or, false_or, or_false, ↓reduceIte, Nat.reduceEqDiff, Nat.reduceAdd, Nat.reduceMul, Nat.reduceSub, Int.reduceLE, Int.reduceLT, Int.reduceNeg, Int.reduceAdd, Int.reduceSub, Int.reduceEq, reduceCtorEq, jI_lt, jI_eq, jI_lt0, jI_0lt, jI_eq0, jI_0le, jn_lo, iU_row, iU_nr, iU_eq, iU_same, jI_ixn, jI_add, jI_sub, jI_nat, sh_3, sh_61, f_3_10 hF, c70 (vTw_61 hF) hokp p4 hcp1, Int.toNat_natCast, Int.reduceToNat]
    refine c135 hF hok2 n4 m4 hc1 (fun I2 h2 hc2 hd2 => ?_)
    have hc2 : vTc n (pSet (pSet (pBk T Tp i) 3 i (Tp 3 i)) 4 i (Tp 4 i)) 4 I2 := hc2
    rw [pBk_S] at hc2
    simp only [g119_53, g119_56, nl_none, nl_int, nl_ref, Option.toList_some, Option.toList_none, List.cons_append, List.nil_append, mSetI_u, mSetL_u, Nat.add_one_ne_zero, Nat.add_eq_zero_iff, and_false, false_and, not_false_eq_true, ne_eq, j0_0, j0_1, j1_0, j1_1, if_true, if_false, ite_true, ite_false, true_and, and_true, or_true, true_or, false_or, or_false, ↓reduceIte, Nat.reduceEqDiff, Nat.reduceAdd, Nat.reduceMul, Nat.reduceSub, Int.reduceLE, Int.reduceLT, Int.reduceNeg, Int.reduceAdd, Int.reduceSub, Int.reduceEq, reduceCtorEq, jI_lt, jI_eq, jI_lt0, jI_0lt, jI_eq0, jI_0le, jn_lo, iU_row, iU_nr, iU_eq, iU_same, jI_ixn, jI_add, jI_sub, jI_nat]
    exact ih _ _ (by omega) (by omega) (vAg_tr (vAg_tr ha h1) h2) hc2
theorem r215_a (hF : mFx F st nx gf rl dr) (hok : vTownOk n T) (hpn : pn ≤ n) (hkm : I 80 36 = jI pn) (hkp : ∀ i, i < pn → ∀ w, w < 5 → I 99 (5 * i + w) = jI (Tp w i)) (hP : ∀ I', vAg (fun r _ => r = 81) I I' → vTownR n (pBk T Tp pn) (I' 81) (I' 80 2) → mG (d + 5) 215 58 [some (.ref 80), some (.int (jI pn))] [] (mLay e) (I', E, F) P) : ∀ (k i : Nat) (z : Int) I', i + k = pn → z = i → vAg (fun r _ => r = 81) I I' → vTownR n (pBk T Tp i) (I' 81) (I' 80 2) → mG (d + 5) 215 12 [some (.ref 80), some (.int (jI z))] [] (mLay e) (I', E, F) P
  | 0, i, z, I', hi, hz, ha, hR => by
    have hn := hok.1
    have hm : I' 80 36 = jI pn := (ha 80 36 (by omega)).trans hkm
    subst hz
    have e : i = pn := by omega
    subst e
    rw [g215_12]
    simp only [g215_13, g215_14, g215_17, g215_20, g215_21, g215_22, g215_23, g215_24, g215_27, g215_28, g215_29, g215_30, g215_31, g215_32, g215_33, g215_36, g215_37, g215_38, g215_39, g215_40, g215_43, g215_44, g215_45, g215_46, g215_47, g215_48, g215_49, g215_52, g215_55, nl_none, nl_int, nl_ref, Option.toList_some, Option.toList_none, List.cons_append, List.nil_append, mSetI_u, mSetL_u, Nat.add_one_ne_zero, Nat.add_eq_zero_iff, and_false, false_and, not_false_eq_true, ne_eq, j0_0, j0_1, j1_0, j1_1, if_true, if_false, ite_true, ite_false, true_and, and_true, or_true, true_or, false_or, or_false, ↓reduceIte, Nat.reduceEqDiff, Nat.reduceAdd, Nat.reduceMul, Nat.reduceSub, Int.reduceLE, Int.reduceLT, Int.reduceNeg, Int.reduceAdd, Int.reduceSub, Int.reduceEq, reduceCtorEq, jI_lt, jI_eq, jI_lt0, jI_0lt, jI_eq0, jI_0le, jn_lo, iU_row, iU_nr, iU_eq, iU_same, jI_ixn, jI_add, jI_sub, jI_nat, sh_80, hm, show ((i : Nat) : Int) ≤ 2147483647 by omega, show (i : Nat) ≤ 2147483647 by omega, show ¬ ((i : Int) < (i : Int)) by omega]
    exact hP I' ha hR
  | k + 1, i, z, I', hi, hz, ha, hR => by
    have ih := r215_a hF hok hpn hkm hkp hP k (i + 1)
    have hn := hok.1
    have hip : i < pn := by omega
    have hm : I' 80 36 = jI pn := (ha 80 36 (by omega)).trans hkm
    have n3 : pHas n (i : Int) 3 := .inr ⟨by omega, by omega, by omega, by omega⟩
    have n4 : pHas n (i : Int) 4 := .inr ⟨by omega, by omega, by omega, by omega⟩
    have k3 : I' 99 (5 * i + 3) = jI (Tp 3 i) := (ha 99 _ (by omega)).trans (hkp i hip 3 (by omega))
    have k4 : I' 99 (5 * i + 4) = jI (Tp 4 i) := (ha 99 _ (by omega)).trans (hkp i hip 4 (by omega))
    have x3 : (5 * (i : Int) + 3).toNat = 5 * i + 3 := by omega
    have x4 : (5 * (i : Int) + 4).toNat = 5 * i + 4 := by omega
    have s1 := vTr_set (I := I') (T := pBk T Tp i) (a := (i : Int)) (b := 3) (v := Tp 3 i) hn n3 hR
    rw [show (vCode (i : Int) 3).toNat = 5 * i + 3 by rw [vCode, if_pos (by omega)]; omega] at s1
    have s2 := vTr_set (I := iU I' 81 (5 * i + 3) (jI (Tp 3 i))) (T := pSet (pBk T Tp i) 3 i (Tp 3 i)) (a := (i : Int)) (b := 4) (v := Tp 4 i) hn n4 s1
    rw [show (vCode (i : Int) 4).toNat = 5 * i + 4 by rw [vCode, if_pos (by omega)]; omega] at s2
    have s2 : vTownR n (pSet (pSet (pBk T Tp i) 3 i (Tp 3 i)) 4 i (Tp 4 i)) _ _ := s2
    rw [pBk_S] at s2
    subst hz
    rw [g215_12]
    simp only [g215_13, g215_14, g215_17, g215_20, g215_21, g215_22, g215_23, g215_24, g215_27, g215_28, g215_29, g215_30, g215_31, g215_32, g215_33, g215_36, g215_37, g215_38, g215_39, g215_40, g215_43, g215_44, g215_45, g215_46, g215_47, g215_48, g215_49, g215_52, g215_55, nl_none, nl_int, nl_ref, Option.toList_some, Option.toList_none, List.cons_append, List.nil_append, mSetI_u, mSetL_u, Nat.add_one_ne_zero, Nat.add_eq_zero_iff, and_false, false_and, not_false_eq_true, ne_eq, j0_0, j0_1, j1_0, j1_1, if_true, if_false, ite_true, ite_false, true_and, and_true, or_true, true_or, false_or, or_false, ↓reduceIte, Nat.reduceEqDiff, Nat.reduceAdd, Nat.reduceMul, Nat.reduceSub, Int.reduceLE, Int.reduceLT, Int.reduceNeg, Int.reduceAdd, Int.reduceSub, Int.reduceEq, reduceCtorEq, jI_lt, jI_eq, jI_lt0, jI_0lt, jI_eq0, jI_0le, jn_lo, iU_row, iU_nr, iU_eq, iU_same, jI_ixn, jI_add, jI_sub, jI_nat, sh_80, sh_99, f_80_34 hF, hm, show ((i : Nat) : Int) ≤ 2147483647 by omega, show (i : Nat) ≤ 2147483647 by omega, show ((pn : Nat) : Int) ≤ 2147483647 by omega, show (pn : Nat) ≤ 2147483647 by omega, show (i : Int) < (pn : Int) by omega, show i ≤ 7 by omega, r153 hF, Int.reduceToNat, jI_mul, jI_in (z := (5 * (i : Int) + 3 : Int)) (n := 42) (by omega) (by omega) (by omega), jI_in (z := (5 * (i : Int) + 4 : Int)) (n := 42) (by omega) (by omega) (by omega), jI_ix (z := 5 * (i : Int) + 3) (by omega) (by omega), jI_ix (z := 5 * (i : Int) + 4) (by omega) (by omega), x3, x4, k3, k4]
    exact ih _ _ (by omega) (by omega) (vAg_iU (vAg_iU ha rfl) rfl) s2
end BCK
theorem api_back : mApiI vI 119 215 [] := by
  rintro c lay M hc ⟨e, I, E, F, st, nx, gf, rl, dr, n, bn, T, lw, rfl, rfl, hI⟩
  have hF := hI.1
  have hI0 := hI
  obtain ⟨-, -, h3, -, h5, h6, h7, h8, h9, h10, h11, h12, h13, h14, h15, h16, h17, h18⟩ := hI
  have hrl : rl = 70 ∨ rl = 75 := by omega
  clear h3
  have hn := h5.1
  have hc4 : vTc n T 4 I := h6
  have hrl0 : ¬ rl = 0 := by omega
  rcases h10 with ⟨g0, g1⟩ | ⟨g0, g1, pn, Tp, hpn, hokp, hcp, hkp, hlp⟩
  · simp only [g119_in, g119_0, g119_1, g119_4, g119_7, g119_9, g119_10, g119_11, g119_12, g119_13, g119_14, g119_17, g119_20, g119_23, g119_24, g119_25, g119_26, g119_27, g119_30, g119_31, g119_32, g119_35, g119_38, g119_39, g119_40, g119_41, g119_42, g119_45, g119_46, g119_47, g119_50, g119_53, g119_56, g119_59, g119_60, g119_61, g119_63, g119_64, g119_67, g119_68, g119_70, g119_73, g119_76, g119_77, g119_80, g119_81, g119_82, g119_85, g119_86, g119_87, g119_90, g119_91, g119_94, g119_95, g119_98, g119_99, g119_100, g215_in, g215_0, g215_1, g215_4, g215_7, g215_9, g215_10, g215_11, g215_12, g215_13, g215_14, g215_17, g215_20, g215_21, g215_22, g215_23, g215_24, g215_27, g215_28, g215_29, g215_30, g215_31, g215_32, g215_33, g215_36, g215_37, g215_38, g215_39, g215_40, g215_43, g215_44, g215_45, g215_46, g215_47, g215_48, g215_49, g215_52, g215_55, g215_58, g215_59, g215_62, g215_64, g215_65, g215_68, g215_70, g215_71, g215_72, g215_73, g215_74, g215_75, g215_76, g215_79, g215_80, g215_83, g215_84, g215_85, g215_88, g215_89, g215_90, g215_91, g215_94, g215_97, g215_98, g215_101, g215_102, g215_103, nl_none, nl_int, nl_ref, Option.toList_some, Option.toList_none, List.cons_append, List.nil_append, mSetI_u, mSetL_u, Nat.add_one_ne_zero, Nat.add_eq_zero_iff, and_false, false_and, not_false_eq_true, ne_eq, j0_0, j0_1, j1_0, j1_1, if_true, if_false, ite_true, ite_false, true_and, and_true, or_true, true_or, false_or, or_false, ↓reduceIte, Nat.reduceEqDiff, Nat.reduceAdd, Nat.reduceMul, Nat.reduceSub, Int.reduceLE, Int.reduceLT, Int.reduceNeg, Int.reduceAdd, Int.reduceSub, Int.reduceEq, reduceCtorEq, jI_lt, jI_eq, jI_lt0, jI_0lt, jI_eq0, jI_0le, jn_lo, iU_row, iU_nr, iU_eq, iU_same, jI_ixn, jI_add, jI_sub, jI_nat, sh_3, sh_80, g0, g1]
    exact vI_fin (vI_same hI0)
  · have hcp : vTc pn Tp 61 I := hcp
    have hn6 : pHas n (0 : Int) 6 := .inl ⟨.inr rfl, rfl⟩
    have hp6 : pHas pn (0 : Int) 6 := .inl ⟨.inr rfl, rfl⟩
    have hday := hokp.2.2.2
    have hm6 : pMay n (0 : Int) 6 (Tp 6 0) := .inr (.inr (.inr (.inr (.inr (.inr ⟨rfl, hday⟩)))))
    have hok1 := pBk_ok h5 hokp hpn (i := pn) (Nat.le_refl _)
    have hok2 : vTownOk n (pSet (pBk T Tp pn) 6 0 (Tp 6 0)) := pSet_ok hok1 hn6 hm6
    simp only [g119_in, g119_0, g119_1, g119_4, g119_7, g119_9, g119_10, g119_11, nl_none, nl_int, nl_ref, Option.toList_some, Option.toList_none, List.cons_append, List.nil_append, mSetI_u, mSetL_u, Nat.add_one_ne_zero, Nat.add_eq_zero_iff, and_false, false_and, not_false_eq_true, ne_eq, j0_0, j0_1, j1_0, j1_1, if_true, if_false, ite_true, ite_false, true_and, and_true, or_true, true_or, false_or, or_false, ↓reduceIte, Nat.reduceEqDiff, Nat.reduceAdd, Nat.reduceMul, Nat.reduceSub, Int.reduceLE, Int.reduceLT, Int.reduceNeg, Int.reduceAdd, Int.reduceSub, Int.reduceEq, reduceCtorEq, jI_lt, jI_eq, jI_lt0, jI_0lt, jI_eq0, jI_0le, jn_lo, iU_row, iU_nr, iU_eq, iU_same, jI_ixn, jI_add, jI_sub, jI_nat, sh_3, g0]
    refine c119_a (d := 95) hF h5 hokp hpn hcp (fun I1 h1' hc1 => ?_) pn 0 0 I (by omega) rfl vAg_rfl (by rw [pBk_0]; exact hc4)
    have hcp1 : vTc pn Tp 61 I1 := vTc_ag h1' (fun r j q => by omega) hcp
    simp only [g119_59, g119_60, g119_61, g119_63, g119_64, g119_67, g119_68, g119_70, g119_73, nl_none, nl_int, nl_ref, Option.toList_some, Option.toList_none, List.cons_append, List.nil_append, mSetI_u, mSetL_u, Nat.add_one_ne_zero, Nat.add_eq_zero_iff, and_false, false_and, not_false_eq_true, ne_eq, j0_0, j0_1, j1_0, j1_1, if_true, if_false, ite_true, ite_false, true_and, and_true, or_true, true_or, false_or, or_false, ↓reduceIte, Nat.reduceEqDiff, Nat.reduceAdd, Nat.reduceMul, Nat.reduceSub, Int.reduceLE, Int.reduceLT, Int.reduceNeg, Int.reduceAdd, Int.reduceSub, Int.reduceEq, reduceCtorEq, jI_lt, jI_eq, jI_lt0, jI_0lt, jI_eq0, jI_0le, jn_lo, iU_row, iU_nr, iU_eq, iU_same, jI_ixn, jI_add, jI_sub, jI_nat, sh_3, sh_61, f_3_10 hF, c70 (vTw_61 hF) hokp hp6 hcp1, Int.reduceToNat]
    refine c135 hF hok1 hn6 hm6 hc1 (fun I2 h2' hc2 hd2 => ?_)
    have hc2 : vTc n (pSet (pBk T Tp pn) 6 0 (Tp 6 0)) 4 I2 := hc2
    have h02 : vAg (fun r j => (4 ≤ r ∧ r ≤ 9) ∨ (r = 22 ∧ j = 3)) I I2 := vAg_tr h1' h2'
    have e69 : I2 69 = I 69 := vAg_row h02 (fun j q => by omega)
    have c60 : cU I2 69 60 0 0 5 60 0 = I 69 0 := (cU_0 (by omega)).trans (congrFun e69 0)
    simp only [g119_76, g119_77, g119_80, g119_81, g119_82, g119_85, g119_86, g119_87, g119_90, g119_91, g119_94, g119_95, g119_98, g119_99, g119_100, nl_none, nl_int, nl_ref, Option.toList_some, Option.toList_none, List.cons_append, List.nil_append, mSetI_u, mSetL_u, Nat.add_one_ne_zero, Nat.add_eq_zero_iff, and_false, false_and, not_false_eq_true, ne_eq, j0_0, j0_1, j1_0, j1_1, if_true, if_false, ite_true, ite_false, true_and, and_true, or_true, true_or, false_or, or_false, ↓reduceIte, Nat.reduceEqDiff, Nat.reduceAdd, Nat.reduceMul, Nat.reduceSub, Int.reduceLE, Int.reduceLT, Int.reduceNeg, Int.reduceAdd, Int.reduceSub, Int.reduceEq, reduceCtorEq, jI_lt, jI_eq, jI_lt0, jI_0lt, jI_eq0, jI_0le, jn_lo, iU_row, iU_nr, iU_eq, iU_same, jI_ixn, jI_add, jI_sub, jI_nat, sh_3, sh_60, sh_69, f_3_9 hF, f_3_11 hF, mCpyI_u, n5_5, n0_0, cp_5, show ((5 : Nat) : Int) = 5 from rfl, show mIdx (Int32.ofInt 0) 5 = true from rfl, show (Int32.ofInt 0).toNatClampNeg = 0 from rfl, c60]
    refine ⟨sh_80, ?_⟩
    have hA3 : vAg (fun r j => (4 ≤ r ∧ r ≤ 9) ∨ (r = 22 ∧ j = 3) ∨ r = 60) I (cU I2 69 60 0 0 5) := vAg_cU (vAg_mono h02 (fun r j q => by omega)) (fun j => by omega)
    have hc3 : vTc n (pSet (pBk T Tp pn) 6 0 (Tp 6 0)) 4 (cU I2 69 60 0 0 5) := vTc_ag (R := fun r j => r = 60) (vAg_cU vAg_rfl (fun j => rfl)) (fun r j q => by omega) hc2
    have f60 : ∀ j, j < 5 → cU I2 69 60 0 0 5 60 j = I 69 j := fun j hj => (cU_0 hj).trans (congrFun e69 j)
    have hd3 : cU I2 69 60 0 0 5 22 3 = jI (-1) := (congrFun (cU_row (by omega)) 3).trans hd2
    revert hA3 hc3 f60 hd3
    generalize cU I2 69 60 0 0 5 = I3
    intro hA3 hc3 f60 hd3
    have hR3 : vTownR n T (I3 81) (I3 80 2) := vTr_ag hA3 (fun r j q => by omega) h7
    have k3 : I3 99 = I 99 := vAg_row hA3 (fun j q => by omega)
    have i3 : I3 80 37 = jI 1 := (hA3 80 37 (by omega)).trans g1
    simp only [g215_in, g215_0, g215_1, g215_4, g215_7, g215_9, g215_10, g215_11, nl_none, nl_int, nl_ref, Option.toList_some, Option.toList_none, List.cons_append, List.nil_append, mSetI_u, mSetL_u, Nat.add_one_ne_zero, Nat.add_eq_zero_iff, and_false, false_and, not_false_eq_true, ne_eq, j0_0, j0_1, j1_0, j1_1, if_true, if_false, ite_true, ite_false, true_and, and_true, or_true, true_or, false_or, or_false, ↓reduceIte, Nat.reduceEqDiff, Nat.reduceAdd, Nat.reduceMul, Nat.reduceSub, Int.reduceLE, Int.reduceLT, Int.reduceNeg, Int.reduceAdd, Int.reduceSub, Int.reduceEq, reduceCtorEq, jI_lt, jI_eq, jI_lt0, jI_0lt, jI_eq0, jI_0le, jn_lo, iU_row, iU_nr, iU_eq, iU_same, jI_ixn, jI_add, jI_sub, jI_nat, sh_80, i3]
    refine r215_a (d := 95) (Tp := Tp) hF h5 hpn ((hA3 80 36 (by omega)).trans hkp.2.2.2) (fun i hi w hw => by rw [k3]; exact hkp.1 i hi w hw) (fun I4 h4' hR4 => ?_) pn 0 0 I3 (by omega) rfl vAg_rfl (by rw [pBk_0]; exact hR3)
    have k4 : I4 99 41 = jI (Tp 6 0) := ((h4' 99 41 (by omega)).trans (congrFun k3 41)).trans hkp.2.2.1
    have hset := vTr_set (I := I4) (T := pBk T Tp pn) (a := 0) (b := 6) (v := Tp 6 0) hn hn6 hR4
    have hset : vTownR n (pSet (pBk T Tp pn) 6 0 (Tp 6 0)) (iU I4 81 41 (jI (Tp 6 0)) 81) (iU I4 81 41 (jI (Tp 6 0)) 80 2) := hset
    simp only [g215_58, g215_59, g215_62, g215_64, g215_65, g215_68, g215_70, g215_71, g215_72, g215_73, nl_none, nl_int, nl_ref, Option.toList_some, Option.toList_none, List.cons_append, List.nil_append, mSetI_u, mSetL_u, Nat.add_one_ne_zero, Nat.add_eq_zero_iff, and_false, false_and, not_false_eq_true, ne_eq, j0_0, j0_1, j1_0, j1_1, if_true, if_false, ite_true, ite_false, true_and, and_true, or_true, true_or, false_or, or_false, ↓reduceIte, Nat.reduceEqDiff, Nat.reduceAdd, Nat.reduceMul, Nat.reduceSub, Int.reduceLE, Int.reduceLT, Int.reduceNeg, Int.reduceAdd, Int.reduceSub, Int.reduceEq, reduceCtorEq, jI_lt, jI_eq, jI_lt0, jI_0lt, jI_eq0, jI_0le, jn_lo, iU_row, iU_nr, iU_eq, iU_same, jI_ixn, jI_add, jI_sub, jI_nat, sh_80, sh_81, sh_99, f_80_0 hF, f_80_34 hF, show mIdx (Int32.ofInt 41) 42 = true from rfl, show (Int32.ofInt 41).toNatClampNeg = 41 from rfl, k4]
    have h := r215_b (d := 100) (e := e) (I := iU I4 81 41 (jI (Tp 6 0))) (E := E) (F := F) (P := fun v2 l2 M2 => v2 = some (Value.int (I 69 0)) ∧ (∃ r, some (Value.int (I 69 0)) = some (Value.int r)) ∧ vI (c + 1) l2 M2) hF ?_ 5 0 0 (by omega) rfl
    · rw [rC_0] at h
      exact h
    · have hA5 : vAg (fun r j => (4 ≤ r ∧ r ≤ 9) ∨ (r = 22 ∧ j = 3) ∨ r = 60 ∨ r = 81) I (iU I4 81 41 (jI (Tp 6 0))) := vAg_iU (vAg_tr (vAg_mono hA3 (fun r j q => by omega)) (vAg_mono h4' (fun r j q => by omega))) (by omega)
      have e100 : iU I4 81 41 (jI (Tp 6 0)) 100 = I 100 := vAg_row hA5 (fun j q => by omega)
      have g98 : ∀ j, j < 5 → rC (iU I4 81 41 (jI (Tp 6 0))) 100 98 5 98 j = I 100 j := fun j hj => (rC_to hj).trans (congrFun e100 j)
      have l0 := hlp 0 (by omega)
      simp only [g215_97, g215_98, g215_101, g215_102, g215_103, nl_none, nl_int, nl_ref, Option.toList_some, Option.toList_none, List.cons_append, List.nil_append, mSetI_u, mSetL_u, Nat.add_one_ne_zero, Nat.add_eq_zero_iff, and_false, false_and, not_false_eq_true, ne_eq, j0_0, j0_1, j1_0, j1_1, if_true, if_false, ite_true, ite_false, true_and, and_true, or_true, true_or, false_or, or_false, ↓reduceIte, Nat.reduceEqDiff, Nat.reduceAdd, Nat.reduceMul, Nat.reduceSub, Int.reduceLE, Int.reduceLT, Int.reduceNeg, Int.reduceAdd, Int.reduceSub, Int.reduceEq, reduceCtorEq, jI_lt, jI_eq, jI_lt0, jI_0lt, jI_eq0, jI_0le, jn_lo, iU_row, iU_nr, iU_eq, iU_same, jI_ixn, jI_add, jI_sub, jI_nat, sh_80, sh_98, f_80_33 hF, g98 0 (by omega), l0, show mIdx (Int32.ofInt 0) 5 = true from rfl, show (Int32.ofInt 0).toNatClampNeg = 0 from rfl]
      rw [← l0]
      refine vI_fin (vS_fin hI0 (vAg_rC (vAg_mono hA5 (fun r j q => ?_)) (fun j => sS_98 j)) hok2 ?_ ?_ ?_ ?_)
      · rcases q with q | q | q | q
        · exact .inl q
        · exact .inr (.inl q)
        · exact .inr (.inr (.inl q))
        · exact .inr (.inr (.inr (.inl q)))
      · exact vTc_ag (R := fun r j => r = 81 ∨ r = 98) (vAg_rC (vAg_iU (vAg_mono h4' (fun r j q => .inl q)) (.inl rfl)) (fun j => .inr rfl)) (fun r j q => by omega) hc3
      · rw [rC_row (by omega), rC_row (by omega)]
        exact hset
      · rw [rC_row (by omega), iU_nr (by omega), h4' 22 3 (by omega)]
        exact hd3
      · intro j hj
        rw [g98 j hj, rC_row (by omega), iU_row (by omega), h4' 60 j (by omega), f60 j hj]
        exact hlp j hj
