section REFD
variable {d n : Nat} {e : List mShp} {I : Nat → Nat → Int32} {E : Nat → Nat → Int64} {F : Nat → Nat → Nat} {P : mPost} {T : Nat → Nat → Int} {lw : vLw} {st nx gf rl dr : Nat}
def pMore (lw : vLw) (n : Nat) (T : Nat → Nat → Int) (j m : Nat) : Int := -T 2 j - (if pCar T j n = 0 then T 5 0 else 0) + pIn lw n T j m
theorem pMore_S {lw : vLw} {n : Nat} {T : Nat → Nat → Int} {j m : Nat} : pMore lw n T j (m + 1) = pMore lw n T j m + if T 4 m = j then pCome lw n T m else 0 := by
  unfold pMore
  rw [pIn]
  omega
theorem pMore_n {lw : vLw} {n : Nat} {T : Nat → Nat → Int} {j : Nat} : pHold (T 3 j + pMore lw n T j n) 99 = pNew lw n T j := by
  unfold pMore pNew pLost
  congr 1
  omega
theorem vTr_ag {R : Nat → Nat → Prop} {I' : Nat → Nat → Int32} (h : vAg R I I') (hR : ∀ r j, R r j → ¬ r = 81 ∧ ¬ (r = 80 ∧ j = 2)) (hc : vTownR n T (I 81) (I 80 2)) : vTownR n T (I' 81) (I' 80 2) := by
  rw [vAg_row h (fun j q => (hR _ _ q).1 rfl), h 80 2 (fun q => (hR _ _ q).2 ⟨rfl, rfl⟩)]
  exact hc
theorem vLr_ag {R : Nat → Nat → Prop} {I' : Nat → Nat → Int32} (h : vAg R I I') (hR : ∀ r j, R r j → ¬ r = 87 ∧ ¬ r = 90 ∧ ¬ (r = 80 ∧ (j = 11 ∨ j = 12))) (hlw : vLawR lw (I 87) (I 80 11) (I 80 12) (I 90)) : vLawR lw (I' 87) (I' 80 11) (I' 80 12) (I' 90) := by
  rw [vAg_row h (fun j q => (hR _ _ q).1 rfl), vAg_row h (r := 90) (fun j q => (hR _ _ q).2.1 rfl), h 80 11 (fun q => (hR _ _ q).2.2 ⟨rfl, .inl rfl⟩), h 80 12 (fun q => (hR _ _ q).2.2 ⟨rfl, .inr rfl⟩)]
  exact hlw
theorem r179_a (hF : mFx F st nx gf rl dr) (hok : vTownOk n T) (hR : vTownR n T (I 81) (I 80 2)) {a2 : Option Value} (hP : ∀ I', vAg (fun r _ => r = 91) I I' → (∀ j, j < n → I' 91 j = jI (pMore lw n T j 0)) → mG (d + 71) 179 54 [some (.ref 80), some (.int (jI n)), a2] [] (mLay e) (I', E, F) P) : ∀ k i (z : Int) I', i + k = n → z = i → vAg (fun r _ => r = 91) I I' → (∀ j, j < i → I' 91 j = jI (pMore lw n T j 0)) → mG (d + 71) 179 7 [some (.ref 80), some (.int (jI z)), a2] [] (mLay e) (I', E, F) P
  | 0, i, z, I', hi, hz, ha, hq => by
    have hn := hok.1
    subst hz
    have e : i = n := by omega
    subst e
    rw [g179_7]
    simp only [g179_8, g179_9, g179_12, g179_15, g179_16, g179_19, g179_20, g179_21, g179_22, g179_23, g179_26, g179_27, g179_28, g179_29, g179_32, g179_35, g179_36, g179_39, g179_41, g179_42, g179_45, g179_46, g179_47, g179_48, g179_51, nl_none, nl_int, nl_ref, Option.toList_some, Option.toList_none, List.cons_append, List.nil_append, mSetI_u, mSetL_u, Nat.add_one_ne_zero, Nat.add_eq_zero_iff, and_false, false_and, not_false_eq_true, ne_eq, j0_0, j0_1, j1_0, j1_1, if_true, if_false, ite_true, ite_false, true_and, and_true, or_true, true_or, false_or, or_false, ↓reduceIte, Nat.reduceEqDiff, Nat.reduceAdd, Nat.reduceMul, Nat.reduceSub, Int.reduceLE, Int.reduceLT, Int.reduceNeg, Int.reduceAdd, Int.reduceSub, Int.reduceEq, reduceCtorEq, jI_lt, jI_eq, jI_lt0, jI_0lt, jI_eq0, jI_0le, jn_lo, iU_row, iU_nr, iU_eq, iU_same, jI_ixn, jI_add, jI_sub, jI_nat, sh_80, show I' 80 2 = jI i from (ha 80 2 (by omega)).trans hR.2.2.2, show ((i : Nat) : Int) ≤ 2147483647 by omega, show (i : Nat) ≤ 2147483647 by omega, show ¬ ((i : Int) < (i : Int)) by omega]
    exact hP I' ha hq
  | k + 1, i, z, I', hi, hz, ha, hq => by
    have ih := r179_a hF hok hR hP k (i + 1)
    have hn := hok.1
    have hin : i < n := by omega
    subst hz
    have hR' : vTownR n T (I' 81) (I' 80 2) := vTr_ag ha (fun r j q => by omega) hR
    have hd0 := hR'.1 i hin 2 (by omega)
    have hkl := pCar_le T i n
    obtain ⟨a0, a1, b0, b1, c0, c1, e0, e1, w0, w1, w2⟩ := vOk_w hok hin
    have fin : ∀ I2, I2 = iU I' 91 i (jI (pMore lw n T i 0)) → mG (d + 71) 179 7 [some (.ref 80), some (.int (jI ((i : Int) + 1))), a2] [] (mLay e) (I2, E, F) P := by
      intro I2 h2
      subst h2
      refine ih _ _ (by omega) (by omega) (vAg_iU ha rfl) (fun j hj => ?_)
      rw [iU_r]
      by_cases q : j = i
      · rw [if_pos q, q]
      · rw [if_neg q]
        exact hq j (by omega)
    rw [g179_7]
    rcases (by omega : pCar T i n = 0 ∨ ¬ pCar T i n = 0) with hx | hx
    · simp only [g179_8, g179_9, g179_12, g179_15, g179_16, g179_19, g179_20, g179_21, g179_22, g179_23, g179_26, g179_27, g179_28, g179_29, g179_32, g179_35, g179_36, g179_39, g179_41, g179_42, g179_45, g179_46, g179_47, g179_48, g179_51, nl_none, nl_int, nl_ref, Option.toList_some, Option.toList_none, List.cons_append, List.nil_append, mSetI_u, mSetL_u, Nat.add_one_ne_zero, Nat.add_eq_zero_iff, and_false, false_and, not_false_eq_true, ne_eq, j0_0, j0_1, j1_0, j1_1, if_true, if_false, ite_true, ite_false, true_and, and_true, or_true, true_or, false_or, or_false, ↓reduceIte, Nat.reduceEqDiff, Nat.reduceAdd, Nat.reduceMul, Nat.reduceSub, Int.reduceLE, Int.reduceLT, Int.reduceNeg, Int.reduceAdd, Int.reduceSub, Int.reduceEq, reduceCtorEq, jI_lt, jI_eq, jI_lt0, jI_0lt, jI_eq0, jI_0le, jn_lo, iU_row, iU_nr, iU_eq, iU_same, jI_ixn, jI_add, jI_sub, jI_nat, sh_80, sh_81, sh_91, f_80_0 hF, f_80_21 hF, r152 hF, r176 hF hok (show i ≤ 8 by omega) hR', hR'.2.1, hR'.2.2.2, Int.reduceToNat, hd0, hx, jI_neg, show ((i : Nat) : Int) ≤ 2147483647 by omega, show (i : Nat) ≤ 2147483647 by omega, show ((n : Nat) : Int) ≤ 2147483647 by omega, show (n : Nat) ≤ 2147483647 by omega, show (i : Int) < (n : Int) by omega, show i ≤ 7 by omega, jI_in (z := ((i : Int) : Int)) (n := 8) (by omega) (by omega) (by omega), show ((0 : Nat) : Int) = 0 from rfl, show mIdx (Int32.ofInt 40) 42 = true from rfl, show (Int32.ofInt 40).toNatClampNeg = 40 from rfl]
      exact fin _ (by rw [pMore, if_pos hx, pIn, Int.add_zero])
    · simp only [g179_8, g179_9, g179_12, g179_15, g179_16, g179_19, g179_20, g179_21, g179_22, g179_23, g179_26, g179_27, g179_28, g179_29, g179_32, g179_35, g179_36, g179_39, g179_41, g179_42, g179_45, g179_46, g179_47, g179_48, g179_51, nl_none, nl_int, nl_ref, Option.toList_some, Option.toList_none, List.cons_append, List.nil_append, mSetI_u, mSetL_u, Nat.add_one_ne_zero, Nat.add_eq_zero_iff, and_false, false_and, not_false_eq_true, ne_eq, j0_0, j0_1, j1_0, j1_1, if_true, if_false, ite_true, ite_false, true_and, and_true, or_true, true_or, false_or, or_false, ↓reduceIte, Nat.reduceEqDiff, Nat.reduceAdd, Nat.reduceMul, Nat.reduceSub, Int.reduceLE, Int.reduceLT, Int.reduceNeg, Int.reduceAdd, Int.reduceSub, Int.reduceEq, reduceCtorEq, jI_lt, jI_eq, jI_lt0, jI_0lt, jI_eq0, jI_0le, jn_lo, iU_row, iU_nr, iU_eq, iU_same, jI_ixn, jI_add, jI_sub, jI_nat, sh_80, sh_81, sh_91, f_80_0 hF, f_80_21 hF, r152 hF, r176 hF hok (show i ≤ 8 by omega) hR', hR'.2.1, hR'.2.2.2, Int.reduceToNat, hd0, jI_neg, show ((i : Nat) : Int) ≤ 2147483647 by omega, show (i : Nat) ≤ 2147483647 by omega, show ((n : Nat) : Int) ≤ 2147483647 by omega, show (n : Nat) ≤ 2147483647 by omega, show ((pCar T i n : Nat) : Int) ≤ 2147483647 by omega, show (pCar T i n : Nat) ≤ 2147483647 by omega, show (i : Int) < (n : Int) by omega, show i ≤ 7 by omega, show ¬ ((pCar T i n : Int) = 0) by omega, jI_in (z := ((i : Int) : Int)) (n := 8) (by omega) (by omega) (by omega)]
      exact fin _ (by rw [pMore, if_neg hx, pIn, Int.add_zero])
theorem r179_b (hF : mFx F st nx gf rl dr) (hok : vTownOk n T) (hR : vTownR n T (I 81) (I 80 2)) (hlw : vLawR lw (I 87) (I 80 11) (I 80 12) (I 90)) (hP : ∀ I' a2, vAg (fun r j => r = 91 ∨ (r = 80 ∧ j = 22) ∨ vScD r j) I I' → (∀ j, j < n → I' 91 j = jI (pMore lw n T j n)) → I' 80 22 = jI (pCame lw n T n) → mG (d + 72) 179 111 [some (.ref 80), some (.int (jI n)), a2] [] (mLay e) (I', E, F) P) : ∀ k i (z : Int) I' a2, i + k = n → z = i → vAg (fun r j => r = 91 ∨ (r = 80 ∧ j = 22) ∨ vScD r j) I I' → (∀ j, j < n → I' 91 j = jI (pMore lw n T j i)) → I' 80 22 = jI (pCame lw n T i) → mG (d + 72) 179 56 [some (.ref 80), some (.int (jI z)), a2] [] (mLay e) (I', E, F) P
  | 0, i, z, I', a2, hi, hz, ha, hq, hk => by
    have hn := hok.1
    subst hz
    have e : i = n := by omega
    subst e
    rw [g179_56]
    simp only [g179_57, g179_58, g179_61, g179_64, g179_65, g179_66, g179_69, g179_70, g179_71, g179_72, g179_73, g179_76, g179_77, g179_80, g179_81, g179_84, g179_85, g179_86, g179_87, g179_90, g179_91, g179_92, g179_93, g179_94, g179_95, g179_96, g179_97, g179_100, g179_101, g179_102, g179_105, g179_108, nl_none, nl_int, nl_ref, Option.toList_some, Option.toList_none, List.cons_append, List.nil_append, mSetI_u, mSetL_u, Nat.add_one_ne_zero, Nat.add_eq_zero_iff, and_false, false_and, not_false_eq_true, ne_eq, j0_0, j0_1, j1_0, j1_1, if_true, if_false, ite_true, ite_false, true_and, and_true, or_true, true_or, false_or, or_false, ↓reduceIte, Nat.reduceEqDiff, Nat.reduceAdd, Nat.reduceMul, Nat.reduceSub, Int.reduceLE, Int.reduceLT, Int.reduceNeg, Int.reduceAdd, Int.reduceSub, Int.reduceEq, reduceCtorEq, jI_lt, jI_eq, jI_lt0, jI_0lt, jI_eq0, jI_0le, jn_lo, iU_row, iU_nr, iU_eq, iU_same, jI_ixn, jI_add, jI_sub, jI_nat, sh_80, show I' 80 2 = jI i from (ha 80 2 (by unfold vScD; omega)).trans hR.2.2.2, show ((i : Nat) : Int) ≤ 2147483647 by omega, show (i : Nat) ≤ 2147483647 by omega, show ¬ ((i : Int) < (i : Int)) by omega]
    exact hP I' a2 ha hq hk
  | k + 1, i, z, I', a2, hi, hz, ha, hq, hk => by
    have ih := r179_b hF hok hR hlw hP k (i + 1)
    have hn := hok.1
    have hin : i < n := by omega
    subst hz
    have hR' : vTownR n T (I' 81) (I' 80 2) := vTr_ag ha (fun r j q => by unfold vScD at q; omega) hR
    have hlw' := vLr_ag ha (fun r j q => by unfold vScD at q; omega) hlw
    obtain ⟨a0, a1, b0, b1, c0, c1, e0, e1, w0, w1, w2⟩ := vOk_w hok hin
    rw [g179_56]
    simp only [g179_57, g179_58, g179_61, g179_64, g179_65, g179_66, nl_none, nl_int, nl_ref, Option.toList_some, Option.toList_none, List.cons_append, List.nil_append, mSetI_u, mSetL_u, Nat.add_one_ne_zero, Nat.add_eq_zero_iff, and_false, false_and, not_false_eq_true, ne_eq, j0_0, j0_1, j1_0, j1_1, if_true, if_false, ite_true, ite_false, true_and, and_true, or_true, true_or, false_or, or_false, ↓reduceIte, Nat.reduceEqDiff, Nat.reduceAdd, Nat.reduceMul, Nat.reduceSub, Int.reduceLE, Int.reduceLT, Int.reduceNeg, Int.reduceAdd, Int.reduceSub, Int.reduceEq, reduceCtorEq, jI_lt, jI_eq, jI_lt0, jI_0lt, jI_eq0, jI_0le, jn_lo, iU_row, iU_nr, iU_eq, iU_same, jI_ixn, jI_add, jI_sub, jI_nat, sh_80, hR'.2.2.2, show ((i : Nat) : Int) ≤ 2147483647 by omega, show (i : Nat) ≤ 2147483647 by omega, show ((n : Nat) : Int) ≤ 2147483647 by omega, show (n : Nat) ≤ 2147483647 by omega, show (i : Int) < (n : Int) by omega]
    refine r177 hF hok hR' hlw' hin (fun I2 h2 => ?_)
    have hR2 : vTownR n T (I2 81) (I2 80 2) := vTr_ag h2 (fun r j q => by unfold vScD at q; omega) hR'
    have hw0 := hR2.1 i hin 4 (by omega)
    have ha2 : vAg (fun r j => r = 91 ∨ (r = 80 ∧ j = 22) ∨ vScD r j) I I2 := vAg_tr ha (vAg_mono h2 (fun r j q => .inr (.inr q)))
    have hk2 : I2 80 22 = jI (pCame lw n T i) := (h2 _ _ (by unfold vScD; omega)).trans hk
    rcases (by omega : T 4 i = -1 ∨ 0 ≤ T 4 i) with hx | hx
    · rw [hx] at hw0
      simp only [g179_69, g179_70, g179_71, g179_72, g179_73, g179_76, g179_77, g179_80, g179_81, g179_84, g179_85, g179_86, g179_87, g179_90, g179_91, g179_92, g179_93, g179_94, g179_95, g179_96, g179_97, g179_100, g179_101, g179_102, g179_105, g179_108, nl_none, nl_int, nl_ref, Option.toList_some, Option.toList_none, List.cons_append, List.nil_append, mSetI_u, mSetL_u, Nat.add_one_ne_zero, Nat.add_eq_zero_iff, and_false, false_and, not_false_eq_true, ne_eq, j0_0, j0_1, j1_0, j1_1, if_true, if_false, ite_true, ite_false, true_and, and_true, or_true, true_or, false_or, or_false, ↓reduceIte, Nat.reduceEqDiff, Nat.reduceAdd, Nat.reduceMul, Nat.reduceSub, Int.reduceLE, Int.reduceLT, Int.reduceNeg, Int.reduceAdd, Int.reduceSub, Int.reduceEq, reduceCtorEq, jI_lt, jI_eq, jI_lt0, jI_0lt, jI_eq0, jI_0le, jn_lo, iU_row, iU_nr, iU_eq, iU_same, jI_ixn, jI_add, jI_sub, jI_nat, sh_80, r152 hF, Int.reduceToNat, hw0, show ((i : Nat) : Int) ≤ 2147483647 by omega, show (i : Nat) ≤ 2147483647 by omega, show ((n : Nat) : Int) ≤ 2147483647 by omega, show (n : Nat) ≤ 2147483647 by omega, show i ≤ 7 by omega]
      refine ih _ _ _ (by omega) (by omega) ha2 (fun j hj => ?_) ?_
      · rw [h2 _ _ (by unfold vScD; omega), hq j hj, pMore_S, if_neg (by omega), Int.add_zero]
      · rw [hk2, pCame, pCome_0 (.inl hx), Int.add_zero]
    · obtain ⟨w, hw⟩ : ∃ w : Nat, T 4 i = w := ⟨(T 4 i).toNat, by omega⟩
      have hwn : w < n := by omega
      rw [hw] at hw0
      have hq2 : I2 91 w = jI (pMore lw n T w i) := (h2 _ _ (by unfold vScD; omega)).trans (hq w hwn)
      simp only [g179_69, g179_70, g179_71, g179_72, g179_73, g179_76, g179_77, g179_80, g179_81, g179_84, g179_85, g179_86, g179_87, g179_90, g179_91, g179_92, g179_93, g179_94, g179_95, g179_96, g179_97, g179_100, g179_101, g179_102, g179_105, g179_108, nl_none, nl_int, nl_ref, Option.toList_some, Option.toList_none, List.cons_append, List.nil_append, mSetI_u, mSetL_u, Nat.add_one_ne_zero, Nat.add_eq_zero_iff, and_false, false_and, not_false_eq_true, ne_eq, j0_0, j0_1, j1_0, j1_1, if_true, if_false, ite_true, ite_false, true_and, and_true, or_true, true_or, false_or, or_false, ↓reduceIte, Nat.reduceEqDiff, Nat.reduceAdd, Nat.reduceMul, Nat.reduceSub, Int.reduceLE, Int.reduceLT, Int.reduceNeg, Int.reduceAdd, Int.reduceSub, Int.reduceEq, reduceCtorEq, jI_lt, jI_eq, jI_lt0, jI_0lt, jI_eq0, jI_0le, jn_lo, iU_row, iU_nr, iU_eq, iU_same, jI_ixn, jI_add, jI_sub, jI_nat, sh_80, sh_91, f_80_21 hF, r152 hF, Int.reduceToNat, hw0, hq2, hk2, show ((i : Nat) : Int) ≤ 2147483647 by omega, show (i : Nat) ≤ 2147483647 by omega, show ((n : Nat) : Int) ≤ 2147483647 by omega, show (n : Nat) ≤ 2147483647 by omega, show ((w : Nat) : Int) ≤ 2147483647 by omega, show (w : Nat) ≤ 2147483647 by omega, show i ≤ 7 by omega, show ¬ ((w : Int) = -1) by omega, jI_in (z := ((w : Int) : Int)) (n := 8) (by omega) (by omega) (by omega)]
      refine ih _ _ _ (by omega) (by omega) (vAg_iU (vAg_iU ha2 (.inl rfl)) (.inr (.inl ⟨rfl, rfl⟩))) (fun j hj => ?_) ?_
      · rw [iU_nr (by omega), iU_r, pMore_S]
        by_cases q : j = w
        · rw [if_pos q, q, if_pos hw]
        · rw [if_neg q, if_neg (by omega), h2 _ _ (by unfold vScD; omega), hq j hj, Int.add_zero]
      · rw [iU_eq, pCame]
theorem r179_c (hF : mFx F st nx gf rl dr) (hok : vTownOk n T) (hl : ∀ j, j < n → ∀ m : Nat, -200 ≤ pMore lw n T j m ∧ pMore lw n T j m ≤ 20 * m) (hR : vTownR n T (I 81) (I 80 2)) (hco : ∀ j, j < n → I 91 j = jI (pMore lw n T j n)) (hP : ∀ I' a2, vAg (fun r j => r = 81 ∧ ¬ 40 ≤ j) I I' → (∀ i, i < n → ∀ w, w < 5 → I' 81 (5 * i + w) = jI (pDay lw n T w i)) → mG (d + 72) 179 152 [some (.ref 80), some (.int (jI n)), a2] [] (mLay e) (I', E, F) P) : ∀ k i (z : Int) I' a2, i + k = n → z = i → vAg (fun r j => r = 81 ∧ ¬ 40 ≤ j) I I' → (∀ j, j < n → ∀ w, w < 5 → I' 81 (5 * j + w) = if j < i then jI (pDay lw n T w j) else jI (T w j)) → mG (d + 72) 179 113 [some (.ref 80), some (.int (jI z)), a2] [] (mLay e) (I', E, F) P
  | 0, i, z, I', a2, hi, hz, ha, hq => by
    have hn := hok.1
    subst hz
    have e : i = n := by omega
    subst e
    rw [g179_113]
    simp only [g179_114, g179_115, g179_118, g179_121, g179_122, g179_123, g179_124, g179_125, g179_126, g179_127, g179_130, g179_131, g179_134, g179_135, g179_136, g179_137, g179_138, g179_140, g179_143, g179_146, g179_149, nl_none, nl_int, nl_ref, Option.toList_some, Option.toList_none, List.cons_append, List.nil_append, mSetI_u, mSetL_u, Nat.add_one_ne_zero, Nat.add_eq_zero_iff, and_false, false_and, not_false_eq_true, ne_eq, j0_0, j0_1, j1_0, j1_1, if_true, if_false, ite_true, ite_false, true_and, and_true, or_true, true_or, false_or, or_false, ↓reduceIte, Nat.reduceEqDiff, Nat.reduceAdd, Nat.reduceMul, Nat.reduceSub, Int.reduceLE, Int.reduceLT, Int.reduceNeg, Int.reduceAdd, Int.reduceSub, Int.reduceEq, reduceCtorEq, jI_lt, jI_eq, jI_lt0, jI_0lt, jI_eq0, jI_0le, jn_lo, iU_row, iU_nr, iU_eq, iU_same, jI_ixn, jI_add, jI_sub, jI_nat, sh_80, show I' 80 2 = jI i from (ha 80 2 (by omega)).trans hR.2.2.2, show ((i : Nat) : Int) ≤ 2147483647 by omega, show (i : Nat) ≤ 2147483647 by omega, show ¬ ((i : Int) < (i : Int)) by omega]
    exact hP I' a2 ha (fun j hj w hw => by rw [hq j hj w hw, if_pos hj])
  | k + 1, i, z, I', a2, hi, hz, ha, hq => by
    have ih := r179_c hF hok hl hR hco hP k (i + 1)
    have hn := hok.1
    have hin : i < n := by omega
    subst hz
    have hm : I' 80 2 = jI n := (ha 80 2 (by omega)).trans hR.2.2.2
    have hs0 : I' 81 (5 * i + 3) = jI (T 3 i) := by rw [hq i hin 3 (by omega), if_neg (by omega)]
    have ho0 : I' 91 i = jI (pMore lw n T i n) := (ha 91 i (by omega)).trans (hco i hin)
    have hml := hl i hin n
    obtain ⟨a0, a1, b0, b1, c0, c1, e0, e1, w0, w1, w2⟩ := vOk_w hok hin
    rw [g179_113]
    simp only [g179_114, g179_115, g179_118, g179_121, g179_122, g179_123, g179_124, g179_125, g179_126, g179_127, g179_130, g179_131, g179_134, g179_135, g179_136, g179_137, g179_138, g179_140, g179_143, g179_146, g179_149, nl_none, nl_int, nl_ref, Option.toList_some, Option.toList_none, List.cons_append, List.nil_append, mSetI_u, mSetL_u, Nat.add_one_ne_zero, Nat.add_eq_zero_iff, and_false, false_and, not_false_eq_true, ne_eq, j0_0, j0_1, j1_0, j1_1, if_true, if_false, ite_true, ite_false, true_and, and_true, or_true, true_or, false_or, or_false, ↓reduceIte, Nat.reduceEqDiff, Nat.reduceAdd, Nat.reduceMul, Nat.reduceSub, Int.reduceLE, Int.reduceLT, Int.reduceNeg, Int.reduceAdd, Int.reduceSub, Int.reduceEq, reduceCtorEq, jI_lt, jI_eq, jI_lt0, jI_0lt, jI_eq0, jI_0le, jn_lo, iU_row, iU_nr, iU_eq, iU_same, jI_ixn, jI_add, jI_sub, jI_nat, sh_80, sh_91, f_80_21 hF, r152 hF, r153 hF, Int.reduceToNat, hm, hs0, ho0, r147 (v := T 3 i + pMore lw n T i n) (m := 99) (by omega) (by omega) (by omega) (by omega), pMore_n, show ((i : Nat) : Int) ≤ 2147483647 by omega, show (i : Nat) ≤ 2147483647 by omega, show ((n : Nat) : Int) ≤ 2147483647 by omega, show (n : Nat) ≤ 2147483647 by omega, show (i : Int) < (n : Int) by omega, show i ≤ 7 by omega, jI_in (z := ((i : Int) : Int)) (n := 8) (by omega) (by omega) (by omega)]
    refine ih _ _ _ (by omega) (by omega) (vAg_iU ha ⟨rfl, by omega⟩) (fun j hj w hw => ?_)
    rw [iU_r]
    by_cases q : j = i
    · subst q
      by_cases q' : w = 3
      · subst q'
        rw [if_pos rfl, if_pos (by omega)]
        rfl
      · rw [if_neg (by omega), if_pos (by omega), hq j hj w hw, if_neg (by omega)]
        unfold pDay
        rw [if_neg q', if_neg (by omega)]
    · rw [if_neg (by omega), hq j hj w hw]
      by_cases q' : j < i
      · rw [if_pos q', if_pos (by omega)]
      · rw [if_neg q', if_neg (by omega)]
/-- what days write in the reference -/
def vScE (r j : Nat) : Prop := r = 81 ∨ r = 91 ∨ (r = 80 ∧ j = 22) ∨ vScD r j
/-- goDay -/
theorem r179 (hF : mFx F st nx gf rl dr) (hok : vTownOk n T) (hl : ∀ g q n k s t, 0 ≤ lw g q n k s t ∧ lw g q n k s t ≤ 20) (hR : vTownR n T (I 81) (I 80 2)) (hlw : vLawR lw (I 87) (I 80 11) (I 80 12) (I 90)) (hP : ∀ I', vAg vScE I I' → vTownR n (pDay lw n T) (I' 81) (I' 80 2) → I' 80 22 = jI (pCame lw n T n) → P none (mLay e) (I', E, F)) : mF (d + 72) 179 [.ref 80] (mLay e) (I, E, F) P := by
  have hn := hok.1
  have hwd := hok.2.2.1
  have hday := hok.2.2.2
  simp only [g179_in, g179_0, g179_1, g179_2, g179_5, g179_6, nl_none, nl_int, nl_ref, Option.toList_some, Option.toList_none, List.cons_append, List.nil_append, mSetI_u, mSetL_u, Nat.add_one_ne_zero, Nat.add_eq_zero_iff, and_false, false_and, not_false_eq_true, ne_eq, j0_0, j0_1, j1_0, j1_1, if_true, if_false, ite_true, ite_false, true_and, and_true, or_true, true_or, false_or, or_false, ↓reduceIte, Nat.reduceEqDiff, Nat.reduceAdd, Nat.reduceMul, Nat.reduceSub, Int.reduceLE, Int.reduceLT, Int.reduceNeg, Int.reduceAdd, Int.reduceSub, Int.reduceEq, reduceCtorEq, jI_lt, jI_eq, jI_lt0, jI_0lt, jI_eq0, jI_0le, jn_lo, iU_row, iU_nr, iU_eq, iU_same, jI_ixn, jI_add, jI_sub, jI_nat, sh_80]
  have h0 : vAg (fun r j => r = 80 ∧ j = 22) I (iU I 80 22 (jI 0)) := vAg_iU vAg_rfl ⟨rfl, rfl⟩
  have hR1 := vTr_ag h0 (fun r j q => by omega) hR
  refine r179_a (d := d + 1) (lw := lw) hF hok hR1 (fun I2 h2 hm0 => ?_) n 0 0 _ (by omega) rfl vAg_rfl (fun j hj => absurd hj (by omega))
  simp only [g179_54, g179_55, nl_none, nl_int, nl_ref, Option.toList_some, Option.toList_none, List.cons_append, List.nil_append, mSetI_u, mSetL_u, Nat.add_one_ne_zero, Nat.add_eq_zero_iff, and_false, false_and, not_false_eq_true, ne_eq, j0_0, j0_1, j1_0, j1_1, if_true, if_false, ite_true, ite_false, true_and, and_true, or_true, true_or, false_or, or_false, ↓reduceIte, Nat.reduceEqDiff, Nat.reduceAdd, Nat.reduceMul, Nat.reduceSub, Int.reduceLE, Int.reduceLT, Int.reduceNeg, Int.reduceAdd, Int.reduceSub, Int.reduceEq, reduceCtorEq, jI_lt, jI_eq, jI_lt0, jI_0lt, jI_eq0, jI_0le, jn_lo, iU_row, iU_nr, iU_eq, iU_same, jI_ixn, jI_add, jI_sub, jI_nat]
  have h02 : vAg (fun r j => r = 91 ∨ (r = 80 ∧ j = 22)) I I2 := vAg_tr (vAg_mono h0 (fun r j q => .inr q)) (vAg_mono h2 (fun r j q => .inl q))
  refine r179_b (d := d) hF hok (vTr_ag h02 (fun r j q => by omega) hR) (vLr_ag h02 (fun r j q => by omega) hlw) (fun I3 a2 h3 hmo hcm => ?_) n 0 0 _ _ (by omega) rfl vAg_rfl hm0 ?_
  · simp only [g179_111, g179_112, nl_none, nl_int, nl_ref, Option.toList_some, Option.toList_none, List.cons_append, List.nil_append, mSetI_u, mSetL_u, Nat.add_one_ne_zero, Nat.add_eq_zero_iff, and_false, false_and, not_false_eq_true, ne_eq, j0_0, j0_1, j1_0, j1_1, if_true, if_false, ite_true, ite_false, true_and, and_true, or_true, true_or, false_or, or_false, ↓reduceIte, Nat.reduceEqDiff, Nat.reduceAdd, Nat.reduceMul, Nat.reduceSub, Int.reduceLE, Int.reduceLT, Int.reduceNeg, Int.reduceAdd, Int.reduceSub, Int.reduceEq, reduceCtorEq, jI_lt, jI_eq, jI_lt0, jI_0lt, jI_eq0, jI_0le, jn_lo, iU_row, iU_nr, iU_eq, iU_same, jI_ixn, jI_add, jI_sub, jI_nat]
    have h03 : vAg (fun r j => r = 91 ∨ (r = 80 ∧ j = 22) ∨ vScD r j) I I3 := vAg_tr (vAg_mono h02 (fun r j q => by omega)) h3
    have hR3 := vTr_ag h03 (fun r j q => by unfold vScD at q; omega) hR
    have hb : ∀ j, j < n → ∀ m : Nat, -200 ≤ pMore lw n T j m ∧ pMore lw n T j m ≤ 20 * m := by
      intro j hj m
      have h := pIn_in hl n T j m
      obtain ⟨a0, a1, b0, b1, c0, c1, -⟩ := vOk_w hok hj
      unfold pMore
      split <;> omega
    refine r179_c (d := d) hF hok hb hR3 hmo (fun I4 a2 h4 hT4 => ?_) n 0 0 _ _ (by omega) rfl vAg_rfl (fun j hj w hw => ?_)
    · have h41 : I4 81 41 = jI (T 6 0) := (h4 _ _ (by omega)).trans hR3.2.2.1
      simp only [g179_152, g179_153, g179_156, g179_158, g179_160, g179_161, g179_164, g179_166, g179_167, g179_168, g179_169, g179_172, g179_173, nl_none, nl_int, nl_ref, Option.toList_some, Option.toList_none, List.cons_append, List.nil_append, mSetI_u, mSetL_u, Nat.add_one_ne_zero, Nat.add_eq_zero_iff, and_false, false_and, not_false_eq_true, ne_eq, j0_0, j0_1, j1_0, j1_1, if_true, if_false, ite_true, ite_false, true_and, and_true, or_true, true_or, false_or, or_false, ↓reduceIte, Nat.reduceEqDiff, Nat.reduceAdd, Nat.reduceMul, Nat.reduceSub, Int.reduceLE, Int.reduceLT, Int.reduceNeg, Int.reduceAdd, Int.reduceSub, Int.reduceEq, reduceCtorEq, jI_lt, jI_eq, jI_lt0, jI_0lt, jI_eq0, jI_0le, jn_lo, iU_row, iU_nr, iU_eq, iU_same, jI_ixn, jI_add, jI_sub, jI_nat, sh_80, sh_81, f_80_0 hF, h41, show -2147483648 ≤ (T 6 0 + 1 : Int) by omega, show (T 6 0 + 1 : Int) ≤ 2147483647 by omega, jI_if, show mIdx (Int32.ofInt 41) 42 = true from rfl, show (Int32.ofInt 41).toNatClampNeg = 41 from rfl]
      refine hP _ (vAg_iU (vAg_tr (vAg_mono h03 (fun r j q => .inr q)) (vAg_mono h4 (fun r j q => .inl q.1))) (.inl rfl)) ⟨fun i hi w hw => ?_, ?_, ?_, ?_⟩ ?_
      · rw [iU_ne (by omega)]
        exact hT4 i hi w hw
      · rw [iU_ne (by omega), h4 _ _ (by omega)]
        exact hR3.2.1
      · rw [iU_eq]
        rw [show pDay lw n T 6 0 = (if 99 < T 6 0 + 1 then 99 else T 6 0 + 1) from rfl]
        congr 1
        split <;> split <;> omega
      · rw [iU_ne (by omega), h4 _ _ (by omega)]
        exact hR3.2.2.2
      · rw [iU_ne (by omega), h4 _ _ (by omega)]
        exact hcm
    · rw [if_neg (by omega)]
      exact hR3.1 j hj w hw
  · rw [h2 _ _ (by omega), iU_eq]
    rfl
end REFD
