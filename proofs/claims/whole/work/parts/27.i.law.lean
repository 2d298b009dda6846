/-! ===== law ===== -/
theorem lText_le {b : Nat → Int} {len : Nat} : ∀ k p, p ≤ len → (lText b len k p).2.1 ≤ len
  | 0, p, hp => hp
  | k + 1, p, hp => by
    have h := lLine_ge (b := b) hp
    rw [lText]
    split
    · split
      · exact h.2
      · split
        · exact lText_le k _ (by omega)
        · exact h.2
    · exact h.2
def vScZ (r j : Nat) : Prop := r = 87 ∨ r = 88 ∨ r = 89 ∨ (r = 80 ∧ (j = 9 ∨ j = 11 ∨ j = 12 ∨ (14 ≤ j ∧ j ≤ 17)))
section LAWR
variable {d n : Nat} {e : List mShp} {I : Nat → Nat → Int32} {E : Nat → Nat → Int64} {F : Nat → Nat → Nat} {P : mPost} {st nx gf rl dr pos len : Nat} {b : Nat → Int} {en : Nat → Int32} {o z : Int}
theorem r173_a (hF : mFx F st nx gf rl dr) (hl : len ≤ 120) {I0 : Nat → Nat → Int32} (ht : ∀ j, j < len → I0 86 j = jI (b j)) (h14 : I0 80 14 = jI len) (hP : ∀ I', vAg (fun r _ => r = 88) I0 I' → (∀ j, j < len → I' 88 j = jI (b j)) → mG d 173 36 [some (.ref 80), some (.int (jI len))] [] (mLay e) (I', E, F) P) : ∀ (k i : Nat) (z : Int) I', i + k = len → z = i → vAg (fun r _ => r = 88) I0 I' → (∀ j, j < i → I' 88 j = jI (b j)) → mG d 173 10 [some (.ref 80), some (.int (jI z))] [] (mLay e) (I', E, F) P
  | 0, i, z, I', hi, hz, ha, hc => by
    subst hz
    have e : i = len := by omega
    subst e
    have k14 : I' 80 14 = jI i := (ha 80 14 (by omega)).trans h14
    rw [g173_10]
    simp only [g173_11, g173_12, g173_15, nl_none, nl_int, nl_ref, Option.toList_some, Option.toList_none, List.cons_append, List.nil_append, mSetI_u, mSetL_u, Nat.add_one_ne_zero, Nat.add_eq_zero_iff, and_false, false_and, not_false_eq_true, ne_eq, j0_0, j0_1, j1_0, j1_1, if_true, if_false, ite_true, ite_false, true_and, and_true, or_true, true_or, false_or, or_false, ↓reduceIte, Nat.reduceEqDiff, Nat.reduceAdd, Nat.reduceMul, Nat.reduceSub, Int.reduceLE, Int.reduceLT, Int.reduceNeg, Int.reduceAdd, Int.reduceSub, Int.reduceEq, reduceCtorEq, jI_lt, jI_eq, jI_lt0, jI_0lt, jI_eq0, jI_0le, jn_lo, iU_row, iU_nr, iU_eq, iU_same, jI_ixn, jI_add, jI_sub, jI_nat, sh_80, k14, show ((i : Nat) : Int) ≤ 2147483647 by omega, show (i : Nat) ≤ 2147483647 by omega, show ¬ ((i : Int) < (i : Int)) by omega]
    exact hP I' ha hc
  | k + 1, i, z, I', hi, hz, ha, hc => by
    subst hz
    have k14 : I' 80 14 = jI len := (ha 80 14 (by omega)).trans h14
    have k86 : I' 86 i = jI (b i) := (ha 86 i (by omega)).trans (ht i (by omega))
    have ih := r173_a hF hl ht h14 hP k (i + 1) ((i : Int) + 1) (iU I' 88 i (jI (b i))) (by omega) (by omega) (vAg_iU ha rfl) (fun j hj => by
      by_cases ej : j = i
      · rw [ej, iU_eq]
      · rw [iU_same ej]
        exact hc j (by omega))
    rw [g173_10]
    simp only [g173_11, g173_12, g173_15, g173_18, g173_19, g173_22, g173_23, g173_24, g173_27, g173_28, g173_29, g173_30, g173_33, nl_none, nl_int, nl_ref, Option.toList_some, Option.toList_none, List.cons_append, List.nil_append, mSetI_u, mSetL_u, Nat.add_one_ne_zero, Nat.add_eq_zero_iff, and_false, false_and, not_false_eq_true, ne_eq, j0_0, j0_1, j1_0, j1_1, if_true, if_false, ite_true, ite_false, true_and, and_true, or_true, true_or, false_or, or_false, ↓reduceIte, Nat.reduceEqDiff, Nat.reduceAdd, Nat.reduceMul, Nat.reduceSub, Int.reduceLE, Int.reduceLT, Int.reduceNeg, Int.reduceAdd, Int.reduceSub, Int.reduceEq, reduceCtorEq, jI_lt, jI_eq, jI_lt0, jI_0lt, jI_eq0, jI_0le, jn_lo, iU_row, iU_nr, iU_eq, iU_same, jI_ixn, jI_add, jI_sub, jI_nat, sh_80, sh_86, sh_88, f_80_13 hF, f_80_8 hF, k14, k86, show ((i : Nat) : Int) ≤ 2147483647 by omega, show (i : Nat) ≤ 2147483647 by omega, show ((len : Nat) : Int) ≤ 2147483647 by omega, show (len : Nat) ≤ 2147483647 by omega, show (i : Int) < (len : Int) by omega, jI_in (z := ((i : Int) : Int)) (n := 120) (by omega) (by omega) (by omega)]
    exact ih
theorem r173_n (hF : mFx F st nx gf rl dr) {I0 : Nat → Nat → Int32} (hP : ∀ I', vAg (fun r _ => r = 89) I0 I' → (∀ j, j < 6 → I' 89 j = jI 0) → mG d 173 62 [some (.ref 80), some (.int (jI 6))] [] (mLay e) (I', E, F) P) : ∀ (k i : Nat) (z : Int) I', i + k = 6 → z = i → vAg (fun r _ => r = 89) I0 I' → (∀ j, j < i → I' 89 j = jI 0) → mG d 173 43 [some (.ref 80), some (.int (jI z))] [] (mLay e) (I', E, F) P
  | 0, i, z, I', hi, hz, ha, hc => by
    subst hz
    have e : i = 6 := by omega
    subst e
    rw [g173_43]
    simp only [g173_44, g173_46, nl_none, nl_int, nl_ref, Option.toList_some, Option.toList_none, List.cons_append, List.nil_append, mSetI_u, mSetL_u, Nat.add_one_ne_zero, Nat.add_eq_zero_iff, and_false, false_and, not_false_eq_true, ne_eq, j0_0, j0_1, j1_0, j1_1, if_true, if_false, ite_true, ite_false, true_and, and_true, or_true, true_or, false_or, or_false, ↓reduceIte, Nat.reduceEqDiff, Nat.reduceAdd, Nat.reduceMul, Nat.reduceSub, Int.reduceLE, Int.reduceLT, Int.reduceNeg, Int.reduceAdd, Int.reduceSub, Int.reduceEq, reduceCtorEq, jI_lt, jI_eq, jI_lt0, jI_0lt, jI_eq0, jI_0le, jn_lo, iU_row, iU_nr, iU_eq, iU_same, jI_ixn, jI_add, jI_sub, jI_nat, show ((6 : Nat) : Int) = 6 from rfl, Int.lt_irrefl]
    exact hP I' ha hc
  | k + 1, i, z, I', hi, hz, ha, hc => by
    subst hz
    have ih := r173_n hF hP k (i + 1) ((i : Int) + 1) (iU I' 89 i (jI 0)) (by omega) (by omega) (vAg_iU ha rfl) (fun j hj => by
      by_cases ej : j = i
      · rw [ej, iU_eq]
      · rw [iU_same ej]
        exact hc j (by omega))
    rw [g173_43]
    simp only [g173_44, g173_46, g173_49, g173_50, g173_53, g173_54, g173_55, g173_56, g173_59, nl_none, nl_int, nl_ref, Option.toList_some, Option.toList_none, List.cons_append, List.nil_append, mSetI_u, mSetL_u, Nat.add_one_ne_zero, Nat.add_eq_zero_iff, and_false, false_and, not_false_eq_true, ne_eq, j0_0, j0_1, j1_0, j1_1, if_true, if_false, ite_true, ite_false, true_and, and_true, or_true, true_or, false_or, or_false, ↓reduceIte, Nat.reduceEqDiff, Nat.reduceAdd, Nat.reduceMul, Nat.reduceSub, Int.reduceLE, Int.reduceLT, Int.reduceNeg, Int.reduceAdd, Int.reduceSub, Int.reduceEq, reduceCtorEq, jI_lt, jI_eq, jI_lt0, jI_0lt, jI_eq0, jI_0le, jn_lo, iU_row, iU_nr, iU_eq, iU_same, jI_ixn, jI_add, jI_sub, jI_nat, sh_80, sh_89, f_80_18 hF, show ((i : Nat) : Int) ≤ 2147483647 by omega, show (i : Nat) ≤ 2147483647 by omega, show (i : Int) < 6 by omega, jI_in (z := ((i : Int) : Int)) (n := 6) (by omega) (by omega) (by omega)]
    exact ih
theorem r173_c (hF : mFx F st nx gf rl dr) (hl : len ≤ 120) {I0 : Nat → Nat → Int32} (ht : ∀ j, j < len → I0 88 j = jI (b j)) (h14 : I0 80 14 = jI len) (hP : ∀ I', vAg (fun r _ => r = 87) I0 I' → (∀ j, j < len → I' 87 j = jI (b j)) → mG d 173 121 [some (.ref 80), some (.int (jI len))] [] (mLay e) (I', E, F) P) : ∀ (k i : Nat) (z : Int) I', i + k = len → z = i → vAg (fun r _ => r = 87) I0 I' → (∀ j, j < i → I' 87 j = jI (b j)) → mG d 173 95 [some (.ref 80), some (.int (jI z))] [] (mLay e) (I', E, F) P
  | 0, i, z, I', hi, hz, ha, hc => by
    subst hz
    have e : i = len := by omega
    subst e
    have k14 : I' 80 14 = jI i := (ha 80 14 (by omega)).trans h14
    rw [g173_95]
    simp only [g173_96, g173_97, g173_100, nl_none, nl_int, nl_ref, Option.toList_some, Option.toList_none, List.cons_append, List.nil_append, mSetI_u, mSetL_u, Nat.add_one_ne_zero, Nat.add_eq_zero_iff, and_false, false_and, not_false_eq_true, ne_eq, j0_0, j0_1, j1_0, j1_1, if_true, if_false, ite_true, ite_false, true_and, and_true, or_true, true_or, false_or, or_false, ↓reduceIte, Nat.reduceEqDiff, Nat.reduceAdd, Nat.reduceMul, Nat.reduceSub, Int.reduceLE, Int.reduceLT, Int.reduceNeg, Int.reduceAdd, Int.reduceSub, Int.reduceEq, reduceCtorEq, jI_lt, jI_eq, jI_lt0, jI_0lt, jI_eq0, jI_0le, jn_lo, iU_row, iU_nr, iU_eq, iU_same, jI_ixn, jI_add, jI_sub, jI_nat, sh_80, k14, show ((i : Nat) : Int) ≤ 2147483647 by omega, show (i : Nat) ≤ 2147483647 by omega, show ¬ ((i : Int) < (i : Int)) by omega]
    exact hP I' ha hc
  | k + 1, i, z, I', hi, hz, ha, hc => by
    subst hz
    have k14 : I' 80 14 = jI len := (ha 80 14 (by omega)).trans h14
    have k88 : I' 88 i = jI (b i) := (ha 88 i (by omega)).trans (ht i (by omega))
    have ih := r173_c hF hl ht h14 hP k (i + 1) ((i : Int) + 1) (iU I' 87 i (jI (b i))) (by omega) (by omega) (vAg_iU ha rfl) (fun j hj => by
      by_cases ej : j = i
      · rw [ej, iU_eq]
      · rw [iU_same ej]
        exact hc j (by omega))
    rw [g173_95]
    simp only [g173_96, g173_97, g173_100, g173_103, g173_104, g173_107, g173_108, g173_109, g173_112, g173_113, g173_114, g173_115, g173_118, nl_none, nl_int, nl_ref, Option.toList_some, Option.toList_none, List.cons_append, List.nil_append, mSetI_u, mSetL_u, Nat.add_one_ne_zero, Nat.add_eq_zero_iff, and_false, false_and, not_false_eq_true, ne_eq, j0_0, j0_1, j1_0, j1_1, if_true, if_false, ite_true, ite_false, true_and, and_true, or_true, true_or, false_or, or_false, ↓reduceIte, Nat.reduceEqDiff, Nat.reduceAdd, Nat.reduceMul, Nat.reduceSub, Int.reduceLE, Int.reduceLT, Int.reduceNeg, Int.reduceAdd, Int.reduceSub, Int.reduceEq, reduceCtorEq, jI_lt, jI_eq, jI_lt0, jI_0lt, jI_eq0, jI_0le, jn_lo, iU_row, iU_nr, iU_eq, iU_same, jI_ixn, jI_add, jI_sub, jI_nat, sh_80, sh_87, sh_88, f_80_13 hF, f_80_10 hF, k14, k88, show ((i : Nat) : Int) ≤ 2147483647 by omega, show (i : Nat) ≤ 2147483647 by omega, show ((len : Nat) : Int) ≤ 2147483647 by omega, show (len : Nat) ≤ 2147483647 by omega, show (i : Int) < (len : Int) by omega, jI_in (z := ((i : Int) : Int)) (n := 120) (by omega) (by omega) (by omega)]
    exact ih
theorem r173 (hF : mFx F st nx gf rl dr) (hl : len ≤ 120) (hb : ∀ j, j < len → 0 ≤ b j ∧ b j ≤ 255) (h9 : I 80 9 = jI len) (h86 : ∀ j, j < len → I 86 j = jI (b j)) (h90 : vLet (I 90)) {Q : Nat} (hQ : 46 ≤ Q) (hP : ∀ I', vAg vScZ I I' → I' 80 9 = jI 0 → ((lText b len 121 0).1 = true → I' 80 11 = jI len ∧ I' 80 12 = jI 1 ∧ ∀ j, j < len → I' 87 j = jI (b j)) → (¬ (lText b len 121 0).1 = true → I' 87 = I 87 ∧ I' 80 11 = I 80 11 ∧ I' 80 12 = I 80 12) → P (some (.int (jI (if (lText b len 121 0).1 = true then 1 else -100 - ((lText b len 121 0).2.1 : Int))))) (mLay e) (I', E, F)) : mF Q 173 [.ref 80] (mLay e) (I, E, F) P := by
  obtain ⟨q, rfl⟩ : ∃ q, Q = q + 1 := ⟨Q - 1, by omega⟩
  have hle := lText_le (b := b) (len := len) 121 0 (by omega)
  simp only [g173_in, g173_0, g173_1, g173_2, g173_5, g173_8, g173_9, nl_none, nl_int, nl_ref, Option.toList_some, Option.toList_none, List.cons_append, List.nil_append, mSetI_u, mSetL_u, Nat.add_one_ne_zero, Nat.add_eq_zero_iff, and_false, false_and, not_false_eq_true, ne_eq, j0_0, j0_1, j1_0, j1_1, if_true, if_false, ite_true, ite_false, true_and, and_true, or_true, true_or, false_or, or_false, ↓reduceIte, Nat.reduceEqDiff, Nat.reduceAdd, Nat.reduceMul, Nat.reduceSub, Int.reduceLE, Int.reduceLT, Int.reduceNeg, Int.reduceAdd, Int.reduceSub, Int.reduceEq, reduceCtorEq, jI_lt, jI_eq, jI_lt0, jI_0lt, jI_eq0, jI_0le, jn_lo, iU_row, iU_nr, iU_eq, iU_same, jI_ixn, jI_add, jI_sub, jI_nat, sh_80, h9]
  refine r173_a (I0 := iU I 80 14 (jI len)) hF hl (fun j hj => by rw [iU_row (by omega)]; exact h86 j hj) iU_eq (fun I1 h1 hc1 => ?_) len 0 0 _ (by omega) rfl vAg_rfl (fun j hj => absurd hj (by omega))
  simp only [g173_36, g173_37, g173_38, g173_41, g173_42, nl_none, nl_int, nl_ref, Option.toList_some, Option.toList_none, List.cons_append, List.nil_append, mSetI_u, mSetL_u, Nat.add_one_ne_zero, Nat.add_eq_zero_iff, and_false, false_and, not_false_eq_true, ne_eq, j0_0, j0_1, j1_0, j1_1, if_true, if_false, ite_true, ite_false, true_and, and_true, or_true, true_or, false_or, or_false, ↓reduceIte, Nat.reduceEqDiff, Nat.reduceAdd, Nat.reduceMul, Nat.reduceSub, Int.reduceLE, Int.reduceLT, Int.reduceNeg, Int.reduceAdd, Int.reduceSub, Int.reduceEq, reduceCtorEq, jI_lt, jI_eq, jI_lt0, jI_0lt, jI_eq0, jI_0le, jn_lo, iU_row, iU_nr, iU_eq, iU_same, jI_ixn, jI_add, jI_sub, jI_nat, sh_80]
  refine r173_n (I0 := iU I1 80 9 (jI 0)) hF (fun I2 h2 hc2 => ?_) 6 0 0 _ (by omega) rfl vAg_rfl (fun j hj => absurd hj (by omega))
  simp only [g173_62, g173_63, nl_none, nl_int, nl_ref, Option.toList_some, Option.toList_none, List.cons_append, List.nil_append, mSetI_u, mSetL_u, Nat.add_one_ne_zero, Nat.add_eq_zero_iff, and_false, false_and, not_false_eq_true, ne_eq, j0_0, j0_1, j1_0, j1_1, if_true, if_false, ite_true, ite_false, true_and, and_true, or_true, true_or, false_or, or_false, ↓reduceIte, Nat.reduceEqDiff, Nat.reduceAdd, Nat.reduceMul, Nat.reduceSub, Int.reduceLE, Int.reduceLT, Int.reduceNeg, Int.reduceAdd, Int.reduceSub, Int.reduceEq, reduceCtorEq, jI_lt, jI_eq, jI_lt0, jI_0lt, jI_eq0, jI_0le, jn_lo, iU_row, iU_nr, iU_eq, iU_same, jI_ixn, jI_add, jI_sub, jI_nat, sh_80]
  have g14 : I2 80 14 = jI len := by
    rw [h2 80 14 (by omega), iU_same (by omega), h1 80 14 (by omega), iU_eq]
  have g88 : ∀ j, j < len → I2 88 j = jI (b j) := fun j hj => by
    rw [h2 88 j (by omega), iU_row (by omega)]
    exact hc1 j hj
  have a2 : vAg vScZ I I2 := vAg_tr (vAg_iU (vAg_tr (vAg_iU (R := vScZ) vAg_rfl (by unfold vScZ; omega)) (vAg_mono h1 (fun r j w => by unfold vScZ; omega))) (by unfold vScZ; omega)) (vAg_mono h2 (fun r j w => by unfold vScZ; omega))
  have g90 : vLet (I2 90) := by
    rw [vAg_row (r := 90) a2 (fun j => by unfold vScZ; omega)]
    exact h90
  refine r172 (en := fun _ => jI 0) (b := b) (len := len) hF hl hb (by omega) g14 g88 g90 (fun j hj => hc2 j hj) (fun I3 v h3 => ?_)
  obtain ⟨k1, k2, k3, k4⟩ := h3
  have a3 : vAg vScZ I I3 := vAg_tr a2 (vAg_mono k1 (fun r j w => by unfold vScY at w; unfold vScZ; omega))
  have k14 : I3 80 14 = jI len := (k1 80 14 (by unfold vScY; omega)).trans g14
  have k9 : I3 80 9 = jI 0 := by
    rw [k1 80 9 (by unfold vScY; omega), h2 80 9 (by omega), iU_eq]
  have k87 : I3 87 = I 87 := by
    rw [vAg_row (r := 87) k1 (fun j => by unfold vScY; omega), vAg_row (r := 87) h2 (fun j => by omega), iU_row (by omega), vAg_row (r := 87) h1 (fun j => by omega), iU_row (by omega)]
  have k1112 : ∀ j, j = 11 ∨ j = 12 → I3 80 j = I 80 j := fun j hj => by
    rw [k1 80 j (by unfold vScY; omega), h2 80 j (by omega), iU_same (by omega), h1 80 j (by omega), iU_same (by omega)]
  by_cases qx : (lText b len 121 0).1 = true
  · rw [if_pos qx] at hP
    obtain ⟨m1, m2, -⟩ := k3 qx
    simp only [g173_66, g173_67, g173_68, g173_71, g173_74, g173_75, g173_78, g173_79, g173_82, g173_85, g173_87, g173_88, g173_91, g173_92, g173_93, g173_94, nl_none, nl_int, nl_ref, Option.toList_some, Option.toList_none, List.cons_append, List.nil_append, mSetI_u, mSetL_u, Nat.add_one_ne_zero, Nat.add_eq_zero_iff, and_false, false_and, not_false_eq_true, ne_eq, j0_0, j0_1, j1_0, j1_1, if_true, if_false, ite_true, ite_false, true_and, and_true, or_true, true_or, false_or, or_false, ↓reduceIte, Nat.reduceEqDiff, Nat.reduceAdd, Nat.reduceMul, Nat.reduceSub, Int.reduceLE, Int.reduceLT, Int.reduceNeg, Int.reduceAdd, Int.reduceSub, Int.reduceEq, reduceCtorEq, jI_lt, jI_eq, jI_lt0, jI_0lt, jI_eq0, jI_0le, jn_lo, iU_row, iU_nr, iU_eq, iU_same, jI_ixn, jI_add, jI_sub, jI_nat, sh_80, m1, k2, k14, show (((lText b len 121 0).2.1 : Nat) : Int) ≤ 2147483647 by omega, show ((lText b len 121 0).2.1 : Nat) ≤ 2147483647 by omega, show ((len : Nat) : Int) ≤ 2147483647 by omega, show (len : Nat) ≤ 2147483647 by omega, show ¬ (((lText b len 121 0).2.1 : Int) < (len : Int)) by omega]
    refine r173_c (I0 := I3) hF hl (fun j hj => (k1 88 j (by unfold vScY; omega)).trans (g88 j hj)) k14 (fun I4 h4 hc4 => ?_) len 0 0 _ (by omega) rfl vAg_rfl (fun j hj => absurd hj (by omega))
    have j14 : I4 80 14 = jI len := (h4 80 14 (by omega)).trans k14
    have hp := hP (iU (iU I4 80 11 (jI len)) 80 12 (jI 1)) (vAg_iU (vAg_iU (vAg_tr a3 (vAg_mono h4 (fun r j w => .inl w))) (by unfold vScZ; omega)) (by unfold vScZ; omega)) (by rw [iU_same (by omega), iU_same (by omega), h4 80 9 (by omega)]; exact k9) (fun _ => ⟨by rw [iU_same (by omega), iU_eq], iU_eq, fun j hj => by rw [iU_row (by omega), iU_row (by omega)]; exact hc4 j hj⟩) (fun w => absurd qx w)
    simp only [g173_121, g173_122, g173_123, g173_126, g173_129, g173_130, g173_131, g173_134, g173_135, nl_none, nl_int, nl_ref, Option.toList_some, Option.toList_none, List.cons_append, List.nil_append, mSetI_u, mSetL_u, Nat.add_one_ne_zero, Nat.add_eq_zero_iff, and_false, false_and, not_false_eq_true, ne_eq, j0_0, j0_1, j1_0, j1_1, if_true, if_false, ite_true, ite_false, true_and, and_true, or_true, true_or, false_or, or_false, ↓reduceIte, Nat.reduceEqDiff, Nat.reduceAdd, Nat.reduceMul, Nat.reduceSub, Int.reduceLE, Int.reduceLT, Int.reduceNeg, Int.reduceAdd, Int.reduceSub, Int.reduceEq, reduceCtorEq, jI_lt, jI_eq, jI_lt0, jI_0lt, jI_eq0, jI_0le, jn_lo, iU_row, iU_nr, iU_eq, iU_same, jI_ixn, jI_add, jI_sub, jI_nat, sh_80, j14, eq_self]
    exact hp
  · rw [if_neg qx] at hP
    have hp := hP I3 a3 k9 (fun w => absurd w qx) (fun _ => ⟨k87, k1112 11 (.inl rfl), k1112 12 (.inr rfl)⟩)
    rcases k4 qx with w | w
    · simp only [g173_66, g173_67, g173_68, g173_71, g173_74, g173_75, g173_78, g173_79, g173_82, g173_85, g173_87, g173_88, g173_91, g173_92, nl_none, nl_int, nl_ref, Option.toList_some, Option.toList_none, List.cons_append, List.nil_append, mSetI_u, mSetL_u, Nat.add_one_ne_zero, Nat.add_eq_zero_iff, and_false, false_and, not_false_eq_true, ne_eq, j0_0, j0_1, j1_0, j1_1, if_true, if_false, ite_true, ite_false, true_and, and_true, or_true, true_or, false_or, or_false, ↓reduceIte, Nat.reduceEqDiff, Nat.reduceAdd, Nat.reduceMul, Nat.reduceSub, Int.reduceLE, Int.reduceLT, Int.reduceNeg, Int.reduceAdd, Int.reduceSub, Int.reduceEq, reduceCtorEq, jI_lt, jI_eq, jI_lt0, jI_0lt, jI_eq0, jI_0le, jn_lo, iU_row, iU_nr, iU_eq, iU_same, jI_ixn, jI_add, jI_sub, jI_nat, sh_80, w, k2]
      exact hp
    · by_cases qw : I3 80 16 = 0
      · simp only [g173_66, g173_67, g173_68, g173_71, g173_74, g173_75, g173_78, g173_79, g173_82, g173_85, g173_87, g173_88, g173_91, g173_92, nl_none, nl_int, nl_ref, Option.toList_some, Option.toList_none, List.cons_append, List.nil_append, mSetI_u, mSetL_u, Nat.add_one_ne_zero, Nat.add_eq_zero_iff, and_false, false_and, not_false_eq_true, ne_eq, j0_0, j0_1, j1_0, j1_1, if_true, if_false, ite_true, ite_false, true_and, and_true, or_true, true_or, false_or, or_false, ↓reduceIte, Nat.reduceEqDiff, Nat.reduceAdd, Nat.reduceMul, Nat.reduceSub, Int.reduceLE, Int.reduceLT, Int.reduceNeg, Int.reduceAdd, Int.reduceSub, Int.reduceEq, reduceCtorEq, jI_lt, jI_eq, jI_lt0, jI_0lt, jI_eq0, jI_0le, jn_lo, iU_row, iU_nr, iU_eq, iU_same, jI_ixn, jI_add, jI_sub, jI_nat, sh_80, qw, k2]
        exact hp
      · simp only [g173_66, g173_67, g173_68, g173_71, g173_74, g173_75, g173_78, g173_79, g173_82, g173_85, g173_87, g173_88, g173_91, g173_92, nl_none, nl_int, nl_ref, Option.toList_some, Option.toList_none, List.cons_append, List.nil_append, mSetI_u, mSetL_u, Nat.add_one_ne_zero, Nat.add_eq_zero_iff, and_false, false_and, not_false_eq_true, ne_eq, j0_0, j0_1, j1_0, j1_1, if_true, if_false, ite_true, ite_false, true_and, and_true, or_true, true_or, false_or, or_false, ↓reduceIte, Nat.reduceEqDiff, Nat.reduceAdd, Nat.reduceMul, Nat.reduceSub, Int.reduceLE, Int.reduceLT, Int.reduceNeg, Int.reduceAdd, Int.reduceSub, Int.reduceEq, reduceCtorEq, jI_lt, jI_eq, jI_lt0, jI_0lt, jI_eq0, jI_0le, jn_lo, iU_row, iU_nr, iU_eq, iU_same, jI_ixn, jI_add, jI_sub, jI_nat, sh_80, qw, k2, k14, show (((lText b len 121 0).2.1 : Nat) : Int) ≤ 2147483647 by omega, show ((lText b len 121 0).2.1 : Nat) ≤ 2147483647 by omega, show ((len : Nat) : Int) ≤ 2147483647 by omega, show (len : Nat) ≤ 2147483647 by omega, show ((lText b len 121 0).2.1 : Int) < (len : Int) by omega]
        exact hp
end LAWR
/-- what law may write -/
def vScW (dr r j : Nat) : Prop := vScr r j ∨ (r = 20 ∧ j = 1) ∨ (r = 80 ∧ (j = 9 ∨ j = 11 ∨ j = 12)) ∨ r = 87 ∨ (r = 22 ∧ j = 3) ∨ r = dr + 1 ∨ r = dr + 2 ∨ (r = dr ∧ j = 2)
theorem vInv_law {c n bn st nx gf rl dr rl' dr' : Nat} {e : List mShp} {I I' : Nat → Nat → Int32} {E : Nat → Nat → Int64} {F F' : Nat → Nat → Nat} {T : Nat → Nat → Int} {lw lw' : vLw} (h : vInv c e I E F st nx gf rl dr n bn T lw) (ha : vAg (vScW dr) I I') (hF' : mFx F' st nx gf rl' dr') (h3' : (rl' = 70 ∧ dr' = 75) ∨ (rl' = 75 ∧ dr' = 70)) (h20 : I' 20 1 = jI 0) (h9' : I' 80 9 = jI 0) (h15' : vLawC lw' (I' (rl' + 1)) (I' (rl' + 2)) (I' rl' 2)) (h16' : vLawR lw' (I' 87) (I' 80 11) (I' 80 12) (I' 90)) (h17' : vRing c n T lw' (I' 23) (I' 22 1) (I' 22 2) (I' 22 3) (I' 22 8) gf (I' gf)) : vInv c e I' E F' st nx gf rl' dr' n bn T lw' := by
  obtain ⟨h1, h2, h3, h4, h5, h6, h7, h8, h9, h10, h11, h12, h13, h14, h15, h16, h17, h18⟩ := h
  have hrow : ∀ r, (∀ j, ¬ vScW dr r j) → I' r = I r := fun r hr => vAg_row ha hr
  have hpl : ∀ r j, ¬ vScW dr r j → I' r j = I r j := ha
  have hdr : dr = 70 ∨ dr = 75 := by omega
  unfold vScW vScr at hrow hpl
  refine ⟨hF', h2, h3', h4, h5, ?_, ?_, ?_, ?_, ?_, ?_, ?_, ?_, ?_, h15', h16', h17', ?_⟩
  all_goals clear h15 h16 h17 h15' h16' h17'
  · rw [hrow 5 (by omega), hrow 6 (by omega), hrow 7 (by omega), hrow 8 (by omega), hrow 9 (by omega), hpl 4 0 (by omega), hpl 4 6 (by omega), hpl 4 7 (by omega)]
    exact h6
  · rw [hrow 81 (by omega), hpl 80 2 (by omega)]
    exact h7
  · rw [hpl 80 20 (by omega)]
    exact h8
  · rw [hrow 60 (by omega), hrow 98 (by omega)]
    exact h9
  · rw [hpl 3 12 (by omega), hpl 80 37 (by omega), hrow 62 (by omega), hrow 63 (by omega), hrow 64 (by omega), hrow 65 (by omega), hrow 66 (by omega), hpl 61 0 (by omega), hpl 61 6 (by omega), hpl 61 7 (by omega), hrow 99 (by omega), hpl 80 36 (by omega), hrow 69 (by omega), hrow 100 (by omega)]
    exact h10
  · rw [hpl 48 4 (by omega), hpl 48 5 (by omega), hpl 80 6 (by omega), hpl 80 7 (by omega), hrow 49 (by omega), hrow 50 (by omega), hrow 51 (by omega), hrow 52 (by omega), hrow 83 (by omega), hrow 84 (by omega), hrow 85 (by omega)]
    exact h11
  · exact ⟨0, by omega, h20, h9', fun j hj => absurd hj (by omega)⟩
  · rw [hpl 53 1 (by omega), hpl 80 41 (by omega), hrow 54 (by omega), hrow 103 (by omega), hpl 53 3 (by omega), hpl 80 43 (by omega), hrow 55 (by omega), hrow 104 (by omega), hrow 101 (by omega), hrow 102 (by omega)]
    exact h13
  · rw [hrow 57 (by omega), hrow 58 (by omega), hrow 94 (by omega), hrow 95 (by omega)]
    exact h14
  · rw [hrow 90 (by omega)]
    exact h18
theorem c17_R {e : List mShp} {I : Nat → Nat → Int32} {E : Nat → Nat → Int64} {F : Nat → Nat → Nat} {P : mPost} {st nx gf rl dr len l : Nat} {b : Nat → Int} {ok : Bool} {p : Nat} {r : List lLn} (hR : lText b len 121 0 = (ok, p, r)) (hF : mFx F st nx gf rl dr) (hlr : l = 70 ∨ l = 75) (hl : len ≤ 120) (hb : ∀ j, j < len → 0 ≤ b j ∧ b j ≤ 255) {Q : Nat} (hQ : 59 ≤ Q) (hl1 : I 20 1 = jI len) (ht : ∀ j, j < len → I 21 j = jI (b j)) (hP : ∀ I', vAg (fun r j => vScL l r j ∨ (r = 20 ∧ j = 1)) I I' → I' 20 1 = jI 0 → (ok = true → ∃ sz' : Nat, I' l 2 = jI sz' ∧ lPg (I' (l + 1)) (I' (l + 2)) r 0 sz' ∧ 0 < sz' ∧ sz' ≤ 121) → P (some (.int (jI (if ok = true then -1 else (p : Int))))) (mLay e) (I', E, F)) : mF Q 17 [.ref 20, .ref l] (mLay e) (I, E, F) P := by
  refine c17 hF hlr hl hb hQ hl1 ht ?_
  rw [hR]
  exact hP
theorem r173_R {e : List mShp} {I : Nat → Nat → Int32} {E : Nat → Nat → Int64} {F : Nat → Nat → Nat} {P : mPost} {st nx gf rl dr len : Nat} {b : Nat → Int} {ok : Bool} {p : Nat} {r : List lLn} (hR : lText b len 121 0 = (ok, p, r)) (hF : mFx F st nx gf rl dr) (hl : len ≤ 120) (hb : ∀ j, j < len → 0 ≤ b j ∧ b j ≤ 255) (h9 : I 80 9 = jI len) (h86 : ∀ j, j < len → I 86 j = jI (b j)) (h90 : vLet (I 90)) {Q : Nat} (hQ : 46 ≤ Q) (hP : ∀ I', vAg vScZ I I' → I' 80 9 = jI 0 → (ok = true → I' 80 11 = jI len ∧ I' 80 12 = jI 1 ∧ ∀ j, j < len → I' 87 j = jI (b j)) → (¬ ok = true → I' 87 = I 87 ∧ I' 80 11 = I 80 11 ∧ I' 80 12 = I 80 12) → P (some (.int (jI (if ok = true then 1 else -100 - (p : Int))))) (mLay e) (I', E, F)) : mF Q 173 [.ref 80] (mLay e) (I, E, F) P := by
  refine r173 hF hl hb h9 h86 h90 hQ ?_
  rw [hR]
  exact hP
theorem lText_R {b : Nat → Int} {len : Nat} {ok : Bool} {p : Nat} {r : List lLn} (hR : lText b len 121 0 = (ok, p, r)) : p ≤ len := by
  have := lText_le (b := b) (len := len) 121 0 (by omega)
  rw [hR] at this
  exact this
theorem sc_LW {dr r j : Nat} (w : vScL dr r j ∨ (r = 20 ∧ j = 1)) : vScW dr r j := by
  unfold vScL at w
  rcases w with (⟨rfl, rfl⟩ | rfl | rfl | ⟨rfl, rfl⟩) | ⟨rfl, rfl⟩
  · refine .inl ?_
    unfold vScr
    omega
  · exact .inr (.inr (.inr (.inr (.inr (.inl rfl)))))
  · exact .inr (.inr (.inr (.inr (.inr (.inr (.inl rfl))))))
  · exact .inr (.inr (.inr (.inr (.inr (.inr (.inr ⟨rfl, rfl⟩))))))
  · exact .inr (.inl ⟨rfl, rfl⟩)
theorem sc_ZW {dr r j : Nat} (w : vScZ r j) : vScW dr r j := by
  unfold vScZ at w
  rcases w with rfl | rfl | rfl | ⟨rfl, h⟩
  · exact .inr (.inr (.inr (.inl rfl)))
  · refine .inl ?_
    unfold vScr
    omega
  · refine .inl ?_
    unfold vScr
    omega
  · rcases h with h | h | h | h
    · exact .inr (.inr (.inl ⟨rfl, .inl h⟩))
    · exact .inr (.inr (.inl ⟨rfl, .inr (.inl h)⟩))
    · exact .inr (.inr (.inl ⟨rfl, .inr (.inr h)⟩))
    · refine .inl ?_
      unfold vScr
      omega
theorem law_ok {c n bn st nx gf rl dr sz' tl : Nat} {e : List mShp} {I I1 I2 : Nat → Nat → Int32} {E : Nat → Nat → Int64} {F : Nat → Nat → Nat} {T : Nat → Nat → Int} {lw lw' : vLw} (hI0 : vInv c e I E F st nx gf rl dr n bn T lw) (g1 : vAg (fun r j => vScL dr r j ∨ (r = 20 ∧ j = 1)) I I1) (g20 : I1 20 1 = jI 0) (s1 : I1 dr 2 = jI sz') (hlc' : vLawC lw' (I1 (dr + 1)) (I1 (dr + 2)) (jI sz')) (k1 : vAg vScZ (iU I1 22 3 (jI (-1))) I2) (k2 : I2 80 9 = jI 0) (m1 : I2 80 11 = jI tl) (m2 : I2 80 12 = jI 1) (hlr' : vLawR lw' (I2 87) (jI tl) (jI 1) (I 90)) : vInv c e I2 E (fU (fU F 3 13 dr) 3 14 rl) st nx gf dr rl n bn T lw' := by
  have hF' := mFx_rl hI0.1
  have h3 := hI0.2.2.1
  have h4 := hI0.2.2.2.1
  have h17 := hI0.2.2.2.2.2.2.2.2.2.2.2.2.2.2.2.2.1
  have hgf : gf = 27 ∨ gf = 105 := by rcases h4 with ⟨h, -⟩ | ⟨h, -⟩ <;> omega
  have hdr : dr = 70 ∨ dr = 75 := by omega
  have a1 : vAg (vScW dr) I I1 := vAg_mono g1 (fun r j w => sc_LW w)
  have a2 : vAg (vScW dr) I I2 := vAg_tr (vAg_iU a1 (.inr (.inr (.inr (.inr (.inl ⟨rfl, rfl⟩)))))) (vAg_mono k1 (fun r j w => sc_ZW w))
  have er : ∀ x, x = dr + 1 ∨ x = dr + 2 → I2 x = I1 x := fun x hx => by
    rw [vAg_row (r := x) k1 (fun j => by unfold vScZ; omega), iU_row (by omega)]
  have ez : I2 dr 2 = jI sz' := by
    rw [k1 dr 2 (by unfold vScZ; omega), iU_row (by omega)]
    exact s1
  have eb : I2 90 = I 90 := vAg_row a2 (fun j => by unfold vScW vScr; omega)
  refine vInv_law (rl' := dr) (dr' := rl) (lw' := lw') hI0 a2 hF' (by omega) ?_ k2 ?_ ?_ ?_
  · rw [k1 20 1 (by unfold vScZ; omega), iU_row (by omega)]
    exact g20
  · rw [er (dr + 1) (.inl rfl), er (dr + 2) (.inr rfl), ez]
    exact hlc'
  · rw [m1, m2, eb]
    exact hlr'
  · have e22 : I2 22 3 = jI (-1) := by
      rw [k1 22 3 (by unfold vScZ; omega), iU_eq]
    rw [e22, a2 22 8 (by unfold vScW vScr; omega), vAg_row (r := gf) a2 (fun j => by unfold vScW vScr; omega)]
    exact vRing_off h17 (Nat.le_refl c)
theorem law_bad {c n bn st nx gf rl dr : Nat} {e : List mShp} {I I1 I2 : Nat → Nat → Int32} {E : Nat → Nat → Int64} {F : Nat → Nat → Nat} {T : Nat → Nat → Int} {lw : vLw} (hI0 : vInv c e I E F st nx gf rl dr n bn T lw) (g1 : vAg (fun r j => vScL dr r j ∨ (r = 20 ∧ j = 1)) I I1) (g20 : I1 20 1 = jI 0) (k1 : vAg vScZ I1 I2) (k2 : I2 80 9 = jI 0) (m1 : I2 87 = I1 87) (m2 : I2 80 11 = I1 80 11) (m3 : I2 80 12 = I1 80 12) : vInv c e I2 E F st nx gf rl dr n bn T lw := by
  have h3 := hI0.2.2.1
  have h4 := hI0.2.2.2.1
  have h15 := hI0.2.2.2.2.2.2.2.2.2.2.2.2.2.2.1
  have h16 := hI0.2.2.2.2.2.2.2.2.2.2.2.2.2.2.2.1
  have h17 := hI0.2.2.2.2.2.2.2.2.2.2.2.2.2.2.2.2.1
  have hgf : gf = 27 ∨ gf = 105 := by rcases h4 with ⟨h, -⟩ | ⟨h, -⟩ <;> omega
  have hdr : dr = 70 ∨ dr = 75 := by omega
  have a1 : vAg (vScW dr) I I1 := vAg_mono g1 (fun r j w => sc_LW w)
  have a2 : vAg (vScW dr) I I2 := vAg_tr a1 (vAg_mono k1 (fun r j w => sc_ZW w))
  unfold vScL at g1
  unfold vScZ at k1
  refine vInv_law (rl' := rl) (dr' := dr) (lw' := lw) hI0 a2 hI0.1 h3 ?_ k2 ?_ ?_ ?_
  · rw [k1 20 1 (by omega)]
    exact g20
  · rw [vAg_row (r := rl + 1) k1 (fun j => by omega), vAg_row (r := rl + 2) k1 (fun j => by omega), k1 rl 2 (by omega), vAg_row (r := rl + 1) g1 (fun j => by omega), vAg_row (r := rl + 2) g1 (fun j => by omega), g1 rl 2 (by omega)]
    exact h15
  · rw [m1, m2, m3, vAg_row (r := 90) k1 (fun j => by omega), vAg_row (r := 90) g1 (fun j => by omega), vAg_row (r := 87) g1 (fun j => by omega), g1 80 11 (by omega), g1 80 12 (by omega)]
    exact h16
  · rw [vAg_row (r := 23) k1 (fun j => by omega), k1 22 1 (by omega), k1 22 2 (by omega), k1 22 3 (by omega), k1 22 8 (by omega), vAg_row (r := gf) k1 (fun j => by omega), vAg_row (r := 23) g1 (fun j => by omega), g1 22 1 (by omega), g1 22 2 (by omega), g1 22 3 (by omega), g1 22 8 (by omega), vAg_row (r := gf) g1 (fun j => by omega)]
    exact h17
theorem law_c {st nx gf rl dr tl : Nat} {e : List mShp} {I : Nat → Nat → Int32} {E : Nat → Nat → Int64} {F : Nat → Nat → Nat} {b : Nat → Int} {ok : Bool} {p : Nat} {r : List lLn} (hR : lText b tl 121 0 = (ok, p, r)) (hF : mFx F st nx gf rl dr) (hrl : rl = 70 ∨ rl = 75) (hdr : dr = 70 ∨ dr = 75) (ht : tl ≤ 120) (hp : p ≤ tl) (hb : ∀ j, j < tl → 0 ≤ b j ∧ b j ≤ 255) (hlc : I 20 1 = jI tl) (h21 : ∀ j, j < tl → I 21 j = jI (b j)) {P : mPost} (h1 : ok = true → ∀ (I1 : Nat → Nat → Int32) (sz' : Nat), vAg (fun r j => vScL dr r j ∨ (r = 20 ∧ j = 1)) I I1 → I1 20 1 = jI 0 → I1 dr 2 = jI sz' → vLawC (lLw r) (I1 (dr + 1)) (I1 (dr + 2)) (jI sz') → P (some (.int (jI 1))) (mLay e) (iU I1 22 3 (jI (-1)), E, fU (fU F 3 13 dr) 3 14 rl)) (h0 : ok = false → ∀ I1, vAg (fun r j => vScL dr r j ∨ (r = 20 ∧ j = 1)) I I1 → I1 20 1 = jI 0 → P (some (.int (jI (-100 - (p : Int))))) (mLay e) (I1, E, F)) : mF 100 98 [.ref 3] (mLay e) (I, E, F) P := by
  have hrl0 : ¬ rl = 0 := by omega
  have hdr0 : ¬ dr = 0 := by omega
  have hL := vLo_rl (e := e) hF hdr
  have hF' := mFx_rl hF
  simp only [g98_in, g98_0, g98_1, g98_4, g98_5, g98_8, nl_none, nl_int, nl_ref, Option.toList_some, Option.toList_none, List.cons_append, List.nil_append, mSetI_u, mSetL_u, Nat.add_one_ne_zero, Nat.add_eq_zero_iff, and_false, false_and, not_false_eq_true, ne_eq, j0_0, j0_1, j1_0, j1_1, if_true, if_false, ite_true, ite_false, true_and, and_true, or_true, true_or, false_or, or_false, ↓reduceIte, Nat.reduceEqDiff, Nat.reduceAdd, Nat.reduceMul, Nat.reduceSub, Int.reduceLE, Int.reduceLT, Int.reduceNeg, Int.reduceAdd, Int.reduceSub, Int.reduceEq, reduceCtorEq, jI_lt, jI_eq, jI_lt0, jI_0lt, jI_eq0, jI_0le, jn_lo, iU_row, iU_nr, iU_eq, iU_same, jI_ixn, jI_add, jI_sub, jI_nat, sh_3, sh_20, f_3_2 hF, f_3_14 hF]
  refine c17_R (l := dr) hR hF hdr ht hb (by omega) hlc h21 (fun I1 g1 g20 gp => ?_)
  cases ok with
  | true =>
    obtain ⟨sz', s1, s2, s3, s4⟩ := gp rfl
    have hp := h1 rfl I1 sz' g1 g20 s1 (vLawC_of s3 s4 s2)
    simp only [g98_11, g98_12, g98_13, g98_16, g98_18, g98_19, g98_20, g98_21, g98_22, g98_25, g98_26, g98_27, g98_28, g98_31, g98_34, g98_35, g98_36, g98_39, g98_40, g98_43, g98_46, g98_47, g29_in, g29_0, g29_1, g29_2, g29_5, nl_none, nl_int, nl_ref, Option.toList_some, Option.toList_none, List.cons_append, List.nil_append, mSetI_u, mSetL_u, Nat.add_one_ne_zero, Nat.add_eq_zero_iff, and_false, false_and, not_false_eq_true, ne_eq, j0_0, j0_1, j1_0, j1_1, if_true, if_false, ite_true, ite_false, true_and, and_true, or_true, true_or, false_or, or_false, ↓reduceIte, Nat.reduceEqDiff, Nat.reduceAdd, Nat.reduceMul, Nat.reduceSub, Int.reduceLE, Int.reduceLT, Int.reduceNeg, Int.reduceAdd, Int.reduceSub, Int.reduceEq, reduceCtorEq, jI_lt, jI_eq, jI_lt0, jI_0lt, jI_eq0, jI_0le, jn_lo, iU_row, iU_nr, iU_eq, iU_same, jI_ixn, jI_add, jI_sub, jI_nat, sh_3, sh_22, f_3_13 hF, f_3_14 hF, mSetR_u, f_3_3 hF', hrl0, hdr0, fU_ne, show ¬ (14 : Nat) = 13 by omega]
    exact hp
  | false =>
    have hp := h0 rfl I1 g1 g20
    simp only [g98_11, g98_12, g98_13, g98_16, g98_18, g98_19, g98_20, nl_none, nl_int, nl_ref, Option.toList_some, Option.toList_none, List.cons_append, List.nil_append, mSetI_u, mSetL_u, Nat.add_one_ne_zero, Nat.add_eq_zero_iff, and_false, false_and, not_false_eq_true, ne_eq, j0_0, j0_1, j1_0, j1_1, if_true, if_false, ite_true, ite_false, true_and, and_true, or_true, true_or, false_or, or_false, ↓reduceIte, Nat.reduceEqDiff, Nat.reduceAdd, Nat.reduceMul, Nat.reduceSub, Int.reduceLE, Int.reduceLT, Int.reduceNeg, Int.reduceAdd, Int.reduceSub, Int.reduceEq, reduceCtorEq, jI_lt, jI_eq, jI_lt0, jI_0lt, jI_eq0, jI_0le, jn_lo, iU_row, iU_nr, iU_eq, iU_same, jI_ixn, jI_add, jI_sub, jI_nat, show ((p : Nat) : Int) ≤ 2147483647 by omega, show (p : Nat) ≤ 2147483647 by omega, show ¬ ((p : Int) < 0) by omega, Bool.false_eq_true]
    exact hp
theorem api_law : mApiI vI 98 173 [] := by
  rintro c lay M hc ⟨e, I, E, F, st, nx, gf, rl, dr, n, bn, T, lw, rfl, rfl, hI⟩
  have hF := hI.1
  have hI0 := hI
  obtain ⟨-, -, h3, h4, h5, -, -, -, -, -, -, h12, -, -, -, -, -, h18⟩ := hI
  have hrl : rl = 70 ∨ rl = 75 := by omega
  have hdr : dr = 70 ∨ dr = 75 := by omega
  obtain ⟨tl, ht, hlc, hlr, htt⟩ := h12
  obtain ⟨b, hb'⟩ : ∃ b : Nat → Int, ∀ j, j < tl → 0 ≤ b j ∧ b j ≤ 255 ∧ I 21 j = jI (b j) ∧ I 86 j = jI (b j) := ⟨fun j => if h : j < tl then (htt j h).choose else 0, fun j h => by
    have hs := (htt j h).choose_spec
    simpa only [dif_pos h] using hs⟩
  have hb : ∀ j, j < tl → 0 ≤ b j ∧ b j ≤ 255 := fun j hj => ⟨(hb' j hj).1, (hb' j hj).2.1⟩
  clear htt
  obtain ⟨ok, p, r, hR⟩ : ∃ ok p r, lText b tl 121 0 = (ok, p, r) := ⟨_, _, _, rfl⟩
  have hF' := mFx_rl hF
  refine law_c hR hF hrl hdr ht (lText_R hR) hb hlc (fun j hj => (hb' j hj).2.2.1) (fun hok I1 sz' g1 g20 s1 s2 => ⟨sh_80, ?_⟩) (fun hok I1 g1 g20 => ⟨sh_80, ?_⟩)
  · have e9 : I1 80 9 = jI tl := (g1 80 9 (by unfold vScL; omega)).trans hlr
    have e86 : ∀ j, j < tl → I1 86 j = jI (b j) := fun j hj => (g1 86 j (by unfold vScL; omega)).trans (hb' j hj).2.2.2
    have e90 : I1 90 = I 90 := vAg_row g1 (fun j => by unfold vScL; omega)
    refine r173_R (len := tl) (b := b) hR hF' ht hb (by rw [iU_row (by omega)]; exact e9) (fun j hj => by rw [iU_row (by omega)]; exact e86 j hj) (by rw [iU_row (by omega), e90]; exact h18) (by omega) (fun I2 k1 k2 k3 k4 => ?_)
    obtain ⟨m1, m2, m3⟩ := k3 hok
    rw [if_pos hok]
    have hx : lText b tl 121 0 = (true, p, r) := by rw [hR, hok]
    exact ⟨rfl, vI_fin (vI_of (vInv_up (law_ok hI0 g1 g20 s1 s2 k1 k2 m1 m2 (vLawR_of ht hb m3 h18 hx))))⟩
  · have e9 : I1 80 9 = jI tl := (g1 80 9 (by unfold vScL; omega)).trans hlr
    have e86 : ∀ j, j < tl → I1 86 j = jI (b j) := fun j hj => (g1 86 j (by unfold vScL; omega)).trans (hb' j hj).2.2.2
    have e90 : I1 90 = I 90 := vAg_row g1 (fun j => by unfold vScL; omega)
    have hok' : ¬ ok = true := by
      rw [hok]
      decide
    refine r173_R (len := tl) (b := b) hR hF ht hb e9 e86 (by rw [e90]; exact h18) (by omega) (fun I2 k1 k2 k3 k4 => ?_)
    obtain ⟨m1, m2, m3⟩ := k4 hok'
    rw [if_neg hok']
    exact ⟨rfl, vI_fin (vI_of (vInv_up (law_bad hI0 g1 g20 k1 k2 m1 m2 m3)))⟩
