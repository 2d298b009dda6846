/-! ===== what is kept and laid back, days in the reference, sums ===== -/
section KEEP
variable {d n : Nat} {e : List mShp} {I : Nat → Nat → Int32} {E : Nat → Nat → Int64} {F : Nat → Nat → Nat} {P : mPost} {T : Nat → Nat → Int} {lw : vLw} {st nx gf rl dr : Nat}
/-- row 82 has row 81 from place 42 v on, m places of it -/
def kU (I : Nat → Nat → Int32) (v m : Nat) : Nat → Nat → Int32 := fun r j => if r = 82 ∧ 42 * v ≤ j ∧ j < 42 * v + m then I 81 (j - 42 * v) else I r j
/-- row 81 has it back -/
def lU (I : Nat → Nat → Int32) (v m : Nat) : Nat → Nat → Int32 := fun r j => if r = 81 ∧ j < m then I 82 (42 * v + j) else I r j
theorem kU_0 (v : Nat) : kU I v 0 = I := by
  funext r j
  unfold kU
  rw [if_neg (by omega)]
theorem lU_0 (v : Nat) : lU I v 0 = I := by
  funext r j
  unfold lU
  rw [if_neg (by omega)]
theorem kU_S (v m : Nat) : iU (kU I v m) 82 (42 * v + m) (I 81 m) = kU I v (m + 1) := by
  funext r j
  simp only [kU, iU]
  by_cases h : r = 82 ∧ j = 42 * v + m
  · rw [if_pos h, if_pos (by omega), h.2]
    congr 1
    omega
  · rw [if_neg h]
    by_cases h' : r = 82 ∧ 42 * v ≤ j ∧ j < 42 * v + m
    · rw [if_pos h', if_pos (by omega)]
    · rw [if_neg h', if_neg (by omega)]
theorem lU_S (v m : Nat) : iU (lU I v m) 81 m (I 82 (42 * v + m)) = lU I v (m + 1) := by
  funext r j
  simp only [lU, iU]
  by_cases h : r = 81 ∧ j = m
  · rw [if_pos h, if_pos (by omega), h.2]
  · rw [if_neg h]
    by_cases h' : r = 81 ∧ j < m
    · rw [if_pos h', if_pos (by omega)]
    · rw [if_neg h', if_neg (by omega)]
theorem kU_row {v m r : Nat} (h : ¬ r = 82) : kU I v m r = I r := by
  funext j
  unfold kU
  rw [if_neg (by omega)]
theorem lU_row {v m r : Nat} (h : ¬ r = 81) : lU I v m r = I r := by
  funext j
  unfold lU
  rw [if_neg (by omega)]
theorem r149_a (hF : mFx F st nx gf rl dr) {v : Nat} (hv : v ≤ 6) (hP : P none (mLay e) (kU I v 42, E, F)) : ∀ (k i : Nat) (z : Int), i + k = 42 → z = i → mG d 149 2 [some (.ref 80), some (.int (jI v)), some (.int (jI z))] [] (mLay e) (kU I v i, E, F) P
  | 0, i, z, hi, hz => by
    subst hz
    have e : i = 42 := by omega
    subst e
    rw [g149_2]
    simp only [g149_3, g149_5, g149_8, g149_9, g149_12, g149_14, g149_15, g149_16, g149_17, g149_18, g149_19, g149_22, g149_23, g149_24, g149_25, g149_28, g149_31, nl_none, nl_int, nl_ref, Option.toList_some, Option.toList_none, List.cons_append, List.nil_append, mSetI_u, mSetL_u, Nat.add_one_ne_zero, Nat.add_eq_zero_iff, and_false, false_and, not_false_eq_true, ne_eq, j0_0, j0_1, j1_0, j1_1, if_true, if_false, ite_true, ite_false, true_and, and_true, or_true, true_or, false_or, or_false, ↓reduceIte, Nat.reduceEqDiff, Nat.reduceAdd, Nat.reduceMul, Nat.reduceSub, Int.reduceLE, Int.reduceLT, Int.reduceNeg, Int.reduceAdd, Int.reduceSub, Int.reduceEq, reduceCtorEq, jI_lt, jI_eq, jI_lt0, jI_0lt, jI_eq0, jI_0le, jn_lo, iU_row, iU_nr, iU_eq, iU_same, jI_ixn, jI_add, jI_sub, jI_nat, sh_80, show ¬ (((42 : Nat) : Int) < 42) by omega, show ((42 : Nat) : Int) = 42 from rfl]
    exact hP
  | k + 1, i, z, hi, hz => by
    have ih := r149_a hF hv hP k (i + 1)
    subst hz
    have hx : (42 * (v : Int) + (i : Int)).toNat = 42 * v + i := by omega
    have fin : ∀ I2, I2 = iU (kU I v i) 82 (42 * v + i) (I 81 i) → mG d 149 2 [some (.ref 80), some (.int (jI v)), some (.int (jI ((i : Int) + 1)))] [] (mLay e) (I2, E, F) P := by
      intro I2 h2
      rw [h2, kU_S]
      exact ih _ (by omega) (by omega)
    rw [g149_2]
    simp only [g149_3, g149_5, g149_8, g149_9, g149_12, g149_14, g149_15, g149_16, g149_17, g149_18, g149_19, g149_22, g149_23, g149_24, g149_25, g149_28, g149_31, nl_none, nl_int, nl_ref, Option.toList_some, Option.toList_none, List.cons_append, List.nil_append, mSetI_u, mSetL_u, Nat.add_one_ne_zero, Nat.add_eq_zero_iff, and_false, false_and, not_false_eq_true, ne_eq, j0_0, j0_1, j1_0, j1_1, if_true, if_false, ite_true, ite_false, true_and, and_true, or_true, true_or, false_or, or_false, ↓reduceIte, Nat.reduceEqDiff, Nat.reduceAdd, Nat.reduceMul, Nat.reduceSub, Int.reduceLE, Int.reduceLT, Int.reduceNeg, Int.reduceAdd, Int.reduceSub, Int.reduceEq, reduceCtorEq, jI_lt, jI_eq, jI_lt0, jI_0lt, jI_eq0, jI_0le, jn_lo, iU_row, iU_nr, iU_eq, iU_same, jI_ixn, jI_add, jI_sub, jI_nat, sh_80, sh_81, sh_82, f_80_0 hF, f_80_1 hF, jI_mul, show ((i : Nat) : Int) ≤ 2147483647 by omega, show (i : Nat) ≤ 2147483647 by omega, show ((v : Nat) : Int) ≤ 2147483647 by omega, show (v : Nat) ≤ 2147483647 by omega, show (i : Int) < 42 by omega, jI_in (z := ((i : Int) : Int)) (n := 42) (by omega) (by omega) (by omega), jI_in (z := (42 * (v : Int) + (i : Int) : Int)) (n := 294) (by omega) (by omega) (by omega), jI_ix (z := 42 * (v : Int) + (i : Int)) (by omega) (by omega), hx, kU_row (I := I) (v := v) (m := i) (r := 81) (by omega)]
    exact fin _ rfl
theorem r149 (hF : mFx F st nx gf rl dr) {v : Nat} (hv : v ≤ 6) : mF d 149 [.ref 80, .int (jI v)] (mLay e) (I, E, F) P = P none (mLay e) (kU I v 42, E, F) := by
  refine mF_det ?_ P
  have h := r149_a (d := d) (e := e) (I := I) (E := E) (F := F) hF hv (P := fun v' l' M' => v' = none ∧ l' = mLay e ∧ M' = (kU I v 42, E, F)) ⟨rfl, rfl, rfl⟩ 42 0 0 (by omega) rfl
  rw [kU_0] at h
  simp only [g149_in, g149_0, g149_1, nl_none, nl_int, nl_ref, Option.toList_some, Option.toList_none, List.cons_append, List.nil_append, mSetI_u, mSetL_u, Nat.add_one_ne_zero, Nat.add_eq_zero_iff, and_false, false_and, not_false_eq_true, ne_eq, j0_0, j0_1, j1_0, j1_1, if_true, if_false, ite_true, ite_false, true_and, and_true, or_true, true_or, false_or, or_false, ↓reduceIte, Nat.reduceEqDiff, Nat.reduceAdd, Nat.reduceMul, Nat.reduceSub, Int.reduceLE, Int.reduceLT, Int.reduceNeg, Int.reduceAdd, Int.reduceSub, Int.reduceEq, reduceCtorEq, jI_lt, jI_eq, jI_lt0, jI_0lt, jI_eq0, jI_0le, jn_lo, iU_row, iU_nr, iU_eq, iU_same, jI_ixn, jI_add, jI_sub, jI_nat]
  exact h
theorem r150_a (hF : mFx F st nx gf rl dr) {v : Nat} (hv : v ≤ 6) (hP : P none (mLay e) (lU I v 42, E, F)) : ∀ (k i : Nat) (z : Int), i + k = 42 → z = i → mG d 150 2 [some (.ref 80), some (.int (jI v)), some (.int (jI z))] [] (mLay e) (lU I v i, E, F) P
  | 0, i, z, hi, hz => by
    subst hz
    have e : i = 42 := by omega
    subst e
    rw [g150_2]
    simp only [g150_3, g150_5, g150_8, g150_9, g150_12, g150_13, g150_14, g150_17, g150_19, g150_20, g150_21, g150_22, g150_23, g150_24, g150_25, g150_28, g150_31, nl_none, nl_int, nl_ref, Option.toList_some, Option.toList_none, List.cons_append, List.nil_append, mSetI_u, mSetL_u, Nat.add_one_ne_zero, Nat.add_eq_zero_iff, and_false, false_and, not_false_eq_true, ne_eq, j0_0, j0_1, j1_0, j1_1, if_true, if_false, ite_true, ite_false, true_and, and_true, or_true, true_or, false_or, or_false, ↓reduceIte, Nat.reduceEqDiff, Nat.reduceAdd, Nat.reduceMul, Nat.reduceSub, Int.reduceLE, Int.reduceLT, Int.reduceNeg, Int.reduceAdd, Int.reduceSub, Int.reduceEq, reduceCtorEq, jI_lt, jI_eq, jI_lt0, jI_0lt, jI_eq0, jI_0le, jn_lo, iU_row, iU_nr, iU_eq, iU_same, jI_ixn, jI_add, jI_sub, jI_nat, sh_80, show ¬ (((42 : Nat) : Int) < 42) by omega, show ((42 : Nat) : Int) = 42 from rfl]
    exact hP
  | k + 1, i, z, hi, hz => by
    have ih := r150_a hF hv hP k (i + 1)
    subst hz
    have hx : (42 * (v : Int) + (i : Int)).toNat = 42 * v + i := by omega
    have fin : ∀ I2, I2 = iU (lU I v i) 81 i (I 82 (42 * v + i)) → mG d 150 2 [some (.ref 80), some (.int (jI v)), some (.int (jI ((i : Int) + 1)))] [] (mLay e) (I2, E, F) P := by
      intro I2 h2
      rw [h2, lU_S]
      exact ih _ (by omega) (by omega)
    rw [g150_2]
    simp only [g150_3, g150_5, g150_8, g150_9, g150_12, g150_13, g150_14, g150_17, g150_19, g150_20, g150_21, g150_22, g150_23, g150_24, g150_25, g150_28, g150_31, nl_none, nl_int, nl_ref, Option.toList_some, Option.toList_none, List.cons_append, List.nil_append, mSetI_u, mSetL_u, Nat.add_one_ne_zero, Nat.add_eq_zero_iff, and_false, false_and, not_false_eq_true, ne_eq, j0_0, j0_1, j1_0, j1_1, if_true, if_false, ite_true, ite_false, true_and, and_true, or_true, true_or, false_or, or_false, ↓reduceIte, Nat.reduceEqDiff, Nat.reduceAdd, Nat.reduceMul, Nat.reduceSub, Int.reduceLE, Int.reduceLT, Int.reduceNeg, Int.reduceAdd, Int.reduceSub, Int.reduceEq, reduceCtorEq, jI_lt, jI_eq, jI_lt0, jI_0lt, jI_eq0, jI_0le, jn_lo, iU_row, iU_nr, iU_eq, iU_same, jI_ixn, jI_add, jI_sub, jI_nat, sh_80, sh_81, sh_82, f_80_0 hF, f_80_1 hF, jI_mul, show ((i : Nat) : Int) ≤ 2147483647 by omega, show (i : Nat) ≤ 2147483647 by omega, show ((v : Nat) : Int) ≤ 2147483647 by omega, show (v : Nat) ≤ 2147483647 by omega, show (i : Int) < 42 by omega, jI_in (z := ((i : Int) : Int)) (n := 42) (by omega) (by omega) (by omega), jI_in (z := (42 * (v : Int) + (i : Int) : Int)) (n := 294) (by omega) (by omega) (by omega), jI_ix (z := 42 * (v : Int) + (i : Int)) (by omega) (by omega), hx, lU_row (I := I) (v := v) (m := i) (r := 82) (by omega)]
    exact fin _ rfl
theorem r150 (hF : mFx F st nx gf rl dr) {v : Nat} (hv : v ≤ 6) : mF d 150 [.ref 80, .int (jI v)] (mLay e) (I, E, F) P = P none (mLay e) (lU I v 42, E, F) := by
  refine mF_det ?_ P
  have h := r150_a (d := d) (e := e) (I := I) (E := E) (F := F) hF hv (P := fun v' l' M' => v' = none ∧ l' = mLay e ∧ M' = (lU I v 42, E, F)) ⟨rfl, rfl, rfl⟩ 42 0 0 (by omega) rfl
  rw [lU_0] at h
  simp only [g150_in, g150_0, g150_1, nl_none, nl_int, nl_ref, Option.toList_some, Option.toList_none, List.cons_append, List.nil_append, mSetI_u, mSetL_u, Nat.add_one_ne_zero, Nat.add_eq_zero_iff, and_false, false_and, not_false_eq_true, ne_eq, j0_0, j0_1, j1_0, j1_1, if_true, if_false, ite_true, ite_false, true_and, and_true, or_true, true_or, false_or, or_false, ↓reduceIte, Nat.reduceEqDiff, Nat.reduceAdd, Nat.reduceMul, Nat.reduceSub, Int.reduceLE, Int.reduceLT, Int.reduceNeg, Int.reduceAdd, Int.reduceSub, Int.reduceEq, reduceCtorEq, jI_lt, jI_eq, jI_lt0, jI_0lt, jI_eq0, jI_0le, jn_lo, iU_row, iU_nr, iU_eq, iU_same, jI_ixn, jI_add, jI_sub, jI_nat]
  exact h
/-- kept, changed, laid back: the same -/
theorem lU_k {R : Nat → Nat → Prop} {I I' : Nat → Nat → Int32} {v : Nat} (h : vAg R (kU I v 42) I') (hR : ∀ r j, R r j → r = 82 → ¬ (42 * v ≤ j ∧ j < 42 * v + 42)) : ∀ j, j < 42 → lU I' v 42 81 j = I 81 j := by
  intro j hj
  unfold lU
  rw [if_pos ⟨rfl, hj⟩, h 82 _ (fun q => hR _ _ q rfl (by omega))]
  unfold kU
  rw [if_pos (by omega)]
  congr 1
  omega
/-- goDays -/
theorem r180_a (hF : mFx F st nx gf rl dr) (hok : vTownOk n T) (hl : ∀ g q n k s t, 0 ≤ lw g q n k s t ∧ lw g q n k s t ≤ 20) (hR : vTownR n T (I 81) (I 80 2)) (hlw : vLawR lw (I 87) (I 80 11) (I 80 12) (I 90)) {m : Nat} (hm : m ≤ 100) (hP : ∀ I', vAg vScE I I' → vTownR n (pDays lw n T m) (I' 81) (I' 80 2) → P none (mLay e) (I', E, F)) : ∀ k i (z : Int) I', i + k = m → z = i → vAg vScE I I' → vTownR n (pDays lw n T i) (I' 81) (I' 80 2) → mG (d + 73) 180 2 [some (.ref 80), some (.int (jI m)), some (.int (jI z))] [] (mLay e) (I', E, F) P
  | 0, i, z, I', hi, hz, ha, hR' => by
    subst hz
    have e : i = m := by omega
    subst e
    rw [g180_2]
    simp only [g180_3, g180_4, g180_7, g180_8, g180_11, g180_14, g180_17, nl_none, nl_int, nl_ref, Option.toList_some, Option.toList_none, List.cons_append, List.nil_append, mSetI_u, mSetL_u, Nat.add_one_ne_zero, Nat.add_eq_zero_iff, and_false, false_and, not_false_eq_true, ne_eq, j0_0, j0_1, j1_0, j1_1, if_true, if_false, ite_true, ite_false, true_and, and_true, or_true, true_or, false_or, or_false, ↓reduceIte, Nat.reduceEqDiff, Nat.reduceAdd, Nat.reduceMul, Nat.reduceSub, Int.reduceLE, Int.reduceLT, Int.reduceNeg, Int.reduceAdd, Int.reduceSub, Int.reduceEq, reduceCtorEq, jI_lt, jI_eq, jI_lt0, jI_0lt, jI_eq0, jI_0le, jn_lo, iU_row, iU_nr, iU_eq, iU_same, jI_ixn, jI_add, jI_sub, jI_nat, show ((i : Nat) : Int) ≤ 2147483647 by omega, show (i : Nat) ≤ 2147483647 by omega, show ¬ ((i : Int) < (i : Int)) by omega]
    exact hP I' ha hR'
  | k + 1, i, z, I', hi, hz, ha, hR' => by
    have ih := r180_a hF hok hl hR hlw hm hP k (i + 1)
    subst hz
    rw [g180_2]
    simp only [g180_3, g180_4, g180_7, g180_8, g180_11, g180_14, g180_17, nl_none, nl_int, nl_ref, Option.toList_some, Option.toList_none, List.cons_append, List.nil_append, mSetI_u, mSetL_u, Nat.add_one_ne_zero, Nat.add_eq_zero_iff, and_false, false_and, not_false_eq_true, ne_eq, j0_0, j0_1, j1_0, j1_1, if_true, if_false, ite_true, ite_false, true_and, and_true, or_true, true_or, false_or, or_false, ↓reduceIte, Nat.reduceEqDiff, Nat.reduceAdd, Nat.reduceMul, Nat.reduceSub, Int.reduceLE, Int.reduceLT, Int.reduceNeg, Int.reduceAdd, Int.reduceSub, Int.reduceEq, reduceCtorEq, jI_lt, jI_eq, jI_lt0, jI_0lt, jI_eq0, jI_0le, jn_lo, iU_row, iU_nr, iU_eq, iU_same, jI_ixn, jI_add, jI_sub, jI_nat, sh_80, show ((i : Nat) : Int) ≤ 2147483647 by omega, show (i : Nat) ≤ 2147483647 by omega, show ((m : Nat) : Int) ≤ 2147483647 by omega, show (m : Nat) ≤ 2147483647 by omega, show (i : Int) < (m : Int) by omega]
    refine r179 hF (pDays_ok hok i) hl hR' (vLr_ag ha (fun r j q => by unfold vScE vScD at q; omega) hlw) (fun I2 h2 hR2 _ => ?_)
    simp only [g180_11, g180_14, nl_none, nl_int, nl_ref, Option.toList_some, Option.toList_none, List.cons_append, List.nil_append, mSetI_u, mSetL_u, Nat.add_one_ne_zero, Nat.add_eq_zero_iff, and_false, false_and, not_false_eq_true, ne_eq, j0_0, j0_1, j1_0, j1_1, if_true, if_false, ite_true, ite_false, true_and, and_true, or_true, true_or, false_or, or_false, ↓reduceIte, Nat.reduceEqDiff, Nat.reduceAdd, Nat.reduceMul, Nat.reduceSub, Int.reduceLE, Int.reduceLT, Int.reduceNeg, Int.reduceAdd, Int.reduceSub, Int.reduceEq, reduceCtorEq, jI_lt, jI_eq, jI_lt0, jI_0lt, jI_eq0, jI_0le, jn_lo, iU_row, iU_nr, iU_eq, iU_same, jI_ixn, jI_add, jI_sub, jI_nat]
    exact ih _ _ (by omega) (by omega) (vAg_tr ha h2) hR2
theorem r180 (hF : mFx F st nx gf rl dr) (hok : vTownOk n T) (hl : ∀ g q n k s t, 0 ≤ lw g q n k s t ∧ lw g q n k s t ≤ 20) (hR : vTownR n T (I 81) (I 80 2)) (hlw : vLawR lw (I 87) (I 80 11) (I 80 12) (I 90)) {m : Nat} (hm : m ≤ 100) (hP : ∀ I', vAg vScE I I' → vTownR n (pDays lw n T m) (I' 81) (I' 80 2) → P none (mLay e) (I', E, F)) : mF (d + 73) 180 [.ref 80, .int (jI m)] (mLay e) (I, E, F) P := by
  simp only [g180_in, g180_0, g180_1, nl_none, nl_int, nl_ref, Option.toList_some, Option.toList_none, List.cons_append, List.nil_append, mSetI_u, mSetL_u, Nat.add_one_ne_zero, Nat.add_eq_zero_iff, and_false, false_and, not_false_eq_true, ne_eq, j0_0, j0_1, j1_0, j1_1, if_true, if_false, ite_true, ite_false, true_and, and_true, or_true, true_or, false_or, or_false, ↓reduceIte, Nat.reduceEqDiff, Nat.reduceAdd, Nat.reduceMul, Nat.reduceSub, Int.reduceLE, Int.reduceLT, Int.reduceNeg, Int.reduceAdd, Int.reduceSub, Int.reduceEq, reduceCtorEq, jI_lt, jI_eq, jI_lt0, jI_0lt, jI_eq0, jI_0le, jn_lo, iU_row, iU_nr, iU_eq, iU_same, jI_ixn, jI_add, jI_sub, jI_nat]
  exact r180_a hF hok hl hR hlw hm hP m 0 0 I (by omega) rfl vAg_rfl hR
/-- who lacks, in the reference -/
theorem r181_a (hF : mFx F st nx gf rl dr) (hok : vTownOk n T) (hR : vTownR n T (I 81) (I 80 2)) {g : Int} (hg : I 80 20 = jI g) (hg0 : -1 ≤ g) (hg1 : g ≤ 8) (hP : P (some (.int (pLack T g n))) (mLay e) (I, E, F)) : ∀ k i (z : Int) (x : Int32), i + k = n → z = i → x = pLack T g i → mG (d + 1) 181 4 [some (.ref 80), some (.int x), some (.int (jI z))] [] (mLay e) (I, E, F) P
  | 0, i, z, x, hi, hz, hx => by
    have hn := hok.1
    subst hz hx
    have e : i = n := by omega
    subst e
    rw [g181_4]
    simp only [g181_5, g181_6, g181_9, g181_12, g181_13, g181_14, g181_15, g181_16, g181_19, g181_22, g181_23, g181_24, g181_27, g181_30, g181_31, g181_32, g181_33, g181_36, g181_37, g181_38, g181_39, g181_42, g181_45, g181_46, nl_none, nl_int, nl_ref, Option.toList_some, Option.toList_none, List.cons_append, List.nil_append, mSetI_u, mSetL_u, Nat.add_one_ne_zero, Nat.add_eq_zero_iff, and_false, false_and, not_false_eq_true, ne_eq, j0_0, j0_1, j1_0, j1_1, if_true, if_false, ite_true, ite_false, true_and, and_true, or_true, true_or, false_or, or_false, ↓reduceIte, Nat.reduceEqDiff, Nat.reduceAdd, Nat.reduceMul, Nat.reduceSub, Int.reduceLE, Int.reduceLT, Int.reduceNeg, Int.reduceAdd, Int.reduceSub, Int.reduceEq, reduceCtorEq, jI_lt, jI_eq, jI_lt0, jI_0lt, jI_eq0, jI_0le, jn_lo, iU_row, iU_nr, iU_eq, iU_same, jI_ixn, jI_add, jI_sub, jI_nat, sh_80, hR.2.2.2, show ((i : Nat) : Int) ≤ 2147483647 by omega, show (i : Nat) ≤ 2147483647 by omega, show ¬ ((i : Int) < (i : Int)) by omega]
    exact hP
  | k + 1, i, z, x, hi, hz, hx => by
    have ih := r181_a hF hok hR hg hg0 hg1 hP k (i + 1)
    have hn := hok.1
    have hin : i < n := by omega
    subst hz hx
    have hw0 := hR.1 i hin 3 (by omega)
    obtain ⟨a0, a1, b0, b1, c0, c1, e0, e1, w0, w1, w2⟩ := vOk_w hok hin
    rw [g181_4]
    rcases (by omega : ¬ T 3 i = 0 ∨ (T 3 i = 0 ∧ (i : Int) = g) ∨ (T 3 i = 0 ∧ ¬ (i : Int) = g)) with hx | hx | hx
    · simp only [g181_5, g181_6, g181_9, g181_12, g181_13, g181_14, g181_15, g181_16, g181_19, g181_22, g181_23, g181_24, g181_27, g181_30, g181_31, g181_32, g181_33, g181_36, g181_37, g181_38, g181_39, g181_42, g181_45, g181_46, nl_none, nl_int, nl_ref, Option.toList_some, Option.toList_none, List.cons_append, List.nil_append, mSetI_u, mSetL_u, Nat.add_one_ne_zero, Nat.add_eq_zero_iff, and_false, false_and, not_false_eq_true, ne_eq, j0_0, j0_1, j1_0, j1_1, if_true, if_false, ite_true, ite_false, true_and, and_true, or_true, true_or, false_or, or_false, ↓reduceIte, Nat.reduceEqDiff, Nat.reduceAdd, Nat.reduceMul, Nat.reduceSub, Int.reduceLE, Int.reduceLT, Int.reduceNeg, Int.reduceAdd, Int.reduceSub, Int.reduceEq, reduceCtorEq, jI_lt, jI_eq, jI_lt0, jI_0lt, jI_eq0, jI_0le, jn_lo, iU_row, iU_nr, iU_eq, iU_same, jI_ixn, jI_add, jI_sub, jI_nat, sh_80, hR.2.2.2, show ((i : Nat) : Int) ≤ 2147483647 by omega, show (i : Nat) ≤ 2147483647 by omega, show ((n : Nat) : Int) ≤ 2147483647 by omega, show (n : Nat) ≤ 2147483647 by omega, show -2147483648 ≤ (T 3 i : Int) by omega, show (T 3 i : Int) ≤ 2147483647 by omega, r152 hF, Int.reduceToNat, hw0, show (i : Int) < (n : Int) by omega, show i ≤ 7 by omega, show ¬ (T 3 i = 0) by omega]
      refine ih _ _ (by omega) (by omega) ?_
      rw [pLack, if_neg (by omega)]
      exact Int32.or_zero
    · obtain ⟨hx1, hx2⟩ := hx
      subst hx2
      simp only [g181_5, g181_6, g181_9, g181_12, g181_13, g181_14, g181_15, g181_16, g181_19, g181_22, g181_23, g181_24, g181_27, g181_30, g181_31, g181_32, g181_33, g181_36, g181_37, g181_38, g181_39, g181_42, g181_45, g181_46, nl_none, nl_int, nl_ref, Option.toList_some, Option.toList_none, List.cons_append, List.nil_append, mSetI_u, mSetL_u, Nat.add_one_ne_zero, Nat.add_eq_zero_iff, and_false, false_and, not_false_eq_true, ne_eq, j0_0, j0_1, j1_0, j1_1, if_true, if_false, ite_true, ite_false, true_and, and_true, or_true, true_or, false_or, or_false, ↓reduceIte, Nat.reduceEqDiff, Nat.reduceAdd, Nat.reduceMul, Nat.reduceSub, Int.reduceLE, Int.reduceLT, Int.reduceNeg, Int.reduceAdd, Int.reduceSub, Int.reduceEq, reduceCtorEq, jI_lt, jI_eq, jI_lt0, jI_0lt, jI_eq0, jI_0le, jn_lo, iU_row, iU_nr, iU_eq, iU_same, jI_ixn, jI_add, jI_sub, jI_nat, sh_80, hR.2.2.2, show ((i : Nat) : Int) ≤ 2147483647 by omega, show (i : Nat) ≤ 2147483647 by omega, show ((n : Nat) : Int) ≤ 2147483647 by omega, show (n : Nat) ≤ 2147483647 by omega, r152 hF, Int.reduceToNat, hw0, hg, hx1, show (i : Int) < (n : Int) by omega, show i ≤ 7 by omega, eq_self]
      refine ih _ _ (by omega) (by omega) ?_
      rw [pLack, if_neg (by omega)]
      exact Int32.or_zero
    · simp only [g181_5, g181_6, g181_9, g181_12, g181_13, g181_14, g181_15, g181_16, g181_19, g181_22, g181_23, g181_24, g181_27, g181_30, g181_31, g181_32, g181_33, g181_36, g181_37, g181_38, g181_39, g181_42, g181_45, g181_46, nl_none, nl_int, nl_ref, Option.toList_some, Option.toList_none, List.cons_append, List.nil_append, mSetI_u, mSetL_u, Nat.add_one_ne_zero, Nat.add_eq_zero_iff, and_false, false_and, not_false_eq_true, ne_eq, j0_0, j0_1, j1_0, j1_1, if_true, if_false, ite_true, ite_false, true_and, and_true, or_true, true_or, false_or, or_false, ↓reduceIte, Nat.reduceEqDiff, Nat.reduceAdd, Nat.reduceMul, Nat.reduceSub, Int.reduceLE, Int.reduceLT, Int.reduceNeg, Int.reduceAdd, Int.reduceSub, Int.reduceEq, reduceCtorEq, jI_lt, jI_eq, jI_lt0, jI_0lt, jI_eq0, jI_0le, jn_lo, iU_row, iU_nr, iU_eq, iU_same, jI_ixn, jI_add, jI_sub, jI_nat, sh_80, hR.2.2.2, show ((i : Nat) : Int) ≤ 2147483647 by omega, show (i : Nat) ≤ 2147483647 by omega, show ((n : Nat) : Int) ≤ 2147483647 by omega, show (n : Nat) ≤ 2147483647 by omega, show -2147483648 ≤ (g : Int) by omega, show (g : Int) ≤ 2147483647 by omega, r152 hF, Int.reduceToNat, hw0, hg, hx.1, show (i : Int) < (n : Int) by omega, show i ≤ 7 by omega, show ¬ ((i : Int) = g) by omega]
      refine ih _ _ (by omega) (by omega) ?_
      rw [pLack, if_pos (by omega)]
theorem r181 (hF : mFx F st nx gf rl dr) (hok : vTownOk n T) {g : Int} (hg0 : -1 ≤ g) (hg1 : g ≤ 8) (hR : vTownR n T (I 81) (I 80 2)) (hg : I 80 20 = jI g) : mF (d + 1) 181 [.ref 80] (mLay e) (I, E, F) P = P (some (.int (pLack T g n))) (mLay e) (I, E, F) := by
  refine mF_det ?_ P
  simp only [g181_in, g181_0, g181_1, g181_2, g181_3, nl_none, nl_int, nl_ref, Option.toList_some, Option.toList_none, List.cons_append, List.nil_append, mSetI_u, mSetL_u, Nat.add_one_ne_zero, Nat.add_eq_zero_iff, and_false, false_and, not_false_eq_true, ne_eq, j0_0, j0_1, j1_0, j1_1, if_true, if_false, ite_true, ite_false, true_and, and_true, or_true, true_or, false_or, or_false, ↓reduceIte, Nat.reduceEqDiff, Nat.reduceAdd, Nat.reduceMul, Nat.reduceSub, Int.reduceLE, Int.reduceLT, Int.reduceNeg, Int.reduceAdd, Int.reduceSub, Int.reduceEq, reduceCtorEq, jI_lt, jI_eq, jI_lt0, jI_0lt, jI_eq0, jI_0le, jn_lo, iU_row, iU_nr, iU_eq, iU_same, jI_ixn, jI_add, jI_sub, jI_nat]
  exact r181_a hF hok hR hg hg0 hg1 ⟨rfl, rfl, rfl⟩ n 0 0 _ (by omega) rfl rfl
theorem pSum_in (hok : vTownOk n T) : ∀ m, m ≤ n → 0 ≤ pSum T m ∧ pSum T m ≤ 99 * m
  | 0, _ => ⟨Int.le_refl 0, Int.le_refl 0⟩
  | m + 1, hm => by
    have h := pSum_in hok m (by omega)
    obtain ⟨a0, a1, b0, b1, c0, c1, e0, e1, -⟩ := vOk_w hok (show m < n by omega)
    simp only [pSum]
    omega
theorem r182_a (hF : mFx F st nx gf rl dr) (hok : vTownOk n T) (hR : vTownR n T (I 81) (I 80 2)) (hP : P (some (.int (jI (pSum T n)))) (mLay e) (I, E, F)) : ∀ k i (z x : Int), i + k = n → z = i → x = pSum T i → mG (d + 1) 182 4 [some (.ref 80), some (.int (jI x)), some (.int (jI z))] [] (mLay e) (I, E, F) P
  | 0, i, z, x, hi, hz, hx => by
    have hn := hok.1
    subst hz hx
    have e : i = n := by omega
    subst e
    rw [g182_4]
    simp only [g182_5, g182_6, g182_9, g182_12, g182_13, g182_14, g182_15, g182_16, g182_19, g182_20, g182_21, g182_24, g182_27, g182_28, nl_none, nl_int, nl_ref, Option.toList_some, Option.toList_none, List.cons_append, List.nil_append, mSetI_u, mSetL_u, Nat.add_one_ne_zero, Nat.add_eq_zero_iff, and_false, false_and, not_false_eq_true, ne_eq, j0_0, j0_1, j1_0, j1_1, if_true, if_false, ite_true, ite_false, true_and, and_true, or_true, true_or, false_or, or_false, ↓reduceIte, Nat.reduceEqDiff, Nat.reduceAdd, Nat.reduceMul, Nat.reduceSub, Int.reduceLE, Int.reduceLT, Int.reduceNeg, Int.reduceAdd, Int.reduceSub, Int.reduceEq, reduceCtorEq, jI_lt, jI_eq, jI_lt0, jI_0lt, jI_eq0, jI_0le, jn_lo, iU_row, iU_nr, iU_eq, iU_same, jI_ixn, jI_add, jI_sub, jI_nat, sh_80, hR.2.2.2, show ((i : Nat) : Int) ≤ 2147483647 by omega, show (i : Nat) ≤ 2147483647 by omega, show ¬ ((i : Int) < (i : Int)) by omega]
    exact hP
  | k + 1, i, z, x, hi, hz, hx => by
    have ih := r182_a hF hok hR hP k (i + 1)
    have hn := hok.1
    have hin : i < n := by omega
    subst hz hx
    have hw0 := hR.1 i hin 3 (by omega)
    rw [g182_4]
    simp only [g182_5, g182_6, g182_9, g182_12, g182_13, g182_14, g182_15, g182_16, g182_19, g182_20, g182_21, g182_24, g182_27, g182_28, nl_none, nl_int, nl_ref, Option.toList_some, Option.toList_none, List.cons_append, List.nil_append, mSetI_u, mSetL_u, Nat.add_one_ne_zero, Nat.add_eq_zero_iff, and_false, false_and, not_false_eq_true, ne_eq, j0_0, j0_1, j1_0, j1_1, if_true, if_false, ite_true, ite_false, true_and, and_true, or_true, true_or, false_or, or_false, ↓reduceIte, Nat.reduceEqDiff, Nat.reduceAdd, Nat.reduceMul, Nat.reduceSub, Int.reduceLE, Int.reduceLT, Int.reduceNeg, Int.reduceAdd, Int.reduceSub, Int.reduceEq, reduceCtorEq, jI_lt, jI_eq, jI_lt0, jI_0lt, jI_eq0, jI_0le, jn_lo, iU_row, iU_nr, iU_eq, iU_same, jI_ixn, jI_add, jI_sub, jI_nat, sh_80, hR.2.2.2, show ((i : Nat) : Int) ≤ 2147483647 by omega, show (i : Nat) ≤ 2147483647 by omega, show ((n : Nat) : Int) ≤ 2147483647 by omega, show (n : Nat) ≤ 2147483647 by omega, r152 hF, Int.reduceToNat, hw0, show (i : Int) < (n : Int) by omega, show i ≤ 7 by omega]
    exact ih _ _ (by omega) (by omega) rfl
theorem r182 (hF : mFx F st nx gf rl dr) (hok : vTownOk n T) (hR : vTownR n T (I 81) (I 80 2)) : mF (d + 1) 182 [.ref 80] (mLay e) (I, E, F) P = P (some (.int (jI (pSum T n)))) (mLay e) (I, E, F) := by
  refine mF_det ?_ P
  simp only [g182_in, g182_0, g182_1, g182_2, g182_3, nl_none, nl_int, nl_ref, Option.toList_some, Option.toList_none, List.cons_append, List.nil_append, mSetI_u, mSetL_u, Nat.add_one_ne_zero, Nat.add_eq_zero_iff, and_false, false_and, not_false_eq_true, ne_eq, j0_0, j0_1, j1_0, j1_1, if_true, if_false, ite_true, ite_false, true_and, and_true, or_true, true_or, false_or, or_false, ↓reduceIte, Nat.reduceEqDiff, Nat.reduceAdd, Nat.reduceMul, Nat.reduceSub, Int.reduceLE, Int.reduceLT, Int.reduceNeg, Int.reduceAdd, Int.reduceSub, Int.reduceEq, reduceCtorEq, jI_lt, jI_eq, jI_lt0, jI_0lt, jI_eq0, jI_0le, jn_lo, iU_row, iU_nr, iU_eq, iU_same, jI_ixn, jI_add, jI_sub, jI_nat]
  exact r182_a hF hok hR ⟨rfl, rfl, rfl⟩ n 0 0 0 (by omega) rfl rfl
end KEEP
