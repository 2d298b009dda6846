/-! ===== the law's text: the reference reads and reckons at once ===== -/
def vScY (r j : Nat) : Prop := r = 80 ∧ 15 ≤ j ∧ j ≤ 17
theorem sc_Y5 : vScY 80 15 := by
  unfold vScY
  omega
theorem sc_Y6 : vScY 80 16 := by
  unfold vScY
  omega
theorem sc_Y7 : vScY 80 17 := by
  unfold vScY
  omega
def rRd (b : Nat → Int) (len : Nat) (en : Nat → Int32) (I : Nat → Nat → Int32) (pos : Nat) (o : Int) : Prop := I 80 14 = jI len ∧ I 80 15 = jI pos ∧ I 80 16 = jI 1 ∧ I 80 17 = jI o ∧ (∀ j, j < len → I 88 j = jI (b j)) ∧ vLet (I 90) ∧ ∀ j, j < 6 → I 89 j = en j
def rPo (en : Nat → Int32) (I : Nat → Nat → Int32) (o : Int) (q : lRes) (v : Int32) (I' : Nat → Nat → Int32) : Prop := vAg vScY I I' ∧ I' 80 15 = jI q.2.1 ∧ (q.1 = true → I' 80 16 = jI 1 ∧ I' 80 17 = jI o ∧ v = q.2.2.2 en) ∧ (¬ q.1 = true → I' 80 16 = jI 0)
def rS (k : Nat) (b : Nat → Int) (len : Nat) (en : Nat → Int32) (e : List mShp) (E : Nat → Nat → Int64) (F : Nat → Nat → Nat) (X : Nat → lRes) (D : Nat) (o : Int) : Prop := ∀ (Q pos : Nat) (I : Nat → Nat → Int32) (P : mPost), D ≤ Q → pos ≤ len → rRd b len en I pos o → (∀ I' v, rPo en I o (X pos) v I' → P (some (.int v)) (mLay e) (I', E, F)) → mF Q k [.ref 80] (mLay e) (I, E, F) P
theorem lD40 : lDig 40 = false := rfl
theorem lD33 : lDig 33 = false := rfl
theorem lD45 : lDig 45 = false := rfl
section RFL
variable {d n : Nat} {e : List mShp} {I : Nat → Nat → Int32} {E : Nat → Nat → Int64} {F : Nat → Nat → Nat} {P : mPost} {st nx gf rl dr pos len : Nat} {b : Nat → Int} {en : Nat → Int32} {o z : Int}
theorem rRd_ag {I' : Nat → Nat → Int32} {p : Nat} {o' : Int} (h : rRd b len en I pos o) (ha : vAg vScY I I') (h1 : I' 80 15 = jI p) (h2 : I' 80 16 = jI 1) (h3 : I' 80 17 = jI o') : rRd b len en I' p o' := by
  obtain ⟨r0, r1, r2, r3, r4, r5, r6⟩ := h
  refine ⟨(ha 80 14 (by unfold vScY; omega)).trans r0, h1, h2, h3, fun j hj => (ha 88 j (by unfold vScY; omega)).trans (r4 j hj), ?_, fun j hj => (ha 89 j (by unfold vScY; omega)).trans (r6 j hj)⟩
  rw [vAg_row (r := 90) ha (fun j => by unfold vScY; omega)]
  exact r5
theorem rPo_rd {q : lRes} {v : Int32} {I' : Nat → Nat → Int32} (hr : rRd b len en I pos o) (h : rPo en I o q v I') (hq : q.1 = true) : rRd b len en I' q.2.1 o := rRd_ag hr h.1 h.2.1 (h.2.2.1 hq).1 (h.2.2.1 hq).2.1
theorem rPo_fail {I' : Nat → Nat → Int32} {p : Nat} {v : Int32} (ha : vAg vScY I I') (h1 : I' 80 15 = jI p) (h2 : I' 80 16 = jI 0) : rPo en I o (lFail p) v I' := ⟨ha, h1, fun q => (by cases q), fun _ => h2⟩
theorem rPo_ok {I' : Nat → Nat → Int32} {p : Nat} {v : Int32} {c : lCode} {f : lVal} (ha : vAg vScY I I') (h1 : I' 80 15 = jI p) (h2 : I' 80 16 = jI 1) (h3 : I' 80 17 = jI o) (hv : v = f en) : rPo en I o (true, p, c, f) v I' := ⟨ha, h1, fun _ => ⟨h2, h3, hv⟩, fun q => absurd rfl q⟩
theorem r162 (hF : mFx F st nx gf rl dr) (hl : len ≤ 120) (hb : ∀ j, j < len → 0 ≤ b j ∧ b j ≤ 255) (hr : rRd b len en I pos o) (hp : pos ≤ len) (h0 : 0 ≤ z) (h1 : z ≤ 255) : mF d 162 [.ref 80, .int (jI z)] (mLay e) (I, E, F) P = P (some (.int (jI (if pos < len ∧ b pos = z then 1 else 0)))) (mLay e) (I, E, F) := by
  obtain ⟨r0, r1, r2, r3, r4, r5, r6⟩ := hr
  by_cases q : pos < len
  · have hbp := hb pos q
    by_cases q2 : b pos = z
    · rw [if_pos ⟨q, q2⟩]
      simp only [g162_in, g162_0, g162_1, g162_4, g162_7, g162_8, g162_11, g162_12, g162_15, g162_18, g162_19, g162_22, g162_23, g162_26, g162_27, g162_28, g162_31, g162_32, g162_35, g162_36, nl_none, nl_int, nl_ref, Option.toList_some, Option.toList_none, List.cons_append, List.nil_append, mSetI_u, mSetL_u, Nat.add_one_ne_zero, Nat.add_eq_zero_iff, and_false, false_and, not_false_eq_true, ne_eq, j0_0, j0_1, j1_0, j1_1, if_true, if_false, ite_true, ite_false, true_and, and_true, or_true, true_or, false_or, or_false, ↓reduceIte, Nat.reduceEqDiff, Nat.reduceAdd, Nat.reduceMul, Nat.reduceSub, Int.reduceLE, Int.reduceLT, Int.reduceNeg, Int.reduceAdd, Int.reduceSub, Int.reduceEq, reduceCtorEq, jI_lt, jI_eq, jI_lt0, jI_0lt, jI_eq0, jI_0le, jn_lo, iU_row, iU_nr, iU_eq, iU_same, jI_ixn, jI_add, jI_sub, jI_nat, sh_80, sh_88, f_80_13 hF, r0, r1, r2, r4 pos q, show ((pos : Nat) : Int) ≤ 2147483647 by omega, show (pos : Nat) ≤ 2147483647 by omega, show ((len : Nat) : Int) ≤ 2147483647 by omega, show (len : Nat) ≤ 2147483647 by omega, show (pos : Int) < (len : Int) by omega, jI_in (z := ((pos : Int) : Int)) (n := 120) (by omega) (by omega) (by omega), q2, eq_self]
    · rw [if_neg (fun w => q2 w.2)]
      simp only [g162_in, g162_0, g162_1, g162_4, g162_7, g162_8, g162_11, g162_12, g162_15, g162_18, g162_19, g162_22, g162_23, g162_26, g162_27, g162_28, g162_31, g162_32, g162_35, g162_36, nl_none, nl_int, nl_ref, Option.toList_some, Option.toList_none, List.cons_append, List.nil_append, mSetI_u, mSetL_u, Nat.add_one_ne_zero, Nat.add_eq_zero_iff, and_false, false_and, not_false_eq_true, ne_eq, j0_0, j0_1, j1_0, j1_1, if_true, if_false, ite_true, ite_false, true_and, and_true, or_true, true_or, false_or, or_false, ↓reduceIte, Nat.reduceEqDiff, Nat.reduceAdd, Nat.reduceMul, Nat.reduceSub, Int.reduceLE, Int.reduceLT, Int.reduceNeg, Int.reduceAdd, Int.reduceSub, Int.reduceEq, reduceCtorEq, jI_lt, jI_eq, jI_lt0, jI_0lt, jI_eq0, jI_0le, jn_lo, iU_row, iU_nr, iU_eq, iU_same, jI_ixn, jI_add, jI_sub, jI_nat, sh_80, sh_88, f_80_13 hF, r0, r1, r2, r4 pos q, show ((pos : Nat) : Int) ≤ 2147483647 by omega, show (pos : Nat) ≤ 2147483647 by omega, show ((len : Nat) : Int) ≤ 2147483647 by omega, show (len : Nat) ≤ 2147483647 by omega, show -2147483648 ≤ (b pos : Int) by omega, show (b pos : Int) ≤ 2147483647 by omega, show -2147483648 ≤ (z : Int) by omega, show (z : Int) ≤ 2147483647 by omega, show (pos : Int) < (len : Int) by omega, jI_in (z := ((pos : Int) : Int)) (n := 120) (by omega) (by omega) (by omega), q2]
  · rw [if_neg (fun w => q w.1)]
    simp only [g162_in, g162_0, g162_1, g162_4, g162_7, g162_8, g162_11, g162_12, g162_15, g162_18, g162_19, g162_22, g162_23, g162_26, g162_27, g162_28, g162_31, g162_32, g162_35, g162_36, nl_none, nl_int, nl_ref, Option.toList_some, Option.toList_none, List.cons_append, List.nil_append, mSetI_u, mSetL_u, Nat.add_one_ne_zero, Nat.add_eq_zero_iff, and_false, false_and, not_false_eq_true, ne_eq, j0_0, j0_1, j1_0, j1_1, if_true, if_false, ite_true, ite_false, true_and, and_true, or_true, true_or, false_or, or_false, ↓reduceIte, Nat.reduceEqDiff, Nat.reduceAdd, Nat.reduceMul, Nat.reduceSub, Int.reduceLE, Int.reduceLT, Int.reduceNeg, Int.reduceAdd, Int.reduceSub, Int.reduceEq, reduceCtorEq, jI_lt, jI_eq, jI_lt0, jI_0lt, jI_eq0, jI_0le, jn_lo, iU_row, iU_nr, iU_eq, iU_same, jI_ixn, jI_add, jI_sub, jI_nat, sh_80, r0, r1, r2, show ((pos : Nat) : Int) ≤ 2147483647 by omega, show (pos : Nat) ≤ 2147483647 by omega, show ((len : Nat) : Int) ≤ 2147483647 by omega, show (len : Nat) ≤ 2147483647 by omega, show ¬ ((pos : Int) < (len : Int)) by omega]
theorem r162_0 (h : I 80 16 = jI 0) {x : Int32} : mF d 162 [.ref 80, .int x] (mLay e) (I, E, F) P = P (some (.int (jI 0))) (mLay e) (I, E, F) := by
  simp only [g162_in, g162_0, g162_1, g162_4, g162_7, g162_8, g162_11, g162_12, g162_15, g162_18, g162_19, g162_22, g162_23, g162_26, g162_27, g162_28, g162_31, g162_32, g162_35, g162_36, nl_none, nl_int, nl_ref, Option.toList_some, Option.toList_none, List.cons_append, List.nil_append, mSetI_u, mSetL_u, Nat.add_one_ne_zero, Nat.add_eq_zero_iff, and_false, false_and, not_false_eq_true, ne_eq, j0_0, j0_1, j1_0, j1_1, if_true, if_false, ite_true, ite_false, true_and, and_true, or_true, true_or, false_or, or_false, ↓reduceIte, Nat.reduceEqDiff, Nat.reduceAdd, Nat.reduceMul, Nat.reduceSub, Int.reduceLE, Int.reduceLT, Int.reduceNeg, Int.reduceAdd, Int.reduceSub, Int.reduceEq, reduceCtorEq, jI_lt, jI_eq, jI_lt0, jI_0lt, jI_eq0, jI_0le, jn_lo, iU_row, iU_nr, iU_eq, iU_same, jI_ixn, jI_add, jI_sub, jI_nat, sh_80, h]
theorem r163 (hF : mFx F st nx gf rl dr) (hl : len ≤ 120) (hb : ∀ j, j < len → 0 ≤ b j ∧ b j ≤ 255) (hr : rRd b len en I pos o) (hp : pos ≤ len) : mF (d + 1) 163 [.ref 80] (mLay e) (I, E, F) P = P (some (.int (jI (if pos < len ∧ lDig (b pos) = true then 1 else 0)))) (mLay e) (I, E, F) := by
  obtain ⟨r0, r1, r2, r3, r4, r5, r6⟩ := hr
  by_cases q : pos < len
  · have hbp := hb pos q
    by_cases q2 : lDig (b pos) = true
    · have hd : 48 ≤ b pos ∧ b pos ≤ 57 := of_decide_eq_true q2
      rw [if_pos ⟨q, q2⟩]
      simp only [g163_in, g163_0, g163_1, g163_4, g163_7, g163_8, g163_11, g163_12, g163_15, g163_18, g163_19, g163_22, g163_23, g163_26, g163_27, g163_29, g163_31, g163_34, g163_37, g163_38, g163_41, g163_42, nl_none, nl_int, nl_ref, Option.toList_some, Option.toList_none, List.cons_append, List.nil_append, mSetI_u, mSetL_u, Nat.add_one_ne_zero, Nat.add_eq_zero_iff, and_false, false_and, not_false_eq_true, ne_eq, j0_0, j0_1, j1_0, j1_1, if_true, if_false, ite_true, ite_false, true_and, and_true, or_true, true_or, false_or, or_false, ↓reduceIte, Nat.reduceEqDiff, Nat.reduceAdd, Nat.reduceMul, Nat.reduceSub, Int.reduceLE, Int.reduceLT, Int.reduceNeg, Int.reduceAdd, Int.reduceSub, Int.reduceEq, reduceCtorEq, jI_lt, jI_eq, jI_lt0, jI_0lt, jI_eq0, jI_0le, jn_lo, iU_row, iU_nr, iU_eq, iU_same, jI_ixn, jI_add, jI_sub, jI_nat, sh_80, sh_88, f_80_13 hF, r0, r1, r2, r4 pos q, show ((pos : Nat) : Int) ≤ 2147483647 by omega, show (pos : Nat) ≤ 2147483647 by omega, show ((len : Nat) : Int) ≤ 2147483647 by omega, show (len : Nat) ≤ 2147483647 by omega, show (pos : Int) < (len : Int) by omega, jI_in (z := ((pos : Int) : Int)) (n := 120) (by omega) (by omega) (by omega), r146_t (z := b pos) hd.1 hd.2 (show (-2147483648 : Int) ≤ 48 by omega) (show (57 : Int) ≤ 2147483647 by omega)]
    · have hd : ¬ (48 ≤ b pos ∧ b pos ≤ 57) := fun w => q2 (decide_eq_true w)
      rw [if_neg (fun w => q2 w.2)]
      simp only [g163_in, g163_0, g163_1, g163_4, g163_7, g163_8, g163_11, g163_12, g163_15, g163_18, g163_19, g163_22, g163_23, g163_26, g163_27, g163_29, g163_31, g163_34, g163_37, g163_38, g163_41, g163_42, nl_none, nl_int, nl_ref, Option.toList_some, Option.toList_none, List.cons_append, List.nil_append, mSetI_u, mSetL_u, Nat.add_one_ne_zero, Nat.add_eq_zero_iff, and_false, false_and, not_false_eq_true, ne_eq, j0_0, j0_1, j1_0, j1_1, if_true, if_false, ite_true, ite_false, true_and, and_true, or_true, true_or, false_or, or_false, ↓reduceIte, Nat.reduceEqDiff, Nat.reduceAdd, Nat.reduceMul, Nat.reduceSub, Int.reduceLE, Int.reduceLT, Int.reduceNeg, Int.reduceAdd, Int.reduceSub, Int.reduceEq, reduceCtorEq, jI_lt, jI_eq, jI_lt0, jI_0lt, jI_eq0, jI_0le, jn_lo, iU_row, iU_nr, iU_eq, iU_same, jI_ixn, jI_add, jI_sub, jI_nat, sh_80, sh_88, f_80_13 hF, r0, r1, r2, r4 pos q, show ((pos : Nat) : Int) ≤ 2147483647 by omega, show (pos : Nat) ≤ 2147483647 by omega, show ((len : Nat) : Int) ≤ 2147483647 by omega, show (len : Nat) ≤ 2147483647 by omega, show (pos : Int) < (len : Int) by omega, jI_in (z := ((pos : Int) : Int)) (n := 120) (by omega) (by omega) (by omega), r146_f (z := b pos) (by omega) (by omega) hd (show (-2147483648 : Int) ≤ 48 by omega) (show (48 : Int) ≤ 2147483647 by omega) (show (57 : Int) ≤ 2147483647 by omega) (show (-2147483648 : Int) ≤ 57 by omega)]
  · rw [if_neg (fun w => q w.1)]
    simp only [g163_in, g163_0, g163_1, g163_4, g163_7, g163_8, g163_11, g163_12, g163_15, g163_18, g163_19, g163_22, g163_23, g163_26, g163_27, g163_29, g163_31, g163_34, g163_37, g163_38, g163_41, g163_42, nl_none, nl_int, nl_ref, Option.toList_some, Option.toList_none, List.cons_append, List.nil_append, mSetI_u, mSetL_u, Nat.add_one_ne_zero, Nat.add_eq_zero_iff, and_false, false_and, not_false_eq_true, ne_eq, j0_0, j0_1, j1_0, j1_1, if_true, if_false, ite_true, ite_false, true_and, and_true, or_true, true_or, false_or, or_false, ↓reduceIte, Nat.reduceEqDiff, Nat.reduceAdd, Nat.reduceMul, Nat.reduceSub, Int.reduceLE, Int.reduceLT, Int.reduceNeg, Int.reduceAdd, Int.reduceSub, Int.reduceEq, reduceCtorEq, jI_lt, jI_eq, jI_lt0, jI_0lt, jI_eq0, jI_0le, jn_lo, iU_row, iU_nr, iU_eq, iU_same, jI_ixn, jI_add, jI_sub, jI_nat, sh_80, r0, r1, r2, show ((pos : Nat) : Int) ≤ 2147483647 by omega, show (pos : Nat) ≤ 2147483647 by omega, show ((len : Nat) : Int) ≤ 2147483647 by omega, show (len : Nat) ≤ 2147483647 by omega, show ¬ ((pos : Int) < (len : Int)) by omega]
theorem r164_a (hF : mFx F st nx gf rl dr) (hl : len ≤ 120) (hb : ∀ j, j < len → 0 ≤ b j ∧ b j ≤ 255) : ∀ (k i : Nat) (y v : Int) pos I, i + k = 4 → y = i → rRd b len en I pos o → pos ≤ len → (∀ I', I' = iU I 80 15 (jI (lNum b len k pos v).1) → P (some (.int (jI (lNum b len k pos v).2))) (mLay e) (I', E, F)) → mG (d + 2) 164 4 [some (.ref 80), some (.int (jI v)), some (.int (jI y))] [] (mLay e) (I, E, F) P
  | 0, i, y, v, pos, I, hi, hy, hr, hp, hP => by
    subst hy
    have e : i = 4 := by omega
    subst e
    have h2 : I = iU I 80 15 (jI (lNum b len 0 pos v).1) := by
      funext r j
      unfold iU
      split
      · next q =>
        rw [q.1, q.2]
        exact hr.2.1
      · rfl
    have hp' := hP I h2
    rw [g164_4]
    simp only [g164_5, g164_6, g164_50, g164_51, nl_none, nl_int, nl_ref, Option.toList_some, Option.toList_none, List.cons_append, List.nil_append, mSetI_u, mSetL_u, Nat.add_one_ne_zero, Nat.add_eq_zero_iff, and_false, false_and, not_false_eq_true, ne_eq, j0_0, j0_1, j1_0, j1_1, if_true, if_false, ite_true, ite_false, true_and, and_true, or_true, true_or, false_or, or_false, ↓reduceIte, Nat.reduceEqDiff, Nat.reduceAdd, Nat.reduceMul, Nat.reduceSub, Int.reduceLE, Int.reduceLT, Int.reduceNeg, Int.reduceAdd, Int.reduceSub, Int.reduceEq, reduceCtorEq, jI_lt, jI_eq, jI_lt0, jI_0lt, jI_eq0, jI_0le, jn_lo, iU_row, iU_nr, iU_eq, iU_same, jI_ixn, jI_add, jI_sub, jI_nat, show ((4 : Nat) : Int) = 4 from rfl, Int.lt_irrefl]
    exact hp'
  | k + 1, i, y, v, pos, I, hi, hy, hr, hp, hP => by
    subst hy
    have same : I = iU I 80 15 (jI pos) := by
      funext r j
      unfold iU
      split
      · next q =>
        rw [q.1, q.2]
        exact hr.2.1
      · rfl
    have hr' := hr
    obtain ⟨r0, r1, r2, r3, r4, r5, r6⟩ := hr
    rw [g164_4]
    by_cases q : pos < len ∧ lDig (b pos) = true
    · have ih := r164_a hF hl hb k (i + 1) ((i : Int) + 1) (10 * v + b pos - 48) (pos + 1) (iU I 80 15 (jI ((pos : Int) + 1))) (by omega) (by omega) (rRd_ag hr' (vAg_iU vAg_rfl sc_Y5) (by rw [iU_eq]; rfl) (by rw [iU_same (by omega)]; exact r2) (by rw [iU_same (by omega)]; exact r3)) (by omega) (fun I' h => by
        have e1 : lNum b len (k + 1) pos v = lNum b len k (pos + 1) (10 * v + b pos - 48) := by rw [lNum, if_pos q]
        rw [← e1] at h ⊢
        refine hP I' ?_
        rw [h]
        funext r j
        unfold iU
        split
        · rfl
        · rfl)
      simp only [g164_5, g164_6, g164_9, g164_10, g164_13, g164_16, g164_18, g164_19, g164_20, g164_21, g164_24, g164_25, g164_28, g164_29, g164_30, g164_32, g164_33, g164_34, g164_35, g164_36, g164_39, g164_40, g164_41, g164_44, g164_47, nl_none, nl_int, nl_ref, Option.toList_some, Option.toList_none, List.cons_append, List.nil_append, mSetI_u, mSetL_u, Nat.add_one_ne_zero, Nat.add_eq_zero_iff, and_false, false_and, not_false_eq_true, ne_eq, j0_0, j0_1, j1_0, j1_1, if_true, if_false, ite_true, ite_false, true_and, and_true, or_true, true_or, false_or, or_false, ↓reduceIte, Nat.reduceEqDiff, Nat.reduceAdd, Nat.reduceMul, Nat.reduceSub, Int.reduceLE, Int.reduceLT, Int.reduceNeg, Int.reduceAdd, Int.reduceSub, Int.reduceEq, reduceCtorEq, jI_lt, jI_eq, jI_lt0, jI_0lt, jI_eq0, jI_0le, jn_lo, iU_row, iU_nr, iU_eq, iU_same, jI_ixn, jI_add, jI_sub, jI_nat, sh_80, sh_88, f_80_13 hF, r1, r4 pos q.1, show ((pos : Nat) : Int) ≤ 2147483647 by omega, show (pos : Nat) ≤ 2147483647 by omega, show ((i : Nat) : Int) ≤ 2147483647 by omega, show (i : Nat) ≤ 2147483647 by omega, show (i : Int) < 4 by omega, jI_in (z := ((pos : Int) : Int)) (n := 120) (by omega) (by omega) (by omega), r163 hF hl hb hr' hp, q, and_self, jI_mul]
      exact ih
    · have e1 : lNum b len (k + 1) pos v = (pos, v) := by rw [lNum, if_neg q]
      rw [e1] at hP
      have hp' := hP I same
      simp only [g164_5, g164_6, g164_9, g164_10, g164_13, g164_16, g164_18, g164_19, g164_20, g164_21, g164_24, g164_25, g164_28, g164_29, g164_30, g164_32, g164_33, g164_34, g164_35, g164_36, g164_39, g164_40, g164_41, g164_44, g164_47, g164_50, g164_51, nl_none, nl_int, nl_ref, Option.toList_some, Option.toList_none, List.cons_append, List.nil_append, mSetI_u, mSetL_u, Nat.add_one_ne_zero, Nat.add_eq_zero_iff, and_false, false_and, not_false_eq_true, ne_eq, j0_0, j0_1, j1_0, j1_1, if_true, if_false, ite_true, ite_false, true_and, and_true, or_true, true_or, false_or, or_false, ↓reduceIte, Nat.reduceEqDiff, Nat.reduceAdd, Nat.reduceMul, Nat.reduceSub, Int.reduceLE, Int.reduceLT, Int.reduceNeg, Int.reduceAdd, Int.reduceSub, Int.reduceEq, reduceCtorEq, jI_lt, jI_eq, jI_lt0, jI_0lt, jI_eq0, jI_0le, jn_lo, iU_row, iU_nr, iU_eq, iU_same, jI_ixn, jI_add, jI_sub, jI_nat, sh_80, show ((i : Nat) : Int) ≤ 2147483647 by omega, show (i : Nat) ≤ 2147483647 by omega, show (i : Int) < 4 by omega, r163 hF hl hb hr' hp, q]
      exact hp'
theorem r164 (hF : mFx F st nx gf rl dr) (hl : len ≤ 120) (hb : ∀ j, j < len → 0 ≤ b j ∧ b j ≤ 255) (hr : rRd b len en I pos o) (hp : pos ≤ len) (hP : P (some (.int (jI (lNum b len 4 pos 0).2))) (mLay e) (iU I 80 15 (jI (lNum b len 4 pos 0).1), E, F)) : mF (d + 2) 164 [.ref 80] (mLay e) (I, E, F) P := by
  simp only [g164_in, g164_0, g164_1, g164_2, g164_3, nl_none, nl_int, nl_ref, Option.toList_some, Option.toList_none, List.cons_append, List.nil_append, mSetI_u, mSetL_u, Nat.add_one_ne_zero, Nat.add_eq_zero_iff, and_false, false_and, not_false_eq_true, ne_eq, j0_0, j0_1, j1_0, j1_1, if_true, if_false, ite_true, ite_false, true_and, and_true, or_true, true_or, false_or, or_false, ↓reduceIte, Nat.reduceEqDiff, Nat.reduceAdd, Nat.reduceMul, Nat.reduceSub, Int.reduceLE, Int.reduceLT, Int.reduceNeg, Int.reduceAdd, Int.reduceSub, Int.reduceEq, reduceCtorEq, jI_lt, jI_eq, jI_lt0, jI_0lt, jI_eq0, jI_0le, jn_lo, iU_row, iU_nr, iU_eq, iU_same, jI_ixn, jI_add, jI_sub, jI_nat]
  exact r164_a hF hl hb 4 0 0 0 pos I (by omega) rfl hr hp (fun I' h => by rw [h]; exact hP)
theorem r165_t (hr : rRd b len en I pos o) (h0 : 0 ≤ o) (h1 : o < 6) : mF d 165 [.ref 80] (mLay e) (I, E, F) P = P (some (.int (jI 1))) (mLay e) (iU (iU (iU I 80 16 (jI 1)) 80 17 (jI (o + 1))) 80 15 (jI ((pos : Int) + 1)), E, F) := by
  obtain ⟨r0, r1, r2, r3, r4, r5, r6⟩ := hr
  simp only [g165_in, g165_0, g165_1, g165_2, g165_5, g165_7, g165_10, g165_11, g165_14, g165_15, g165_18, g165_19, g165_22, g165_25, g165_26, g165_27, g165_30, g165_31, g165_32, g165_35, g165_36, g165_37, g165_40, g165_41, g165_42, g165_45, g165_46, g165_49, nl_none, nl_int, nl_ref, Option.toList_some, Option.toList_none, List.cons_append, List.nil_append, mSetI_u, mSetL_u, Nat.add_one_ne_zero, Nat.add_eq_zero_iff, and_false, false_and, not_false_eq_true, ne_eq, j0_0, j0_1, j1_0, j1_1, if_true, if_false, ite_true, ite_false, true_and, and_true, or_true, true_or, false_or, or_false, ↓reduceIte, Nat.reduceEqDiff, Nat.reduceAdd, Nat.reduceMul, Nat.reduceSub, Int.reduceLE, Int.reduceLT, Int.reduceNeg, Int.reduceAdd, Int.reduceSub, Int.reduceEq, reduceCtorEq, jI_lt, jI_eq, jI_lt0, jI_0lt, jI_eq0, jI_0le, jn_lo, iU_row, iU_nr, iU_eq, iU_same, jI_ixn, jI_add, jI_sub, jI_nat, sh_80, r1, r3, show -2147483648 ≤ (o : Int) by omega, show (o : Int) ≤ 2147483647 by omega, show o < 6 by omega, eq_self]
theorem r165_f (hr : rRd b len en I pos o) (h0 : o = 6) : mF d 165 [.ref 80] (mLay e) (I, E, F) P = P (some (.int (jI 0))) (mLay e) (iU I 80 16 (jI 0), E, F) := by
  obtain ⟨r0, r1, r2, r3, r4, r5, r6⟩ := hr
  subst h0
  simp only [g165_in, g165_0, g165_1, g165_2, g165_5, g165_7, g165_10, g165_11, g165_14, g165_15, g165_18, g165_19, g165_22, g165_25, g165_26, g165_27, g165_30, g165_31, g165_32, g165_35, g165_36, g165_37, g165_40, g165_41, g165_42, g165_45, g165_46, g165_49, nl_none, nl_int, nl_ref, Option.toList_some, Option.toList_none, List.cons_append, List.nil_append, mSetI_u, mSetL_u, Nat.add_one_ne_zero, Nat.add_eq_zero_iff, and_false, false_and, not_false_eq_true, ne_eq, j0_0, j0_1, j1_0, j1_1, if_true, if_false, ite_true, ite_false, true_and, and_true, or_true, true_or, false_or, or_false, ↓reduceIte, Nat.reduceEqDiff, Nat.reduceAdd, Nat.reduceMul, Nat.reduceSub, Int.reduceLE, Int.reduceLT, Int.reduceNeg, Int.reduceAdd, Int.reduceSub, Int.reduceEq, reduceCtorEq, jI_lt, jI_eq, jI_lt0, jI_0lt, jI_eq0, jI_0le, jn_lo, iU_row, iU_nr, iU_eq, iU_same, jI_ixn, jI_add, jI_sub, jI_nat, sh_80, r1, r3, eq_self, Int.lt_irrefl]
/-! one -/
set_option maxRecDepth 200000 in
theorem r166_b (hF : mFx F st nx gf rl dr) (hl : len ≤ 120) (hb : ∀ j, j < len → 0 ≤ b j ∧ b j ≤ 255) (h : pos < len) (hr : rRd b len en I pos o) (ho : ¬ lOpn (b pos) = true) (hP : ∀ I' v, rPo en I o (lBase b len pos) v I' → P (some (.int v)) (mLay e) (I', E, F)) : mF (d + 3) 166 [.ref 80] (mLay e) (I, E, F) P := by
  have hbp := hb pos h
  have hn : ¬ b pos = 40 ∧ ¬ b pos = 33 ∧ ¬ b pos = 45 := ⟨fun w => ho (lOpn_iff.2 (.inl w)), fun w => ho (lOpn_iff.2 (.inr (.inl w))), fun w => ho (lOpn_iff.2 (.inr (.inr w)))⟩
  have hr' := hr
  have hp : pos ≤ len := by omega
  obtain ⟨r0, r1, r2, r3, r4, ⟨l0, l1, l2, l3, l4, l5⟩, r6⟩ := hr
  unfold lBase at hP
  by_cases q : lDig (b pos) = true
  · rw [if_pos q] at hP
    have hp' := hP (iU I 80 15 (jI (lNum b len 4 pos 0).1)) (jI (lNum b len 4 pos 0).2) (rPo_ok (vAg_iU vAg_rfl sc_Y5) iU_eq (by rw [iU_same (by omega)]; exact r2) (by rw [iU_same (by omega)]; exact r3) rfl)
    simp only [g166_in, g166_0, g166_1, g166_2, g166_3, g166_6, g166_9, g166_10, nl_none, nl_int, nl_ref, Option.toList_some, Option.toList_none, List.cons_append, List.nil_append, mSetI_u, mSetL_u, Nat.add_one_ne_zero, Nat.add_eq_zero_iff, and_false, false_and, not_false_eq_true, ne_eq, j0_0, j0_1, j1_0, j1_1, if_true, if_false, ite_true, ite_false, true_and, and_true, or_true, true_or, false_or, or_false, ↓reduceIte, Nat.reduceEqDiff, Nat.reduceAdd, Nat.reduceMul, Nat.reduceSub, Int.reduceLE, Int.reduceLT, Int.reduceNeg, Int.reduceAdd, Int.reduceSub, Int.reduceEq, reduceCtorEq, jI_lt, jI_eq, jI_lt0, jI_0lt, jI_eq0, jI_0le, jn_lo, iU_row, iU_nr, iU_eq, iU_same, jI_ixn, jI_add, jI_sub, jI_nat, sh_80, r163 hF hl hb hr' hp, h, q, and_self, eq_self]
    refine r164 hF hl hb hr' hp ?_
    simp only [g166_13, nl_none, nl_int, nl_ref, Option.toList_some, Option.toList_none, List.cons_append, List.nil_append, mSetI_u, mSetL_u, Nat.add_one_ne_zero, Nat.add_eq_zero_iff, and_false, false_and, not_false_eq_true, ne_eq, j0_0, j0_1, j1_0, j1_1, if_true, if_false, ite_true, ite_false, true_and, and_true, or_true, true_or, false_or, or_false, ↓reduceIte, Nat.reduceEqDiff, Nat.reduceAdd, Nat.reduceMul, Nat.reduceSub, Int.reduceLE, Int.reduceLT, Int.reduceNeg, Int.reduceAdd, Int.reduceSub, Int.reduceEq, reduceCtorEq, jI_lt, jI_eq, jI_lt0, jI_0lt, jI_eq0, jI_0le, jn_lo, iU_row, iU_nr, iU_eq, iU_same, jI_ixn, jI_add, jI_sub, jI_nat]
    exact hp'
  · rw [if_neg q] at hP
    by_cases q2 : 0 ≤ lName (b pos)
    · rw [if_pos q2] at hP
      have hp' := hP (iU I 80 15 (jI ((pos : Int) + 1))) (en (lName (b pos)).toNat) (rPo_ok (p := pos + 1) (vAg_iU vAg_rfl sc_Y5) (by rw [iU_eq]; rfl) (by rw [iU_same (by omega)]; exact r2) (by rw [iU_same (by omega)]; exact r3) rfl)
      have hw : b pos = 103 ∨ b pos = 100 ∨ b pos = 110 ∨ b pos = 107 ∨ b pos = 115 ∨ b pos = 116 := by
        refine Classical.byContradiction (fun w => ?_)
        have e1 : lName (b pos) = -1 := by
          unfold lName
          rw [if_neg (by omega), if_neg (by omega), if_neg (by omega), if_neg (by omega), if_neg (by omega), if_neg (by omega)]
        omega
      clear hbp hn ho
      rcases hw with w | w | w | w | w | w
      all_goals
        rw [w] at hp' q
        simp only [g166_in, g166_0, g166_1, g166_2, g166_3, g166_6, g166_14, g166_15, g166_17, g166_20, g166_23, g166_24, g166_26, g166_29, g166_82, g166_83, g166_85, g166_88, g166_146, g166_147, g166_148, g166_149, g166_151, g166_154, g166_155, g166_156, g166_159, g166_160, g166_161, g166_164, g166_167, g166_168, g166_169, g166_172, g166_173, g166_174, g166_177, g166_178, g166_181, g166_182, g166_183, g166_184, g166_187, nl_none, nl_int, nl_ref, Option.toList_some, Option.toList_none, List.cons_append, List.nil_append, mSetI_u, mSetL_u, Nat.add_one_ne_zero, Nat.add_eq_zero_iff, and_false, false_and, not_false_eq_true, ne_eq, j0_0, j0_1, j1_0, j1_1, if_true, if_false, ite_true, ite_false, true_and, and_true, or_true, true_or, false_or, or_false, ↓reduceIte, Nat.reduceEqDiff, Nat.reduceAdd, Nat.reduceMul, Nat.reduceSub, Int.reduceLE, Int.reduceLT, Int.reduceNeg, Int.reduceAdd, Int.reduceSub, Int.reduceEq, reduceCtorEq, jI_lt, jI_eq, jI_lt0, jI_0lt, jI_eq0, jI_0le, jn_lo, iU_row, iU_nr, iU_eq, iU_same, jI_ixn, jI_add, jI_sub, jI_nat, sh_80, sh_89, sh_90, f_80_18 hF, f_80_19 hF, r1, r6 0 (by omega), r6 1 (by omega), r6 2 (by omega), r6 3 (by omega), r6 4 (by omega), r6 5 (by omega), l0, l1, l2, l3, l4, l5, r163 hF hl hb hr' hp, r162 hF hl hb hr' hp (z := 33) (by omega) (by omega), r162 hF hl hb hr' hp (z := 45) (by omega) (by omega), r162 hF hl hb hr' hp (z := 40) (by omega) (by omega), r162 hF hl hb hr' hp (z := 103) (by omega) (by omega), r162 hF hl hb hr' hp (z := 100) (by omega) (by omega), r162 hF hl hb hr' hp (z := 110) (by omega) (by omega), r162 hF hl hb hr' hp (z := 107) (by omega) (by omega), r162 hF hl hb hr' hp (z := 115) (by omega) (by omega), r162 hF hl hb hr' hp (z := 116) (by omega) (by omega), h, w, q, eq_self, and_self, show mIdx (Int32.ofInt 0) 6 = true from rfl, show (Int32.ofInt 0).toNatClampNeg = 0 from rfl, show mIdx (Int32.ofInt 1) 6 = true from rfl, show (Int32.ofInt 1).toNatClampNeg = 1 from rfl, show mIdx (Int32.ofInt 2) 6 = true from rfl, show (Int32.ofInt 2).toNatClampNeg = 2 from rfl, show mIdx (Int32.ofInt 3) 6 = true from rfl, show (Int32.ofInt 3).toNatClampNeg = 3 from rfl, show mIdx (Int32.ofInt 4) 6 = true from rfl, show (Int32.ofInt 4).toNatClampNeg = 4 from rfl, show mIdx (Int32.ofInt 5) 6 = true from rfl, show (Int32.ofInt 5).toNatClampNeg = 5 from rfl]
        exact hp'
    · rw [if_neg q2] at hP
      have hp' := hP (iU I 80 16 (jI 0)) (jI 0) (rPo_fail (vAg_iU vAg_rfl sc_Y6) (by rw [iU_same (by omega)]; exact r1) iU_eq)
      have x0 : ¬ b pos = 103 := fun w => q2 (by rw [w]; decide)
      have x1 : ¬ b pos = 100 := fun w => q2 (by rw [w]; decide)
      have x2 : ¬ b pos = 110 := fun w => q2 (by rw [w]; decide)
      have x3 : ¬ b pos = 107 := fun w => q2 (by rw [w]; decide)
      have x4 : ¬ b pos = 115 := fun w => q2 (by rw [w]; decide)
      have x5 : ¬ b pos = 116 := fun w => q2 (by rw [w]; decide)
      simp only [g166_in, g166_0, g166_1, g166_2, g166_3, g166_6, g166_14, g166_15, g166_17, g166_20, g166_23, g166_24, g166_26, g166_29, g166_82, g166_83, g166_85, g166_88, g166_146, g166_147, g166_148, g166_149, g166_151, g166_154, g166_155, g166_156, g166_159, g166_160, g166_161, g166_164, g166_167, g166_168, g166_169, g166_172, g166_173, g166_174, g166_177, g166_178, g166_181, g166_182, g166_183, g166_184, g166_187, g166_190, g166_191, g166_192, g166_195, g166_196, nl_none, nl_int, nl_ref, Option.toList_some, Option.toList_none, List.cons_append, List.nil_append, mSetI_u, mSetL_u, Nat.add_one_ne_zero, Nat.add_eq_zero_iff, and_false, false_and, not_false_eq_true, ne_eq, j0_0, j0_1, j1_0, j1_1, if_true, if_false, ite_true, ite_false, true_and, and_true, or_true, true_or, false_or, or_false, ↓reduceIte, Nat.reduceEqDiff, Nat.reduceAdd, Nat.reduceMul, Nat.reduceSub, Int.reduceLE, Int.reduceLT, Int.reduceNeg, Int.reduceAdd, Int.reduceSub, Int.reduceEq, reduceCtorEq, jI_lt, jI_eq, jI_lt0, jI_0lt, jI_eq0, jI_0le, jn_lo, iU_row, iU_nr, iU_eq, iU_same, jI_ixn, jI_add, jI_sub, jI_nat, sh_80, sh_90, f_80_19 hF, l0, l1, l2, l3, l4, l5, r163 hF hl hb hr' hp, r162 hF hl hb hr' hp (z := 33) (by omega) (by omega), r162 hF hl hb hr' hp (z := 45) (by omega) (by omega), r162 hF hl hb hr' hp (z := 40) (by omega) (by omega), r162 hF hl hb hr' hp (z := 103) (by omega) (by omega), r162 hF hl hb hr' hp (z := 100) (by omega) (by omega), r162 hF hl hb hr' hp (z := 110) (by omega) (by omega), r162 hF hl hb hr' hp (z := 107) (by omega) (by omega), r162 hF hl hb hr' hp (z := 115) (by omega) (by omega), r162 hF hl hb hr' hp (z := 116) (by omega) (by omega), hn.1, hn.2.1, hn.2.2, x0, x1, x2, x3, x4, x5, q, show mIdx (Int32.ofInt 0) 6 = true from rfl, show (Int32.ofInt 0).toNatClampNeg = 0 from rfl, show mIdx (Int32.ofInt 1) 6 = true from rfl, show (Int32.ofInt 1).toNatClampNeg = 1 from rfl, show mIdx (Int32.ofInt 2) 6 = true from rfl, show (Int32.ofInt 2).toNatClampNeg = 2 from rfl, show mIdx (Int32.ofInt 3) 6 = true from rfl, show (Int32.ofInt 3).toNatClampNeg = 3 from rfl, show mIdx (Int32.ofInt 4) 6 = true from rfl, show (Int32.ofInt 4).toNatClampNeg = 4 from rfl, show mIdx (Int32.ofInt 5) 6 = true from rfl, show (Int32.ofInt 5).toNatClampNeg = 5 from rfl]
      exact hp'
set_option maxRecDepth 200000 in
theorem r166_e (hF : mFx F st nx gf rl dr) (hl : len ≤ 120) (hb : ∀ j, j < len → 0 ≤ b j ∧ b j ≤ 255) (hp : pos ≤ len) (h : ¬ pos < len) (hr : rRd b len en I pos o) (hP : ∀ I' v, rPo en I o (lFail pos) v I' → P (some (.int v)) (mLay e) (I', E, F)) : mF (d + 3) 166 [.ref 80] (mLay e) (I, E, F) P := by
  have hr' := hr
  obtain ⟨r0, r1, r2, r3, r4, ⟨l0, l1, l2, l3, l4, l5⟩, r6⟩ := hr
  have hp' := hP (iU I 80 16 (jI 0)) (jI 0) (rPo_fail (vAg_iU vAg_rfl sc_Y6) (by rw [iU_same (by omega)]; exact r1) iU_eq)
  simp only [g166_in, g166_0, g166_1, g166_2, g166_3, g166_6, g166_14, g166_15, g166_17, g166_20, g166_23, g166_24, g166_26, g166_29, g166_82, g166_83, g166_85, g166_88, g166_146, g166_147, g166_148, g166_149, g166_151, g166_154, g166_155, g166_156, g166_159, g166_160, g166_161, g166_164, g166_167, g166_168, g166_169, g166_172, g166_173, g166_174, g166_177, g166_178, g166_181, g166_182, g166_183, g166_184, g166_187, g166_190, g166_191, g166_192, g166_195, g166_196, nl_none, nl_int, nl_ref, Option.toList_some, Option.toList_none, List.cons_append, List.nil_append, mSetI_u, mSetL_u, Nat.add_one_ne_zero, Nat.add_eq_zero_iff, and_false, false_and, not_false_eq_true, ne_eq, j0_0, j0_1, j1_0, j1_1, if_true, if_false, ite_true, ite_false, true_and, and_true, or_true, true_or, false_or, or_false, ↓reduceIte, Nat.reduceEqDiff, Nat.reduceAdd, Nat.reduceMul, Nat.reduceSub, Int.reduceLE, Int.reduceLT, Int.reduceNeg, Int.reduceAdd, Int.reduceSub, Int.reduceEq, reduceCtorEq, jI_lt, jI_eq, jI_lt0, jI_0lt, jI_eq0, jI_0le, jn_lo, iU_row, iU_nr, iU_eq, iU_same, jI_ixn, jI_add, jI_sub, jI_nat, sh_80, sh_90, f_80_19 hF, l0, l1, l2, l3, l4, l5, r163 hF hl hb hr' hp, r162 hF hl hb hr' hp (z := 33) (by omega) (by omega), r162 hF hl hb hr' hp (z := 45) (by omega) (by omega), r162 hF hl hb hr' hp (z := 40) (by omega) (by omega), r162 hF hl hb hr' hp (z := 103) (by omega) (by omega), r162 hF hl hb hr' hp (z := 100) (by omega) (by omega), r162 hF hl hb hr' hp (z := 110) (by omega) (by omega), r162 hF hl hb hr' hp (z := 107) (by omega) (by omega), r162 hF hl hb hr' hp (z := 115) (by omega) (by omega), r162 hF hl hb hr' hp (z := 116) (by omega) (by omega), h, show mIdx (Int32.ofInt 0) 6 = true from rfl, show (Int32.ofInt 0).toNatClampNeg = 0 from rfl, show mIdx (Int32.ofInt 1) 6 = true from rfl, show (Int32.ofInt 1).toNatClampNeg = 1 from rfl, show mIdx (Int32.ofInt 2) 6 = true from rfl, show (Int32.ofInt 2).toNatClampNeg = 2 from rfl, show mIdx (Int32.ofInt 3) 6 = true from rfl, show (Int32.ofInt 3).toNatClampNeg = 3 from rfl, show mIdx (Int32.ofInt 4) 6 = true from rfl, show (Int32.ofInt 4).toNatClampNeg = 4 from rfl, show mIdx (Int32.ofInt 5) 6 = true from rfl, show (Int32.ofInt 5).toNatClampNeg = 5 from rfl]
  exact hp'
theorem r166_0 (hF : mFx F st nx gf rl dr) (hl : len ≤ 120) (hb : ∀ j, j < len → 0 ≤ b j ∧ b j ≤ 255) : rS 166 b len en e E F (lOp b len 0) 3 6 := by
  intro Q pos I P hQ hp hr hP
  obtain ⟨q, rfl⟩ : ∃ q, Q = q + 3 := ⟨Q - 3, by omega⟩
  by_cases h : pos < len
  · by_cases ho : lOpn (b pos) = true
    · have e1 : lOp b len 0 pos = lFail pos := by rw [lOp, if_pos h, if_pos ho]
      rw [e1] at hP
      have hp' := hP (iU I 80 16 (jI 0)) (jI 0) (rPo_fail (vAg_iU vAg_rfl sc_Y6) (by rw [iU_same (by omega)]; exact hr.2.1) iU_eq)
      rcases lOpn_iff.1 ho with w | w | w
      · simp only [g166_in, g166_0, g166_1, g166_2, g166_3, g166_6, g166_14, g166_15, g166_17, g166_20, g166_23, g166_24, g166_26, g166_29, g166_82, g166_83, g166_85, g166_88, g166_91, g166_92, g166_95, g166_144, g166_145, nl_none, nl_int, nl_ref, Option.toList_some, Option.toList_none, List.cons_append, List.nil_append, mSetI_u, mSetL_u, Nat.add_one_ne_zero, Nat.add_eq_zero_iff, and_false, false_and, not_false_eq_true, ne_eq, j0_0, j0_1, j1_0, j1_1, if_true, if_false, ite_true, ite_false, true_and, and_true, or_true, true_or, false_or, or_false, ↓reduceIte, Nat.reduceEqDiff, Nat.reduceAdd, Nat.reduceMul, Nat.reduceSub, Int.reduceLE, Int.reduceLT, Int.reduceNeg, Int.reduceAdd, Int.reduceSub, Int.reduceEq, reduceCtorEq, jI_lt, jI_eq, jI_lt0, jI_0lt, jI_eq0, jI_0le, jn_lo, iU_row, iU_nr, iU_eq, iU_same, jI_ixn, jI_add, jI_sub, jI_nat, sh_80, r163 hF hl hb hr hp, r162 hF hl hb hr hp (z := 33) (by omega) (by omega), r162 hF hl hb hr hp (z := 45) (by omega) (by omega), r162 hF hl hb hr hp (z := 40) (by omega) (by omega), h, w, lD40, eq_self, and_self, r165_f hr rfl]
        exact hp'
      · simp only [g166_in, g166_0, g166_1, g166_2, g166_3, g166_6, g166_14, g166_15, g166_17, g166_20, g166_23, g166_24, g166_26, g166_29, g166_32, g166_33, g166_35, g166_38, g166_39, g166_40, g166_43, g166_80, g166_81, nl_none, nl_int, nl_ref, Option.toList_some, Option.toList_none, List.cons_append, List.nil_append, mSetI_u, mSetL_u, Nat.add_one_ne_zero, Nat.add_eq_zero_iff, and_false, false_and, not_false_eq_true, ne_eq, j0_0, j0_1, j1_0, j1_1, if_true, if_false, ite_true, ite_false, true_and, and_true, or_true, true_or, false_or, or_false, ↓reduceIte, Nat.reduceEqDiff, Nat.reduceAdd, Nat.reduceMul, Nat.reduceSub, Int.reduceLE, Int.reduceLT, Int.reduceNeg, Int.reduceAdd, Int.reduceSub, Int.reduceEq, reduceCtorEq, jI_lt, jI_eq, jI_lt0, jI_0lt, jI_eq0, jI_0le, jn_lo, iU_row, iU_nr, iU_eq, iU_same, jI_ixn, jI_add, jI_sub, jI_nat, sh_80, r163 hF hl hb hr hp, r162 hF hl hb hr hp (z := 33) (by omega) (by omega), r162 hF hl hb hr hp (z := 45) (by omega) (by omega), h, w, lD33, eq_self, and_self, r165_f hr rfl]
        exact hp'
      · simp only [g166_in, g166_0, g166_1, g166_2, g166_3, g166_6, g166_14, g166_15, g166_17, g166_20, g166_23, g166_24, g166_26, g166_29, g166_32, g166_33, g166_35, g166_38, g166_39, g166_40, g166_43, g166_80, g166_81, nl_none, nl_int, nl_ref, Option.toList_some, Option.toList_none, List.cons_append, List.nil_append, mSetI_u, mSetL_u, Nat.add_one_ne_zero, Nat.add_eq_zero_iff, and_false, false_and, not_false_eq_true, ne_eq, j0_0, j0_1, j1_0, j1_1, if_true, if_false, ite_true, ite_false, true_and, and_true, or_true, true_or, false_or, or_false, ↓reduceIte, Nat.reduceEqDiff, Nat.reduceAdd, Nat.reduceMul, Nat.reduceSub, Int.reduceLE, Int.reduceLT, Int.reduceNeg, Int.reduceAdd, Int.reduceSub, Int.reduceEq, reduceCtorEq, jI_lt, jI_eq, jI_lt0, jI_0lt, jI_eq0, jI_0le, jn_lo, iU_row, iU_nr, iU_eq, iU_same, jI_ixn, jI_add, jI_sub, jI_nat, sh_80, r163 hF hl hb hr hp, r162 hF hl hb hr hp (z := 33) (by omega) (by omega), r162 hF hl hb hr hp (z := 45) (by omega) (by omega), h, w, lD45, eq_self, and_self, r165_f hr rfl]
        exact hp'
    · have e1 : lOp b len 0 pos = lBase b len pos := by rw [lOp, if_pos h, if_neg ho]
      rw [e1] at hP
      exact r166_b hF hl hb h hr ho hP
  · have e1 : lOp b len 0 pos = lFail pos := by rw [lOp, if_neg h]
    rw [e1] at hP
    exact r166_e hF hl hb hp h hr hP
theorem r166_s (hF : mFx F st nx gf rl dr) (hl : len ≤ 120) (hb : ∀ j, j < len → 0 ≤ b j ∧ b j ≤ 255) {r D : Nat} {o : Int} (ho0 : 0 ≤ o) (ho6 : o < 6) (ih : rS 166 b len en e E F (lOp b len r) D (o + 1)) (hE : rS 171 b len en e E F (lE b len (lOp b len r)) (D + 5) (o + 1)) : rS 166 b len en e E F (lOp b len (r + 1)) (D + 6) o := by
  intro Q pos I P hQ hp hr hP
  by_cases h : pos < len
  · by_cases ho : lOpn (b pos) = true
    · obtain ⟨I1, hI1⟩ : ∃ I1, I1 = iU (iU (iU I 80 16 (jI 1)) 80 17 (jI (o + 1))) 80 15 (jI ((pos : Int) + 1)) := ⟨_, rfl⟩
      have ha1 : vAg vScY I I1 := by
        rw [hI1]
        exact vAg_iU (vAg_iU (vAg_iU vAg_rfl sc_Y6) sc_Y7) sc_Y5
      have hat : rRd b len en I1 (pos + 1) (o + 1) := by
        refine rRd_ag hr ha1 ?_ ?_ ?_
        · rw [hI1, iU_eq]
          rfl
        · rw [hI1, iU_same (by omega), iU_same (by omega), iU_eq]
        · rw [hI1, iU_same (by omega), iU_eq]
      by_cases q40 : b pos = 40
      · obtain ⟨q, rfl⟩ : ∃ q, Q = q + 3 := ⟨Q - 3, by omega⟩
        have e1 : lOp b len (r + 1) pos = lPar b len (lE b len (lOp b len r) (pos + 1)) := by rw [lOp, if_pos h, if_pos ho, if_pos q40]
        rw [e1] at hP
        have hx := lE_ok (b := b) (lOp_ok (b := b) (len := len) r) (pos + 1) (by omega)
        simp only [g166_in, g166_0, g166_1, g166_2, g166_3, g166_6, g166_14, g166_15, g166_17, g166_20, g166_23, g166_24, g166_26, g166_29, g166_82, g166_83, g166_85, g166_88, g166_91, g166_92, g166_95, g166_98, g166_99, nl_none, nl_int, nl_ref, Option.toList_some, Option.toList_none, List.cons_append, List.nil_append, mSetI_u, mSetL_u, Nat.add_one_ne_zero, Nat.add_eq_zero_iff, and_false, false_and, not_false_eq_true, ne_eq, j0_0, j0_1, j1_0, j1_1, if_true, if_false, ite_true, ite_false, true_and, and_true, or_true, true_or, false_or, or_false, ↓reduceIte, Nat.reduceEqDiff, Nat.reduceAdd, Nat.reduceMul, Nat.reduceSub, Int.reduceLE, Int.reduceLT, Int.reduceNeg, Int.reduceAdd, Int.reduceSub, Int.reduceEq, reduceCtorEq, jI_lt, jI_eq, jI_lt0, jI_0lt, jI_eq0, jI_0le, jn_lo, iU_row, iU_nr, iU_eq, iU_same, jI_ixn, jI_add, jI_sub, jI_nat, sh_80, r163 hF hl hb hr hp, r162 hF hl hb hr hp (z := 33) (by omega) (by omega), r162 hF hl hb hr hp (z := 45) (by omega) (by omega), r162 hF hl hb hr hp (z := 40) (by omega) (by omega), h, q40, lD40, eq_self, and_self, r165_t hr ho0 ho6]
        rw [← hI1]
        refine hE (q + 2) (pos + 1) I1 _ (by omega) (by omega) hat (fun I2 v1 h2 => ?_)
        obtain ⟨A, hA⟩ : ∃ A, A = lE b len (lOp b len r) (pos + 1) := ⟨_, rfl⟩
        rw [← hA] at hP hx h2
        have h15 := h2.2.1
        unfold lPar at hP
        by_cases qx : A.1 = true
        · have hr2 := rPo_rd hat h2 qx
          obtain ⟨k1, k2, k3⟩ := h2.2.2.1 qx
          by_cases qc : A.2.1 < len ∧ b A.2.1 = 41
          · rw [if_pos ⟨qx, qc⟩] at hP
            have hp' := hP (iU (iU (iU I2 80 16 (jI 1)) 80 15 (jI ((A.2.1 : Int) + 1))) 80 17 (jI o)) v1 (rPo_ok (vAg_iU (vAg_iU (vAg_iU (vAg_tr ha1 h2.1) sc_Y6) sc_Y5) sc_Y7) (by rw [iU_same (by omega), iU_eq]; rfl) (by rw [iU_same (by omega), iU_same (by omega), iU_eq]) iU_eq k3)
            simp only [g166_102, g166_103, g166_104, g166_105, g166_107, g166_110, g166_113, g166_114, g166_115, g166_118, g166_119, g166_122, g166_125, g166_126, g166_129, g166_130, g166_131, g166_134, g166_135, g166_136, g166_139, g166_140, g166_141, g166_144, g166_145, nl_none, nl_int, nl_ref, Option.toList_some, Option.toList_none, List.cons_append, List.nil_append, mSetI_u, mSetL_u, Nat.add_one_ne_zero, Nat.add_eq_zero_iff, and_false, false_and, not_false_eq_true, ne_eq, j0_0, j0_1, j1_0, j1_1, if_true, if_false, ite_true, ite_false, true_and, and_true, or_true, true_or, false_or, or_false, ↓reduceIte, Nat.reduceEqDiff, Nat.reduceAdd, Nat.reduceMul, Nat.reduceSub, Int.reduceLE, Int.reduceLT, Int.reduceNeg, Int.reduceAdd, Int.reduceSub, Int.reduceEq, reduceCtorEq, jI_lt, jI_eq, jI_lt0, jI_0lt, jI_eq0, jI_0le, jn_lo, iU_row, iU_nr, iU_eq, iU_same, jI_ixn, jI_add, jI_sub, jI_nat, sh_80, r162 hF hl hb hr2 hx.2.1 (z := 41) (by omega) (by omega), qc, and_self, h15, k2, show o + 1 - 1 = o by omega, eq_self]
            exact hp'
          · rw [if_neg (fun w => qc w.2)] at hP
            have hp' := hP (iU (iU (iU I2 80 16 (jI 0)) 80 15 (jI (A.2.1 : Int))) 80 17 (jI o)) v1 (rPo_fail (vAg_iU (vAg_iU (vAg_iU (vAg_tr ha1 h2.1) sc_Y6) sc_Y5) sc_Y7) (by rw [iU_same (by omega), iU_eq]) (by rw [iU_same (by omega), iU_same (by omega), iU_eq]))
            simp only [g166_102, g166_103, g166_104, g166_105, g166_107, g166_110, g166_113, g166_114, g166_115, g166_118, g166_119, g166_122, g166_125, g166_126, g166_129, g166_130, g166_131, g166_134, g166_135, g166_136, g166_139, g166_140, g166_141, g166_144, g166_145, nl_none, nl_int, nl_ref, Option.toList_some, Option.toList_none, List.cons_append, List.nil_append, mSetI_u, mSetL_u, Nat.add_one_ne_zero, Nat.add_eq_zero_iff, and_false, false_and, not_false_eq_true, ne_eq, j0_0, j0_1, j1_0, j1_1, if_true, if_false, ite_true, ite_false, true_and, and_true, or_true, true_or, false_or, or_false, ↓reduceIte, Nat.reduceEqDiff, Nat.reduceAdd, Nat.reduceMul, Nat.reduceSub, Int.reduceLE, Int.reduceLT, Int.reduceNeg, Int.reduceAdd, Int.reduceSub, Int.reduceEq, reduceCtorEq, jI_lt, jI_eq, jI_lt0, jI_0lt, jI_eq0, jI_0le, jn_lo, iU_row, iU_nr, iU_eq, iU_same, jI_ixn, jI_add, jI_sub, jI_nat, sh_80, r162 hF hl hb hr2 hx.2.1 (z := 41) (by omega) (by omega), qc, h15, k2, show o + 1 - 1 = o by omega, Int.add_zero, eq_self]
            exact hp'
        · rw [if_neg (fun w => qx w.1)] at hP
          have k1 := h2.2.2.2 qx
          have hp' := hP (iU (iU (iU I2 80 16 (jI 0)) 80 15 (jI (A.2.1 : Int))) 80 17 (I2 80 17 - jI 1)) v1 (rPo_fail (vAg_iU (vAg_iU (vAg_iU (vAg_tr ha1 h2.1) sc_Y6) sc_Y5) sc_Y7) (by rw [iU_same (by omega), iU_eq]) (by rw [iU_same (by omega), iU_same (by omega), iU_eq]))
          simp only [g166_102, g166_103, g166_104, g166_105, g166_107, g166_110, g166_113, g166_114, g166_115, g166_118, g166_119, g166_122, g166_125, g166_126, g166_129, g166_130, g166_131, g166_134, g166_135, g166_136, g166_139, g166_140, g166_141, g166_144, g166_145, nl_none, nl_int, nl_ref, Option.toList_some, Option.toList_none, List.cons_append, List.nil_append, mSetI_u, mSetL_u, Nat.add_one_ne_zero, Nat.add_eq_zero_iff, and_false, false_and, not_false_eq_true, ne_eq, j0_0, j0_1, j1_0, j1_1, if_true, if_false, ite_true, ite_false, true_and, and_true, or_true, true_or, false_or, or_false, ↓reduceIte, Nat.reduceEqDiff, Nat.reduceAdd, Nat.reduceMul, Nat.reduceSub, Int.reduceLE, Int.reduceLT, Int.reduceNeg, Int.reduceAdd, Int.reduceSub, Int.reduceEq, reduceCtorEq, jI_lt, jI_eq, jI_lt0, jI_0lt, jI_eq0, jI_0le, jn_lo, iU_row, iU_nr, iU_eq, iU_same, jI_ixn, jI_add, jI_sub, jI_nat, sh_80, r162_0 k1, h15, Int.add_zero, eq_self]
          exact hp'
      · obtain ⟨q, rfl⟩ : ∃ q, Q = q + 3 := ⟨Q - 3, by omega⟩
        have e1 : lOp b len (r + 1) pos = lUn (b pos) (lOp b len r (pos + 1)) := by rw [lOp, if_pos h, if_pos ho, if_neg q40]
        rw [e1] at hP
        have fin : ∀ (I2 : Nat → Nat → Int32) (v3 : Int32), rPo en I1 (o + 1) (lOp b len r (pos + 1)) v3 I2 → ∀ v, v = (if b pos = 45 then -v3 else if v3 = 0 then jI 1 else jI 0) → P (some (.int v)) (mLay e) (iU I2 80 17 (I2 80 17 - jI 1), E, F) := by
          intro I2 v3 h2 v hv
          refine hP _ _ ?_
          unfold lUn
          by_cases qx : (lOp b len r (pos + 1)).1 = true
          · obtain ⟨k1, k2, k3⟩ := h2.2.2.1 qx
            rw [if_pos qx]
            refine rPo_ok (vAg_iU (vAg_tr ha1 h2.1) sc_Y7) (by rw [iU_same (by omega)]; exact h2.2.1) (by rw [iU_same (by omega)]; exact k1) ?_ ?_
            · rw [iU_eq, k2, jI_sub, show o + 1 - 1 = o by omega]
            · rw [hv, k3]
          · rw [if_neg qx]
            exact rPo_fail (vAg_iU (vAg_tr ha1 h2.1) sc_Y7) (by rw [iU_same (by omega)]; exact h2.2.1) (by rw [iU_same (by omega)]; exact h2.2.2.2 qx)
        rcases lOpn_iff.1 ho with w | w | w
        · exact absurd w q40
        · rw [w] at fin
          rw [g166_in]
          simp only [g166_0, g166_1, g166_2, g166_3, g166_6, g166_14, g166_15, g166_17, g166_20, g166_23, g166_24, g166_26, g166_29, g166_32, g166_33, g166_35, g166_38, g166_39, g166_40, g166_43, g166_46, g166_47, nl_none, nl_int, nl_ref, Option.toList_some, Option.toList_none, List.cons_append, List.nil_append, mSetI_u, mSetL_u, Nat.add_one_ne_zero, Nat.add_eq_zero_iff, and_false, false_and, not_false_eq_true, ne_eq, j0_0, j0_1, j1_0, j1_1, if_true, if_false, ite_true, ite_false, true_and, and_true, or_true, true_or, false_or, or_false, ↓reduceIte, Nat.reduceEqDiff, Nat.reduceAdd, Nat.reduceMul, Nat.reduceSub, Int.reduceLE, Int.reduceLT, Int.reduceNeg, Int.reduceAdd, Int.reduceSub, Int.reduceEq, reduceCtorEq, jI_lt, jI_eq, jI_lt0, jI_0lt, jI_eq0, jI_0le, jn_lo, iU_row, iU_nr, iU_eq, iU_same, jI_ixn, jI_add, jI_sub, jI_nat, sh_80, r163 hF hl hb hr hp, r162 hF hl hb hr hp (z := 33) (by omega) (by omega), r162 hF hl hb hr hp (z := 45) (by omega) (by omega), h, w, lD33, eq_self, and_self, r165_t hr ho0 ho6]
          rw [← hI1]
          refine ih (q + 2) (pos + 1) I1 _ (by omega) (by omega) hat (fun I2 v3 h2 => ?_)
          have hp' := fin I2 v3 h2
          rw [if_neg (show ¬ (33 : Int) = 45 by omega)] at hp'
          by_cases q0 : v3 = 0
          · rw [if_pos q0] at hp'
            simp only [g166_50, g166_51, g166_52, g166_55, g166_56, g166_59, g166_60, g166_63, g166_64, g166_67, g166_68, g166_69, g166_70, g166_71, g166_72, g166_75, g166_76, g166_77, g166_80, g166_81, nl_none, nl_int, nl_ref, Option.toList_some, Option.toList_none, List.cons_append, List.nil_append, mSetI_u, mSetL_u, Nat.add_one_ne_zero, Nat.add_eq_zero_iff, and_false, false_and, not_false_eq_true, ne_eq, j0_0, j0_1, j1_0, j1_1, if_true, if_false, ite_true, ite_false, true_and, and_true, or_true, true_or, false_or, or_false, ↓reduceIte, Nat.reduceEqDiff, Nat.reduceAdd, Nat.reduceMul, Nat.reduceSub, Int.reduceLE, Int.reduceLT, Int.reduceNeg, Int.reduceAdd, Int.reduceSub, Int.reduceEq, reduceCtorEq, jI_lt, jI_eq, jI_lt0, jI_0lt, jI_eq0, jI_0le, jn_lo, iU_row, iU_nr, iU_eq, iU_same, jI_ixn, jI_add, jI_sub, jI_nat, sh_80, q0]
            exact hp' _ rfl
          · rw [if_neg q0] at hp'
            simp only [g166_50, g166_51, g166_52, g166_55, g166_56, g166_59, g166_60, g166_63, g166_64, g166_67, g166_68, g166_69, g166_70, g166_71, g166_72, g166_75, g166_76, g166_77, g166_80, g166_81, nl_none, nl_int, nl_ref, Option.toList_some, Option.toList_none, List.cons_append, List.nil_append, mSetI_u, mSetL_u, Nat.add_one_ne_zero, Nat.add_eq_zero_iff, and_false, false_and, not_false_eq_true, ne_eq, j0_0, j0_1, j1_0, j1_1, if_true, if_false, ite_true, ite_false, true_and, and_true, or_true, true_or, false_or, or_false, ↓reduceIte, Nat.reduceEqDiff, Nat.reduceAdd, Nat.reduceMul, Nat.reduceSub, Int.reduceLE, Int.reduceLT, Int.reduceNeg, Int.reduceAdd, Int.reduceSub, Int.reduceEq, reduceCtorEq, jI_lt, jI_eq, jI_lt0, jI_0lt, jI_eq0, jI_0le, jn_lo, iU_row, iU_nr, iU_eq, iU_same, jI_ixn, jI_add, jI_sub, jI_nat, sh_80, q0]
            exact hp' _ rfl
        · rw [w] at fin
          rw [g166_in]
          simp only [g166_0, g166_1, g166_2, g166_3, g166_6, g166_14, g166_15, g166_17, g166_20, g166_23, g166_24, g166_26, g166_29, g166_32, g166_33, g166_35, g166_38, g166_39, g166_40, g166_43, g166_46, g166_47, nl_none, nl_int, nl_ref, Option.toList_some, Option.toList_none, List.cons_append, List.nil_append, mSetI_u, mSetL_u, Nat.add_one_ne_zero, Nat.add_eq_zero_iff, and_false, false_and, not_false_eq_true, ne_eq, j0_0, j0_1, j1_0, j1_1, if_true, if_false, ite_true, ite_false, true_and, and_true, or_true, true_or, false_or, or_false, ↓reduceIte, Nat.reduceEqDiff, Nat.reduceAdd, Nat.reduceMul, Nat.reduceSub, Int.reduceLE, Int.reduceLT, Int.reduceNeg, Int.reduceAdd, Int.reduceSub, Int.reduceEq, reduceCtorEq, jI_lt, jI_eq, jI_lt0, jI_0lt, jI_eq0, jI_0le, jn_lo, iU_row, iU_nr, iU_eq, iU_same, jI_ixn, jI_add, jI_sub, jI_nat, sh_80, r163 hF hl hb hr hp, r162 hF hl hb hr hp (z := 33) (by omega) (by omega), r162 hF hl hb hr hp (z := 45) (by omega) (by omega), h, w, lD45, eq_self, and_self, r165_t hr ho0 ho6]
          rw [← hI1]
          refine ih (q + 2) (pos + 1) I1 _ (by omega) (by omega) hat (fun I2 v3 h2 => ?_)
          have hp' := fin I2 v3 h2
          rw [if_pos rfl] at hp'
          simp only [g166_50, g166_51, g166_52, g166_55, g166_56, g166_59, g166_60, g166_63, g166_64, g166_67, g166_68, g166_69, g166_70, g166_71, g166_72, g166_75, g166_76, g166_77, g166_80, g166_81, nl_none, nl_int, nl_ref, Option.toList_some, Option.toList_none, List.cons_append, List.nil_append, mSetI_u, mSetL_u, Nat.add_one_ne_zero, Nat.add_eq_zero_iff, and_false, false_and, not_false_eq_true, ne_eq, j0_0, j0_1, j1_0, j1_1, if_true, if_false, ite_true, ite_false, true_and, and_true, or_true, true_or, false_or, or_false, ↓reduceIte, Nat.reduceEqDiff, Nat.reduceAdd, Nat.reduceMul, Nat.reduceSub, Int.reduceLE, Int.reduceLT, Int.reduceNeg, Int.reduceAdd, Int.reduceSub, Int.reduceEq, reduceCtorEq, jI_lt, jI_eq, jI_lt0, jI_0lt, jI_eq0, jI_0le, jn_lo, iU_row, iU_nr, iU_eq, iU_same, jI_ixn, jI_add, jI_sub, jI_nat, sh_80]
          exact hp' _ rfl
    · have e1 : lOp b len (r + 1) pos = lBase b len pos := by rw [lOp, if_pos h, if_neg ho]
      rw [e1] at hP
      obtain ⟨q, rfl⟩ : ∃ q, Q = q + 3 := ⟨Q - 3, by omega⟩
      exact r166_b hF hl hb h hr ho hP
  · have e1 : lOp b len (r + 1) pos = lFail pos := by rw [lOp, if_neg h]
    rw [e1] at hP
    obtain ⟨q, rfl⟩ : ∃ q, Q = q + 3 := ⟨Q - 3, by omega⟩
    exact r166_e hF hl hb hp h hr hP
end RFL
