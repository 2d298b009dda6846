/-! ===== fits: the class's two loops ===== -/
section FIT
variable {d n : Nat} {e : List mShp} {I : Nat → Nat → Int32} {E : Nat → Nat → Int64} {F : Nat → Nat → Nat} {P : mPost} {T : Nat → Nat → Int} {lw : vLw} {st nx gf rl dr : Nat} {y : Nat → Int}
/-- the row fits with gift m; with care for v -/
def pFg (lw : vLw) (n : Nat) (T : Nat → Nat → Int) (y : Nat → Int) (one told k : Nat) (m : Nat) : Bool := pFw lw n (pSet T 1 told m) y one k 0 == -2
def pFc (lw : vLw) (n : Nat) (T : Nat → Nat → Int) (y : Nat → Int) (one told k : Nat) (v : Int) : Bool := pFw lw n (pSet T 4 told v) y one k 0 == -2
theorem pFw_in (lw : vLw) (n : Nat) (T : Nat → Nat → Int) (y : Nat → Int) (one : Nat) : ∀ k i, i + k ≤ 100 → -2 ≤ pFw lw n T y one k i ∧ pFw lw n T y one k i ≤ 100
  | 0, i, _ => by simp only [pFw]; omega
  | k + 1, i, h => by
    have ih := pFw_in lw n T y one k (i + 1) (by omega)
    simp only [pFw]
    split
    · exact ih
    · omega
theorem c140_a (hF : mFx F st nx gf rl dr) (hrl : rl = 70 ∨ rl = 75) (hok : vTownOk n T) (hc : vTc n T 4 I) (hlw : vLawC lw (I (rl + 1)) (I (rl + 2)) (I rl 2)) {s one told zz : Nat} (hs : s < 6) (hone : one < n) (htold : told < n) (hzz : zz ≤ 60) (hz : I 58 s = jI zz) (hy : ∀ i, i < 60 → -128 ≤ y i ∧ y i ≤ 127 ∧ E 59 (60 * s + i) = Int64.ofInt (y i)) (hP : ∀ I', vAg (vScH rl) I I' → P (some (.int (pBf (pFg lw n T y one told (min zz 41)) 10))) (mLay e) (I', E, F)) : ∀ (k i : Nat) (z : Int) I', i + k = 10 → z = i → vAg (vScH rl) I I' → mG (d + 8) 140 6 [some (.ref 3), some (.int (jI s)), some (.int (jI one)), some (.int (jI told)), some (.int (pBf (pFg lw n T y one told (min zz 41)) i)), some (.int (jI z))] [] (mLay e) (I', E, F) P
  | 0, i, z, I', hi, hz', ha => by
    subst hz'
    have e : i = 10 := by omega
    subst e
    rw [g140_6]
    simp only [g140_8, g140_10, g140_13, g140_14, g140_17, g140_18, g140_21, g140_24, g140_25, g140_28, g140_29, g140_30, g140_32, g140_35, g140_36, g140_37, g140_38, g140_41, g140_43, g140_46, g140_48, g140_49, g140_51, g140_52, g140_53, g140_55, g140_58, g140_61, g140_63, nl_none, nl_int, nl_ref, Option.toList_some, Option.toList_none, List.cons_append, List.nil_append, mSetI_u, mSetL_u, Nat.add_one_ne_zero, Nat.add_eq_zero_iff, and_false, false_and, not_false_eq_true, ne_eq, j0_0, j0_1, j1_0, j1_1, if_true, if_false, ite_true, ite_false, true_and, and_true, or_true, true_or, false_or, or_false, ↓reduceIte, Nat.reduceEqDiff, Nat.reduceAdd, Nat.reduceMul, Nat.reduceSub, Int.reduceLE, Int.reduceLT, Int.reduceNeg, Int.reduceAdd, Int.reduceSub, Int.reduceEq, reduceCtorEq, jI_lt, jI_eq, jI_lt0, jI_0lt, jI_eq0, jI_0le, jn_lo, iU_row, iU_nr, iU_eq, iU_same, jI_ixn, jI_add, jI_sub, jI_nat, show (9 : Int) < ((10 : Nat) : Int) by omega, show ((10 : Nat) : Int) = 10 from rfl]
    exact hP I' ha
  | k + 1, i, z, I', hi, hz', ha => by
    have ih := c140_a hF hrl hok hc hlw hs hone htold hzz hz hy hP k (i + 1)
    have hn := hok.1
    have hc' : vTc n T 4 I' := vTc_ag ha (fun r j q => by unfold vScH at q; omega) hc
    have hh : pHas n (told : Int) 1 := .inr ⟨by omega, by omega, by omega, by omega⟩
    have hm : pMay n (told : Int) 1 (i : Int) := .inr (.inl ⟨rfl, by omega, by omega⟩)
    have hok2 : vTownOk n (pSet T 1 told i) := pSet_ok hok hh hm
    have hfw := pFw_in lw n (pSet T 1 told i) y one (min zz 41) 0 (by omega)
    subst hz'
    rw [g140_6]
    simp only [g140_8, g140_10, g140_13, g140_14, g140_17, g140_18, g140_21, nl_none, nl_int, nl_ref, Option.toList_some, Option.toList_none, List.cons_append, List.nil_append, mSetI_u, mSetL_u, Nat.add_one_ne_zero, Nat.add_eq_zero_iff, and_false, false_and, not_false_eq_true, ne_eq, j0_0, j0_1, j1_0, j1_1, if_true, if_false, ite_true, ite_false, true_and, and_true, or_true, true_or, false_or, or_false, ↓reduceIte, Nat.reduceEqDiff, Nat.reduceAdd, Nat.reduceMul, Nat.reduceSub, Int.reduceLE, Int.reduceLT, Int.reduceNeg, Int.reduceAdd, Int.reduceSub, Int.reduceEq, reduceCtorEq, jI_lt, jI_eq, jI_lt0, jI_0lt, jI_eq0, jI_0le, jn_lo, iU_row, iU_nr, iU_eq, iU_same, jI_ixn, jI_add, jI_sub, jI_nat, sh_3, sh_12, f_3_0 hF, f_3_1 hF, show ((i : Nat) : Int) ≤ 2147483647 by omega, show (i : Nat) ≤ 2147483647 by omega, show ¬ ((9 : Int) < (i : Int)) by omega]
    refine c66_12 hF hn hc' (fun I1 h1 hc1 => ?_)
    simp only [g140_24, g140_25, g140_28, g140_29, g140_30, g140_32, nl_none, nl_int, nl_ref, Option.toList_some, Option.toList_none, List.cons_append, List.nil_append, mSetI_u, mSetL_u, Nat.add_one_ne_zero, Nat.add_eq_zero_iff, and_false, false_and, not_false_eq_true, ne_eq, j0_0, j0_1, j1_0, j1_1, if_true, if_false, ite_true, ite_false, true_and, and_true, or_true, true_or, false_or, or_false, ↓reduceIte, Nat.reduceEqDiff, Nat.reduceAdd, Nat.reduceMul, Nat.reduceSub, Int.reduceLE, Int.reduceLT, Int.reduceNeg, Int.reduceAdd, Int.reduceSub, Int.reduceEq, reduceCtorEq, jI_lt, jI_eq, jI_lt0, jI_0lt, jI_eq0, jI_0le, jn_lo, iU_row, iU_nr, iU_eq, iU_same, jI_ixn, jI_add, jI_sub, jI_nat, sh_3, sh_12, f_3_1 hF]
    refine c71 (vTw_12 hF) hok hh hm hc1 (fun I2 h2 hc2 => ?_)
    have hc2 : vTc n (pSet T 1 told i) 12 I2 := hc2
    have ha2 : vAg (vScH rl) I I2 := vAg_tr (vAg_tr ha (vAg_mono h1 (fun r j q => .inl ⟨q.1, by omega⟩))) (vAg_mono h2 (fun r j q => by unfold vScN at q; exact .inl (by omega)))
    simp only [g140_35, g140_36, g140_37, g140_38, nl_none, nl_int, nl_ref, Option.toList_some, Option.toList_none, List.cons_append, List.nil_append, mSetI_u, mSetL_u, Nat.add_one_ne_zero, Nat.add_eq_zero_iff, and_false, false_and, not_false_eq_true, ne_eq, j0_0, j0_1, j1_0, j1_1, if_true, if_false, ite_true, ite_false, true_and, and_true, or_true, true_or, false_or, or_false, ↓reduceIte, Nat.reduceEqDiff, Nat.reduceAdd, Nat.reduceMul, Nat.reduceSub, Int.reduceLE, Int.reduceLT, Int.reduceNeg, Int.reduceAdd, Int.reduceSub, Int.reduceEq, reduceCtorEq, jI_lt, jI_eq, jI_lt0, jI_0lt, jI_eq0, jI_0le, jn_lo, iU_row, iU_nr, iU_eq, iU_same, jI_ixn, jI_add, jI_sub, jI_nat, sh_3]
    refine c139 hF hrl hok2 (vLw_ag ha2 (fun r j q => by unfold vScH at q; omega) hlw) hs hone hzz ((ha2 58 s (by unfold vScH; omega)).trans hz) hy hc2 (fun I3 h3 => ?_)
    have ih' := ih ((i : Int) + 1) I3 (by omega) (by omega) (vAg_tr ha2 h3)
    by_cases q : pFw lw n (pSet T 1 told i) y one (min zz 41) 0 = -2
    · rw [pBf, if_pos (show pFg lw n T y one told (min zz 41) i = true by unfold pFg; rw [q]; rfl)] at ih'
      simp only [g140_41, g140_43, g140_46, g140_48, g140_49, g140_51, g140_52, g140_53, g140_55, g140_58, nl_none, nl_int, nl_ref, Option.toList_some, Option.toList_none, List.cons_append, List.nil_append, mSetI_u, mSetL_u, Nat.add_one_ne_zero, Nat.add_eq_zero_iff, and_false, false_and, not_false_eq_true, ne_eq, j0_0, j0_1, j1_0, j1_1, if_true, if_false, ite_true, ite_false, true_and, and_true, or_true, true_or, false_or, or_false, ↓reduceIte, Nat.reduceEqDiff, Nat.reduceAdd, Nat.reduceMul, Nat.reduceSub, Int.reduceLE, Int.reduceLT, Int.reduceNeg, Int.reduceAdd, Int.reduceSub, Int.reduceEq, reduceCtorEq, jI_lt, jI_eq, jI_lt0, jI_0lt, jI_eq0, jI_0le, jn_lo, iU_row, iU_nr, iU_eq, iU_same, jI_ixn, jI_add, jI_sub, jI_nat, q, eq_self]
      exact ih'
    · rw [pBf, if_neg (show ¬ pFg lw n T y one told (min zz 41) i = true by unfold pFg; rw [beq_iff_eq]; exact q)] at ih'
      simp only [g140_41, g140_43, g140_46, g140_48, g140_49, g140_51, g140_52, g140_53, g140_55, g140_58, nl_none, nl_int, nl_ref, Option.toList_some, Option.toList_none, List.cons_append, List.nil_append, mSetI_u, mSetL_u, Nat.add_one_ne_zero, Nat.add_eq_zero_iff, and_false, false_and, not_false_eq_true, ne_eq, j0_0, j0_1, j1_0, j1_1, if_true, if_false, ite_true, ite_false, true_and, and_true, or_true, true_or, false_or, or_false, ↓reduceIte, Nat.reduceEqDiff, Nat.reduceAdd, Nat.reduceMul, Nat.reduceSub, Int.reduceLE, Int.reduceLT, Int.reduceNeg, Int.reduceAdd, Int.reduceSub, Int.reduceEq, reduceCtorEq, jI_lt, jI_eq, jI_lt0, jI_0lt, jI_eq0, jI_0le, jn_lo, iU_row, iU_nr, iU_eq, iU_same, jI_ixn, jI_add, jI_sub, jI_nat, hfw, show -2147483648 ≤ (pFw lw n (pSet T 1 told i) y one (min zz 41) 0 : Int) by omega, show (pFw lw n (pSet T 1 told i) y one (min zz 41) 0 : Int) ≤ 2147483647 by omega, q]
      exact ih'
/-- whom it may be, as bits -/
def pCf (f : Int → Bool) (told : Nat) : Nat → Int32
  | 0 => if f (-1) = true then jI 0 ||| jI 256 else jI 0
  | m + 1 => if ¬ m = told ∧ f m = true then pCf f told m ||| (jI 1 <<< (jI m &&& 31)) else pCf f told m
theorem c141_s (hF : mFx F st nx gf rl dr) (hrl : rl = 70 ∨ rl = 75) (hok : vTownOk n T) (hc : vTc n T 4 I) (hlw : vLawC lw (I (rl + 1)) (I (rl + 2)) (I rl 2)) {s one told zz : Nat} (hs : s < 6) (hone : one < n) (htold : told < n) (hzz : zz ≤ 60) (hz : I 58 s = jI zz) (hy : ∀ i, i < 60 → -128 ≤ y i ∧ y i ≤ 127 ∧ E 59 (60 * s + i) = Int64.ofInt (y i)) {v : Int} (hv : v = -1 ∨ (0 ≤ v ∧ v < n ∧ ¬ v = told)) {x : Int32} (hP : ∀ I', vAg (vScH rl) I I' → mG (d + 8) 141 81 [some (.ref 3), some (.int (jI s)), some (.int (jI one)), some (.int (jI told)), some (.int (if pFc lw n T y one told (min zz 41) v = true then x ||| (if v = -1 then jI 256 else (jI 1 <<< (jI v &&& 31))) else x)), some (.int (jI v))] [] (mLay e) (I', E, F) P) : mG (d + 8) 141 27 [some (.ref 3), some (.int (jI s)), some (.int (jI one)), some (.int (jI told)), some (.int x), some (.int (jI v))] [] (mLay e) (I, E, F) P := by
  have hn := hok.1
  have hh : pHas n (told : Int) 4 := .inr ⟨by omega, by omega, by omega, by omega⟩
  have hm : pMay n (told : Int) 4 v := .inr (.inr (.inr (.inr (.inl ⟨rfl, hv⟩))))
  have hok2 : vTownOk n (pSet T 4 told v) := pSet_ok hok hh hm
  have hfw := pFw_in lw n (pSet T 4 told v) y one (min zz 41) 0 (by omega)
  simp only [g141_27, g141_28, g141_31, g141_32, g141_35, nl_none, nl_int, nl_ref, Option.toList_some, Option.toList_none, List.cons_append, List.nil_append, mSetI_u, mSetL_u, Nat.add_one_ne_zero, Nat.add_eq_zero_iff, and_false, false_and, not_false_eq_true, ne_eq, j0_0, j0_1, j1_0, j1_1, if_true, if_false, ite_true, ite_false, true_and, and_true, or_true, true_or, false_or, or_false, ↓reduceIte, Nat.reduceEqDiff, Nat.reduceAdd, Nat.reduceMul, Nat.reduceSub, Int.reduceLE, Int.reduceLT, Int.reduceNeg, Int.reduceAdd, Int.reduceSub, Int.reduceEq, reduceCtorEq, jI_lt, jI_eq, jI_lt0, jI_0lt, jI_eq0, jI_0le, jn_lo, iU_row, iU_nr, iU_eq, iU_same, jI_ixn, jI_add, jI_sub, jI_nat, sh_3, sh_12, f_3_0 hF, f_3_1 hF]
  refine c66_12 hF hn hc (fun I1 h1 hc1 => ?_)
  simp only [g141_38, g141_39, g141_42, g141_43, g141_44, g141_46, nl_none, nl_int, nl_ref, Option.toList_some, Option.toList_none, List.cons_append, List.nil_append, mSetI_u, mSetL_u, Nat.add_one_ne_zero, Nat.add_eq_zero_iff, and_false, false_and, not_false_eq_true, ne_eq, j0_0, j0_1, j1_0, j1_1, if_true, if_false, ite_true, ite_false, true_and, and_true, or_true, true_or, false_or, or_false, ↓reduceIte, Nat.reduceEqDiff, Nat.reduceAdd, Nat.reduceMul, Nat.reduceSub, Int.reduceLE, Int.reduceLT, Int.reduceNeg, Int.reduceAdd, Int.reduceSub, Int.reduceEq, reduceCtorEq, jI_lt, jI_eq, jI_lt0, jI_0lt, jI_eq0, jI_0le, jn_lo, iU_row, iU_nr, iU_eq, iU_same, jI_ixn, jI_add, jI_sub, jI_nat, sh_3, sh_12, f_3_1 hF]
  refine c71 (vTw_12 hF) hok hh hm hc1 (fun I2 h2 hc2 => ?_)
  have hc2 : vTc n (pSet T 4 told v) 12 I2 := hc2
  have ha2 : vAg (vScH rl) I I2 := vAg_tr (vAg_mono h1 (fun r j q => .inl ⟨q.1, by omega⟩)) (vAg_mono h2 (fun r j q => by unfold vScN at q; exact .inl (by omega)))
  simp only [g141_49, g141_50, g141_51, g141_52, nl_none, nl_int, nl_ref, Option.toList_some, Option.toList_none, List.cons_append, List.nil_append, mSetI_u, mSetL_u, Nat.add_one_ne_zero, Nat.add_eq_zero_iff, and_false, false_and, not_false_eq_true, ne_eq, j0_0, j0_1, j1_0, j1_1, if_true, if_false, ite_true, ite_false, true_and, and_true, or_true, true_or, false_or, or_false, ↓reduceIte, Nat.reduceEqDiff, Nat.reduceAdd, Nat.reduceMul, Nat.reduceSub, Int.reduceLE, Int.reduceLT, Int.reduceNeg, Int.reduceAdd, Int.reduceSub, Int.reduceEq, reduceCtorEq, jI_lt, jI_eq, jI_lt0, jI_0lt, jI_eq0, jI_0le, jn_lo, iU_row, iU_nr, iU_eq, iU_same, jI_ixn, jI_add, jI_sub, jI_nat, sh_3]
  refine c139 hF hrl hok2 (vLw_ag ha2 (fun r j q => by unfold vScH at q; omega) hlw) hs hone hzz ((ha2 58 s (by unfold vScH; omega)).trans hz) hy hc2 (fun I3 h3 => ?_)
  have hp := hP I3 (vAg_tr ha2 h3)
  by_cases q : pFw lw n (pSet T 4 told v) y one (min zz 41) 0 = -2
  · rw [if_pos (show pFc lw n T y one told (min zz 41) v = true by unfold pFc; rw [q]; rfl)] at hp
    by_cases qv : v = -1
    · rw [if_pos qv] at hp
      subst qv
      simp only [g141_55, g141_57, g141_60, g141_62, g141_64, g141_65, g141_68, g141_71, g141_74, g141_75, g141_77, g141_78, g141_79, nl_none, nl_int, nl_ref, Option.toList_some, Option.toList_none, List.cons_append, List.nil_append, mSetI_u, mSetL_u, Nat.add_one_ne_zero, Nat.add_eq_zero_iff, and_false, false_and, not_false_eq_true, ne_eq, j0_0, j0_1, j1_0, j1_1, if_true, if_false, ite_true, ite_false, true_and, and_true, or_true, true_or, false_or, or_false, ↓reduceIte, Nat.reduceEqDiff, Nat.reduceAdd, Nat.reduceMul, Nat.reduceSub, Int.reduceLE, Int.reduceLT, Int.reduceNeg, Int.reduceAdd, Int.reduceSub, Int.reduceEq, reduceCtorEq, jI_lt, jI_eq, jI_lt0, jI_0lt, jI_eq0, jI_0le, jn_lo, iU_row, iU_nr, iU_eq, iU_same, jI_ixn, jI_add, jI_sub, jI_nat, q, eq_self]
      exact hp
    · rw [if_neg qv] at hp
      simp only [g141_55, g141_57, g141_60, g141_62, g141_64, g141_65, g141_68, g141_71, g141_74, g141_75, g141_77, g141_78, g141_79, nl_none, nl_int, nl_ref, Option.toList_some, Option.toList_none, List.cons_append, List.nil_append, mSetI_u, mSetL_u, Nat.add_one_ne_zero, Nat.add_eq_zero_iff, and_false, false_and, not_false_eq_true, ne_eq, j0_0, j0_1, j1_0, j1_1, if_true, if_false, ite_true, ite_false, true_and, and_true, or_true, true_or, false_or, or_false, ↓reduceIte, Nat.reduceEqDiff, Nat.reduceAdd, Nat.reduceMul, Nat.reduceSub, Int.reduceLE, Int.reduceLT, Int.reduceNeg, Int.reduceAdd, Int.reduceSub, Int.reduceEq, reduceCtorEq, jI_lt, jI_eq, jI_lt0, jI_0lt, jI_eq0, jI_0le, jn_lo, iU_row, iU_nr, iU_eq, iU_same, jI_ixn, jI_add, jI_sub, jI_nat, q, eq_self, show -2147483648 ≤ (v : Int) by omega, show (v : Int) ≤ 2147483647 by omega, qv]
      exact hp
  · rw [if_neg (show ¬ pFc lw n T y one told (min zz 41) v = true by unfold pFc; rw [beq_iff_eq]; exact q)] at hp
    simp only [g141_55, g141_57, g141_60, g141_62, g141_64, g141_65, g141_68, g141_71, g141_74, g141_75, g141_77, g141_78, g141_79, nl_none, nl_int, nl_ref, Option.toList_some, Option.toList_none, List.cons_append, List.nil_append, mSetI_u, mSetL_u, Nat.add_one_ne_zero, Nat.add_eq_zero_iff, and_false, false_and, not_false_eq_true, ne_eq, j0_0, j0_1, j1_0, j1_1, if_true, if_false, ite_true, ite_false, true_and, and_true, or_true, true_or, false_or, or_false, ↓reduceIte, Nat.reduceEqDiff, Nat.reduceAdd, Nat.reduceMul, Nat.reduceSub, Int.reduceLE, Int.reduceLT, Int.reduceNeg, Int.reduceAdd, Int.reduceSub, Int.reduceEq, reduceCtorEq, jI_lt, jI_eq, jI_lt0, jI_0lt, jI_eq0, jI_0le, jn_lo, iU_row, iU_nr, iU_eq, iU_same, jI_ixn, jI_add, jI_sub, jI_nat, hfw, show -2147483648 ≤ (pFw lw n (pSet T 4 told v) y one (min zz 41) 0 : Int) by omega, show (pFw lw n (pSet T 4 told v) y one (min zz 41) 0 : Int) ≤ 2147483647 by omega, q]
    exact hp
theorem c141_a (hF : mFx F st nx gf rl dr) (hrl : rl = 70 ∨ rl = 75) (hok : vTownOk n T) (hc : vTc n T 4 I) (hlw : vLawC lw (I (rl + 1)) (I (rl + 2)) (I rl 2)) {s one told zz : Nat} (hs : s < 6) (hone : one < n) (htold : told < n) (hzz : zz ≤ 60) (hz : I 58 s = jI zz) (hy : ∀ i, i < 60 → -128 ≤ y i ∧ y i ≤ 127 ∧ E 59 (60 * s + i) = Int64.ofInt (y i)) (hP : ∀ I', vAg (vScH rl) I I' → P (some (.int (pCf (pFc lw n T y one told (min zz 41)) told n))) (mLay e) (I', E, F)) : ∀ (k i : Nat) (z : Int) I', i + k = n → z = i → vAg (vScH rl) I I' → mG (d + 8) 141 6 [some (.ref 3), some (.int (jI s)), some (.int (jI one)), some (.int (jI told)), some (.int (pCf (pFc lw n T y one told (min zz 41)) told i)), some (.int (jI z))] [] (mLay e) (I', E, F) P
  | 0, i, z, I', hi, hz', ha => by
    have hn := hok.1
    have hc' : vTc n T 4 I' := vTc_ag ha (fun r j q => by unfold vScH at q; omega) hc
    subst hz'
    have e : i = n := by omega
    subst e
    rw [g141_6]
    simp only [g141_8, g141_9, g141_12, g141_15, g141_18, g141_20, g141_21, g141_24, g141_87, g141_89, nl_none, nl_int, nl_ref, Option.toList_some, Option.toList_none, List.cons_append, List.nil_append, mSetI_u, mSetL_u, Nat.add_one_ne_zero, Nat.add_eq_zero_iff, and_false, false_and, not_false_eq_true, ne_eq, j0_0, j0_1, j1_0, j1_1, if_true, if_false, ite_true, ite_false, true_and, and_true, or_true, true_or, false_or, or_false, ↓reduceIte, Nat.reduceEqDiff, Nat.reduceAdd, Nat.reduceMul, Nat.reduceSub, Int.reduceLE, Int.reduceLT, Int.reduceNeg, Int.reduceAdd, Int.reduceSub, Int.reduceEq, reduceCtorEq, jI_lt, jI_eq, jI_lt0, jI_0lt, jI_eq0, jI_0le, jn_lo, iU_row, iU_nr, iU_eq, iU_same, jI_ixn, jI_add, jI_sub, jI_nat, sh_3, sh_4, f_3_0 hF, hc'.2.1, show ((i : Nat) : Int) ≤ 2147483647 by omega, show (i : Nat) ≤ 2147483647 by omega, show ¬ ((i : Int) < (i : Int)) by omega]
    exact hP I' ha
  | k + 1, i, z, I', hi, hz', ha => by
    have ih := c141_a hF hrl hok hc hlw hs hone htold hzz hz hy hP k (i + 1)
    have hn := hok.1
    have hc' : vTc n T 4 I' := vTc_ag ha (fun r j q => by unfold vScH at q; omega) hc
    subst hz'
    rw [g141_6]
    by_cases q : i = told
    · subst q
      have ih' := ih ((i : Int) + 1) I' (by omega) (by omega) ha
      rw [pCf, if_neg (by simp)] at ih'
      simp only [g141_8, g141_9, g141_12, g141_15, g141_18, g141_20, g141_21, g141_24, g141_81, g141_84, nl_none, nl_int, nl_ref, Option.toList_some, Option.toList_none, List.cons_append, List.nil_append, mSetI_u, mSetL_u, Nat.add_one_ne_zero, Nat.add_eq_zero_iff, and_false, false_and, not_false_eq_true, ne_eq, j0_0, j0_1, j1_0, j1_1, if_true, if_false, ite_true, ite_false, true_and, and_true, or_true, true_or, false_or, or_false, ↓reduceIte, Nat.reduceEqDiff, Nat.reduceAdd, Nat.reduceMul, Nat.reduceSub, Int.reduceLE, Int.reduceLT, Int.reduceNeg, Int.reduceAdd, Int.reduceSub, Int.reduceEq, reduceCtorEq, jI_lt, jI_eq, jI_lt0, jI_0lt, jI_eq0, jI_0le, jn_lo, iU_row, iU_nr, iU_eq, iU_same, jI_ixn, jI_add, jI_sub, jI_nat, sh_3, sh_4, f_3_0 hF, hc'.2.1, show ((i : Nat) : Int) ≤ 2147483647 by omega, show (i : Nat) ≤ 2147483647 by omega, show ((n : Nat) : Int) ≤ 2147483647 by omega, show (n : Nat) ≤ 2147483647 by omega, show (i : Int) < (n : Int) by omega, eq_self]
      exact ih'
    · simp only [g141_8, g141_9, g141_12, g141_15, g141_18, g141_20, g141_21, g141_24, nl_none, nl_int, nl_ref, Option.toList_some, Option.toList_none, List.cons_append, List.nil_append, mSetI_u, mSetL_u, Nat.add_one_ne_zero, Nat.add_eq_zero_iff, and_false, false_and, not_false_eq_true, ne_eq, j0_0, j0_1, j1_0, j1_1, if_true, if_false, ite_true, ite_false, true_and, and_true, or_true, true_or, false_or, or_false, ↓reduceIte, Nat.reduceEqDiff, Nat.reduceAdd, Nat.reduceMul, Nat.reduceSub, Int.reduceLE, Int.reduceLT, Int.reduceNeg, Int.reduceAdd, Int.reduceSub, Int.reduceEq, reduceCtorEq, jI_lt, jI_eq, jI_lt0, jI_0lt, jI_eq0, jI_0le, jn_lo, iU_row, iU_nr, iU_eq, iU_same, jI_ixn, jI_add, jI_sub, jI_nat, sh_3, sh_4, f_3_0 hF, hc'.2.1, show ((i : Nat) : Int) ≤ 2147483647 by omega, show (i : Nat) ≤ 2147483647 by omega, show ((n : Nat) : Int) ≤ 2147483647 by omega, show (n : Nat) ≤ 2147483647 by omega, show ((told : Nat) : Int) ≤ 2147483647 by omega, show (told : Nat) ≤ 2147483647 by omega, show (i : Int) < (n : Int) by omega, show ¬ ((i : Int) = (told : Int)) by omega]
      refine c141_s hF hrl hok hc' (vLw_ag ha (fun r j q => by unfold vScH at q; omega) hlw) hs hone htold hzz ((ha 58 s (by unfold vScH; omega)).trans hz) hy (.inr ⟨by omega, by omega, by omega⟩) (fun I2 h2 => ?_)
      have ih' := ih ((i : Int) + 1) I2 (by omega) (by omega) (vAg_tr ha h2)
      rw [if_neg (show ¬ (i : Int) = -1 by omega)]
      by_cases q2 : pFc lw n T y one told (min zz 41) i = true
      · rw [pCf, if_pos ⟨q, q2⟩] at ih'
        rw [if_pos q2]
        simp only [g141_81, g141_84, nl_none, nl_int, nl_ref, Option.toList_some, Option.toList_none, List.cons_append, List.nil_append, mSetI_u, mSetL_u, Nat.add_one_ne_zero, Nat.add_eq_zero_iff, and_false, false_and, not_false_eq_true, ne_eq, j0_0, j0_1, j1_0, j1_1, if_true, if_false, ite_true, ite_false, true_and, and_true, or_true, true_or, false_or, or_false, ↓reduceIte, Nat.reduceEqDiff, Nat.reduceAdd, Nat.reduceMul, Nat.reduceSub, Int.reduceLE, Int.reduceLT, Int.reduceNeg, Int.reduceAdd, Int.reduceSub, Int.reduceEq, reduceCtorEq, jI_lt, jI_eq, jI_lt0, jI_0lt, jI_eq0, jI_0le, jn_lo, iU_row, iU_nr, iU_eq, iU_same, jI_ixn, jI_add, jI_sub, jI_nat]
        exact ih'
      · rw [pCf, if_neg (fun w => q2 w.2)] at ih'
        rw [if_neg q2]
        simp only [g141_81, g141_84, nl_none, nl_int, nl_ref, Option.toList_some, Option.toList_none, List.cons_append, List.nil_append, mSetI_u, mSetL_u, Nat.add_one_ne_zero, Nat.add_eq_zero_iff, and_false, false_and, not_false_eq_true, ne_eq, j0_0, j0_1, j1_0, j1_1, if_true, if_false, ite_true, ite_false, true_and, and_true, or_true, true_or, false_or, or_false, ↓reduceIte, Nat.reduceEqDiff, Nat.reduceAdd, Nat.reduceMul, Nat.reduceSub, Int.reduceLE, Int.reduceLT, Int.reduceNeg, Int.reduceAdd, Int.reduceSub, Int.reduceEq, reduceCtorEq, jI_lt, jI_eq, jI_lt0, jI_0lt, jI_eq0, jI_0le, jn_lo, iU_row, iU_nr, iU_eq, iU_same, jI_ixn, jI_add, jI_sub, jI_nat]
        exact ih'
end FIT
