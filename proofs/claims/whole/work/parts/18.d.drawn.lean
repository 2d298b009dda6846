/-! ===== drawn ===== -/
def pU8 (z : Int32) : Nat := (z.toUInt32 >>> ((Int32.ofInt 8).toUInt32 &&& Int32.toUInt32 31)).toNat
def pU16 (z : Int32) : Nat := (z.toUInt32 >>> ((Int32.ofInt 16).toUInt32 &&& Int32.toUInt32 31)).toNat
theorem u32_i (x : UInt32) : x.toInt32 = jI (x.toNat : Int) := by
  apply Int32.toBitVec_inj.1
  rw [UInt32.toBitVec_toInt32, Int32.toBitVec_ofInt, BitVec.ofInt_natCast]
  apply BitVec.eq_of_toNat_eq
  rw [BitVec.toNat_ofNat, Nat.mod_eq_of_lt (UInt32.toNat_lt x)]
  rfl
theorem pU8_e (z : Int32) : (z.toUInt32 >>> ((Int32.ofInt 8).toUInt32 &&& Int32.toUInt32 31)).toInt32 = jI (pU8 z) := u32_i _
theorem pU16_e (z : Int32) : (z.toUInt32 >>> ((Int32.ofInt 16).toUInt32 &&& Int32.toUInt32 31)).toInt32 = jI (pU16 z) := u32_i _
theorem pU8_le (z : Int32) : pU8 z ≤ 16777215 := by
  have h := UInt32.toNat_lt z.toUInt32
  unfold pU8
  rw [show ((Int32.ofInt 8).toUInt32 &&& Int32.toUInt32 31) = 8 by decide, UInt32.toNat_shiftRight, show (8 : UInt32).toNat % 32 = 8 by decide, Nat.shiftRight_eq_div_pow]
  omega
theorem pU16_le (z : Int32) : pU16 z ≤ 65535 := by
  have h := UInt32.toNat_lt z.toUInt32
  unfold pU16
  rw [show ((Int32.ofInt 16).toUInt32 &&& Int32.toUInt32 31) = 16 by decide, UInt32.toNat_shiftRight, show (16 : UInt32).toNat % 32 = 16 by decide, Nat.shiftRight_eq_div_pow]
  omega
def pNx (z : Int32) : Int32 := z * Int32.ofInt 1103515245 + Int32.ofInt 12345
def pPos (v : Int) : Int := if v < 0 then 0 else v
theorem pPos_e {v : Int} : (if v < 0 then Int32.ofInt 0 else Int32.ofInt v) = jI (pPos v) := by
  unfold pPos
  split <;> rfl
theorem pPos_e' {v : Int} : (if 0 < v then Int32.ofInt v else Int32.ofInt 0) = jI (pPos v) := by
  unfold pPos
  split
  · rw [if_neg (by omega)]
  · by_cases h : v < 0
    · rw [if_pos h]
    · rw [if_neg h]
      congr 1
      omega
/-- one loses by draw -/
def pLs (n : Nat) (T : Nat → Nat → Int) (z : Int32) : Nat → Nat → Int := if n = 0 then T else pSet T 3 (pU8 z % n) (pPos (T 3 (pU8 z % n) - pU16 z % 10))
def pZn (z : Int32) : Nat → Int32
  | 0 => z
  | k + 1 => pNx (pZn z k)
def pTd (lw : vLw) (n : Nat) (T : Nat → Nat → Int) (z : Int32) : Nat → Nat → Nat → Int
  | 0 => T
  | k + 1 => pDay lw n (pLs n (pTd lw n T z k) (pZn z (k + 1)))
def pVal (n : Nat) (T : Nat → Nat → Int) (w : Int) : Int32 := if w = -1 then pBits (pLack T (-1) n) else jI (T 3 w.toNat)
/-- winters: the sum after m of them, D days each -/
def pWz (z : Int32) (D : Nat) : Nat → Int32
  | 0 => z
  | m + 1 => pZn (pWz z D m) D
def pWs (lw : vLw) (n : Nat) (T : Nat → Nat → Int) (z : Int32) (D : Nat) (w : Int) : Nat → Int32
  | 0 => jI 0
  | m + 1 => pWs lw n T z D w m + pVal n (pTd lw n T (pWz z D m) D) w
theorem pLs_ok {n : Nat} {T : Nat → Nat → Int} (hok : vTownOk n T) (z : Int32) : vTownOk n (pLs n T z) := by
  unfold pLs
  by_cases q : n = 0
  · rw [if_pos q]
    exact hok
  · rw [if_neg q]
    have hlt := Nat.mod_lt (pU8 z) (show 0 < n by omega)
    have h := vOk_w hok hlt
    have hv : 0 ≤ pPos (T 3 (pU8 z % n) - pU16 z % 10) ∧ pPos (T 3 (pU8 z % n) - pU16 z % 10) ≤ 99 := by
      unfold pPos
      split <;> omega
    exact pSet_ok (a := ((pU8 z % n : Nat) : Int)) (b := 3) hok (.inr ⟨by omega, by omega, by omega, by omega⟩) (.inr (.inr (.inr (.inl ⟨rfl, hv⟩))))
theorem pTd_ok {lw : vLw} {n : Nat} {T : Nat → Nat → Int} (hok : vTownOk n T) (z : Int32) : ∀ k, vTownOk n (pTd lw n T z k)
  | 0 => hok
  | k + 1 => pDay_ok (pLs_ok (pTd_ok hok z k) _)
section DRW
variable {d o n : Nat} {lay : List mShp} {e : List mShp} {I : Nat → Nat → Int32} {E : Nat → Nat → Int64} {F : Nat → Nat → Nat} {P : mPost} {T : Nat → Nat → Int} {lw : vLw} {st nx gf rl dr : Nat}
theorem c85 (hF : mFx F st nx gf rl dr) (hok : vTownOk n T) (hc : vTc n T 12 I) {z : Int32} (hP : ∀ I', vAg (fun r _ => r = 16) I I' → vTc n (pLs n T z) 12 I' → P none (mLay e) (I', E, F)) : mF d 85 [.ref 12, .int z] (mLay e) (I, E, F) P := by
  have hn := hok.1
  have h8 := pU8_le z
  have h16 := pU16_le z
  by_cases q : n = 0
  · subst q
    have hp := hP I vAg_rfl (by
      unfold pLs
      rw [if_pos rfl]
      exact hc)
    simp only [g85_in, g85_0, g85_1, g85_4, g85_7, g85_8, g85_10, g85_11, g85_12, g85_15, g85_16, g85_17, g85_18, g85_21, g85_22, g85_23, g85_26, g85_27, g85_28, g85_29, g85_31, g85_32, g85_34, g85_35, g85_36, g85_37, g85_40, g85_41, nl_none, nl_int, nl_ref, Option.toList_some, Option.toList_none, List.cons_append, List.nil_append, mSetI_u, mSetL_u, Nat.add_one_ne_zero, Nat.add_eq_zero_iff, and_false, false_and, not_false_eq_true, ne_eq, j0_0, j0_1, j1_0, j1_1, if_true, if_false, ite_true, ite_false, true_and, and_true, or_true, true_or, false_or, or_false, ↓reduceIte, Nat.reduceEqDiff, Nat.reduceAdd, Nat.reduceMul, Nat.reduceSub, Int.reduceLE, Int.reduceLT, Int.reduceNeg, Int.reduceAdd, Int.reduceSub, Int.reduceEq, reduceCtorEq, jI_lt, jI_eq, jI_lt0, jI_0lt, jI_eq0, jI_0le, jn_lo, iU_row, iU_nr, iU_eq, iU_same, jI_ixn, jI_add, jI_sub, jI_nat, sh_12, hc.2.1, show ((0 : Nat) : Int) = 0 from rfl, Int.lt_irrefl]
    exact hp
  · have hlt := Nat.mod_lt (pU8 z) (show 0 < n by omega)
    have hst := (hc.1 _ hlt).2.2.2.1
    have hw := vOk_w hok hlt
    have hs : 0 ≤ T 3 (pU8 z % n) ∧ T 3 (pU8 z % n) ≤ 99 := ⟨hw.2.2.2.2.2.2.1, hw.2.2.2.2.2.2.2.1⟩
    clear hw
    have e1 : (pU8 z : Int) - (pU8 z : Int) / (n : Int) * (n : Int) = ((pU8 z % n : Nat) : Int) := by
      have := Int.emod_def (pU8 z : Int) (n : Int)
      rw [Int.mul_comm] at this
      rw [← this]
      rfl
    have e2 : (pU16 z : Int) - (pU16 z : Int) / 10 * 10 = ((pU16 z : Int) % 10) := by omega
    have hdv : 0 ≤ (pU8 z : Int) / (n : Int) := Int.ediv_nonneg (by omega) (by omega)
    have hp := hP (iU I 16 (pU8 z % n) (jI (pPos (T 3 (pU8 z % n) - pU16 z % 10)))) (vAg_iU vAg_rfl rfl) (by
      unfold pLs
      rw [if_neg q]
      exact vTc_set (w := 3) (by omega) hc)
    simp only [g85_in, g85_0, g85_1, g85_4, g85_7, g85_8, g85_10, g85_11, g85_12, g85_15, g85_16, g85_17, g85_18, g85_21, g85_22, g85_23, g85_26, g85_27, g85_28, g85_29, g85_31, g85_32, g85_34, g85_35, g85_36, g85_37, g85_40, g85_41, nl_none, nl_int, nl_ref, Option.toList_some, Option.toList_none, List.cons_append, List.nil_append, mSetI_u, mSetL_u, Nat.add_one_ne_zero, Nat.add_eq_zero_iff, and_false, false_and, not_false_eq_true, ne_eq, j0_0, j0_1, j1_0, j1_1, if_true, if_false, ite_true, ite_false, true_and, and_true, or_true, true_or, false_or, or_false, ↓reduceIte, Nat.reduceEqDiff, Nat.reduceAdd, Nat.reduceMul, Nat.reduceSub, Int.reduceLE, Int.reduceLT, Int.reduceNeg, Int.reduceAdd, Int.reduceSub, Int.reduceEq, reduceCtorEq, jI_lt, jI_eq, jI_lt0, jI_0lt, jI_eq0, jI_0le, jn_lo, iU_row, iU_nr, iU_eq, iU_same, jI_ixn, jI_add, jI_sub, jI_nat, sh_12, sh_16, f_12_4 hF, hc.2.1, hst, pU8_e, pU16_e, jI_div (a := (pU8 z : Int)) (b := (n : Int)) (by omega) (by omega) (by omega) (by omega), jI_div (a := (pU16 z : Int)) (b := 10) (by omega) (by omega) (by omega) (by omega), jI_mul, e1, e2, show ((n : Nat) : Int) ≤ 2147483647 by omega, show (n : Nat) ≤ 2147483647 by omega, show ((pU8 z % n : Nat) : Int) ≤ 2147483647 by omega, show (pU8 z % n : Nat) ≤ 2147483647 by omega, show 0 < (n : Int) by omega, show ¬ ((n : Int) = 0) by omega, jI_in (z := (((pU8 z % n : Nat) : Int) : Int)) (n := 8) (by omega) (by omega) (by omega), show -2147483648 ≤ (T 3 (pU8 z % n) - (pU16 z : Int) % 10 : Int) by omega, show (T 3 (pU8 z % n) - (pU16 z : Int) % 10 : Int) ≤ 2147483647 by omega, pPos_e, pPos_e']
    exact hp
def vScH (rl r j : Nat) : Prop := (12 ≤ r ∧ r ≤ 19) ∨ r = rl + 3 ∨ r = rl + 4
theorem c113_a (hF : mFx F st nx gf rl dr) (hrl : rl = 70 ∨ rl = 75) (hok : vTownOk n T) (hlw : vLawC lw (I (rl + 1)) (I (rl + 2)) (I rl 2)) {N W D : Nat} (hN : N = 100 * W + D) (hD : D ≤ 40) (hW : W ≤ 30) {z a1 a5 : Int32} {w m : Int} (hP : ∀ I', vAg (vScH rl) I I' → vTc n (pTd lw n T z D) 12 I' → mG (d + 7) 113 122 [some (.ref 3), some (.int a1), some (.int (jI N)), some (.int (jI w)), some (.int (pZn z D)), some (.int a5), some (.int (jI m)), some (.int (jI D))] [] (mLay e) (I', E, F) P) : ∀ (k i : Nat) (y : Int) I', i + k = D → y = i → vAg (vScH rl) I I' → vTc n (pTd lw n T z i) 12 I' → mG (d + 7) 113 75 [some (.ref 3), some (.int a1), some (.int (jI N)), some (.int (jI w)), some (.int (pZn z i)), some (.int a5), some (.int (jI m)), some (.int (jI y))] [] (mLay e) (I', E, F) P
  | 0, i, y, I', hi, hy, ha, hc => by
    subst hy
    have e : i = D := by omega
    subst e
    have er : (N : Int) - (N : Int) / 100 * 100 = (i : Int) := by omega
    rw [g113_75]
    simp only [g113_77, g113_78, g113_80, g113_81, g113_84, g113_86, g113_89, g113_90, g113_93, g113_94, g113_96, g113_97, g113_100, g113_102, g113_105, g113_106, g113_109, g113_110, g113_113, g113_116, g113_119, nl_none, nl_int, nl_ref, Option.toList_some, Option.toList_none, List.cons_append, List.nil_append, mSetI_u, mSetL_u, Nat.add_one_ne_zero, Nat.add_eq_zero_iff, and_false, false_and, not_false_eq_true, ne_eq, j0_0, j0_1, j1_0, j1_1, if_true, if_false, ite_true, ite_false, true_and, and_true, or_true, true_or, false_or, or_false, ↓reduceIte, Nat.reduceEqDiff, Nat.reduceAdd, Nat.reduceMul, Nat.reduceSub, Int.reduceLE, Int.reduceLT, Int.reduceNeg, Int.reduceAdd, Int.reduceSub, Int.reduceEq, reduceCtorEq, jI_lt, jI_eq, jI_lt0, jI_0lt, jI_eq0, jI_0le, jn_lo, iU_row, iU_nr, iU_eq, iU_same, jI_ixn, jI_add, jI_sub, jI_nat, show ((i : Nat) : Int) ≤ 2147483647 by omega, show (i : Nat) ≤ 2147483647 by omega, show ((N : Nat) : Int) ≤ 2147483647 by omega, show (N : Nat) ≤ 2147483647 by omega, show -2147483648 ≤ ((N : Int) / 100 : Int) by omega, show ((N : Int) / 100 : Int) ≤ 2147483647 by omega, jI_div (a := (N : Int)) (b := 100) (by omega) (by omega) (by omega) (by omega), jI_mul, er, show ¬ ((i : Int) < (i : Int)) by omega]
    exact hP I' ha hc
  | k + 1, i, y, I', hi, hy, ha, hc => by
    have ih := c113_a hF hrl hok hlw hN hD hW (a1 := a1) (a5 := a5) (w := w) (m := m) hP k (i + 1)
    have hrl0 : ¬ rl = 0 := by omega
    have er : (N : Int) - (N : Int) / 100 * 100 = (D : Int) := by omega
    have hoki := pTd_ok (lw := lw) hok z i
    subst hy
    rw [g113_75]
    simp only [g113_77, g113_78, g113_80, g113_81, g113_84, g113_86, g113_89, g113_90, g113_93, g113_94, g113_96, g113_97, g113_100, g113_102, nl_none, nl_int, nl_ref, Option.toList_some, Option.toList_none, List.cons_append, List.nil_append, mSetI_u, mSetL_u, Nat.add_one_ne_zero, Nat.add_eq_zero_iff, and_false, false_and, not_false_eq_true, ne_eq, j0_0, j0_1, j1_0, j1_1, if_true, if_false, ite_true, ite_false, true_and, and_true, or_true, true_or, false_or, or_false, ↓reduceIte, Nat.reduceEqDiff, Nat.reduceAdd, Nat.reduceMul, Nat.reduceSub, Int.reduceLE, Int.reduceLT, Int.reduceNeg, Int.reduceAdd, Int.reduceSub, Int.reduceEq, reduceCtorEq, jI_lt, jI_eq, jI_lt0, jI_0lt, jI_eq0, jI_0le, jn_lo, iU_row, iU_nr, iU_eq, iU_same, jI_ixn, jI_add, jI_sub, jI_nat, sh_3, sh_12, f_3_1 hF, show ((i : Nat) : Int) ≤ 2147483647 by omega, show (i : Nat) ≤ 2147483647 by omega, show ((N : Nat) : Int) ≤ 2147483647 by omega, show (N : Nat) ≤ 2147483647 by omega, show ((D : Nat) : Int) ≤ 2147483647 by omega, show (D : Nat) ≤ 2147483647 by omega, show -2147483648 ≤ ((N : Int) / 100 : Int) by omega, show ((N : Int) / 100 : Int) ≤ 2147483647 by omega, jI_div (a := (N : Int)) (b := 100) (by omega) (by omega) (by omega) (by omega), jI_mul, er, show (i : Int) < (D : Int) by omega]
    refine c85 hF hoki hc (fun I1 h1 hc1 => ?_)
    simp only [g113_105, g113_106, g113_109, g113_110, g113_113, nl_none, nl_int, nl_ref, Option.toList_some, Option.toList_none, List.cons_append, List.nil_append, mSetI_u, mSetL_u, Nat.add_one_ne_zero, Nat.add_eq_zero_iff, and_false, false_and, not_false_eq_true, ne_eq, j0_0, j0_1, j1_0, j1_1, if_true, if_false, ite_true, ite_false, true_and, and_true, or_true, true_or, false_or, or_false, ↓reduceIte, Nat.reduceEqDiff, Nat.reduceAdd, Nat.reduceMul, Nat.reduceSub, Int.reduceLE, Int.reduceLT, Int.reduceNeg, Int.reduceAdd, Int.reduceSub, Int.reduceEq, reduceCtorEq, jI_lt, jI_eq, jI_lt0, jI_0lt, jI_eq0, jI_0le, jn_lo, iU_row, iU_nr, iU_eq, iU_same, jI_ixn, jI_add, jI_sub, jI_nat, sh_3, sh_12, f_3_1 hF, f_3_13 hF, hrl0]
    have ha1 : vAg (vScH rl) I I1 := vAg_tr ha (vAg_mono h1 (fun r j q => by unfold vScH; omega))
    refine c80 (vTw_12 hF) (vLo_rl hF hrl) (pLs_ok hoki _) hc1 (vLw_ag ha1 (fun r j q => by unfold vScH at q; omega) hlw) (by omega) (fun I2 h2 hc2 _ => ?_)
    simp only [g113_116, g113_119, nl_none, nl_int, nl_ref, Option.toList_some, Option.toList_none, List.cons_append, List.nil_append, mSetI_u, mSetL_u, Nat.add_one_ne_zero, Nat.add_eq_zero_iff, and_false, false_and, not_false_eq_true, ne_eq, j0_0, j0_1, j1_0, j1_1, if_true, if_false, ite_true, ite_false, true_and, and_true, or_true, true_or, false_or, or_false, ↓reduceIte, Nat.reduceEqDiff, Nat.reduceAdd, Nat.reduceMul, Nat.reduceSub, Int.reduceLE, Int.reduceLT, Int.reduceNeg, Int.reduceAdd, Int.reduceSub, Int.reduceEq, reduceCtorEq, jI_lt, jI_eq, jI_lt0, jI_0lt, jI_eq0, jI_0le, jn_lo, iU_row, iU_nr, iU_eq, iU_same, jI_ixn, jI_add, jI_sub, jI_nat]
    exact ih _ _ (by omega) (by omega) (vAg_tr ha1 (vAg_mono h2 (fun r j q => by unfold vScH; omega))) hc2
theorem c113_b (hF : mFx F st nx gf rl dr) (hrl : rl = 70 ∨ rl = 75) (hok : vTownOk n T) (hc : vTc n T 4 I) (hlw : vLawC lw (I (rl + 1)) (I (rl + 2)) (I rl 2)) {N W D : Nat} (hN : N = 100 * W + D) (hD : D ≤ 40) (hW : W ≤ 30) {z a1 : Int32} {w : Int} (hw : w = -1 ∨ (0 ≤ w ∧ w < n)) (hP : ∀ I', vAg (vScH rl) I I' → P (some (.int (pWs lw n T z D w W))) (mLay e) (I', E, F)) : ∀ (k i : Nat) (y : Int) I' a7, i + k = W → y = i → vAg (vScH rl) I I' → mG (d + 7) 113 52 [some (.ref 3), some (.int a1), some (.int (jI N)), some (.int (jI w)), some (.int (pWz z D i)), some (.int (pWs lw n T z D w i)), some (.int (jI y)), a7] [] (mLay e) (I', E, F) P
  | 0, i, y, I', a7, hi, hy, ha => by
    subst hy
    have e : i = W := by omega
    subst e
    have er : (N : Int) / 100 = (i : Int) := by omega
    rw [g113_52]
    simp only [g113_54, g113_55, g113_57, g113_58, g113_61, g113_62, g113_65, g113_66, g113_69, g113_72, g113_73, g113_75, g113_77, g113_78, g113_80, g113_81, g113_84, g113_86, g113_89, g113_90, g113_93, g113_94, g113_96, g113_97, g113_100, g113_102, g113_105, g113_106, g113_109, g113_110, g113_113, g113_116, g113_119, g113_122, g113_124, g113_125, g113_126, g113_129, g113_130, g113_133, g113_136, g113_139, g113_142, g113_143, g113_146, g113_147, g113_150, g113_151, g113_153, g113_156, g113_159, g113_161, nl_none, nl_int, nl_ref, Option.toList_some, Option.toList_none, List.cons_append, List.nil_append, mSetI_u, mSetL_u, Nat.add_one_ne_zero, Nat.add_eq_zero_iff, and_false, false_and, not_false_eq_true, ne_eq, j0_0, j0_1, j1_0, j1_1, if_true, if_false, ite_true, ite_false, true_and, and_true, or_true, true_or, false_or, or_false, ↓reduceIte, Nat.reduceEqDiff, Nat.reduceAdd, Nat.reduceMul, Nat.reduceSub, Int.reduceLE, Int.reduceLT, Int.reduceNeg, Int.reduceAdd, Int.reduceSub, Int.reduceEq, reduceCtorEq, jI_lt, jI_eq, jI_lt0, jI_0lt, jI_eq0, jI_0le, jn_lo, iU_row, iU_nr, iU_eq, iU_same, jI_ixn, jI_add, jI_sub, jI_nat, show ((i : Nat) : Int) ≤ 2147483647 by omega, show (i : Nat) ≤ 2147483647 by omega, show ((N : Nat) : Int) ≤ 2147483647 by omega, show (N : Nat) ≤ 2147483647 by omega, jI_div (a := (N : Int)) (b := 100) (by omega) (by omega) (by omega) (by omega), er, show ¬ ((i : Int) < (i : Int)) by omega]
    exact hP I' ha
  | k + 1, i, y, I', a7, hi, hy, ha => by
    have ih := c113_b hF hrl hok hc hlw hN hD hW (a1 := a1) hw hP k (i + 1)
    have er : (N : Int) / 100 = (W : Int) := by omega
    have hn := hok.1
    have hc' : vTc n T 4 I' := vTc_ag ha (fun r j q => by unfold vScH at q; omega) hc
    have hokD := pTd_ok (lw := lw) hok (pWz z D i) D
    subst hy
    rw [g113_52]
    simp only [g113_54, g113_55, g113_57, g113_58, g113_61, g113_62, g113_65, g113_66, g113_69, nl_none, nl_int, nl_ref, Option.toList_some, Option.toList_none, List.cons_append, List.nil_append, mSetI_u, mSetL_u, Nat.add_one_ne_zero, Nat.add_eq_zero_iff, and_false, false_and, not_false_eq_true, ne_eq, j0_0, j0_1, j1_0, j1_1, if_true, if_false, ite_true, ite_false, true_and, and_true, or_true, true_or, false_or, or_false, ↓reduceIte, Nat.reduceEqDiff, Nat.reduceAdd, Nat.reduceMul, Nat.reduceSub, Int.reduceLE, Int.reduceLT, Int.reduceNeg, Int.reduceAdd, Int.reduceSub, Int.reduceEq, reduceCtorEq, jI_lt, jI_eq, jI_lt0, jI_0lt, jI_eq0, jI_0le, jn_lo, iU_row, iU_nr, iU_eq, iU_same, jI_ixn, jI_add, jI_sub, jI_nat, sh_3, sh_12, f_3_0 hF, f_3_1 hF, show ((i : Nat) : Int) ≤ 2147483647 by omega, show (i : Nat) ≤ 2147483647 by omega, show ((N : Nat) : Int) ≤ 2147483647 by omega, show (N : Nat) ≤ 2147483647 by omega, show ((W : Nat) : Int) ≤ 2147483647 by omega, show (W : Nat) ≤ 2147483647 by omega, jI_div (a := (N : Int)) (b := 100) (by omega) (by omega) (by omega) (by omega), er, show (i : Int) < (W : Int) by omega]
    refine c66_12 hF hn hc' (fun I1 h1 hc1 => ?_)
    simp only [g113_72, g113_73, nl_none, nl_int, nl_ref, Option.toList_some, Option.toList_none, List.cons_append, List.nil_append, mSetI_u, mSetL_u, Nat.add_one_ne_zero, Nat.add_eq_zero_iff, and_false, false_and, not_false_eq_true, ne_eq, j0_0, j0_1, j1_0, j1_1, if_true, if_false, ite_true, ite_false, true_and, and_true, or_true, true_or, false_or, or_false, ↓reduceIte, Nat.reduceEqDiff, Nat.reduceAdd, Nat.reduceMul, Nat.reduceSub, Int.reduceLE, Int.reduceLT, Int.reduceNeg, Int.reduceAdd, Int.reduceSub, Int.reduceEq, reduceCtorEq, jI_lt, jI_eq, jI_lt0, jI_0lt, jI_eq0, jI_0le, jn_lo, iU_row, iU_nr, iU_eq, iU_same, jI_ixn, jI_add, jI_sub, jI_nat]
    have ha1 : vAg (vScH rl) I I1 := vAg_tr ha (vAg_mono h1 (fun r j q => by unfold vScH; omega))
    refine c113_a (z := pWz z D i) hF hrl hok (vLw_ag ha1 (fun r j q => by unfold vScH at q; omega) hlw) hN hD hW (fun I2 h2 hc2 => ?_) D 0 0 I1 (by omega) rfl vAg_rfl hc1
    have ih' := ih ((i : Int) + 1) I2 (some (.int (jI D))) (by omega) (by omega) (vAg_tr ha1 h2)
    rcases hw with rfl | hw
    · rw [pWs, pVal, if_pos rfl] at ih'
      simp only [g113_122, g113_124, g113_125, g113_126, g113_129, g113_130, g113_133, g113_136, g113_139, g113_142, g113_143, g113_146, g113_147, g113_150, g113_151, g113_153, g113_156, nl_none, nl_int, nl_ref, Option.toList_some, Option.toList_none, List.cons_append, List.nil_append, mSetI_u, mSetL_u, Nat.add_one_ne_zero, Nat.add_eq_zero_iff, and_false, false_and, not_false_eq_true, ne_eq, j0_0, j0_1, j1_0, j1_1, if_true, if_false, ite_true, ite_false, true_and, and_true, or_true, true_or, false_or, or_false, ↓reduceIte, Nat.reduceEqDiff, Nat.reduceAdd, Nat.reduceMul, Nat.reduceSub, Int.reduceLE, Int.reduceLT, Int.reduceNeg, Int.reduceAdd, Int.reduceSub, Int.reduceEq, reduceCtorEq, jI_lt, jI_eq, jI_lt0, jI_0lt, jI_eq0, jI_0le, jn_lo, iU_row, iU_nr, iU_eq, iU_same, jI_ixn, jI_add, jI_sub, jI_nat, sh_3, sh_12, f_3_1 hF, c74 (vTw_12 hF) hokD hc2, r230, eq_self]
      exact ih'
    · obtain ⟨p, rfl⟩ : ∃ p : Nat, w = p := ⟨w.toNat, by omega⟩
      rw [pWs, pVal, if_neg (by omega)] at ih'
      simp only [g113_122, g113_124, g113_125, g113_126, g113_129, g113_130, g113_133, g113_136, g113_139, g113_142, g113_143, g113_146, g113_147, g113_150, g113_151, g113_153, g113_156, nl_none, nl_int, nl_ref, Option.toList_some, Option.toList_none, List.cons_append, List.nil_append, mSetI_u, mSetL_u, Nat.add_one_ne_zero, Nat.add_eq_zero_iff, and_false, false_and, not_false_eq_true, ne_eq, j0_0, j0_1, j1_0, j1_1, if_true, if_false, ite_true, ite_false, true_and, and_true, or_true, true_or, false_or, or_false, ↓reduceIte, Nat.reduceEqDiff, Nat.reduceAdd, Nat.reduceMul, Nat.reduceSub, Int.reduceLE, Int.reduceLT, Int.reduceNeg, Int.reduceAdd, Int.reduceSub, Int.reduceEq, reduceCtorEq, jI_lt, jI_eq, jI_lt0, jI_0lt, jI_eq0, jI_0le, jn_lo, iU_row, iU_nr, iU_eq, iU_same, jI_ixn, jI_add, jI_sub, jI_nat, sh_3, sh_12, f_3_1 hF, show ((p : Nat) : Int) ≤ 2147483647 by omega, show (p : Nat) ≤ 2147483647 by omega, show ¬ ((p : Int) = -1) by omega, c72 (vTw_12 hF) hokD (show p < n by omega) hc2]
      exact ih'
theorem sc_EL {r j : Nat} (q : vScE r j) : ¬ r = 87 ∧ ¬ r = 90 ∧ ¬ (r = 80 ∧ (j = 11 ∨ j = 12)) := by
  unfold vScE vScD at q
  omega
theorem pNx_e (z : Int32) : z * Int32.ofInt 1103515245 + Int32.ofInt 12345 = pNx z := by rw [pNx]
theorem pZn_S (z : Int32) (k : Nat) : pZn z (k + 1) = pNx (pZn z k) := by rw [pZn]
theorem pTd_S (z : Int32) (k : Nat) : pTd lw n T z (k + 1) = pDay lw n (pLs n (pTd lw n T z k) (pNx (pZn z k))) := by rw [pTd, pZn_S]
theorem r209_s (hF : mFx F st nx gf rl dr) (hok : vTownOk n T) (hn0 : ¬ n = 0) (hl : ∀ g q n k s t, 0 ≤ lw g q n k s t ∧ lw g q n k s t ≤ 20) (hlw : vLawR lw (I 87) (I 80 11) (I 80 12) (I 90)) {N D i : Nat} (hN : N ≤ 4000) (er : (N : Int) - (N : Int) / 100 * 100 = (D : Int)) (hi : i < D) (hD : D ≤ 40) {z z1 a1 a5 : Int32} {w m : Int} {a8 : Option Value} (hR : vTownR n T (I 81) (I 80 2)) {v8 v16 q : Nat} {u : Int} (ez : z * Int32.ofInt 1103515245 + Int32.ofInt 12345 = z1) (p8 : (z1.toUInt32 >>> ((Int32.ofInt 8).toUInt32 &&& Int32.toUInt32 31)).toInt32 = jI v8) (p16 : (z1.toUInt32 >>> ((Int32.ofInt 16).toUInt32 &&& Int32.toUInt32 31)).toInt32 = jI v16) (h8 : v8 ≤ 16777215) (h16 : v16 ≤ 65535) (hlt : q < n) (e1 : (v8 : Int) - (v8 : Int) / (n : Int) * (n : Int) = (q : Int)) (e2 : (v16 : Int) - (v16 : Int) / 10 * 10 = u) (hP : ∀ I' a8, vAg vScE I I' → vTownR n (pDay lw n (pSet T 3 q (pPos (T 3 q - u)))) (I' 81) (I' 80 2) → mG (d + 74) 209 72 [some (.ref 80), some (.int a1), some (.int (jI N)), some (.int (jI w)), some (.int z1), some (.int a5), some (.int (jI m)), some (.int (jI ((i : Int) + 1))), a8] [] (mLay e) (I', E, F) P) : mG (d + 74) 209 72 [some (.ref 80), some (.int a1), some (.int (jI N)), some (.int (jI w)), some (.int z), some (.int a5), some (.int (jI m)), some (.int (jI (i : Int))), a8] [] (mLay e) (I, E, F) P := by
  have hn := hok.1
  have d1 := jI_div (a := (v8 : Int)) (b := (n : Int)) (by omega) (by omega) (by omega) (by omega)
  have d2 := jI_div (a := (v16 : Int)) (b := 10) (by omega) (by omega) (by omega) (by omega)
  have u10 : 0 ≤ u ∧ u ≤ 9 := by omega
  have hst := hR.1 q hlt 3 (by omega)
  have hw := vOk_w hok hlt
  have hs : 0 ≤ T 3 q ∧ T 3 q ≤ 99 := ⟨hw.2.2.2.2.2.2.1, hw.2.2.2.2.2.2.2.1⟩
  clear hw
  have hv : 0 ≤ pPos (T 3 q - u) ∧ pPos (T 3 q - u) ≤ 99 := by
    unfold pPos
    split <;> omega
  have hh : pHas n (q : Int) 3 := .inr ⟨by omega, by omega, by omega, by omega⟩
  have hlok : vTownOk n (pSet T 3 q (pPos (T 3 q - u))) := pSet_ok hok hh (.inr (.inr (.inr (.inl ⟨rfl, hv⟩))))
  have hset := vTr_set (I := I) (T := T) (v := pPos (T 3 q - u)) hn hh hR
  rw [show (vCode (q : Int) 3).toNat = 5 * q + 3 by rw [vCode, if_pos (by omega)]; omega] at hset
  have hset : vTownR n (pSet T 3 q (pPos (T 3 q - u))) (iU I 81 (5 * q + 3) (jI (pPos (T 3 q - u))) 81) (iU I 81 (5 * q + 3) (jI (pPos (T 3 q - u))) 80 2) := hset
  rw [g209_72]
  simp only [g209_74, g209_75, g209_77, g209_78, g209_81, g209_82, g209_85, g209_88, g209_90, g209_93, g209_94, g209_97, g209_98, g209_100, g209_102, g209_104, g209_105, g209_106, g209_109, g209_110, g209_112, g209_113, g209_115, g209_116, g209_117, g209_118, g209_120, g209_121, g209_124, g209_126, g209_128, g209_129, g209_131, g209_132, g209_133, g209_136, g209_139, g209_140, nl_none, nl_int, nl_ref, Option.toList_some, Option.toList_none, List.cons_append, List.nil_append, mSetI_u, mSetL_u, Nat.add_one_ne_zero, Nat.add_eq_zero_iff, and_false, false_and, not_false_eq_true, ne_eq, j0_0, j0_1, j1_0, j1_1, if_true, if_false, ite_true, ite_false, true_and, and_true, or_true, true_or, false_or, or_false, ↓reduceIte, Nat.reduceEqDiff, Nat.reduceAdd, Nat.reduceMul, Nat.reduceSub, Int.reduceLE, Int.reduceLT, Int.reduceNeg, Int.reduceAdd, Int.reduceSub, Int.reduceEq, reduceCtorEq, jI_lt, jI_eq, jI_lt0, jI_0lt, jI_eq0, jI_0le, jn_lo, iU_row, iU_nr, iU_eq, iU_same, jI_ixn, jI_add, jI_sub, jI_nat, sh_80, hR.2.2.2, show ((i : Nat) : Int) ≤ 2147483647 by omega, show (i : Nat) ≤ 2147483647 by omega, show ((N : Nat) : Int) ≤ 2147483647 by omega, show (N : Nat) ≤ 2147483647 by omega, show ((D : Nat) : Int) ≤ 2147483647 by omega, show (D : Nat) ≤ 2147483647 by omega, show ((n : Nat) : Int) ≤ 2147483647 by omega, show (n : Nat) ≤ 2147483647 by omega, show ((q : Nat) : Int) ≤ 2147483647 by omega, show (q : Nat) ≤ 2147483647 by omega, show -2147483648 ≤ ((N : Int) / 100 : Int) by omega, show ((N : Int) / 100 : Int) ≤ 2147483647 by omega, jI_div (a := (N : Int)) (b := 100) (by omega) (by omega) (by omega) (by omega), jI_mul, er, ez, p8, p16, d1, d2, e1, e2, r152 hF, r153 hF, Int.reduceToNat, hst, show (i : Int) < (D : Int) by omega, show 0 < (n : Int) by omega, show q ≤ 7 by omega, show ¬ ((n : Int) = 0) by omega, show -2147483648 ≤ (T 3 q - u : Int) by omega, show (T 3 q - u : Int) ≤ 2147483647 by omega, pPos_e, pPos_e']
  have hA : vAg vScE I (iU I 81 (5 * q + 3) (jI (pPos (T 3 q - u)))) := vAg_iU vAg_rfl (.inl rfl)
  refine r179 (d := d + 1) hF hlok hl hset (vLr_ag hA (fun _ _ q => sc_EL q) hlw) (fun I2 h2 hR2 _ => ?_)
  simp only [g209_143, g209_146, nl_none, nl_int, nl_ref, Option.toList_some, Option.toList_none, List.cons_append, List.nil_append, mSetI_u, mSetL_u, Nat.add_one_ne_zero, Nat.add_eq_zero_iff, and_false, false_and, not_false_eq_true, ne_eq, j0_0, j0_1, j1_0, j1_1, if_true, if_false, ite_true, ite_false, true_and, and_true, or_true, true_or, false_or, or_false, ↓reduceIte, Nat.reduceEqDiff, Nat.reduceAdd, Nat.reduceMul, Nat.reduceSub, Int.reduceLE, Int.reduceLT, Int.reduceNeg, Int.reduceAdd, Int.reduceSub, Int.reduceEq, reduceCtorEq, jI_lt, jI_eq, jI_lt0, jI_0lt, jI_eq0, jI_0le, jn_lo, iU_row, iU_nr, iU_eq, iU_same, jI_ixn, jI_add, jI_sub, jI_nat]
  exact hP _ _ (vAg_tr hA h2) hR2
theorem pU_div (v n : Nat) : (v : Int) - (v : Int) / (n : Int) * (n : Int) = ((v % n : Nat) : Int) := by
  have h := Int.emod_def (v : Int) (n : Int)
  rw [Int.mul_comm] at h
  rw [← h]
  rfl
theorem pU_d10 (v : Nat) : (v : Int) - (v : Int) / 10 * 10 = (v : Int) % 10 := by omega
theorem pLs_n (hn0 : ¬ n = 0) (z : Int32) : pLs n T z = pSet T 3 (pU8 z % n) (pPos (T 3 (pU8 z % n) - pU16 z % 10)) := if_neg hn0
theorem r209_a (hF : mFx F st nx gf rl dr) (hok : vTownOk n T) (hn0 : ¬ n = 0) (hl : ∀ g q n k s t, 0 ≤ lw g q n k s t ∧ lw g q n k s t ≤ 20) (hlw : vLawR lw (I 87) (I 80 11) (I 80 12) (I 90)) {N W D : Nat} (hN : N = 100 * W + D) (hD : D ≤ 40) (hW : W ≤ 30) {z a1 a5 : Int32} {w m : Int} (hP : ∀ I' a8, vAg vScE I I' → vTownR n (pTd lw n T z D) (I' 81) (I' 80 2) → mG (d + 74) 209 149 [some (.ref 80), some (.int a1), some (.int (jI N)), some (.int (jI w)), some (.int (pZn z D)), some (.int a5), some (.int (jI m)), some (.int (jI D)), a8] [] (mLay e) (I', E, F) P) : ∀ (k i : Nat) (y : Int) I' a8, i + k = D → y = i → vAg vScE I I' → vTownR n (pTd lw n T z i) (I' 81) (I' 80 2) → mG (d + 74) 209 72 [some (.ref 80), some (.int a1), some (.int (jI N)), some (.int (jI w)), some (.int (pZn z i)), some (.int a5), some (.int (jI m)), some (.int (jI y)), a8] [] (mLay e) (I', E, F) P
  | 0, i, y, I', a8, hi, hy, ha, hR => by
    subst hy
    have e : i = D := by omega
    subst e
    have er : (N : Int) - (N : Int) / 100 * 100 = (i : Int) := by omega
    rw [g209_72]
    simp only [g209_74, g209_75, g209_77, g209_78, g209_81, g209_82, g209_85, g209_88, g209_90, g209_93, g209_94, g209_97, g209_98, g209_100, g209_102, g209_104, g209_105, g209_106, g209_109, g209_110, g209_112, g209_113, g209_115, g209_116, g209_117, g209_118, g209_120, g209_121, g209_124, g209_126, g209_128, g209_129, g209_131, g209_132, g209_133, g209_136, g209_139, g209_140, g209_143, g209_146, nl_none, nl_int, nl_ref, Option.toList_some, Option.toList_none, List.cons_append, List.nil_append, mSetI_u, mSetL_u, Nat.add_one_ne_zero, Nat.add_eq_zero_iff, and_false, false_and, not_false_eq_true, ne_eq, j0_0, j0_1, j1_0, j1_1, if_true, if_false, ite_true, ite_false, true_and, and_true, or_true, true_or, false_or, or_false, ↓reduceIte, Nat.reduceEqDiff, Nat.reduceAdd, Nat.reduceMul, Nat.reduceSub, Int.reduceLE, Int.reduceLT, Int.reduceNeg, Int.reduceAdd, Int.reduceSub, Int.reduceEq, reduceCtorEq, jI_lt, jI_eq, jI_lt0, jI_0lt, jI_eq0, jI_0le, jn_lo, iU_row, iU_nr, iU_eq, iU_same, jI_ixn, jI_add, jI_sub, jI_nat, show ((i : Nat) : Int) ≤ 2147483647 by omega, show (i : Nat) ≤ 2147483647 by omega, show ((N : Nat) : Int) ≤ 2147483647 by omega, show (N : Nat) ≤ 2147483647 by omega, show -2147483648 ≤ ((N : Int) / 100 : Int) by omega, show ((N : Int) / 100 : Int) ≤ 2147483647 by omega, jI_div (a := (N : Int)) (b := 100) (by omega) (by omega) (by omega) (by omega), jI_mul, er, show ¬ ((i : Int) < (i : Int)) by omega]
    exact hP I' _ ha hR
  | k + 1, i, y, I', a8, hi, hy, ha, hR => by
    have ih := r209_a hF hok hn0 hl hlw hN hD hW (a1 := a1) (a5 := a5) (w := w) (m := m) hP k (i + 1)
    rw [pTd_S, pZn_S] at ih
    subst hy
    rw [pLs_n hn0] at ih
    have hn := hok.1
    refine r209_s (n := n) hF (pTd_ok hok z i) hn0 hl (vLr_ag ha (fun _ _ q => sc_EL q) hlw) (D := D) (by omega) (by omega) (by omega) hD hR (pNx_e _) (pU8_e _) (pU16_e _) (pU8_le _) (pU16_le _) (Nat.mod_lt _ (Nat.pos_of_ne_zero hn0)) (pU_div _ _) (pU_d10 _) (fun I2 a8 h2 hR2 => ?_)
    exact ih _ _ _ (by omega) (by omega) (vAg_tr ha h2) hR2
theorem r209_b (hF : mFx F st nx gf rl dr) (hok : vTownOk n T) (hn0 : ¬ n = 0) (hl : ∀ g q n k s t, 0 ≤ lw g q n k s t ∧ lw g q n k s t ≤ 20) (hR : vTownR n T (I 81) (I 80 2)) (hlw : vLawR lw (I 87) (I 80 11) (I 80 12) (I 90)) (hg0 : I 80 20 = jI (-1)) {N W D : Nat} (hN : N = 100 * W + D) (hD : D ≤ 40) (hW : W ≤ 30) {z a1 : Int32} {w : Int} (hw : w = -1 ∨ (0 ≤ w ∧ w < n)) (hP : ∀ I', vAg (fun r j => vScr r j ∨ r = 81) I I' → (∀ j, j < 42 → I' 81 j = I 81 j) → P (some (.int (pWs lw n T z D w W))) (mLay e) (I', E, F)) : ∀ (k i : Nat) (y : Int) I' a7 a8, i + k = W → y = i → vAg (fun r j => vScr r j ∨ r = 81) I I' → (∀ j, j < 42 → I' 81 j = I 81 j) → mG (d + 74) 209 55 [some (.ref 80), some (.int a1), some (.int (jI N)), some (.int (jI w)), some (.int (pWz z D i)), some (.int (pWs lw n T z D w i)), some (.int (jI y)), a7, a8] [] (mLay e) (I', E, F) P
  | 0, i, y, I', a7, a8, hi, hy, ha, h81 => by
    subst hy
    have e : i = W := by omega
    subst e
    have er : (N : Int) / 100 = (i : Int) := by omega
    rw [g209_55]
    simp only [g209_57, g209_58, g209_60, g209_61, g209_64, g209_65, g209_66, g209_69, g209_70, g209_72, g209_74, g209_75, g209_77, g209_78, g209_81, g209_82, g209_85, g209_88, g209_90, g209_93, g209_94, g209_97, g209_98, g209_100, g209_102, g209_104, g209_105, g209_106, g209_109, g209_110, g209_112, g209_113, g209_115, g209_116, g209_117, g209_118, g209_120, g209_121, g209_124, g209_126, g209_128, g209_129, g209_131, g209_132, g209_133, g209_136, g209_139, g209_140, g209_143, g209_146, g209_149, g209_151, g209_152, g209_153, g209_156, g209_157, g209_160, g209_163, g209_166, g209_167, g209_168, g209_169, g209_172, g209_173, g209_175, g209_176, g209_177, g209_180, g209_183, g209_186, g209_188, nl_none, nl_int, nl_ref, Option.toList_some, Option.toList_none, List.cons_append, List.nil_append, mSetI_u, mSetL_u, Nat.add_one_ne_zero, Nat.add_eq_zero_iff, and_false, false_and, not_false_eq_true, ne_eq, j0_0, j0_1, j1_0, j1_1, if_true, if_false, ite_true, ite_false, true_and, and_true, or_true, true_or, false_or, or_false, ↓reduceIte, Nat.reduceEqDiff, Nat.reduceAdd, Nat.reduceMul, Nat.reduceSub, Int.reduceLE, Int.reduceLT, Int.reduceNeg, Int.reduceAdd, Int.reduceSub, Int.reduceEq, reduceCtorEq, jI_lt, jI_eq, jI_lt0, jI_0lt, jI_eq0, jI_0le, jn_lo, iU_row, iU_nr, iU_eq, iU_same, jI_ixn, jI_add, jI_sub, jI_nat, show ((i : Nat) : Int) ≤ 2147483647 by omega, show (i : Nat) ≤ 2147483647 by omega, show ((N : Nat) : Int) ≤ 2147483647 by omega, show (N : Nat) ≤ 2147483647 by omega, jI_div (a := (N : Int)) (b := 100) (by omega) (by omega) (by omega) (by omega), er, show ¬ ((i : Int) < (i : Int)) by omega]
    exact hP I' ha h81
  | k + 1, i, y, I', a7, a8, hi, hy, ha, h81 => by
    have ih := r209_b hF hok hn0 hl hR hlw hg0 hN hD hW (a1 := a1) hw hP k (i + 1)
    have er : (N : Int) / 100 = (W : Int) := by omega
    have hn := hok.1
    have hR' : vTownR n T (I' 81) (I' 80 2) := vTr_42 hn h81 (ha 80 2 (by unfold vScr; omega)) hR
    have hL' : vLawR lw (I' 87) (I' 80 11) (I' 80 12) (I' 90) := vLr_ag ha (fun r j q => by unfold vScr at q; omega) hlw
    have hg' : I' 80 20 = jI (-1) := (ha 80 20 (by unfold vScr; omega)).trans hg0
    have hokD := pTd_ok (lw := lw) hok (pWz z D i) D
    subst hy
    rw [g209_55]
    simp only [g209_57, g209_58, g209_60, g209_61, g209_64, g209_65, g209_66, g209_69, g209_70, nl_none, nl_int, nl_ref, Option.toList_some, Option.toList_none, List.cons_append, List.nil_append, mSetI_u, mSetL_u, Nat.add_one_ne_zero, Nat.add_eq_zero_iff, and_false, false_and, not_false_eq_true, ne_eq, j0_0, j0_1, j1_0, j1_1, if_true, if_false, ite_true, ite_false, true_and, and_true, or_true, true_or, false_or, or_false, ↓reduceIte, Nat.reduceEqDiff, Nat.reduceAdd, Nat.reduceMul, Nat.reduceSub, Int.reduceLE, Int.reduceLT, Int.reduceNeg, Int.reduceAdd, Int.reduceSub, Int.reduceEq, reduceCtorEq, jI_lt, jI_eq, jI_lt0, jI_0lt, jI_eq0, jI_0le, jn_lo, iU_row, iU_nr, iU_eq, iU_same, jI_ixn, jI_add, jI_sub, jI_nat, sh_80, r149_0 hF, show ((i : Nat) : Int) ≤ 2147483647 by omega, show (i : Nat) ≤ 2147483647 by omega, show ((N : Nat) : Int) ≤ 2147483647 by omega, show (N : Nat) ≤ 2147483647 by omega, show ((W : Nat) : Int) ≤ 2147483647 by omega, show (W : Nat) ≤ 2147483647 by omega, jI_div (a := (N : Int)) (b := 100) (by omega) (by omega) (by omega) (by omega), er, show (i : Int) < (W : Int) by omega]
    refine r209_a (d := d) (z := pWz z D i) hF hok hn0 hl (kL hL') hN hD hW (fun I1 a8 h1 hR1 => ?_) D 0 0 _ _ (by omega) rfl vAg_rfl (kR hR')
    have hg1 : I1 80 20 = jI (-1) := kg h1 hg'
    have ih' := fun a8 => ih ((i : Int) + 1) (lU I1 0 42) (some (.int (jI D))) a8 (by omega) (by omega) (vAg_lU (vAg_tr (vAg_kU ha (fun j => .inl (sc_82 j))) (vAg_mono h1 (fun _ _ q => sc_E q))) (fun _ => .inr rfl)) (fun j hj => (lU_k h1 (fun r j q q' => absurd q' (fun w => sc_E82 q w)) j hj).trans (h81 j hj))
    rcases hw with rfl | hw
    · rw [pWs, pVal, if_pos rfl] at ih'
      simp only [g209_149, g209_151, g209_152, g209_153, g209_156, g209_157, g209_160, g209_163, g209_166, g209_167, g209_168, g209_169, g209_172, g209_173, g209_175, g209_176, g209_177, g209_180, g209_183, nl_none, nl_int, nl_ref, Option.toList_some, Option.toList_none, List.cons_append, List.nil_append, mSetI_u, mSetL_u, Nat.add_one_ne_zero, Nat.add_eq_zero_iff, and_false, false_and, not_false_eq_true, ne_eq, j0_0, j0_1, j1_0, j1_1, if_true, if_false, ite_true, ite_false, true_and, and_true, or_true, true_or, false_or, or_false, ↓reduceIte, Nat.reduceEqDiff, Nat.reduceAdd, Nat.reduceMul, Nat.reduceSub, Int.reduceLE, Int.reduceLT, Int.reduceNeg, Int.reduceAdd, Int.reduceSub, Int.reduceEq, reduceCtorEq, jI_lt, jI_eq, jI_lt0, jI_0lt, jI_eq0, jI_0le, jn_lo, iU_row, iU_nr, iU_eq, iU_same, jI_ixn, jI_add, jI_sub, jI_nat, sh_80, r181 (g := -1) hF hokD (by omega) (by omega) hR1 hg1, r230, r150_0 hF, eq_self]
      exact ih' _
    · obtain ⟨p, rfl⟩ : ∃ p : Nat, w = p := ⟨w.toNat, by omega⟩
      rw [pWs, pVal, if_neg (by omega)] at ih'
      simp only [g209_149, g209_151, g209_152, g209_153, g209_156, g209_157, g209_160, g209_163, g209_166, g209_167, g209_168, g209_169, g209_172, g209_173, g209_175, g209_176, g209_177, g209_180, g209_183, nl_none, nl_int, nl_ref, Option.toList_some, Option.toList_none, List.cons_append, List.nil_append, mSetI_u, mSetL_u, Nat.add_one_ne_zero, Nat.add_eq_zero_iff, and_false, false_and, not_false_eq_true, ne_eq, j0_0, j0_1, j1_0, j1_1, if_true, if_false, ite_true, ite_false, true_and, and_true, or_true, true_or, false_or, or_false, ↓reduceIte, Nat.reduceEqDiff, Nat.reduceAdd, Nat.reduceMul, Nat.reduceSub, Int.reduceLE, Int.reduceLT, Int.reduceNeg, Int.reduceAdd, Int.reduceSub, Int.reduceEq, reduceCtorEq, jI_lt, jI_eq, jI_lt0, jI_0lt, jI_eq0, jI_0le, jn_lo, iU_row, iU_nr, iU_eq, iU_same, jI_ixn, jI_add, jI_sub, jI_nat, sh_80, show ((p : Nat) : Int) ≤ 2147483647 by omega, show (p : Nat) ≤ 2147483647 by omega, show ¬ ((p : Int) = -1) by omega, r152 hF, Int.reduceToNat, hR1.1 p (show p < n by omega) 3 (by omega), show p ≤ 7 by omega, r150_0 hF]
      exact ih' _
end DRW
