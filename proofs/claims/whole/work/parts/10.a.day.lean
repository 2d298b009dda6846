/-! ===== a day, as numbers, and the class's day ===== -/
theorem jI_div {a b : Int} (ha : 0 ≤ a) (ha' : a ≤ 2147483647) (hb : 0 < b) (hb' : b ≤ 2147483647) : Int32.ofInt a / Int32.ofInt b = Int32.ofInt (a / b) := by
  apply Int32.toInt_inj.mp
  have h1 : 0 ≤ a / b := Int.ediv_nonneg ha (by omega)
  have h2 : a / b ≤ a := Int.ediv_le_self b ha
  rw [Int32.toInt_div, jI_toInt (by omega) ha', jI_toInt (by omega) hb', jI_toInt (by omega) (by omega), Int.tdiv_eq_ediv_of_nonneg ha]
  exact Int.bmod_eq_of_le (by omega) (by omega)
theorem jI_pabs (z : Int) : (if 0 ≤ z then Int32.ofInt z else 0 - Int32.ofInt z) = Int32.ofInt (pAbs z) := by
  unfold pAbs
  split
  · rfl
  · exact (Int32.ofInt_sub 0 z).symm
theorem pAbs_le {z m : Int} (h0 : -m ≤ z) (h1 : z ≤ m) : 0 ≤ pAbs z ∧ pAbs z ≤ m := by
  unfold pAbs
  split <;> omega
theorem pFar_in {a b : Int} (ha : 0 ≤ a ∧ a ≤ 35) (hb : 0 ≤ b ∧ b ≤ 35) : 0 ≤ pFar a b ∧ pFar a b ≤ 10 := by
  have h1 := pAbs_le (m := 5) (z := a - a / 6 * 6 - (b - b / 6 * 6)) (by omega) (by omega)
  have h2 := pAbs_le (m := 5) (z := a / 6 - b / 6) (by omega) (by omega)
  unfold pFar
  omega
def vTc (n : Nat) (T : Nat → Nat → Int) (o : Nat) (I : Nat → Nat → Int32) : Prop := vTownC n T (I (o + 1)) (I (o + 2)) (I (o + 3)) (I (o + 4)) (I (o + 5)) (I o 0) (I o 6) (I o 7)
theorem vOk_w {n : Nat} {T : Nat → Nat → Int} {i : Nat} (h : vTownOk n T) (hi : i < n) : 0 ≤ T 0 i ∧ T 0 i ≤ 35 ∧ 0 ≤ T 1 i ∧ T 1 i ≤ 9 ∧ 0 ≤ T 2 i ∧ T 2 i ≤ 9 ∧ 0 ≤ T 3 i ∧ T 3 i ≤ 99 ∧ -1 ≤ T 4 i ∧ T 4 i < n ∧ T 4 i ≠ i := by
  obtain ⟨-, h, -⟩ := h
  have h0 := (h i hi 0 (by omega)).1 rfl
  have h1 := (h i hi 1 (by omega)).2.1 rfl
  have h2 := (h i hi 2 (by omega)).2.2.1 rfl
  have h3 := (h i hi 3 (by omega)).2.2.2.1 rfl
  have h4 := (h i hi 4 (by omega)).2.2.2.2 rfl
  exact ⟨h0.1, h0.2, h1.1, h1.2, h2.1, h2.2, h3.1, h3.2, h4.1, h4.2.1, h4.2.2⟩
theorem vOk_of {n : Nat} {T : Nat → Nat → Int} (hn : n ≤ 8) (h : ∀ i, i < n → 0 ≤ T 0 i ∧ T 0 i ≤ 35 ∧ 0 ≤ T 1 i ∧ T 1 i ≤ 9 ∧ 0 ≤ T 2 i ∧ T 2 i ≤ 9 ∧ 0 ≤ T 3 i ∧ T 3 i ≤ 99 ∧ -1 ≤ T 4 i ∧ T 4 i < n ∧ T 4 i ≠ i) (hw : 0 ≤ T 5 0 ∧ T 5 0 ≤ 9) (ht : 0 ≤ T 6 0 ∧ T 6 0 ≤ 99) : vTownOk n T := by
  refine ⟨hn, fun i hi w hw => ?_, hw, ht⟩
  obtain ⟨a0, a1, b0, b1, c0, c1, e0, e1, w0, w1, w2⟩ := h i hi
  refine ⟨fun e => ?_, fun e => ?_, fun e => ?_, fun e => ?_, fun e => ?_⟩ <;> subst e
  · exact ⟨a0, a1⟩
  · exact ⟨b0, b1⟩
  · exact ⟨c0, c1⟩
  · exact ⟨e0, e1⟩
  · exact ⟨w0, w1, w2⟩
theorem pCome_0 {lw : vLw} {n : Nat} {T : Nat → Nat → Int} {i : Nat} (h : T 4 i = -1 ∨ T 3 i = 0) : pCome lw n T i = 0 := if_pos h
theorem pCome_w {lw : vLw} {n : Nat} {T : Nat → Nat → Int} {i w : Nat} (hw : T 4 i = w) (hy : ¬ T 3 i = 0) : pCome lw n T i = lw (T 1 i) (pFar (T 0 i) (T 0 w)) (T 2 w) (pCar T w n) (T 3 i) (T 6 0) := by
  unfold pCome
  rw [if_neg (by omega), hw]
  rfl
theorem pCome_in {lw : vLw} (hl : ∀ g q n k s t, 0 ≤ lw g q n k s t ∧ lw g q n k s t ≤ 20) (n : Nat) (T : Nat → Nat → Int) (i : Nat) : 0 ≤ pCome lw n T i ∧ pCome lw n T i ≤ 20 := by
  unfold pCome
  split
  · omega
  · exact hl _ _ _ _ _ _
def pCame (lw : vLw) (n : Nat) (T : Nat → Nat → Int) : Nat → Int
  | 0 => 0
  | m + 1 => pCame lw n T m + pCome lw n T m
theorem pIn_in {lw : vLw} (hl : ∀ g q n k s t, 0 ≤ lw g q n k s t ∧ lw g q n k s t ≤ 20) (n : Nat) (T : Nat → Nat → Int) (j : Nat) : ∀ m : Nat, 0 ≤ pIn lw n T j m ∧ pIn lw n T j m ≤ 20 * m
  | 0 => ⟨Int.le_refl 0, Int.le_refl 0⟩
  | m + 1 => by
    have h := pIn_in hl n T j m
    have h' := pCome_in hl n T m
    simp only [pIn]
    split <;> omega
theorem pCame_in {lw : vLw} (hl : ∀ g q n k s t, 0 ≤ lw g q n k s t ∧ lw g q n k s t ≤ 20) (n : Nat) (T : Nat → Nat → Int) : ∀ m : Nat, 0 ≤ pCame lw n T m ∧ pCame lw n T m ≤ 20 * m
  | 0 => ⟨Int.le_refl 0, Int.le_refl 0⟩
  | m + 1 => by
    have h := pCame_in hl n T m
    have h' := pCome_in hl n T m
    simp only [pCame]
    omega
theorem pHold_in (v : Int) : 0 ≤ pHold v 99 ∧ pHold v 99 ≤ 99 := by
  unfold pHold
  split
  · omega
  · split <;> omega
theorem pDay_3 {lw : vLw} {n : Nat} {T : Nat → Nat → Int} {j : Nat} : pDay lw n T 3 j = pNew lw n T j := rfl
theorem pDay_ok {lw : vLw} {n : Nat} {T : Nat → Nat → Int} (h : vTownOk n T) : vTownOk n (pDay lw n T) := by
  have hw := h.2.2.1
  have ht := h.2.2.2
  refine vOk_of h.1 (fun i hi => ?_) hw ?_
  · have h' := vOk_w h hi
    have h'' := pHold_in (T 3 i + pIn lw n T i n - pLost n T i)
    exact ⟨h'.1, h'.2.1, h'.2.2.1, h'.2.2.2.1, h'.2.2.2.2.1, h'.2.2.2.2.2.1, h''.1, h''.2, h'.2.2.2.2.2.2.2.2⟩
  · show 0 ≤ (if 99 < T 6 0 + 1 then 99 else T 6 0 + 1) ∧ (if 99 < T 6 0 + 1 then 99 else T 6 0 + 1) ≤ 99
    split <;> omega
theorem pDays_ok {lw : vLw} {n : Nat} {T : Nat → Nat → Int} (h : vTownOk n T) : ∀ m, vTownOk n (pDays lw n T m)
  | 0 => h
  | m + 1 => pDay_ok (pDays_ok h m)
theorem c78 {d o : Nat} {lay : List mShp} {I : Nat → Nat → Int32} {E : Nat → Nat → Int64} {F : Nat → Nat → Nat} {P : mPost} {i j : Nat} {a b : Int} (hT : vTw lay F o) (hi : i < 8) (hj : j < 8) (ha : I (o + 1) i = jI a) (hb : I (o + 1) j = jI b) (ha0 : 0 ≤ a) (ha1 : a ≤ 35) (hb0 : 0 ≤ b) (hb1 : b ≤ 35) : mF (d + 1) 78 [.ref o, .int (jI i), .int (jI j)] lay (I, E, F) P = P (some (.int (jI (pFar a b)))) lay (I, E, F) := by
  obtain ⟨t, t0, t1, t2, t3, t4, t5, t6, t7, f1, f2, f3, f4, f5, f6, f7⟩ := hT
  simp only [g78_in, g78_0, g78_1, g78_4, g78_5, g78_6, g78_7, g78_8, g78_11, g78_12, g78_13, g78_15, g78_16, g78_18, g78_19, g78_21, g78_23, g78_24, g78_25, g78_28, g78_29, g78_31, g78_32, g78_34, g78_36, g78_37, g78_38, g78_41, g78_42, nl_none, nl_int, nl_ref, Option.toList_some, Option.toList_none, List.cons_append, List.nil_append, mSetI_u, mSetL_u, Nat.add_one_ne_zero, Nat.add_eq_zero_iff, and_false, false_and, not_false_eq_true, ne_eq, j0_0, j0_1, j1_0, j1_1, if_true, if_false, ite_true, ite_false, true_and, and_true, or_true, true_or, false_or, or_false, ↓reduceIte, Nat.reduceEqDiff, Nat.reduceAdd, Nat.reduceMul, Nat.reduceSub, Int.reduceLE, Int.reduceLT, Int.reduceNeg, Int.reduceAdd, Int.reduceSub, Int.reduceEq, reduceCtorEq, jI_lt, jI_eq, jI_lt0, jI_0lt, jI_eq0, jI_0le, jn_lo, iU_row, iU_nr, iU_eq, iU_same, jI_ixn, jI_add, jI_sub, jI_nat, t, t0, t1, f1, ha, hb, show ((i : Nat) : Int) ≤ 2147483647 by omega, show (i : Nat) ≤ 2147483647 by omega, show ((j : Nat) : Int) ≤ 2147483647 by omega, show (j : Nat) ≤ 2147483647 by omega, jI_in (z := ((i : Int) : Int)) (n := 8) (by omega) (by omega) (by omega), jI_in (z := ((j : Int) : Int)) (n := 8) (by omega) (by omega) (by omega), show -2147483648 ≤ (a : Int) by omega, show (a : Int) ≤ 2147483647 by omega, show -2147483648 ≤ (b : Int) by omega, show (b : Int) ≤ 2147483647 by omega, show -2147483648 ≤ (a / 6 : Int) by omega, show (a / 6 : Int) ≤ 2147483647 by omega, show -2147483648 ≤ (b / 6 : Int) by omega, show (b / 6 : Int) ≤ 2147483647 by omega, show -2147483648 ≤ (a - a / 6 * 6 - (b - b / 6 * 6) : Int) by omega, show (a - a / 6 * 6 - (b - b / 6 * 6) : Int) ≤ 2147483647 by omega, show -2147483648 ≤ (a / 6 - b / 6 : Int) by omega, show (a / 6 - b / 6 : Int) ≤ 2147483647 by omega, show 0 ≤ a by omega, show 0 ≤ b by omega, jI_div, jI_mul, jI_pabs, Int.reduceLT]
  rfl
theorem c79 {d o l n : Nat} {lay : List mShp} {I : Nat → Nat → Int32} {E : Nat → Nat → Int64} {F : Nat → Nat → Nat} {P : mPost} {T : Nat → Nat → Int} {lw : vLw} {i : Nat} (hT : vTw lay F o) (hL : vLo lay F l) (hok : vTownOk n T) (hc : vTc n T o I) (hca : ∀ j, j < n → I (o + 6) j = jI (pCar T j n)) (hlw : vLawC lw (I (l + 1)) (I (l + 2)) (I l 2)) (hi : i < n) (hP : ∀ I', vAg (fun r _ => r = l + 3 ∨ r = l + 4) I I' → P (some (.int (jI (pCome lw n T i)))) lay (I', E, F)) : mF (d + 5) 79 [.ref o, .int (jI i), .ref l] lay (I, E, F) P := by
  have hn := hok.1
  have hT' := hT
  have hday := hok.2.2.2
  obtain ⟨a0, a1, b0, b1, c0, c1, e0, e1, w0, w1, w2⟩ := vOk_w hok hi
  obtain ⟨h0, h1, h2, h3, h4⟩ := hc.1 i hi
  obtain ⟨hm, hwi, hto⟩ := hc.2
  obtain ⟨t, t0, t1, t2, t3, t4, t5, t6, t7, f1, f2, f3, f4, f5, f6, f7⟩ := hT
  rcases (by omega : T 4 i = -1 ∨ 0 ≤ T 4 i) with hx | hx
  · have hp := hP I vAg_rfl
    rw [pCome_0 (.inl hx)] at hp
    simp only [g79_in, g79_0, g79_1, g79_4, g79_5, g79_6, g79_7, g79_8, g79_9, g79_12, g79_15, g79_16, g79_19, g79_20, g79_21, g79_24, g79_25, g79_26, g79_27, g79_28, g79_31, g79_32, g79_33, g79_34, g79_35, g79_36, g79_39, g79_40, g79_43, g79_44, g79_45, g79_46, g79_49, g79_50, g79_51, g79_52, g79_55, g79_56, g79_57, g79_58, g79_61, g79_64, g67_in, g67_0, g67_1, g67_4, g67_5, g67_6, g67_9, g67_12, g67_13, g67_16, g67_17, nl_none, nl_int, nl_ref, Option.toList_some, Option.toList_none, List.cons_append, List.nil_append, mSetI_u, mSetL_u, Nat.add_one_ne_zero, Nat.add_eq_zero_iff, and_false, false_and, not_false_eq_true, ne_eq, j0_0, j0_1, j1_0, j1_1, if_true, if_false, ite_true, ite_false, true_and, and_true, or_true, true_or, false_or, or_false, ↓reduceIte, Nat.reduceEqDiff, Nat.reduceAdd, Nat.reduceMul, Nat.reduceSub, Int.reduceLE, Int.reduceLT, Int.reduceNeg, Int.reduceAdd, Int.reduceSub, Int.reduceEq, reduceCtorEq, jI_lt, jI_eq, jI_lt0, jI_0lt, jI_eq0, jI_0le, jn_lo, iU_row, iU_nr, iU_eq, iU_same, jI_ixn, jI_add, jI_sub, jI_nat, t, t0, t5, f5, h4, hm, hx, show ((i : Nat) : Int) ≤ 2147483647 by omega, show (i : Nat) ≤ 2147483647 by omega, jI_in (z := ((i : Int) : Int)) (n := 8) (by omega) (by omega) (by omega)]
    exact hp
  · obtain ⟨w, hw⟩ : ∃ w : Nat, T 4 i = w := ⟨(T 4 i).toNat, by omega⟩
    have hwn : w < n := by omega
    rcases (by omega : T 3 i = 0 ∨ ¬ T 3 i = 0) with hy | hy
    · have hp := hP I vAg_rfl
      rw [pCome_0 (.inr hy)] at hp
      simp only [g79_in, g79_0, g79_1, g79_4, g79_5, g79_6, g79_7, g79_8, g79_9, g79_12, g79_15, g79_16, g79_19, g79_20, g79_21, g79_24, g79_25, g79_26, g79_27, g79_28, g79_31, g79_32, g79_33, g79_34, g79_35, g79_36, g79_39, g79_40, g79_43, g79_44, g79_45, g79_46, g79_49, g79_50, g79_51, g79_52, g79_55, g79_56, g79_57, g79_58, g79_61, g79_64, g67_in, g67_0, g67_1, g67_4, g67_5, g67_6, g67_9, g67_12, g67_13, g67_16, g67_17, nl_none, nl_int, nl_ref, Option.toList_some, Option.toList_none, List.cons_append, List.nil_append, mSetI_u, mSetL_u, Nat.add_one_ne_zero, Nat.add_eq_zero_iff, and_false, false_and, not_false_eq_true, ne_eq, j0_0, j0_1, j1_0, j1_1, if_true, if_false, ite_true, ite_false, true_and, and_true, or_true, true_or, false_or, or_false, ↓reduceIte, Nat.reduceEqDiff, Nat.reduceAdd, Nat.reduceMul, Nat.reduceSub, Int.reduceLE, Int.reduceLT, Int.reduceNeg, Int.reduceAdd, Int.reduceSub, Int.reduceEq, reduceCtorEq, jI_lt, jI_eq, jI_lt0, jI_0lt, jI_eq0, jI_0le, jn_lo, iU_row, iU_nr, iU_eq, iU_same, jI_ixn, jI_add, jI_sub, jI_nat, t, t0, t4, t5, f4, f5, h3, h4, hm, hw, hy, show ((i : Nat) : Int) ≤ 2147483647 by omega, show (i : Nat) ≤ 2147483647 by omega, show ((w : Nat) : Int) ≤ 2147483647 by omega, show (w : Nat) ≤ 2147483647 by omega, show ((n : Nat) : Int) ≤ 2147483647 by omega, show (n : Nat) ≤ 2147483647 by omega, show (w : Int) < (n : Int) by omega, show ¬ ((w : Int) < 0) by omega, jI_in (z := ((i : Int) : Int)) (n := 8) (by omega) (by omega) (by omega)]
      exact hp
    · obtain ⟨g0, g1, g2, g3, g4⟩ := hc.1 w hwn
      obtain ⟨x0, x1, y0, y1, z0, z1, -⟩ := vOk_w hok hwn
      have hk := pCar_le T w n
      have hfar := pFar_in ⟨a0, a1⟩ ⟨x0, x1⟩
      simp only [g79_in, g79_0, g79_1, g79_4, g79_5, g79_6, g79_7, g79_8, g79_9, g79_12, g79_15, g79_16, g79_19, g79_20, g79_21, g79_24, g79_25, g79_26, g79_27, g79_28, g79_31, g79_32, g79_33, g79_34, g79_35, g79_36, g79_39, g79_40, g79_43, g79_44, g79_45, g79_46, g79_49, g79_50, g79_51, g79_52, g79_55, g79_56, g79_57, g79_58, g79_61, g79_64, g67_in, g67_0, g67_1, g67_4, g67_5, g67_6, g67_9, g67_12, g67_13, g67_16, g67_17, nl_none, nl_int, nl_ref, Option.toList_some, Option.toList_none, List.cons_append, List.nil_append, mSetI_u, mSetL_u, Nat.add_one_ne_zero, Nat.add_eq_zero_iff, and_false, false_and, not_false_eq_true, ne_eq, j0_0, j0_1, j1_0, j1_1, if_true, if_false, ite_true, ite_false, true_and, and_true, or_true, true_or, false_or, or_false, ↓reduceIte, Nat.reduceEqDiff, Nat.reduceAdd, Nat.reduceMul, Nat.reduceSub, Int.reduceLE, Int.reduceLT, Int.reduceNeg, Int.reduceAdd, Int.reduceSub, Int.reduceEq, reduceCtorEq, jI_lt, jI_eq, jI_lt0, jI_0lt, jI_eq0, jI_0le, jn_lo, iU_row, iU_nr, iU_eq, iU_same, jI_ixn, jI_add, jI_sub, jI_nat, t, t0, t2, t3, t4, t5, t6, f2, f3, f4, f5, f6, h1, h3, h4, g2, hca w hwn, hm, hto, hw, hy, c78 hT' (show i < 8 by omega) (show w < 8 by omega) h0 g0 a0 a1 x0 x1, show ((i : Nat) : Int) ≤ 2147483647 by omega, show (i : Nat) ≤ 2147483647 by omega, show ((w : Nat) : Int) ≤ 2147483647 by omega, show (w : Nat) ≤ 2147483647 by omega, show ((n : Nat) : Int) ≤ 2147483647 by omega, show (n : Nat) ≤ 2147483647 by omega, show -2147483648 ≤ (T 3 i : Int) by omega, show (T 3 i : Int) ≤ 2147483647 by omega, show (w : Int) < (n : Int) by omega, show ¬ ((w : Int) < 0) by omega, show ¬ (T 3 i = 0) by omega, jI_in (z := ((i : Int) : Int)) (n := 8) (by omega) (by omega) (by omega), jI_in (z := ((w : Int) : Int)) (n := 8) (by omega) (by omega) (by omega), hL.1, hL.2.1]
      refine hlw.2 lay F l I E _ _ (T 1 i) (pFar (T 0 i) (T 0 w)) (T 2 w) (pCar T w n) (T 3 i) (T 6 0) hL rfl rfl rfl ⟨⟨b0, b1⟩, hfar, ⟨z0, z1⟩, ⟨by omega, by omega⟩, ⟨e0, e1⟩, hday⟩ (fun I' hI' => ?_)
      have hp := hP I' hI'
      rw [pCome_w hw hy] at hp
      simp only [g79_64, nl_none, nl_int, nl_ref, Option.toList_some, Option.toList_none, List.cons_append, List.nil_append, mSetI_u, mSetL_u, Nat.add_one_ne_zero, Nat.add_eq_zero_iff, and_false, false_and, not_false_eq_true, ne_eq, j0_0, j0_1, j1_0, j1_1, if_true, if_false, ite_true, ite_false, true_and, and_true, or_true, true_or, false_or, or_false, ↓reduceIte, Nat.reduceEqDiff, Nat.reduceAdd, Nat.reduceMul, Nat.reduceSub, Int.reduceLE, Int.reduceLT, Int.reduceNeg, Int.reduceAdd, Int.reduceSub, Int.reduceEq, reduceCtorEq, jI_lt, jI_eq, jI_lt0, jI_0lt, jI_eq0, jI_0le, jn_lo, iU_row, iU_nr, iU_eq, iU_same, jI_ixn, jI_add, jI_sub, jI_nat]
      exact hp
