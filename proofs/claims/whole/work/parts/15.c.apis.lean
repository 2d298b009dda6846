/-! ===== count, day, person ===== -/
section APC
variable {d o n : Nat} {lay : List mShp} {e : List mShp} {M : mMem} {I I' : Nat → Nat → Int32} {E : Nat → Nat → Int64} {F : Nat → Nat → Nat} {P : mPost} {T T' : Nat → Nat → Int} {lw : vLw} {st nx gf rl dr bn c : Nat} {a b v : Int}
theorem vU_up {n' : Nat} (hI : vInv c e I E F st nx gf rl dr n bn T lw) (ha : vAg vScU I I') (hn' : n ≤ n') (hok : vTownOk n' T') (hc : vTc n' T' 4 I') (hR : vTownR n' T' (I' 81) (I' 80 2)) (hheld : I' 22 3 = jI (-1)) (hled : vLed (I' 60) (I' 98)) (hchg : vChgs n' (I' 48 4) (I' 48 5) (I' 80 6) (I' 80 7) (I' 49) (I' 50) (I' 51) (I' 52) (I' 83) (I' 84) (I' 85)) : vInv c e I' E F st nx gf rl dr n' bn T' lw := vInv_gen hI (vAg_mono ha (fun _ _ q => sc_UT q)) hn' hok hc hR hheld hled hchg
theorem vChg_up {n' : Nat} (h : vChg n a b v) (hn : n ≤ n') : vChg n' a b v := by
  unfold vChg vNum at h ⊢
  rcases h with ⟨h1, h2, h3, h4, q0, q1, q2, q3, q4⟩ | h | h
  · exact .inl ⟨h1, h2, h3, by omega, q0, q1, q2, q3, fun q => ⟨(q4 q).1, by have := (q4 q).2.1; omega, (q4 q).2.2⟩⟩
  · exact .inr (.inl h)
  · exact .inr (.inr h)
theorem vChgs_up {n' : Nat} {dc kc dr kr : Int32} {num what was bec chd old yng : Nat → Int32} (h : vChgs n dc kc dr kr num what was bec chd old yng) (hn : n ≤ n') : vChgs n' dc kc dr kr num what was bec chd old yng := by
  obtain ⟨dn, kn, h1, h2, h3, h4, h5, h6, hj⟩ := h
  refine ⟨dn, kn, h1, h2, h3, h4, h5, h6, fun j hjk => ?_⟩
  obtain ⟨a, b, v, w, j1, j2, j3, j4, j5, j6, j7, hv, hw⟩ := hj j hjk
  exact ⟨a, b, v, w, j1, j2, j3, j4, j5, j6, j7, vChg_up hv hn, vChg_up hw hn⟩
def pAdd (T : Nat → Nat → Int) (n : Nat) (p g q : Int) : Nat → Nat → Int := fun w j => if w < 5 ∧ j = n then (if w = 0 then p else if w = 1 then g else if w = 2 then q else if w = 3 then 20 else -1) else T w j
theorem pAdd_ok {p g q : Int} (hok : vTownOk n T) (hn : n < 8) (hp : 0 ≤ p ∧ p ≤ 35) (hg : 0 ≤ g ∧ g ≤ 9) (hq : 0 ≤ q ∧ q ≤ 9) : vTownOk (n + 1) (pAdd T n p g q) := by
  refine vOk_of (by omega) (fun i hi => ?_) ?_ ?_
  · by_cases h : i = n
    · subst h
      rw [show pAdd T i p g q 0 i = p by simp [pAdd], show pAdd T i p g q 1 i = g by simp [pAdd], show pAdd T i p g q 2 i = q by simp [pAdd], show pAdd T i p g q 3 i = 20 by simp [pAdd], show pAdd T i p g q 4 i = -1 by simp [pAdd]]
      omega
    · have h' := vOk_w hok (show i < n by omega)
      simp only [pAdd, h, and_false, if_false]
      omega
  · have := hok.2.2.1
    simpa [pAdd] using this
  · have := hok.2.2.2
    simpa [pAdd] using this
theorem c65 {p g q : Int} (hF : mFx F st nx gf rl dr) (hn : n < 8) (hc : vTc n T 4 I) : mF d 65 [.ref 4, .int (jI p), .int (jI g), .int (jI q)] (mLay e) (I, E, F) P = P (some (.int (jI n))) (mLay e) (iU (iU (iU (iU (iU (iU I 5 n (jI p)) 6 n (jI g)) 7 n (jI q)) 8 n (jI 20)) 9 n (jI (-1))) 4 0 (jI ((n : Int) + 1)), E, F) := by
  simp only [g65_in, g65_0, g65_1, g65_4, g65_6, g65_9, g65_11, g65_12, g65_13, g65_16, g65_17, g65_20, g65_21, g65_22, g65_23, g65_26, g65_27, g65_30, g65_31, g65_32, g65_33, g65_36, g65_37, g65_40, g65_41, g65_42, g65_43, g65_46, g65_47, g65_50, g65_52, g65_53, g65_54, g65_57, g65_58, g65_61, g65_62, g65_63, g65_64, g65_65, g65_68, g65_69, g65_70, g65_73, g65_74, g65_77, g65_78, g65_79, nl_none, nl_int, nl_ref, Option.toList_some, Option.toList_none, List.cons_append, List.nil_append, mSetI_u, mSetL_u, Nat.add_one_ne_zero, Nat.add_eq_zero_iff, and_false, false_and, not_false_eq_true, ne_eq, j0_0, j0_1, j1_0, j1_1, if_true, if_false, ite_true, ite_false, true_and, and_true, or_true, true_or, false_or, or_false, ↓reduceIte, Nat.reduceEqDiff, Nat.reduceAdd, Nat.reduceMul, Nat.reduceSub, Int.reduceLE, Int.reduceLT, Int.reduceNeg, Int.reduceAdd, Int.reduceSub, Int.reduceEq, reduceCtorEq, jI_lt, jI_eq, jI_lt0, jI_0lt, jI_eq0, jI_0le, jn_lo, iU_row, iU_nr, iU_eq, iU_same, jI_ixn, jI_add, jI_sub, jI_nat, sh_4, sh_5, sh_6, sh_7, sh_8, sh_9, f_4_1 hF, f_4_2 hF, f_4_3 hF, f_4_4 hF, f_4_5 hF, hc.2.1, show ((n : Nat) : Int) ≤ 2147483647 by omega, show (n : Nat) ≤ 2147483647 by omega, show (n : Int) < 8 by omega, jI_in (z := ((n : Int) : Int)) (n := 8) (by omega) (by omega) (by omega), show (n : Int) + 1 - 1 = (n : Int) by omega]
theorem vTc_add {p g q : Int} (hc : vTc n T 4 I) : vTc (n + 1) (pAdd T n p g q) 4 (iU (iU (iU (iU (iU (iU I 5 n (jI p)) 6 n (jI g)) 7 n (jI q)) 8 n (jI 20)) 9 n (jI (-1))) 4 0 (jI ((n : Int) + 1))) := by
  rw [vTc_iff] at hc ⊢
  refine ⟨fun i hi w hw => ?_, ?_, ?_, ?_⟩
  · by_cases h : i = n
    · subst h
      rcases (by omega : w = 0 ∨ w = 1 ∨ w = 2 ∨ w = 3 ∨ w = 4) with rfl | rfl | rfl | rfl | rfl <;> simp [iU, pAdd]
    · rw [iU_ne (by omega), iU_ne (by omega), iU_ne (by omega), iU_ne (by omega), iU_ne (by omega), iU_ne (by omega), hc.1 i (by omega) w hw]
      simp only [pAdd, h, and_false, if_false]
  · rw [iU_eq]
    rfl
  · rw [iU_ne (by omega), iU_nr (by omega), iU_nr (by omega), iU_nr (by omega), iU_nr (by omega), iU_nr (by omega), hc.2.2.1]
    simp [pAdd]
  · rw [iU_ne (by omega), iU_nr (by omega), iU_nr (by omega), iU_nr (by omega), iU_nr (by omega), iU_nr (by omega), hc.2.2.2]
    simp [pAdd]
theorem r154 {p g q : Int} (hF : mFx F st nx gf rl dr) (hn : n < 8) (hm : I 80 2 = jI n) : mF (d + 1) 154 [.ref 80, .int (jI p), .int (jI g), .int (jI q)] (mLay e) (I, E, F) P = P (some (.int (jI n))) (mLay e) (iU (iU (iU (iU (iU (iU I 81 (5 * n) (jI p)) 81 (5 * n + 1) (jI g)) 81 (5 * n + 2) (jI q)) 81 (5 * n + 3) (jI 20)) 81 (5 * n + 4) (jI (-1))) 80 2 (jI ((n : Int) + 1)), E, F) := by
  simp only [g154_in, g154_0, g154_1, g154_4, g154_6, g154_7, g154_9, g154_10, g154_11, g154_14, g154_15, g154_17, g154_18, g154_19, g154_22, g154_23, g154_25, g154_26, g154_27, g154_30, g154_31, g154_33, g154_34, g154_36, g154_39, g154_40, g154_42, g154_43, g154_44, g154_47, g154_48, g154_49, g154_52, g154_53, g154_54, g154_57, g154_59, nl_none, nl_int, nl_ref, Option.toList_some, Option.toList_none, List.cons_append, List.nil_append, mSetI_u, mSetL_u, Nat.add_one_ne_zero, Nat.add_eq_zero_iff, and_false, false_and, not_false_eq_true, ne_eq, j0_0, j0_1, j1_0, j1_1, if_true, if_false, ite_true, ite_false, true_and, and_true, or_true, true_or, false_or, or_false, ↓reduceIte, Nat.reduceEqDiff, Nat.reduceAdd, Nat.reduceMul, Nat.reduceSub, Int.reduceLE, Int.reduceLT, Int.reduceNeg, Int.reduceAdd, Int.reduceSub, Int.reduceEq, reduceCtorEq, jI_lt, jI_eq, jI_lt0, jI_0lt, jI_eq0, jI_0le, jn_lo, iU_row, iU_nr, iU_eq, iU_same, jI_ixn, jI_add, jI_sub, jI_nat, sh_80, hm, r153 hF, Int.reduceToNat, Nat.add_zero, show n ≤ 7 by omega]
theorem vTr_add {p g q : Int} (hn : n < 8) (hR : vTownR n T (I 81) (I 80 2)) : vTownR (n + 1) (pAdd T n p g q) (iU (iU (iU (iU (iU (iU I 81 (5 * n) (jI p)) 81 (5 * n + 1) (jI g)) 81 (5 * n + 2) (jI q)) 81 (5 * n + 3) (jI 20)) 81 (5 * n + 4) (jI (-1))) 80 2 (jI ((n : Int) + 1)) 81) (jI ((n : Int) + 1)) := by
  rw [iU_row (by omega)]
  refine ⟨fun i hi w hw => ?_, ?_, ?_, rfl⟩
  · by_cases h : i = n
    · subst h
      rcases (by omega : w = 0 ∨ w = 1 ∨ w = 2 ∨ w = 3 ∨ w = 4) with rfl | rfl | rfl | rfl | rfl <;> simp [iU, pAdd]
    · rw [iU_ne (by omega), iU_ne (by omega), iU_ne (by omega), iU_ne (by omega), iU_ne (by omega), hR.1 i (by omega) w hw]
      simp only [pAdd, h, and_false, if_false]
  · rw [iU_ne (by omega), iU_ne (by omega), iU_ne (by omega), iU_ne (by omega), iU_ne (by omega), hR.2.1]
    simp [pAdd]
  · rw [iU_ne (by omega), iU_ne (by omega), iU_ne (by omega), iU_ne (by omega), iU_ne (by omega), hR.2.2.1]
    simp [pAdd]
theorem sU_town {r : Nat} (j : Nat) (h : 4 ≤ r ∧ r ≤ 9) : vScU r j := .inl (.inl h)
theorem sU_81 (j : Nat) : vScU 81 j := .inl (sS_81 j)
theorem sU_802 : vScU 80 2 := .inr (.inr (.inl ⟨rfl, .inl rfl⟩))
theorem sU_held : vScU 22 3 := .inl (.inr (.inl ⟨rfl, rfl⟩))
/-- one person more on both sides -/
theorem vInv_add {p g q : Int} (hI : vInv c e I E F st nx gf rl dr n bn T lw) (hn : n < 8) (hp : 0 ≤ p ∧ p ≤ 35) (hg : 0 ≤ g ∧ g ≤ 9) (hq : 0 ≤ q ∧ q ≤ 9) : vInv c e (iU (iU (iU (iU (iU (iU (iU (iU (iU (iU (iU (iU (iU I 22 3 (jI (-1))) 5 n (jI p)) 6 n (jI g)) 7 n (jI q)) 8 n (jI 20)) 9 n (jI (-1))) 4 0 (jI ((n : Int) + 1))) 81 (5 * n) (jI p)) 81 (5 * n + 1) (jI g)) 81 (5 * n + 2) (jI q)) 81 (5 * n + 3) (jI 20)) 81 (5 * n + 4) (jI (-1))) 80 2 (jI ((n : Int) + 1))) E F st nx gf rl dr (n + 1) bn (pAdd T n p g q) lw := by
  have h5 := hI.2.2.2.2.1
  have h6 : vTc n T 4 I := hI.2.2.2.2.2.1
  have h7 := hI.2.2.2.2.2.2.1
  have h9 := hI.2.2.2.2.2.2.2.2.1
  have h11 := hI.2.2.2.2.2.2.2.2.2.2.1
  refine vU_up hI (vAg_iU (vAg_iU (vAg_iU (vAg_iU (vAg_iU (vAg_iU (vAg_iU (vAg_iU (vAg_iU (vAg_iU (vAg_iU (vAg_iU (vAg_iU vAg_rfl sU_held) (sU_town _ (by omega))) (sU_town _ (by omega))) (sU_town _ (by omega))) (sU_town _ (by omega))) (sU_town _ (by omega))) (sU_town _ (by omega))) (sU_81 _)) (sU_81 _)) (sU_81 _)) (sU_81 _)) (sU_81 _)) sU_802) (Nat.le_succ n) (pAdd_ok h5 hn hp hg hq) ?_ ?_ ?_ ?_ ?_
  · have h := vTc_add (p := p) (g := g) (q := q) (vTc_ag (R := fun r j => r = 22) (vAg_iU (x := jI (-1)) (j := 3) vAg_rfl rfl) (fun r j q => by omega) h6)
    exact vTc_ag (R := fun r j => r = 80 ∨ r = 81) (vAg_iU (vAg_iU (vAg_iU (vAg_iU (vAg_iU (vAg_iU vAg_rfl (.inr rfl)) (.inr rfl)) (.inr rfl)) (.inr rfl)) (.inr rfl)) (.inl rfl)) (fun r j q => by omega) h
  · have h := vTr_add (I := iU (iU (iU (iU (iU (iU (iU I 22 3 (jI (-1))) 5 n (jI p)) 6 n (jI g)) 7 n (jI q)) 8 n (jI 20)) 9 n (jI (-1))) 4 0 (jI ((n : Int) + 1))) (p := p) (g := g) (q := q) hn (by
      simp only [iU_row, Nat.reduceEqDiff, not_false_eq_true]
      exact h7)
    rw [iU_eq]
    exact h
  · simp only [iU_row, iU_eq, Nat.reduceEqDiff, not_false_eq_true]
  · simp only [iU_row, Nat.reduceEqDiff, not_false_eq_true]
    exact h9
  · have h := vChgs_up h11 (Nat.le_succ n)
    simp only [iU_row, iU_same, Nat.reduceEqDiff, not_false_eq_true]
    exact h
end APC
theorem api_person (x : Int32) : mApiI vI 93 155 [.int x] := by
  rintro c lay M hc ⟨e, I, E, F, st, nx, gf, rl, dr, n, bn, T, lw, rfl, rfl, hI⟩
  have hF := hI.1
  have hI0 := hI
  obtain ⟨-, -, h3, -, h5, h6, h7, h8, h9, h10, h11, h12, h13, h14, h15, h16, h17, h18⟩ := hI
  have hrl : rl = 70 ∨ rl = 75 := by omega
  clear h3
  have hn := h5.1
  have hc4 : vTc n T 4 I := h6
  have hrl0 : ¬ rl = 0 := by omega
  obtain ⟨z, hz0, hz1, rfl⟩ := jI_of x
  by_cases h : 0 ≤ z ∧ z ≤ 35
  · by_cases h8 : n = 8
    · subst h8
      simp only [g93_in, g93_0, g93_1, g93_2, g93_4, g93_7, g93_10, g93_11, g93_12, g93_13, g93_16, g93_19, g93_21, g93_24, g93_26, g93_27, g93_28, g93_31, g93_34, g93_35, g93_38, g93_39, g93_40, g93_41, g93_44, g155_in, g155_0, g155_1, g155_2, g155_4, g155_7, g155_10, g155_11, g155_12, g155_13, g155_16, g155_18, g155_21, g155_23, g155_26, g155_27, g155_28, g155_29, g155_30, g155_33, nl_none, nl_int, nl_ref, Option.toList_some, Option.toList_none, List.cons_append, List.nil_append, mSetI_u, mSetL_u, Nat.add_one_ne_zero, Nat.add_eq_zero_iff, and_false, false_and, not_false_eq_true, ne_eq, j0_0, j0_1, j1_0, j1_1, if_true, if_false, ite_true, ite_false, true_and, and_true, or_true, true_or, false_or, or_false, ↓reduceIte, Nat.reduceEqDiff, Nat.reduceAdd, Nat.reduceMul, Nat.reduceSub, Int.reduceLE, Int.reduceLT, Int.reduceNeg, Int.reduceAdd, Int.reduceSub, Int.reduceEq, reduceCtorEq, jI_lt, jI_eq, jI_lt0, jI_0lt, jI_eq0, jI_0le, jn_lo, iU_row, iU_nr, iU_eq, iU_same, jI_ixn, jI_add, jI_sub, jI_nat, sh_3, sh_4, sh_80, f_3_0 hF, hc4.2.1, h7.2.2.2, c132_t (z := z) (a := 0) (b := 35) h.1 h.2 (by omega) (by omega), r146_t (z := z) (a := 0) (b := 35) h.1 h.2 (by omega) (by omega), show ((8 : Nat) : Int) = 8 from rfl]
      exact vI_fin (vI_same hI0)
    · have hn8 : n < 8 := by omega
      have hc4' : ∀ x, vTc n T 4 (iU I 22 3 x) := fun x => vTc_ag (R := fun r j => r = 22) (vAg_iU vAg_rfl rfl) (fun r j q => by omega) hc4
      simp only [g93_in, g93_0, g93_1, g93_2, g93_4, g93_7, g93_10, g93_11, g93_12, g93_13, g93_16, g93_19, g93_21, g93_24, g93_26, g93_27, g93_28, g93_31, g93_34, g93_35, g93_38, g93_39, g93_40, g93_41, g93_44, g155_in, g155_0, g155_1, g155_2, g155_4, g155_7, g155_10, g155_11, g155_12, g155_13, g155_16, g155_18, g155_21, g155_23, g155_26, g155_27, g155_28, g155_29, g155_30, g155_33, g29_in, g29_0, g29_1, g29_2, g29_5, nl_none, nl_int, nl_ref, Option.toList_some, Option.toList_none, List.cons_append, List.nil_append, mSetI_u, mSetL_u, Nat.add_one_ne_zero, Nat.add_eq_zero_iff, and_false, false_and, not_false_eq_true, ne_eq, j0_0, j0_1, j1_0, j1_1, if_true, if_false, ite_true, ite_false, true_and, and_true, or_true, true_or, false_or, or_false, ↓reduceIte, Nat.reduceEqDiff, Nat.reduceAdd, Nat.reduceMul, Nat.reduceSub, Int.reduceLE, Int.reduceLT, Int.reduceNeg, Int.reduceAdd, Int.reduceSub, Int.reduceEq, reduceCtorEq, jI_lt, jI_eq, jI_lt0, jI_0lt, jI_eq0, jI_0le, jn_lo, iU_row, iU_nr, iU_eq, iU_same, jI_ixn, jI_add, jI_sub, jI_nat, sh_3, sh_4, sh_22, sh_80, f_3_0 hF, f_3_3 hF, hc4.2.1, h7.2.2.2, show ((n : Nat) : Int) ≤ 2147483647 by omega, show (n : Nat) ≤ 2147483647 by omega, show (n : Int) < 8 by omega, show ¬ ((n : Int) = 8) by omega, c132_t (z := z) (a := 0) (b := 35) h.1 h.2 (by omega) (by omega), r146_t (z := z) (a := 0) (b := 35) h.1 h.2 (by omega) (by omega), c65 (p := z) (g := 4) (q := 3) hF hn8 (hc4' _), r154 (n := n) (p := z) (g := 4) (q := 3) hF hn8]
      exact vI_fin (vI_of (vInv_up (vInv_add hI0 hn8 h ⟨by omega, by omega⟩ ⟨by omega, by omega⟩)))
  · simp only [g93_in, g93_0, g93_1, g93_2, g93_4, g93_7, g93_10, g93_11, g93_12, g93_13, g93_16, g93_19, g93_21, g93_24, g93_26, g93_27, g93_28, g93_31, g93_34, g93_35, g93_38, g93_39, g93_40, g93_41, g93_44, g155_in, g155_0, g155_1, g155_2, g155_4, g155_7, g155_10, g155_11, g155_12, g155_13, g155_16, g155_18, g155_21, g155_23, g155_26, g155_27, g155_28, g155_29, g155_30, g155_33, nl_none, nl_int, nl_ref, Option.toList_some, Option.toList_none, List.cons_append, List.nil_append, mSetI_u, mSetL_u, Nat.add_one_ne_zero, Nat.add_eq_zero_iff, and_false, false_and, not_false_eq_true, ne_eq, j0_0, j0_1, j1_0, j1_1, if_true, if_false, ite_true, ite_false, true_and, and_true, or_true, true_or, false_or, or_false, ↓reduceIte, Nat.reduceEqDiff, Nat.reduceAdd, Nat.reduceMul, Nat.reduceSub, Int.reduceLE, Int.reduceLT, Int.reduceNeg, Int.reduceAdd, Int.reduceSub, Int.reduceEq, reduceCtorEq, jI_lt, jI_eq, jI_lt0, jI_0lt, jI_eq0, jI_0le, jn_lo, iU_row, iU_nr, iU_eq, iU_same, jI_ixn, jI_add, jI_sub, jI_nat, sh_3, sh_80, c132_f (z := z) (a := 0) (b := 35) hz0 hz1 h (by omega) (by omega) (by omega) (by omega), r146_f (z := z) (a := 0) (b := 35) hz0 hz1 h (by omega) (by omega) (by omega) (by omega)]
    exact vI_fin (vI_same hI0)
theorem api_count (x : Int32) : mApiI vI 131 228 [.int x] := by
  rintro c lay M hc ⟨e, I, E, F, st, nx, gf, rl, dr, n, bn, T, lw, rfl, rfl, hI⟩
  have hF := hI.1
  have hI0 := hI
  obtain ⟨-, -, h3, -, h5, h6, h7, h8, h9, h10, h11, h12, h13, h14, h15, h16, h17, h18⟩ := hI
  have hrl : rl = 70 ∨ rl = 75 := by omega
  clear h3
  have hn := h5.1
  have hc4 : vTc n T 4 I := h6
  have hrl0 : ¬ rl = 0 := by omega
  obtain ⟨z, hz0, hz1, rfl⟩ := jI_of x
  have hg : I 80 20 = jI (-1) := h8
  rcases (by omega : z = 0 ∨ z = 1 ∨ z = 2 ∨ z = 3 ∨ z = 4 ∨ z = 5 ∨ (z < 0 ∨ 5 < z)) with rfl | rfl | rfl | rfl | rfl | rfl | h
  · simp only [g131_in, g131_0, g131_1_v0, g131_1_v1, g131_1_v2, g131_1_v3, g131_1_v4, g131_1_v5, g131_1_d, g131_40, g131_41, g131_44, g131_47, g131_48, g131_49, g131_52, g131_55, g131_58, g131_59, g131_60, g131_63, g131_66, g131_67, g131_68, g131_71, g131_74, g131_75, g131_76, g131_79, g131_82, g131_83, g131_84, g131_87, g131_90, g131_91, g131_92, g228_in, g228_0, g228_1_v0, g228_1_v1, g228_1_v2, g228_1_v3, g228_1_v4, g228_1_v5, g228_1_d, g228_40, g228_41, g228_44, g228_45, g228_46, g228_49, g228_52, g228_53, g228_54, g228_57, g228_58, g228_59, g228_62, g228_63, g228_64, g228_67, g228_68, g228_69, g228_72, g228_73, g228_74, nl_none, nl_int, nl_ref, Option.toList_some, Option.toList_none, List.cons_append, List.nil_append, mSetI_u, mSetL_u, Nat.add_one_ne_zero, Nat.add_eq_zero_iff, and_false, false_and, not_false_eq_true, ne_eq, j0_0, j0_1, j1_0, j1_1, if_true, if_false, ite_true, ite_false, true_and, and_true, or_true, true_or, false_or, or_false, ↓reduceIte, Nat.reduceEqDiff, Nat.reduceAdd, Nat.reduceMul, Nat.reduceSub, Int.reduceLE, Int.reduceLT, Int.reduceNeg, Int.reduceAdd, Int.reduceSub, Int.reduceEq, reduceCtorEq, jI_lt, jI_eq, jI_lt0, jI_0lt, jI_eq0, jI_0le, jn_lo, iU_row, iU_nr, iU_eq, iU_same, jI_ixn, jI_add, jI_sub, jI_nat, sh_3, sh_4, sh_80, f_3_0 hF, hc4.2.1, h7.2.2.2]
    exact vI_fin (vI_same hI0)
  · simp only [g131_in, g131_0, g131_1_v0, g131_1_v1, g131_1_v2, g131_1_v3, g131_1_v4, g131_1_v5, g131_1_d, g131_40, g131_41, g131_44, g131_47, g131_48, g131_49, g131_52, g131_55, g131_58, g131_59, g131_60, g131_63, g131_66, g131_67, g131_68, g131_71, g131_74, g131_75, g131_76, g131_79, g131_82, g131_83, g131_84, g131_87, g131_90, g131_91, g131_92, g228_in, g228_0, g228_1_v0, g228_1_v1, g228_1_v2, g228_1_v3, g228_1_v4, g228_1_v5, g228_1_d, g228_40, g228_41, g228_44, g228_45, g228_46, g228_49, g228_52, g228_53, g228_54, g228_57, g228_58, g228_59, g228_62, g228_63, g228_64, g228_67, g228_68, g228_69, g228_72, g228_73, g228_74, nl_none, nl_int, nl_ref, Option.toList_some, Option.toList_none, List.cons_append, List.nil_append, mSetI_u, mSetL_u, Nat.add_one_ne_zero, Nat.add_eq_zero_iff, and_false, false_and, not_false_eq_true, ne_eq, j0_0, j0_1, j1_0, j1_1, if_true, if_false, ite_true, ite_false, true_and, and_true, or_true, true_or, false_or, or_false, ↓reduceIte, Nat.reduceEqDiff, Nat.reduceAdd, Nat.reduceMul, Nat.reduceSub, Int.reduceLE, Int.reduceLT, Int.reduceNeg, Int.reduceAdd, Int.reduceSub, Int.reduceEq, reduceCtorEq, jI_lt, jI_eq, jI_lt0, jI_0lt, jI_eq0, jI_0le, jn_lo, iU_row, iU_nr, iU_eq, iU_same, jI_ixn, jI_add, jI_sub, jI_nat, sh_3, sh_4, sh_80, f_3_0 hF, c74 (vTw_4 hF) h5 hc4, r181 (g := -1) hF h5 (by omega) (by omega) h7 hg, r230]
    exact vI_fin (vI_same hI0)
  · obtain ⟨tl, ht, hlc, hlr, -⟩ := h12
    simp only [g131_in, g131_0, g131_1_v0, g131_1_v1, g131_1_v2, g131_1_v3, g131_1_v4, g131_1_v5, g131_1_d, g131_40, g131_41, g131_44, g131_47, g131_48, g131_49, g131_52, g131_55, g131_58, g131_59, g131_60, g131_63, g131_66, g131_67, g131_68, g131_71, g131_74, g131_75, g131_76, g131_79, g131_82, g131_83, g131_84, g131_87, g131_90, g131_91, g131_92, g228_in, g228_0, g228_1_v0, g228_1_v1, g228_1_v2, g228_1_v3, g228_1_v4, g228_1_v5, g228_1_d, g228_40, g228_41, g228_44, g228_45, g228_46, g228_49, g228_52, g228_53, g228_54, g228_57, g228_58, g228_59, g228_62, g228_63, g228_64, g228_67, g228_68, g228_69, g228_72, g228_73, g228_74, nl_none, nl_int, nl_ref, Option.toList_some, Option.toList_none, List.cons_append, List.nil_append, mSetI_u, mSetL_u, Nat.add_one_ne_zero, Nat.add_eq_zero_iff, and_false, false_and, not_false_eq_true, ne_eq, j0_0, j0_1, j1_0, j1_1, if_true, if_false, ite_true, ite_false, true_and, and_true, or_true, true_or, false_or, or_false, ↓reduceIte, Nat.reduceEqDiff, Nat.reduceAdd, Nat.reduceMul, Nat.reduceSub, Int.reduceLE, Int.reduceLT, Int.reduceNeg, Int.reduceAdd, Int.reduceSub, Int.reduceEq, reduceCtorEq, jI_lt, jI_eq, jI_lt0, jI_0lt, jI_eq0, jI_0le, jn_lo, iU_row, iU_nr, iU_eq, iU_same, jI_ixn, jI_add, jI_sub, jI_nat, sh_3, sh_20, sh_80, f_3_2 hF, hlc, hlr]
    exact vI_fin (vI_same hI0)
  · obtain ⟨dn, kn, -, -, hd, hdr, -⟩ := h11
    simp only [g131_in, g131_0, g131_1_v0, g131_1_v1, g131_1_v2, g131_1_v3, g131_1_v4, g131_1_v5, g131_1_d, g131_40, g131_41, g131_44, g131_47, g131_48, g131_49, g131_52, g131_55, g131_58, g131_59, g131_60, g131_63, g131_66, g131_67, g131_68, g131_71, g131_74, g131_75, g131_76, g131_79, g131_82, g131_83, g131_84, g131_87, g131_90, g131_91, g131_92, g228_in, g228_0, g228_1_v0, g228_1_v1, g228_1_v2, g228_1_v3, g228_1_v4, g228_1_v5, g228_1_d, g228_40, g228_41, g228_44, g228_45, g228_46, g228_49, g228_52, g228_53, g228_54, g228_57, g228_58, g228_59, g228_62, g228_63, g228_64, g228_67, g228_68, g228_69, g228_72, g228_73, g228_74, nl_none, nl_int, nl_ref, Option.toList_some, Option.toList_none, List.cons_append, List.nil_append, mSetI_u, mSetL_u, Nat.add_one_ne_zero, Nat.add_eq_zero_iff, and_false, false_and, not_false_eq_true, ne_eq, j0_0, j0_1, j1_0, j1_1, if_true, if_false, ite_true, ite_false, true_and, and_true, or_true, true_or, false_or, or_false, ↓reduceIte, Nat.reduceEqDiff, Nat.reduceAdd, Nat.reduceMul, Nat.reduceSub, Int.reduceLE, Int.reduceLT, Int.reduceNeg, Int.reduceAdd, Int.reduceSub, Int.reduceEq, reduceCtorEq, jI_lt, jI_eq, jI_lt0, jI_0lt, jI_eq0, jI_0le, jn_lo, iU_row, iU_nr, iU_eq, iU_same, jI_ixn, jI_add, jI_sub, jI_nat, sh_3, sh_48, sh_80, f_3_6 hF, hd, hdr]
    exact vI_fin (vI_same hI0)
  · obtain ⟨-, hmc, hmr, -⟩ := h13
    simp only [g131_in, g131_0, g131_1_v0, g131_1_v1, g131_1_v2, g131_1_v3, g131_1_v4, g131_1_v5, g131_1_d, g131_40, g131_41, g131_44, g131_47, g131_48, g131_49, g131_52, g131_55, g131_58, g131_59, g131_60, g131_63, g131_66, g131_67, g131_68, g131_71, g131_74, g131_75, g131_76, g131_79, g131_82, g131_83, g131_84, g131_87, g131_90, g131_91, g131_92, g228_in, g228_0, g228_1_v0, g228_1_v1, g228_1_v2, g228_1_v3, g228_1_v4, g228_1_v5, g228_1_d, g228_40, g228_41, g228_44, g228_45, g228_46, g228_49, g228_52, g228_53, g228_54, g228_57, g228_58, g228_59, g228_62, g228_63, g228_64, g228_67, g228_68, g228_69, g228_72, g228_73, g228_74, nl_none, nl_int, nl_ref, Option.toList_some, Option.toList_none, List.cons_append, List.nil_append, mSetI_u, mSetL_u, Nat.add_one_ne_zero, Nat.add_eq_zero_iff, and_false, false_and, not_false_eq_true, ne_eq, j0_0, j0_1, j1_0, j1_1, if_true, if_false, ite_true, ite_false, true_and, and_true, or_true, true_or, false_or, or_false, ↓reduceIte, Nat.reduceEqDiff, Nat.reduceAdd, Nat.reduceMul, Nat.reduceSub, Int.reduceLE, Int.reduceLT, Int.reduceNeg, Int.reduceAdd, Int.reduceSub, Int.reduceEq, reduceCtorEq, jI_lt, jI_eq, jI_lt0, jI_0lt, jI_eq0, jI_0le, jn_lo, iU_row, iU_nr, iU_eq, iU_same, jI_ixn, jI_add, jI_sub, jI_nat, sh_3, sh_53, sh_80, f_3_7 hF, hmc, hmr]
    exact vI_fin (vI_same hI0)
  · obtain ⟨-, -, -, -, ⟨rn, -, hrc, hrr, -⟩, -⟩ := h13
    simp only [g131_in, g131_0, g131_1_v0, g131_1_v1, g131_1_v2, g131_1_v3, g131_1_v4, g131_1_v5, g131_1_d, g131_40, g131_41, g131_44, g131_47, g131_48, g131_49, g131_52, g131_55, g131_58, g131_59, g131_60, g131_63, g131_66, g131_67, g131_68, g131_71, g131_74, g131_75, g131_76, g131_79, g131_82, g131_83, g131_84, g131_87, g131_90, g131_91, g131_92, g228_in, g228_0, g228_1_v0, g228_1_v1, g228_1_v2, g228_1_v3, g228_1_v4, g228_1_v5, g228_1_d, g228_40, g228_41, g228_44, g228_45, g228_46, g228_49, g228_52, g228_53, g228_54, g228_57, g228_58, g228_59, g228_62, g228_63, g228_64, g228_67, g228_68, g228_69, g228_72, g228_73, g228_74, nl_none, nl_int, nl_ref, Option.toList_some, Option.toList_none, List.cons_append, List.nil_append, mSetI_u, mSetL_u, Nat.add_one_ne_zero, Nat.add_eq_zero_iff, and_false, false_and, not_false_eq_true, ne_eq, j0_0, j0_1, j1_0, j1_1, if_true, if_false, ite_true, ite_false, true_and, and_true, or_true, true_or, false_or, or_false, ↓reduceIte, Nat.reduceEqDiff, Nat.reduceAdd, Nat.reduceMul, Nat.reduceSub, Int.reduceLE, Int.reduceLT, Int.reduceNeg, Int.reduceAdd, Int.reduceSub, Int.reduceEq, reduceCtorEq, jI_lt, jI_eq, jI_lt0, jI_0lt, jI_eq0, jI_0le, jn_lo, iU_row, iU_nr, iU_eq, iU_same, jI_ixn, jI_add, jI_sub, jI_nat, sh_3, sh_53, sh_80, f_3_7 hF, hrc, hrr]
    exact vI_fin (vI_same hI0)
  · have hN : mNotIn (jI z) [0, 1, 2, 3, 4, 5] = true := mN_05 hz0 hz1 h
    simp only [g131_in, g131_0, g131_1_v0, g131_1_v1, g131_1_v2, g131_1_v3, g131_1_v4, g131_1_v5, g131_1_d, g131_40, g131_41, g131_44, g131_47, g131_48, g131_49, g131_52, g131_55, g131_58, g131_59, g131_60, g131_63, g131_66, g131_67, g131_68, g131_71, g131_74, g131_75, g131_76, g131_79, g131_82, g131_83, g131_84, g131_87, g131_90, g131_91, g131_92, g228_in, g228_0, g228_1_v0, g228_1_v1, g228_1_v2, g228_1_v3, g228_1_v4, g228_1_v5, g228_1_d, g228_40, g228_41, g228_44, g228_45, g228_46, g228_49, g228_52, g228_53, g228_54, g228_57, g228_58, g228_59, g228_62, g228_63, g228_64, g228_67, g228_68, g228_69, g228_72, g228_73, g228_74, nl_none, nl_int, nl_ref, Option.toList_some, Option.toList_none, List.cons_append, List.nil_append, mSetI_u, mSetL_u, Nat.add_one_ne_zero, Nat.add_eq_zero_iff, and_false, false_and, not_false_eq_true, ne_eq, j0_0, j0_1, j1_0, j1_1, if_true, if_false, ite_true, ite_false, true_and, and_true, or_true, true_or, false_or, or_false, ↓reduceIte, Nat.reduceEqDiff, Nat.reduceAdd, Nat.reduceMul, Nat.reduceSub, Int.reduceLE, Int.reduceLT, Int.reduceNeg, Int.reduceAdd, Int.reduceSub, Int.reduceEq, reduceCtorEq, jI_lt, jI_eq, jI_lt0, jI_0lt, jI_eq0, jI_0le, jn_lo, iU_row, iU_nr, iU_eq, iU_same, jI_ixn, jI_add, jI_sub, jI_nat, sh_3, sh_80, hN]
    exact vI_fin (vI_same hI0)
