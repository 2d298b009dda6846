/-! ===== of, cares, gives, undo, redo ===== -/
theorem iU_rf {I : Nat → Nat → Int32} {k j : Nat} {x : Int32} : iU I k j x k = fun b => if b = j then x else I k b := by
  funext b
  exact iU_r
section APS
variable {d o n : Nat} {lay : List mShp} {e : List mShp} {M : mMem} {I I' : Nat → Nat → Int32} {E : Nat → Nat → Int64} {F : Nat → Nat → Nat} {P : mPost} {T T' : Nat → Nat → Int} {lw : vLw} {st nx gf rl dr bn c : Nat} {a b v : Int}
theorem vChgs_ag {R : Nat → Nat → Prop} (h : vAg R I I') (hR : ∀ r j, R r j → ¬ (r = 48 ∧ (j = 4 ∨ j = 5)) ∧ ¬ (r = 80 ∧ (j = 6 ∨ j = 7)) ∧ ¬ (49 ≤ r ∧ r ≤ 52) ∧ ¬ (83 ≤ r ∧ r ≤ 85)) (hc : vChgs n (I 48 4) (I 48 5) (I 80 6) (I 80 7) (I 49) (I 50) (I 51) (I 52) (I 83) (I 84) (I 85)) : vChgs n (I' 48 4) (I' 48 5) (I' 80 6) (I' 80 7) (I' 49) (I' 50) (I' 51) (I' 52) (I' 83) (I' 84) (I' 85) := by
  have hr : ∀ r, ((49 ≤ r ∧ r ≤ 52) ∨ (83 ≤ r ∧ r ≤ 85)) → I' r = I r := fun r hr => vAg_row h (fun j q => by have := hR r j q; omega)
  rw [hr 49 (by omega), hr 50 (by omega), hr 51 (by omega), hr 52 (by omega), hr 83 (by omega), hr 84 (by omega), hr 85 (by omega), h 48 4 (fun q => (hR _ _ q).1 ⟨rfl, .inl rfl⟩), h 48 5 (fun q => (hR _ _ q).1 ⟨rfl, .inr rfl⟩), h 80 6 (fun q => (hR _ _ q).2.1 ⟨rfl, .inl rfl⟩), h 80 7 (fun q => (hR _ _ q).2.1 ⟨rfl, .inr rfl⟩)]
  exact hc
theorem vLed_ag {R : Nat → Nat → Prop} (h : vAg R I I') (hR : ∀ r j, R r j → ¬ r = 60 ∧ ¬ r = 98) (hc : vLed (I 60) (I 98)) : vLed (I' 60) (I' 98) := by
  rw [vAg_row h (fun j q => (hR _ _ q).1 rfl), vAg_row h (fun j q => (hR _ _ q).2 rfl)]
  exact hc
/-- the town and the ledgers -/
def vScS (r j : Nat) : Prop := (4 ≤ r ∧ r ≤ 9) ∨ (r = 22 ∧ j = 3) ∨ r = 60 ∨ r = 81 ∨ r = 98
theorem sc_ST {r j : Nat} (q : vScS r j) : vScT r j := by
  unfold vScS at q
  unfold vScT
  rcases q with q | q | q | q | q
  · exact .inr (.inr (.inl q))
  · exact .inr (.inr (.inr (.inl q)))
  · exact .inr (.inr (.inr (.inr (.inl q))))
  · exact .inr (.inl q)
  · exact .inr (.inr (.inr (.inr (.inr (.inl q)))))
theorem sS_60 (j : Nat) : vScS 60 j := .inr (.inr (.inl rfl))
theorem sS_81 (j : Nat) : vScS 81 j := .inr (.inr (.inr (.inl rfl)))
theorem sS_98 (j : Nat) : vScS 98 j := .inr (.inr (.inr (.inr rfl)))
theorem sc_bS {r j : Nat} (q : (4 ≤ r ∧ r ≤ 9) ∨ (r = 22 ∧ j = 3)) : vScS r j := by
  rcases q with q | q
  · exact .inl q
  · exact .inr (.inl q)
theorem vS_fin (hI : vInv c e I E F st nx gf rl dr n bn T lw) (ha : vAg vScS I I') (hok : vTownOk n T') (hc : vTc n T' 4 I') (hR : vTownR n T' (I' 81) (I' 80 2)) (hheld : I' 22 3 = jI (-1)) (hled : vLed (I' 60) (I' 98)) : vI (c + 1) (mLay e) (I', E, F) := vI_of (vInv_up (vInv_gen hI (vAg_mono ha (fun _ _ q => sc_ST q)) (Nat.le_refl n) hok hc hR hheld hled (vChgs_ag ha (fun r j q => by unfold vScS at q; omega) hI.2.2.2.2.2.2.2.2.2.2.1)))
theorem vLed_set {q : Nat} {x : Int32} {r s t : Nat} (h : vLed (I 60) (I 98)) (hq : q < 5) (h0 : I' 60 = iU I 60 q (I 60 q + x) 60) (h1 : I' 98 = iU I 98 q (I 98 q + x) 98) : vLed (I' 60) (I' 98) := by
  intro j hj
  rw [h0, h1, iU_r, iU_r, h q hq, h j hj]
/-- the town, the ledgers, the changes -/
def vScU (r j : Nat) : Prop := vScS r j ∨ (48 ≤ r ∧ r ≤ 52) ∨ (r = 80 ∧ (j = 2 ∨ j = 6 ∨ j = 7)) ∨ (83 ≤ r ∧ r ≤ 85)
theorem sc_UT {r j : Nat} (q : vScU r j) : vScT r j := by
  rcases q with q | q | q | q
  · exact sc_ST q
  · exact .inr (.inr (.inr (.inr (.inr (.inr (.inl q))))))
  · exact .inr (.inr (.inr (.inr (.inr (.inr (.inr (.inl q)))))))
  · exact .inr (.inr (.inr (.inr (.inr (.inr (.inr (.inr q)))))))
theorem vU_fin (hI : vInv c e I E F st nx gf rl dr n bn T lw) (ha : vAg vScU I I') (hok : vTownOk n T') (hc : vTc n T' 4 I') (hR : vTownR n T' (I' 81) (I' 80 2)) (hheld : I' 22 3 = jI (-1)) (hled : vLed (I' 60) (I' 98)) (hchg : vChgs n (I' 48 4) (I' 48 5) (I' 80 6) (I' 80 7) (I' 49) (I' 50) (I' 51) (I' 52) (I' 83) (I' 84) (I' 85)) : vI (c + 1) (mLay e) (I', E, F) := vI_of (vInv_up (vInv_gen hI (vAg_mono ha (fun _ _ q => sc_UT q)) (Nat.le_refl n) hok hc hR hheld hled hchg))
def vScV (r j : Nat) : Prop := (4 ≤ r ∧ r ≤ 9) ∨ (r = 22 ∧ j = 3) ∨ r = 81 ∨ (r = 48 ∧ j = 4) ∨ (r = 80 ∧ j = 6)
theorem sc_VU {r j : Nat} (q : vScV r j) : vScU r j := by
  rcases q with q | q | q | q | q
  · exact .inl (.inl q)
  · exact .inl (.inr (.inl q))
  · exact .inl (.inr (.inr (.inr (.inl q))))
  · exact .inr (.inl ⟨by omega, by omega⟩)
  · exact .inr (.inr (.inl ⟨q.1, .inr (.inl q.2)⟩))
theorem vChgs_re {x y : Int32} (h : vAg vScV I I') (h4 : I' 48 4 = x) (h6 : I' 80 6 = y) (hc : vChgs n x (I 48 5) y (I 80 7) (I 49) (I 50) (I 51) (I 52) (I 83) (I 84) (I 85)) : vChgs n (I' 48 4) (I' 48 5) (I' 80 6) (I' 80 7) (I' 49) (I' 50) (I' 51) (I' 52) (I' 83) (I' 84) (I' 85) := by
  have hr : ∀ r, ((49 ≤ r ∧ r ≤ 52) ∨ (83 ≤ r ∧ r ≤ 85)) → I' r = I r := fun r hr => vAg_row h (fun j q => by unfold vScV at q; omega)
  rw [hr 49 (by omega), hr 50 (by omega), hr 51 (by omega), hr 52 (by omega), hr 83 (by omega), hr 84 (by omega), hr 85 (by omega), h4, h6, h 48 5 (by unfold vScV; omega), h 80 7 (by unfold vScV; omega)]
  exact hc
end APS
theorem api_of (x y : Int32) : mApiI vI 96 158 [.int x, .int y] := by
  rintro c lay M hc ⟨e, I, E, F, st, nx, gf, rl, dr, n, bn, T, lw, rfl, rfl, hI⟩
  have hF := hI.1
  have hI0 := hI
  obtain ⟨-, -, h3, -, h5, h6, h7, h8, h9, h10, h11, h12, h13, h14, h15, h16, h17, h18⟩ := hI
  have hrl : rl = 70 ∨ rl = 75 := by omega
  clear h3
  have hn := h5.1
  have hc4 : vTc n T 4 I := h6
  have hrl0 : ¬ rl = 0 := by omega
  obtain ⟨a, ha0, ha1, rfl⟩ := jI_of x
  obtain ⟨b, hb0, hb1, rfl⟩ := jI_of y
  by_cases h : pHas n a b
  · have hv := vCode_in hn h
    simp only [g96_in, g96_0, g96_1, g96_4, g96_5, g96_6, g96_9, g96_12, g96_13, g96_16, g96_17, g96_18, g96_21, g96_24, g96_26, g158_in, g158_0, g158_1, g158_2, g158_3, g158_6, g158_7, g158_8, g158_9, g158_12, g158_14, g158_17, g158_18, g158_21, g158_22, g158_23, nl_none, nl_int, nl_ref, Option.toList_some, Option.toList_none, List.cons_append, List.nil_append, mSetI_u, mSetL_u, Nat.add_one_ne_zero, Nat.add_eq_zero_iff, and_false, false_and, not_false_eq_true, ne_eq, j0_0, j0_1, j1_0, j1_1, if_true, if_false, ite_true, ite_false, true_and, and_true, or_true, true_or, false_or, or_false, ↓reduceIte, Nat.reduceEqDiff, Nat.reduceAdd, Nat.reduceMul, Nat.reduceSub, Int.reduceLE, Int.reduceLT, Int.reduceNeg, Int.reduceAdd, Int.reduceSub, Int.reduceEq, reduceCtorEq, jI_lt, jI_eq, jI_lt0, jI_0lt, jI_eq0, jI_0le, jn_lo, iU_row, iU_nr, iU_eq, iU_same, jI_ixn, jI_add, jI_sub, jI_nat, sh_3, sh_4, sh_80, sh_81, f_3_0 hF, f_80_0 hF, c68_t (vTw_4 hF) hn h hc4.2.1, c70 (vTw_4 hF) h5 h hc4, r156_t hF hn h h7.2.2.2, show -2147483648 ≤ (vCode a b : Int) by omega, show (vCode a b : Int) ≤ 2147483647 by omega, show ¬ (vCode a b = -1) by omega, jI_in (z := (vCode a b : Int)) (n := 42) (by omega) (by omega) (by omega), jI_ix (z := vCode a b) (by omega) (by omega), vTr_get hn h h7]
    exact vI_fin (vI_same hI0)
  · simp only [g96_in, g96_0, g96_1, g96_4, g96_5, g96_6, g96_9, g96_12, g96_13, g96_16, g96_17, g96_18, g96_21, g96_24, g96_26, g158_in, g158_0, g158_1, g158_2, g158_3, g158_6, g158_7, g158_8, g158_9, g158_12, g158_14, g158_17, g158_18, g158_21, g158_22, g158_23, nl_none, nl_int, nl_ref, Option.toList_some, Option.toList_none, List.cons_append, List.nil_append, mSetI_u, mSetL_u, Nat.add_one_ne_zero, Nat.add_eq_zero_iff, and_false, false_and, not_false_eq_true, ne_eq, j0_0, j0_1, j1_0, j1_1, if_true, if_false, ite_true, ite_false, true_and, and_true, or_true, true_or, false_or, or_false, ↓reduceIte, Nat.reduceEqDiff, Nat.reduceAdd, Nat.reduceMul, Nat.reduceSub, Int.reduceLE, Int.reduceLT, Int.reduceNeg, Int.reduceAdd, Int.reduceSub, Int.reduceEq, reduceCtorEq, jI_lt, jI_eq, jI_lt0, jI_0lt, jI_eq0, jI_0le, jn_lo, iU_row, iU_nr, iU_eq, iU_same, jI_ixn, jI_add, jI_sub, jI_nat, sh_3, sh_4, sh_80, f_3_0 hF, c68_f (vTw_4 hF) hn ha0 ha1 hb0 hb1 h hc4.2.1, r156_f hF hn ha0 ha1 hb0 hb1 h h7.2.2.2]
    exact vI_fin (vI_same hI0)
theorem api_cares (x y : Int32) : mApiI vI 115 211 [.int x, .int y] := by
  rintro c lay M hc ⟨e, I, E, F, st, nx, gf, rl, dr, n, bn, T, lw, rfl, rfl, hI⟩
  have hF := hI.1
  have hI0 := hI
  obtain ⟨-, -, h3, -, h5, h6, h7, h8, h9, h10, h11, h12, h13, h14, h15, h16, h17, h18⟩ := hI
  have hrl : rl = 70 ∨ rl = 75 := by omega
  clear h3
  have hn := h5.1
  have hc4 : vTc n T 4 I := h6
  have hrl0 : ¬ rl = 0 := by omega
  obtain ⟨a, ha0, ha1, rfl⟩ := jI_of x
  obtain ⟨v, hv0, hv1, rfl⟩ := jI_of y
  by_cases h : 0 ≤ a ∧ a < n
  · by_cases h' : pMay n a 4 v
    · obtain ⟨i, rfl⟩ : ∃ i : Nat, a = i := ⟨a.toNat, by omega⟩
      have hin : i < n := by omega
      have hh : pHas n (i : Int) 4 := .inr ⟨by omega, by omega, h.1, h.2⟩
      have hq : (-1 ≤ v ∧ v ≤ (n : Int) - 1) ∧ ¬ v = i := by
        unfold pMay at h'
        omega
      simp only [g115_in, g115_0, g115_1, g115_4, g115_5, g115_8, g115_11, g115_12, g115_15, g115_16, g115_17, g115_18, g115_21, g115_24, g115_26, g115_27, g115_28, g115_31, g115_32, g115_33, g115_36, g115_37, g115_38, g115_39, g115_40, g115_41, nl_none, nl_int, nl_ref, Option.toList_some, Option.toList_none, List.cons_append, List.nil_append, mSetI_u, mSetL_u, Nat.add_one_ne_zero, Nat.add_eq_zero_iff, and_false, false_and, not_false_eq_true, ne_eq, j0_0, j0_1, j1_0, j1_1, if_true, if_false, ite_true, ite_false, true_and, and_true, or_true, true_or, false_or, or_false, ↓reduceIte, Nat.reduceEqDiff, Nat.reduceAdd, Nat.reduceMul, Nat.reduceSub, Int.reduceLE, Int.reduceLT, Int.reduceNeg, Int.reduceAdd, Int.reduceSub, Int.reduceEq, reduceCtorEq, jI_lt, jI_eq, jI_lt0, jI_0lt, jI_eq0, jI_0le, jn_lo, iU_row, iU_nr, iU_eq, iU_same, jI_ixn, jI_add, jI_sub, jI_nat, sh_3, sh_4, f_3_0 hF, c67_t (vTw_4 hF) hn h.1 h.2 hc4.2.1, c69_t (vTw_4 hF) hn ha0 ha1 h' hc4.2.1, c70 (vTw_4 hF) h5 hh hc4, Int.toNat_natCast, Int.reduceToNat]
      refine c135 hF h5 hh h' hc4 (fun I1 h1' hc1 hd1 => ?_)
      have hR1 : vTownR n T (I1 81) (I1 80 2) := vTr_ag h1' (fun r j q => by omega) h7
      have hg : I1 81 (5 * i + 4) = jI (T 4 i) := hR1.1 i hin 4 (by omega)
      have hset := vTr_set (I := I1) (a := (i : Int)) (b := 4) (v := v) hn hh hR1
      have e4 : (vCode (i : Int) 4).toNat = 5 * i + 4 := by
        rw [vCode, if_pos (by omega)]
        omega
      rw [e4] at hset
      simp only [g115_44, g115_45, g115_48, g115_49, g115_50, g115_51, g115_52, g115_53, g115_54, g115_55, nl_none, nl_int, nl_ref, Option.toList_some, Option.toList_none, List.cons_append, List.nil_append, mSetI_u, mSetL_u, Nat.add_one_ne_zero, Nat.add_eq_zero_iff, and_false, false_and, not_false_eq_true, ne_eq, j0_0, j0_1, j1_0, j1_1, if_true, if_false, ite_true, ite_false, true_and, and_true, or_true, true_or, false_or, or_false, ↓reduceIte, Nat.reduceEqDiff, Nat.reduceAdd, Nat.reduceMul, Nat.reduceSub, Int.reduceLE, Int.reduceLT, Int.reduceNeg, Int.reduceAdd, Int.reduceSub, Int.reduceEq, reduceCtorEq, jI_lt, jI_eq, jI_lt0, jI_0lt, jI_eq0, jI_0le, jn_lo, iU_row, iU_nr, iU_eq, iU_same, jI_ixn, jI_add, jI_sub, jI_nat, sh_3, sh_60, f_3_9 hF, show mIdx (Int32.ofInt 2) 5 = true from rfl, show (Int32.ofInt 2).toNatClampNeg = 2 from rfl]
      refine ⟨sh_80, ?_⟩
      simp only [g211_in, g211_0, g211_1, g211_2, g211_5, g211_8, g211_9, g211_10, g211_11, g211_14, g211_15, g211_16, g211_19, g211_22, g211_23, g211_24, g211_27, g211_29, g211_30, g211_31, g211_32, g211_33, g211_36, g211_37, g211_38, g211_39, g211_40, g211_41, g211_44, g211_45, g211_48, g211_49, g211_50, g211_51, g211_52, g211_53, g211_54, g211_55, nl_none, nl_int, nl_ref, Option.toList_some, Option.toList_none, List.cons_append, List.nil_append, mSetI_u, mSetL_u, Nat.add_one_ne_zero, Nat.add_eq_zero_iff, and_false, false_and, not_false_eq_true, ne_eq, j0_0, j0_1, j1_0, j1_1, if_true, if_false, ite_true, ite_false, true_and, and_true, or_true, true_or, false_or, or_false, ↓reduceIte, Nat.reduceEqDiff, Nat.reduceAdd, Nat.reduceMul, Nat.reduceSub, Int.reduceLE, Int.reduceLT, Int.reduceNeg, Int.reduceAdd, Int.reduceSub, Int.reduceEq, reduceCtorEq, jI_lt, jI_eq, jI_lt0, jI_0lt, jI_eq0, jI_0le, jn_lo, iU_row, iU_nr, iU_eq, iU_same, jI_ixn, jI_add, jI_sub, jI_nat, sh_80, sh_98, f_80_33 hF, show mIdx (Int32.ofInt 2) 5 = true from rfl, show (Int32.ofInt 2).toNatClampNeg = 2 from rfl, r151_t hF hn h.1 h.2, hR1.2.2.2, r146_t (z := v) (a := -1) (b := (n : Int) - 1) hq.1.1 hq.1.2 (by omega) (by omega), show ((i : Nat) : Int) ≤ 2147483647 by omega, show (i : Nat) ≤ 2147483647 by omega, hv0, hv1, show ¬ (v = (i : Int)) by omega, r152 hF, r153 hF, Int.reduceToNat, show i ≤ 7 by omega, hg]
      refine vI_fin (vS_fin hI0 (vAg_iU (vAg_iU (vAg_iU (vAg_mono h1' (fun r j q => sc_bS q)) (sS_60 _)) (sS_81 _)) (sS_98 _)) (pSet_ok h5 hh h') ?_ ?_ ?_ ?_)
      · exact vTc_ag (R := fun r j => r = 60 ∨ r = 81 ∨ r = 98) (vAg_iU (vAg_iU (vAg_iU vAg_rfl (by omega)) (by omega)) (by omega)) (fun r j q => by omega) hc1
      · simp only [iU_row, Nat.reduceEqDiff, not_false_eq_true]
        simp only [iU_row, Nat.reduceEqDiff, not_false_eq_true] at hset
        exact hset
      · simp only [iU_row, Nat.reduceEqDiff, not_false_eq_true]
        exact hd1
      · refine vLed_set (I := I1) (q := 2) (x := Int32.ofInt 1) (r := 0) (s := 0) (t := 0) (vLed_ag h1' (fun r j q => by omega) h9) (by omega) ?_ ?_
        · simp only [iU_row, Nat.reduceEqDiff, not_false_eq_true]
        · funext j
          simp only [iU_r, iU_row, Nat.reduceEqDiff, not_false_eq_true]
    · have hq : ¬ (-1 ≤ v ∧ v ≤ (n : Int) - 1) ∨ (v = a ∧ (-1 ≤ v ∧ v ≤ (n : Int) - 1)) := by
        unfold pMay at h'
        omega
      rcases hq with hq | ⟨hq, hq'⟩
      · simp only [g115_in, g115_0, g115_1, g115_4, g115_5, g115_8, g115_11, g115_12, g115_15, g115_16, g115_17, g115_18, g115_21, g115_24, g115_26, g115_27, g115_28, g115_31, g115_32, g115_33, g115_36, g115_37, g115_38, g115_39, g115_40, g115_41, g115_44, g115_45, g115_48, g115_49, g115_50, g115_51, g115_52, g115_53, g115_54, g115_55, g211_in, g211_0, g211_1, g211_2, g211_5, g211_8, g211_9, g211_10, g211_11, g211_14, g211_15, g211_16, g211_19, g211_22, g211_23, g211_24, g211_27, g211_29, g211_30, g211_31, g211_32, g211_33, g211_36, g211_37, g211_38, g211_39, g211_40, g211_41, g211_44, g211_45, g211_48, g211_49, g211_50, g211_51, g211_52, g211_53, g211_54, g211_55, nl_none, nl_int, nl_ref, Option.toList_some, Option.toList_none, List.cons_append, List.nil_append, mSetI_u, mSetL_u, Nat.add_one_ne_zero, Nat.add_eq_zero_iff, and_false, false_and, not_false_eq_true, ne_eq, j0_0, j0_1, j1_0, j1_1, if_true, if_false, ite_true, ite_false, true_and, and_true, or_true, true_or, false_or, or_false, ↓reduceIte, Nat.reduceEqDiff, Nat.reduceAdd, Nat.reduceMul, Nat.reduceSub, Int.reduceLE, Int.reduceLT, Int.reduceNeg, Int.reduceAdd, Int.reduceSub, Int.reduceEq, reduceCtorEq, jI_lt, jI_eq, jI_lt0, jI_0lt, jI_eq0, jI_0le, jn_lo, iU_row, iU_nr, iU_eq, iU_same, jI_ixn, jI_add, jI_sub, jI_nat, sh_3, sh_4, sh_80, f_3_0 hF, c67_t (vTw_4 hF) hn h.1 h.2 hc4.2.1, c69_f (b := 4) (vTw_4 hF) hn ha0 ha1 hv0 hv1 (by omega) h' hc4.2.1, r151_t hF hn h.1 h.2 h7.2.2.2, h7.2.2.2, r146_f (z := v) (a := -1) (b := (n : Int) - 1) hv0 hv1 hq (by omega) (by omega) (by omega) (by omega)]
        exact vI_fin (vI_same hI0)
      · subst hq
        simp only [g115_in, g115_0, g115_1, g115_4, g115_5, g115_8, g115_11, g115_12, g115_15, g115_16, g115_17, g115_18, g115_21, g115_24, g115_26, g115_27, g115_28, g115_31, g115_32, g115_33, g115_36, g115_37, g115_38, g115_39, g115_40, g115_41, g115_44, g115_45, g115_48, g115_49, g115_50, g115_51, g115_52, g115_53, g115_54, g115_55, g211_in, g211_0, g211_1, g211_2, g211_5, g211_8, g211_9, g211_10, g211_11, g211_14, g211_15, g211_16, g211_19, g211_22, g211_23, g211_24, g211_27, g211_29, g211_30, g211_31, g211_32, g211_33, g211_36, g211_37, g211_38, g211_39, g211_40, g211_41, g211_44, g211_45, g211_48, g211_49, g211_50, g211_51, g211_52, g211_53, g211_54, g211_55, nl_none, nl_int, nl_ref, Option.toList_some, Option.toList_none, List.cons_append, List.nil_append, mSetI_u, mSetL_u, Nat.add_one_ne_zero, Nat.add_eq_zero_iff, and_false, false_and, not_false_eq_true, ne_eq, j0_0, j0_1, j1_0, j1_1, if_true, if_false, ite_true, ite_false, true_and, and_true, or_true, true_or, false_or, or_false, ↓reduceIte, Nat.reduceEqDiff, Nat.reduceAdd, Nat.reduceMul, Nat.reduceSub, Int.reduceLE, Int.reduceLT, Int.reduceNeg, Int.reduceAdd, Int.reduceSub, Int.reduceEq, reduceCtorEq, jI_lt, jI_eq, jI_lt0, jI_0lt, jI_eq0, jI_0le, jn_lo, iU_row, iU_nr, iU_eq, iU_same, jI_ixn, jI_add, jI_sub, jI_nat, sh_3, sh_4, sh_80, f_3_0 hF, c67_t (vTw_4 hF) hn h.1 h.2 hc4.2.1, c69_f (b := 4) (vTw_4 hF) hn ha0 ha1 hv0 hv1 (by omega) h' hc4.2.1, r151_t hF hn h.1 h.2 h7.2.2.2, h7.2.2.2, r146_t (z := v) (a := -1) (b := (n : Int) - 1) hq'.1 hq'.2 (by omega) (by omega), eq_self]
        exact vI_fin (vI_same hI0)
  · simp only [g115_in, g115_0, g115_1, g115_4, g115_5, g115_8, g115_11, g115_12, g115_15, g115_16, g115_17, g115_18, g115_21, g115_24, g115_26, g115_27, g115_28, g115_31, g115_32, g115_33, g115_36, g115_37, g115_38, g115_39, g115_40, g115_41, g115_44, g115_45, g115_48, g115_49, g115_50, g115_51, g115_52, g115_53, g115_54, g115_55, g211_in, g211_0, g211_1, g211_2, g211_5, g211_8, g211_9, g211_10, g211_11, g211_14, g211_15, g211_16, g211_19, g211_22, g211_23, g211_24, g211_27, g211_29, g211_30, g211_31, g211_32, g211_33, g211_36, g211_37, g211_38, g211_39, g211_40, g211_41, g211_44, g211_45, g211_48, g211_49, g211_50, g211_51, g211_52, g211_53, g211_54, g211_55, nl_none, nl_int, nl_ref, Option.toList_some, Option.toList_none, List.cons_append, List.nil_append, mSetI_u, mSetL_u, Nat.add_one_ne_zero, Nat.add_eq_zero_iff, and_false, false_and, not_false_eq_true, ne_eq, j0_0, j0_1, j1_0, j1_1, if_true, if_false, ite_true, ite_false, true_and, and_true, or_true, true_or, false_or, or_false, ↓reduceIte, Nat.reduceEqDiff, Nat.reduceAdd, Nat.reduceMul, Nat.reduceSub, Int.reduceLE, Int.reduceLT, Int.reduceNeg, Int.reduceAdd, Int.reduceSub, Int.reduceEq, reduceCtorEq, jI_lt, jI_eq, jI_lt0, jI_0lt, jI_eq0, jI_0le, jn_lo, iU_row, iU_nr, iU_eq, iU_same, jI_ixn, jI_add, jI_sub, jI_nat, sh_3, sh_4, sh_80, f_3_0 hF, c67_f (vTw_4 hF) hn ha0 ha1 h hc4.2.1, r151_f hF hn ha0 ha1 h h7.2.2.2]
    exact vI_fin (vI_same hI0)
