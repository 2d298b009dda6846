/-! ===== mended: the class's search over memory ===== -/
theorem qBit_t {b i : Nat} (hb : b < 256) (hi : i < 8) (h : pBt b i = true) : (jI (b : Int) >>> (jI (i : Int) &&& 31)) &&& jI 1 = jI 1 := by
  have := pSh_d ⟨b, hb⟩ ⟨i, by omega⟩
  rw [h, if_pos rfl] at this
  exact this
theorem qBit_f {b i : Nat} (hb : b < 256) (hi : i < 8) (h : pBt b i = false) : (jI (b : Int) >>> (jI (i : Int) &&& 31)) &&& jI 1 = jI 0 := by
  have := pSh_d ⟨b, hb⟩ ⟨i, by omega⟩
  rw [h, if_neg (by decide)] at this
  exact this
theorem qBit_o {b i : Nat} (hb : b < 256) (hi : i < 8) : jI (b : Int) ||| (jI 1 <<< (jI (i : Int) &&& 31)) = jI ((b ||| 2 ^ i : Nat) : Int) := (pLb_d ⟨i, hi⟩ ⟨b, hb⟩).1
def qMm (n : Nat) (s : qSt) (I : Nat → Nat → Int32) : Prop := I 28 1 = jI s.1 ∧ (0 ≤ s.1 ∧ s.1 ≤ 9) ∧ (s.1 ≤ 8 → ∀ j, j < n → I 29 j = jI (s.2.2 j))
def vScM (r _ : Nat) : Prop := 28 ≤ r ∧ r ≤ 30
def c14S (n : Nat) (e : List mShp) (E : Nat → Nat → Int64) (F : Nat → Nat → Nat) (T : Nat → Nat → Int) (k : Nat) : Prop := ∀ (d who b : Nat) (w : Nat → Nat) (oth : Int) (s : qSt) (I : Nat → Nat → Int32) (P : mPost) (zi zb zo : Int32), who + k = n → qIn n who w b → 0 ≤ oth → oth ≤ who → vTc n T 4 I → (∀ j, j < who → I 30 j = jI (w j)) → qMm n s I → zi = jI who → zb = jI b → zo = jI oth → (∀ I', vAg vScM I I' → (∀ j, j < who → I' 30 j = jI (w j)) → qMm n (qSm T n k who w b oth s) I' → P none (mLay e) (I', E, F)) → mF (d + k) 14 [.ref 28, .ref 4, .int zi, .int zb, .int zo] (mLay e) (I, E, F) P
section MTC
variable {d n : Nat} {e : List mShp} {I : Nat → Nat → Int32} {E : Nat → Nat → Int64} {F : Nat → Nat → Nat} {P : mPost} {T : Nat → Nat → Int} {lw : vLw} {st nx gf rl dr : Nat}
theorem c14_0 (hF : mFx F st nx gf rl dr) (hn : n ≤ 8) : c14S n e E F T 0 := by
  intro d who b w oth s I P zi zb zo hk hi h0 h1 hc hw hm hzi hzb hzo hP
  have ew : who = n := by omega
  subst ew hzi hzb hzo
  obtain ⟨m1, m2, m3⟩ := hm
  by_cases q : oth < s.1
  · have hp := hP (cU (iU I 28 1 (jI oth)) 30 29 0 0 8) (fun r j hr => by
      unfold vScM at hr
      rw [cU_row (by omega), iU_row (by omega)]) (fun j hj => by
      rw [cU_row (by omega), iU_row (by omega)]
      exact hw j hj) (by
      rw [qSm, qLm, if_pos q]
      refine ⟨?_, ⟨h0, by show oth ≤ 9; omega⟩, fun _ j hj => ?_⟩
      · rw [cU_row (by omega), iU_eq]
      · rw [cU_0 (show j < 8 by omega), iU_row (by omega)]
        exact hw j hj)
    simp only [g14_in, g14_0, g14_2, g14_3, g14_6, g14_9, g14_10, g14_11, g14_12, g14_15, g14_18, g14_19, g14_21, g14_24, g14_25, g14_28, g14_29, g14_30, g14_33, g14_34, g14_36, g14_39, nl_none, nl_int, nl_ref, Option.toList_some, Option.toList_none, List.cons_append, List.nil_append, mSetI_u, mSetL_u, Nat.add_one_ne_zero, Nat.add_eq_zero_iff, and_false, false_and, not_false_eq_true, ne_eq, j0_0, j0_1, j1_0, j1_1, if_true, if_false, ite_true, ite_false, true_and, and_true, or_true, true_or, false_or, or_false, ↓reduceIte, Nat.reduceEqDiff, Nat.reduceAdd, Nat.reduceMul, Nat.reduceSub, Int.reduceLE, Int.reduceLT, Int.reduceNeg, Int.reduceAdd, Int.reduceSub, Int.reduceEq, reduceCtorEq, jI_lt, jI_eq, jI_lt0, jI_0lt, jI_eq0, jI_0le, jn_lo, iU_row, iU_nr, iU_eq, iU_same, jI_ixn, jI_add, jI_sub, jI_nat, sh_28, sh_4, sh_29, sh_30, f_28_0 hF, f_28_2 hF, m1, hc.2.1, show -2147483648 ≤ (oth : Int) by omega, show (oth : Int) ≤ 2147483647 by omega, show -2147483648 ≤ (s.1 : Int) by omega, show (s.1 : Int) ≤ 2147483647 by omega, show ((who : Nat) : Int) ≤ 2147483647 by omega, show (who : Nat) ≤ 2147483647 by omega, q, show ¬ ((who : Int) < (who : Int)) by omega, mCpyI_u, n8_8, n0_0, cp_8]
    exact hp
  · have hp := hP I vAg_rfl hw (by
      rw [qSm, qLm, if_neg q]
      exact ⟨m1, m2, m3⟩)
    simp only [g14_in, g14_0, g14_2, g14_3, g14_6, g14_9, nl_none, nl_int, nl_ref, Option.toList_some, Option.toList_none, List.cons_append, List.nil_append, mSetI_u, mSetL_u, Nat.add_one_ne_zero, Nat.add_eq_zero_iff, and_false, false_and, not_false_eq_true, ne_eq, j0_0, j0_1, j1_0, j1_1, if_true, if_false, ite_true, ite_false, true_and, and_true, or_true, true_or, false_or, or_false, ↓reduceIte, Nat.reduceEqDiff, Nat.reduceAdd, Nat.reduceMul, Nat.reduceSub, Int.reduceLE, Int.reduceLT, Int.reduceNeg, Int.reduceAdd, Int.reduceSub, Int.reduceEq, reduceCtorEq, jI_lt, jI_eq, jI_lt0, jI_0lt, jI_eq0, jI_0le, jn_lo, iU_row, iU_nr, iU_eq, iU_same, jI_ixn, jI_add, jI_sub, jI_nat, sh_28, m1, show -2147483648 ≤ (oth : Int) by omega, show (oth : Int) ≤ 2147483647 by omega, show -2147483648 ≤ (s.1 : Int) by omega, show (s.1 : Int) ≤ 2147483647 by omega, q]
    exact hp
theorem c14_l (hF : mFx F st nx gf rl dr) (hok : vTownOk n T) {k : Nat} (ih : c14S n e E F T k) {who b : Nat} {w : Nat → Nat} {oth : Int} {s : qSt} (hk : who + (k + 1) = n) (hin : qIn n who w b) (h0 : 0 ≤ oth) (h1 : oth ≤ who) (hc : vTc n T 4 I) (hP : ∀ I', vAg vScM I I' → (∀ j, j < who → I' 30 j = jI (w j)) → qMm n (qLp (fun i st => if qFree who b i = true then qSm T n k (who + 1) (qUp w who i) (b ||| 2 ^ i) (oth + qOth T who i) st else st) n s) I' → P none (mLay e) (I', E, F)) : ∀ (m i : Nat) (z : Int) I', i + m = n → z = i → vAg vScM I I' → (∀ j, j < who → I' 30 j = jI (w j)) → qMm n (qLp (fun i st => if qFree who b i = true then qSm T n k (who + 1) (qUp w who i) (b ||| 2 ^ i) (oth + qOth T who i) st else st) i s) I' → mG (d + k + 1) 14 43 [some (.ref 28), some (.ref 4), some (.int (jI who)), some (.int (jI b)), some (.int (jI oth)), some (.int (jI z))] [] (mLay e) (I', E, F) P
  | 0, i, z, I', hi, hz, ha, hw, hm => by
    have hn := hok.1
    have hc' : vTc n T 4 I' := vTc_ag ha (fun r j q => by unfold vScM at q; omega) hc
    subst hz
    have e : i = n := by omega
    subst e
    rw [g14_43]
    simp only [g14_45, g14_46, g14_49, g14_115, nl_none, nl_int, nl_ref, Option.toList_some, Option.toList_none, List.cons_append, List.nil_append, mSetI_u, mSetL_u, Nat.add_one_ne_zero, Nat.add_eq_zero_iff, and_false, false_and, not_false_eq_true, ne_eq, j0_0, j0_1, j1_0, j1_1, if_true, if_false, ite_true, ite_false, true_and, and_true, or_true, true_or, false_or, or_false, ↓reduceIte, Nat.reduceEqDiff, Nat.reduceAdd, Nat.reduceMul, Nat.reduceSub, Int.reduceLE, Int.reduceLT, Int.reduceNeg, Int.reduceAdd, Int.reduceSub, Int.reduceEq, reduceCtorEq, jI_lt, jI_eq, jI_lt0, jI_0lt, jI_eq0, jI_0le, jn_lo, iU_row, iU_nr, iU_eq, iU_same, jI_ixn, jI_add, jI_sub, jI_nat, sh_4, hc'.2.1, show ((i : Nat) : Int) ≤ 2147483647 by omega, show (i : Nat) ≤ 2147483647 by omega, show ¬ ((i : Int) < (i : Int)) by omega]
    exact hP I' ha hw hm
  | m + 1, i, z, I', hi, hz, ha, hw, hm => by
    have ihm := c14_l hF hok ih hk hin h0 h1 hc hP m (i + 1)
    have hn := hok.1
    have hc' : vTc n T 4 I' := vTc_ag ha (fun r j q => by unfold vScM at q; omega) hc
    have hin' : i < n := by omega
    subst hz
    rw [g14_43]
    by_cases qw : i = who
    · have hf : ¬ qFree who b i = true := fun hf => (qFree_iff.1 hf).1 qw
      have ihm' := ihm ((i : Int) + 1) I' (by omega) (by omega) ha hw (by
        rw [qLp, if_neg hf]
        exact hm)
      subst qw
      simp only [g14_45, g14_46, g14_49, g14_52, g14_54, g14_55, g14_109, g14_112, nl_none, nl_int, nl_ref, Option.toList_some, Option.toList_none, List.cons_append, List.nil_append, mSetI_u, mSetL_u, Nat.add_one_ne_zero, Nat.add_eq_zero_iff, and_false, false_and, not_false_eq_true, ne_eq, j0_0, j0_1, j1_0, j1_1, if_true, if_false, ite_true, ite_false, true_and, and_true, or_true, true_or, false_or, or_false, ↓reduceIte, Nat.reduceEqDiff, Nat.reduceAdd, Nat.reduceMul, Nat.reduceSub, Int.reduceLE, Int.reduceLT, Int.reduceNeg, Int.reduceAdd, Int.reduceSub, Int.reduceEq, reduceCtorEq, jI_lt, jI_eq, jI_lt0, jI_0lt, jI_eq0, jI_0le, jn_lo, iU_row, iU_nr, iU_eq, iU_same, jI_ixn, jI_add, jI_sub, jI_nat, sh_4, hc'.2.1, show ((i : Nat) : Int) ≤ 2147483647 by omega, show (i : Nat) ≤ 2147483647 by omega, show ((n : Nat) : Int) ≤ 2147483647 by omega, show (n : Nat) ≤ 2147483647 by omega, show (i : Int) < (n : Int) by omega, eq_self]
      exact ihm'
    · cases qb : pBt b i with
      | true =>
        have hf : ¬ qFree who b i = true := fun hf => by
          have := (qFree_iff.1 hf).2
          rw [qb] at this
          cases this
        have ihm' := ihm ((i : Int) + 1) I' (by omega) (by omega) ha hw (by
          rw [qLp, if_neg hf]
          exact hm)
        simp only [g14_45, g14_46, g14_49, g14_52, g14_54, g14_55, g14_58, g14_59, g14_61, g14_62, g14_63, g14_64, g14_109, g14_112, nl_none, nl_int, nl_ref, Option.toList_some, Option.toList_none, List.cons_append, List.nil_append, mSetI_u, mSetL_u, Nat.add_one_ne_zero, Nat.add_eq_zero_iff, and_false, false_and, not_false_eq_true, ne_eq, j0_0, j0_1, j1_0, j1_1, if_true, if_false, ite_true, ite_false, true_and, and_true, or_true, true_or, false_or, or_false, ↓reduceIte, Nat.reduceEqDiff, Nat.reduceAdd, Nat.reduceMul, Nat.reduceSub, Int.reduceLE, Int.reduceLT, Int.reduceNeg, Int.reduceAdd, Int.reduceSub, Int.reduceEq, reduceCtorEq, jI_lt, jI_eq, jI_lt0, jI_0lt, jI_eq0, jI_0le, jn_lo, iU_row, iU_nr, iU_eq, iU_same, jI_ixn, jI_add, jI_sub, jI_nat, sh_4, hc'.2.1, show ((i : Nat) : Int) ≤ 2147483647 by omega, show (i : Nat) ≤ 2147483647 by omega, show ((n : Nat) : Int) ≤ 2147483647 by omega, show (n : Nat) ≤ 2147483647 by omega, show ((who : Nat) : Int) ≤ 2147483647 by omega, show (who : Nat) ≤ 2147483647 by omega, show (i : Int) < (n : Int) by omega, show ¬ ((i : Int) = (who : Int)) by omega, qBit_t hin.1 (show i < 8 by omega) qb]
        exact ihm'
      | false =>
        have hf : qFree who b i = true := qFree_iff.2 ⟨qw, qb⟩
        have hup := qIn_up hn hin hin' hf
        have ho := qOth_in T who i
        have hwho : who < n := by omega
        have hwv := (hc'.1 who hwho).2.2.2.2
        have hwo := vOk_w hok hwho
        have hT4 : -1 ≤ T 4 who ∧ T 4 who < n := ⟨hwo.2.2.2.2.2.2.2.2.1, hwo.2.2.2.2.2.2.2.2.2.1⟩
        clear hwo
        have hag : vAg vScM I (iU I' 30 who (jI i)) := vAg_iU ha (show 28 ≤ 30 ∧ 30 ≤ 30 by omega)
        have hcc : vTc n T 4 (iU I' 30 who (jI i)) := vTc_ag hag (fun r j q => by unfold vScM at q; omega) hc
        have hmm : qMm n (qLp (fun i st => if qFree who b i = true then qSm T n k (who + 1) (qUp w who i) (b ||| 2 ^ i) (oth + qOth T who i) st else st) i s) (iU I' 30 who (jI i)) := by
          refine ⟨?_, hm.2.1, fun h j hj => ?_⟩
          · rw [iU_row (by omega)]
            exact hm.1
          · rw [iU_row (by omega)]
            exact hm.2.2 h j hj
        have hww : ∀ j, j < who + 1 → iU I' 30 who (jI i) 30 j = jI (qUp w who i j) := fun j hj => by
          by_cases ej : j = who
          · rw [ej, iU_eq, qUp_eq]
          · rw [iU_same ej, qUp_lt (show j < who by omega)]
            exact hw j (by omega)
        have fin : ∀ I2, vAg vScM (iU I' 30 who (jI i)) I2 → (∀ j, j < who + 1 → I2 30 j = jI (qUp w who i j)) → qMm n (qSm T n k (who + 1) (qUp w who i) (b ||| 2 ^ i) (oth + qOth T who i) (qLp (fun i st => if qFree who b i = true then qSm T n k (who + 1) (qUp w who i) (b ||| 2 ^ i) (oth + qOth T who i) st else st) i s)) I2 → mG (d + k + 1) 14 43 [some (.ref 28), some (.ref 4), some (.int (jI who)), some (.int (jI b)), some (.int (jI oth)), some (.int (jI ((i : Int) + 1)))] [] (mLay e) (I2, E, F) P := fun I2 h2 hw2 hm2 => by
          refine ihm _ I2 (by omega) (by omega) (vAg_tr hag h2) (fun j hj => ?_) ?_
          · rw [hw2 j (by omega), qUp_lt hj]
          · rw [qLp, if_pos hf]
            exact hm2
        by_cases qt : T 4 who = i
        · have eo : oth + qOth T who i = oth := by
            unfold qOth
            rw [if_pos qt]
            omega
          simp only [g14_45, g14_46, g14_49, g14_52, g14_54, g14_55, g14_58, g14_59, g14_61, g14_62, g14_63, g14_64, g14_67, g14_68, g14_71, g14_72, g14_74, g14_75, g14_76, g14_77, g14_78, g14_79, g14_80, g14_81, g14_82, g14_84, g14_85, g14_86, g14_87, g14_90, g14_91, g14_92, g14_94, g14_97, g14_99, g14_102, g14_104, g14_105, g14_106, nl_none, nl_int, nl_ref, Option.toList_some, Option.toList_none, List.cons_append, List.nil_append, mSetI_u, mSetL_u, Nat.add_one_ne_zero, Nat.add_eq_zero_iff, and_false, false_and, not_false_eq_true, ne_eq, j0_0, j0_1, j1_0, j1_1, if_true, if_false, ite_true, ite_false, true_and, and_true, or_true, true_or, false_or, or_false, ↓reduceIte, Nat.reduceEqDiff, Nat.reduceAdd, Nat.reduceMul, Nat.reduceSub, Int.reduceLE, Int.reduceLT, Int.reduceNeg, Int.reduceAdd, Int.reduceSub, Int.reduceEq, reduceCtorEq, jI_lt, jI_eq, jI_lt0, jI_0lt, jI_eq0, jI_0le, jn_lo, iU_row, iU_nr, iU_eq, iU_same, jI_ixn, jI_add, jI_sub, jI_nat, sh_28, sh_4, sh_9, sh_30, f_28_2 hF, f_4_5 hF, hc'.2.1, show ((i : Nat) : Int) ≤ 2147483647 by omega, show (i : Nat) ≤ 2147483647 by omega, show ((n : Nat) : Int) ≤ 2147483647 by omega, show (n : Nat) ≤ 2147483647 by omega, show ((who : Nat) : Int) ≤ 2147483647 by omega, show (who : Nat) ≤ 2147483647 by omega, show (i : Int) < (n : Int) by omega, show ¬ ((i : Int) = (who : Int)) by omega, qBit_f hin.1 (show i < 8 by omega) qb, jI_in (z := ((who : Int) : Int)) (n := 8) (by omega) (by omega) (by omega), hwv, qt, eq_self]
          refine ih d (who + 1) (b ||| 2 ^ i) (qUp w who i) (oth + qOth T who i) _ _ _ _ _ _ (by omega) hup (by omega) (by omega) hcc hww hmm (by rfl) (qBit_o hin.1 (by omega)) (by exact congrArg Int32.ofInt (by omega)) (fun I2 h2 hw2 hm2 => ?_)
          simp only [g14_109, g14_112, nl_none, nl_int, nl_ref, Option.toList_some, Option.toList_none, List.cons_append, List.nil_append, mSetI_u, mSetL_u, Nat.add_one_ne_zero, Nat.add_eq_zero_iff, and_false, false_and, not_false_eq_true, ne_eq, j0_0, j0_1, j1_0, j1_1, if_true, if_false, ite_true, ite_false, true_and, and_true, or_true, true_or, false_or, or_false, ↓reduceIte, Nat.reduceEqDiff, Nat.reduceAdd, Nat.reduceMul, Nat.reduceSub, Int.reduceLE, Int.reduceLT, Int.reduceNeg, Int.reduceAdd, Int.reduceSub, Int.reduceEq, reduceCtorEq, jI_lt, jI_eq, jI_lt0, jI_0lt, jI_eq0, jI_0le, jn_lo, iU_row, iU_nr, iU_eq, iU_same, jI_ixn, jI_add, jI_sub, jI_nat]
          exact fin I2 h2 hw2 hm2
        · have eo : oth + qOth T who i = oth + 1 := by
            unfold qOth
            rw [if_neg qt]
          simp only [g14_45, g14_46, g14_49, g14_52, g14_54, g14_55, g14_58, g14_59, g14_61, g14_62, g14_63, g14_64, g14_67, g14_68, g14_71, g14_72, g14_74, g14_75, g14_76, g14_77, g14_78, g14_79, g14_80, g14_81, g14_82, g14_84, g14_85, g14_86, g14_87, g14_90, g14_91, g14_92, g14_94, g14_97, g14_99, g14_102, g14_104, g14_105, g14_106, nl_none, nl_int, nl_ref, Option.toList_some, Option.toList_none, List.cons_append, List.nil_append, mSetI_u, mSetL_u, Nat.add_one_ne_zero, Nat.add_eq_zero_iff, and_false, false_and, not_false_eq_true, ne_eq, j0_0, j0_1, j1_0, j1_1, if_true, if_false, ite_true, ite_false, true_and, and_true, or_true, true_or, false_or, or_false, ↓reduceIte, Nat.reduceEqDiff, Nat.reduceAdd, Nat.reduceMul, Nat.reduceSub, Int.reduceLE, Int.reduceLT, Int.reduceNeg, Int.reduceAdd, Int.reduceSub, Int.reduceEq, reduceCtorEq, jI_lt, jI_eq, jI_lt0, jI_0lt, jI_eq0, jI_0le, jn_lo, iU_row, iU_nr, iU_eq, iU_same, jI_ixn, jI_add, jI_sub, jI_nat, sh_28, sh_4, sh_9, sh_30, f_28_2 hF, f_4_5 hF, hc'.2.1, show ((i : Nat) : Int) ≤ 2147483647 by omega, show (i : Nat) ≤ 2147483647 by omega, show ((n : Nat) : Int) ≤ 2147483647 by omega, show (n : Nat) ≤ 2147483647 by omega, show ((who : Nat) : Int) ≤ 2147483647 by omega, show (who : Nat) ≤ 2147483647 by omega, show (i : Int) < (n : Int) by omega, show ¬ ((i : Int) = (who : Int)) by omega, qBit_f hin.1 (show i < 8 by omega) qb, jI_in (z := ((who : Int) : Int)) (n := 8) (by omega) (by omega) (by omega), hwv, show -2147483648 ≤ (T 4 who : Int) by omega, show (T 4 who : Int) ≤ 2147483647 by omega, qt]
          refine ih d (who + 1) (b ||| 2 ^ i) (qUp w who i) (oth + qOth T who i) _ _ _ _ _ _ (by omega) hup (by omega) (by omega) hcc hww hmm (by rfl) (qBit_o hin.1 (by omega)) (by exact congrArg Int32.ofInt (by omega)) (fun I2 h2 hw2 hm2 => ?_)
          simp only [g14_109, g14_112, nl_none, nl_int, nl_ref, Option.toList_some, Option.toList_none, List.cons_append, List.nil_append, mSetI_u, mSetL_u, Nat.add_one_ne_zero, Nat.add_eq_zero_iff, and_false, false_and, not_false_eq_true, ne_eq, j0_0, j0_1, j1_0, j1_1, if_true, if_false, ite_true, ite_false, true_and, and_true, or_true, true_or, false_or, or_false, ↓reduceIte, Nat.reduceEqDiff, Nat.reduceAdd, Nat.reduceMul, Nat.reduceSub, Int.reduceLE, Int.reduceLT, Int.reduceNeg, Int.reduceAdd, Int.reduceSub, Int.reduceEq, reduceCtorEq, jI_lt, jI_eq, jI_lt0, jI_0lt, jI_eq0, jI_0le, jn_lo, iU_row, iU_nr, iU_eq, iU_same, jI_ixn, jI_add, jI_sub, jI_nat]
          exact fin I2 h2 hw2 hm2
theorem c14_k (hF : mFx F st nx gf rl dr) (hok : vTownOk n T) : ∀ k, c14S n e E F T k
  | 0 => c14_0 hF hok.1
  | k + 1 => by
    intro d who b w oth s I P zi zb zo hk hi h0 h1 hc hw hm hzi hzb hzo hP
    have hn := hok.1
    subst hzi hzb hzo
    rw [show d + (k + 1) = d + k + 1 from rfl]
    have hm' := hm
    obtain ⟨m1, m2, m3⟩ := hm
    by_cases q : oth < s.1
    · rw [qSm, if_pos q] at hP
      simp only [g14_in, g14_0, g14_2, g14_3, g14_6, g14_9, g14_10, g14_11, g14_12, g14_15, g14_40, g14_41, nl_none, nl_int, nl_ref, Option.toList_some, Option.toList_none, List.cons_append, List.nil_append, mSetI_u, mSetL_u, Nat.add_one_ne_zero, Nat.add_eq_zero_iff, and_false, false_and, not_false_eq_true, ne_eq, j0_0, j0_1, j1_0, j1_1, if_true, if_false, ite_true, ite_false, true_and, and_true, or_true, true_or, false_or, or_false, ↓reduceIte, Nat.reduceEqDiff, Nat.reduceAdd, Nat.reduceMul, Nat.reduceSub, Int.reduceLE, Int.reduceLT, Int.reduceNeg, Int.reduceAdd, Int.reduceSub, Int.reduceEq, reduceCtorEq, jI_lt, jI_eq, jI_lt0, jI_0lt, jI_eq0, jI_0le, jn_lo, iU_row, iU_nr, iU_eq, iU_same, jI_ixn, jI_add, jI_sub, jI_nat, sh_28, sh_4, m1, hc.2.1, show -2147483648 ≤ (oth : Int) by omega, show (oth : Int) ≤ 2147483647 by omega, show -2147483648 ≤ (s.1 : Int) by omega, show (s.1 : Int) ≤ 2147483647 by omega, show ((who : Nat) : Int) ≤ 2147483647 by omega, show (who : Nat) ≤ 2147483647 by omega, show ((n : Nat) : Int) ≤ 2147483647 by omega, show (n : Nat) ≤ 2147483647 by omega, q, show (who : Int) < (n : Int) by omega]
      exact c14_l hF hok (c14_k hF hok k) hk hi h0 h1 hc hP n 0 0 I (by omega) rfl vAg_rfl hw hm'
    · rw [qSm, if_neg q] at hP
      simp only [g14_in, g14_0, g14_2, g14_3, g14_6, g14_9, nl_none, nl_int, nl_ref, Option.toList_some, Option.toList_none, List.cons_append, List.nil_append, mSetI_u, mSetL_u, Nat.add_one_ne_zero, Nat.add_eq_zero_iff, and_false, false_and, not_false_eq_true, ne_eq, j0_0, j0_1, j1_0, j1_1, if_true, if_false, ite_true, ite_false, true_and, and_true, or_true, true_or, false_or, or_false, ↓reduceIte, Nat.reduceEqDiff, Nat.reduceAdd, Nat.reduceMul, Nat.reduceSub, Int.reduceLE, Int.reduceLT, Int.reduceNeg, Int.reduceAdd, Int.reduceSub, Int.reduceEq, reduceCtorEq, jI_lt, jI_eq, jI_lt0, jI_0lt, jI_eq0, jI_0le, jn_lo, iU_row, iU_nr, iU_eq, iU_same, jI_ixn, jI_add, jI_sub, jI_nat, sh_28, m1, show -2147483648 ≤ (oth : Int) by omega, show (oth : Int) ≤ 2147483647 by omega, show -2147483648 ≤ (s.1 : Int) by omega, show (s.1 : Int) ≤ 2147483647 by omega, q]
      exact hP I vAg_rfl hw hm'
theorem c13 {D : Nat} (hD : n + 1 ≤ D) (hF : mFx F st nx gf rl dr) (hok : vTownOk n T) (hc : vTc n T 4 I) (hP : ∀ I', vAg vScM I I' → qMm n (qSm T n n 0 (fun _ => 0) 0 0 (9, 0, fun _ => 0)) I' → P none (mLay e) (I', E, F)) : mF D 13 [.ref 28, .ref 4] (mLay e) (I, E, F) P := by
  obtain ⟨d, rfl⟩ : ∃ d, D = d + n + 1 := ⟨D - n - 1, by omega⟩
  simp only [g13_in, g13_0, g13_1, g13_3, g13_6, g13_7, g13_8, g13_9, g13_10, g13_11, nl_none, nl_int, nl_ref, Option.toList_some, Option.toList_none, List.cons_append, List.nil_append, mSetI_u, mSetL_u, Nat.add_one_ne_zero, Nat.add_eq_zero_iff, and_false, false_and, not_false_eq_true, ne_eq, j0_0, j0_1, j1_0, j1_1, if_true, if_false, ite_true, ite_false, true_and, and_true, or_true, true_or, false_or, or_false, ↓reduceIte, Nat.reduceEqDiff, Nat.reduceAdd, Nat.reduceMul, Nat.reduceSub, Int.reduceLE, Int.reduceLT, Int.reduceNeg, Int.reduceAdd, Int.reduceSub, Int.reduceEq, reduceCtorEq, jI_lt, jI_eq, jI_lt0, jI_0lt, jI_eq0, jI_0le, jn_lo, iU_row, iU_nr, iU_eq, iU_same, jI_ixn, jI_add, jI_sub, jI_nat, sh_28]
  refine c14_k hF hok n d 0 0 (fun _ => 0) 0 (9, 0, fun _ => 0) _ _ _ _ _ (by omega) (qIn_0 n _) (by omega) (by omega) (vTc_ag (vAg_iU (R := vScM) vAg_rfl (show 28 ≤ 28 ∧ 28 ≤ 30 by omega)) (fun r j q => by unfold vScM at q; omega) hc) (fun j hj => absurd hj (by omega)) ⟨iU_eq, ⟨by show (0 : Int) ≤ 9; omega, by show (9 : Int) ≤ 9; omega⟩, fun h => absurd h (by show ¬ (9 : Int) ≤ 8; omega)⟩ rfl rfl rfl (fun I2 h2 hw2 hm2 => ?_)
  simp only [g13_14, nl_none, nl_int, nl_ref, Option.toList_some, Option.toList_none, List.cons_append, List.nil_append, mSetI_u, mSetL_u, Nat.add_one_ne_zero, Nat.add_eq_zero_iff, and_false, false_and, not_false_eq_true, ne_eq, j0_0, j0_1, j1_0, j1_1, if_true, if_false, ite_true, ite_false, true_and, and_true, or_true, true_or, false_or, or_false, ↓reduceIte, Nat.reduceEqDiff, Nat.reduceAdd, Nat.reduceMul, Nat.reduceSub, Int.reduceLE, Int.reduceLT, Int.reduceNeg, Int.reduceAdd, Int.reduceSub, Int.reduceEq, reduceCtorEq, jI_lt, jI_eq, jI_lt0, jI_0lt, jI_eq0, jI_0le, jn_lo, iU_row, iU_nr, iU_eq, iU_same, jI_ixn, jI_add, jI_sub, jI_nat]
  exact hP I2 (vAg_tr (vAg_iU vAg_rfl (show 28 ≤ 28 ∧ 28 ≤ 30 by omega)) h2) hm2
end MTC
