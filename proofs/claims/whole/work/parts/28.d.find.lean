/-! ===== round: the class's search ===== -/
def c31S (n : Nat) (E : Nat → Nat → Int64) (T : Nat → Nat → Int) (lw : vLw) (rl dr sn h : Nat) (k : Nat) : Prop := ∀ (d who b : Nat) (w : Nat → Nat) (s : qSt) (I : Nat → Nat → Int32) (F : Nat → Nat → Nat) (st nx : Nat) (P : mPost) (zi zb : Int32), who + k = n → qIn n who w b → mFx F st nx 105 rl dr → qSx st nx → cOk lw n T rl sn h I → (∀ j, j < who → I 24 j = jI (w j)) → qMc n s I → zi = jI who → zb = jI b → (∀ I' F' st' nx', mFx F' st' nx' 105 rl dr → qSx st' nx' → vAg (vScQ rl) I I' → cOk lw n T rl sn h I' → (∀ j, j < who → I' 24 j = jI (w j)) → qMc n (qSc (qLc lw n T h) n k who w b s) I' → P none (mLay eG) (I', E, F')) → mF (d + 6 + k) 31 [.ref 22, .ref 4, .ref rl, .int zi, .int zb] (mLay eG) (I, E, F) P
section FND
variable {d n : Nat} {I : Nat → Nat → Int32} {E : Nat → Nat → Int64} {F : Nat → Nat → Nat} {P : mPost} {T : Nat → Nat → Int} {lw : vLw} {st nx rl dr h sn : Nat} {w : Nat → Nat} {s : qSt}
theorem c32_l (hF : mFx F st nx 105 rl dr) (hn : n ≤ 8) {who to : Nat} (hwho : who < n) (hw : ∀ j, j < who → I 24 j = jI (w j)) (hlt : ∀ j, j < who → w j < n) : ∀ (k s x : Nat) (z y : Int), s + k = 8 → x < n → z = s → y = x → P (some (.int (jI (if qWk w who k x = who then 1 else 0)))) (mLay eG) (I, E, F) → mG d 32 15 [some (.ref 22), some (.int (jI n)), some (.int (jI who)), some (.int (jI to)), some (.int (jI y)), some (.int (jI z))] [] (mLay eG) (I, E, F) P
  | 0, s, x, z, y, hs, hx, hz, hy, hP => by
    subst hz hy
    have e : s = 8 := by omega
    subst e
    rw [qWk] at hP
    rw [g32_15]
    by_cases q : x = who
    · rw [if_pos q] at hP
      subst q
      simp only [g32_17, g32_19, g32_43, g32_45, g32_46, g32_49, g32_50, g32_53, g32_54, nl_none, nl_int, nl_ref, Option.toList_some, Option.toList_none, List.cons_append, List.nil_append, mSetI_u, mSetL_u, Nat.add_one_ne_zero, Nat.add_eq_zero_iff, and_false, false_and, not_false_eq_true, ne_eq, j0_0, j0_1, j1_0, j1_1, if_true, if_false, ite_true, ite_false, true_and, and_true, or_true, true_or, false_or, or_false, ↓reduceIte, Nat.reduceEqDiff, Nat.reduceAdd, Nat.reduceMul, Nat.reduceSub, Int.reduceLE, Int.reduceLT, Int.reduceNeg, Int.reduceAdd, Int.reduceSub, Int.reduceEq, reduceCtorEq, jI_lt, jI_eq, jI_lt0, jI_0lt, jI_eq0, jI_0le, jn_lo, iU_row, iU_nr, iU_eq, iU_same, jI_ixn, jI_add, jI_sub, jI_nat, show ((8 : Nat) : Int) = 8 from rfl, Int.lt_irrefl, show ((x : Nat) : Int) ≤ 2147483647 by omega, show (x : Nat) ≤ 2147483647 by omega, eq_self]
      exact hP
    · rw [if_neg q] at hP
      simp only [g32_17, g32_19, g32_43, g32_45, g32_46, g32_49, g32_50, g32_53, g32_54, nl_none, nl_int, nl_ref, Option.toList_some, Option.toList_none, List.cons_append, List.nil_append, mSetI_u, mSetL_u, Nat.add_one_ne_zero, Nat.add_eq_zero_iff, and_false, false_and, not_false_eq_true, ne_eq, j0_0, j0_1, j1_0, j1_1, if_true, if_false, ite_true, ite_false, true_and, and_true, or_true, true_or, false_or, or_false, ↓reduceIte, Nat.reduceEqDiff, Nat.reduceAdd, Nat.reduceMul, Nat.reduceSub, Int.reduceLE, Int.reduceLT, Int.reduceNeg, Int.reduceAdd, Int.reduceSub, Int.reduceEq, reduceCtorEq, jI_lt, jI_eq, jI_lt0, jI_0lt, jI_eq0, jI_0le, jn_lo, iU_row, iU_nr, iU_eq, iU_same, jI_ixn, jI_add, jI_sub, jI_nat, show ((8 : Nat) : Int) = 8 from rfl, Int.lt_irrefl, show ((x : Nat) : Int) ≤ 2147483647 by omega, show (x : Nat) ≤ 2147483647 by omega, show ((who : Nat) : Int) ≤ 2147483647 by omega, show (who : Nat) ≤ 2147483647 by omega, show ¬ ((x : Int) = (who : Int)) by omega]
      exact hP
  | k + 1, s, x, z, y, hs, hx, hz, hy, hP => by
    subst hz hy
    rw [g32_15]
    by_cases qx : x < who
    · rw [qWk, if_pos qx] at hP
      have hl := hlt x qx
      have ih := c32_l hF hn hwho (to := to) hw hlt k (s + 1) (w x) ((s : Int) + 1) (w x) (by omega) hl (by omega) rfl hP
      simp only [g32_17, g32_19, g32_22, g32_24, g32_25, g32_28, g32_29, g32_32, g32_34, g32_35, g32_37, g32_40, nl_none, nl_int, nl_ref, Option.toList_some, Option.toList_none, List.cons_append, List.nil_append, mSetI_u, mSetL_u, Nat.add_one_ne_zero, Nat.add_eq_zero_iff, and_false, false_and, not_false_eq_true, ne_eq, j0_0, j0_1, j1_0, j1_1, if_true, if_false, ite_true, ite_false, true_and, and_true, or_true, true_or, false_or, or_false, ↓reduceIte, Nat.reduceEqDiff, Nat.reduceAdd, Nat.reduceMul, Nat.reduceSub, Int.reduceLE, Int.reduceLT, Int.reduceNeg, Int.reduceAdd, Int.reduceSub, Int.reduceEq, reduceCtorEq, jI_lt, jI_eq, jI_lt0, jI_0lt, jI_eq0, jI_0le, jn_lo, iU_row, iU_nr, iU_eq, iU_same, jI_ixn, jI_add, jI_sub, jI_nat, sh_22, sh_24, f_22_4 hF, show ((s : Nat) : Int) ≤ 2147483647 by omega, show (s : Nat) ≤ 2147483647 by omega, show ((x : Nat) : Int) ≤ 2147483647 by omega, show (x : Nat) ≤ 2147483647 by omega, show ((who : Nat) : Int) ≤ 2147483647 by omega, show (who : Nat) ≤ 2147483647 by omega, show (s : Int) < 8 by omega, show (x : Int) < (who : Int) by omega, jI_in (z := ((x : Int) : Int)) (n := 8) (by omega) (by omega) (by omega), hw x qx]
      exact ih
    · rw [qWk, if_neg qx] at hP
      by_cases q : x = who
      · rw [if_pos q] at hP
        subst q
        simp only [g32_17, g32_19, g32_22, g32_24, g32_25, g32_43, g32_45, g32_46, g32_49, g32_50, g32_53, g32_54, nl_none, nl_int, nl_ref, Option.toList_some, Option.toList_none, List.cons_append, List.nil_append, mSetI_u, mSetL_u, Nat.add_one_ne_zero, Nat.add_eq_zero_iff, and_false, false_and, not_false_eq_true, ne_eq, j0_0, j0_1, j1_0, j1_1, if_true, if_false, ite_true, ite_false, true_and, and_true, or_true, true_or, false_or, or_false, ↓reduceIte, Nat.reduceEqDiff, Nat.reduceAdd, Nat.reduceMul, Nat.reduceSub, Int.reduceLE, Int.reduceLT, Int.reduceNeg, Int.reduceAdd, Int.reduceSub, Int.reduceEq, reduceCtorEq, jI_lt, jI_eq, jI_lt0, jI_0lt, jI_eq0, jI_0le, jn_lo, iU_row, iU_nr, iU_eq, iU_same, jI_ixn, jI_add, jI_sub, jI_nat, show ((s : Nat) : Int) ≤ 2147483647 by omega, show (s : Nat) ≤ 2147483647 by omega, show ((x : Nat) : Int) ≤ 2147483647 by omega, show (x : Nat) ≤ 2147483647 by omega, show (s : Int) < 8 by omega, show ¬ ((x : Int) < (x : Int)) by omega, eq_self]
        exact hP
      · rw [if_neg q] at hP
        simp only [g32_17, g32_19, g32_22, g32_24, g32_25, g32_43, g32_45, g32_46, g32_49, g32_50, g32_53, g32_54, nl_none, nl_int, nl_ref, Option.toList_some, Option.toList_none, List.cons_append, List.nil_append, mSetI_u, mSetL_u, Nat.add_one_ne_zero, Nat.add_eq_zero_iff, and_false, false_and, not_false_eq_true, ne_eq, j0_0, j0_1, j1_0, j1_1, if_true, if_false, ite_true, ite_false, true_and, and_true, or_true, true_or, false_or, or_false, ↓reduceIte, Nat.reduceEqDiff, Nat.reduceAdd, Nat.reduceMul, Nat.reduceSub, Int.reduceLE, Int.reduceLT, Int.reduceNeg, Int.reduceAdd, Int.reduceSub, Int.reduceEq, reduceCtorEq, jI_lt, jI_eq, jI_lt0, jI_0lt, jI_eq0, jI_0le, jn_lo, iU_row, iU_nr, iU_eq, iU_same, jI_ixn, jI_add, jI_sub, jI_nat, show ((s : Nat) : Int) ≤ 2147483647 by omega, show (s : Nat) ≤ 2147483647 by omega, show ((x : Nat) : Int) ≤ 2147483647 by omega, show (x : Nat) ≤ 2147483647 by omega, show ((who : Nat) : Int) ≤ 2147483647 by omega, show (who : Nat) ≤ 2147483647 by omega, show (s : Int) < 8 by omega, show ¬ ((x : Int) < (who : Int)) by omega, show ¬ ((x : Int) = (who : Int)) by omega]
        exact hP
theorem c32 (hF : mFx F st nx 105 rl dr) (hn : n ≤ 8) {who to : Nat} (hwho : who < n) (hto : to < n) (hw : ∀ j, j < who → I 24 j = jI (w j)) (hlt : ∀ j, j < who → w j < n) (hP : P (some (.int (jI (if qCe n w who to = true then 1 else 0)))) (mLay eG) (I, E, F)) : mF d 32 [.ref 22, .int (jI n), .int (jI who), .int (jI to)] (mLay eG) (I, E, F) P := by
  by_cases q : who + 1 = n
  · have e : qCe n w who to = false := by
      unfold qCe
      rw [beq_iff_eq.2 q]
      rfl
    rw [e, if_neg (by decide)] at hP
    simp only [g32_in, g32_0, g32_1, g32_2, g32_3, g32_4, g32_7, g32_8, nl_none, nl_int, nl_ref, Option.toList_some, Option.toList_none, List.cons_append, List.nil_append, mSetI_u, mSetL_u, Nat.add_one_ne_zero, Nat.add_eq_zero_iff, and_false, false_and, not_false_eq_true, ne_eq, j0_0, j0_1, j1_0, j1_1, if_true, if_false, ite_true, ite_false, true_and, and_true, or_true, true_or, false_or, or_false, ↓reduceIte, Nat.reduceEqDiff, Nat.reduceAdd, Nat.reduceMul, Nat.reduceSub, Int.reduceLE, Int.reduceLT, Int.reduceNeg, Int.reduceAdd, Int.reduceSub, Int.reduceEq, reduceCtorEq, jI_lt, jI_eq, jI_lt0, jI_0lt, jI_eq0, jI_0le, jn_lo, iU_row, iU_nr, iU_eq, iU_same, jI_ixn, jI_add, jI_sub, jI_nat, show ((n : Nat) : Int) ≤ 2147483647 by omega, show (n : Nat) ≤ 2147483647 by omega, show ((who : Nat) : Int) ≤ 2147483647 by omega, show (who : Nat) ≤ 2147483647 by omega, show -2147483648 ≤ ((n : Int) - 1 : Int) by omega, show ((n : Int) - 1 : Int) ≤ 2147483647 by omega, show (who : Int) = (n : Int) - 1 by omega]
    exact hP
  · have e : (qCe n w who to = true) = (qWk w who 8 to = who) := by
      unfold qCe
      rw [show (who + 1 == n) = false from beq_false_of_ne q]
      simp
    simp only [e] at hP
    have hl := c32_l (d := d) (E := E) hF hn hwho (to := to) hw hlt 8 0 to 0 to (by omega) hto rfl rfl hP
    simp only [g32_in, g32_0, g32_1, g32_2, g32_3, g32_4, g32_7, g32_8, g32_9, g32_10, g32_12, g32_13, nl_none, nl_int, nl_ref, Option.toList_some, Option.toList_none, List.cons_append, List.nil_append, mSetI_u, mSetL_u, Nat.add_one_ne_zero, Nat.add_eq_zero_iff, and_false, false_and, not_false_eq_true, ne_eq, j0_0, j0_1, j1_0, j1_1, if_true, if_false, ite_true, ite_false, true_and, and_true, or_true, true_or, false_or, or_false, ↓reduceIte, Nat.reduceEqDiff, Nat.reduceAdd, Nat.reduceMul, Nat.reduceSub, Int.reduceLE, Int.reduceLT, Int.reduceNeg, Int.reduceAdd, Int.reduceSub, Int.reduceEq, reduceCtorEq, jI_lt, jI_eq, jI_lt0, jI_0lt, jI_eq0, jI_0le, jn_lo, iU_row, iU_nr, iU_eq, iU_same, jI_ixn, jI_add, jI_sub, jI_nat, show ((n : Nat) : Int) ≤ 2147483647 by omega, show (n : Nat) ≤ 2147483647 by omega, show ((who : Nat) : Int) ≤ 2147483647 by omega, show (who : Nat) ≤ 2147483647 by omega, show ((to : Nat) : Int) ≤ 2147483647 by omega, show (to : Nat) ≤ 2147483647 by omega, show -2147483648 ≤ ((n : Int) - 1 : Int) by omega, show ((n : Int) - 1 : Int) ≤ 2147483647 by omega, show ¬ ((who : Int) = (n : Int) - 1) by omega]
    exact hl
theorem c31_0 (hrl : rl = 70 ∨ rl = 75) (hok : vTownOk n T) (hl : ∀ g q n k s t, 0 ≤ lw g q n k s t ∧ lw g q n k s t ≤ 20) (hsn : sn ≤ 512) (hh : h ≤ 6) : c31S n E T lw rl dr sn h 0 := by
  intro d who b w s I F st nx P zi zb hk hi hF hsx hc hw hm hzi hzb hP
  have hn := hok.1
  have hrl0 : ¬ rl = 0 := by omega
  have ew : who = n := by omega
  subst ew hzi hzb
  simp only [g31_in, g31_0, g31_1, g31_2, g31_5, g31_8, g31_9, g31_10, g31_11, nl_none, nl_int, nl_ref, Option.toList_some, Option.toList_none, List.cons_append, List.nil_append, mSetI_u, mSetL_u, Nat.add_one_ne_zero, Nat.add_eq_zero_iff, and_false, false_and, not_false_eq_true, ne_eq, j0_0, j0_1, j1_0, j1_1, if_true, if_false, ite_true, ite_false, true_and, and_true, or_true, true_or, false_or, or_false, ↓reduceIte, Nat.reduceEqDiff, Nat.reduceAdd, Nat.reduceMul, Nat.reduceSub, Int.reduceLE, Int.reduceLT, Int.reduceNeg, Int.reduceAdd, Int.reduceSub, Int.reduceEq, reduceCtorEq, jI_lt, jI_eq, jI_lt0, jI_0lt, jI_eq0, jI_0le, jn_lo, iU_row, iU_nr, iU_eq, iU_same, jI_ixn, jI_add, jI_sub, jI_nat, sh_4, sh_22, hc.1.2.1, hrl0, show ((who : Nat) : Int) ≤ 2147483647 by omega, show (who : Nat) ≤ 2147483647 by omega, show ¬ ((who : Int) < (who : Int)) by omega]
  refine c33 hF hrl hsx hok hi hl hc hsn hh hw hm (fun I' F' st' nx' a1 a2 a3 a4 a5 a6 => ?_)
  have hp := hP I' F' st' nx' a1 a2 a3 a4 a5 a6
  simp only [g31_14, nl_none, nl_int, nl_ref, Option.toList_some, Option.toList_none, List.cons_append, List.nil_append, mSetI_u, mSetL_u, Nat.add_one_ne_zero, Nat.add_eq_zero_iff, and_false, false_and, not_false_eq_true, ne_eq, j0_0, j0_1, j1_0, j1_1, if_true, if_false, ite_true, ite_false, true_and, and_true, or_true, true_or, false_or, or_false, ↓reduceIte, Nat.reduceEqDiff, Nat.reduceAdd, Nat.reduceMul, Nat.reduceSub, Int.reduceLE, Int.reduceLT, Int.reduceNeg, Int.reduceAdd, Int.reduceSub, Int.reduceEq, reduceCtorEq, jI_lt, jI_eq, jI_lt0, jI_0lt, jI_eq0, jI_0le, jn_lo, iU_row, iU_nr, iU_eq, iU_same, jI_ixn, jI_add, jI_sub, jI_nat]
  exact hp
theorem c31_l (hrl : rl = 70 ∨ rl = 75) (hok : vTownOk n T) {k : Nat} (ih : c31S n E T lw rl dr sn h k) {who b : Nat} (hk : who + (k + 1) = n) (hin : qIn n who w b) (hP : ∀ I' F' st' nx', mFx F' st' nx' 105 rl dr → qSx st' nx' → vAg (vScQ rl) I I' → cOk lw n T rl sn h I' → (∀ j, j < who → I' 24 j = jI (w j)) → qMc n (qLp (fun i st => if qFree who b i = true ∧ ¬ qCe n w who i = true then qSc (qLc lw n T h) n k (who + 1) (qUp w who i) (b ||| 2 ^ i) st else st) n s) I' → P none (mLay eG) (I', E, F')) : ∀ (m i : Nat) (z : Int) I' F st nx, i + m = n → z = i → mFx F st nx 105 rl dr → qSx st nx → vAg (vScQ rl) I I' → cOk lw n T rl sn h I' → (∀ j, j < who → I' 24 j = jI (w j)) → qMc n (qLp (fun i st => if qFree who b i = true ∧ ¬ qCe n w who i = true then qSc (qLc lw n T h) n k (who + 1) (qUp w who i) (b ||| 2 ^ i) st else st) i s) I' → mG (d + 6 + k + 1) 31 18 [some (.ref 22), some (.ref 4), some (.ref rl), some (.int (jI who)), some (.int (jI b)), some (.int (jI z))] [] (mLay eG) (I', E, F) P
  | 0, i, z, I', F, st, nx, hi, hz, hF, hsx, ha, hc, hw, hm => by
    have hn := hok.1
    subst hz
    have e : i = n := by omega
    subst e
    rw [g31_18]
    simp only [g31_20, g31_21, g31_24, g31_87, nl_none, nl_int, nl_ref, Option.toList_some, Option.toList_none, List.cons_append, List.nil_append, mSetI_u, mSetL_u, Nat.add_one_ne_zero, Nat.add_eq_zero_iff, and_false, false_and, not_false_eq_true, ne_eq, j0_0, j0_1, j1_0, j1_1, if_true, if_false, ite_true, ite_false, true_and, and_true, or_true, true_or, false_or, or_false, ↓reduceIte, Nat.reduceEqDiff, Nat.reduceAdd, Nat.reduceMul, Nat.reduceSub, Int.reduceLE, Int.reduceLT, Int.reduceNeg, Int.reduceAdd, Int.reduceSub, Int.reduceEq, reduceCtorEq, jI_lt, jI_eq, jI_lt0, jI_0lt, jI_eq0, jI_0le, jn_lo, iU_row, iU_nr, iU_eq, iU_same, jI_ixn, jI_add, jI_sub, jI_nat, sh_4, hc.1.2.1, show ((i : Nat) : Int) ≤ 2147483647 by omega, show (i : Nat) ≤ 2147483647 by omega, show ¬ ((i : Int) < (i : Int)) by omega]
    exact hP I' F st nx hF hsx ha hc hw hm
  | m + 1, i, z, I', F, st, nx, hi, hz, hF, hsx, ha, hc, hw, hm => by
    have hn := hok.1
    have hrl0 : ¬ rl = 0 := by omega
    have ihm := c31_l hrl hok ih hk hin hP m (i + 1)
    have hin' : i < n := by omega
    have hcm := hc.1.2.1
    subst hz
    rw [g31_18]
    by_cases qw : i = who
    · have hf : ¬ (qFree who b i = true ∧ ¬ qCe n w who i = true) := fun hf => (qFree_iff.1 hf.1).1 qw
      have ihm' := ihm ((i : Int) + 1) I' F st nx (by omega) (by omega) hF hsx ha hc hw (by
        rw [qLp, if_neg hf]
        exact hm)
      subst qw
      simp only [g31_20, g31_21, g31_24, g31_27, g31_29, g31_30, g31_81, g31_84, nl_none, nl_int, nl_ref, Option.toList_some, Option.toList_none, List.cons_append, List.nil_append, mSetI_u, mSetL_u, Nat.add_one_ne_zero, Nat.add_eq_zero_iff, and_false, false_and, not_false_eq_true, ne_eq, j0_0, j0_1, j1_0, j1_1, if_true, if_false, ite_true, ite_false, true_and, and_true, or_true, true_or, false_or, or_false, ↓reduceIte, Nat.reduceEqDiff, Nat.reduceAdd, Nat.reduceMul, Nat.reduceSub, Int.reduceLE, Int.reduceLT, Int.reduceNeg, Int.reduceAdd, Int.reduceSub, Int.reduceEq, reduceCtorEq, jI_lt, jI_eq, jI_lt0, jI_0lt, jI_eq0, jI_0le, jn_lo, iU_row, iU_nr, iU_eq, iU_same, jI_ixn, jI_add, jI_sub, jI_nat, sh_4, hcm, show ((i : Nat) : Int) ≤ 2147483647 by omega, show (i : Nat) ≤ 2147483647 by omega, show ((n : Nat) : Int) ≤ 2147483647 by omega, show (n : Nat) ≤ 2147483647 by omega, show (i : Int) < (n : Int) by omega, eq_self]
      exact ihm'
    · cases qb : pBt b i with
      | true =>
        have hf : ¬ (qFree who b i = true ∧ ¬ qCe n w who i = true) := fun hf => by
          have := (qFree_iff.1 hf.1).2
          rw [qb] at this
          cases this
        have ihm' := ihm ((i : Int) + 1) I' F st nx (by omega) (by omega) hF hsx ha hc hw (by
          rw [qLp, if_neg hf]
          exact hm)
        simp only [g31_20, g31_21, g31_24, g31_27, g31_29, g31_30, g31_33, g31_35, g31_37, g31_38, g31_39, g31_40, g31_81, g31_84, nl_none, nl_int, nl_ref, Option.toList_some, Option.toList_none, List.cons_append, List.nil_append, mSetI_u, mSetL_u, Nat.add_one_ne_zero, Nat.add_eq_zero_iff, and_false, false_and, not_false_eq_true, ne_eq, j0_0, j0_1, j1_0, j1_1, if_true, if_false, ite_true, ite_false, true_and, and_true, or_true, true_or, false_or, or_false, ↓reduceIte, Nat.reduceEqDiff, Nat.reduceAdd, Nat.reduceMul, Nat.reduceSub, Int.reduceLE, Int.reduceLT, Int.reduceNeg, Int.reduceAdd, Int.reduceSub, Int.reduceEq, reduceCtorEq, jI_lt, jI_eq, jI_lt0, jI_0lt, jI_eq0, jI_0le, jn_lo, iU_row, iU_nr, iU_eq, iU_same, jI_ixn, jI_add, jI_sub, jI_nat, sh_4, hcm, show ((i : Nat) : Int) ≤ 2147483647 by omega, show (i : Nat) ≤ 2147483647 by omega, show ((n : Nat) : Int) ≤ 2147483647 by omega, show (n : Nat) ≤ 2147483647 by omega, show ((who : Nat) : Int) ≤ 2147483647 by omega, show (who : Nat) ≤ 2147483647 by omega, show (i : Int) < (n : Int) by omega, show ¬ ((i : Int) = (who : Int)) by omega, qBit_t hin.1 (show i < 8 by omega) qb]
        exact ihm'
      | false =>
        have hf0 : qFree who b i = true := qFree_iff.2 ⟨qw, qb⟩
        have hup := qIn_up hn hin hin' hf0
        have hwho : who < n := by omega
        simp only [g31_20, g31_21, g31_24, g31_27, g31_29, g31_30, g31_33, g31_35, g31_37, g31_38, g31_39, g31_40, g31_43, g31_44, g31_45, g31_48, g31_49, g31_51, nl_none, nl_int, nl_ref, Option.toList_some, Option.toList_none, List.cons_append, List.nil_append, mSetI_u, mSetL_u, Nat.add_one_ne_zero, Nat.add_eq_zero_iff, and_false, false_and, not_false_eq_true, ne_eq, j0_0, j0_1, j1_0, j1_1, if_true, if_false, ite_true, ite_false, true_and, and_true, or_true, true_or, false_or, or_false, ↓reduceIte, Nat.reduceEqDiff, Nat.reduceAdd, Nat.reduceMul, Nat.reduceSub, Int.reduceLE, Int.reduceLT, Int.reduceNeg, Int.reduceAdd, Int.reduceSub, Int.reduceEq, reduceCtorEq, jI_lt, jI_eq, jI_lt0, jI_0lt, jI_eq0, jI_0le, jn_lo, iU_row, iU_nr, iU_eq, iU_same, jI_ixn, jI_add, jI_sub, jI_nat, sh_4, sh_22, hcm, show ((i : Nat) : Int) ≤ 2147483647 by omega, show (i : Nat) ≤ 2147483647 by omega, show ((n : Nat) : Int) ≤ 2147483647 by omega, show (n : Nat) ≤ 2147483647 by omega, show ((who : Nat) : Int) ≤ 2147483647 by omega, show (who : Nat) ≤ 2147483647 by omega, show (i : Int) < (n : Int) by omega, show ¬ ((i : Int) = (who : Int)) by omega, qBit_f hin.1 (show i < 8 by omega) qb]
        refine c32 hF hn hwho hin' hw (fun j hj => (hin.2.1 j hj).1) ?_
        by_cases hce : qCe n w who i = true
        · have hf : ¬ (qFree who b i = true ∧ ¬ qCe n w who i = true) := fun hf => hf.2 hce
          have ihm' := ihm ((i : Int) + 1) I' F st nx (by omega) (by omega) hF hsx ha hc hw (by
            rw [qLp, if_neg hf]
            exact hm)
          rw [if_pos hce]
          simp only [g31_54, g31_81, g31_84, nl_none, nl_int, nl_ref, Option.toList_some, Option.toList_none, List.cons_append, List.nil_append, mSetI_u, mSetL_u, Nat.add_one_ne_zero, Nat.add_eq_zero_iff, and_false, false_and, not_false_eq_true, ne_eq, j0_0, j0_1, j1_0, j1_1, if_true, if_false, ite_true, ite_false, true_and, and_true, or_true, true_or, false_or, or_false, ↓reduceIte, Nat.reduceEqDiff, Nat.reduceAdd, Nat.reduceMul, Nat.reduceSub, Int.reduceLE, Int.reduceLT, Int.reduceNeg, Int.reduceAdd, Int.reduceSub, Int.reduceEq, reduceCtorEq, jI_lt, jI_eq, jI_lt0, jI_0lt, jI_eq0, jI_0le, jn_lo, iU_row, iU_nr, iU_eq, iU_same, jI_ixn, jI_add, jI_sub, jI_nat]
          exact ihm'
        · have hf : qFree who b i = true ∧ ¬ qCe n w who i = true := ⟨hf0, hce⟩
          rw [if_neg hce]
          have hag : vAg (vScQ rl) I' (iU I' 24 who (jI i)) := vAg_iU vAg_rfl (.inr (.inl rfl))
          have hcc : cOk lw n T rl sn h (iU I' 24 who (jI i)) := cOk_ag hrl hag (by rw [iU_row (by omega)]; exact hc.2.2.2.2) hc
          have hmm : qMc n (qLp (fun i st => if qFree who b i = true ∧ ¬ qCe n w who i = true then qSc (qLc lw n T h) n k (who + 1) (qUp w who i) (b ||| 2 ^ i) st else st) i s) (iU I' 24 who (jI i)) := by
            obtain ⟨m1, m2, m3, m4, m5⟩ := hm
            refine ⟨?_, ?_, m3, m4, fun q j hj => ?_⟩
            · rw [iU_row (by omega)]
              exact m1
            · rw [iU_row (by omega)]
              exact m2
            · rw [iU_row (by omega)]
              exact m5 q j hj
          have hww : ∀ j, j < who + 1 → iU I' 24 who (jI i) 24 j = jI (qUp w who i j) := fun j hj => by
            by_cases ej : j = who
            · rw [ej, iU_eq, qUp_eq]
            · rw [iU_same ej, qUp_lt (show j < who by omega)]
              exact hw j (by omega)
          simp only [g31_54, g31_57, g31_58, g31_61, g31_62, g31_64, g31_65, g31_66, g31_67, g31_68, g31_69, g31_70, g31_71, g31_73, g31_74, g31_76, g31_77, g31_78, nl_none, nl_int, nl_ref, Option.toList_some, Option.toList_none, List.cons_append, List.nil_append, mSetI_u, mSetL_u, Nat.add_one_ne_zero, Nat.add_eq_zero_iff, and_false, false_and, not_false_eq_true, ne_eq, j0_0, j0_1, j1_0, j1_1, if_true, if_false, ite_true, ite_false, true_and, and_true, or_true, true_or, false_or, or_false, ↓reduceIte, Nat.reduceEqDiff, Nat.reduceAdd, Nat.reduceMul, Nat.reduceSub, Int.reduceLE, Int.reduceLT, Int.reduceNeg, Int.reduceAdd, Int.reduceSub, Int.reduceEq, reduceCtorEq, jI_lt, jI_eq, jI_lt0, jI_0lt, jI_eq0, jI_0le, jn_lo, iU_row, iU_nr, iU_eq, iU_same, jI_ixn, jI_add, jI_sub, jI_nat, sh_22, sh_24, f_22_4 hF, hrl0, show ((who : Nat) : Int) ≤ 2147483647 by omega, show (who : Nat) ≤ 2147483647 by omega, show ((i : Nat) : Int) ≤ 2147483647 by omega, show (i : Nat) ≤ 2147483647 by omega, jI_in (z := ((who : Int) : Int)) (n := 8) (by omega) (by omega) (by omega)]
          refine ih d (who + 1) (b ||| 2 ^ i) (qUp w who i) _ _ F st nx _ _ _ (by omega) hup hF hsx hcc hww hmm (by rfl) (qBit_o hin.1 (by omega)) (fun I2 F2 st2 nx2 a1 a2 a3 a4 a5 a6 => ?_)
          have ihm' := ihm ((i : Int) + 1) I2 F2 st2 nx2 (by omega) (by omega) a1 a2 (vAg_tr ha (vAg_tr hag a3)) a4 (fun j hj => by rw [a5 j (by omega), qUp_lt hj]) (by
            rw [qLp, if_pos hf]
            exact a6)
          simp only [g31_81, g31_84, nl_none, nl_int, nl_ref, Option.toList_some, Option.toList_none, List.cons_append, List.nil_append, mSetI_u, mSetL_u, Nat.add_one_ne_zero, Nat.add_eq_zero_iff, and_false, false_and, not_false_eq_true, ne_eq, j0_0, j0_1, j1_0, j1_1, if_true, if_false, ite_true, ite_false, true_and, and_true, or_true, true_or, false_or, or_false, ↓reduceIte, Nat.reduceEqDiff, Nat.reduceAdd, Nat.reduceMul, Nat.reduceSub, Int.reduceLE, Int.reduceLT, Int.reduceNeg, Int.reduceAdd, Int.reduceSub, Int.reduceEq, reduceCtorEq, jI_lt, jI_eq, jI_lt0, jI_0lt, jI_eq0, jI_0le, jn_lo, iU_row, iU_nr, iU_eq, iU_same, jI_ixn, jI_add, jI_sub, jI_nat]
          exact ihm'
theorem c31_k (hrl : rl = 70 ∨ rl = 75) (hok : vTownOk n T) (hl : ∀ g q n k s t, 0 ≤ lw g q n k s t ∧ lw g q n k s t ≤ 20) (hsn : sn ≤ 512) (hh : h ≤ 6) : ∀ k, c31S n E T lw rl dr sn h k
  | 0 => c31_0 hrl hok hl hsn hh
  | k + 1 => by
    intro d who b w s I F st nx P zi zb hk hi hF hsx hc hw hm hzi hzb hP
    have hn := hok.1
    subst hzi hzb
    have lp := c31_l (d := d) (P := P) hrl hok (c31_k hrl hok hl hsn hh k) hk hi hP n 0 0 I F st nx (by omega) rfl hF hsx vAg_rfl hc hw hm
    rw [show d + 6 + (k + 1) = d + 6 + k + 1 from rfl]
    simp only [g31_in, g31_0, g31_1, g31_2, g31_5, g31_15, g31_16, nl_none, nl_int, nl_ref, Option.toList_some, Option.toList_none, List.cons_append, List.nil_append, mSetI_u, mSetL_u, Nat.add_one_ne_zero, Nat.add_eq_zero_iff, and_false, false_and, not_false_eq_true, ne_eq, j0_0, j0_1, j1_0, j1_1, if_true, if_false, ite_true, ite_false, true_and, and_true, or_true, true_or, false_or, or_false, ↓reduceIte, Nat.reduceEqDiff, Nat.reduceAdd, Nat.reduceMul, Nat.reduceSub, Int.reduceLE, Int.reduceLT, Int.reduceNeg, Int.reduceAdd, Int.reduceSub, Int.reduceEq, reduceCtorEq, jI_lt, jI_eq, jI_lt0, jI_0lt, jI_eq0, jI_0le, jn_lo, iU_row, iU_nr, iU_eq, iU_same, jI_ixn, jI_add, jI_sub, jI_nat, sh_4, hc.1.2.1, show ((who : Nat) : Int) ≤ 2147483647 by omega, show (who : Nat) ≤ 2147483647 by omega, show ((n : Nat) : Int) ≤ 2147483647 by omega, show (n : Nat) ≤ 2147483647 by omega, show (who : Int) < (n : Int) by omega]
    exact lp
end FND
/-! find -/
def vScF (rl r j : Nat) : Prop := r = 22 ∨ r = 23 ∨ r = 24 ∨ r = 25 ∨ r = 26 ∨ r = 105 ∨ r = rl + 3 ∨ r = rl + 4
def nU {α : Type} [OfNat α 0] (I : Nat → Nat → α) (k : Nat) : Nat → Nat → α := fun a b => if a = k then 0 else I a b
theorem nU_row {α : Type} [OfNat α 0] {I : Nat → Nat → α} {k a : Nat} (h : ¬ a = k) : nU I k a = I a := by
  funext b
  exact if_neg h
theorem mNew_u {I : Nat → Nat → Int32} {E : Nat → Nat → Int64} {F : Nat → Nat → Nat} {k : Nat} : mNew (I, E, F) k = (nU I k, nU E k, nU F k) := rfl
theorem mFx_nu {F : Nat → Nat → Nat} {st nx gf rl dr : Nat} (h : mFx F st nx gf rl dr) : mFx (nU F 105) st nx gf rl dr := by
  intro q hq
  have h1 := h q hq
  have h2 : q.1 < 105 := by
    simp only [List.mem_cons, List.not_mem_nil, or_false] at hq
    repeat' (rcases hq with rfl | hq)
    all_goals first | (exact Nat.le_of_ble_eq_true rfl) | (rw [hq]; exact Nat.le_of_ble_eq_true rfl)
  rw [nU_row (by omega)]
  exact h1
