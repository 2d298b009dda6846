/-! ===== the law's steps at work ===== -/
theorem i32_neg0 (a : Int32) : 0 - a = -a := by
  apply Int32.toBitVec_inj.1
  simp
section WRK
variable {d n : Nat} {lay : List mShp} {I : Nat → Nat → Int32} {E : Nat → Nat → Int64} {F : Nat → Nat → Nat} {P : mPost} {l : Nat} {e : Nat → Int32}
theorem c10 (hL : vLo lay F l) {z : Int} (h0 : 0 ≤ z) (h1 : z ≤ 5) (he : ∀ j, j < 6 → I (l + 4) j = e j) : mF d 10 [.ref l, .int (jI z)] lay (I, E, F) P = P (some (.int (e z.toNat))) lay (I, E, F) := by
  obtain ⟨t, t0, t1, t2, t3, t4, f1, f2, f3, f4⟩ := hL
  obtain ⟨k, rfl⟩ : ∃ k : Nat, z = k := ⟨z.toNat, by omega⟩
  have hk := he k (by omega)
  simp only [g10_in, g10_0, g10_1, g10_4, g10_5, g10_6, g10_9, g10_10, g10_13, g10_14, g10_17, g10_18, g10_19, g10_22, g10_23, nl_none, nl_int, nl_ref, Option.toList_some, Option.toList_none, List.cons_append, List.nil_append, mSetI_u, mSetL_u, Nat.add_one_ne_zero, Nat.add_eq_zero_iff, and_false, false_and, not_false_eq_true, ne_eq, j0_0, j0_1, j1_0, j1_1, if_true, if_false, ite_true, ite_false, true_and, and_true, or_true, true_or, false_or, or_false, ↓reduceIte, Nat.reduceEqDiff, Nat.reduceAdd, Nat.reduceMul, Nat.reduceSub, Int.reduceLE, Int.reduceLT, Int.reduceNeg, Int.reduceAdd, Int.reduceSub, Int.reduceEq, reduceCtorEq, jI_lt, jI_eq, jI_lt0, jI_0lt, jI_eq0, jI_0le, jn_lo, iU_row, iU_nr, iU_eq, iU_same, jI_ixn, jI_add, jI_sub, jI_nat, t, t0, t4, f4, show ((k : Nat) : Int) ≤ 2147483647 by omega, show (k : Nat) ≤ 2147483647 by omega, hk, show ¬ ((k : Int) < 0) by omega, show (k : Int) < 6 by omega, jI_in (z := ((k : Int) : Int)) (n := 6) (by omega) (by omega) (by omega), Int.toNat_natCast, show ((6 : Nat) : Int) = 6 from rfl]
/-- steps without a test or an answer, one behind the other -/
theorem c9_c (hL : vLo lay F l) (hld : ¬ l + 3 = l + 1) {sz : Nat} (hsz : I l 2 = jI sz) (hs : sz ≤ 121) (he : ∀ j, j < 6 → I (l + 4) j = e j) : ∀ (c : lCode) (p k k' : Nat) (y t : Int) (S S' : Nat → Int32) (I' : Nat → Nat → Int32) (a3 : Option Value), p + c.length ≤ sz → y = p → t = (k : Int) - 1 → k ≤ 48 → vAg (fun r _ => r = l + 3) I I' → lHo (I (l + 1)) (I (l + 2)) c p → (∀ j, j < k → I' (l + 3) j = S j) → xRn e c k S = some (k', S') → (∀ I' a3, vAg (fun r _ => r = l + 3) I I' → (∀ j, j < k' → I' (l + 3) j = S' j) → mG (d + 1) 9 4 [some (.ref l), some (.int (jI ((k' : Int) - 1))), some (.int (jI ((p + c.length : Nat) : Int))), a3] [] lay (I', E, F) P) → mG (d + 1) 9 4 [some (.ref l), some (.int (jI t)), some (.int (jI y)), a3] [] lay (I', E, F) P
  | [], p, k, k', y, t, S, S', I', a3, hp, hy, ht, hk, ha, hh, hS, hx, hP => by
    cases hx
    subst hy ht
    exact hP I' a3 ha hS
  | (a, z) :: c, p, k, k', y, t, S, S', I', a3, hp, hy, ht, hk, ha, hh, hS, hx, hP => by
    rw [List.length_cons] at hp
    obtain ⟨q1, q2, q3⟩ := hh
    have q1 : I (l + 1) p = jI a := q1
    have q2 : I (l + 2) p = jI z := q2
    subst hy ht
    have g1 : I' (l + 1) p = jI a := (ha (l + 1) p (by omega)).trans q1
    have g2 : I' (l + 2) p = jI z := (ha (l + 2) p (by omega)).trans q2
    have g0 : I' l 2 = jI sz := (ha l 2 (by omega)).trans hsz
    have he' : ∀ j, j < 6 → I' (l + 4) j = e j := fun j hj => (ha (l + 4) j (by omega)).trans (he j hj)
    have hL' := hL
    obtain ⟨u, t0, t1, t2, t3, t4, f1, f2, f3, f4⟩ := hL
    rw [xRn] at hx
    have hx : (match xSt e a z k S with | none => none | some q => xRn e c q.1 q.2) = some (k', S') := hx
    have hP' : ∀ I' a3, vAg (fun r _ => r = l + 3) I I' → (∀ j, j < k' → I' (l + 3) j = S' j) → mG (d + 1) 9 4 [some (.ref l), some (.int (jI ((k' : Int) - 1))), some (.int (jI ((p + 1 + c.length : Nat) : Int))), a3] [] lay (I', E, F) P := fun I' a3 w1 w2 => by
      have := hP I' a3 w1 w2
      rw [List.length_cons, show p + (c.length + 1) = p + 1 + c.length by omega] at this
      exact this
    have go : ∀ (k1 : Nat) (S1 : Nat → Int32) (t1 : Int) (I1 : Nat → Nat → Int32) (b3 : Option Value), xSt e a z k S = some (k1, S1) → t1 = (k1 : Int) - 1 → k1 ≤ 48 → vAg (fun r _ => r = l + 3) I I1 → (∀ j, j < k1 → I1 (l + 3) j = S1 j) → mG (d + 1) 9 4 [some (.ref l), some (.int (jI t1)), some (.int (jI ((p : Int) + 1))), b3] [] lay (I1, E, F) P := by
      intro k1 S1 t1 I1 b3 w0 w1 w2 w3 w4
      rw [w0] at hx
      exact c9_c hL' hld hsz hs he c (p + 1) k1 k' ((p : Int) + 1) t1 S1 S' I1 b3 (by omega) (by omega) w1 w2 w3 q3 w4 hx hP'
    have hu : ∀ (k0 : Nat) (v : Int32) (m : Nat), k0 ≤ m → (∀ j, j < m → ¬ j = k0 → I' (l + 3) j = S j) → ∀ j, j < m → iU I' (l + 3) k0 v (l + 3) j = sU S k0 v j := fun k0 v m _ w j hj => by
      unfold sU
      by_cases ej : j = k0
      · rw [ej, iU_eq, if_pos rfl]
      · rw [iU_same ej, if_neg ej]
        exact w j hj ej
    rw [g9_4]
    by_cases c0 : a = 0
    · subst c0
      by_cases hk48 : k < 48
      · have hgo := go (k + 1) (sU S k (jI z)) ((k : Int) - 1 + 1) (iU I' (l + 3) k (jI z)) (some (.int (jI 0))) (by unfold xSt; rw [if_pos rfl, if_pos hk48]) (by omega) (by omega) (vAg_iU ha rfl) (fun j hj => by
          unfold sU
          by_cases ej : j = k
          · rw [ej, iU_eq, if_pos rfl]
          · rw [iU_same ej, if_neg ej]
            exact hS j (by omega))
        have ek : (k : Int) - 1 + 1 = (k : Int) := by omega
        rw [ek] at hgo
        simp only [g9_5, g9_6, g9_9, g9_12, g9_13, g9_16, g9_17, g9_18, g9_19, g9_20, g9_21, g9_24, g9_27, g9_28, g9_30, g9_33, g9_34, g9_35, g9_36, g9_39, g9_40, g9_41, g9_44, g9_45, g9_48, g9_49, g9_50, g9_53, g9_54, g9_55, g9_58, g9_59, g9_60, g9_63, g9_64, g9_203, g9_206, nl_none, nl_int, nl_ref, Option.toList_some, Option.toList_none, List.cons_append, List.nil_append, mSetI_u, mSetL_u, Nat.add_one_ne_zero, Nat.add_eq_zero_iff, and_false, false_and, not_false_eq_true, ne_eq, j0_0, j0_1, j1_0, j1_1, if_true, if_false, ite_true, ite_false, true_and, and_true, or_true, true_or, false_or, or_false, ↓reduceIte, Nat.reduceEqDiff, Nat.reduceAdd, Nat.reduceMul, Nat.reduceSub, Int.reduceLE, Int.reduceLT, Int.reduceNeg, Int.reduceAdd, Int.reduceSub, Int.reduceEq, reduceCtorEq, jI_lt, jI_eq, jI_lt0, jI_0lt, jI_eq0, jI_0le, jn_lo, iU_row, iU_nr, iU_eq, iU_same, jI_ixn, jI_add, jI_sub, jI_nat, u, t0, t1, t2, t3, f1, f2, f3, g0, g1, g2, show ((p : Nat) : Int) ≤ 2147483647 by omega, show (p : Nat) ≤ 2147483647 by omega, show ((sz : Nat) : Int) ≤ 2147483647 by omega, show (sz : Nat) ≤ 2147483647 by omega, show ((k : Nat) : Int) ≤ 2147483647 by omega, show (k : Nat) ≤ 2147483647 by omega, show -2147483648 ≤ ((k : Int) - 1 : Int) by omega, show ((k : Int) - 1 : Int) ≤ 2147483647 by omega, show (p : Int) < (sz : Int) by omega, show (k : Int) < 48 by omega, jI_in (z := ((p : Int) : Int)) (n := 128) (by omega) (by omega) (by omega), jI_in (z := ((k : Int) : Int)) (n := 48) (by omega) (by omega) (by omega), ek]
        exact hgo
      · rw [show xSt e 0 z k S = none by unfold xSt; rw [if_pos rfl, if_neg hk48]] at hx
        cases hx
    · by_cases c1 : a = 1
      · subst c1
        by_cases hk48 : k < 48 ∧ 0 ≤ z ∧ z ≤ 5
        · have hgo := go (k + 1) (sU S k (e z.toNat)) ((k : Int) - 1 + 1) (iU I' (l + 3) k (e z.toNat)) (some (.int (jI 1))) (by unfold xSt; rw [if_neg (by omega), if_pos rfl, if_pos hk48]) (by omega) (by omega) (vAg_iU ha rfl) (fun j hj => by
            unfold sU
            by_cases ej : j = k
            · rw [ej, iU_eq, if_pos rfl]
            · rw [iU_same ej, if_neg ej]
              exact hS j (by omega))
          have ek : (k : Int) - 1 + 1 = (k : Int) := by omega
          rw [ek] at hgo
          simp only [g9_5, g9_6, g9_9, g9_12, g9_13, g9_16, g9_17, g9_18, g9_19, g9_20, g9_21, g9_24, g9_27, g9_28, g9_30, g9_33, g9_34, g9_35, g9_36, g9_39, g9_40, g9_41, g9_44, g9_45, g9_48, g9_49, g9_50, g9_53, g9_54, g9_55, g9_58, g9_59, g9_60, g9_63, g9_64, g9_203, g9_206, nl_none, nl_int, nl_ref, Option.toList_some, Option.toList_none, List.cons_append, List.nil_append, mSetI_u, mSetL_u, Nat.add_one_ne_zero, Nat.add_eq_zero_iff, and_false, false_and, not_false_eq_true, ne_eq, j0_0, j0_1, j1_0, j1_1, if_true, if_false, ite_true, ite_false, true_and, and_true, or_true, true_or, false_or, or_false, ↓reduceIte, Nat.reduceEqDiff, Nat.reduceAdd, Nat.reduceMul, Nat.reduceSub, Int.reduceLE, Int.reduceLT, Int.reduceNeg, Int.reduceAdd, Int.reduceSub, Int.reduceEq, reduceCtorEq, jI_lt, jI_eq, jI_lt0, jI_0lt, jI_eq0, jI_0le, jn_lo, iU_row, iU_nr, iU_eq, iU_same, jI_ixn, jI_add, jI_sub, jI_nat, u, t0, t1, t2, t3, f1, f2, f3, g0, g1, g2, show ((p : Nat) : Int) ≤ 2147483647 by omega, show (p : Nat) ≤ 2147483647 by omega, show ((sz : Nat) : Int) ≤ 2147483647 by omega, show (sz : Nat) ≤ 2147483647 by omega, show ((k : Nat) : Int) ≤ 2147483647 by omega, show (k : Nat) ≤ 2147483647 by omega, show -2147483648 ≤ ((k : Int) - 1 : Int) by omega, show ((k : Int) - 1 : Int) ≤ 2147483647 by omega, show (p : Int) < (sz : Int) by omega, show (k : Int) < 48 by omega, jI_in (z := ((p : Int) : Int)) (n := 128) (by omega) (by omega) (by omega), jI_in (z := ((k : Int) : Int)) (n := 48) (by omega) (by omega) (by omega), ek, c10 hL' hk48.2.1 hk48.2.2 he', Int.lt_irrefl]
          exact hgo
        · rw [show xSt e 1 z k S = none by unfold xSt; rw [if_neg (by omega), if_pos rfl, if_neg hk48]] at hx
          cases hx
      · by_cases c4 : a = 4
        · subst c4
          by_cases hk1 : 1 ≤ k
          · obtain ⟨m, rfl⟩ : ∃ m, k = m + 1 := ⟨k - 1, by omega⟩
            have ek : ((m + 1 : Nat) : Int) - 1 = (m : Int) := by omega
            have hgo := go (m + 1) (sU S m (-(S m))) (m : Int) (iU I' (l + 3) m (-(S m))) (some (.int (jI 4))) (by unfold xSt; rw [if_neg (by omega), if_neg (by omega), if_pos rfl, if_pos hk1]; rfl) (by omega) (by omega) (vAg_iU ha rfl) (hu m _ (m + 1) (by omega) (fun j hj _ => hS j hj))
            simp only [g9_5, g9_6, g9_9, g9_12, g9_13, g9_16, g9_17, g9_18, g9_19, g9_20, g9_21, g9_24, g9_27, g9_28, g9_30, g9_33, g9_34, g9_35, g9_36, g9_39, g9_40, g9_41, g9_44, g9_45, g9_48, g9_49, g9_50, g9_53, g9_54, g9_55, g9_58, g9_59, g9_60, g9_63, g9_64, g9_67, g9_68, g9_71, g9_72, g9_73, g9_74, g9_75, g9_78, g9_79, g9_82, g9_83, g9_84, g9_85, g9_86, g9_87, g9_90, g9_91, g9_94, g9_95, g9_96, g9_99, g9_100, g9_101, g9_104, g9_105, g9_106, g9_109, g9_112, g9_113, g9_114, g9_117, g9_120, g9_121, g9_122, g9_125, g9_126, g9_129, g9_130, g9_131, g9_134, g9_135, g9_136, g9_137, g9_138, g9_203, g9_206, nl_none, nl_int, nl_ref, Option.toList_some, Option.toList_none, List.cons_append, List.nil_append, mSetI_u, mSetL_u, Nat.add_one_ne_zero, Nat.add_eq_zero_iff, and_false, false_and, not_false_eq_true, ne_eq, j0_0, j0_1, j1_0, j1_1, if_true, if_false, ite_true, ite_false, true_and, and_true, or_true, true_or, false_or, or_false, ↓reduceIte, Nat.reduceEqDiff, Nat.reduceAdd, Nat.reduceMul, Nat.reduceSub, Int.reduceLE, Int.reduceLT, Int.reduceNeg, Int.reduceAdd, Int.reduceSub, Int.reduceEq, reduceCtorEq, jI_lt, jI_eq, jI_lt0, jI_0lt, jI_eq0, jI_0le, jn_lo, iU_row, iU_nr, iU_eq, iU_same, jI_ixn, jI_add, jI_sub, jI_nat, u, t0, t1, t2, t3, f1, f2, f3, g0, g1, g2, hS m (by omega), show ((p : Nat) : Int) ≤ 2147483647 by omega, show (p : Nat) ≤ 2147483647 by omega, show ((sz : Nat) : Int) ≤ 2147483647 by omega, show (sz : Nat) ≤ 2147483647 by omega, show ((m : Nat) : Int) ≤ 2147483647 by omega, show (m : Nat) ≤ 2147483647 by omega, ek, show (p : Int) < (sz : Int) by omega, show ¬ ((m : Int) < 0) by omega, jI_in (z := ((p : Int) : Int)) (n := 128) (by omega) (by omega) (by omega), jI_in (z := ((m : Int) : Int)) (n := 48) (by omega) (by omega) (by omega), eq_self]
            exact hgo
          · rw [show xSt e 4 z k S = none by unfold xSt; rw [if_neg (by omega), if_neg (by omega), if_pos rfl, if_neg hk1]] at hx
            cases hx
        · by_cases c5 : a = 5
          · subst c5
            by_cases hk1 : 1 ≤ k
            · obtain ⟨m, rfl⟩ : ∃ m, k = m + 1 := ⟨k - 1, by omega⟩
              have ek : ((m + 1 : Nat) : Int) - 1 = (m : Int) := by omega
              have hgo := go (m + 1) (sU S m (if S m = 0 then jI 1 else jI 0)) (m : Int) (iU I' (l + 3) m (if S m = 0 then jI 1 else jI 0)) (some (.int (jI 5))) (by unfold xSt; rw [if_neg (by omega), if_neg (by omega), if_neg (by omega), if_pos rfl, if_pos hk1]; rfl) (by omega) (by omega) (vAg_iU ha rfl) (hu m _ (m + 1) (by omega) (fun j hj _ => hS j hj))
              by_cases q0 : S m = 0
              · rw [if_pos q0] at hgo
                simp only [g9_5, g9_6, g9_9, g9_12, g9_13, g9_16, g9_17, g9_18, g9_19, g9_20, g9_21, g9_24, g9_27, g9_28, g9_30, g9_33, g9_34, g9_35, g9_36, g9_39, g9_40, g9_41, g9_44, g9_45, g9_48, g9_49, g9_50, g9_53, g9_54, g9_55, g9_58, g9_59, g9_60, g9_63, g9_64, g9_67, g9_68, g9_71, g9_72, g9_73, g9_74, g9_75, g9_78, g9_79, g9_82, g9_83, g9_84, g9_85, g9_86, g9_87, g9_90, g9_91, g9_94, g9_95, g9_96, g9_99, g9_100, g9_101, g9_104, g9_105, g9_106, g9_109, g9_112, g9_113, g9_114, g9_117, g9_120, g9_121, g9_122, g9_125, g9_126, g9_129, g9_130, g9_131, g9_134, g9_135, g9_136, g9_137, g9_138, g9_141, g9_142, g9_143, g9_146, g9_147, g9_150, g9_151, g9_152, g9_155, g9_156, g9_157, g9_160, g9_161, g9_164, g9_165, g9_166, g9_203, g9_206, nl_none, nl_int, nl_ref, Option.toList_some, Option.toList_none, List.cons_append, List.nil_append, mSetI_u, mSetL_u, Nat.add_one_ne_zero, Nat.add_eq_zero_iff, and_false, false_and, not_false_eq_true, ne_eq, j0_0, j0_1, j1_0, j1_1, if_true, if_false, ite_true, ite_false, true_and, and_true, or_true, true_or, false_or, or_false, ↓reduceIte, Nat.reduceEqDiff, Nat.reduceAdd, Nat.reduceMul, Nat.reduceSub, Int.reduceLE, Int.reduceLT, Int.reduceNeg, Int.reduceAdd, Int.reduceSub, Int.reduceEq, reduceCtorEq, jI_lt, jI_eq, jI_lt0, jI_0lt, jI_eq0, jI_0le, jn_lo, iU_row, iU_nr, iU_eq, iU_same, jI_ixn, jI_add, jI_sub, jI_nat, u, t0, t1, t2, t3, f1, f2, f3, g0, g1, g2, hS m (by omega), q0, show ((p : Nat) : Int) ≤ 2147483647 by omega, show (p : Nat) ≤ 2147483647 by omega, show ((sz : Nat) : Int) ≤ 2147483647 by omega, show (sz : Nat) ≤ 2147483647 by omega, show ((m : Nat) : Int) ≤ 2147483647 by omega, show (m : Nat) ≤ 2147483647 by omega, ek, show (p : Int) < (sz : Int) by omega, show ¬ ((m : Int) < 0) by omega, jI_in (z := ((p : Int) : Int)) (n := 128) (by omega) (by omega) (by omega), jI_in (z := ((m : Int) : Int)) (n := 48) (by omega) (by omega) (by omega), eq_self]
                exact hgo
              · rw [if_neg q0] at hgo
                simp only [g9_5, g9_6, g9_9, g9_12, g9_13, g9_16, g9_17, g9_18, g9_19, g9_20, g9_21, g9_24, g9_27, g9_28, g9_30, g9_33, g9_34, g9_35, g9_36, g9_39, g9_40, g9_41, g9_44, g9_45, g9_48, g9_49, g9_50, g9_53, g9_54, g9_55, g9_58, g9_59, g9_60, g9_63, g9_64, g9_67, g9_68, g9_71, g9_72, g9_73, g9_74, g9_75, g9_78, g9_79, g9_82, g9_83, g9_84, g9_85, g9_86, g9_87, g9_90, g9_91, g9_94, g9_95, g9_96, g9_99, g9_100, g9_101, g9_104, g9_105, g9_106, g9_109, g9_112, g9_113, g9_114, g9_117, g9_120, g9_121, g9_122, g9_125, g9_126, g9_129, g9_130, g9_131, g9_134, g9_135, g9_136, g9_137, g9_138, g9_141, g9_142, g9_143, g9_146, g9_147, g9_150, g9_151, g9_152, g9_155, g9_156, g9_157, g9_160, g9_161, g9_164, g9_165, g9_166, g9_203, g9_206, nl_none, nl_int, nl_ref, Option.toList_some, Option.toList_none, List.cons_append, List.nil_append, mSetI_u, mSetL_u, Nat.add_one_ne_zero, Nat.add_eq_zero_iff, and_false, false_and, not_false_eq_true, ne_eq, j0_0, j0_1, j1_0, j1_1, if_true, if_false, ite_true, ite_false, true_and, and_true, or_true, true_or, false_or, or_false, ↓reduceIte, Nat.reduceEqDiff, Nat.reduceAdd, Nat.reduceMul, Nat.reduceSub, Int.reduceLE, Int.reduceLT, Int.reduceNeg, Int.reduceAdd, Int.reduceSub, Int.reduceEq, reduceCtorEq, jI_lt, jI_eq, jI_lt0, jI_0lt, jI_eq0, jI_0le, jn_lo, iU_row, iU_nr, iU_eq, iU_same, jI_ixn, jI_add, jI_sub, jI_nat, u, t0, t1, t2, t3, f1, f2, f3, g0, g1, g2, hS m (by omega), q0, show ((p : Nat) : Int) ≤ 2147483647 by omega, show (p : Nat) ≤ 2147483647 by omega, show ((sz : Nat) : Int) ≤ 2147483647 by omega, show (sz : Nat) ≤ 2147483647 by omega, show ((m : Nat) : Int) ≤ 2147483647 by omega, show (m : Nat) ≤ 2147483647 by omega, ek, show (p : Int) < (sz : Int) by omega, show ¬ ((m : Int) < 0) by omega, jI_in (z := ((p : Int) : Int)) (n := 128) (by omega) (by omega) (by omega), jI_in (z := ((m : Int) : Int)) (n := 48) (by omega) (by omega) (by omega), eq_self]
                exact hgo
            · rw [show xSt e 5 z k S = none by unfold xSt; rw [if_neg (by omega), if_neg (by omega), if_neg (by omega), if_pos rfl, if_neg hk1]] at hx
              cases hx
          · by_cases hk2 : 0 ≤ lLev a ∧ 2 ≤ k
            · obtain ⟨m, rfl⟩ : ∃ m, k = m + 2 := ⟨k - 2, by omega⟩
              have ek : ((m + 2 : Nat) : Int) - 1 = (m : Int) + 1 := by omega
              have ek2 : (m : Int) + 1 + -1 = (m : Int) := by omega
              have hsg := lLev_sg (z := a) rfl hk2.1
              have hlv : lLev a = 0 ∨ lLev a = 1 ∨ lLev a = 2 ∨ lLev a = 3 ∨ lLev a = 4 := by
                have h0 := hk2.1
                unfold lLev at h0 ⊢
                revert h0
                repeat' split
                all_goals omega
              have hgo := go (m + 1) (sU S m (lJn a (S m) (S (m + 1)))) (m : Int) (iU I' (l + 3) m (lJn a (S m) (S (m + 1)))) (some (.int (jI a))) (xSt_sg hk2.1 hk2.2) (by omega) (by omega) (vAg_iU ha rfl) (hu m _ (m + 1) (by omega) (fun j hj _ => hS j (by omega)))
              simp only [g9_5, g9_6, g9_9, g9_12, g9_13, g9_16, g9_17, g9_18, g9_19, g9_20, g9_21, g9_24, g9_27, g9_28, g9_30, g9_33, g9_34, g9_35, g9_36, g9_39, g9_40, g9_41, g9_44, g9_45, g9_48, g9_49, g9_50, g9_53, g9_54, g9_55, g9_58, g9_59, g9_60, g9_63, g9_64, g9_67, g9_68, g9_71, g9_72, g9_73, g9_74, g9_75, g9_78, g9_79, g9_82, g9_83, g9_84, g9_85, g9_86, g9_87, g9_90, g9_91, g9_94, g9_95, g9_96, g9_99, g9_100, g9_101, g9_104, g9_105, g9_106, g9_109, g9_112, g9_113, g9_114, g9_117, g9_120, g9_121, g9_122, g9_125, g9_126, g9_129, g9_130, g9_131, g9_134, g9_135, g9_136, g9_137, g9_138, g9_141, g9_142, g9_143, g9_146, g9_147, g9_150, g9_151, g9_152, g9_155, g9_156, g9_157, g9_160, g9_161, g9_164, g9_165, g9_166, g9_169, g9_170, g9_171, g9_174, g9_175, g9_176, g9_179, g9_180, g9_183, g9_184, g9_185, g9_186, g9_189, g9_190, g9_191, g9_192, g9_195, g9_196, g9_197, g9_198, g9_199, g9_202, g9_203, g9_206, nl_none, nl_int, nl_ref, Option.toList_some, Option.toList_none, List.cons_append, List.nil_append, mSetI_u, mSetL_u, Nat.add_one_ne_zero, Nat.add_eq_zero_iff, and_false, false_and, not_false_eq_true, ne_eq, j0_0, j0_1, j1_0, j1_1, if_true, if_false, ite_true, ite_false, true_and, and_true, or_true, true_or, false_or, or_false, ↓reduceIte, Nat.reduceEqDiff, Nat.reduceAdd, Nat.reduceMul, Nat.reduceSub, Int.reduceLE, Int.reduceLT, Int.reduceNeg, Int.reduceAdd, Int.reduceSub, Int.reduceEq, reduceCtorEq, jI_lt, jI_eq, jI_lt0, jI_0lt, jI_eq0, jI_0le, jn_lo, iU_row, iU_nr, iU_eq, iU_same, jI_ixn, jI_add, jI_sub, jI_nat, u, t0, t1, t2, t3, f1, f2, f3, g0, g1, g2, hS m (by omega), hS (m + 1) (by omega), show ((p : Nat) : Int) ≤ 2147483647 by omega, show (p : Nat) ≤ 2147483647 by omega, show ((sz : Nat) : Int) ≤ 2147483647 by omega, show (sz : Nat) ≤ 2147483647 by omega, show ((m : Nat) : Int) ≤ 2147483647 by omega, show (m : Nat) ≤ 2147483647 by omega, show ((m + 1 : Nat) : Int) ≤ 2147483647 by omega, show (m + 1 : Nat) ≤ 2147483647 by omega, show -2147483648 ≤ (a : Int) by omega, show (a : Int) ≤ 2147483647 by omega, show -2147483648 ≤ ((m : Int) + 1 : Int) by omega, show ((m : Int) + 1 : Int) ≤ 2147483647 by omega, ek, ek2, show (p : Int) < (sz : Int) by omega, show 1 < a by omega, show (1 : Int) ≤ (m : Int) + 1 by omega, show ¬ ((m : Int) + 1 < 0) by omega, show ¬ ((m : Int) + 1 < 1) by omega, show ¬ (a = 2) by omega, show ¬ (a = 3) by omega, show ¬ (a = 4) by omega, show ¬ (a = 5) by omega, jI_in (z := ((p : Int) : Int)) (n := 128) (by omega) (by omega) (by omega), jI_in (z := ((m : Int) : Int)) (n := 48) (by omega) (by omega) (by omega), jI_in (z := ((m : Int) + 1 : Int)) (n := 48) (by omega) (by omega) (by omega), jI_ix (z := (m : Int) + 1) (by omega) (by omega), show ((m : Int) + 1).toNat = m + 1 by omega, c11 hlv]
              exact hgo
            · rw [show xSt e a z k S = none by unfold xSt; rw [if_neg c0, if_neg c1, if_neg c4, if_neg c5, if_neg hk2]] at hx
              cases hx
/-- lines -/
theorem c9_t (hL : vLo lay F l) {sz : Nat} (hsz : I l 2 = jI sz) (hs : sz ≤ 121) (he : ∀ j, j < 6 → I (l + 4) j = e j) {v : Int32} (hP : ∀ I', vAg (fun r _ => r = l + 3) I I' → P (some (.int v)) lay (I', E, F)) : ∀ (r : List lLn) (p : Nat) (y : Int) (I' : Nat → Nat → Int32) (a3 : Option Value), y = p → v = lRun e r → vAg (fun r _ => r = l + 3) I I' → lPg (I (l + 1)) (I (l + 2)) r p sz → mG (d + 1) 9 4 [some (.ref l), some (.int (jI (-1))), some (.int (jI y)), a3] [] lay (I', E, F) P
  | [], p, y, I', a3, hy, hv, ha, hg => by
    have hg : p = sz := hg
    obtain ⟨u, t0, t1, t2, t3, t4, f1, f2, f3, f4⟩ := hL
    have g0 : I' l 2 = jI sz := (ha l 2 (by omega)).trans hsz
    have hp := hP I' ha
    rw [hv, lRun] at hp
    subst hy hg
    rw [g9_4]
    simp only [g9_5, g9_6, g9_9, g9_209, g9_210, nl_none, nl_int, nl_ref, Option.toList_some, Option.toList_none, List.cons_append, List.nil_append, mSetI_u, mSetL_u, Nat.add_one_ne_zero, Nat.add_eq_zero_iff, and_false, false_and, not_false_eq_true, ne_eq, j0_0, j0_1, j1_0, j1_1, if_true, if_false, ite_true, ite_false, true_and, and_true, or_true, true_or, false_or, or_false, ↓reduceIte, Nat.reduceEqDiff, Nat.reduceAdd, Nat.reduceMul, Nat.reduceSub, Int.reduceLE, Int.reduceLT, Int.reduceNeg, Int.reduceAdd, Int.reduceSub, Int.reduceEq, reduceCtorEq, jI_lt, jI_eq, jI_lt0, jI_0lt, jI_eq0, jI_0le, jn_lo, iU_row, iU_nr, iU_eq, iU_same, jI_ixn, jI_add, jI_sub, jI_nat, u, t0, g0, show ((p : Nat) : Int) ≤ 2147483647 by omega, show (p : Nat) ≤ 2147483647 by omega, show ¬ ((p : Int) < (p : Int)) by omega]
    exact hp
  | (none, q) :: r, p, y, I', a3, hy, hv, ha, hg => by
    obtain ⟨h1, h2, h3, h4⟩ := hg
    have hle := lPg_le _ _ _ h4
    subst hy
    obtain ⟨S', x1, x2, x3⟩ := h2 e 0 (fun j => I' (l + 3) j) (by omega)
    refine c9_c hL (by omega) hsz hs he q.1 p 0 1 p (-1) (fun j => I' (l + 3) j) S' I' a3 (by omega) rfl (by omega) (by omega) ha h1 (fun j hj => rfl) x1 (fun I1 b3 w1 w2 => ?_)
    obtain ⟨u, t0, t1, t2, t3, t4, f1, f2, f3, f4⟩ := hL
    have g0 : I1 l 2 = jI sz := (w1 l 2 (by omega)).trans hsz
    have g1 : I1 (l + 1) (p + q.1.length) = jI 2 := (w1 (l + 1) _ (by omega)).trans h3
    have hp := hP I1 w1
    rw [hv, lRun, ← x2] at hp
    rw [g9_4]
    simp only [g9_5, g9_6, g9_9, g9_12, g9_13, g9_16, g9_17, g9_18, g9_19, g9_20, g9_21, g9_24, g9_27, g9_28, g9_30, g9_33, g9_34, g9_35, g9_36, g9_39, g9_40, g9_41, g9_44, g9_45, g9_48, g9_49, g9_50, g9_53, g9_54, g9_55, g9_58, g9_59, g9_60, g9_63, g9_64, g9_67, g9_68, g9_71, g9_72, g9_73, g9_74, g9_75, g9_78, g9_79, g9_82, g9_83, g9_84, nl_none, nl_int, nl_ref, Option.toList_some, Option.toList_none, List.cons_append, List.nil_append, mSetI_u, mSetL_u, Nat.add_one_ne_zero, Nat.add_eq_zero_iff, and_false, false_and, not_false_eq_true, ne_eq, j0_0, j0_1, j1_0, j1_1, if_true, if_false, ite_true, ite_false, true_and, and_true, or_true, true_or, false_or, or_false, ↓reduceIte, Nat.reduceEqDiff, Nat.reduceAdd, Nat.reduceMul, Nat.reduceSub, Int.reduceLE, Int.reduceLT, Int.reduceNeg, Int.reduceAdd, Int.reduceSub, Int.reduceEq, reduceCtorEq, jI_lt, jI_eq, jI_lt0, jI_0lt, jI_eq0, jI_0le, jn_lo, iU_row, iU_nr, iU_eq, iU_same, jI_ixn, jI_add, jI_sub, jI_nat, u, t0, t1, t3, f1, f3, g0, g1, w2 0 (by omega), show ((p + q.1.length : Nat) : Int) ≤ 2147483647 by omega, show (p + q.1.length : Nat) ≤ 2147483647 by omega, show ((sz : Nat) : Int) ≤ 2147483647 by omega, show (sz : Nat) ≤ 2147483647 by omega, show ((p + q.1.length : Nat) : Int) < (sz : Int) by omega, jI_in (z := (((p + q.1.length : Nat) : Int) : Int)) (n := 128) (by omega) (by omega) (by omega), show mIdx (Int32.ofInt 0) 48 = true from rfl, show (Int32.ofInt 0).toNatClampNeg = 0 from rfl, show ((1 : Nat) : Int) - 1 = 0 from rfl, eq_self, Int.lt_irrefl]
    exact hp
  | (some t, q) :: r, p, y, I', a3, hy, hv, ha, hg => by
    obtain ⟨h1, h2, h3, h4, h5, h6, h7, h8⟩ := hg
    have hle := lPg_le _ _ _ h8
    subst hy
    obtain ⟨S', x1, x2, x3⟩ := h2 e 0 (fun j => I' (l + 3) j) (by omega)
    refine c9_c hL (by omega) hsz hs he t.1 p 0 1 p (-1) (fun j => I' (l + 3) j) S' I' a3 (by omega) rfl (by omega) (by omega) ha h1 (fun j hj => rfl) x1 (fun I1 b3 w1 w2 => ?_)
    have hL' := hL
    obtain ⟨u, t0, t1, t2, t3, t4, f1, f2, f3, f4⟩ := hL
    have g0 : I1 l 2 = jI sz := (w1 l 2 (by omega)).trans hsz
    have g1 : I1 (l + 1) (p + t.1.length) = jI 3 := (w1 (l + 1) _ (by omega)).trans h3
    have g2 : I1 (l + 2) (p + t.1.length) = jI ((p + t.1.length + 1 + q.1.length : Nat) : Int) := (w1 (l + 2) _ (by omega)).trans h4
    rw [g9_4]
    by_cases q0 : t.2 e = 0
    · have hv' : v = lRun e r := by rw [hv, lRun, if_pos q0]
      have ih := c9_t hL' hsz hs he hP r (p + t.1.length + 1 + q.1.length + 1) (((p + t.1.length + 1 + q.1.length : Nat) : Int) + 1) I1 (some (.int (jI 3))) (by omega) hv' w1 h8
      simp only [g9_5, g9_6, g9_9, g9_12, g9_13, g9_16, g9_17, g9_18, g9_19, g9_20, g9_21, g9_24, g9_27, g9_28, g9_30, g9_33, g9_34, g9_35, g9_36, g9_39, g9_40, g9_41, g9_44, g9_45, g9_48, g9_49, g9_50, g9_53, g9_54, g9_55, g9_58, g9_59, g9_60, g9_63, g9_64, g9_67, g9_68, g9_71, g9_72, g9_73, g9_74, g9_75, g9_78, g9_79, g9_82, g9_83, g9_84, g9_85, g9_86, g9_87, g9_90, g9_91, g9_94, g9_95, g9_96, g9_99, g9_100, g9_101, g9_104, g9_105, g9_106, g9_109, g9_112, g9_113, g9_114, g9_117, g9_203, g9_206, nl_none, nl_int, nl_ref, Option.toList_some, Option.toList_none, List.cons_append, List.nil_append, mSetI_u, mSetL_u, Nat.add_one_ne_zero, Nat.add_eq_zero_iff, and_false, false_and, not_false_eq_true, ne_eq, j0_0, j0_1, j1_0, j1_1, if_true, if_false, ite_true, ite_false, true_and, and_true, or_true, true_or, false_or, or_false, ↓reduceIte, Nat.reduceEqDiff, Nat.reduceAdd, Nat.reduceMul, Nat.reduceSub, Int.reduceLE, Int.reduceLT, Int.reduceNeg, Int.reduceAdd, Int.reduceSub, Int.reduceEq, reduceCtorEq, jI_lt, jI_eq, jI_lt0, jI_0lt, jI_eq0, jI_0le, jn_lo, iU_row, iU_nr, iU_eq, iU_same, jI_ixn, jI_add, jI_sub, jI_nat, u, t0, t1, t2, t3, f1, f2, f3, g0, g1, g2, w2 0 (by omega), x2, q0, show ((p + t.1.length : Nat) : Int) ≤ 2147483647 by omega, show (p + t.1.length : Nat) ≤ 2147483647 by omega, show ((sz : Nat) : Int) ≤ 2147483647 by omega, show (sz : Nat) ≤ 2147483647 by omega, show ((p + t.1.length + 1 + q.1.length : Nat) : Int) ≤ 2147483647 by omega, show (p + t.1.length + 1 + q.1.length : Nat) ≤ 2147483647 by omega, show ((p + t.1.length : Nat) : Int) < (sz : Int) by omega, show ((p + t.1.length : Nat) : Int) < ((p + t.1.length + 1 + q.1.length : Nat) : Int) by omega, jI_in (z := (((p + t.1.length : Nat) : Int) : Int)) (n := 128) (by omega) (by omega) (by omega), show mIdx (Int32.ofInt 0) 48 = true from rfl, show (Int32.ofInt 0).toNatClampNeg = 0 from rfl, show ((1 : Nat) : Int) - 1 = 0 from rfl, eq_self, Int.lt_irrefl]
      exact ih
    · have hv' : v = q.2 e := by rw [hv, lRun, if_neg q0]
      obtain ⟨S2, y1, y2, y3⟩ := h6 e 0 (fun j => I1 (l + 3) j) (by omega)
      have fin := c9_c (d := d) (P := P) hL' (by omega) hsz hs he q.1 (p + t.1.length + 1) 0 1 (((p + t.1.length : Nat) : Int) + 1) (-1) (fun j => I1 (l + 3) j) S2 I1 (some (.int (jI 3))) (by omega) (by omega) (by omega) (by omega) w1 h5 (fun j hj => rfl) y1 (fun I2 b4 w3 w4 => by
        have k0 : I2 l 2 = jI sz := (w3 l 2 (by omega)).trans hsz
        have k1 : I2 (l + 1) (p + t.1.length + 1 + q.1.length) = jI 2 := (w3 (l + 1) _ (by omega)).trans h7
        have hp := hP I2 w3
        rw [hv', ← y2] at hp
        rw [g9_4]
        simp only [g9_5, g9_6, g9_9, g9_12, g9_13, g9_16, g9_17, g9_18, g9_19, g9_20, g9_21, g9_24, g9_27, g9_28, g9_30, g9_33, g9_34, g9_35, g9_36, g9_39, g9_40, g9_41, g9_44, g9_45, g9_48, g9_49, g9_50, g9_53, g9_54, g9_55, g9_58, g9_59, g9_60, g9_63, g9_64, g9_67, g9_68, g9_71, g9_72, g9_73, g9_74, g9_75, g9_78, g9_79, g9_82, g9_83, g9_84, nl_none, nl_int, nl_ref, Option.toList_some, Option.toList_none, List.cons_append, List.nil_append, mSetI_u, mSetL_u, Nat.add_one_ne_zero, Nat.add_eq_zero_iff, and_false, false_and, not_false_eq_true, ne_eq, j0_0, j0_1, j1_0, j1_1, if_true, if_false, ite_true, ite_false, true_and, and_true, or_true, true_or, false_or, or_false, ↓reduceIte, Nat.reduceEqDiff, Nat.reduceAdd, Nat.reduceMul, Nat.reduceSub, Int.reduceLE, Int.reduceLT, Int.reduceNeg, Int.reduceAdd, Int.reduceSub, Int.reduceEq, reduceCtorEq, jI_lt, jI_eq, jI_lt0, jI_0lt, jI_eq0, jI_0le, jn_lo, iU_row, iU_nr, iU_eq, iU_same, jI_ixn, jI_add, jI_sub, jI_nat, u, t0, t1, t3, f1, f3, k0, k1, w4 0 (by omega), show ((p + t.1.length + 1 + q.1.length : Nat) : Int) ≤ 2147483647 by omega, show (p + t.1.length + 1 + q.1.length : Nat) ≤ 2147483647 by omega, show ((sz : Nat) : Int) ≤ 2147483647 by omega, show (sz : Nat) ≤ 2147483647 by omega, show ((p + t.1.length + 1 + q.1.length : Nat) : Int) < (sz : Int) by omega, jI_in (z := (((p + t.1.length + 1 + q.1.length : Nat) : Int) : Int)) (n := 128) (by omega) (by omega) (by omega), show mIdx (Int32.ofInt 0) 48 = true from rfl, show (Int32.ofInt 0).toNatClampNeg = 0 from rfl, show ((1 : Nat) : Int) - 1 = 0 from rfl, eq_self, Int.lt_irrefl]
        exact hp)
      simp only [g9_5, g9_6, g9_9, g9_12, g9_13, g9_16, g9_17, g9_18, g9_19, g9_20, g9_21, g9_24, g9_27, g9_28, g9_30, g9_33, g9_34, g9_35, g9_36, g9_39, g9_40, g9_41, g9_44, g9_45, g9_48, g9_49, g9_50, g9_53, g9_54, g9_55, g9_58, g9_59, g9_60, g9_63, g9_64, g9_67, g9_68, g9_71, g9_72, g9_73, g9_74, g9_75, g9_78, g9_79, g9_82, g9_83, g9_84, g9_85, g9_86, g9_87, g9_90, g9_91, g9_94, g9_95, g9_96, g9_99, g9_100, g9_101, g9_104, g9_105, g9_106, g9_109, g9_112, g9_113, g9_114, g9_117, g9_203, g9_206, nl_none, nl_int, nl_ref, Option.toList_some, Option.toList_none, List.cons_append, List.nil_append, mSetI_u, mSetL_u, Nat.add_one_ne_zero, Nat.add_eq_zero_iff, and_false, false_and, not_false_eq_true, ne_eq, j0_0, j0_1, j1_0, j1_1, if_true, if_false, ite_true, ite_false, true_and, and_true, or_true, true_or, false_or, or_false, ↓reduceIte, Nat.reduceEqDiff, Nat.reduceAdd, Nat.reduceMul, Nat.reduceSub, Int.reduceLE, Int.reduceLT, Int.reduceNeg, Int.reduceAdd, Int.reduceSub, Int.reduceEq, reduceCtorEq, jI_lt, jI_eq, jI_lt0, jI_0lt, jI_eq0, jI_0le, jn_lo, iU_row, iU_nr, iU_eq, iU_same, jI_ixn, jI_add, jI_sub, jI_nat, u, t0, t1, t2, t3, f1, f2, f3, g0, g1, g2, w2 0 (by omega), x2, q0, show ((p + t.1.length : Nat) : Int) ≤ 2147483647 by omega, show (p + t.1.length : Nat) ≤ 2147483647 by omega, show ((sz : Nat) : Int) ≤ 2147483647 by omega, show (sz : Nat) ≤ 2147483647 by omega, show ((p + t.1.length : Nat) : Int) < (sz : Int) by omega, jI_in (z := (((p + t.1.length : Nat) : Int) : Int)) (n := 128) (by omega) (by omega) (by omega), show mIdx (Int32.ofInt 0) 48 = true from rfl, show (Int32.ofInt 0).toNatClampNeg = 0 from rfl, show ((1 : Nat) : Int) - 1 = 0 from rfl, eq_self, Int.lt_irrefl]
      exact fin
end WRK
/-- what is told of the day -/
def lEnv (g q n k s t : Int) : Nat → Int32 := fun j => if j = 0 then jI g else if j = 1 then jI q else if j = 2 then jI n else if j = 3 then jI k else if j = 4 then jI s else jI t
/-- the law of lines -/
def lLw (r : List lLn) : vLw := fun g q n k s t => pHold (lRun (lEnv g q n k s t) r).toInt 20
theorem pHold_20 (v : Int) : 0 ≤ pHold v 20 ∧ pHold v 20 ≤ 20 := by
  unfold pHold
  split
  · omega
  · split <;> omega
theorem vLawC_of {r : List lLn} {steps wth : Nat → Int32} {sz : Nat} (h0 : 0 < sz) (hs : sz ≤ 121) (hg : lPg steps wth r 0 sz) : vLawC (lLw r) steps wth (jI sz) := by
  refine ⟨fun g q n k s t => pHold_20 _, ?_⟩
  intro lay F l I E d P g q n k s t hL h1 h2 h3 hin hP
  have hL' := hL
  obtain ⟨u, t0, t1, t2, t3, t4, f1, f2, f3, f4⟩ := hL
  obtain ⟨z, z0, z1, hz⟩ := jI_of (lRun (lEnv g q n k s t) r)
  obtain ⟨I1, hI1⟩ : ∃ I1, I1 = iU (iU (iU (iU (iU (iU I (l + 4) 0 (jI g)) (l + 4) 1 (jI q)) (l + 4) 2 (jI n)) (l + 4) 3 (jI k)) (l + 4) 4 (jI s)) (l + 4) 5 (jI t) := ⟨_, rfl⟩
  have ha : vAg (fun r _ => r = l + 3 ∨ r = l + 4) I I1 := by
    rw [hI1]
    exact vAg_iU (vAg_iU (vAg_iU (vAg_iU (vAg_iU (vAg_iU vAg_rfl (.inr rfl)) (.inr rfl)) (.inr rfl)) (.inr rfl)) (.inr rfl)) (.inr rfl)
  have he : ∀ j, j < 6 → I1 (l + 4) j = lEnv g q n k s t j := by
    intro j hj
    rw [hI1]
    rcases (by omega : j = 0 ∨ j = 1 ∨ j = 2 ∨ j = 3 ∨ j = 4 ∨ j = 5) with rfl | rfl | rfl | rfl | rfl | rfl
    · rw [iU_same (by omega), iU_same (by omega), iU_same (by omega), iU_same (by omega), iU_same (by omega), iU_eq]
      rfl
    · rw [iU_same (by omega), iU_same (by omega), iU_same (by omega), iU_same (by omega), iU_eq]
      rfl
    · rw [iU_same (by omega), iU_same (by omega), iU_same (by omega), iU_eq]
      rfl
    · rw [iU_same (by omega), iU_same (by omega), iU_eq]
      rfl
    · rw [iU_same (by omega), iU_eq]
      rfl
    · rw [iU_eq]
      rfl
  have r1 : I1 (l + 1) = I (l + 1) := vAg_row ha (fun j => by omega)
  have r2 : I1 (l + 2) = I (l + 2) := vAg_row ha (fun j => by omega)
  have r0 : I1 l 2 = jI sz := (ha l 2 (by omega)).trans h3
  have hlw : lLw r g q n k s t = pHold z 20 := by
    unfold lLw
    rw [hz, jI_toInt z0 z1]
  rw [hlw] at hP
  simp only [g8_in, g8_0, g8_1, g8_4, g8_7, g8_8, g8_9, g8_10, g8_11, g8_12, g8_14, g8_17, g8_18, g8_19, g8_22, g8_23, g8_24, g8_25, g8_26, g8_29, g8_30, g8_31, g8_32, g8_33, g8_36, g8_37, g8_38, g8_39, g8_40, g8_43, g8_44, g8_46, g8_47, g8_48, g8_51, g8_52, g8_54, g8_55, g8_56, g8_59, g8_60, g8_62, g8_63, g8_64, g9_in, g9_0, g9_1, g9_2, g9_3, nl_none, nl_int, nl_ref, Option.toList_some, Option.toList_none, List.cons_append, List.nil_append, mSetI_u, mSetL_u, Nat.add_one_ne_zero, Nat.add_eq_zero_iff, and_false, false_and, not_false_eq_true, ne_eq, j0_0, j0_1, j1_0, j1_1, if_true, if_false, ite_true, ite_false, true_and, and_true, or_true, true_or, false_or, or_false, ↓reduceIte, Nat.reduceEqDiff, Nat.reduceAdd, Nat.reduceMul, Nat.reduceSub, Int.reduceLE, Int.reduceLT, Int.reduceNeg, Int.reduceAdd, Int.reduceSub, Int.reduceEq, reduceCtorEq, jI_lt, jI_eq, jI_lt0, jI_0lt, jI_eq0, jI_0le, jn_lo, iU_row, iU_nr, iU_eq, iU_same, jI_ixn, jI_add, jI_sub, jI_nat, u, t0, t4, f4, h3, show ((sz : Nat) : Int) ≤ 2147483647 by omega, show (sz : Nat) ≤ 2147483647 by omega, show ¬ ((sz : Int) = 0) by omega, show mIdx (Int32.ofInt 0) 6 = true from rfl, show (Int32.ofInt 0).toNatClampNeg = 0 from rfl, show mIdx (Int32.ofInt 1) 6 = true from rfl, show (Int32.ofInt 1).toNatClampNeg = 1 from rfl, show mIdx (Int32.ofInt 2) 6 = true from rfl, show (Int32.ofInt 2).toNatClampNeg = 2 from rfl, show mIdx (Int32.ofInt 3) 6 = true from rfl, show (Int32.ofInt 3).toNatClampNeg = 3 from rfl, show mIdx (Int32.ofInt 4) 6 = true from rfl, show (Int32.ofInt 4).toNatClampNeg = 4 from rfl, show mIdx (Int32.ofInt 5) 6 = true from rfl, show (Int32.ofInt 5).toNatClampNeg = 5 from rfl]
  rw [← hI1]
  refine c9_t (e := lEnv g q n k s t) (v := jI z) hL' r0 hs he (fun I2 w => ?_) r 0 0 I1 none rfl hz.symm vAg_rfl (by rw [r1, r2, h1, h2]; exact hg)
  have hp := hP I2 (vAg_tr ha (vAg_mono w (fun r j x => .inl x)))
  simp only [g8_67, g8_69, g8_72, nl_none, nl_int, nl_ref, Option.toList_some, Option.toList_none, List.cons_append, List.nil_append, mSetI_u, mSetL_u, Nat.add_one_ne_zero, Nat.add_eq_zero_iff, and_false, false_and, not_false_eq_true, ne_eq, j0_0, j0_1, j1_0, j1_1, if_true, if_false, ite_true, ite_false, true_and, and_true, or_true, true_or, false_or, or_false, ↓reduceIte, Nat.reduceEqDiff, Nat.reduceAdd, Nat.reduceMul, Nat.reduceSub, Int.reduceLE, Int.reduceLT, Int.reduceNeg, Int.reduceAdd, Int.reduceSub, Int.reduceEq, reduceCtorEq, jI_lt, jI_eq, jI_lt0, jI_0lt, jI_eq0, jI_0le, jn_lo, iU_row, iU_nr, iU_eq, iU_same, jI_ixn, jI_add, jI_sub, jI_nat, c133 z0 z1 (show -2147483648 ≤ (20 : Int) by omega) (show (20 : Int) ≤ 2147483647 by omega)]
  exact hp
