section MNE
variable {d n : Nat} {e : List mShp} {I I' : Nat → Nat → Int32} {E : Nat → Nat → Int64} {F : Nat → Nat → Nat} {P : mPost} {T : Nat → Nat → Int} {st nx gf rl dr : Nat} {a b v w : Int}
theorem n39_39 : (Int32.ofInt 39).toNatClampNeg = 39 := by decide
theorem n1_1 : (Int32.ofInt 1).toNatClampNeg = 1 := by decide
theorem cp_39 : mCpOk (Int32.ofInt 39) (Int32.ofInt 0) (Int32.ofInt 1) 40 40 = True := by
  have h : mCpOk (Int32.ofInt 39) (Int32.ofInt 0) (Int32.ofInt 1) 40 40 := by unfold mCpOk; decide
  exact eq_true h
theorem cU_sh {k j : Nat} (h : j < 39) : cU I k k 1 0 39 k j = I k (j + 1) := by
  rw [cU_to, if_pos (by omega)]
  congr 1
  omega
theorem c1_e (hF : mFx F st nx gf rl dr) {m : Nat} (hm : m < 40) (hd : I 48 4 = jI m) : mF (d + 1) 1 [.ref 48, .int (jI a), .int (jI b), .int (jI w), .int (jI v)] (mLay e) (I, E, F) P = P none (mLay e) (iU (iU (iU (iU (iU (iU I 49 m (jI a)) 50 m (jI b)) 51 m (jI w)) 52 m (jI v)) 48 4 (jI ((m : Int) + 1))) 48 5 (jI ((m : Int) + 1)), E, F) := by
  simp only [g1_in, g1_0, g1_1, g1_4, g1_6, g1_9, g1_10, g1_13, g1_14, g1_17, g1_18, g1_21, g1_22, g1_23, g1_24, g1_27, g1_28, g1_31, g1_32, g1_33, g1_34, g1_37, g1_38, g1_41, g1_42, g1_43, g1_44, g1_47, g1_48, g1_51, g1_53, g1_54, g1_55, g1_56, g1_59, g1_60, g1_61, g1_64, g1_65, g1_66, g1_69, g1_72, nl_none, nl_int, nl_ref, Option.toList_some, Option.toList_none, List.cons_append, List.nil_append, mSetI_u, mSetL_u, Nat.add_one_ne_zero, Nat.add_eq_zero_iff, and_false, false_and, not_false_eq_true, ne_eq, j0_0, j0_1, j1_0, j1_1, if_true, if_false, ite_true, ite_false, true_and, and_true, or_true, true_or, false_or, or_false, ↓reduceIte, Nat.reduceEqDiff, Nat.reduceAdd, Nat.reduceMul, Nat.reduceSub, Int.reduceLE, Int.reduceLT, Int.reduceNeg, Int.reduceAdd, Int.reduceSub, Int.reduceEq, reduceCtorEq, jI_lt, jI_eq, jI_lt0, jI_0lt, jI_eq0, jI_0le, jn_lo, iU_row, iU_nr, iU_eq, iU_same, jI_ixn, jI_add, jI_sub, jI_nat, sh_48, sh_49, sh_50, sh_51, sh_52, f_48_0 hF, f_48_1 hF, f_48_2 hF, f_48_3 hF, hd, show ((m : Nat) : Int) ≤ 2147483647 by omega, show (m : Nat) ≤ 2147483647 by omega, show (m : Int) < 40 by omega, jI_in (z := ((m : Int) : Int)) (n := 40) (by omega) (by omega) (by omega)]
theorem c1 (hF : mFx F st nx gf rl dr) {dn m sh : Nat} (hd : I 48 4 = jI dn) (hms : (dn < 40 ∧ m = dn ∧ sh = 0) ∨ (dn = 40 ∧ m = 39 ∧ sh = 1)) (hP : ∀ I', vAg (fun r _ => 48 ≤ r ∧ r ≤ 52) I I' → (∀ r, 49 ≤ r → r ≤ 52 → ∀ j, j < m → I' r j = I r (j + sh)) → I' 49 m = jI a → I' 50 m = jI b → I' 51 m = jI w → I' 52 m = jI v → I' 48 4 = jI ((m : Int) + 1) → I' 48 5 = jI ((m : Int) + 1) → P none (mLay e) (I', E, F)) : mF (d + 1) 1 [.ref 48, .int (jI a), .int (jI b), .int (jI w), .int (jI v)] (mLay e) (I, E, F) P := by
  have fin : ∀ I1, vAg (fun r _ => 48 ≤ r ∧ r ≤ 52) I I1 → (∀ r, 49 ≤ r → r ≤ 52 → ∀ j, j < m → I1 r j = I r (j + sh)) → P none (mLay e) (iU (iU (iU (iU (iU (iU I1 49 m (jI a)) 50 m (jI b)) 51 m (jI w)) 52 m (jI v)) 48 4 (jI ((m : Int) + 1))) 48 5 (jI ((m : Int) + 1)), E, F) := by
    intro I1 h1 hr
    refine hP _ (vAg_iU (vAg_iU (vAg_iU (vAg_iU (vAg_iU (vAg_iU h1 (by omega)) (by omega)) (by omega)) (by omega)) (by omega)) (by omega)) (fun r hr0 hr1 j hj => ?_) ?_ ?_ ?_ ?_ ?_ ?_
    · rw [iU_ne (by omega), iU_ne (by omega), iU_ne (by omega), iU_ne (by omega), iU_ne (by omega), iU_ne (by omega)]
      exact hr r hr0 hr1 j hj
    · simp only [iU_row, iU_eq, Nat.reduceEqDiff, not_false_eq_true]
    · simp only [iU_row, iU_eq, Nat.reduceEqDiff, not_false_eq_true]
    · simp only [iU_row, iU_eq, Nat.reduceEqDiff, not_false_eq_true]
    · simp only [iU_row, iU_eq, Nat.reduceEqDiff, not_false_eq_true]
    · simp only [iU_same, iU_eq, Nat.reduceEqDiff, not_false_eq_true]
    · simp only [iU_eq]
  rcases hms with ⟨h1, rfl, rfl⟩ | ⟨rfl, rfl, rfl⟩
  · rw [c1_e hF h1 hd]
    exact fin I vAg_rfl (fun r _ _ j _ => rfl)
  · have e40 : ((39 : Nat) : Int) + 1 = 40 := rfl
    have hf := fin (iU (cU (cU (cU (cU I 49 49 1 0 39) 50 50 1 0 39) 51 51 1 0 39) 52 52 1 0 39) 48 4 (Int32.ofInt 39)) (vAg_iU (vAg_cU (vAg_cU (vAg_cU (vAg_cU vAg_rfl (fun _ => by omega)) (fun _ => by omega)) (fun _ => by omega)) (fun _ => by omega)) (by omega)) (fun r h0 h1 j hj => by
      rw [iU_nr (by omega)]
      rcases (by omega : r = 49 ∨ r = 50 ∨ r = 51 ∨ r = 52) with rfl | rfl | rfl | rfl
      · rw [cU_row (by omega), cU_row (by omega), cU_row (by omega), cU_sh hj]
      · rw [cU_row (by omega), cU_row (by omega), cU_sh hj, cU_row (by omega)]
      · rw [cU_row (by omega), cU_sh hj, cU_row (by omega), cU_row (by omega)]
      · rw [cU_sh hj, cU_row (by omega), cU_row (by omega), cU_row (by omega)])
    have hd0 : I 48 4 = jI 40 := hd
    simp only [g1_in, g1_0, g1_1, g1_4, g1_6, g1_9, g1_10, g1_13, g1_14, g1_17, g1_18, g1_21, g1_22, g1_23, g1_24, g1_27, g1_28, g1_31, g1_32, g1_33, g1_34, g1_37, g1_38, g1_41, g1_42, g1_43, g1_44, g1_47, g1_48, g1_51, g1_53, g1_54, g1_55, g1_56, g1_59, g1_60, g1_61, g1_64, g1_65, g1_66, g1_69, g1_72, g2_in, g2_0, g2_1, g2_4, g2_5, g2_6, g2_9, g2_10, g2_12, g2_15, g2_16, g2_19, g2_20, g2_21, g2_24, g2_25, g2_27, g2_30, g2_31, g2_34, g2_35, g2_36, g2_39, g2_40, g2_42, g2_45, g2_46, g2_49, g2_50, g2_51, g2_54, g2_55, g2_57, g2_60, g2_61, g2_63, g2_66, nl_none, nl_int, nl_ref, Option.toList_some, Option.toList_none, List.cons_append, List.nil_append, mSetI_u, mSetL_u, Nat.add_one_ne_zero, Nat.add_eq_zero_iff, and_false, false_and, not_false_eq_true, ne_eq, j0_0, j0_1, j1_0, j1_1, if_true, if_false, ite_true, ite_false, true_and, and_true, or_true, true_or, false_or, or_false, ↓reduceIte, Nat.reduceEqDiff, Nat.reduceAdd, Nat.reduceMul, Nat.reduceSub, Int.reduceLE, Int.reduceLT, Int.reduceNeg, Int.reduceAdd, Int.reduceSub, Int.reduceEq, reduceCtorEq, jI_lt, jI_eq, jI_lt0, jI_0lt, jI_eq0, jI_0le, jn_lo, iU_row, iU_nr, iU_eq, iU_same, jI_ixn, jI_add, jI_sub, jI_nat, sh_48, sh_49, sh_50, sh_51, sh_52, f_48_0 hF, f_48_1 hF, f_48_2 hF, f_48_3 hF, hd0, mCpyI_u, n39_39, n1_1, n0_0, cp_39, show mIdx (Int32.ofInt 39) 40 = true from rfl, show (Int32.ofInt 39).toNatClampNeg = 39 from rfl]
    exact hf
theorem r157_u (hF : mFx F st nx gf rl dr) {dn m sh : Nat} {cd : Int} (hcd : 0 ≤ cd ∧ cd ≤ 41) (hd : I 80 6 = jI dn) (hms : (dn < 40 ∧ m = dn ∧ sh = 0) ∨ (dn = 40 ∧ m = 39 ∧ sh = 1)) {x1 x2 x5 : Int32} (hP : ∀ I', vAg (fun r j => r = 81 ∨ (83 ≤ r ∧ r ≤ 85) ∨ (r = 80 ∧ (j = 6 ∨ j = 7))) I I' → I' 81 = iU I 81 cd.toNat (jI v) 81 → (∀ r, 83 ≤ r → r ≤ 85 → ∀ j, j < m → I' r j = I r (j + sh)) → I' 83 m = jI cd → I' 84 m = jI w → I' 85 m = jI v → I' 80 6 = jI ((m : Int) + 1) → I' 80 7 = jI ((m : Int) + 1) → P (some (.int (jI w))) (mLay e) (I', E, F)) : mG d 157 104 [some (.ref 80), some (.int x1), some (.int x2), some (.int (jI v)), some (.int (jI cd)), some (.int x5), some (.int (jI w)), none] [] (mLay e) (I, E, F) P := by
  have fin : ∀ I1, vAg (fun r j => r = 81 ∨ (83 ≤ r ∧ r ≤ 85) ∨ (r = 80 ∧ (j = 6 ∨ j = 7))) I I1 → I1 81 = iU I 81 cd.toNat (jI v) 81 → (∀ r, 83 ≤ r → r ≤ 85 → ∀ j, j < m → I1 r j = I r (j + sh)) → P (some (.int (jI w))) (mLay e) (iU (iU (iU (iU (iU I1 83 m (jI cd)) 84 m (jI w)) 85 m (jI v)) 80 6 (jI ((m : Int) + 1))) 80 7 (jI ((m : Int) + 1)), E, F) := by
    intro I1 h1 h81 hr
    refine hP _ (vAg_iU (vAg_iU (vAg_iU (vAg_iU (vAg_iU h1 (by omega)) (by omega)) (by omega)) (by omega)) (by omega)) ?_ (fun r hr0 hr1 j hj => ?_) ?_ ?_ ?_ ?_ ?_
    · simp only [iU_row (a := 81), Nat.reduceEqDiff, not_false_eq_true]
      exact h81
    · rw [iU_nr (by omega), iU_nr (by omega), iU_ne (by omega), iU_ne (by omega), iU_ne (by omega)]
      exact hr r hr0 hr1 j hj
    · simp only [iU_row, iU_eq, Nat.reduceEqDiff, not_false_eq_true]
    · simp only [iU_row, iU_eq, Nat.reduceEqDiff, not_false_eq_true]
    · simp only [iU_row, iU_eq, Nat.reduceEqDiff, not_false_eq_true]
    · simp only [iU_same, iU_eq, Nat.reduceEqDiff, not_false_eq_true]
    · simp only [iU_eq]
  rcases hms with ⟨h1, rfl, rfl⟩ | ⟨rfl, rfl, rfl⟩
  · have hf := fin (iU I 81 cd.toNat (jI v)) (vAg_iU vAg_rfl (.inl rfl)) rfl (fun r h0 h1 j _ => by rw [iU_nr (by omega)]; rfl)
    simp only [g157_104, g157_105, g157_108, g157_110, g157_111, g157_112, g157_113, g157_116, g157_118, g157_121, g157_195, g157_196, g157_199, g157_200, g157_203, g157_205, g157_206, g157_207, g157_210, g157_211, g157_214, g157_216, g157_217, g157_218, g157_221, g157_222, g157_225, g157_226, g157_227, g157_228, g157_229, g157_232, g157_233, g157_234, g157_237, g157_238, g157_239, g157_242, g157_245, g157_247, nl_none, nl_int, nl_ref, Option.toList_some, Option.toList_none, List.cons_append, List.nil_append, mSetI_u, mSetL_u, Nat.add_one_ne_zero, Nat.add_eq_zero_iff, and_false, false_and, not_false_eq_true, ne_eq, j0_0, j0_1, j1_0, j1_1, if_true, if_false, ite_true, ite_false, true_and, and_true, or_true, true_or, false_or, or_false, ↓reduceIte, Nat.reduceEqDiff, Nat.reduceAdd, Nat.reduceMul, Nat.reduceSub, Int.reduceLE, Int.reduceLT, Int.reduceNeg, Int.reduceAdd, Int.reduceSub, Int.reduceEq, reduceCtorEq, jI_lt, jI_eq, jI_lt0, jI_0lt, jI_eq0, jI_0le, jn_lo, iU_row, iU_nr, iU_eq, iU_same, jI_ixn, jI_add, jI_sub, jI_nat, sh_80, sh_81, sh_83, sh_84, sh_85, f_80_0 hF, f_80_3 hF, f_80_4 hF, f_80_5 hF, hd, show ((m : Nat) : Int) ≤ 2147483647 by omega, show (m : Nat) ≤ 2147483647 by omega, show (m : Int) < 40 by omega, show ¬ ((m : Int) = 40) by omega, jI_in (z := (cd : Int)) (n := 42) (by omega) (by omega) (by omega), jI_in (z := ((m : Int) : Int)) (n := 40) (by omega) (by omega) (by omega), jI_ix (z := cd) (by omega) (by omega)]
    exact hf
  · have hd0 : I 80 6 = jI 40 := hd
    simp only [g157_104, g157_105, g157_108, g157_110, g157_111, g157_112, g157_113, g157_116, g157_118, g157_121, g157_122, nl_none, nl_int, nl_ref, Option.toList_some, Option.toList_none, List.cons_append, List.nil_append, mSetI_u, mSetL_u, Nat.add_one_ne_zero, Nat.add_eq_zero_iff, and_false, false_and, not_false_eq_true, ne_eq, j0_0, j0_1, j1_0, j1_1, if_true, if_false, ite_true, ite_false, true_and, and_true, or_true, true_or, false_or, or_false, ↓reduceIte, Nat.reduceEqDiff, Nat.reduceAdd, Nat.reduceMul, Nat.reduceSub, Int.reduceLE, Int.reduceLT, Int.reduceNeg, Int.reduceAdd, Int.reduceSub, Int.reduceEq, reduceCtorEq, jI_lt, jI_eq, jI_lt0, jI_0lt, jI_eq0, jI_0le, jn_lo, iU_row, iU_nr, iU_eq, iU_same, jI_ixn, jI_add, jI_sub, jI_nat, sh_80, sh_81, f_80_0 hF, hd0, jI_in (z := (cd : Int)) (n := 42) (by omega) (by omega) (by omega), jI_ix (z := cd) (by omega) (by omega), eq_self]
    refine r157_s hF (fun I1 ha hr => ?_) 39 1 1 _ (by omega) (by omega) rfl vAg_rfl (fun r _ _ j => by rw [if_neg (by omega)])
    have e6 : I1 80 6 = jI 40 := (ha 80 6 (by omega)).trans ((iU_nr (by omega)).trans hd0)
    have hf := fin (iU I1 80 6 (jI 39)) (vAg_iU (vAg_tr (vAg_iU vAg_rfl (.inl rfl)) (vAg_mono ha (fun r j q => .inr (.inl q)))) (.inr (.inr ⟨rfl, .inl rfl⟩))) (by rw [iU_row (by omega)]; exact vAg_row ha (fun j q => by omega)) (fun r h0 h1 j hj => by rw [iU_nr (by omega), hr r h0 h1 j hj, iU_nr (by omega)])
    simp only [g157_185, g157_186, g157_187, g157_190, g157_191, g157_192, g157_195, g157_196, g157_199, g157_200, g157_203, g157_205, g157_206, g157_207, g157_210, g157_211, g157_214, g157_216, g157_217, g157_218, g157_221, g157_222, g157_225, g157_226, g157_227, g157_228, g157_229, g157_232, g157_233, g157_234, g157_237, g157_238, g157_239, g157_242, g157_245, g157_247, nl_none, nl_int, nl_ref, Option.toList_some, Option.toList_none, List.cons_append, List.nil_append, mSetI_u, mSetL_u, Nat.add_one_ne_zero, Nat.add_eq_zero_iff, and_false, false_and, not_false_eq_true, ne_eq, j0_0, j0_1, j1_0, j1_1, if_true, if_false, ite_true, ite_false, true_and, and_true, or_true, true_or, false_or, or_false, ↓reduceIte, Nat.reduceEqDiff, Nat.reduceAdd, Nat.reduceMul, Nat.reduceSub, Int.reduceLE, Int.reduceLT, Int.reduceNeg, Int.reduceAdd, Int.reduceSub, Int.reduceEq, reduceCtorEq, jI_lt, jI_eq, jI_lt0, jI_0lt, jI_eq0, jI_0le, jn_lo, iU_row, iU_nr, iU_eq, iU_same, jI_ixn, jI_add, jI_sub, jI_nat, sh_80, sh_83, sh_84, sh_85, f_80_3 hF, f_80_4 hF, f_80_5 hF, e6, show mIdx (Int32.ofInt 39) 40 = true from rfl, show (Int32.ofInt 39).toNatClampNeg = 39 from rfl]
    exact hf
theorem vChgs_new {m sh : Nat} (hm : m < 40) (hj : ∀ j, j < m → ∃ a b v w : Int, I 49 (j + sh) = jI a ∧ I 50 (j + sh) = jI b ∧ I 51 (j + sh) = jI v ∧ I 84 (j + sh) = jI v ∧ I 52 (j + sh) = jI w ∧ I 85 (j + sh) = jI w ∧ I 83 (j + sh) = jI (vCode a b) ∧ vChg n a b v ∧ vChg n a b w) (hr : ∀ r, ((49 ≤ r ∧ r ≤ 52) ∨ (83 ≤ r ∧ r ≤ 85)) → ∀ j, j < m → I' r j = I r (j + sh)) (k0 : I' 48 4 = jI ((m : Int) + 1)) (k1 : I' 48 5 = jI ((m : Int) + 1)) (k2 : I' 80 6 = jI ((m : Int) + 1)) (k3 : I' 80 7 = jI ((m : Int) + 1)) (m0 : I' 49 m = jI a) (m1 : I' 50 m = jI b) (m2 : I' 51 m = jI w) (m3 : I' 52 m = jI v) (m4 : I' 83 m = jI (vCode a b)) (m5 : I' 84 m = jI w) (m6 : I' 85 m = jI v) (hw : vChg n a b w) (hv : vChg n a b v) : vChgs n (I' 48 4) (I' 48 5) (I' 80 6) (I' 80 7) (I' 49) (I' 50) (I' 51) (I' 52) (I' 83) (I' 84) (I' 85) := by
  refine ⟨m + 1, m + 1, Nat.le_refl _, by omega, k0, k2, k1, k3, fun j hjm => ?_⟩
  by_cases q : j = m
  · subst q
    exact ⟨a, b, w, v, m0, m1, m2, m5, m3, m6, m4, hw, hv⟩
  · obtain ⟨a', b', v', w', q0, q1, q2, q3, q4, q5, q6, q7, q8⟩ := hj j (by omega)
    exact ⟨a', b', v', w', (hr 49 (by omega) j (by omega)).trans q0, (hr 50 (by omega) j (by omega)).trans q1, (hr 51 (by omega) j (by omega)).trans q2, (hr 84 (by omega) j (by omega)).trans q3, (hr 52 (by omega) j (by omega)).trans q4, (hr 85 (by omega) j (by omega)).trans q5, (hr 83 (by omega) j (by omega)).trans q6, q7, q8⟩
theorem pMay_T (hok : vTownOk n T) (h : pHas n a b) : pMay n a b (T b.toNat a.toNat) := by
  have hw := hok.2.2.1
  have ht := hok.2.2.2
  unfold pHas at h
  unfold pMay
  rcases h with ⟨rfl | rfl, rfl⟩ | h
  · exact .inr (.inr (.inr (.inr (.inr (.inl ⟨rfl, hw⟩)))))
  · exact .inr (.inr (.inr (.inr (.inr (.inr ⟨rfl, ht⟩)))))
  · obtain ⟨i, rfl⟩ : ∃ i : Nat, a = i := ⟨a.toNat, by omega⟩
    have o := vOk_w hok (show i < n by omega)
    rw [Int.toNat_natCast]
    rcases (by omega : b = 0 ∨ b = 1 ∨ b = 2 ∨ b = 3 ∨ b = 4) with rfl | rfl | rfl | rfl | rfl
    · exact .inl ⟨rfl, o.1, o.2.1⟩
    · exact .inr (.inl ⟨rfl, o.2.2.1, o.2.2.2.1⟩)
    · exact .inr (.inr (.inl ⟨rfl, o.2.2.2.2.1, o.2.2.2.2.2.1⟩))
    · exact .inr (.inr (.inr (.inl ⟨rfl, o.2.2.2.2.2.2.1, o.2.2.2.2.2.2.2.1⟩)))
    · have o' : -1 ≤ T 4 i ∧ T 4 i < n ∧ ¬ T 4 i = i := o.2.2.2.2.2.2.2.2
      exact .inr (.inr (.inr (.inr (.inl ⟨rfl, show T 4 i = -1 ∨ (0 ≤ T 4 i ∧ T 4 i < n ∧ ¬ T 4 i = i) by omega⟩))))
end MNE
