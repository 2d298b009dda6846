theorem api_mend (x y q : Int32) : mApiI vI 95 157 [.int x, .int y, .int q] := by
  rintro c lay M hc ⟨e, I, E, F, st, nx, gf, rl, dr, n, bn, T, lw, rfl, rfl, hI⟩
  have hF := hI.1
  have hI0 := hI
  obtain ⟨-, -, h3, -, h5, h6, h7, h8, h9, h10, h11, h12, h13, h14, h15, h16, h17, h18⟩ := hI
  have hrl : rl = 70 ∨ rl = 75 := by omega
  clear h3
  have hn := h5.1
  have hc4 : vTc n T 4 I := h6
  have hrl0 : ¬ rl = 0 := by omega
  obtain ⟨a, ha0, ha1, rfl⟩ := jI_of x
  obtain ⟨b, hb0, hb1, rfl⟩ := jI_of y
  obtain ⟨v, hv0, hv1, rfl⟩ := jI_of q
  by_cases h : pHas n a b
  · by_cases h' : pMay n a b v
    · have hT := pMay_T h5 h
      have hbd : -1 ≤ T b.toNat a.toNat ∧ T b.toNat a.toNat ≤ 99 := by
        have hT' := hT
        unfold pMay at hT'
        omega
      have hget := vTr_get hn h h7
      have hcd := vCode_in hn h
      by_cases e : T b.toNat a.toNat = v
      · simp only [g95_in, g95_0, g95_1, g95_4, g95_5, g95_6, g95_9, g95_12, g95_13, g95_16, g95_17, g95_18, g95_19, g95_22, g95_25, g95_27, g95_28, g95_29, g95_32, g95_33, g95_34, g95_37, g95_39, g95_41, g95_42, g95_45, g95_46, g95_49, g95_50, g95_51, g95_53, g95_54, g95_57, g95_58, g95_59, g95_60, g95_61, g95_64, g95_66, nl_none, nl_int, nl_ref, Option.toList_some, Option.toList_none, List.cons_append, List.nil_append, mSetI_u, mSetL_u, Nat.add_one_ne_zero, Nat.add_eq_zero_iff, and_false, false_and, not_false_eq_true, ne_eq, j0_0, j0_1, j1_0, j1_1, if_true, if_false, ite_true, ite_false, true_and, and_true, or_true, true_or, false_or, or_false, ↓reduceIte, Nat.reduceEqDiff, Nat.reduceAdd, Nat.reduceMul, Nat.reduceSub, Int.reduceLE, Int.reduceLT, Int.reduceNeg, Int.reduceAdd, Int.reduceSub, Int.reduceEq, reduceCtorEq, jI_lt, jI_eq, jI_lt0, jI_0lt, jI_eq0, jI_0le, jn_lo, iU_row, iU_nr, iU_eq, iU_same, jI_ixn, jI_add, jI_sub, jI_nat, sh_3, sh_4, f_3_0 hF, c68_t (vTw_4 hF) hn h hc4.2.1, c69_t (vTw_4 hF) hn ha0 ha1 h' hc4.2.1, c70 (vTw_4 hF) h5 h hc4, e, eq_self]
        refine ⟨sh_80, ?_⟩
        refine r157_t (d := 97) hF hn h h' h7.2.2.2 (fun x5 => ?_)
        rw [e] at hget
        simp only [g157_89, g157_90, g157_93, g157_95, g157_96, g157_98, g157_100, g157_101, g157_245, g157_247, nl_none, nl_int, nl_ref, Option.toList_some, Option.toList_none, List.cons_append, List.nil_append, mSetI_u, mSetL_u, Nat.add_one_ne_zero, Nat.add_eq_zero_iff, and_false, false_and, not_false_eq_true, ne_eq, j0_0, j0_1, j1_0, j1_1, if_true, if_false, ite_true, ite_false, true_and, and_true, or_true, true_or, false_or, or_false, ↓reduceIte, Nat.reduceEqDiff, Nat.reduceAdd, Nat.reduceMul, Nat.reduceSub, Int.reduceLE, Int.reduceLT, Int.reduceNeg, Int.reduceAdd, Int.reduceSub, Int.reduceEq, reduceCtorEq, jI_lt, jI_eq, jI_lt0, jI_0lt, jI_eq0, jI_0le, jn_lo, iU_row, iU_nr, iU_eq, iU_same, jI_ixn, jI_add, jI_sub, jI_nat, sh_80, sh_81, f_80_0 hF, hget, jI_in (z := (vCode a b : Int)) (n := 42) (by omega) (by omega) (by omega), jI_ix (z := vCode a b) (by omega) (by omega), eq_self]
        exact vI_fin (vI_same hI0)
      · obtain ⟨dn, kn, hdk, hk4, hd, hdr, hk, hkr, hj⟩ := h11
        obtain ⟨m, sh, hms⟩ : ∃ m sh : Nat, (dn < 40 ∧ m = dn ∧ sh = 0) ∨ (dn = 40 ∧ m = 39 ∧ sh = 1) := by
          by_cases q : dn < 40
          · exact ⟨dn, 0, .inl ⟨q, rfl, rfl⟩⟩
          · exact ⟨39, 1, .inr ⟨by omega, rfl, rfl⟩⟩
        have hm40 : m < 40 := by omega
        simp only [g95_in, g95_0, g95_1, g95_4, g95_5, g95_6, g95_9, g95_12, g95_13, g95_16, g95_17, g95_18, g95_19, g95_22, g95_25, g95_27, g95_28, g95_29, g95_32, g95_33, g95_34, g95_37, g95_39, g95_41, g95_42, g95_45, g95_46, g95_49, g95_50, g95_51, g95_53, g95_54, nl_none, nl_int, nl_ref, Option.toList_some, Option.toList_none, List.cons_append, List.nil_append, mSetI_u, mSetL_u, Nat.add_one_ne_zero, Nat.add_eq_zero_iff, and_false, false_and, not_false_eq_true, ne_eq, j0_0, j0_1, j1_0, j1_1, if_true, if_false, ite_true, ite_false, true_and, and_true, or_true, true_or, false_or, or_false, ↓reduceIte, Nat.reduceEqDiff, Nat.reduceAdd, Nat.reduceMul, Nat.reduceSub, Int.reduceLE, Int.reduceLT, Int.reduceNeg, Int.reduceAdd, Int.reduceSub, Int.reduceEq, reduceCtorEq, jI_lt, jI_eq, jI_lt0, jI_0lt, jI_eq0, jI_0le, jn_lo, iU_row, iU_nr, iU_eq, iU_same, jI_ixn, jI_add, jI_sub, jI_nat, sh_3, sh_4, sh_48, f_3_0 hF, f_3_6 hF, c68_t (vTw_4 hF) hn h hc4.2.1, c69_t (vTw_4 hF) hn ha0 ha1 h' hc4.2.1, c70 (vTw_4 hF) h5 h hc4, show -2147483648 ≤ (T b.toNat a.toNat : Int) by omega, show (T b.toNat a.toNat : Int) ≤ 2147483647 by omega, hv0, hv1, e]
        refine c1 (d := 98) hF hd hms (fun Ia h1 hsh k49 k50 k51 k52 k4 k5 => ?_)
        have hca : vTc n T 4 Ia := vTc_ag h1 (fun r j q => by omega) hc4
        simp only [g95_57, g95_58, g95_59, g95_60, g95_61, nl_none, nl_int, nl_ref, Option.toList_some, Option.toList_none, List.cons_append, List.nil_append, mSetI_u, mSetL_u, Nat.add_one_ne_zero, Nat.add_eq_zero_iff, and_false, false_and, not_false_eq_true, ne_eq, j0_0, j0_1, j1_0, j1_1, if_true, if_false, ite_true, ite_false, true_and, and_true, or_true, true_or, false_or, or_false, ↓reduceIte, Nat.reduceEqDiff, Nat.reduceAdd, Nat.reduceMul, Nat.reduceSub, Int.reduceLE, Int.reduceLT, Int.reduceNeg, Int.reduceAdd, Int.reduceSub, Int.reduceEq, reduceCtorEq, jI_lt, jI_eq, jI_lt0, jI_0lt, jI_eq0, jI_0le, jn_lo, iU_row, iU_nr, iU_eq, iU_same, jI_ixn, jI_add, jI_sub, jI_nat, sh_3]
        refine c135 hF h5 h h' hca (fun I1 h2 hc1 hd1 => ?_)
        simp only [g95_64, g95_66, nl_none, nl_int, nl_ref, Option.toList_some, Option.toList_none, List.cons_append, List.nil_append, mSetI_u, mSetL_u, Nat.add_one_ne_zero, Nat.add_eq_zero_iff, and_false, false_and, not_false_eq_true, ne_eq, j0_0, j0_1, j1_0, j1_1, if_true, if_false, ite_true, ite_false, true_and, and_true, or_true, true_or, false_or, or_false, ↓reduceIte, Nat.reduceEqDiff, Nat.reduceAdd, Nat.reduceMul, Nat.reduceSub, Int.reduceLE, Int.reduceLT, Int.reduceNeg, Int.reduceAdd, Int.reduceSub, Int.reduceEq, reduceCtorEq, jI_lt, jI_eq, jI_lt0, jI_0lt, jI_eq0, jI_0le, jn_lo, iU_row, iU_nr, iU_eq, iU_same, jI_ixn, jI_add, jI_sub, jI_nat]
        refine ⟨sh_80, ?_⟩
        have h01 : vAg (fun r j => (48 ≤ r ∧ r ≤ 52) ∨ (4 ≤ r ∧ r ≤ 9) ∨ (r = 22 ∧ j = 3)) I I1 := vAg_tr (vAg_mono h1 (fun r j q => by omega)) (vAg_mono h2 (fun r j q => by omega))
        have hR1 : vTownR n T (I1 81) (I1 80 2) := vTr_ag h01 (fun r j q => by omega) h7
        have hget1 := vTr_get hn h hR1
        have hset := vTr_set (v := v) hn h hR1
        have hd6 : I1 80 6 = jI dn := (h01 80 6 (by omega)).trans hdr
        refine r157_t (d := 97) hF hn h h' hR1.2.2.2 (fun x5 => ?_)
        simp only [g157_89, g157_90, g157_93, g157_95, g157_96, g157_98, g157_100, g157_101, nl_none, nl_int, nl_ref, Option.toList_some, Option.toList_none, List.cons_append, List.nil_append, mSetI_u, mSetL_u, Nat.add_one_ne_zero, Nat.add_eq_zero_iff, and_false, false_and, not_false_eq_true, ne_eq, j0_0, j0_1, j1_0, j1_1, if_true, if_false, ite_true, ite_false, true_and, and_true, or_true, true_or, false_or, or_false, ↓reduceIte, Nat.reduceEqDiff, Nat.reduceAdd, Nat.reduceMul, Nat.reduceSub, Int.reduceLE, Int.reduceLT, Int.reduceNeg, Int.reduceAdd, Int.reduceSub, Int.reduceEq, reduceCtorEq, jI_lt, jI_eq, jI_lt0, jI_0lt, jI_eq0, jI_0le, jn_lo, iU_row, iU_nr, iU_eq, iU_same, jI_ixn, jI_add, jI_sub, jI_nat, sh_80, sh_81, f_80_0 hF, hget1, jI_in (z := (vCode a b : Int)) (n := 42) (by omega) (by omega) (by omega), jI_ix (z := vCode a b) (by omega) (by omega), show -2147483648 ≤ (T b.toNat a.toNat : Int) by omega, show (T b.toNat a.toNat : Int) ≤ 2147483647 by omega, hv0, hv1, e]
        refine r157_u hF hcd hd6 hms (fun I2 h3 g81 gsh g83 g84 g85 g6 g7 => ?_)
        have h12 : ∀ r, ((48 ≤ r ∧ r ≤ 52) ∨ (4 ≤ r ∧ r ≤ 9) ∨ r = 22 ∨ r = 60 ∨ r = 98) → I2 r = I1 r := fun r hr => vAg_row h3 (fun j q => by omega)
        have h1a : ∀ r, ((48 ≤ r ∧ r ≤ 52) ∨ (83 ≤ r ∧ r ≤ 85)) → I1 r = Ia r := fun r hr => vAg_row h2 (fun j q => by omega)
        have h0a : ∀ r, (83 ≤ r ∧ r ≤ 85) → Ia r = I r := fun r hr => vAg_row h1 (fun j q => by omega)
        have hA : vAg vScU I I2 := by
          refine vAg_tr (vAg_mono h01 (fun r j q => ?_)) (vAg_mono h3 (fun r j q => ?_))
          · rcases q with q | q | q
            · exact .inr (.inl q)
            · exact sU_town j q
            · rw [q.1, q.2]
              exact sU_held
          · rcases q with q | q | q
            · rw [q]
              exact sU_81 j
            · exact .inr (.inr (.inr q))
            · exact .inr (.inr (.inl ⟨q.1, .inr q.2⟩))
        refine ⟨rfl, vI_fin (vU_fin hI0 hA (pSet_ok h5 h h') ?_ ?_ ?_ ?_ ?_)⟩
        · exact vTc_ag h3 (fun r j q => by omega) hc1
        · rw [g81, h3 80 2 (by omega)]
          rw [iU_nr (show (80 : Nat) ≠ 81 by omega)] at hset
          exact hset
        · rw [h12 22 (by omega)]
          exact hd1
        · rw [h12 60 (by omega), h12 98 (by omega), vAg_row h01 (r := 60) (fun j q => by omega), vAg_row h01 (r := 98) (fun j q => by omega)]
          exact h9
        · refine vChgs_new (a := a) (b := b) (v := v) (w := T b.toNat a.toNat) (m := m) (sh := sh) (I := I) hm40 (fun j hjm => hj (j + sh) (by omega)) (fun r hr j hjm => ?_) ?_ ?_ g6 g7 ?_ ?_ ?_ ?_ g83 g84 g85 (vChg_of h hT) (vChg_of h h')
          · rcases hr with hr | hr
            · rw [h12 r (by omega), h1a r (.inl (by omega))]
              exact hsh r hr.1 hr.2 j hjm
            · rw [gsh r hr.1 hr.2 j hjm, h1a r (.inr hr), h0a r hr]
          · rw [h12 48 (by omega), h1a 48 (by omega)]
            exact k4
          · rw [h12 48 (by omega), h1a 48 (by omega)]
            exact k5
          · rw [h12 49 (by omega), h1a 49 (by omega)]
            exact k49
          · rw [h12 50 (by omega), h1a 50 (by omega)]
            exact k50
          · rw [h12 51 (by omega), h1a 51 (by omega)]
            exact k51
          · rw [h12 52 (by omega), h1a 52 (by omega)]
            exact k52
    · have hb6 : 0 ≤ b ∧ b ≤ 6 := by
        unfold pHas at h
        omega
      simp only [g95_in, g95_0, g95_1, g95_4, g95_5, g95_6, g95_9, g95_12, g95_13, g95_16, g95_17, g95_18, g95_19, g95_22, g95_25, g95_27, g95_28, g95_29, g95_32, g95_33, g95_34, g95_37, g95_39, g95_41, g95_42, g95_45, g95_46, g95_49, g95_50, g95_51, g95_53, g95_54, g95_57, g95_58, g95_59, g95_60, g95_61, g95_64, g95_66, nl_none, nl_int, nl_ref, Option.toList_some, Option.toList_none, List.cons_append, List.nil_append, mSetI_u, mSetL_u, Nat.add_one_ne_zero, Nat.add_eq_zero_iff, and_false, false_and, not_false_eq_true, ne_eq, j0_0, j0_1, j1_0, j1_1, if_true, if_false, ite_true, ite_false, true_and, and_true, or_true, true_or, false_or, or_false, ↓reduceIte, Nat.reduceEqDiff, Nat.reduceAdd, Nat.reduceMul, Nat.reduceSub, Int.reduceLE, Int.reduceLT, Int.reduceNeg, Int.reduceAdd, Int.reduceSub, Int.reduceEq, reduceCtorEq, jI_lt, jI_eq, jI_lt0, jI_0lt, jI_eq0, jI_0le, jn_lo, iU_row, iU_nr, iU_eq, iU_same, jI_ixn, jI_add, jI_sub, jI_nat, sh_3, sh_4, f_3_0 hF, c68_t (vTw_4 hF) hn h hc4.2.1, c69_f (vTw_4 hF) hn ha0 ha1 hv0 hv1 hb6 h' hc4.2.1]
      refine ⟨sh_80, ?_⟩
      exact r157_f (d := 97) hF hn hv0 hv1 h h' h7.2.2.2 ⟨rfl, vI_fin (vI_same hI0)⟩
  · simp only [g95_in, g95_0, g95_1, g95_4, g95_5, g95_6, g95_9, g95_12, g95_13, g95_16, g95_17, g95_18, g95_19, g95_22, g95_25, g95_27, g95_28, g95_29, g95_32, g95_33, g95_34, g95_37, g95_39, g95_41, g95_42, g95_45, g95_46, g95_49, g95_50, g95_51, g95_53, g95_54, g95_57, g95_58, g95_59, g95_60, g95_61, g95_64, g95_66, nl_none, nl_int, nl_ref, Option.toList_some, Option.toList_none, List.cons_append, List.nil_append, mSetI_u, mSetL_u, Nat.add_one_ne_zero, Nat.add_eq_zero_iff, and_false, false_and, not_false_eq_true, ne_eq, j0_0, j0_1, j1_0, j1_1, if_true, if_false, ite_true, ite_false, true_and, and_true, or_true, true_or, false_or, or_false, ↓reduceIte, Nat.reduceEqDiff, Nat.reduceAdd, Nat.reduceMul, Nat.reduceSub, Int.reduceLE, Int.reduceLT, Int.reduceNeg, Int.reduceAdd, Int.reduceSub, Int.reduceEq, reduceCtorEq, jI_lt, jI_eq, jI_lt0, jI_0lt, jI_eq0, jI_0le, jn_lo, iU_row, iU_nr, iU_eq, iU_same, jI_ixn, jI_add, jI_sub, jI_nat, sh_3, sh_4, f_3_0 hF, c68_f (vTw_4 hF) hn ha0 ha1 hb0 hb1 h hc4.2.1]
    refine ⟨sh_80, ?_⟩
    exact r157_n (d := 97) hF hn ha0 ha1 hb0 hb1 h h7.2.2.2 ⟨rfl, vI_fin (vI_same hI0)⟩
