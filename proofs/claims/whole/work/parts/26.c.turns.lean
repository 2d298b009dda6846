/-! ===== by turns: the reference, deed by deed ===== -/
section RTN
variable {d n : Nat} {e : List mShp} {I : Nat → Nat → Int32} {E : Nat → Nat → Int64} {F : Nat → Nat → Nat} {P : mPost} {T : Nat → Nat → Int} {lw : vLw} {st nx gf rl dr t N m : Nat}
theorem r206q {Q : Nat} (hQ : 1 ≤ Q) (hF : mFx F st nx gf rl dr) (hok : vTownOk n T) (hR : vTownR n T (I 81) (I 80 2)) {i : Nat} (hi : i < n) : mF Q 206 [.ref 80, .int (jI i)] (mLay e) (I, E, F) P = P none (mLay e) (iU I 81 (5 * i + 4) (jI (tNx n T i)), E, F) := by
  obtain ⟨d, rfl⟩ : ∃ d, Q = d + 1 := ⟨Q - 1, by omega⟩
  exact r206 hF hok hR hi
theorem r207_l (hF : mFx F st nx gf rl dr) (hok : vTownOk n T) (hR : vTownR n T (I 81) (I 80 2)) (hlw : vLawR lw (I 87) (I 80 11) (I 80 12) (I 90)) (hg0 : I 80 20 = jI (-1)) {k : Nat} {h : Bool} (hk : m + (k + 1) = N) (hN : N ≤ 3) (hh : h = decide (m % 2 = 0)) (ih : r207S lw n t N e E F k) (hP : ∀ I', vAg (vScU2 (m + 1)) I I' → (∀ j, j < 42 → I' 81 j = I 81 j) → I' 80 32 = jI (tV lw n t (k + 1) h T).2 → P (some (.int (jI (tV lw n t (k + 1) h T).1))) (mLay e) (I', E, F)) : ∀ (q i : Nat) (z : Int) I' a8 a9, i + q = n → z = i → vAg (vScU2 (m + 1)) I I' → tKp m I I' → (∀ j, j < 42 → I' 81 j = I 81 j) → mG (d + 75 + k + 1) 207 70 [some (.ref 80), some (.int (jI m)), some (.int (jI N)), some (.int (jI t)), some (.int (jI (if h = true then 1 else 0))), some (.int (jI (tFd h (fun i => (tV lw n t k (!h) (tD h n T i)).1) ((tV lw n t k (!h) T).1, 8) i).1)), some (.int (jI (tFd h (fun i => (tV lw n t k (!h) (tD h n T i)).1) ((tV lw n t k (!h) T).1, 8) i).2)), some (.int (jI z)), a8, a9] [] (mLay e) (I', E, F) P
  | 0, i, z, I', a8, a9, hi, hz, ha, hkp, h81 => by
    have hn := hok.1
    have hR' := vTr_42 hn h81 (ha 80 2 sc_U2n) hR
    subst hz
    have e : i = n := by omega
    subst e
    have hp := hP (iU I' 80 32 (jI (tV lw i t (k + 1) h T).2)) (vAg_iU ha (.inl (by unfold vScr; omega))) (fun j hj => by rw [iU_row (by omega)]; exact h81 j hj) iU_eq
    rw [g207_70]
    simp only [g207_72, g207_73, g207_76, g207_220, g207_221, g207_223, g207_226, g207_228, nl_none, nl_int, nl_ref, Option.toList_some, Option.toList_none, List.cons_append, List.nil_append, mSetI_u, mSetL_u, Nat.add_one_ne_zero, Nat.add_eq_zero_iff, and_false, false_and, not_false_eq_true, ne_eq, j0_0, j0_1, j1_0, j1_1, if_true, if_false, ite_true, ite_false, true_and, and_true, or_true, true_or, false_or, or_false, ↓reduceIte, Nat.reduceEqDiff, Nat.reduceAdd, Nat.reduceMul, Nat.reduceSub, Int.reduceLE, Int.reduceLT, Int.reduceNeg, Int.reduceAdd, Int.reduceSub, Int.reduceEq, reduceCtorEq, jI_lt, jI_eq, jI_lt0, jI_0lt, jI_eq0, jI_0le, jn_lo, iU_row, iU_nr, iU_eq, iU_same, jI_ixn, jI_add, jI_sub, jI_nat, sh_80, hR'.2.2.2, show ((i : Nat) : Int) ≤ 2147483647 by omega, show (i : Nat) ≤ 2147483647 by omega, show ¬ ((i : Int) < (i : Int)) by omega]
    exact hp
  | q + 1, i, z, I', a8, a9, hi, hz, ha, hkp, h81 => by
    have ihm := r207_l hF hok hR hlw hg0 hk hN hh ih hP q (i + 1)
    have hn := hok.1
    have hin : i < n := by omega
    have hR' := vTr_42 hn h81 (ha 80 2 sc_U2n) hR
    have hri := tFd_in (h := h) (g := fun i => (tV lw n t k (!h) (tD h n T i)).1) (b := ((tV lw n t k (!h) T).1, 8)) (fun i => tV_in hn k _ _) (tV_in hn k _ _) i
    have hstep1 : (tFd h (fun i => (tV lw n t k (!h) (tD h n T i)).1) ((tV lw n t k (!h) T).1, 8) (i + 1)).1 = (if (h = true ∧ (tV lw n t k (!h) (tD h n T i)).1 < (tFd h (fun i => (tV lw n t k (!h) (tD h n T i)).1) ((tV lw n t k (!h) T).1, 8) i).1) ∨ (h = false ∧ (tFd h (fun i => (tV lw n t k (!h) (tD h n T i)).1) ((tV lw n t k (!h) T).1, 8) i).1 < (tV lw n t k (!h) (tD h n T i)).1) then (tV lw n t k (!h) (tD h n T i)).1 else (tFd h (fun i => (tV lw n t k (!h) (tD h n T i)).1) ((tV lw n t k (!h) T).1, 8) i).1) := by
      rw [tFd]
      split <;> rfl
    have hstep2 : (tFd h (fun i => (tV lw n t k (!h) (tD h n T i)).1) ((tV lw n t k (!h) T).1, 8) (i + 1)).2 = (if (h = true ∧ (tV lw n t k (!h) (tD h n T i)).1 < (tFd h (fun i => (tV lw n t k (!h) (tD h n T i)).1) ((tV lw n t k (!h) T).1, 8) i).1) ∨ (h = false ∧ (tFd h (fun i => (tV lw n t k (!h) (tD h n T i)).1) ((tV lw n t k (!h) T).1, 8) i).1 < (tV lw n t k (!h) (tD h n T i)).1) then (if (i : Int) = -1 then 8 else (i : Int)) else (tFd h (fun i => (tV lw n t k (!h) (tD h n T i)).1) ((tV lw n t k (!h) T).1, 8) i).2) := by
      rw [tFd, if_neg (show ¬ (i : Int) = -1 by omega)]
      split <;> rfl
    rw [hstep1, hstep2] at ihm
    have hv := tV_in (lw := lw) (t := t) hn k (!h) (tD h n T i)
    have hpar : (!h) = decide ((m + 1) % 2 = 0) := by
      rw [hh, ← decide_not]
      congr 1
      apply propext
      omega
    subst hz
    have hL' : vLawR lw (I' 87) (I' 80 11) (I' 80 12) (I' 90) := vLr_ag ha (fun _ _ q => sc_U2L q) hlw
    rw [g207_70]
    have fin : ∀ I2, vAg (vScU2 (m + 1)) I I2 → tKp m I I2 → vTownR n (tD h n T i) (I2 81) (I2 80 2) → vTownOk n (tD h n T i) → mF (d + 75 + k) 207 [.ref 80, .int (jI ((m : Int) + 1)), .int (jI N), .int (jI t)] (mLay e) (I2, E, F) (fun v lay1 M1 => mG (d + 75 + k + 1) 207 132 [some (.ref 80), some (.int (jI m)), some (.int (jI N)), some (.int (jI t)), some (.int (jI (if h = true then 1 else 0))), some (.int (jI (tFd h (fun i => (tV lw n t k (!h) (tD h n T i)).1) ((tV lw n t k (!h) T).1, 8) i).1)), some (.int (jI (tFd h (fun i => (tV lw n t k (!h) (tD h n T i)).1) ((tV lw n t k (!h) T).1, 8) i).2)), some (.int (jI i)), a8, a9] (v.toList ++ []) lay1 M1 P) := by
      intro I2 h2 hk2 hR2 hok2
      refine ih d (m + 1) (tD h n T i) (!h) I2 _ _ (by omega) hpar hok2 hR2 (vLr_ag h2 (fun _ _ q => sc_U2L q) hlw) ((h2 80 20 sc_U2g).trans hg0) rfl (fun I3 h3 h83 _ => ?_)
      refine r207_w (d := d + 75 + k) hF (by omega) (by
        cases h with
        | true => exact .inl ⟨rfl, hri.1, by omega⟩
        | false => exact .inr ⟨rfl, by omega, hri.2⟩) hv ⟨by omega, by omega⟩ (fun a8 a9 => ?_)
      have h23 : vAg (vScU2 (m + 1)) I I3 := vAg_tr h2 (vAg_mono h3 (fun r j q => sc_U2m (by omega) q))
      exact ihm _ _ a8 a9 (by omega) (by omega) (vAg_l2 h23) (tKp_l (tKp_up hk2 h3)) (tKp_lu (tKp_up hk2 h3))
    cases h with
    | true =>
      simp only [g207_72, g207_73, g207_76, g207_79, g207_81, g207_84, g207_86, g207_89, g207_90, g207_92, g207_95, g207_98, g207_100, g207_103, g207_104, g207_106, g207_107, g207_108, g207_109, g207_111, g207_112, g207_115, g207_116, g207_117, g207_120, g207_123, g207_124, g207_125, g207_126, g207_127, g207_128, g207_129, nl_none, nl_int, nl_ref, Option.toList_some, Option.toList_none, List.cons_append, List.nil_append, mSetI_u, mSetL_u, Nat.add_one_ne_zero, Nat.add_eq_zero_iff, and_false, false_and, not_false_eq_true, ne_eq, j0_0, j0_1, j1_0, j1_1, if_true, if_false, ite_true, ite_false, true_and, and_true, or_true, true_or, false_or, or_false, ↓reduceIte, Nat.reduceEqDiff, Nat.reduceAdd, Nat.reduceMul, Nat.reduceSub, Int.reduceLE, Int.reduceLT, Int.reduceNeg, Int.reduceAdd, Int.reduceSub, Int.reduceEq, reduceCtorEq, jI_lt, jI_eq, jI_lt0, jI_0lt, jI_eq0, jI_0le, jn_lo, iU_row, iU_nr, iU_eq, iU_same, jI_ixn, jI_add, jI_sub, jI_nat, sh_80, hR'.2.2.2, show ((i : Nat) : Int) ≤ 2147483647 by omega, show (i : Nat) ≤ 2147483647 by omega, show ((n : Nat) : Int) ≤ 2147483647 by omega, show (n : Nat) ≤ 2147483647 by omega, show ¬ ((i : Int) < 0) by omega, show (i : Int) < (n : Int) by omega, r206q (Q := d + 75 + k) (by omega) hF hok hR' hin]
      have hset := vTr_put (w := 4) (told := i) (v := tNx n T i) (I' := I') hn (by omega) hin hR' (fun j _ _ => rfl) rfl
      exact fin _ (vAg_iU ha (.inr (.inl rfl))) (fun j hj => by rw [iU_row (by omega)]; exact hkp j hj) hset (tA_ok hok hin)
    | false =>
      have hw := hR'.1 i hin 3 (by omega)
      have ho := vOk_w hok hin
      have hT3 : 0 ≤ T 3 i ∧ T 3 i ≤ 99 := ⟨ho.2.2.2.2.2.2.1, ho.2.2.2.2.2.2.2.1⟩
      clear ho
      simp only [g207_72, g207_73, g207_76, g207_79, g207_81, g207_84, g207_86, g207_89, g207_90, g207_92, g207_95, g207_98, g207_100, g207_103, g207_104, g207_106, g207_107, g207_108, g207_109, g207_111, g207_112, g207_115, g207_116, g207_117, g207_120, g207_123, g207_124, g207_125, g207_126, g207_127, g207_128, g207_129, nl_none, nl_int, nl_ref, Option.toList_some, Option.toList_none, List.cons_append, List.nil_append, mSetI_u, mSetL_u, Nat.add_one_ne_zero, Nat.add_eq_zero_iff, and_false, false_and, not_false_eq_true, ne_eq, j0_0, j0_1, j1_0, j1_1, if_true, if_false, ite_true, ite_false, true_and, and_true, or_true, true_or, false_or, or_false, ↓reduceIte, Nat.reduceEqDiff, Nat.reduceAdd, Nat.reduceMul, Nat.reduceSub, Int.reduceLE, Int.reduceLT, Int.reduceNeg, Int.reduceAdd, Int.reduceSub, Int.reduceEq, reduceCtorEq, jI_lt, jI_eq, jI_lt0, jI_0lt, jI_eq0, jI_0le, jn_lo, iU_row, iU_nr, iU_eq, iU_same, jI_ixn, jI_add, jI_sub, jI_nat, sh_80, hR'.2.2.2, show ((i : Nat) : Int) ≤ 2147483647 by omega, show (i : Nat) ≤ 2147483647 by omega, show ((n : Nat) : Int) ≤ 2147483647 by omega, show (n : Nat) ≤ 2147483647 by omega, show -2147483648 ≤ (T 3 i - 5 : Int) by omega, show (T 3 i - 5 : Int) ≤ 2147483647 by omega, show ¬ ((i : Int) < 0) by omega, show (i : Int) < (n : Int) by omega, show i ≤ 7 by omega, r152 hF, r153 hF, Int.reduceToNat, hw, pPos_e, pPos_e']
      have hset := vTr_put (w := 3) (told := i) (v := pPos (T 3 i - 5)) (I' := I') hn (by omega) hin hR' (fun j _ _ => rfl) rfl
      exact fin _ (vAg_iU ha (.inr (.inl rfl))) (fun j hj => by rw [iU_row (by omega)]; exact hkp j hj) hset (tB_ok hok hin)
theorem r207 (hF : mFx F st nx gf rl dr) (hn : n ≤ 8) (hl : ∀ g q n k s t, 0 ≤ lw g q n k s t ∧ lw g q n k s t ≤ 20) (ht6 : t ≤ 6) (hN : N ≤ 3) : ∀ k, r207S lw n t N e E F k
  | 0 => by
    intro d m T h I P zm hk hh hok hR hlw hg0 hzm hP
    have em : m = N := by omega
    subst em hzm
    have e1 : (1 : Int) + (m : Int) = ((m + 1 : Nat) : Int) := by omega
    have e149 := fun (P : mPost) (d : Nat) => r149 (d := d) (e := e) (I := I) (E := E) (P := P) hF (v := m + 1) (by omega)
    have hR1 : vTownR n T (kU I (m + 1) 42 81) (kU I (m + 1) 42 80 2) := kR hR
    have hL1 : vLawR lw (kU I (m + 1) 42 87) (kU I (m + 1) 42 80 11) (kU I (m + 1) 42 80 12) (kU I (m + 1) 42 90) := kL hlw
    simp only [g207_in, g207_0, g207_1, g207_2, g207_3, g207_4, g207_7, g207_8, g207_9, g207_12, g207_13, g207_14, nl_none, nl_int, nl_ref, Option.toList_some, Option.toList_none, List.cons_append, List.nil_append, mSetI_u, mSetL_u, Nat.add_one_ne_zero, Nat.add_eq_zero_iff, and_false, false_and, not_false_eq_true, ne_eq, j0_0, j0_1, j1_0, j1_1, if_true, if_false, ite_true, ite_false, true_and, and_true, or_true, true_or, false_or, or_false, ↓reduceIte, Nat.reduceEqDiff, Nat.reduceAdd, Nat.reduceMul, Nat.reduceSub, Int.reduceLE, Int.reduceLT, Int.reduceNeg, Int.reduceAdd, Int.reduceSub, Int.reduceEq, reduceCtorEq, jI_lt, jI_eq, jI_lt0, jI_0lt, jI_eq0, jI_0le, jn_lo, iU_row, iU_nr, iU_eq, iU_same, jI_ixn, jI_add, jI_sub, jI_nat, sh_80, e1, e149, eq_self]
    refine r180 hF hok hl hR1 hL1 (by omega) (fun I2 h2 hR2 => ?_)
    have hg2 : I2 80 20 = jI (-1) := kg h2 hg0
    have e150 := fun (P : mPost) (d : Nat) => r150 (d := d) (e := e) (I := I2) (E := E) (P := P) hF (v := m + 1) (by omega)
    have hp := hP (lU I2 (m + 1) 42) (vAg_l2 (vAg_tr (vAg_k2 (m := m + 1) (by omega) vAg_rfl) (vAg_mono h2 (fun _ _ q => sc_EU q)))) (fun j hj => lU_k h2 (fun r j q q' => absurd q' (fun w => sc_E82 q w)) j hj) (fun h => absurd h (by omega))
    simp only [g207_17, g207_18, g207_21, g207_24, g207_26, g207_27, g207_28, g207_29, g207_30, g207_33, g207_35, nl_none, nl_int, nl_ref, Option.toList_some, Option.toList_none, List.cons_append, List.nil_append, mSetI_u, mSetL_u, Nat.add_one_ne_zero, Nat.add_eq_zero_iff, and_false, false_and, not_false_eq_true, ne_eq, j0_0, j0_1, j1_0, j1_1, if_true, if_false, ite_true, ite_false, true_and, and_true, or_true, true_or, false_or, or_false, ↓reduceIte, Nat.reduceEqDiff, Nat.reduceAdd, Nat.reduceMul, Nat.reduceSub, Int.reduceLE, Int.reduceLT, Int.reduceNeg, Int.reduceAdd, Int.reduceSub, Int.reduceEq, reduceCtorEq, jI_lt, jI_eq, jI_lt0, jI_0lt, jI_eq0, jI_0le, jn_lo, iU_row, iU_nr, iU_eq, iU_same, jI_ixn, jI_add, jI_sub, jI_nat, sh_80, e1, e150, r181 (g := -1) hF (pDays_ok (lw := lw) hok t) (by omega) (by omega) hR2 hg2, r230, pBits_ln hn]
    exact hp
  | k + 1 => by
    intro d m T h I P zm hk hh hok hR hlw hg0 hzm hP
    subst hzm
    rw [show d + 75 + (k + 1) = d + 75 + k + 1 from rfl]
    have e1 : (1 : Int) + (m : Int) = ((m + 1 : Nat) : Int) := by omega
    have e149 := fun (P : mPost) (d : Nat) => r149 (d := d) (e := e) (I := I) (E := E) (P := P) hF (v := m + 1) (by omega)
    have hR1 : vTownR n T (kU I (m + 1) 42 81) (kU I (m + 1) 42 80 2) := kR hR
    have hL1 : vLawR lw (kU I (m + 1) 42 87) (kU I (m + 1) 42 80 11) (kU I (m + 1) 42 80 12) (kU I (m + 1) 42 90) := kL hlw
    have hv := tV_in (lw := lw) (t := t) hn k (!h) T
    have hpar : (!h) = decide ((m + 1) % 2 = 0) := by
      rw [hh, ← decide_not]
      congr 1
      apply propext
      omega
    have hk0 : tKp m I (kU I (m + 1) 42) := fun j hj => by
      unfold kU
      rw [if_pos ⟨rfl, by omega, by omega⟩]
      congr 1
      omega
    have ha0 : vAg (vScU2 (m + 1)) I (kU I (m + 1) 42) := vAg_k2 (by omega) vAg_rfl
    have h80 : ∀ j, kU I (m + 1) 42 80 j = I 80 j := fun j => by rw [kU_row (by omega)]
    have fin : ∀ (best : Int) a8 a9, (h = true ∧ best = 2147483647 ∨ h = false ∧ best = -1) → mG (d + 75 + k + 1) 207 123 [some (.ref 80), some (.int (jI m)), some (.int (jI N)), some (.int (jI t)), some (.int (jI (if h = true then 1 else 0))), some (.int (jI best)), some (.int (jI 8)), some (.int (jI (-1))), a8, a9] [] (mLay e) (kU I (m + 1) 42, E, F) P := by
      intro best a8 a9 hbest
      simp only [g207_123, g207_124, g207_125, g207_126, g207_127, g207_128, g207_129, nl_none, nl_int, nl_ref, Option.toList_some, Option.toList_none, List.cons_append, List.nil_append, mSetI_u, mSetL_u, Nat.add_one_ne_zero, Nat.add_eq_zero_iff, and_false, false_and, not_false_eq_true, ne_eq, j0_0, j0_1, j1_0, j1_1, if_true, if_false, ite_true, ite_false, true_and, and_true, or_true, true_or, false_or, or_false, ↓reduceIte, Nat.reduceEqDiff, Nat.reduceAdd, Nat.reduceMul, Nat.reduceSub, Int.reduceLE, Int.reduceLT, Int.reduceNeg, Int.reduceAdd, Int.reduceSub, Int.reduceEq, reduceCtorEq, jI_lt, jI_eq, jI_lt0, jI_0lt, jI_eq0, jI_0le, jn_lo, iU_row, iU_nr, iU_eq, iU_same, jI_ixn, jI_add, jI_sub, jI_nat, sh_80]
      refine r207 hF hn hl ht6 hN k d (m + 1) T (!h) (kU I (m + 1) 42) _ _ (by omega) hpar hok hR1 hL1 ((h80 20).trans hg0) rfl (fun I3 h3 h83 _ => ?_)
      have hwt : (h = true ∧ (tV lw n t k (!h) T).1 < best) ∨ (h = false ∧ best < (tV lw n t k (!h) T).1) := by
        rcases hbest with ⟨h1, h2⟩ | ⟨h1, h2⟩
        · exact .inl ⟨h1, by omega⟩
        · exact .inr ⟨h1, by omega⟩
      refine r207_w (d := d + 75 + k) hF (by omega) (by
        rcases hbest with ⟨h1, h2⟩ | ⟨h1, h2⟩
        · exact .inl ⟨h1, by omega, by omega⟩
        · exact .inr ⟨h1, by omega, by omega⟩) hv ⟨by omega, by omega⟩ (fun a8 a9 => ?_)
      rw [if_pos hwt, if_pos hwt, if_pos rfl]
      exact r207_l hF hok hR hlw hg0 hk hN hh (r207 hF hn hl ht6 hN k) (fun I' g1 g2 g3 => hP I' g1 g2 (fun _ => g3)) n 0 _ _ a8 a9 (by omega) (by omega) (vAg_l2 (vAg_tr ha0 (vAg_mono h3 (fun r j q => sc_U2m (by omega) q)))) (tKp_l (tKp_up hk0 h3)) (tKp_lu (tKp_up hk0 h3))
    have hm3 : m = 0 ∨ m = 1 ∨ m = 2 := by omega
    have hmN : ¬ (m : Int) = (N : Int) := by omega
    cases h with
    | true =>
      have fin' := fun a8 a9 => fin 2147483647 a8 a9 (.inl ⟨rfl, rfl⟩)
      have em : (m : Int) - (m : Int) / 2 * 2 = 0 := by
        have := of_decide_eq_true hh.symm
        omega
      simp only [g207_in, g207_0, g207_1, g207_2, g207_3, g207_4, g207_7, g207_8, g207_9, g207_12, g207_13, g207_14, g207_17, g207_18, g207_21, g207_24, g207_26, g207_27, g207_28, g207_29, g207_30, g207_33, g207_35, g207_36, g207_37, g207_38, g207_39, g207_42, g207_43, g207_46, g207_47, g207_49, g207_51, g207_54, g207_57, g207_60, g207_61, g207_63, g207_65, g207_67, g207_68, g207_70, g207_72, g207_73, g207_76, g207_79, g207_81, g207_84, g207_86, g207_89, g207_90, g207_92, g207_95, g207_98, g207_100, nl_none, nl_int, nl_ref, Option.toList_some, Option.toList_none, List.cons_append, List.nil_append, mSetI_u, mSetL_u, Nat.add_one_ne_zero, Nat.add_eq_zero_iff, and_false, false_and, not_false_eq_true, ne_eq, j0_0, j0_1, j1_0, j1_1, if_true, if_false, ite_true, ite_false, true_and, and_true, or_true, true_or, false_or, or_false, ↓reduceIte, Nat.reduceEqDiff, Nat.reduceAdd, Nat.reduceMul, Nat.reduceSub, Int.reduceLE, Int.reduceLT, Int.reduceNeg, Int.reduceAdd, Int.reduceSub, Int.reduceEq, reduceCtorEq, jI_lt, jI_eq, jI_lt0, jI_0lt, jI_eq0, jI_0le, jn_lo, iU_row, iU_nr, iU_eq, iU_same, jI_ixn, jI_add, jI_sub, jI_nat, sh_80, e1, e149, hmN, show ((m : Nat) : Int) ≤ 2147483647 by omega, show (m : Nat) ≤ 2147483647 by omega, show ((N : Nat) : Int) ≤ 2147483647 by omega, show (N : Nat) ≤ 2147483647 by omega, h80, hR.2.2.2, em, jI_div (a := (m : Int)) (b := 2) (by omega) (by omega) (by omega) (by omega), jI_mul, show ((n : Nat) : Int) ≤ 2147483647 by omega, show (n : Nat) ≤ 2147483647 by omega, show -2147483648 ≤ ((m : Int) - (m : Int) / 2 * 2 : Int) by omega, show ((m : Int) - (m : Int) / 2 * 2 : Int) ≤ 2147483647 by omega, show (-1 : Int) < (n : Int) by omega, show (-1 : Int) < 0 by omega]
      exact fin' _ _
    | false =>
      have fin' := fun a8 a9 => fin (-1) a8 a9 (.inr ⟨rfl, rfl⟩)
      have em : (m : Int) - (m : Int) / 2 * 2 = 1 := by
        have := of_decide_eq_false hh.symm
        omega
      simp only [g207_in, g207_0, g207_1, g207_2, g207_3, g207_4, g207_7, g207_8, g207_9, g207_12, g207_13, g207_14, g207_17, g207_18, g207_21, g207_24, g207_26, g207_27, g207_28, g207_29, g207_30, g207_33, g207_35, g207_36, g207_37, g207_38, g207_39, g207_42, g207_43, g207_46, g207_47, g207_49, g207_51, g207_54, g207_57, g207_60, g207_61, g207_63, g207_65, g207_67, g207_68, g207_70, g207_72, g207_73, g207_76, g207_79, g207_81, g207_84, g207_86, g207_89, g207_90, g207_92, g207_95, g207_98, g207_100, nl_none, nl_int, nl_ref, Option.toList_some, Option.toList_none, List.cons_append, List.nil_append, mSetI_u, mSetL_u, Nat.add_one_ne_zero, Nat.add_eq_zero_iff, and_false, false_and, not_false_eq_true, ne_eq, j0_0, j0_1, j1_0, j1_1, if_true, if_false, ite_true, ite_false, true_and, and_true, or_true, true_or, false_or, or_false, ↓reduceIte, Nat.reduceEqDiff, Nat.reduceAdd, Nat.reduceMul, Nat.reduceSub, Int.reduceLE, Int.reduceLT, Int.reduceNeg, Int.reduceAdd, Int.reduceSub, Int.reduceEq, reduceCtorEq, jI_lt, jI_eq, jI_lt0, jI_0lt, jI_eq0, jI_0le, jn_lo, iU_row, iU_nr, iU_eq, iU_same, jI_ixn, jI_add, jI_sub, jI_nat, sh_80, e1, e149, hmN, show ((m : Nat) : Int) ≤ 2147483647 by omega, show (m : Nat) ≤ 2147483647 by omega, show ((N : Nat) : Int) ≤ 2147483647 by omega, show (N : Nat) ≤ 2147483647 by omega, h80, hR.2.2.2, em, jI_div (a := (m : Int)) (b := 2) (by omega) (by omega) (by omega) (by omega), jI_mul, show ((n : Nat) : Int) ≤ 2147483647 by omega, show (n : Nat) ≤ 2147483647 by omega, show -2147483648 ≤ ((m : Int) - (m : Int) / 2 * 2 : Int) by omega, show ((m : Int) - (m : Int) / 2 * 2 : Int) ≤ 2147483647 by omega, show (-1 : Int) < (n : Int) by omega, show (-1 : Int) < 0 by omega]
      exact fin' _ _
end RTN
