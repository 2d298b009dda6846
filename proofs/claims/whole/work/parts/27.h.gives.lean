/-! ===== the law's text: the reference's lines ===== -/
def rTx (len : Nat) (en : Nat → Int32) (I : Nat → Nat → Int32) (r : Bool × Nat × List lLn) (f : Bool) (v1 v : Int32) (I' : Nat → Nat → Int32) : Prop := vAg vScY I I' ∧ I' 80 15 = jI r.2.1 ∧ (r.1 = true → I' 80 16 = jI 1 ∧ len ≤ r.2.1 ∧ v = (if f = true then v1 else lRun en r.2.2)) ∧ (¬ r.1 = true → I' 80 16 = jI 0 ∨ r.2.1 < len)
theorem cB1 : cBo true = jI 1 := rfl
theorem cB0 : cBo false = jI 0 := rfl
section RGV
variable {d n : Nat} {e : List mShp} {I : Nat → Nat → Int32} {E : Nat → Nat → Int64} {F : Nat → Nat → Nat} {P : mPost} {st nx gf rl dr pos len : Nat} {b : Nat → Int} {en : Nat → Int32} {o z : Int}
theorem r172_w (h : I 80 16 = jI 0) {p : Nat} (h1 : I 80 15 = jI p) {v1 v4 : Int32} {f g : Bool} (hP : ∀ v, P (some (.int v)) (mLay e) (iU I 80 15 (jI p), E, F)) : mG (d + 1) 172 71 [some (.ref 80), some (.int v1), some (.int (cBo f)), some (.int (jI 1)), some (.int v4), some (.int (cBo g))] [] (mLay e) (I, E, F) P := by
  cases f <;> cases g
  all_goals
    simp only [cB1, cB0]
    simp only [g172_21, g172_22, g172_71, g172_73, g172_76, g172_77, g172_80, g172_82, g172_85, g172_86, g172_87, g172_88, g172_91, g172_93, g172_96, g172_97, g172_100, g172_101, g172_102, g172_103, g172_105, g172_108, g172_109, g172_110, g172_111, g172_114, g172_115, g172_118, g172_119, g172_122, g172_123, g172_124, g172_127, g172_130, g172_131, nl_none, nl_int, nl_ref, Option.toList_some, Option.toList_none, List.cons_append, List.nil_append, mSetI_u, mSetL_u, Nat.add_one_ne_zero, Nat.add_eq_zero_iff, and_false, false_and, not_false_eq_true, ne_eq, j0_0, j0_1, j1_0, j1_1, if_true, if_false, ite_true, ite_false, true_and, and_true, or_true, true_or, false_or, or_false, ↓reduceIte, Nat.reduceEqDiff, Nat.reduceAdd, Nat.reduceMul, Nat.reduceSub, Int.reduceLE, Int.reduceLT, Int.reduceNeg, Int.reduceAdd, Int.reduceSub, Int.reduceEq, reduceCtorEq, jI_lt, jI_eq, jI_lt0, jI_0lt, jI_eq0, jI_0le, jn_lo, iU_row, iU_nr, iU_eq, iU_same, jI_ixn, jI_add, jI_sub, jI_nat, sh_80, r162_0 h, h1, Int.add_zero, eq_self]
    exact hP _
theorem r172_x (hF : mFx F st nx gf rl dr) (hl : len ≤ 120) (hb : ∀ j, j < len → 0 ≤ b j ∧ b j ≤ 255) (hr : rRd b len en I pos o) (hp : pos ≤ len) (h : ¬ (pos < len ∧ b pos = 59)) {v1 v4 : Int32} {f g : Bool} (hP : P (some (.int (if f = true then v1 else if g = true then v4 else v1))) (mLay e) (iU I 80 15 (jI pos), E, F)) : mG (d + 1) 172 71 [some (.ref 80), some (.int v1), some (.int (cBo f)), some (.int (jI 1)), some (.int v4), some (.int (cBo g))] [] (mLay e) (I, E, F) P := by
  cases f <;> cases g
  all_goals
    simp only [cB1, cB0]
    simp only [g172_21, g172_22, g172_71, g172_73, g172_76, g172_77, g172_80, g172_82, g172_85, g172_86, g172_87, g172_88, g172_91, g172_93, g172_96, g172_97, g172_100, g172_101, g172_102, g172_103, g172_105, g172_108, g172_109, g172_110, g172_111, g172_114, g172_115, g172_118, g172_119, g172_122, g172_123, g172_124, g172_127, g172_130, g172_131, nl_none, nl_int, nl_ref, Option.toList_some, Option.toList_none, List.cons_append, List.nil_append, mSetI_u, mSetL_u, Nat.add_one_ne_zero, Nat.add_eq_zero_iff, and_false, false_and, not_false_eq_true, ne_eq, j0_0, j0_1, j1_0, j1_1, if_true, if_false, ite_true, ite_false, true_and, and_true, or_true, true_or, false_or, or_false, ↓reduceIte, Nat.reduceEqDiff, Nat.reduceAdd, Nat.reduceMul, Nat.reduceSub, Int.reduceLE, Int.reduceLT, Int.reduceNeg, Int.reduceAdd, Int.reduceSub, Int.reduceEq, reduceCtorEq, jI_lt, jI_eq, jI_lt0, jI_0lt, jI_eq0, jI_0le, jn_lo, iU_row, iU_nr, iU_eq, iU_same, jI_ixn, jI_add, jI_sub, jI_nat, sh_80, r162 hF hl hb hr hp (z := 59) (by omega) (by omega), h, hr.2.1, Int.add_zero, eq_self]
    exact hP
theorem r172_c (hF : mFx F st nx gf rl dr) (hl : len ≤ 120) (hb : ∀ j, j < len → 0 ≤ b j ∧ b j ≤ 255) (hr : rRd b len en I pos o) (hp : pos ≤ len) (h : pos < len ∧ b pos = 59) {v1 v4 : Int32} {f g : Bool} (hP : mG (d + 1) 172 21 [some (.ref 80), some (.int (if f = true then v1 else if g = true then v4 else v1)), some (.int (cBo (f || g))), some (.int (jI 1)), some (.int v4), some (.int (cBo g))] [] (mLay e) (iU I 80 15 (jI ((pos : Int) + 1)), E, F) P) : mG (d + 1) 172 71 [some (.ref 80), some (.int v1), some (.int (cBo f)), some (.int (jI 1)), some (.int v4), some (.int (cBo g))] [] (mLay e) (I, E, F) P := by
  cases f <;> cases g
  all_goals
    simp only [cB1, cB0]
    simp only [g172_71, g172_73, g172_76, g172_77, g172_80, g172_82, g172_85, g172_86, g172_87, g172_88, g172_91, g172_93, g172_96, g172_97, g172_100, g172_101, g172_102, g172_103, g172_105, g172_108, g172_109, g172_110, g172_111, g172_114, g172_115, g172_118, g172_119, g172_122, g172_123, g172_124, g172_127, nl_none, nl_int, nl_ref, Option.toList_some, Option.toList_none, List.cons_append, List.nil_append, mSetI_u, mSetL_u, Nat.add_one_ne_zero, Nat.add_eq_zero_iff, and_false, false_and, not_false_eq_true, ne_eq, j0_0, j0_1, j1_0, j1_1, if_true, if_false, ite_true, ite_false, true_and, and_true, or_true, true_or, false_or, or_false, ↓reduceIte, Nat.reduceEqDiff, Nat.reduceAdd, Nat.reduceMul, Nat.reduceSub, Int.reduceLE, Int.reduceLT, Int.reduceNeg, Int.reduceAdd, Int.reduceSub, Int.reduceEq, reduceCtorEq, jI_lt, jI_eq, jI_lt0, jI_0lt, jI_eq0, jI_0le, jn_lo, iU_row, iU_nr, iU_eq, iU_same, jI_ixn, jI_add, jI_sub, jI_nat, sh_80, r162 hF hl hb hr hp (z := 59) (by omega) (by omega), h, and_self, hr.2.1, eq_self]
    exact hP
theorem r172_l (hF : mFx F st nx gf rl dr) (hl : len ≤ 120) (hb : ∀ j, j < len → 0 ≤ b j ∧ b j ≤ 255) {Q : Nat} (hQ : 44 ≤ Q) : ∀ (k i pos : Nat) (I : Nat → Nat → Int32) (v1 : Int32) (f : Bool) (a4 a5 : Option Value), i + k = 121 → i ≤ pos → pos ≤ len → rRd b len en I pos 0 → (f = false → v1 = jI 0) → (∀ I' v, rTx len en I (lText b len k pos) f v1 v I' → P (some (.int v)) (mLay e) (I', E, F)) → mG (Q + 1) 172 21 [some (.ref 80), some (.int v1), some (.int (cBo f)), some (.int (jI 1)), a4, a5] [] (mLay e) (I, E, F) P
  | 0, i, pos, I, v1, f, a4, a5, hi, hip, hp, hr, hf, hP => absurd hip (by omega)
  | k + 1, i, pos, I, v1, f, a4, a5, hi, hip, hp, hr, hf, hP => by
    have fin : ∀ (g : Bool) (v4 : Int32) (ln : lLn) (p' : Nat) (I2 : Nat → Nat → Int32), pos < p' → p' ≤ len → vAg vScY I I2 → rRd b len en I2 p' 0 → lLine b len pos = (true, p', ln) → (∀ r, lRun en (ln :: r) = if g = true then v4 else lRun en r) → mG (Q + 1) 172 71 [some (.ref 80), some (.int v1), some (.int (cBo f)), some (.int (jI 1)), some (.int v4), some (.int (cBo g))] [] (mLay e) (I2, E, F) P := by
      intro g v4 ln p' I2 hp1 hp2 ha hr2 hL hrun
      have e1 : lText b len (k + 1) pos = if len ≤ p' then (true, p', [ln]) else if b p' = 59 then ((lText b len k (p' + 1)).1, (lText b len k (p' + 1)).2.1, ln :: (lText b len k (p' + 1)).2.2) else (false, p', [ln]) := by
        rw [lText, hL]
        exact if_pos rfl
      rw [e1] at hP
      have hv0 : (if f = true then v1 else if g = true then v4 else v1) = if f = true then v1 else lRun en [ln] := by
        rw [hrun]
        cases f
        · cases g
          · exact hf rfl
          · rfl
        · rfl
      by_cases qe : len ≤ p'
      · rw [if_pos qe] at hP
        refine r172_x hF hl hb hr2 hp2 (fun w => absurd w.1 (by omega)) (hP _ _ ⟨vAg_iU ha sc_Y5, iU_eq, fun _ => ⟨?_, qe, hv0⟩, fun w => absurd rfl w⟩)
        rw [iU_same (by omega)]
        exact hr2.2.2.1
      · rw [if_neg qe] at hP
        by_cases q59 : b p' = 59
        · rw [if_pos q59] at hP
          refine r172_c hF hl hb hr2 hp2 ⟨by omega, q59⟩ ?_
          have hr3 : rRd b len en (iU I2 80 15 (jI ((p' : Int) + 1))) (p' + 1) 0 := rRd_ag hr2 (vAg_iU vAg_rfl sc_Y5) (by rw [iU_eq]; rfl) (by rw [iU_same (by omega)]; exact hr2.2.2.1) (by rw [iU_same (by omega)]; exact hr2.2.2.2.1)
          refine r172_l hF hl hb hQ k (i + 1) (p' + 1) _ _ (f || g) _ _ (by omega) (by omega) (by omega) hr3 ?_ (fun I3 v h3 => hP I3 v ?_)
          · intro w
            cases f
            · cases g
              · exact hf rfl
              · cases w
            · cases w
          · obtain ⟨k1, k2, k3, k4⟩ := h3
            refine ⟨vAg_tr (vAg_iU ha sc_Y5) k1, k2, fun w => ?_, k4⟩
            obtain ⟨m1, m2, m3⟩ := k3 w
            refine ⟨m1, m2, m3.trans ?_⟩
            rw [hrun]
            cases f
            · cases g
              · rfl
              · rfl
            · rfl
        · rw [if_neg q59] at hP
          exact r172_x hF hl hb hr2 hp2 (fun w => q59 w.2) (hP _ _ ⟨vAg_iU ha sc_Y5, iU_eq, fun w => (by cases w), fun _ => .inr (by show p' < len; omega)⟩)
    have bad : ∀ (g : Bool) (v4 : Int32) (p' : Nat) (I2 : Nat → Nat → Int32), vAg vScY I I2 → I2 80 16 = jI 0 → I2 80 15 = jI p' → (lLine b len pos).1 = false → (lLine b len pos).2.1 = p' → mG (Q + 1) 172 71 [some (.ref 80), some (.int v1), some (.int (cBo f)), some (.int (jI 1)), some (.int v4), some (.int (cBo g))] [] (mLay e) (I2, E, F) P := by
      intro g v4 p' I2 ha hw h15 hL hL2
      have e1 : lText b len (k + 1) pos = (false, p', []) := by
        rw [lText, hL, hL2]
        exact if_neg (by decide)
      rw [e1] at hP
      refine r172_w hw h15 (fun v => hP _ v ⟨vAg_iU ha sc_Y5, iU_eq, fun w => (by cases w), fun _ => .inl ?_⟩)
      rw [iU_same (by omega)]
      exact hw
    clear hP
    obtain ⟨x1, x2, x3⟩ := lTop_ok (b := b) (len := len) pos hp
    have hTop := rTop (e := e) (E := E) (en := en) hF hl hb
    rw [g172_21]
    simp only [g172_22, g172_25, g172_26, nl_none, nl_int, nl_ref, Option.toList_some, Option.toList_none, List.cons_append, List.nil_append, mSetI_u, mSetL_u, Nat.add_one_ne_zero, Nat.add_eq_zero_iff, and_false, false_and, not_false_eq_true, ne_eq, j0_0, j0_1, j1_0, j1_1, if_true, if_false, ite_true, ite_false, true_and, and_true, or_true, true_or, false_or, or_false, ↓reduceIte, Nat.reduceEqDiff, Nat.reduceAdd, Nat.reduceMul, Nat.reduceSub, Int.reduceLE, Int.reduceLT, Int.reduceNeg, Int.reduceAdd, Int.reduceSub, Int.reduceEq, reduceCtorEq, jI_lt, jI_eq, jI_lt0, jI_0lt, jI_eq0, jI_0le, jn_lo, iU_row, iU_nr, iU_eq, iU_same, jI_ixn, jI_add, jI_sub, jI_nat, sh_80]
    refine hTop Q pos I _ hQ hp hr (fun I1 v4 h1 => ?_)
    obtain ⟨A, hA⟩ : ∃ A, A = lE b len (lOp b len 6) pos := ⟨_, rfl⟩
    have eL : lLine b len pos = if A.1 = true then (if A.2.1 < len ∧ b A.2.1 = 63 then ((lE b len (lOp b len 6) (A.2.1 + 1)).1, (lE b len (lOp b len 6) (A.2.1 + 1)).2.1, some A.2.2, (lE b len (lOp b len 6) (A.2.1 + 1)).2.2) else (true, A.2.1, none, A.2.2)) else (false, A.2.1, none, [], fun _ => 0) := by
      rw [hA]
      rfl
    rw [← hA] at h1 x1 x2 x3
    by_cases qa : A.1 = true
    · obtain ⟨x4, x5, x6⟩ := x3 qa
      have hr1 := rPo_rd hr h1 qa
      obtain ⟨k1, k2, k3⟩ := h1.2.2.1 qa
      rw [if_pos qa] at eL
      by_cases qn : A.2.1 < len ∧ b A.2.1 = 63
      · rw [if_pos qn] at eL
        have hr2 : rRd b len en (iU I1 80 15 (jI ((A.2.1 : Int) + 1))) (A.2.1 + 1) 0 := rRd_ag hr1 (vAg_iU vAg_rfl sc_Y5) (by rw [iU_eq]; rfl) (by rw [iU_same (by omega)]; exact hr1.2.2.1) (by rw [iU_same (by omega)]; exact hr1.2.2.2.1)
        obtain ⟨y1, y2, y3⟩ := lTop_ok (b := b) (len := len) (A.2.1 + 1) (by omega)
        obtain ⟨B, hB⟩ : ∃ B, B = lE b len (lOp b len 6) (A.2.1 + 1) := ⟨_, rfl⟩
        have tail : ∀ (g : Bool) (v4 : Int32), (∀ r, lRun en ((some A.2.2, B.2.2) :: r) = if g = true then B.2.2.2 en else lRun en r) → mF Q 171 [.ref 80] (mLay e) (iU I1 80 15 (jI ((A.2.1 : Int) + 1)), E, F) (fun v lay1 M1 => mG (Q + 1) 172 69 [some (.ref 80), some (.int v1), some (.int (cBo f)), some (.int (jI 1)), some (.int v4), some (.int (cBo g))] (v.toList ++ []) lay1 M1 P) := by
          intro g v4 hrun
          refine hTop Q (A.2.1 + 1) _ _ hQ (by omega) hr2 (fun I2 v5 h2 => ?_)
          rw [← hB] at h2 y1 y2 y3
          simp only [g172_69, nl_none, nl_int, nl_ref, Option.toList_some, Option.toList_none, List.cons_append, List.nil_append, mSetI_u, mSetL_u, Nat.add_one_ne_zero, Nat.add_eq_zero_iff, and_false, false_and, not_false_eq_true, ne_eq, j0_0, j0_1, j1_0, j1_1, if_true, if_false, ite_true, ite_false, true_and, and_true, or_true, true_or, false_or, or_false, ↓reduceIte, Nat.reduceEqDiff, Nat.reduceAdd, Nat.reduceMul, Nat.reduceSub, Int.reduceLE, Int.reduceLT, Int.reduceNeg, Int.reduceAdd, Int.reduceSub, Int.reduceEq, reduceCtorEq, jI_lt, jI_eq, jI_lt0, jI_0lt, jI_eq0, jI_0le, jn_lo, iU_row, iU_nr, iU_eq, iU_same, jI_ixn, jI_add, jI_sub, jI_nat]
          by_cases qb : B.1 = true
          · have e2 : lLine b len pos = (true, B.2.1, some A.2.2, B.2.2) := by
              rw [eL, ← hB, qb]
            refine fin g v5 (some A.2.2, B.2.2) B.2.1 I2 (by omega) y2 (vAg_tr (vAg_iU h1.1 sc_Y5) h2.1) (rPo_rd hr2 h2 qb) e2 (fun r => ?_)
            rw [hrun, (h2.2.2.1 qb).2.2]
          · have qb' : B.1 = false := by
              cases hq : B.1
              · rfl
              · exact absurd hq qb
            refine bad g v5 B.2.1 I2 (vAg_tr (vAg_iU h1.1 sc_Y5) h2.1) (h2.2.2.2 qb) h2.2.1 ?_ ?_
            · rw [eL, ← hB]
              exact qb'
            · rw [eL, ← hB]
        by_cases q0 : v4 = 0
        · have ht := tail false v4 (fun r => by rw [lRun, if_pos (by rw [← k3]; exact q0), if_neg (by decide)])
          rw [cB0] at ht
          simp only [g172_29, g172_31, g172_32, g172_34, g172_35, g172_37, g172_40, g172_43, g172_44, g172_45, g172_48, g172_49, g172_50, g172_53, g172_55, g172_58, g172_59, g172_62, g172_63, g172_65, g172_66, nl_none, nl_int, nl_ref, Option.toList_some, Option.toList_none, List.cons_append, List.nil_append, mSetI_u, mSetL_u, Nat.add_one_ne_zero, Nat.add_eq_zero_iff, and_false, false_and, not_false_eq_true, ne_eq, j0_0, j0_1, j1_0, j1_1, if_true, if_false, ite_true, ite_false, true_and, and_true, or_true, true_or, false_or, or_false, ↓reduceIte, Nat.reduceEqDiff, Nat.reduceAdd, Nat.reduceMul, Nat.reduceSub, Int.reduceLE, Int.reduceLT, Int.reduceNeg, Int.reduceAdd, Int.reduceSub, Int.reduceEq, reduceCtorEq, jI_lt, jI_eq, jI_lt0, jI_0lt, jI_eq0, jI_0le, jn_lo, iU_row, iU_nr, iU_eq, iU_same, jI_ixn, jI_add, jI_sub, jI_nat, sh_80, r162 hF hl hb hr1 x2 (z := 63) (by omega) (by omega), qn, and_self, hr1.2.1, q0, eq_self]
          rw [q0] at ht
          exact ht
        · have ht := tail true v4 (fun r => by rw [lRun, if_neg (by rw [← k3]; exact q0), if_pos rfl])
          rw [cB1] at ht
          simp only [g172_29, g172_31, g172_32, g172_34, g172_35, g172_37, g172_40, g172_43, g172_44, g172_45, g172_48, g172_49, g172_50, g172_53, g172_55, g172_58, g172_59, g172_62, g172_63, g172_65, g172_66, nl_none, nl_int, nl_ref, Option.toList_some, Option.toList_none, List.cons_append, List.nil_append, mSetI_u, mSetL_u, Nat.add_one_ne_zero, Nat.add_eq_zero_iff, and_false, false_and, not_false_eq_true, ne_eq, j0_0, j0_1, j1_0, j1_1, if_true, if_false, ite_true, ite_false, true_and, and_true, or_true, true_or, false_or, or_false, ↓reduceIte, Nat.reduceEqDiff, Nat.reduceAdd, Nat.reduceMul, Nat.reduceSub, Int.reduceLE, Int.reduceLT, Int.reduceNeg, Int.reduceAdd, Int.reduceSub, Int.reduceEq, reduceCtorEq, jI_lt, jI_eq, jI_lt0, jI_0lt, jI_eq0, jI_0le, jn_lo, iU_row, iU_nr, iU_eq, iU_same, jI_ixn, jI_add, jI_sub, jI_nat, sh_80, r162 hF hl hb hr1 x2 (z := 63) (by omega) (by omega), qn, and_self, hr1.2.1, q0, eq_self]
          exact ht
      · rw [if_neg qn] at eL
        have ht := fin true v4 (none, A.2.2) A.2.1 I1 x5 x2 h1.1 hr1 eL (fun r => by rw [lRun, if_pos rfl, k3])
        rw [cB1] at ht
        simp only [g172_29, g172_31, g172_32, g172_34, g172_35, g172_37, g172_40, nl_none, nl_int, nl_ref, Option.toList_some, Option.toList_none, List.cons_append, List.nil_append, mSetI_u, mSetL_u, Nat.add_one_ne_zero, Nat.add_eq_zero_iff, and_false, false_and, not_false_eq_true, ne_eq, j0_0, j0_1, j1_0, j1_1, if_true, if_false, ite_true, ite_false, true_and, and_true, or_true, true_or, false_or, or_false, ↓reduceIte, Nat.reduceEqDiff, Nat.reduceAdd, Nat.reduceMul, Nat.reduceSub, Int.reduceLE, Int.reduceLT, Int.reduceNeg, Int.reduceAdd, Int.reduceSub, Int.reduceEq, reduceCtorEq, jI_lt, jI_eq, jI_lt0, jI_0lt, jI_eq0, jI_0le, jn_lo, iU_row, iU_nr, iU_eq, iU_same, jI_ixn, jI_add, jI_sub, jI_nat, sh_80, r162 hF hl hb hr1 x2 (z := 63) (by omega) (by omega), qn, eq_self]
        exact ht
    · rw [if_neg qa] at eL
      have hw := h1.2.2.2 qa
      have ht := bad true v4 A.2.1 I1 h1.1 hw h1.2.1 (by rw [eL]) (by rw [eL])
      rw [cB1] at ht
      simp only [g172_29, g172_31, g172_32, g172_34, g172_35, g172_37, g172_40, nl_none, nl_int, nl_ref, Option.toList_some, Option.toList_none, List.cons_append, List.nil_append, mSetI_u, mSetL_u, Nat.add_one_ne_zero, Nat.add_eq_zero_iff, and_false, false_and, not_false_eq_true, ne_eq, j0_0, j0_1, j1_0, j1_1, if_true, if_false, ite_true, ite_false, true_and, and_true, or_true, true_or, false_or, or_false, ↓reduceIte, Nat.reduceEqDiff, Nat.reduceAdd, Nat.reduceMul, Nat.reduceSub, Int.reduceLE, Int.reduceLT, Int.reduceNeg, Int.reduceAdd, Int.reduceSub, Int.reduceEq, reduceCtorEq, jI_lt, jI_eq, jI_lt0, jI_0lt, jI_eq0, jI_0le, jn_lo, iU_row, iU_nr, iU_eq, iU_same, jI_ixn, jI_add, jI_sub, jI_nat, sh_80, r162_0 hw, eq_self]
      exact ht
theorem r172 (hF : mFx F st nx gf rl dr) (hl : len ≤ 120) (hb : ∀ j, j < len → 0 ≤ b j ∧ b j ≤ 255) {Q : Nat} (hQ : 45 ≤ Q) (h14 : I 80 14 = jI len) (h88 : ∀ j, j < len → I 88 j = jI (b j)) (h90 : vLet (I 90)) (h89 : ∀ j, j < 6 → I 89 j = en j) (hP : ∀ I' v, rTx len en I (lText b len 121 0) false (jI 0) v I' → P (some (.int v)) (mLay e) (I', E, F)) : mF Q 172 [.ref 80] (mLay e) (I, E, F) P := by
  obtain ⟨q, rfl⟩ : ∃ q, Q = q + 1 := ⟨Q - 1, by omega⟩
  have ha : vAg vScY I (iU (iU (iU I 80 15 (jI 0)) 80 16 (jI 1)) 80 17 (jI 0)) := vAg_iU (vAg_iU (vAg_iU vAg_rfl sc_Y5) sc_Y6) sc_Y7
  have hr : rRd b len en (iU (iU (iU I 80 15 (jI 0)) 80 16 (jI 1)) 80 17 (jI 0)) 0 0 := by
    refine ⟨(ha 80 14 (by unfold vScY; omega)).trans h14, ?_, ?_, iU_eq, fun j hj => (ha 88 j (by unfold vScY; omega)).trans (h88 j hj), ?_, fun j hj => (ha 89 j (by unfold vScY; omega)).trans (h89 j hj)⟩
    · rw [iU_same (by omega), iU_same (by omega), iU_eq]
      rfl
    · rw [iU_same (by omega), iU_eq]
    · rw [vAg_row (r := 90) ha (fun j => by unfold vScY; omega)]
      exact h90
  have hl' := r172_l (P := P) (e := e) (E := E) (en := en) hF hl hb (show 44 ≤ q by omega) 121 0 0 _ (jI 0) false none none (by omega) (by omega) (by omega) hr (fun _ => rfl) (fun I' v h => hP I' v ⟨vAg_tr ha h.1, h.2⟩)
  rw [cB0] at hl'
  simp only [g172_in, g172_0, g172_1, g172_2, g172_5, g172_6, g172_7, g172_10, g172_11, g172_12, g172_15, g172_16, g172_17, g172_18, g172_19, g172_20, nl_none, nl_int, nl_ref, Option.toList_some, Option.toList_none, List.cons_append, List.nil_append, mSetI_u, mSetL_u, Nat.add_one_ne_zero, Nat.add_eq_zero_iff, and_false, false_and, not_false_eq_true, ne_eq, j0_0, j0_1, j1_0, j1_1, if_true, if_false, ite_true, ite_false, true_and, and_true, or_true, true_or, false_or, or_false, ↓reduceIte, Nat.reduceEqDiff, Nat.reduceAdd, Nat.reduceMul, Nat.reduceSub, Int.reduceLE, Int.reduceLT, Int.reduceNeg, Int.reduceAdd, Int.reduceSub, Int.reduceEq, reduceCtorEq, jI_lt, jI_eq, jI_lt0, jI_0lt, jI_eq0, jI_0le, jn_lo, iU_row, iU_nr, iU_eq, iU_same, jI_ixn, jI_add, jI_sub, jI_nat, sh_80, eq_self]
  exact hl'
/-! the kept text, told anew -/
theorem r174_a (hF : mFx F st nx gf rl dr) (hl : len ≤ 120) {I0 : Nat → Nat → Int32} (ht : ∀ j, j < len → I0 87 j = jI (b j)) (h14 : I0 80 14 = jI len) (hP : ∀ I', vAg (fun r _ => r = 88) I0 I' → (∀ j, j < len → I' 88 j = jI (b j)) → mG d 174 59 [some (.ref 80), some (.int (jI len))] [] (mLay e) (I', E, F) P) : ∀ (k i : Nat) (z : Int) I', i + k = len → z = i → vAg (fun r _ => r = 88) I0 I' → (∀ j, j < i → I' 88 j = jI (b j)) → mG d 174 33 [some (.ref 80), some (.int (jI z))] [] (mLay e) (I', E, F) P
  | 0, i, z, I', hi, hz, ha, hc => by
    subst hz
    have e : i = len := by omega
    subst e
    have k14 : I' 80 14 = jI i := (ha 80 14 (by omega)).trans h14
    rw [g174_33]
    simp only [g174_34, g174_35, g174_38, nl_none, nl_int, nl_ref, Option.toList_some, Option.toList_none, List.cons_append, List.nil_append, mSetI_u, mSetL_u, Nat.add_one_ne_zero, Nat.add_eq_zero_iff, and_false, false_and, not_false_eq_true, ne_eq, j0_0, j0_1, j1_0, j1_1, if_true, if_false, ite_true, ite_false, true_and, and_true, or_true, true_or, false_or, or_false, ↓reduceIte, Nat.reduceEqDiff, Nat.reduceAdd, Nat.reduceMul, Nat.reduceSub, Int.reduceLE, Int.reduceLT, Int.reduceNeg, Int.reduceAdd, Int.reduceSub, Int.reduceEq, reduceCtorEq, jI_lt, jI_eq, jI_lt0, jI_0lt, jI_eq0, jI_0le, jn_lo, iU_row, iU_nr, iU_eq, iU_same, jI_ixn, jI_add, jI_sub, jI_nat, sh_80, k14, show ((i : Nat) : Int) ≤ 2147483647 by omega, show (i : Nat) ≤ 2147483647 by omega, show ¬ ((i : Int) < (i : Int)) by omega]
    exact hP I' ha hc
  | k + 1, i, z, I', hi, hz, ha, hc => by
    subst hz
    have k14 : I' 80 14 = jI len := (ha 80 14 (by omega)).trans h14
    have k87 : I' 87 i = jI (b i) := (ha 87 i (by omega)).trans (ht i (by omega))
    have ih := r174_a hF hl ht h14 hP k (i + 1) ((i : Int) + 1) (iU I' 88 i (jI (b i))) (by omega) (by omega) (vAg_iU ha rfl) (fun j hj => by
      by_cases ej : j = i
      · rw [ej, iU_eq]
      · rw [iU_same ej]
        exact hc j (by omega))
    rw [g174_33]
    simp only [g174_34, g174_35, g174_38, g174_41, g174_42, g174_45, g174_46, g174_47, g174_50, g174_51, g174_52, g174_53, g174_56, nl_none, nl_int, nl_ref, Option.toList_some, Option.toList_none, List.cons_append, List.nil_append, mSetI_u, mSetL_u, Nat.add_one_ne_zero, Nat.add_eq_zero_iff, and_false, false_and, not_false_eq_true, ne_eq, j0_0, j0_1, j1_0, j1_1, if_true, if_false, ite_true, ite_false, true_and, and_true, or_true, true_or, false_or, or_false, ↓reduceIte, Nat.reduceEqDiff, Nat.reduceAdd, Nat.reduceMul, Nat.reduceSub, Int.reduceLE, Int.reduceLT, Int.reduceNeg, Int.reduceAdd, Int.reduceSub, Int.reduceEq, reduceCtorEq, jI_lt, jI_eq, jI_lt0, jI_0lt, jI_eq0, jI_0le, jn_lo, iU_row, iU_nr, iU_eq, iU_same, jI_ixn, jI_add, jI_sub, jI_nat, sh_80, sh_87, sh_88, f_80_13 hF, f_80_10 hF, k14, k87, show ((i : Nat) : Int) ≤ 2147483647 by omega, show (i : Nat) ≤ 2147483647 by omega, show ((len : Nat) : Int) ≤ 2147483647 by omega, show (len : Nat) ≤ 2147483647 by omega, show (i : Int) < (len : Int) by omega, jI_in (z := ((i : Int) : Int)) (n := 120) (by omega) (by omega) (by omega)]
    exact ih
end RGV
theorem vLawR_of {b : Nat → Int} {len p : Nat} {r : List lLn} (hl : len ≤ 120) (hb : ∀ j, j < len → 0 ≤ b j ∧ b j ≤ 255) {text lets : Nat → Int32} (ht : ∀ j, j < len → text j = jI (b j)) (hlet : vLet lets) (hx : lText b len 121 0 = (true, p, r)) : vLawR (lLw r) text (jI len) (jI 1) lets := by
  intro e F st nx gf rl dr I E d P g q n k s t hF h90 h87 h11 h12 a0 a1 a2 a3 a4 a5 hin hP
  simp only [g174_in, g174_0, g174_1, g174_4, g174_7, g174_8, g174_11, g174_12, g174_13, g174_14, g174_17, g174_18, g174_19, g174_20, g174_21, g174_22, g174_23, g174_24, g174_25, g174_28, g174_31, g174_32, nl_none, nl_int, nl_ref, Option.toList_some, Option.toList_none, List.cons_append, List.nil_append, mSetI_u, mSetL_u, Nat.add_one_ne_zero, Nat.add_eq_zero_iff, and_false, false_and, not_false_eq_true, ne_eq, j0_0, j0_1, j1_0, j1_1, if_true, if_false, ite_true, ite_false, true_and, and_true, or_true, true_or, false_or, or_false, ↓reduceIte, Nat.reduceEqDiff, Nat.reduceAdd, Nat.reduceMul, Nat.reduceSub, Int.reduceLE, Int.reduceLT, Int.reduceNeg, Int.reduceAdd, Int.reduceSub, Int.reduceEq, reduceCtorEq, jI_lt, jI_eq, jI_lt0, jI_0lt, jI_eq0, jI_0le, jn_lo, iU_row, iU_nr, iU_eq, iU_same, jI_ixn, jI_add, jI_sub, jI_nat, sh_80, h11, h12, eq_self]
  refine r174_a (I0 := iU I 80 14 (jI len)) hF hl (fun j hj => by rw [iU_row (by omega), h87]; exact ht j hj) iU_eq (fun I1 h1 hc1 => ?_) len 0 0 _ (by omega) rfl vAg_rfl (fun j hj => absurd hj (by omega))
  simp only [g174_59, g174_60, nl_none, nl_int, nl_ref, Option.toList_some, Option.toList_none, List.cons_append, List.nil_append, mSetI_u, mSetL_u, Nat.add_one_ne_zero, Nat.add_eq_zero_iff, and_false, false_and, not_false_eq_true, ne_eq, j0_0, j0_1, j1_0, j1_1, if_true, if_false, ite_true, ite_false, true_and, and_true, or_true, true_or, false_or, or_false, ↓reduceIte, Nat.reduceEqDiff, Nat.reduceAdd, Nat.reduceMul, Nat.reduceSub, Int.reduceLE, Int.reduceLT, Int.reduceNeg, Int.reduceAdd, Int.reduceSub, Int.reduceEq, reduceCtorEq, jI_lt, jI_eq, jI_lt0, jI_0lt, jI_eq0, jI_0le, jn_lo, iU_row, iU_nr, iU_eq, iU_same, jI_ixn, jI_add, jI_sub, jI_nat, sh_80]
  have e14 : I1 80 14 = jI len := (h1 80 14 (by omega)).trans iU_eq
  have e90 : I1 90 = lets := by
    rw [vAg_row (r := 90) h1 (fun j => by omega), iU_row (by omega)]
    exact h90
  have e89 : ∀ j, j < 6 → I1 89 j = lEnv g q n k s t j := by
    intro j hj
    rw [h1 89 j (by omega), iU_row (by omega)]
    rcases (by omega : j = 0 ∨ j = 1 ∨ j = 2 ∨ j = 3 ∨ j = 4 ∨ j = 5) with rfl | rfl | rfl | rfl | rfl | rfl
    · exact a0
    · exact a1
    · exact a2
    · exact a3
    · exact a4
    · exact a5
  refine r172 (en := lEnv g q n k s t) (b := b) (len := len) hF hl hb (by omega) e14 hc1 (by rw [e90]; exact hlet) e89 (fun I2 v h2 => ?_)
  obtain ⟨k1, k2, k3, -⟩ := h2
  rw [hx] at k3
  have hv : v = lRun (lEnv g q n k s t) r := (k3 rfl).2.2
  obtain ⟨z, z0, z1, hz⟩ := jI_of v
  have hp := hP I2 z (vAg_tr (vAg_tr (vAg_iU vAg_rfl (.inr ⟨rfl, by omega, by omega⟩)) (vAg_mono h1 (fun r j w => .inl w))) (vAg_mono k1 (fun r j w => .inr ⟨w.1, by have := w.2; omega⟩))) z0 z1 (by
    unfold lLw
    rw [← hv, hz, jI_toInt z0 z1])
  simp only [g174_63, nl_none, nl_int, nl_ref, Option.toList_some, Option.toList_none, List.cons_append, List.nil_append, mSetI_u, mSetL_u, Nat.add_one_ne_zero, Nat.add_eq_zero_iff, and_false, false_and, not_false_eq_true, ne_eq, j0_0, j0_1, j1_0, j1_1, if_true, if_false, ite_true, ite_false, true_and, and_true, or_true, true_or, false_or, or_false, ↓reduceIte, Nat.reduceEqDiff, Nat.reduceAdd, Nat.reduceMul, Nat.reduceSub, Int.reduceLE, Int.reduceLT, Int.reduceNeg, Int.reduceAdd, Int.reduceSub, Int.reduceEq, reduceCtorEq, jI_lt, jI_eq, jI_lt0, jI_0lt, jI_eq0, jI_0le, jn_lo, iU_row, iU_nr, iU_eq, iU_same, jI_ixn, jI_add, jI_sub, jI_nat]
  rw [hz]
  exact hp
