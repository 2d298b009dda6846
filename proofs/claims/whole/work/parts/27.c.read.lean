/-! ===== the law's text: the class reads it ===== -/
def vScL (l r j : Nat) : Prop := (r = 20 ∧ j = 2) ∨ r = l + 1 ∨ r = l + 2 ∨ (r = l ∧ j = 2)
/-- what a reading method leaves -/
def cPo (l sz : Nat) (I : Nat → Nat → Int32) (q : lRes) (I' : Nat → Nat → Int32) : Prop := vAg (vScL l) I I' ∧ I' 20 2 = jI q.2.1 ∧ (q.1 = true → I' l 2 = jI (sz + q.2.2.1.length : Nat) ∧ lHo (I' (l + 1)) (I' (l + 2)) q.2.2.1 sz ∧ ∀ j, j < sz → I' (l + 1) j = I (l + 1) j ∧ I' (l + 2) j = I (l + 2) j)
def cBo (o : Bool) : Int32 := jI (if o = true then 1 else 0)
def cS21 (b : Nat → Int) (len l : Nat) (e : List mShp) (E : Nat → Nat → Int64) (F : Nat → Nat → Nat) (X : Nat → lRes) (D : Nat) (lv o : Int) : Prop := ∀ (Q pos sz : Nat) (I : Nat → Nat → Int32) (P : mPost) (zl zo : Int32), D ≤ Q → pos ≤ len → sz ≤ pos → cRd b len I pos → I l 2 = jI sz → zl = jI lv → zo = jI o → (∀ I', cPo l sz I (X pos) I' → P (some (.int (cBo (X pos).1))) (mLay e) (I', E, F)) → mF Q 21 [.ref 20, .ref l, .int zl, .int zo] (mLay e) (I, E, F) P
def cS23 (b : Nat → Int) (len l : Nat) (e : List mShp) (E : Nat → Nat → Int64) (F : Nat → Nat → Nat) (X : Nat → lRes) (D : Nat) (o : Int) : Prop := ∀ (Q pos sz : Nat) (I : Nat → Nat → Int32) (P : mPost) (zo : Int32), D ≤ Q → pos ≤ len → sz ≤ pos → cRd b len I pos → I l 2 = jI sz → zo = jI o → (∀ I', cPo l sz I (X pos) I' → P (some (.int (cBo (X pos).1))) (mLay e) (I', E, F)) → mF Q 23 [.ref 20, .ref l, .int zo] (mLay e) (I, E, F) P
theorem cBo_01 (o : Bool) : (cBo o = 0 ∨ cBo o = 1) = True := by
  apply eq_true
  cases o
  · exact .inl rfl
  · exact .inr rfl
section RDC
variable {d n : Nat} {e : List mShp} {I : Nat → Nat → Int32} {E : Nat → Nat → Int64} {F : Nat → Nat → Nat} {P : mPost} {st nx gf rl dr l sz pos len : Nat} {b : Nat → Int}
theorem cPo_rd {q : lRes} {I' : Nat → Nat → Int32} (hl : l = 70 ∨ l = 75) (h : cPo l sz I q I') (hr : cRd b len I pos) : cRd b len I' q.2.1 := by
  obtain ⟨h1, h2, -⟩ := h
  obtain ⟨r1, r2, r3⟩ := hr
  refine ⟨(h1 20 1 (by unfold vScL; omega)).trans r1, h2, fun j hj => (h1 21 j (by unfold vScL; omega)).trans (r3 j hj)⟩
theorem cRd_at (hr : cRd b len I pos) {p' : Nat} {x : Int32} (hx : x = jI p') : cRd b len (iU I 20 2 x) p' := by
  obtain ⟨r1, r2, r3⟩ := hr
  refine ⟨by rw [iU_same (by omega)]; exact r1, by rw [iU_eq]; exact hx, fun j hj => by rw [iU_row (by omega)]; exact r3 j hj⟩
/-- a step is added: the state behind it -/
theorem cPo_add {q : lRes} {I' : Nat → Nat → Int32} (hl : l = 70 ∨ l = 75) (hq : q.1 = true) (h : cPo l sz I q I') {a z : Int} {p' : Nat} {v : lVal} (hp : I' 20 2 = jI p') : cPo l sz I (true, p', q.2.2.1 ++ [(a, z)], v) (iU (iU (iU I' (l + 1) (sz + q.2.2.1.length) (jI a)) (l + 2) (sz + q.2.2.1.length) (jI z)) l 2 (jI (((sz + q.2.2.1.length : Nat) : Int) + 1))) := by
  obtain ⟨h1, h2, h3⟩ := h
  obtain ⟨h4, h5, h6⟩ := h3 hq
  refine ⟨vAg_iU (vAg_iU (vAg_iU h1 (.inr (.inl rfl))) (.inr (.inr (.inl rfl)))) (.inr (.inr (.inr ⟨rfl, rfl⟩))), ?_, fun _ => ⟨?_, ?_, fun j hj => ⟨?_, ?_⟩⟩⟩
  · rw [iU_row (show ¬ 20 = l by omega), iU_row (show ¬ 20 = l + 2 by omega), iU_row (show ¬ 20 = l + 1 by omega)]
    exact hp
  · rw [iU_eq]
    show jI _ = jI ((sz + (q.2.2.1 ++ [(a, z)]).length : Nat) : Int)
    rw [List.length_append, List.length_singleton, ← Nat.add_assoc]
    rfl
  · show lHo _ _ (q.2.2.1 ++ [(a, z)]) sz
    rw [lHo_app]
    refine ⟨lHo_cg q.2.2.1 sz (fun j g1 g2 => ⟨?_, ?_⟩) h5, ?_, ?_, trivial⟩
    · rw [iU_row (show ¬ l + 1 = l by omega), iU_row (show ¬ l + 1 = l + 2 by omega), iU_same (by omega)]
    · rw [iU_row (show ¬ l + 2 = l by omega), iU_same (by omega), iU_row (show ¬ l + 2 = l + 1 by omega)]
    · rw [iU_row (show ¬ l + 1 = l by omega), iU_row (show ¬ l + 1 = l + 2 by omega), iU_eq]
    · rw [iU_row (show ¬ l + 2 = l by omega), iU_eq]
  · rw [iU_row (show ¬ l + 1 = l by omega), iU_row (show ¬ l + 1 = l + 2 by omega), iU_same (by omega)]
    exact (h6 j hj).1
  · rw [iU_row (show ¬ l + 2 = l by omega), iU_same (by omega), iU_row (show ¬ l + 2 = l + 1 by omega)]
    exact (h6 j hj).2
/-- one reading behind another -/
theorem cPo_tr {a q : lRes} {I1 I2 : Nat → Nat → Int32} {v : lVal} (hl : l = 70 ∨ l = 75) (ha : a.1 = true) (hq : q.1 = true) (h1 : cPo l sz I a I1) (h2 : cPo l (sz + a.2.2.1.length) I1 q I2) : cPo l sz I (true, q.2.1, a.2.2.1 ++ q.2.2.1, v) I2 := by
  obtain ⟨g1, g2, g3⟩ := h1
  obtain ⟨g4, g5, g6⟩ := g3 ha
  obtain ⟨k1, k2, k3⟩ := h2
  obtain ⟨k4, k5, k6⟩ := k3 hq
  refine ⟨vAg_tr g1 k1, k2, fun _ => ⟨?_, ?_, fun j hj => ⟨(k6 j (by omega)).1.trans (g6 j hj).1, (k6 j (by omega)).2.trans (g6 j hj).2⟩⟩⟩
  · rw [k4]
    show _ = jI ((sz + (a.2.2.1 ++ q.2.2.1).length : Nat) : Int)
    rw [List.length_append, Nat.add_assoc]
  · show lHo _ _ (a.2.2.1 ++ q.2.2.1) sz
    rw [lHo_app]
    exact ⟨lHo_cg a.2.2.1 sz (fun j _ hj => ⟨(k6 j hj).1, (k6 j hj).2⟩) g5, k5⟩
theorem cPo_fail {I' : Nat → Nat → Int32} {p' : Nat} (h : vAg (vScL l) I I') (h2 : I' 20 2 = jI p') : cPo l sz I (lFail p') I' := ⟨h, h2, fun q => by cases q⟩
/-- the reader's place moves alone -/
theorem cPo_0 {I' : Nat → Nat → Int32} {p : Nat} {v : lVal} (h : vAg (vScL l) I I') (h2 : I' 20 2 = jI p) (h3 : I' l 2 = jI sz) (h4 : I' (l + 1) = I (l + 1)) (h5 : I' (l + 2) = I (l + 2)) : cPo l sz I (true, p, [], v) I' := ⟨h, h2, fun _ => ⟨h3, trivial, fun j _ => ⟨by rw [h4], by rw [h5]⟩⟩⟩
/-! one level -/
theorem c21_g (hF : mFx F st nx gf rl dr) (hlr : l = 70 ∨ l = 75) (hl : len ≤ 120) (hb : ∀ j, j < len → 0 ≤ b j ∧ b j ≤ 255) {X : Nat → lRes} {D h : Nat} {lv o : Int} (hlv : 0 ≤ lv ∧ lv ≤ 4) {Q : Nat} (hD : D ≤ Q) (hX : cS21 b len l e E F X D (lv + 1) o) (hG : lGd len h X) (hs : sz ≤ pos) (hr0 : cRd b len I pos) {m : Nat} (hm : m ≤ 120) : ∀ (k i : Nat) (y : Int) (a : lRes) (I' : Nat → Nat → Int32) (a6 : Option Value), i + k = m → y = i → a.1 = true → lGr len (h + 1) pos a → cPo l sz I a I' → cRd b len I' a.2.1 → (∀ I', cPo l sz I (lGo b len lv X k a) I' → P (some (.int (cBo (lGo b len lv X k a).1))) (mLay e) (I', E, F)) → mG (Q + 1) 21 42 [some (.ref 20), some (.ref l), some (.int (jI lv)), some (.int (jI o)), some (.int (jI m)), some (.int (jI y)), a6] [] (mLay e) (I', E, F) P
  | 0, i, y, a, I', a6, hi, hy, ha, hg, hp, hr, hP => by
    subst hy
    have e : i = m := by omega
    subst e
    have hp' := hP I' hp
    rw [lGo, cBo, if_pos ha] at hp'
    rw [g21_42]
    simp only [g21_44, g21_46, g21_125, g21_126, nl_none, nl_int, nl_ref, Option.toList_some, Option.toList_none, List.cons_append, List.nil_append, mSetI_u, mSetL_u, Nat.add_one_ne_zero, Nat.add_eq_zero_iff, and_false, false_and, not_false_eq_true, ne_eq, j0_0, j0_1, j1_0, j1_1, if_true, if_false, ite_true, ite_false, true_and, and_true, or_true, true_or, false_or, or_false, ↓reduceIte, Nat.reduceEqDiff, Nat.reduceAdd, Nat.reduceMul, Nat.reduceSub, Int.reduceLE, Int.reduceLT, Int.reduceNeg, Int.reduceAdd, Int.reduceSub, Int.reduceEq, reduceCtorEq, jI_lt, jI_eq, jI_lt0, jI_0lt, jI_eq0, jI_0le, jn_lo, iU_row, iU_nr, iU_eq, iU_same, jI_ixn, jI_add, jI_sub, jI_nat, show ((i : Nat) : Int) ≤ 2147483647 by omega, show (i : Nat) ≤ 2147483647 by omega, show ¬ ((i : Int) < (i : Int)) by omega]
    exact hp'
  | k + 1, i, y, a, I', a6, hi, hy, ha, hg, hp, hr, hP => by
    have hL := vLo_rl (e := e) hF hlr
    have hl0 : ¬ l = 0 := by omega
    subst hy
    have hr' := hr
    obtain ⟨r1, r2, r3⟩ := hr
    obtain ⟨g1, g2, g3⟩ := hg
    obtain ⟨g4, g5, g6⟩ := g3 ha
    rw [g21_42]
    by_cases q : a.2.1 < len
    · have hbp := hb a.2.1 q
      by_cases q2 : lLev (b a.2.1) = lv
      · have hstep : lGo b len lv X (k + 1) a = if (X (a.2.1 + 1)).1 = true then lGo b len lv X k (lAdd (b a.2.1) a (X (a.2.1 + 1))) else lFail (X (a.2.1 + 1)).2.1 := by rw [lGo, if_pos ⟨q, q2⟩]
        have hq := hp.2.2 ha
        have hl2 : iU I' 20 2 (jI ((a.2.1 : Int) + 1)) l 2 = jI ((sz + a.2.2.1.length : Nat) : Int) := by
          rw [iU_row (by omega)]
          exact hq.1
        have hp1 : cPo l sz I (true, a.2.1 + 1, a.2.2.1, a.2.2.2) (iU I' 20 2 (jI ((a.2.1 : Int) + 1))) := by
          refine ⟨vAg_iU hp.1 (.inl ⟨rfl, rfl⟩), iU_eq, fun _ => ⟨hl2, ?_, fun j hj => ?_⟩⟩
          · rw [iU_row (show ¬ l + 1 = 20 by omega), iU_row (show ¬ l + 2 = 20 by omega)]
            exact hq.2.1
          · rw [iU_row (show ¬ l + 1 = 20 by omega), iU_row (show ¬ l + 2 = 20 by omega)]
            exact hq.2.2 j hj
        obtain ⟨x1, x2, x3⟩ := hG (a.2.1 + 1) (by omega)
        simp only [g21_44, g21_46, g21_49, g21_50, g21_53, g21_54, g21_57, g21_60, g21_61, g21_64, g21_65, g21_68, g21_69, g21_72, g21_73, g21_76, g21_77, g21_80, g21_81, g21_84, g21_85, g21_87, g21_88, g21_89, g21_92, g21_93, g21_94, g21_97, g21_98, g21_99, g21_100, g21_101, g21_102, g21_103, nl_none, nl_int, nl_ref, Option.toList_some, Option.toList_none, List.cons_append, List.nil_append, mSetI_u, mSetL_u, Nat.add_one_ne_zero, Nat.add_eq_zero_iff, and_false, false_and, not_false_eq_true, ne_eq, j0_0, j0_1, j1_0, j1_1, if_true, if_false, ite_true, ite_false, true_and, and_true, or_true, true_or, false_or, or_false, ↓reduceIte, Nat.reduceEqDiff, Nat.reduceAdd, Nat.reduceMul, Nat.reduceSub, Int.reduceLE, Int.reduceLT, Int.reduceNeg, Int.reduceAdd, Int.reduceSub, Int.reduceEq, reduceCtorEq, jI_lt, jI_eq, jI_lt0, jI_0lt, jI_eq0, jI_0le, jn_lo, iU_row, iU_nr, iU_eq, iU_same, jI_ixn, jI_add, jI_sub, jI_nat, sh_20, sh_21, f_20_0 hF, hl0, r1, r2, r3 a.2.1 q, show ((i : Nat) : Int) ≤ 2147483647 by omega, show (i : Nat) ≤ 2147483647 by omega, show ((m : Nat) : Int) ≤ 2147483647 by omega, show (m : Nat) ≤ 2147483647 by omega, show ((a.2.1 : Nat) : Int) ≤ 2147483647 by omega, show (a.2.1 : Nat) ≤ 2147483647 by omega, show ((len : Nat) : Int) ≤ 2147483647 by omega, show (len : Nat) ≤ 2147483647 by omega, show -2147483648 ≤ (lv : Int) by omega, show (lv : Int) ≤ 2147483647 by omega, show -2147483648 ≤ (lLev (b a.2.1) : Int) by omega, show (lLev (b a.2.1) : Int) ≤ 2147483647 by omega, show (i : Int) < (m : Int) by omega, show (a.2.1 : Int) < (len : Int) by omega, jI_in (z := ((a.2.1 : Int) : Int)) (n := 120) (by omega) (by omega) (by omega), c22 hbp.1 hbp.2, q2, eq_self]
        refine hX Q (a.2.1 + 1) (sz + a.2.2.1.length) _ _ _ _ hD (by omega) (by omega) (cRd_at hr' rfl) hl2 rfl rfl (fun I2 h2 => ?_)
        by_cases qx : (X (a.2.1 + 1)).1 = true
        · obtain ⟨x4, x5, x6⟩ := x3 qx
          rw [hstep, if_pos qx] at hP
          have h3 := h2.2.2 qx
          have hcp := cPo_tr (v := (X (a.2.1 + 1)).2.2.2) hlr rfl qx hp1 h2
          have hcq := cPo_add (a := b a.2.1) (z := 0) (v := (lAdd (b a.2.1) a (X (a.2.1 + 1))).2.2.2) hlr rfl hcp h2.2.1
          rw [List.append_assoc] at hcq
          have elen : sz + (a.2.2.1 ++ (X (a.2.1 + 1)).2.2.1).length = sz + a.2.2.1.length + (X (a.2.1 + 1)).2.2.1.length := by rw [List.length_append, Nat.add_assoc]
          have hgr : lGr len (h + 1) pos (lAdd (b a.2.1) a (X (a.2.1 + 1))) := by
            refine ⟨by show pos ≤ (X (a.2.1 + 1)).2.1; omega, x2, fun _ => ⟨?_, by show pos < (X (a.2.1 + 1)).2.1; omega, lCm_jn (by rw [q2]; exact hlv.1) g6 x6⟩⟩
            show pos + (a.2.2.1 ++ ((X (a.2.1 + 1)).2.2.1 ++ [(b a.2.1, 0)])).length ≤ (X (a.2.1 + 1)).2.1
            rw [List.length_append, List.length_append, List.length_singleton]
            omega
          have ih := c21_g hF hlr hl hb hlv hD hX hG hs hr0 hm k (i + 1) ((i : Int) + 1) (lAdd (b a.2.1) a (X (a.2.1 + 1))) _ (some (.int (jI (b a.2.1)))) (by omega) (by omega) rfl hgr hcq (cPo_rd hlr hcq hr0) hP
          rw [elen] at ih
          rw [cBo, if_pos qx]
          simp only [g21_106, g21_109, g21_110, g21_111, g21_112, g21_114, g21_115, g21_118, g21_119, g21_122, nl_none, nl_int, nl_ref, Option.toList_some, Option.toList_none, List.cons_append, List.nil_append, mSetI_u, mSetL_u, Nat.add_one_ne_zero, Nat.add_eq_zero_iff, and_false, false_and, not_false_eq_true, ne_eq, j0_0, j0_1, j1_0, j1_1, if_true, if_false, ite_true, ite_false, true_and, and_true, or_true, true_or, false_or, or_false, ↓reduceIte, Nat.reduceEqDiff, Nat.reduceAdd, Nat.reduceMul, Nat.reduceSub, Int.reduceLE, Int.reduceLT, Int.reduceNeg, Int.reduceAdd, Int.reduceSub, Int.reduceEq, reduceCtorEq, jI_lt, jI_eq, jI_lt0, jI_0lt, jI_eq0, jI_0le, jn_lo, iU_row, iU_nr, iU_eq, iU_same, jI_ixn, jI_add, jI_sub, jI_nat, hl0, hL.2.1, c6 hL h3.1 (show sz + a.2.2.1.length + (X (a.2.1 + 1)).2.2.1.length < 128 by omega)]
          exact ih
        · rw [hstep, if_neg qx] at hP
          have hp' := hP I2 (cPo_fail (vAg_tr hp1.1 h2.1) h2.2.1)
          rw [cBo, if_neg qx]
          simp only [g21_106, g21_109, g21_110, nl_none, nl_int, nl_ref, Option.toList_some, Option.toList_none, List.cons_append, List.nil_append, mSetI_u, mSetL_u, Nat.add_one_ne_zero, Nat.add_eq_zero_iff, and_false, false_and, not_false_eq_true, ne_eq, j0_0, j0_1, j1_0, j1_1, if_true, if_false, ite_true, ite_false, true_and, and_true, or_true, true_or, false_or, or_false, ↓reduceIte, Nat.reduceEqDiff, Nat.reduceAdd, Nat.reduceMul, Nat.reduceSub, Int.reduceLE, Int.reduceLT, Int.reduceNeg, Int.reduceAdd, Int.reduceSub, Int.reduceEq, reduceCtorEq, jI_lt, jI_eq, jI_lt0, jI_0lt, jI_eq0, jI_0le, jn_lo, iU_row, iU_nr, iU_eq, iU_same, jI_ixn, jI_add, jI_sub, jI_nat]
          exact hp'
      · have hstep : lGo b len lv X (k + 1) a = a := by rw [lGo, if_neg (fun w => q2 w.2)]
        rw [hstep] at hP
        have hp' := hP I' hp
        rw [cBo, if_pos ha] at hp'
        have hlvb : -1 ≤ lLev (b a.2.1) ∧ lLev (b a.2.1) ≤ 4 := by
          unfold lLev
          repeat' split
          all_goals omega
        simp only [g21_44, g21_46, g21_49, g21_50, g21_53, g21_54, g21_57, g21_60, g21_61, g21_64, g21_65, g21_68, g21_69, g21_72, g21_73, g21_125, g21_126, nl_none, nl_int, nl_ref, Option.toList_some, Option.toList_none, List.cons_append, List.nil_append, mSetI_u, mSetL_u, Nat.add_one_ne_zero, Nat.add_eq_zero_iff, and_false, false_and, not_false_eq_true, ne_eq, j0_0, j0_1, j1_0, j1_1, if_true, if_false, ite_true, ite_false, true_and, and_true, or_true, true_or, false_or, or_false, ↓reduceIte, Nat.reduceEqDiff, Nat.reduceAdd, Nat.reduceMul, Nat.reduceSub, Int.reduceLE, Int.reduceLT, Int.reduceNeg, Int.reduceAdd, Int.reduceSub, Int.reduceEq, reduceCtorEq, jI_lt, jI_eq, jI_lt0, jI_0lt, jI_eq0, jI_0le, jn_lo, iU_row, iU_nr, iU_eq, iU_same, jI_ixn, jI_add, jI_sub, jI_nat, sh_20, sh_21, f_20_0 hF, r1, r2, r3 a.2.1 q, show ((i : Nat) : Int) ≤ 2147483647 by omega, show (i : Nat) ≤ 2147483647 by omega, show ((m : Nat) : Int) ≤ 2147483647 by omega, show (m : Nat) ≤ 2147483647 by omega, show ((a.2.1 : Nat) : Int) ≤ 2147483647 by omega, show (a.2.1 : Nat) ≤ 2147483647 by omega, show ((len : Nat) : Int) ≤ 2147483647 by omega, show (len : Nat) ≤ 2147483647 by omega, show -2147483648 ≤ (lv : Int) by omega, show (lv : Int) ≤ 2147483647 by omega, show -2147483648 ≤ (lLev (b a.2.1) : Int) by omega, show (lLev (b a.2.1) : Int) ≤ 2147483647 by omega, show (i : Int) < (m : Int) by omega, show (a.2.1 : Int) < (len : Int) by omega, jI_in (z := ((a.2.1 : Int) : Int)) (n := 120) (by omega) (by omega) (by omega), c22 hbp.1 hbp.2, q2]
        exact hp'
    · have hstep : lGo b len lv X (k + 1) a = a := by rw [lGo, if_neg (fun w => q w.1)]
      rw [hstep] at hP
      have hp' := hP I' hp
      rw [cBo, if_pos ha] at hp'
      simp only [g21_44, g21_46, g21_49, g21_50, g21_53, g21_54, g21_57, g21_125, g21_126, nl_none, nl_int, nl_ref, Option.toList_some, Option.toList_none, List.cons_append, List.nil_append, mSetI_u, mSetL_u, Nat.add_one_ne_zero, Nat.add_eq_zero_iff, and_false, false_and, not_false_eq_true, ne_eq, j0_0, j0_1, j1_0, j1_1, if_true, if_false, ite_true, ite_false, true_and, and_true, or_true, true_or, false_or, or_false, ↓reduceIte, Nat.reduceEqDiff, Nat.reduceAdd, Nat.reduceMul, Nat.reduceSub, Int.reduceLE, Int.reduceLT, Int.reduceNeg, Int.reduceAdd, Int.reduceSub, Int.reduceEq, reduceCtorEq, jI_lt, jI_eq, jI_lt0, jI_0lt, jI_eq0, jI_0le, jn_lo, iU_row, iU_nr, iU_eq, iU_same, jI_ixn, jI_add, jI_sub, jI_nat, sh_20, f_20_0 hF, r1, r2, show ((i : Nat) : Int) ≤ 2147483647 by omega, show (i : Nat) ≤ 2147483647 by omega, show ((m : Nat) : Int) ≤ 2147483647 by omega, show (m : Nat) ≤ 2147483647 by omega, show ((a.2.1 : Nat) : Int) ≤ 2147483647 by omega, show (a.2.1 : Nat) ≤ 2147483647 by omega, show ((len : Nat) : Int) ≤ 2147483647 by omega, show (len : Nat) ≤ 2147483647 by omega, show (i : Int) < (m : Int) by omega, show ¬ ((a.2.1 : Int) < (len : Int)) by omega]
      exact hp'
theorem c21_v (hF : mFx F st nx gf rl dr) (hlr : l = 70 ∨ l = 75) (hl : len ≤ 120) (hb : ∀ j, j < len → 0 ≤ b j ∧ b j ≤ 255) {X : Nat → lRes} {D h : Nat} {lv o : Int} (hlv : 0 ≤ lv ∧ lv ≤ 4) (hX : cS21 b len l e E F X D (lv + 1) o) (hG : lGd len h X) : cS21 b len l e E F (lLv b len lv X) (D + 1) lv o := by
  intro Q pos sz I P zl zo hQ hp hs hr hsz hzl hzo hP
  obtain ⟨q, rfl⟩ : ∃ q, Q = q + 1 := ⟨Q - 1, by omega⟩
  subst hzl hzo
  have hl0 : ¬ l = 0 := by omega
  rw [g21_in]
  simp only [g21_0, g21_1, g21_2, g21_5, g21_6, g21_7, g21_8, g21_11, g21_12, g21_13, g21_14, g21_15, g21_16, g21_17, g21_18, nl_none, nl_int, nl_ref, Option.toList_some, Option.toList_none, List.cons_append, List.nil_append, mSetI_u, mSetL_u, Nat.add_one_ne_zero, Nat.add_eq_zero_iff, and_false, false_and, not_false_eq_true, ne_eq, j0_0, j0_1, j1_0, j1_1, if_true, if_false, ite_true, ite_false, true_and, and_true, or_true, true_or, false_or, or_false, ↓reduceIte, Nat.reduceEqDiff, Nat.reduceAdd, Nat.reduceMul, Nat.reduceSub, Int.reduceLE, Int.reduceLT, Int.reduceNeg, Int.reduceAdd, Int.reduceSub, Int.reduceEq, reduceCtorEq, jI_lt, jI_eq, jI_lt0, jI_0lt, jI_eq0, jI_0le, jn_lo, iU_row, iU_nr, iU_eq, iU_same, jI_ixn, jI_add, jI_sub, jI_nat, sh_20, hl0, show -2147483648 ≤ (lv : Int) by omega, show (lv : Int) ≤ 2147483647 by omega, show lv < 5 by omega]
  refine hX q pos sz I _ _ _ (by omega) hp hs hr hsz rfl rfl (fun I1 h1 => ?_)
  have hg := hG pos hp
  unfold lLv at hP
  by_cases qx : (X pos).1 = true
  · rw [if_pos qx] at hP
    rw [cBo, if_pos qx]
    have hg' : lGr len (h + 1) pos (X pos) := ⟨hg.1, hg.2.1, fun w => ⟨(hg.2.2 w).1, (hg.2.2 w).2.1, lCm_up (hg.2.2 w).2.2 (by omega)⟩⟩
    by_cases q2 : lv = 2
    · subst q2
      have hm : lMost 2 = 1 := rfl
      rw [hm] at hP
      simp only [g21_21, g21_24, g21_25, g21_26, g21_27, g21_28, g21_31, g21_32, g21_35, g21_37, g21_39, g21_40, nl_none, nl_int, nl_ref, Option.toList_some, Option.toList_none, List.cons_append, List.nil_append, mSetI_u, mSetL_u, Nat.add_one_ne_zero, Nat.add_eq_zero_iff, and_false, false_and, not_false_eq_true, ne_eq, j0_0, j0_1, j1_0, j1_1, if_true, if_false, ite_true, ite_false, true_and, and_true, or_true, true_or, false_or, or_false, ↓reduceIte, Nat.reduceEqDiff, Nat.reduceAdd, Nat.reduceMul, Nat.reduceSub, Int.reduceLE, Int.reduceLT, Int.reduceNeg, Int.reduceAdd, Int.reduceSub, Int.reduceEq, reduceCtorEq, jI_lt, jI_eq, jI_lt0, jI_0lt, jI_eq0, jI_0le, jn_lo, iU_row, iU_nr, iU_eq, iU_same, jI_ixn, jI_add, jI_sub, jI_nat, eq_self]
      exact c21_g (m := 1) hF hlr hl hb hlv (show D ≤ q by omega) hX hG hs hr (show (1 : Nat) ≤ 120 by omega) 1 0 0 (X pos) I1 none (show (0 : Nat) + 1 = 1 from rfl) rfl qx hg' h1 (cPo_rd hlr h1 hr) hP
    · have hm : lMost lv = 120 := if_neg q2
      rw [hm] at hP
      simp only [g21_21, g21_24, g21_25, g21_26, g21_27, g21_28, g21_31, g21_32, g21_35, g21_37, g21_39, g21_40, nl_none, nl_int, nl_ref, Option.toList_some, Option.toList_none, List.cons_append, List.nil_append, mSetI_u, mSetL_u, Nat.add_one_ne_zero, Nat.add_eq_zero_iff, and_false, false_and, not_false_eq_true, ne_eq, j0_0, j0_1, j1_0, j1_1, if_true, if_false, ite_true, ite_false, true_and, and_true, or_true, true_or, false_or, or_false, ↓reduceIte, Nat.reduceEqDiff, Nat.reduceAdd, Nat.reduceMul, Nat.reduceSub, Int.reduceLE, Int.reduceLT, Int.reduceNeg, Int.reduceAdd, Int.reduceSub, Int.reduceEq, reduceCtorEq, jI_lt, jI_eq, jI_lt0, jI_0lt, jI_eq0, jI_0le, jn_lo, iU_row, iU_nr, iU_eq, iU_same, jI_ixn, jI_add, jI_sub, jI_nat, show -2147483648 ≤ (lv : Int) by omega, show (lv : Int) ≤ 2147483647 by omega, q2]
      exact c21_g (m := 120) hF hlr hl hb hlv (show D ≤ q by omega) hX hG hs hr (show (120 : Nat) ≤ 120 by omega) 120 0 0 (X pos) I1 none (show (0 : Nat) + 120 = 120 from rfl) rfl qx hg' h1 (cPo_rd hlr h1 hr) hP
  · rw [if_neg qx] at hP
    rw [cBo, if_neg qx]
    have hp' := hP I1 (cPo_fail h1.1 h1.2.1)
    simp only [g21_21, g21_24, g21_25, nl_none, nl_int, nl_ref, Option.toList_some, Option.toList_none, List.cons_append, List.nil_append, mSetI_u, mSetL_u, Nat.add_one_ne_zero, Nat.add_eq_zero_iff, and_false, false_and, not_false_eq_true, ne_eq, j0_0, j0_1, j1_0, j1_1, if_true, if_false, ite_true, ite_false, true_and, and_true, or_true, true_or, false_or, or_false, ↓reduceIte, Nat.reduceEqDiff, Nat.reduceAdd, Nat.reduceMul, Nat.reduceSub, Int.reduceLE, Int.reduceLT, Int.reduceNeg, Int.reduceAdd, Int.reduceSub, Int.reduceEq, reduceCtorEq, jI_lt, jI_eq, jI_lt0, jI_0lt, jI_eq0, jI_0le, jn_lo, iU_row, iU_nr, iU_eq, iU_same, jI_ixn, jI_add, jI_sub, jI_nat]
    exact hp'
theorem c21_5 {X : Nat → lRes} {D : Nat} {o : Int} (hlr : l = 70 ∨ l = 75) (hX : cS23 b len l e E F X D o) : cS21 b len l e E F X (D + 1) 5 o := by
  intro Q pos sz I P zl zo hQ hp hs hr hsz hzl hzo hP
  obtain ⟨q, rfl⟩ : ∃ q, Q = q + 1 := ⟨Q - 1, by omega⟩
  subst hzl hzo
  have hl0 : ¬ l = 0 := by omega
  rw [g21_in]
  simp only [g21_0, g21_1, g21_2, g21_5, g21_6, g21_7, g21_8, nl_none, nl_int, nl_ref, Option.toList_some, Option.toList_none, List.cons_append, List.nil_append, mSetI_u, mSetL_u, Nat.add_one_ne_zero, Nat.add_eq_zero_iff, and_false, false_and, not_false_eq_true, ne_eq, j0_0, j0_1, j1_0, j1_1, if_true, if_false, ite_true, ite_false, true_and, and_true, or_true, true_or, false_or, or_false, ↓reduceIte, Nat.reduceEqDiff, Nat.reduceAdd, Nat.reduceMul, Nat.reduceSub, Int.reduceLE, Int.reduceLT, Int.reduceNeg, Int.reduceAdd, Int.reduceSub, Int.reduceEq, reduceCtorEq, jI_lt, jI_eq, jI_lt0, jI_0lt, jI_eq0, jI_0le, jn_lo, iU_row, iU_nr, iU_eq, iU_same, jI_ixn, jI_add, jI_sub, jI_nat, sh_20, hl0, Int.lt_irrefl]
  refine hX q pos sz I _ _ (by omega) hp hs hr hsz rfl (fun I1 h1 => ?_)
  have hp' := hP I1 h1
  simp only [g21_11, nl_none, nl_int, nl_ref, Option.toList_some, Option.toList_none, List.cons_append, List.nil_append, mSetI_u, mSetL_u, Nat.add_one_ne_zero, Nat.add_eq_zero_iff, and_false, false_and, not_false_eq_true, ne_eq, j0_0, j0_1, j1_0, j1_1, if_true, if_false, ite_true, ite_false, true_and, and_true, or_true, true_or, false_or, or_false, ↓reduceIte, Nat.reduceEqDiff, Nat.reduceAdd, Nat.reduceMul, Nat.reduceSub, Int.reduceLE, Int.reduceLT, Int.reduceNeg, Int.reduceAdd, Int.reduceSub, Int.reduceEq, reduceCtorEq, jI_lt, jI_eq, jI_lt0, jI_0lt, jI_eq0, jI_0le, jn_lo, iU_row, iU_nr, iU_eq, iU_same, jI_ixn, jI_add, jI_sub, jI_nat, cBo_01]
  exact hp'
theorem c21_E (hF : mFx F st nx gf rl dr) (hlr : l = 70 ∨ l = 75) (hl : len ≤ 120) (hb : ∀ j, j < len → 0 ≤ b j ∧ b j ≤ 255) {X : Nat → lRes} {D h : Nat} {o : Int} (hX : cS23 b len l e E F X D o) (hG : lGd len h X) : cS21 b len l e E F (lE b len X) (D + 6) 0 o := by
  have h5 := c21_5 hlr hX
  have h4 := c21_v hF hlr hl hb (lv := 4) (by omega) h5 hG
  have g4 : lGd len (h + 1) (lLv b len 4 X) := lLv_ok (by omega) hG
  have h3 := c21_v hF hlr hl hb (lv := 3) (by omega) h4 g4
  have g3 : lGd len (h + 2) (lLv b len 3 (lLv b len 4 X)) := lLv_ok (by omega) g4
  have h2 := c21_v hF hlr hl hb (lv := 2) (by omega) h3 g3
  have g2 : lGd len (h + 3) (lLv b len 2 (lLv b len 3 (lLv b len 4 X))) := lLv_ok (by omega) g3
  have h1 := c21_v hF hlr hl hb (lv := 1) (by omega) h2 g2
  have g1 : lGd len (h + 4) (lLv b len 1 (lLv b len 2 (lLv b len 3 (lLv b len 4 X)))) := lLv_ok (by omega) g2
  exact c21_v hF hlr hl hb (lv := 0) (by omega) h1 g1
/-! an operand -/
theorem lOpn_iff {z : Int} : lOpn z = true ↔ z = 40 ∨ z = 33 ∨ z = 45 := by
  unfold lOpn
  exact decide_eq_true_iff
theorem c23_b (hF : mFx F st nx gf rl dr) (hlr : l = 70 ∨ l = 75) (hl : len ≤ 120) (hb : ∀ j, j < len → 0 ≤ b j ∧ b j ≤ 255) (hp : pos < len) (hs : sz ≤ pos) (hr : cRd b len I pos) (hsz : I l 2 = jI sz) (ho : ¬ lOpn (b pos) = true) {zo : Int32} (hP : ∀ I', cPo l sz I (lBase b len pos) I' → P (some (.int (cBo (lBase b len pos).1))) (mLay e) (I', E, F)) : mF (d + 2) 23 [.ref 20, .ref l, .int zo] (mLay e) (I, E, F) P := by
  have hL := vLo_rl (e := e) hF hlr
  have hl0 : ¬ l = 0 := by omega
  have hr' := hr
  obtain ⟨r1, r2, r3⟩ := hr
  have hbp := hb pos hp
  have hn : ¬ b pos = 40 ∧ ¬ b pos = 33 ∧ ¬ b pos = 45 := ⟨fun w => ho (lOpn_iff.2 (.inl w)), fun w => ho (lOpn_iff.2 (.inr (.inl w))), fun w => ho (lOpn_iff.2 (.inr (.inr w)))⟩
  unfold lBase at hP
  by_cases q : lDig (b pos) = true
  · rw [if_pos q] at hP
    have hpo : cPo l sz I (true, (lNum b len 4 pos 0).1, ([] : lCode), fun _ => 0) (iU I 20 2 (jI (lNum b len 4 pos 0).1)) := cPo_0 (vAg_iU vAg_rfl (.inl ⟨rfl, rfl⟩)) iU_eq (by rw [iU_row (by omega)]; exact hsz) (by rw [iU_row (by omega)]) (by rw [iU_row (by omega)])
    have hpa := cPo_add (a := 0) (z := (lNum b len 4 pos 0).2) (p' := (lNum b len 4 pos 0).1) (v := fun _ => jI (lNum b len 4 pos 0).2) hlr rfl hpo iU_eq
    have hp' := hP _ hpa
    have hsz' : iU I 20 2 (jI (lNum b len 4 pos 0).1) l 2 = jI sz := by
      rw [iU_row (by omega)]
      exact hsz
    simp only [g23_in, g23_0, g23_1, g23_4, g23_5, g23_8, g23_11, g23_12, g23_13, g23_14, g23_17, g23_18, g23_21, g23_22, g23_23, g23_24, g23_26, g23_29, g23_30, g23_32, g23_35, g23_36, g23_38, g23_41, g23_42, g23_44, g23_47, g23_48, g23_49, g23_50, g23_51, g23_52, g23_53, g23_56, g23_59, g23_60, g23_63, g23_64, g23_65, g23_66, g23_69, g23_72, g23_73, g23_74, g23_75, nl_none, nl_int, nl_ref, Option.toList_some, Option.toList_none, List.cons_append, List.nil_append, mSetI_u, mSetL_u, Nat.add_one_ne_zero, Nat.add_eq_zero_iff, and_false, false_and, not_false_eq_true, ne_eq, j0_0, j0_1, j1_0, j1_1, if_true, if_false, ite_true, ite_false, true_and, and_true, or_true, true_or, false_or, or_false, ↓reduceIte, Nat.reduceEqDiff, Nat.reduceAdd, Nat.reduceMul, Nat.reduceSub, Int.reduceLE, Int.reduceLT, Int.reduceNeg, Int.reduceAdd, Int.reduceSub, Int.reduceEq, reduceCtorEq, jI_lt, jI_eq, jI_lt0, jI_0lt, jI_eq0, jI_0le, jn_lo, iU_row, iU_nr, iU_eq, iU_same, jI_ixn, jI_add, jI_sub, jI_nat, sh_20, sh_21, f_20_0 hF, hl0, r1, r2, r3 pos hp, show ((pos : Nat) : Int) ≤ 2147483647 by omega, show (pos : Nat) ≤ 2147483647 by omega, show ((len : Nat) : Int) ≤ 2147483647 by omega, show (len : Nat) ≤ 2147483647 by omega, show -2147483648 ≤ (b pos : Int) by omega, show (b pos : Int) ≤ 2147483647 by omega, show (pos : Int) < (len : Int) by omega, jI_in (z := ((pos : Int) : Int)) (n := 120) (by omega) (by omega) (by omega), hn.1, hn.2.1, hn.2.2, c25 hbp.1 hbp.2, q]
    refine c26 hF hl hb hr' (by omega) ?_
    simp only [g23_78, g23_81, g23_82, g23_83, nl_none, nl_int, nl_ref, Option.toList_some, Option.toList_none, List.cons_append, List.nil_append, mSetI_u, mSetL_u, Nat.add_one_ne_zero, Nat.add_eq_zero_iff, and_false, false_and, not_false_eq_true, ne_eq, j0_0, j0_1, j1_0, j1_1, if_true, if_false, ite_true, ite_false, true_and, and_true, or_true, true_or, false_or, or_false, ↓reduceIte, Nat.reduceEqDiff, Nat.reduceAdd, Nat.reduceMul, Nat.reduceSub, Int.reduceLE, Int.reduceLT, Int.reduceNeg, Int.reduceAdd, Int.reduceSub, Int.reduceEq, reduceCtorEq, jI_lt, jI_eq, jI_lt0, jI_0lt, jI_eq0, jI_0le, jn_lo, iU_row, iU_nr, iU_eq, iU_same, jI_ixn, jI_add, jI_sub, jI_nat, hl0, hL.2.1, c6 hL hsz' (show sz < 128 by omega)]
    exact hp'
  · rw [if_neg q] at hP
    have hni := lName_in (b pos)
    by_cases q2 : 0 ≤ lName (b pos)
    · rw [if_pos q2] at hP
      have hpo : cPo l sz I (true, pos, ([] : lCode), fun _ => 0) I := cPo_0 vAg_rfl r2 hsz rfl rfl
      have hpa := cPo_add (a := 1) (z := lName (b pos)) (p' := pos) (v := fun e => e (lName (b pos)).toNat) hlr rfl hpo r2
      have hpb : cPo l sz I (true, pos + 1, [(1, lName (b pos))], fun e => e (lName (b pos)).toNat) (iU (iU (iU (iU I (l + 1) sz (jI 1)) (l + 2) sz (jI (lName (b pos)))) l 2 (jI ((sz : Int) + 1))) 20 2 (jI ((pos : Int) + 1))) := by
        obtain ⟨g1, g2, g3⟩ := hpa
        obtain ⟨g4, g5, g6⟩ := g3 rfl
        refine ⟨vAg_iU g1 (.inl ⟨rfl, rfl⟩), iU_eq, fun _ => ⟨?_, ?_, fun j hj => ?_⟩⟩
        · rw [iU_row (show ¬ l = 20 by omega)]
          exact g4
        · rw [iU_row (show ¬ l + 1 = 20 by omega), iU_row (show ¬ l + 2 = 20 by omega)]
          exact g5
        · rw [iU_row (show ¬ l + 1 = 20 by omega), iU_row (show ¬ l + 2 = 20 by omega)]
          exact g6 j hj
      have hp' := hP _ hpb
      have h20 : iU (iU (iU I (l + 1) sz (jI 1)) (l + 2) sz (jI (lName (b pos)))) l 2 (jI ((sz : Int) + 1)) 20 2 = jI pos := by
        rw [iU_row (show ¬ 20 = l by omega), iU_row (show ¬ 20 = l + 2 by omega), iU_row (show ¬ 20 = l + 1 by omega)]
        exact r2
      simp only [g23_in, g23_0, g23_1, g23_4, g23_5, g23_8, g23_11, g23_12, g23_13, g23_14, g23_17, g23_18, g23_21, g23_22, g23_23, g23_24, g23_26, g23_29, g23_30, g23_32, g23_35, g23_36, g23_38, g23_41, g23_42, g23_44, g23_47, g23_48, g23_49, g23_50, g23_51, g23_52, g23_53, g23_56, g23_59, g23_60, g23_63, g23_64, g23_65, g23_66, g23_69, g23_72, g23_73, g23_74, g23_75, g23_78, g23_81, g23_82, g23_83, g23_84, g23_85, g23_88, g23_90, g23_92, g23_95, g23_96, g23_97, g23_98, g23_99, g23_101, g23_104, g23_105, g23_106, g23_107, g23_110, g23_111, g23_112, g23_115, g23_116, nl_none, nl_int, nl_ref, Option.toList_some, Option.toList_none, List.cons_append, List.nil_append, mSetI_u, mSetL_u, Nat.add_one_ne_zero, Nat.add_eq_zero_iff, and_false, false_and, not_false_eq_true, ne_eq, j0_0, j0_1, j1_0, j1_1, if_true, if_false, ite_true, ite_false, true_and, and_true, or_true, true_or, false_or, or_false, ↓reduceIte, Nat.reduceEqDiff, Nat.reduceAdd, Nat.reduceMul, Nat.reduceSub, Int.reduceLE, Int.reduceLT, Int.reduceNeg, Int.reduceAdd, Int.reduceSub, Int.reduceEq, reduceCtorEq, jI_lt, jI_eq, jI_lt0, jI_0lt, jI_eq0, jI_0le, jn_lo, iU_row, iU_nr, iU_eq, iU_same, jI_ixn, jI_add, jI_sub, jI_nat, sh_20, sh_21, f_20_0 hF, hl0, r1, r2, r3 pos hp, show ((pos : Nat) : Int) ≤ 2147483647 by omega, show (pos : Nat) ≤ 2147483647 by omega, show ((len : Nat) : Int) ≤ 2147483647 by omega, show (len : Nat) ≤ 2147483647 by omega, show -2147483648 ≤ (b pos : Int) by omega, show (b pos : Int) ≤ 2147483647 by omega, show -2147483648 ≤ (lName (b pos) : Int) by omega, show (lName (b pos) : Int) ≤ 2147483647 by omega, show (pos : Int) < (len : Int) by omega, show ¬ (lName (b pos) < 0) by omega, jI_in (z := ((pos : Int) : Int)) (n := 120) (by omega) (by omega) (by omega), hn.1, hn.2.1, hn.2.2, c25 hbp.1 hbp.2, q, c27 hbp.1 hbp.2, hL.2.1, c6 hL hsz (show sz < 128 by omega), h20]
      exact hp'
    · rw [if_neg q2] at hP
      have hp' := hP I (cPo_fail vAg_rfl r2)
      simp only [g23_in, g23_0, g23_1, g23_4, g23_5, g23_8, g23_11, g23_12, g23_13, g23_14, g23_17, g23_18, g23_21, g23_22, g23_23, g23_24, g23_26, g23_29, g23_30, g23_32, g23_35, g23_36, g23_38, g23_41, g23_42, g23_44, g23_47, g23_48, g23_49, g23_50, g23_51, g23_52, g23_53, g23_56, g23_59, g23_60, g23_63, g23_64, g23_65, g23_66, g23_69, g23_72, g23_73, g23_74, g23_75, g23_78, g23_81, g23_82, g23_83, g23_84, g23_85, g23_88, g23_90, g23_92, g23_95, g23_96, nl_none, nl_int, nl_ref, Option.toList_some, Option.toList_none, List.cons_append, List.nil_append, mSetI_u, mSetL_u, Nat.add_one_ne_zero, Nat.add_eq_zero_iff, and_false, false_and, not_false_eq_true, ne_eq, j0_0, j0_1, j1_0, j1_1, if_true, if_false, ite_true, ite_false, true_and, and_true, or_true, true_or, false_or, or_false, ↓reduceIte, Nat.reduceEqDiff, Nat.reduceAdd, Nat.reduceMul, Nat.reduceSub, Int.reduceLE, Int.reduceLT, Int.reduceNeg, Int.reduceAdd, Int.reduceSub, Int.reduceEq, reduceCtorEq, jI_lt, jI_eq, jI_lt0, jI_0lt, jI_eq0, jI_0le, jn_lo, iU_row, iU_nr, iU_eq, iU_same, jI_ixn, jI_add, jI_sub, jI_nat, sh_20, sh_21, f_20_0 hF, hl0, r1, r2, r3 pos hp, show ((pos : Nat) : Int) ≤ 2147483647 by omega, show (pos : Nat) ≤ 2147483647 by omega, show ((len : Nat) : Int) ≤ 2147483647 by omega, show (len : Nat) ≤ 2147483647 by omega, show -2147483648 ≤ (b pos : Int) by omega, show (b pos : Int) ≤ 2147483647 by omega, show -2147483648 ≤ (lName (b pos) : Int) by omega, show (lName (b pos) : Int) ≤ 2147483647 by omega, show (pos : Int) < (len : Int) by omega, show lName (b pos) < 0 by omega, jI_in (z := ((pos : Int) : Int)) (n := 120) (by omega) (by omega) (by omega), hn.1, hn.2.1, hn.2.2, c25 hbp.1 hbp.2, q, c27 hbp.1 hbp.2]
      exact hp'
theorem c23_e (hF : mFx F st nx gf rl dr) (hp : ¬ pos < len) (hl : len ≤ 120) (hpl : pos ≤ len) (hr : cRd b len I pos) {zo : Int32} (hP : ∀ I', cPo l sz I (lFail pos) I' → P (some (.int (cBo false))) (mLay e) (I', E, F)) : mF d 23 [.ref 20, .ref l, .int zo] (mLay e) (I, E, F) P := by
  obtain ⟨r1, r2, r3⟩ := hr
  have hp' := hP I (cPo_fail vAg_rfl r2)
  simp only [g23_in, g23_0, g23_1, g23_4, g23_5, g23_8, g23_11, g23_12, nl_none, nl_int, nl_ref, Option.toList_some, Option.toList_none, List.cons_append, List.nil_append, mSetI_u, mSetL_u, Nat.add_one_ne_zero, Nat.add_eq_zero_iff, and_false, false_and, not_false_eq_true, ne_eq, j0_0, j0_1, j1_0, j1_1, if_true, if_false, ite_true, ite_false, true_and, and_true, or_true, true_or, false_or, or_false, ↓reduceIte, Nat.reduceEqDiff, Nat.reduceAdd, Nat.reduceMul, Nat.reduceSub, Int.reduceLE, Int.reduceLT, Int.reduceNeg, Int.reduceAdd, Int.reduceSub, Int.reduceEq, reduceCtorEq, jI_lt, jI_eq, jI_lt0, jI_0lt, jI_eq0, jI_0le, jn_lo, iU_row, iU_nr, iU_eq, iU_same, jI_ixn, jI_add, jI_sub, jI_nat, sh_20, r1, r2, show ((pos : Nat) : Int) ≤ 2147483647 by omega, show (pos : Nat) ≤ 2147483647 by omega, show ((len : Nat) : Int) ≤ 2147483647 by omega, show (len : Nat) ≤ 2147483647 by omega, show ¬ ((pos : Int) < (len : Int)) by omega]
  exact hp'
theorem c23_k (hF : mFx F st nx gf rl dr) (hlr : l = 70 ∨ l = 75) (hl : len ≤ 120) (hb : ∀ j, j < len → 0 ≤ b j ∧ b j ≤ 255) : ∀ r, r ≤ 6 → cS23 b len l e E F (lOp b len r) (2 + 8 * r) (6 - r)
  | 0, hr6 => by
    intro Q pos sz I P zo hQ hp hs hr hsz hzo hP
    obtain ⟨q, rfl⟩ : ∃ q, Q = q + 2 := ⟨Q - 2, by omega⟩
    subst hzo
    by_cases h : pos < len
    · by_cases ho : lOpn (b pos) = true
      · have e1 : lOp b len 0 pos = lFail pos := by rw [lOp, if_pos h, if_pos ho]
        rw [e1] at hP
        have hr' := hr
        obtain ⟨r1, r2, r3⟩ := hr
        have hbp := hb pos h
        have hp' := hP I (cPo_fail vAg_rfl r2)
        rcases lOpn_iff.1 ho with w | w | w
        · simp only [g23_in, g23_0, g23_1, g23_4, g23_5, g23_8, g23_11, g23_12, g23_13, g23_14, g23_17, g23_18, g23_21, g23_22, g23_23, g23_24, g23_26, g23_29, g23_30, g23_32, g23_35, g23_36, g23_38, g23_41, g23_42, g23_44, g23_63, g23_64, nl_none, nl_int, nl_ref, Option.toList_some, Option.toList_none, List.cons_append, List.nil_append, mSetI_u, mSetL_u, Nat.add_one_ne_zero, Nat.add_eq_zero_iff, and_false, false_and, not_false_eq_true, ne_eq, j0_0, j0_1, j1_0, j1_1, if_true, if_false, ite_true, ite_false, true_and, and_true, or_true, true_or, false_or, or_false, ↓reduceIte, Nat.reduceEqDiff, Nat.reduceAdd, Nat.reduceMul, Nat.reduceSub, Int.reduceLE, Int.reduceLT, Int.reduceNeg, Int.reduceAdd, Int.reduceSub, Int.reduceEq, reduceCtorEq, jI_lt, jI_eq, jI_lt0, jI_0lt, jI_eq0, jI_0le, jn_lo, iU_row, iU_nr, iU_eq, iU_same, jI_ixn, jI_add, jI_sub, jI_nat, sh_20, sh_21, f_20_0 hF, r1, r2, r3 pos h, show ((pos : Nat) : Int) ≤ 2147483647 by omega, show (pos : Nat) ≤ 2147483647 by omega, show ((len : Nat) : Int) ≤ 2147483647 by omega, show (len : Nat) ≤ 2147483647 by omega, show (pos : Int) < (len : Int) by omega, jI_in (z := ((pos : Int) : Int)) (n := 120) (by omega) (by omega) (by omega), w, show (6 : Int) - ((0 : Nat) : Int) = 6 from rfl, Int.lt_irrefl]
          exact hp'
        · simp only [g23_in, g23_0, g23_1, g23_4, g23_5, g23_8, g23_11, g23_12, g23_13, g23_14, g23_17, g23_18, g23_21, g23_22, g23_23, g23_24, g23_26, g23_29, g23_30, g23_32, g23_35, g23_36, g23_38, g23_41, g23_42, g23_44, g23_63, g23_64, nl_none, nl_int, nl_ref, Option.toList_some, Option.toList_none, List.cons_append, List.nil_append, mSetI_u, mSetL_u, Nat.add_one_ne_zero, Nat.add_eq_zero_iff, and_false, false_and, not_false_eq_true, ne_eq, j0_0, j0_1, j1_0, j1_1, if_true, if_false, ite_true, ite_false, true_and, and_true, or_true, true_or, false_or, or_false, ↓reduceIte, Nat.reduceEqDiff, Nat.reduceAdd, Nat.reduceMul, Nat.reduceSub, Int.reduceLE, Int.reduceLT, Int.reduceNeg, Int.reduceAdd, Int.reduceSub, Int.reduceEq, reduceCtorEq, jI_lt, jI_eq, jI_lt0, jI_0lt, jI_eq0, jI_0le, jn_lo, iU_row, iU_nr, iU_eq, iU_same, jI_ixn, jI_add, jI_sub, jI_nat, sh_20, sh_21, f_20_0 hF, r1, r2, r3 pos h, show ((pos : Nat) : Int) ≤ 2147483647 by omega, show (pos : Nat) ≤ 2147483647 by omega, show ((len : Nat) : Int) ≤ 2147483647 by omega, show (len : Nat) ≤ 2147483647 by omega, show (pos : Int) < (len : Int) by omega, jI_in (z := ((pos : Int) : Int)) (n := 120) (by omega) (by omega) (by omega), w, show (6 : Int) - ((0 : Nat) : Int) = 6 from rfl, Int.lt_irrefl]
          exact hp'
        · simp only [g23_in, g23_0, g23_1, g23_4, g23_5, g23_8, g23_11, g23_12, g23_13, g23_14, g23_17, g23_18, g23_21, g23_22, g23_23, g23_24, g23_26, g23_29, g23_30, g23_32, g23_35, g23_36, g23_38, g23_41, g23_42, g23_44, g23_63, g23_64, nl_none, nl_int, nl_ref, Option.toList_some, Option.toList_none, List.cons_append, List.nil_append, mSetI_u, mSetL_u, Nat.add_one_ne_zero, Nat.add_eq_zero_iff, and_false, false_and, not_false_eq_true, ne_eq, j0_0, j0_1, j1_0, j1_1, if_true, if_false, ite_true, ite_false, true_and, and_true, or_true, true_or, false_or, or_false, ↓reduceIte, Nat.reduceEqDiff, Nat.reduceAdd, Nat.reduceMul, Nat.reduceSub, Int.reduceLE, Int.reduceLT, Int.reduceNeg, Int.reduceAdd, Int.reduceSub, Int.reduceEq, reduceCtorEq, jI_lt, jI_eq, jI_lt0, jI_0lt, jI_eq0, jI_0le, jn_lo, iU_row, iU_nr, iU_eq, iU_same, jI_ixn, jI_add, jI_sub, jI_nat, sh_20, sh_21, f_20_0 hF, r1, r2, r3 pos h, show ((pos : Nat) : Int) ≤ 2147483647 by omega, show (pos : Nat) ≤ 2147483647 by omega, show ((len : Nat) : Int) ≤ 2147483647 by omega, show (len : Nat) ≤ 2147483647 by omega, show (pos : Int) < (len : Int) by omega, jI_in (z := ((pos : Int) : Int)) (n := 120) (by omega) (by omega) (by omega), w, show (6 : Int) - ((0 : Nat) : Int) = 6 from rfl, Int.lt_irrefl]
          exact hp'
      · have e1 : lOp b len 0 pos = lBase b len pos := by rw [lOp, if_pos h, if_neg ho]
        rw [e1] at hP
        exact c23_b hF hlr hl hb h hs hr hsz ho hP
    · have e1 : lOp b len 0 pos = lFail pos := by rw [lOp, if_neg h]
      rw [e1] at hP
      exact c23_e hF h hl hp hr hP
  | r + 1, hr6 => by
    intro Q pos sz I P zo hQ hp hs hr hsz hzo hP
    obtain ⟨q, rfl⟩ : ∃ q, Q = q + 2 := ⟨Q - 2, by omega⟩
    subst hzo
    have ih := c23_k hF hlr hl hb r (by omega)
    have hE := c21_E hF hlr hl hb ih (lOp_ok r)
    have hL := vLo_rl (e := e) hF hlr
    have hl0 : ¬ l = 0 := by omega
    have eo : (6 : Int) - ((r + 1 : Nat) : Int) + 1 = 6 - (r : Int) := by omega
    by_cases h : pos < len
    · by_cases ho : lOpn (b pos) = true
      · have hr' := hr
        obtain ⟨r1, r2, r3⟩ := hr
        have hbp := hb pos h
        have hat : cRd b len (iU I 20 2 (jI ((pos : Int) + 1))) (pos + 1) := cRd_at hr' rfl
        have hsz' : iU I 20 2 (jI ((pos : Int) + 1)) l 2 = jI sz := by
          rw [iU_row (by omega)]
          exact hsz
        have ha1 : vAg (vScL l) I (iU I 20 2 (jI ((pos : Int) + 1))) := vAg_iU vAg_rfl (.inl ⟨rfl, rfl⟩)
        have trs : ∀ {q' : lRes} {I'}, cPo l sz (iU I 20 2 (jI ((pos : Int) + 1))) q' I' → cPo l sz I q' I' := fun {q' I'} w => ⟨vAg_tr ha1 w.1, w.2.1, fun z => ⟨(w.2.2 z).1, (w.2.2 z).2.1, fun j hj => by
          have := (w.2.2 z).2.2 j hj
          rw [iU_row (show ¬ l + 1 = 20 by omega), iU_row (show ¬ l + 2 = 20 by omega)] at this
          exact this⟩⟩
        by_cases q40 : b pos = 40
        · have e1 : lOp b len (r + 1) pos = lPar b len (lE b len (lOp b len r) (pos + 1)) := by rw [lOp, if_pos h, if_pos ho, if_pos q40]
          rw [e1] at hP
          have hx := lE_ok (b := b) (lOp_ok (b := b) (len := len) r) (pos + 1) (by omega)
          simp only [g23_in, g23_0, g23_1, g23_4, g23_5, g23_8, g23_11, g23_12, g23_13, g23_14, g23_17, g23_18, g23_21, g23_22, g23_23, g23_24, g23_26, g23_29, g23_30, g23_32, g23_35, g23_36, g23_38, g23_41, g23_42, g23_44, g23_47, g23_48, g23_49, g23_50, g23_51, g23_52, g23_53, g24_in, g24_0, g24_1, g24_2, g24_5, g24_6, g24_7, g24_10, g24_11, g24_13, g24_16, g24_17, g24_18, g24_19, g24_20, nl_none, nl_int, nl_ref, Option.toList_some, Option.toList_none, List.cons_append, List.nil_append, mSetI_u, mSetL_u, Nat.add_one_ne_zero, Nat.add_eq_zero_iff, and_false, false_and, not_false_eq_true, ne_eq, j0_0, j0_1, j1_0, j1_1, if_true, if_false, ite_true, ite_false, true_and, and_true, or_true, true_or, false_or, or_false, ↓reduceIte, Nat.reduceEqDiff, Nat.reduceAdd, Nat.reduceMul, Nat.reduceSub, Int.reduceLE, Int.reduceLT, Int.reduceNeg, Int.reduceAdd, Int.reduceSub, Int.reduceEq, reduceCtorEq, jI_lt, jI_eq, jI_lt0, jI_0lt, jI_eq0, jI_0le, jn_lo, iU_row, iU_nr, iU_eq, iU_same, jI_ixn, jI_add, jI_sub, jI_nat, sh_20, sh_21, f_20_0 hF, hl0, r1, r2, r3 pos h, show ((pos : Nat) : Int) ≤ 2147483647 by omega, show (pos : Nat) ≤ 2147483647 by omega, show ((len : Nat) : Int) ≤ 2147483647 by omega, show (len : Nat) ≤ 2147483647 by omega, show -2147483648 ≤ (6 - ((r + 1 : Nat) : Int) : Int) by omega, show (6 - ((r + 1 : Nat) : Int) : Int) ≤ 2147483647 by omega, show (pos : Int) < (len : Int) by omega, show (6 : Int) - ((r + 1 : Nat) : Int) < 6 by omega, jI_in (z := ((pos : Int) : Int)) (n := 120) (by omega) (by omega) (by omega), q40, eo, eq_self]
          refine hE q (pos + 1) sz _ _ _ _ (by omega) (by omega) (by omega) hat hsz' rfl rfl (fun I2 h2 => ?_)
          unfold lPar at hP
          by_cases qx : (lE b len (lOp b len r) (pos + 1)).1 = true
          · have hr2 := cPo_rd hlr h2 hat
            by_cases qc : (lE b len (lOp b len r) (pos + 1)).2.1 < len ∧ b (lE b len (lOp b len r) (pos + 1)).2.1 = 41
            · rw [if_pos ⟨qx, qc⟩] at hP
              have h3 := trs h2
              have hp' := hP (iU I2 20 2 (jI (((lE b len (lOp b len r) (pos + 1)).2.1 : Int) + 1))) (by
                obtain ⟨g1, g2, g3⟩ := h3
                obtain ⟨g4, g5, g6⟩ := g3 qx
                refine ⟨vAg_iU g1 (.inl ⟨rfl, rfl⟩), iU_eq, fun _ => ⟨?_, ?_, fun j hj => ?_⟩⟩
                · rw [iU_row (show ¬ l = 20 by omega)]
                  exact g4
                · rw [iU_row (show ¬ l + 1 = 20 by omega), iU_row (show ¬ l + 2 = 20 by omega)]
                  exact g5
                · rw [iU_row (show ¬ l + 1 = 20 by omega), iU_row (show ¬ l + 2 = 20 by omega)]
                  exact g6 j hj)
              rw [cBo, if_pos qx]
              simp only [g24_23, g24_26, g24_27, g24_29, g24_32, g24_35, g24_36, g24_37, g24_38, g24_39, g24_42, g24_43, g24_44, g24_47, g24_48, g23_56, g23_59, g23_60, g23_63, g23_64, nl_none, nl_int, nl_ref, Option.toList_some, Option.toList_none, List.cons_append, List.nil_append, mSetI_u, mSetL_u, Nat.add_one_ne_zero, Nat.add_eq_zero_iff, and_false, false_and, not_false_eq_true, ne_eq, j0_0, j0_1, j1_0, j1_1, if_true, if_false, ite_true, ite_false, true_and, and_true, or_true, true_or, false_or, or_false, ↓reduceIte, Nat.reduceEqDiff, Nat.reduceAdd, Nat.reduceMul, Nat.reduceSub, Int.reduceLE, Int.reduceLT, Int.reduceNeg, Int.reduceAdd, Int.reduceSub, Int.reduceEq, reduceCtorEq, jI_lt, jI_eq, jI_lt0, jI_0lt, jI_eq0, jI_0le, jn_lo, iU_row, iU_nr, iU_eq, iU_same, jI_ixn, jI_add, jI_sub, jI_nat, sh_20, c20 hF hl hr2 hx.2.1 hb (z := 41) (by omega), qc, hr2.2.1, and_self]
              exact hp'
            · rw [if_neg (fun w => qc w.2)] at hP
              have hp' := hP I2 (cPo_fail (trs h2).1 h2.2.1)
              rw [cBo, if_pos qx]
              simp only [g24_23, g24_26, g24_27, g24_29, g24_32, g24_35, g24_36, g24_37, g24_38, g24_39, g24_42, g24_43, g24_44, g24_47, g24_48, g23_56, g23_59, g23_60, g23_63, g23_64, nl_none, nl_int, nl_ref, Option.toList_some, Option.toList_none, List.cons_append, List.nil_append, mSetI_u, mSetL_u, Nat.add_one_ne_zero, Nat.add_eq_zero_iff, and_false, false_and, not_false_eq_true, ne_eq, j0_0, j0_1, j1_0, j1_1, if_true, if_false, ite_true, ite_false, true_and, and_true, or_true, true_or, false_or, or_false, ↓reduceIte, Nat.reduceEqDiff, Nat.reduceAdd, Nat.reduceMul, Nat.reduceSub, Int.reduceLE, Int.reduceLT, Int.reduceNeg, Int.reduceAdd, Int.reduceSub, Int.reduceEq, reduceCtorEq, jI_lt, jI_eq, jI_lt0, jI_0lt, jI_eq0, jI_0le, jn_lo, iU_row, iU_nr, iU_eq, iU_same, jI_ixn, jI_add, jI_sub, jI_nat, sh_20, c20 hF hl hr2 hx.2.1 hb (z := 41) (by omega), qc]
              exact hp'
          · rw [if_neg (fun w => qx w.1)] at hP
            have hp' := hP I2 (cPo_fail (trs h2).1 h2.2.1)
            rw [cBo, if_neg qx]
            simp only [g24_23, g24_26, g24_27, g24_29, g24_32, g24_35, g24_36, g23_56, g23_59, g23_60, g23_63, g23_64, nl_none, nl_int, nl_ref, Option.toList_some, Option.toList_none, List.cons_append, List.nil_append, mSetI_u, mSetL_u, Nat.add_one_ne_zero, Nat.add_eq_zero_iff, and_false, false_and, not_false_eq_true, ne_eq, j0_0, j0_1, j1_0, j1_1, if_true, if_false, ite_true, ite_false, true_and, and_true, or_true, true_or, false_or, or_false, ↓reduceIte, Nat.reduceEqDiff, Nat.reduceAdd, Nat.reduceMul, Nat.reduceSub, Int.reduceLE, Int.reduceLT, Int.reduceNeg, Int.reduceAdd, Int.reduceSub, Int.reduceEq, reduceCtorEq, jI_lt, jI_eq, jI_lt0, jI_0lt, jI_eq0, jI_0le, jn_lo, iU_row, iU_nr, iU_eq, iU_same, jI_ixn, jI_add, jI_sub, jI_nat]
            exact hp'
        · have e1 : lOp b len (r + 1) pos = lUn (b pos) (lOp b len r (pos + 1)) := by rw [lOp, if_pos h, if_pos ho, if_neg q40]
          rw [e1] at hP
          have hx := lOp_ok (b := b) (len := len) r (pos + 1) (by omega)
          have fin : ∀ Pz : mPost, (∀ I', cPo l sz I (lUn (b pos) (lOp b len r (pos + 1))) I' → Pz (some (.int (cBo (lUn (b pos) (lOp b len r (pos + 1))).1))) (mLay e) (I', E, F)) → mF (q + 1) 24 [.ref 20, .ref l, .int (jI (b pos)), .int (jI (6 - (r : Int)))] (mLay e) (I, E, F) Pz := by
            intro Pz hPz
            simp only [g24_in, g24_0, g24_1, g24_2, g24_5, g24_6, g24_7, g24_10, g24_11, g24_13, g24_49, g24_50, g24_51, g24_52, nl_none, nl_int, nl_ref, Option.toList_some, Option.toList_none, List.cons_append, List.nil_append, mSetI_u, mSetL_u, Nat.add_one_ne_zero, Nat.add_eq_zero_iff, and_false, false_and, not_false_eq_true, ne_eq, j0_0, j0_1, j1_0, j1_1, if_true, if_false, ite_true, ite_false, true_and, and_true, or_true, true_or, false_or, or_false, ↓reduceIte, Nat.reduceEqDiff, Nat.reduceAdd, Nat.reduceMul, Nat.reduceSub, Int.reduceLE, Int.reduceLT, Int.reduceNeg, Int.reduceAdd, Int.reduceSub, Int.reduceEq, reduceCtorEq, jI_lt, jI_eq, jI_lt0, jI_0lt, jI_eq0, jI_0le, jn_lo, iU_row, iU_nr, iU_eq, iU_same, jI_ixn, jI_add, jI_sub, jI_nat, sh_20, hl0, r2, show ((pos : Nat) : Int) ≤ 2147483647 by omega, show (pos : Nat) ≤ 2147483647 by omega, show -2147483648 ≤ (b pos : Int) by omega, show (b pos : Int) ≤ 2147483647 by omega, q40]
            refine ih q (pos + 1) sz _ _ _ (by omega) (by omega) (by omega) hat hsz' rfl (fun I2 h2 => ?_)
            unfold lUn at hPz
            by_cases qx : (lOp b len r (pos + 1)).1 = true
            · rw [if_pos qx] at hPz
              have h4 := hx.2.2 qx
              have h5 := hx.2.1
              have hsz2 := (h2.2.2 qx).1
              have hpa := fun v => cPo_add (a := if b pos = 45 then 4 else 5) (z := 0) (v := v) hlr qx (trs h2) h2.2.1
              have hp' := hPz _ (hpa _)
              rw [cBo, if_pos qx]
              by_cases q45 : b pos = 45
              · rw [if_pos q45] at hp'
                simp only [g24_55, g24_58, g24_59, g24_60, g24_61, g24_62, g24_64, g24_67, g24_68, g24_71, g24_72, g24_73, g24_76, g24_77, g24_78, nl_none, nl_int, nl_ref, Option.toList_some, Option.toList_none, List.cons_append, List.nil_append, mSetI_u, mSetL_u, Nat.add_one_ne_zero, Nat.add_eq_zero_iff, and_false, false_and, not_false_eq_true, ne_eq, j0_0, j0_1, j1_0, j1_1, if_true, if_false, ite_true, ite_false, true_and, and_true, or_true, true_or, false_or, or_false, ↓reduceIte, Nat.reduceEqDiff, Nat.reduceAdd, Nat.reduceMul, Nat.reduceSub, Int.reduceLE, Int.reduceLT, Int.reduceNeg, Int.reduceAdd, Int.reduceSub, Int.reduceEq, reduceCtorEq, jI_lt, jI_eq, jI_lt0, jI_0lt, jI_eq0, jI_0le, jn_lo, iU_row, iU_nr, iU_eq, iU_same, jI_ixn, jI_add, jI_sub, jI_nat, hl0, hL.2.1, q45, eq_self, c6 hL hsz2 (show sz + (lOp b len r (pos + 1)).2.2.1.length < 128 by omega)]
                exact hp'
              · rw [if_neg q45] at hp'
                simp only [g24_55, g24_58, g24_59, g24_60, g24_61, g24_62, g24_64, g24_67, g24_68, g24_71, g24_72, g24_73, g24_76, g24_77, g24_78, nl_none, nl_int, nl_ref, Option.toList_some, Option.toList_none, List.cons_append, List.nil_append, mSetI_u, mSetL_u, Nat.add_one_ne_zero, Nat.add_eq_zero_iff, and_false, false_and, not_false_eq_true, ne_eq, j0_0, j0_1, j1_0, j1_1, if_true, if_false, ite_true, ite_false, true_and, and_true, or_true, true_or, false_or, or_false, ↓reduceIte, Nat.reduceEqDiff, Nat.reduceAdd, Nat.reduceMul, Nat.reduceSub, Int.reduceLE, Int.reduceLT, Int.reduceNeg, Int.reduceAdd, Int.reduceSub, Int.reduceEq, reduceCtorEq, jI_lt, jI_eq, jI_lt0, jI_0lt, jI_eq0, jI_0le, jn_lo, iU_row, iU_nr, iU_eq, iU_same, jI_ixn, jI_add, jI_sub, jI_nat, hl0, hL.2.1, show -2147483648 ≤ (b pos : Int) by omega, show (b pos : Int) ≤ 2147483647 by omega, q45, c6 hL hsz2 (show sz + (lOp b len r (pos + 1)).2.2.1.length < 128 by omega)]
                exact hp'
            · rw [if_neg qx] at hPz
              have hp' := hPz I2 (cPo_fail (trs h2).1 h2.2.1)
              rw [cBo, if_neg qx]
              simp only [g24_55, g24_58, g24_59, nl_none, nl_int, nl_ref, Option.toList_some, Option.toList_none, List.cons_append, List.nil_append, mSetI_u, mSetL_u, Nat.add_one_ne_zero, Nat.add_eq_zero_iff, and_false, false_and, not_false_eq_true, ne_eq, j0_0, j0_1, j1_0, j1_1, if_true, if_false, ite_true, ite_false, true_and, and_true, or_true, true_or, false_or, or_false, ↓reduceIte, Nat.reduceEqDiff, Nat.reduceAdd, Nat.reduceMul, Nat.reduceSub, Int.reduceLE, Int.reduceLT, Int.reduceNeg, Int.reduceAdd, Int.reduceSub, Int.reduceEq, reduceCtorEq, jI_lt, jI_eq, jI_lt0, jI_0lt, jI_eq0, jI_0le, jn_lo, iU_row, iU_nr, iU_eq, iU_same, jI_ixn, jI_add, jI_sub, jI_nat]
              exact hp'
          have fin2 : ∀ I', cPo l sz I (lUn (b pos) (lOp b len r (pos + 1))) I' → mG (q + 1 + 1) 23 56 [some (.ref 20), some (.ref l), some (.int (jI (6 - ((r + 1 : Nat) : Int)))), some (.int (jI (b pos))), none] [.int (cBo (lUn (b pos) (lOp b len r (pos + 1))).1)] (mLay e) (I', E, F) P := by
            intro I' h'
            have hp' := hP I' h'
            by_cases qx : (lUn (b pos) (lOp b len r (pos + 1))).1 = true
            · rw [cBo, if_pos qx] at hp' ⊢
              simp only [g23_56, g23_59, g23_60, g23_63, g23_64, nl_none, nl_int, nl_ref, Option.toList_some, Option.toList_none, List.cons_append, List.nil_append, mSetI_u, mSetL_u, Nat.add_one_ne_zero, Nat.add_eq_zero_iff, and_false, false_and, not_false_eq_true, ne_eq, j0_0, j0_1, j1_0, j1_1, if_true, if_false, ite_true, ite_false, true_and, and_true, or_true, true_or, false_or, or_false, ↓reduceIte, Nat.reduceEqDiff, Nat.reduceAdd, Nat.reduceMul, Nat.reduceSub, Int.reduceLE, Int.reduceLT, Int.reduceNeg, Int.reduceAdd, Int.reduceSub, Int.reduceEq, reduceCtorEq, jI_lt, jI_eq, jI_lt0, jI_0lt, jI_eq0, jI_0le, jn_lo, iU_row, iU_nr, iU_eq, iU_same, jI_ixn, jI_add, jI_sub, jI_nat]
              exact hp'
            · rw [cBo, if_neg qx] at hp' ⊢
              simp only [g23_56, g23_59, g23_60, g23_63, g23_64, nl_none, nl_int, nl_ref, Option.toList_some, Option.toList_none, List.cons_append, List.nil_append, mSetI_u, mSetL_u, Nat.add_one_ne_zero, Nat.add_eq_zero_iff, and_false, false_and, not_false_eq_true, ne_eq, j0_0, j0_1, j1_0, j1_1, if_true, if_false, ite_true, ite_false, true_and, and_true, or_true, true_or, false_or, or_false, ↓reduceIte, Nat.reduceEqDiff, Nat.reduceAdd, Nat.reduceMul, Nat.reduceSub, Int.reduceLE, Int.reduceLT, Int.reduceNeg, Int.reduceAdd, Int.reduceSub, Int.reduceEq, reduceCtorEq, jI_lt, jI_eq, jI_lt0, jI_0lt, jI_eq0, jI_0le, jn_lo, iU_row, iU_nr, iU_eq, iU_same, jI_ixn, jI_add, jI_sub, jI_nat]
              exact hp'
          rcases lOpn_iff.1 ho with w | w | w
          · exact absurd w q40
          · simp only [g23_in, g23_0, g23_1, g23_4, g23_5, g23_8, g23_11, g23_12, g23_13, g23_14, g23_17, g23_18, g23_21, g23_22, g23_23, g23_24, g23_26, g23_29, g23_30, g23_32, g23_35, g23_36, g23_38, g23_41, g23_42, g23_44, g23_47, g23_48, g23_49, g23_50, g23_51, g23_52, g23_53, nl_none, nl_int, nl_ref, Option.toList_some, Option.toList_none, List.cons_append, List.nil_append, mSetI_u, mSetL_u, Nat.add_one_ne_zero, Nat.add_eq_zero_iff, and_false, false_and, not_false_eq_true, ne_eq, j0_0, j0_1, j1_0, j1_1, if_true, if_false, ite_true, ite_false, true_and, and_true, or_true, true_or, false_or, or_false, ↓reduceIte, Nat.reduceEqDiff, Nat.reduceAdd, Nat.reduceMul, Nat.reduceSub, Int.reduceLE, Int.reduceLT, Int.reduceNeg, Int.reduceAdd, Int.reduceSub, Int.reduceEq, reduceCtorEq, jI_lt, jI_eq, jI_lt0, jI_0lt, jI_eq0, jI_0le, jn_lo, iU_row, iU_nr, iU_eq, iU_same, jI_ixn, jI_add, jI_sub, jI_nat, sh_20, sh_21, f_20_0 hF, hl0, r1, r2, r3 pos h, show ((pos : Nat) : Int) ≤ 2147483647 by omega, show (pos : Nat) ≤ 2147483647 by omega, show ((len : Nat) : Int) ≤ 2147483647 by omega, show (len : Nat) ≤ 2147483647 by omega, show -2147483648 ≤ (b pos : Int) by omega, show (b pos : Int) ≤ 2147483647 by omega, show -2147483648 ≤ (6 - ((r + 1 : Nat) : Int) : Int) by omega, show (6 - ((r + 1 : Nat) : Int) : Int) ≤ 2147483647 by omega, show (pos : Int) < (len : Int) by omega, show (6 : Int) - ((r + 1 : Nat) : Int) < 6 by omega, show ¬ (b pos = 40) by omega, show b pos = 33 by omega, jI_in (z := ((pos : Int) : Int)) (n := 120) (by omega) (by omega) (by omega), eo, eq_self]
            rw [w] at fin fin2
            exact fin _ fin2
          · simp only [g23_in, g23_0, g23_1, g23_4, g23_5, g23_8, g23_11, g23_12, g23_13, g23_14, g23_17, g23_18, g23_21, g23_22, g23_23, g23_24, g23_26, g23_29, g23_30, g23_32, g23_35, g23_36, g23_38, g23_41, g23_42, g23_44, g23_47, g23_48, g23_49, g23_50, g23_51, g23_52, g23_53, nl_none, nl_int, nl_ref, Option.toList_some, Option.toList_none, List.cons_append, List.nil_append, mSetI_u, mSetL_u, Nat.add_one_ne_zero, Nat.add_eq_zero_iff, and_false, false_and, not_false_eq_true, ne_eq, j0_0, j0_1, j1_0, j1_1, if_true, if_false, ite_true, ite_false, true_and, and_true, or_true, true_or, false_or, or_false, ↓reduceIte, Nat.reduceEqDiff, Nat.reduceAdd, Nat.reduceMul, Nat.reduceSub, Int.reduceLE, Int.reduceLT, Int.reduceNeg, Int.reduceAdd, Int.reduceSub, Int.reduceEq, reduceCtorEq, jI_lt, jI_eq, jI_lt0, jI_0lt, jI_eq0, jI_0le, jn_lo, iU_row, iU_nr, iU_eq, iU_same, jI_ixn, jI_add, jI_sub, jI_nat, sh_20, sh_21, f_20_0 hF, hl0, r1, r2, r3 pos h, show ((pos : Nat) : Int) ≤ 2147483647 by omega, show (pos : Nat) ≤ 2147483647 by omega, show ((len : Nat) : Int) ≤ 2147483647 by omega, show (len : Nat) ≤ 2147483647 by omega, show -2147483648 ≤ (b pos : Int) by omega, show (b pos : Int) ≤ 2147483647 by omega, show -2147483648 ≤ (6 - ((r + 1 : Nat) : Int) : Int) by omega, show (6 - ((r + 1 : Nat) : Int) : Int) ≤ 2147483647 by omega, show (pos : Int) < (len : Int) by omega, show (6 : Int) - ((r + 1 : Nat) : Int) < 6 by omega, show ¬ (b pos = 40) by omega, show ¬ (b pos = 33) by omega, show b pos = 45 by omega, jI_in (z := ((pos : Int) : Int)) (n := 120) (by omega) (by omega) (by omega), eo, eq_self]
            rw [w] at fin fin2
            exact fin _ fin2
      · have e1 : lOp b len (r + 1) pos = lBase b len pos := by rw [lOp, if_pos h, if_neg ho]
        rw [e1] at hP
        exact c23_b hF hlr hl hb h hs hr hsz ho hP
    · have e1 : lOp b len (r + 1) pos = lFail pos := by rw [lOp, if_neg h]
      rw [e1] at hP
      exact c23_e hF h hl hp hr hP
end RDC
