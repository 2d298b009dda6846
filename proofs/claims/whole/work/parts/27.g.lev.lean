/-! ===== the law's text: the reference, level by level ===== -/
theorem lLev_4 {z : Int} : lLev z = 4 ↔ z = 42 ∨ z = 47 ∨ z = 37 := by
  unfold lLev
  repeat' split
  all_goals omega
theorem lLev_3 {z : Int} : lLev z = 3 ↔ z = 43 ∨ z = 45 := by
  unfold lLev
  repeat' split
  all_goals omega
theorem lLev_2 {z : Int} : lLev z = 2 ↔ z = 60 ∨ z = 61 ∨ z = 62 := by
  unfold lLev
  repeat' split
  all_goals omega
theorem lLev_1 {z : Int} : lLev z = 1 ↔ z = 38 := by
  unfold lLev
  repeat' split
  all_goals omega
theorem lLev_0 {z : Int} : lLev z = 0 ↔ z = 124 := by
  unfold lLev
  repeat' split
  all_goals omega
/-- no sign of this level stands there -/
def rNo (b : Nat → Int) (len : Nat) (en : Nat → Int32) (l : Int) (I : Nat → Nat → Int32) : Prop := I 80 16 = jI 0 ∨ ∃ pos o, pos ≤ len ∧ rRd b len en I pos o ∧ ¬ (pos < len ∧ lLev (b pos) = l)
def rH0 (b : Nat → Int) (len : Nat) (en : Nat → Int32) (e : List mShp) (E : Nat → Nat → Int64) (F : Nat → Nat → Nat) (m : Nat) (l : Int) (Lf : Int32 → Option Value → Option Value → List (Option Value)) : Prop := ∀ Q I v a2 a3 (P : mPost), rNo b len en l I → P (some (.int v)) (mLay e) (I, E, F) → mG (Q + 1) m 5 (Lf v a2 a3) [] (mLay e) (I, E, F) P
def rH1 (b : Nat → Int) (len : Nat) (en : Nat → Int32) (e : List mShp) (E : Nat → Nat → Int64) (F : Nat → Nat → Nat) (m mX : Nat) (l : Int) (Lf : Int32 → Option Value → Option Value → List (Option Value)) : Prop := ∀ Q I v a2 a3 pos o (P : mPost), pos < len → rRd b len en I pos o → lLev (b pos) = l → (∀ Pz : mPost, (∀ I2 v3, (∀ a2 a3, mG (Q + 1) m 5 (Lf (lJn (b pos) v v3) a2 a3) [] (mLay e) (I2, E, F) P) → Pz (some (.int v3)) (mLay e) (I2, E, F)) → mF Q mX [.ref 80] (mLay e) (iU I 80 15 (jI ((pos : Int) + 1)), E, F) Pz) → mG (Q + 1) m 5 (Lf v a2 a3) [] (mLay e) (I, E, F) P
def rHi (e : List mShp) (E : Nat → Nat → Int64) (F : Nat → Nat → Nat) (m mX : Nat) (Lf : Int32 → Option Value → Option Value → List (Option Value)) : Prop := ∀ Q I (P : mPost), (∀ Pz : mPost, (∀ I2 v, (∀ a2 a3, mG (Q + 1) m 5 (Lf v a2 a3) [] (mLay e) (I2, E, F) P) → Pz (some (.int v)) (mLay e) (I2, E, F)) → mF Q mX [.ref 80] (mLay e) (I, E, F) Pz) → mF (Q + 1) m [.ref 80] (mLay e) (I, E, F) P
section RLV
variable {d n : Nat} {e : List mShp} {I : Nat → Nat → Int32} {E : Nat → Nat → Int64} {F : Nat → Nat → Nat} {P : mPost} {st nx gf rl dr pos len : Nat} {b : Nat → Int} {en : Nat → Int32} {o z : Int}
theorem rPo_add {a q : lRes} {v v3 : Int32} {I1 I2 : Nat → Nat → Int32} {z : Int} (ha : a.1 = true) (hq : q.1 = true) (h1 : rPo en I o a v I1) (h2 : rPo en (iU I1 80 15 (jI ((a.2.1 : Int) + 1))) o q v3 I2) : rPo en I o (lAdd z a q) (lJn z v v3) I2 := by
  obtain ⟨k1, k2, k3⟩ := h2.2.2.1 hq
  refine rPo_ok (vAg_tr (vAg_iU h1.1 sc_Y5) h2.1) h2.2.1 k1 k2 ?_
  rw [(h1.2.2.1 ha).2.2, k3]
theorem r_go {m mX D h : Nat} {l : Int} {Lf : Int32 → Option Value → Option Value → List (Option Value)} {X : Nat → lRes} (hl : len ≤ 120) (H0 : rH0 b len en e E F m l Lf) (H1 : rH1 b len en e E F m mX l Lf) (hX : rS mX b len en e E F X D o) (hG : lGd len h X) {Q : Nat} (hD : D ≤ Q) (hr0 : rRd b len en I pos o) : ∀ (k i : Nat) (a : lRes) (v : Int32) (I' : Nat → Nat → Int32) (a2 a3 : Option Value), i + k = 120 → i ≤ a.2.1 → a.2.1 ≤ len → a.1 = true → rPo en I o a v I' → (∀ I' v, rPo en I o (lGo b len l X k a) v I' → P (some (.int v)) (mLay e) (I', E, F)) → mG (Q + 1) m 5 (Lf v a2 a3) [] (mLay e) (I', E, F) P
  | 0, i, a, v, I', a2, a3, hi, hia, hal, ha, hp, hP => by
    exact H0 Q I' v a2 a3 P (.inr ⟨a.2.1, o, hal, rPo_rd hr0 hp ha, fun w => absurd w.1 (by omega)⟩) (hP I' v hp)
  | k + 1, i, a, v, I', a2, a3, hi, hia, hal, ha, hp, hP => by
    have hr := rPo_rd hr0 hp ha
    by_cases q : a.2.1 < len ∧ lLev (b a.2.1) = l
    · obtain ⟨x1, x2, x3⟩ := hG (a.2.1 + 1) (by omega)
      have hstep : lGo b len l X (k + 1) a = if (X (a.2.1 + 1)).1 = true then lGo b len l X k (lAdd (b a.2.1) a (X (a.2.1 + 1))) else lFail (X (a.2.1 + 1)).2.1 := by rw [lGo, if_pos q]
      have hr1 : rRd b len en (iU I' 80 15 (jI ((a.2.1 : Int) + 1))) (a.2.1 + 1) o := rRd_ag hr (vAg_iU vAg_rfl sc_Y5) (by rw [iU_eq]; rfl) (by rw [iU_same (by omega)]; exact hr.2.2.1) (by rw [iU_same (by omega)]; exact hr.2.2.2.1)
      refine H1 Q I' v a2 a3 a.2.1 o P q.1 hr q.2 (fun Pz hPz => hX Q (a.2.1 + 1) _ Pz hD (by omega) hr1 (fun I2 v3 h2 => hPz I2 v3 (fun b2 b3 => ?_)))
      by_cases qx : (X (a.2.1 + 1)).1 = true
      · rw [hstep, if_pos qx] at hP
        exact r_go hl H0 H1 hX hG hD hr0 k (i + 1) (lAdd (b a.2.1) a (X (a.2.1 + 1))) _ I2 b2 b3 (by omega) (by show i + 1 ≤ (X (a.2.1 + 1)).2.1; omega) x2 rfl (rPo_add ha qx hp h2) hP
      · rw [hstep, if_neg qx] at hP
        have hw := h2.2.2.2 qx
        exact H0 Q I2 _ b2 b3 P (.inl hw) (hP I2 _ (rPo_fail (vAg_tr (vAg_iU hp.1 sc_Y5) h2.1) h2.2.1 hw))
    · have hstep : lGo b len l X (k + 1) a = a := by rw [lGo, if_neg q]
      rw [hstep] at hP
      exact H0 Q I' v a2 a3 P (.inr ⟨a.2.1, o, hal, hr, q⟩) (hP I' v hp)
theorem r_lv {m mX D h : Nat} {l : Int} {Lf : Int32 → Option Value → Option Value → List (Option Value)} {X : Nat → lRes} (hl : len ≤ 120) (hl2 : ¬ l = 2) (Hi : rHi e E F m mX Lf) (H0 : rH0 b len en e E F m l Lf) (H1 : rH1 b len en e E F m mX l Lf) (hX : rS mX b len en e E F X D o) (hG : lGd len h X) : rS m b len en e E F (lLv b len l X) (D + 1) o := by
  intro Q pos I P hQ hp hr hP
  obtain ⟨q, rfl⟩ : ∃ q, Q = q + 1 := ⟨Q - 1, by omega⟩
  obtain ⟨x1, x2, x3⟩ := hG pos hp
  refine Hi q I P (fun Pz hPz => hX q pos I Pz (by omega) hp hr (fun I2 v h2 => hPz I2 v (fun a2 a3 => ?_)))
  unfold lLv at hP
  by_cases qx : (X pos).1 = true
  · rw [if_pos qx, show lMost l = 120 from if_neg hl2] at hP
    exact r_go hl H0 H1 hX hG (show D ≤ q by omega) hr 120 0 (X pos) v I2 a2 a3 (by omega) (by omega) x2 qx h2 hP
  · rw [if_neg qx] at hP
    have hw := h2.2.2.2 qx
    exact H0 q I2 _ a2 a3 P (.inl hw) (hP I2 _ (rPo_fail h2.1 h2.2.1 hw))
/-! product -/
theorem r167 {D h : Nat} {X : Nat → lRes} (hF : mFx F st nx gf rl dr) (hl : len ≤ 120) (hb : ∀ j, j < len → 0 ≤ b j ∧ b j ≤ 255) (hX : rS 166 b len en e E F X D o) (hG : lGd len h X) : rS 167 b len en e E F (lLv b len 4 X) (D + 1) o := by
  refine r_lv (m := 167) (mX := 166) (Lf := fun v a2 a3 => [some (.ref 80), some (.int v), a2, a3]) hl (by omega) ?_ ?_ ?_ hX hG
  · intro Q I P hP
    simp only [g167_in, g167_0, g167_1, nl_none, nl_int, nl_ref, Option.toList_some, Option.toList_none, List.cons_append, List.nil_append, mSetI_u, mSetL_u, Nat.add_one_ne_zero, Nat.add_eq_zero_iff, and_false, false_and, not_false_eq_true, ne_eq, j0_0, j0_1, j1_0, j1_1, if_true, if_false, ite_true, ite_false, true_and, and_true, or_true, true_or, false_or, or_false, ↓reduceIte, Nat.reduceEqDiff, Nat.reduceAdd, Nat.reduceMul, Nat.reduceSub, Int.reduceLE, Int.reduceLT, Int.reduceNeg, Int.reduceAdd, Int.reduceSub, Int.reduceEq, reduceCtorEq, jI_lt, jI_eq, jI_lt0, jI_0lt, jI_eq0, jI_0le, jn_lo, iU_row, iU_nr, iU_eq, iU_same, jI_ixn, jI_add, jI_sub, jI_nat, sh_80]
    refine hP _ (fun I2 v hg => ?_)
    simp only [g167_4, nl_none, nl_int, nl_ref, Option.toList_some, Option.toList_none, List.cons_append, List.nil_append, mSetI_u, mSetL_u, Nat.add_one_ne_zero, Nat.add_eq_zero_iff, and_false, false_and, not_false_eq_true, ne_eq, j0_0, j0_1, j1_0, j1_1, if_true, if_false, ite_true, ite_false, true_and, and_true, or_true, true_or, false_or, or_false, ↓reduceIte, Nat.reduceEqDiff, Nat.reduceAdd, Nat.reduceMul, Nat.reduceSub, Int.reduceLE, Int.reduceLT, Int.reduceNeg, Int.reduceAdd, Int.reduceSub, Int.reduceEq, reduceCtorEq, jI_lt, jI_eq, jI_lt0, jI_0lt, jI_eq0, jI_0le, jn_lo, iU_row, iU_nr, iU_eq, iU_same, jI_ixn, jI_add, jI_sub, jI_nat]
    exact hg _ _
  · intro Q I v a2 a3 P hn hP
    show mG (Q + 1) 167 5 [some (.ref 80), some (.int v), a2, a3] [] (mLay e) (I, E, F) P
    rcases hn with hw | ⟨pos, o, hp, hr, hn⟩
    · simp only [g167_5, g167_6, g167_8, g167_11, g167_14, g167_15, g167_17, g167_20, g167_23, g167_24, g167_26, g167_29, g167_96, g167_97, nl_none, nl_int, nl_ref, Option.toList_some, Option.toList_none, List.cons_append, List.nil_append, mSetI_u, mSetL_u, Nat.add_one_ne_zero, Nat.add_eq_zero_iff, and_false, false_and, not_false_eq_true, ne_eq, j0_0, j0_1, j1_0, j1_1, if_true, if_false, ite_true, ite_false, true_and, and_true, or_true, true_or, false_or, or_false, ↓reduceIte, Nat.reduceEqDiff, Nat.reduceAdd, Nat.reduceMul, Nat.reduceSub, Int.reduceLE, Int.reduceLT, Int.reduceNeg, Int.reduceAdd, Int.reduceSub, Int.reduceEq, reduceCtorEq, jI_lt, jI_eq, jI_lt0, jI_0lt, jI_eq0, jI_0le, jn_lo, iU_row, iU_nr, iU_eq, iU_same, jI_ixn, jI_add, jI_sub, jI_nat, sh_80, r162_0 hw]
      exact hP
    · by_cases h : pos < len
      · have x0 : ¬ b pos = 42 := fun w => hn ⟨h, lLev_4.2 (.inl w)⟩
        have x1 : ¬ b pos = 47 := fun w => hn ⟨h, lLev_4.2 (.inr (.inl w))⟩
        have x2 : ¬ b pos = 37 := fun w => hn ⟨h, lLev_4.2 (.inr (.inr w))⟩
        simp only [g167_5, g167_6, g167_8, g167_11, g167_14, g167_15, g167_17, g167_20, g167_23, g167_24, g167_26, g167_29, g167_96, g167_97, nl_none, nl_int, nl_ref, Option.toList_some, Option.toList_none, List.cons_append, List.nil_append, mSetI_u, mSetL_u, Nat.add_one_ne_zero, Nat.add_eq_zero_iff, and_false, false_and, not_false_eq_true, ne_eq, j0_0, j0_1, j1_0, j1_1, if_true, if_false, ite_true, ite_false, true_and, and_true, or_true, true_or, false_or, or_false, ↓reduceIte, Nat.reduceEqDiff, Nat.reduceAdd, Nat.reduceMul, Nat.reduceSub, Int.reduceLE, Int.reduceLT, Int.reduceNeg, Int.reduceAdd, Int.reduceSub, Int.reduceEq, reduceCtorEq, jI_lt, jI_eq, jI_lt0, jI_0lt, jI_eq0, jI_0le, jn_lo, iU_row, iU_nr, iU_eq, iU_same, jI_ixn, jI_add, jI_sub, jI_nat, sh_80, r162 hF hl hb hr hp (z := 42) (by omega) (by omega), r162 hF hl hb hr hp (z := 47) (by omega) (by omega), r162 hF hl hb hr hp (z := 37) (by omega) (by omega), x0, x1, x2]
        exact hP
      · simp only [g167_5, g167_6, g167_8, g167_11, g167_14, g167_15, g167_17, g167_20, g167_23, g167_24, g167_26, g167_29, g167_96, g167_97, nl_none, nl_int, nl_ref, Option.toList_some, Option.toList_none, List.cons_append, List.nil_append, mSetI_u, mSetL_u, Nat.add_one_ne_zero, Nat.add_eq_zero_iff, and_false, false_and, not_false_eq_true, ne_eq, j0_0, j0_1, j1_0, j1_1, if_true, if_false, ite_true, ite_false, true_and, and_true, or_true, true_or, false_or, or_false, ↓reduceIte, Nat.reduceEqDiff, Nat.reduceAdd, Nat.reduceMul, Nat.reduceSub, Int.reduceLE, Int.reduceLT, Int.reduceNeg, Int.reduceAdd, Int.reduceSub, Int.reduceEq, reduceCtorEq, jI_lt, jI_eq, jI_lt0, jI_0lt, jI_eq0, jI_0le, jn_lo, iU_row, iU_nr, iU_eq, iU_same, jI_ixn, jI_add, jI_sub, jI_nat, sh_80, r162 hF hl hb hr hp (z := 42) (by omega) (by omega), r162 hF hl hb hr hp (z := 47) (by omega) (by omega), r162 hF hl hb hr hp (z := 37) (by omega) (by omega), h]
        exact hP
  · intro Q I v a2 a3 pos o P h hr hlv hP
    show mG (Q + 1) 167 5 [some (.ref 80), some (.int v), a2, a3] [] (mLay e) (I, E, F) P
    have hp : pos ≤ len := by omega
    have r4 := hr.2.2.2.2.1 pos h
    rcases lLev_4.1 hlv with w | w | w
    · rw [w] at r4 hP
      simp only [g167_5, g167_6, g167_8, g167_11, g167_14, g167_15, g167_17, g167_20, g167_23, g167_24, g167_26, g167_29, g167_32, g167_33, g167_36, g167_37, g167_40, g167_41, g167_42, g167_43, g167_44, g167_47, g167_48, g167_49, g167_52, g167_53, nl_none, nl_int, nl_ref, Option.toList_some, Option.toList_none, List.cons_append, List.nil_append, mSetI_u, mSetL_u, Nat.add_one_ne_zero, Nat.add_eq_zero_iff, and_false, false_and, not_false_eq_true, ne_eq, j0_0, j0_1, j1_0, j1_1, if_true, if_false, ite_true, ite_false, true_and, and_true, or_true, true_or, false_or, or_false, ↓reduceIte, Nat.reduceEqDiff, Nat.reduceAdd, Nat.reduceMul, Nat.reduceSub, Int.reduceLE, Int.reduceLT, Int.reduceNeg, Int.reduceAdd, Int.reduceSub, Int.reduceEq, reduceCtorEq, jI_lt, jI_eq, jI_lt0, jI_0lt, jI_eq0, jI_0le, jn_lo, iU_row, iU_nr, iU_eq, iU_same, jI_ixn, jI_add, jI_sub, jI_nat, sh_80, sh_88, f_80_13 hF, hr.2.1, r4, show ((pos : Nat) : Int) ≤ 2147483647 by omega, show (pos : Nat) ≤ 2147483647 by omega, jI_in (z := ((pos : Int) : Int)) (n := 120) (by omega) (by omega) (by omega), r162 hF hl hb hr hp (z := 42) (by omega) (by omega), r162 hF hl hb hr hp (z := 47) (by omega) (by omega), r162 hF hl hb hr hp (z := 37) (by omega) (by omega), h, w, and_self, eq_self]
      refine hP _ (fun I2 v3 hg => ?_)
      have hg' := hg (some (.int (jI 42))) (some (.int v3))
      simp only [g167_56, g167_57, g167_58, g167_60, g167_63, g167_64, g167_65, g167_66, g167_69, g167_70, g167_73, g167_74, g167_77, g167_78, g167_80, g167_83, g167_84, g167_85, g167_86, g167_89, g167_90, g167_91, g167_92, g167_93, nl_none, nl_int, nl_ref, Option.toList_some, Option.toList_none, List.cons_append, List.nil_append, mSetI_u, mSetL_u, Nat.add_one_ne_zero, Nat.add_eq_zero_iff, and_false, false_and, not_false_eq_true, ne_eq, j0_0, j0_1, j1_0, j1_1, if_true, if_false, ite_true, ite_false, true_and, and_true, or_true, true_or, false_or, or_false, ↓reduceIte, Nat.reduceEqDiff, Nat.reduceAdd, Nat.reduceMul, Nat.reduceSub, Int.reduceLE, Int.reduceLT, Int.reduceNeg, Int.reduceAdd, Int.reduceSub, Int.reduceEq, reduceCtorEq, jI_lt, jI_eq, jI_lt0, jI_0lt, jI_eq0, jI_0le, jn_lo, iU_row, iU_nr, iU_eq, iU_same, jI_ixn, jI_add, jI_sub, jI_nat, eq_self]
      exact hg'
    · rw [w] at r4 hP
      simp only [g167_5, g167_6, g167_8, g167_11, g167_14, g167_15, g167_17, g167_20, g167_23, g167_24, g167_26, g167_29, g167_32, g167_33, g167_36, g167_37, g167_40, g167_41, g167_42, g167_43, g167_44, g167_47, g167_48, g167_49, g167_52, g167_53, nl_none, nl_int, nl_ref, Option.toList_some, Option.toList_none, List.cons_append, List.nil_append, mSetI_u, mSetL_u, Nat.add_one_ne_zero, Nat.add_eq_zero_iff, and_false, false_and, not_false_eq_true, ne_eq, j0_0, j0_1, j1_0, j1_1, if_true, if_false, ite_true, ite_false, true_and, and_true, or_true, true_or, false_or, or_false, ↓reduceIte, Nat.reduceEqDiff, Nat.reduceAdd, Nat.reduceMul, Nat.reduceSub, Int.reduceLE, Int.reduceLT, Int.reduceNeg, Int.reduceAdd, Int.reduceSub, Int.reduceEq, reduceCtorEq, jI_lt, jI_eq, jI_lt0, jI_0lt, jI_eq0, jI_0le, jn_lo, iU_row, iU_nr, iU_eq, iU_same, jI_ixn, jI_add, jI_sub, jI_nat, sh_80, sh_88, f_80_13 hF, hr.2.1, r4, show ((pos : Nat) : Int) ≤ 2147483647 by omega, show (pos : Nat) ≤ 2147483647 by omega, jI_in (z := ((pos : Int) : Int)) (n := 120) (by omega) (by omega) (by omega), r162 hF hl hb hr hp (z := 42) (by omega) (by omega), r162 hF hl hb hr hp (z := 47) (by omega) (by omega), r162 hF hl hb hr hp (z := 37) (by omega) (by omega), h, w, and_self, eq_self]
      refine hP _ (fun I2 v3 hg => ?_)
      have hg' := hg (some (.int (jI 47))) (some (.int v3))
      by_cases q : v3 = 0
      · rw [show lJn 47 v v3 = jI 0 from if_pos q] at hg'
        simp only [g167_56, g167_57, g167_58, g167_60, g167_63, g167_64, g167_65, g167_66, g167_69, g167_70, g167_73, g167_74, g167_77, g167_78, g167_80, g167_83, g167_84, g167_85, g167_86, g167_89, g167_90, g167_91, g167_92, g167_93, nl_none, nl_int, nl_ref, Option.toList_some, Option.toList_none, List.cons_append, List.nil_append, mSetI_u, mSetL_u, Nat.add_one_ne_zero, Nat.add_eq_zero_iff, and_false, false_and, not_false_eq_true, ne_eq, j0_0, j0_1, j1_0, j1_1, if_true, if_false, ite_true, ite_false, true_and, and_true, or_true, true_or, false_or, or_false, ↓reduceIte, Nat.reduceEqDiff, Nat.reduceAdd, Nat.reduceMul, Nat.reduceSub, Int.reduceLE, Int.reduceLT, Int.reduceNeg, Int.reduceAdd, Int.reduceSub, Int.reduceEq, reduceCtorEq, jI_lt, jI_eq, jI_lt0, jI_0lt, jI_eq0, jI_0le, jn_lo, iU_row, iU_nr, iU_eq, iU_same, jI_ixn, jI_add, jI_sub, jI_nat, q, eq_self]
        rw [q] at hg'
        exact hg'
      · rw [show lJn 47 v v3 = v / v3 from if_neg q] at hg'
        simp only [g167_56, g167_57, g167_58, g167_60, g167_63, g167_64, g167_65, g167_66, g167_69, g167_70, g167_73, g167_74, g167_77, g167_78, g167_80, g167_83, g167_84, g167_85, g167_86, g167_89, g167_90, g167_91, g167_92, g167_93, nl_none, nl_int, nl_ref, Option.toList_some, Option.toList_none, List.cons_append, List.nil_append, mSetI_u, mSetL_u, Nat.add_one_ne_zero, Nat.add_eq_zero_iff, and_false, false_and, not_false_eq_true, ne_eq, j0_0, j0_1, j1_0, j1_1, if_true, if_false, ite_true, ite_false, true_and, and_true, or_true, true_or, false_or, or_false, ↓reduceIte, Nat.reduceEqDiff, Nat.reduceAdd, Nat.reduceMul, Nat.reduceSub, Int.reduceLE, Int.reduceLT, Int.reduceNeg, Int.reduceAdd, Int.reduceSub, Int.reduceEq, reduceCtorEq, jI_lt, jI_eq, jI_lt0, jI_0lt, jI_eq0, jI_0le, jn_lo, iU_row, iU_nr, iU_eq, iU_same, jI_ixn, jI_add, jI_sub, jI_nat, q, eq_self]
        exact hg'
    · rw [w] at r4 hP
      simp only [g167_5, g167_6, g167_8, g167_11, g167_14, g167_15, g167_17, g167_20, g167_23, g167_24, g167_26, g167_29, g167_32, g167_33, g167_36, g167_37, g167_40, g167_41, g167_42, g167_43, g167_44, g167_47, g167_48, g167_49, g167_52, g167_53, nl_none, nl_int, nl_ref, Option.toList_some, Option.toList_none, List.cons_append, List.nil_append, mSetI_u, mSetL_u, Nat.add_one_ne_zero, Nat.add_eq_zero_iff, and_false, false_and, not_false_eq_true, ne_eq, j0_0, j0_1, j1_0, j1_1, if_true, if_false, ite_true, ite_false, true_and, and_true, or_true, true_or, false_or, or_false, ↓reduceIte, Nat.reduceEqDiff, Nat.reduceAdd, Nat.reduceMul, Nat.reduceSub, Int.reduceLE, Int.reduceLT, Int.reduceNeg, Int.reduceAdd, Int.reduceSub, Int.reduceEq, reduceCtorEq, jI_lt, jI_eq, jI_lt0, jI_0lt, jI_eq0, jI_0le, jn_lo, iU_row, iU_nr, iU_eq, iU_same, jI_ixn, jI_add, jI_sub, jI_nat, sh_80, sh_88, f_80_13 hF, hr.2.1, r4, show ((pos : Nat) : Int) ≤ 2147483647 by omega, show (pos : Nat) ≤ 2147483647 by omega, jI_in (z := ((pos : Int) : Int)) (n := 120) (by omega) (by omega) (by omega), r162 hF hl hb hr hp (z := 42) (by omega) (by omega), r162 hF hl hb hr hp (z := 47) (by omega) (by omega), r162 hF hl hb hr hp (z := 37) (by omega) (by omega), h, w, and_self, eq_self]
      refine hP _ (fun I2 v3 hg => ?_)
      have hg' := hg (some (.int (jI 37))) (some (.int v3))
      by_cases q : v3 = 0
      · rw [show lJn 37 v v3 = jI 0 from if_pos q] at hg'
        simp only [g167_56, g167_57, g167_58, g167_60, g167_63, g167_64, g167_65, g167_66, g167_69, g167_70, g167_73, g167_74, g167_77, g167_78, g167_80, g167_83, g167_84, g167_85, g167_86, g167_89, g167_90, g167_91, g167_92, g167_93, nl_none, nl_int, nl_ref, Option.toList_some, Option.toList_none, List.cons_append, List.nil_append, mSetI_u, mSetL_u, Nat.add_one_ne_zero, Nat.add_eq_zero_iff, and_false, false_and, not_false_eq_true, ne_eq, j0_0, j0_1, j1_0, j1_1, if_true, if_false, ite_true, ite_false, true_and, and_true, or_true, true_or, false_or, or_false, ↓reduceIte, Nat.reduceEqDiff, Nat.reduceAdd, Nat.reduceMul, Nat.reduceSub, Int.reduceLE, Int.reduceLT, Int.reduceNeg, Int.reduceAdd, Int.reduceSub, Int.reduceEq, reduceCtorEq, jI_lt, jI_eq, jI_lt0, jI_0lt, jI_eq0, jI_0le, jn_lo, iU_row, iU_nr, iU_eq, iU_same, jI_ixn, jI_add, jI_sub, jI_nat, q, eq_self]
        rw [q] at hg'
        exact hg'
      · rw [show lJn 37 v v3 = v - v / v3 * v3 from if_neg q] at hg'
        simp only [g167_56, g167_57, g167_58, g167_60, g167_63, g167_64, g167_65, g167_66, g167_69, g167_70, g167_73, g167_74, g167_77, g167_78, g167_80, g167_83, g167_84, g167_85, g167_86, g167_89, g167_90, g167_91, g167_92, g167_93, nl_none, nl_int, nl_ref, Option.toList_some, Option.toList_none, List.cons_append, List.nil_append, mSetI_u, mSetL_u, Nat.add_one_ne_zero, Nat.add_eq_zero_iff, and_false, false_and, not_false_eq_true, ne_eq, j0_0, j0_1, j1_0, j1_1, if_true, if_false, ite_true, ite_false, true_and, and_true, or_true, true_or, false_or, or_false, ↓reduceIte, Nat.reduceEqDiff, Nat.reduceAdd, Nat.reduceMul, Nat.reduceSub, Int.reduceLE, Int.reduceLT, Int.reduceNeg, Int.reduceAdd, Int.reduceSub, Int.reduceEq, reduceCtorEq, jI_lt, jI_eq, jI_lt0, jI_0lt, jI_eq0, jI_0le, jn_lo, iU_row, iU_nr, iU_eq, iU_same, jI_ixn, jI_add, jI_sub, jI_nat, q, eq_self]
        exact hg'
/-! total -/
theorem r168 {D h : Nat} {X : Nat → lRes} (hF : mFx F st nx gf rl dr) (hl : len ≤ 120) (hb : ∀ j, j < len → 0 ≤ b j ∧ b j ≤ 255) (hX : rS 167 b len en e E F X D o) (hG : lGd len h X) : rS 168 b len en e E F (lLv b len 3 X) (D + 1) o := by
  refine r_lv (m := 168) (mX := 167) (Lf := fun v a2 a3 => [some (.ref 80), some (.int v), a2, a3]) hl (by omega) ?_ ?_ ?_ hX hG
  · intro Q I P hP
    simp only [g168_in, g168_0, g168_1, nl_none, nl_int, nl_ref, Option.toList_some, Option.toList_none, List.cons_append, List.nil_append, mSetI_u, mSetL_u, Nat.add_one_ne_zero, Nat.add_eq_zero_iff, and_false, false_and, not_false_eq_true, ne_eq, j0_0, j0_1, j1_0, j1_1, if_true, if_false, ite_true, ite_false, true_and, and_true, or_true, true_or, false_or, or_false, ↓reduceIte, Nat.reduceEqDiff, Nat.reduceAdd, Nat.reduceMul, Nat.reduceSub, Int.reduceLE, Int.reduceLT, Int.reduceNeg, Int.reduceAdd, Int.reduceSub, Int.reduceEq, reduceCtorEq, jI_lt, jI_eq, jI_lt0, jI_0lt, jI_eq0, jI_0le, jn_lo, iU_row, iU_nr, iU_eq, iU_same, jI_ixn, jI_add, jI_sub, jI_nat, sh_80]
    refine hP _ (fun I2 v hg => ?_)
    simp only [g168_4, nl_none, nl_int, nl_ref, Option.toList_some, Option.toList_none, List.cons_append, List.nil_append, mSetI_u, mSetL_u, Nat.add_one_ne_zero, Nat.add_eq_zero_iff, and_false, false_and, not_false_eq_true, ne_eq, j0_0, j0_1, j1_0, j1_1, if_true, if_false, ite_true, ite_false, true_and, and_true, or_true, true_or, false_or, or_false, ↓reduceIte, Nat.reduceEqDiff, Nat.reduceAdd, Nat.reduceMul, Nat.reduceSub, Int.reduceLE, Int.reduceLT, Int.reduceNeg, Int.reduceAdd, Int.reduceSub, Int.reduceEq, reduceCtorEq, jI_lt, jI_eq, jI_lt0, jI_0lt, jI_eq0, jI_0le, jn_lo, iU_row, iU_nr, iU_eq, iU_same, jI_ixn, jI_add, jI_sub, jI_nat]
    exact hg _ _
  · intro Q I v a2 a3 P hn hP
    show mG (Q + 1) 168 5 [some (.ref 80), some (.int v), a2, a3] [] (mLay e) (I, E, F) P
    rcases hn with hw | ⟨pos, o, hp, hr, hn⟩
    · simp only [g168_5, g168_6, g168_8, g168_11, g168_14, g168_15, g168_17, g168_20, g168_62, g168_63, nl_none, nl_int, nl_ref, Option.toList_some, Option.toList_none, List.cons_append, List.nil_append, mSetI_u, mSetL_u, Nat.add_one_ne_zero, Nat.add_eq_zero_iff, and_false, false_and, not_false_eq_true, ne_eq, j0_0, j0_1, j1_0, j1_1, if_true, if_false, ite_true, ite_false, true_and, and_true, or_true, true_or, false_or, or_false, ↓reduceIte, Nat.reduceEqDiff, Nat.reduceAdd, Nat.reduceMul, Nat.reduceSub, Int.reduceLE, Int.reduceLT, Int.reduceNeg, Int.reduceAdd, Int.reduceSub, Int.reduceEq, reduceCtorEq, jI_lt, jI_eq, jI_lt0, jI_0lt, jI_eq0, jI_0le, jn_lo, iU_row, iU_nr, iU_eq, iU_same, jI_ixn, jI_add, jI_sub, jI_nat, sh_80, r162_0 hw]
      exact hP
    · by_cases h : pos < len
      · have x0 : ¬ b pos = 43 := fun w => hn ⟨h, lLev_3.2 (.inl w)⟩
        have x1 : ¬ b pos = 45 := fun w => hn ⟨h, lLev_3.2 (.inr w)⟩
        simp only [g168_5, g168_6, g168_8, g168_11, g168_14, g168_15, g168_17, g168_20, g168_62, g168_63, nl_none, nl_int, nl_ref, Option.toList_some, Option.toList_none, List.cons_append, List.nil_append, mSetI_u, mSetL_u, Nat.add_one_ne_zero, Nat.add_eq_zero_iff, and_false, false_and, not_false_eq_true, ne_eq, j0_0, j0_1, j1_0, j1_1, if_true, if_false, ite_true, ite_false, true_and, and_true, or_true, true_or, false_or, or_false, ↓reduceIte, Nat.reduceEqDiff, Nat.reduceAdd, Nat.reduceMul, Nat.reduceSub, Int.reduceLE, Int.reduceLT, Int.reduceNeg, Int.reduceAdd, Int.reduceSub, Int.reduceEq, reduceCtorEq, jI_lt, jI_eq, jI_lt0, jI_0lt, jI_eq0, jI_0le, jn_lo, iU_row, iU_nr, iU_eq, iU_same, jI_ixn, jI_add, jI_sub, jI_nat, sh_80, r162 hF hl hb hr hp (z := 43) (by omega) (by omega), r162 hF hl hb hr hp (z := 45) (by omega) (by omega), x0, x1]
        exact hP
      · simp only [g168_5, g168_6, g168_8, g168_11, g168_14, g168_15, g168_17, g168_20, g168_62, g168_63, nl_none, nl_int, nl_ref, Option.toList_some, Option.toList_none, List.cons_append, List.nil_append, mSetI_u, mSetL_u, Nat.add_one_ne_zero, Nat.add_eq_zero_iff, and_false, false_and, not_false_eq_true, ne_eq, j0_0, j0_1, j1_0, j1_1, if_true, if_false, ite_true, ite_false, true_and, and_true, or_true, true_or, false_or, or_false, ↓reduceIte, Nat.reduceEqDiff, Nat.reduceAdd, Nat.reduceMul, Nat.reduceSub, Int.reduceLE, Int.reduceLT, Int.reduceNeg, Int.reduceAdd, Int.reduceSub, Int.reduceEq, reduceCtorEq, jI_lt, jI_eq, jI_lt0, jI_0lt, jI_eq0, jI_0le, jn_lo, iU_row, iU_nr, iU_eq, iU_same, jI_ixn, jI_add, jI_sub, jI_nat, sh_80, r162 hF hl hb hr hp (z := 43) (by omega) (by omega), r162 hF hl hb hr hp (z := 45) (by omega) (by omega), h]
        exact hP
  · intro Q I v a2 a3 pos o P h hr hlv hP
    show mG (Q + 1) 168 5 [some (.ref 80), some (.int v), a2, a3] [] (mLay e) (I, E, F) P
    have hp : pos ≤ len := by omega
    rcases lLev_3.1 hlv with w | w
    · rw [w] at hP
      simp only [g168_5, g168_6, g168_8, g168_11, g168_14, g168_15, g168_17, g168_20, g168_23, g168_24, g168_26, g168_29, g168_30, g168_31, g168_32, g168_35, g168_36, g168_37, g168_40, g168_41, nl_none, nl_int, nl_ref, Option.toList_some, Option.toList_none, List.cons_append, List.nil_append, mSetI_u, mSetL_u, Nat.add_one_ne_zero, Nat.add_eq_zero_iff, and_false, false_and, not_false_eq_true, ne_eq, j0_0, j0_1, j1_0, j1_1, if_true, if_false, ite_true, ite_false, true_and, and_true, or_true, true_or, false_or, or_false, ↓reduceIte, Nat.reduceEqDiff, Nat.reduceAdd, Nat.reduceMul, Nat.reduceSub, Int.reduceLE, Int.reduceLT, Int.reduceNeg, Int.reduceAdd, Int.reduceSub, Int.reduceEq, reduceCtorEq, jI_lt, jI_eq, jI_lt0, jI_0lt, jI_eq0, jI_0le, jn_lo, iU_row, iU_nr, iU_eq, iU_same, jI_ixn, jI_add, jI_sub, jI_nat, sh_80, hr.2.1, show ((pos : Nat) : Int) ≤ 2147483647 by omega, show (pos : Nat) ≤ 2147483647 by omega, r162 hF hl hb hr hp (z := 43) (by omega) (by omega), r162 hF hl hb hr hp (z := 45) (by omega) (by omega), h, w, and_self, eq_self]
      refine hP _ (fun I2 v3 hg => ?_)
      have hg' := hg (some (.int (jI 1))) (some (.int v3))
      simp only [g168_44, g168_45, g168_46, g168_49, g168_50, g168_51, g168_52, g168_55, g168_56, g168_57, g168_58, g168_59, nl_none, nl_int, nl_ref, Option.toList_some, Option.toList_none, List.cons_append, List.nil_append, mSetI_u, mSetL_u, Nat.add_one_ne_zero, Nat.add_eq_zero_iff, and_false, false_and, not_false_eq_true, ne_eq, j0_0, j0_1, j1_0, j1_1, if_true, if_false, ite_true, ite_false, true_and, and_true, or_true, true_or, false_or, or_false, ↓reduceIte, Nat.reduceEqDiff, Nat.reduceAdd, Nat.reduceMul, Nat.reduceSub, Int.reduceLE, Int.reduceLT, Int.reduceNeg, Int.reduceAdd, Int.reduceSub, Int.reduceEq, reduceCtorEq, jI_lt, jI_eq, jI_lt0, jI_0lt, jI_eq0, jI_0le, jn_lo, iU_row, iU_nr, iU_eq, iU_same, jI_ixn, jI_add, jI_sub, jI_nat, eq_self]
      exact hg'
    · rw [w] at hP
      simp only [g168_5, g168_6, g168_8, g168_11, g168_14, g168_15, g168_17, g168_20, g168_23, g168_24, g168_26, g168_29, g168_30, g168_31, g168_32, g168_35, g168_36, g168_37, g168_40, g168_41, nl_none, nl_int, nl_ref, Option.toList_some, Option.toList_none, List.cons_append, List.nil_append, mSetI_u, mSetL_u, Nat.add_one_ne_zero, Nat.add_eq_zero_iff, and_false, false_and, not_false_eq_true, ne_eq, j0_0, j0_1, j1_0, j1_1, if_true, if_false, ite_true, ite_false, true_and, and_true, or_true, true_or, false_or, or_false, ↓reduceIte, Nat.reduceEqDiff, Nat.reduceAdd, Nat.reduceMul, Nat.reduceSub, Int.reduceLE, Int.reduceLT, Int.reduceNeg, Int.reduceAdd, Int.reduceSub, Int.reduceEq, reduceCtorEq, jI_lt, jI_eq, jI_lt0, jI_0lt, jI_eq0, jI_0le, jn_lo, iU_row, iU_nr, iU_eq, iU_same, jI_ixn, jI_add, jI_sub, jI_nat, sh_80, hr.2.1, show ((pos : Nat) : Int) ≤ 2147483647 by omega, show (pos : Nat) ≤ 2147483647 by omega, r162 hF hl hb hr hp (z := 43) (by omega) (by omega), r162 hF hl hb hr hp (z := 45) (by omega) (by omega), h, w, and_self, eq_self]
      refine hP _ (fun I2 v3 hg => ?_)
      have hg' := hg (some (.int (jI 0))) (some (.int v3))
      simp only [g168_44, g168_45, g168_46, g168_49, g168_50, g168_51, g168_52, g168_55, g168_56, g168_57, g168_58, g168_59, nl_none, nl_int, nl_ref, Option.toList_some, Option.toList_none, List.cons_append, List.nil_append, mSetI_u, mSetL_u, Nat.add_one_ne_zero, Nat.add_eq_zero_iff, and_false, false_and, not_false_eq_true, ne_eq, j0_0, j0_1, j1_0, j1_1, if_true, if_false, ite_true, ite_false, true_and, and_true, or_true, true_or, false_or, or_false, ↓reduceIte, Nat.reduceEqDiff, Nat.reduceAdd, Nat.reduceMul, Nat.reduceSub, Int.reduceLE, Int.reduceLT, Int.reduceNeg, Int.reduceAdd, Int.reduceSub, Int.reduceEq, reduceCtorEq, jI_lt, jI_eq, jI_lt0, jI_0lt, jI_eq0, jI_0le, jn_lo, iU_row, iU_nr, iU_eq, iU_same, jI_ixn, jI_add, jI_sub, jI_nat, eq_self]
      exact hg'
/-! compared: one sign at most -/
theorem r169_0 (hF : mFx F st nx gf rl dr) (hl : len ≤ 120) (hb : ∀ j, j < len → 0 ≤ b j ∧ b j ≤ 255) {v : Int32} {a2 a3 a4 : Option Value} (hn : rNo b len en 2 I) (hP : P (some (.int v)) (mLay e) (I, E, F)) : mG (d + 1) 169 5 [some (.ref 80), some (.int v), a2, a3, a4] [] (mLay e) (I, E, F) P := by
  rcases hn with hw | ⟨pos, o, hp, hr, hn⟩
  · simp only [g169_5, g169_6, g169_8, g169_11, g169_14, g169_15, g169_17, g169_20, g169_23, g169_24, g169_26, g169_29, g169_118, g169_119, nl_none, nl_int, nl_ref, Option.toList_some, Option.toList_none, List.cons_append, List.nil_append, mSetI_u, mSetL_u, Nat.add_one_ne_zero, Nat.add_eq_zero_iff, and_false, false_and, not_false_eq_true, ne_eq, j0_0, j0_1, j1_0, j1_1, if_true, if_false, ite_true, ite_false, true_and, and_true, or_true, true_or, false_or, or_false, ↓reduceIte, Nat.reduceEqDiff, Nat.reduceAdd, Nat.reduceMul, Nat.reduceSub, Int.reduceLE, Int.reduceLT, Int.reduceNeg, Int.reduceAdd, Int.reduceSub, Int.reduceEq, reduceCtorEq, jI_lt, jI_eq, jI_lt0, jI_0lt, jI_eq0, jI_0le, jn_lo, iU_row, iU_nr, iU_eq, iU_same, jI_ixn, jI_add, jI_sub, jI_nat, sh_80, r162_0 hw]
    exact hP
  · by_cases h : pos < len
    · have x0 : ¬ b pos = 60 := fun w => hn ⟨h, lLev_2.2 (.inl w)⟩
      have x1 : ¬ b pos = 61 := fun w => hn ⟨h, lLev_2.2 (.inr (.inl w))⟩
      have x2 : ¬ b pos = 62 := fun w => hn ⟨h, lLev_2.2 (.inr (.inr w))⟩
      simp only [g169_5, g169_6, g169_8, g169_11, g169_14, g169_15, g169_17, g169_20, g169_23, g169_24, g169_26, g169_29, g169_118, g169_119, nl_none, nl_int, nl_ref, Option.toList_some, Option.toList_none, List.cons_append, List.nil_append, mSetI_u, mSetL_u, Nat.add_one_ne_zero, Nat.add_eq_zero_iff, and_false, false_and, not_false_eq_true, ne_eq, j0_0, j0_1, j1_0, j1_1, if_true, if_false, ite_true, ite_false, true_and, and_true, or_true, true_or, false_or, or_false, ↓reduceIte, Nat.reduceEqDiff, Nat.reduceAdd, Nat.reduceMul, Nat.reduceSub, Int.reduceLE, Int.reduceLT, Int.reduceNeg, Int.reduceAdd, Int.reduceSub, Int.reduceEq, reduceCtorEq, jI_lt, jI_eq, jI_lt0, jI_0lt, jI_eq0, jI_0le, jn_lo, iU_row, iU_nr, iU_eq, iU_same, jI_ixn, jI_add, jI_sub, jI_nat, sh_80, r162 hF hl hb hr hp (z := 60) (by omega) (by omega), r162 hF hl hb hr hp (z := 61) (by omega) (by omega), r162 hF hl hb hr hp (z := 62) (by omega) (by omega), x0, x1, x2]
      exact hP
    · simp only [g169_5, g169_6, g169_8, g169_11, g169_14, g169_15, g169_17, g169_20, g169_23, g169_24, g169_26, g169_29, g169_118, g169_119, nl_none, nl_int, nl_ref, Option.toList_some, Option.toList_none, List.cons_append, List.nil_append, mSetI_u, mSetL_u, Nat.add_one_ne_zero, Nat.add_eq_zero_iff, and_false, false_and, not_false_eq_true, ne_eq, j0_0, j0_1, j1_0, j1_1, if_true, if_false, ite_true, ite_false, true_and, and_true, or_true, true_or, false_or, or_false, ↓reduceIte, Nat.reduceEqDiff, Nat.reduceAdd, Nat.reduceMul, Nat.reduceSub, Int.reduceLE, Int.reduceLT, Int.reduceNeg, Int.reduceAdd, Int.reduceSub, Int.reduceEq, reduceCtorEq, jI_lt, jI_eq, jI_lt0, jI_0lt, jI_eq0, jI_0le, jn_lo, iU_row, iU_nr, iU_eq, iU_same, jI_ixn, jI_add, jI_sub, jI_nat, sh_80, r162 hF hl hb hr hp (z := 60) (by omega) (by omega), r162 hF hl hb hr hp (z := 61) (by omega) (by omega), r162 hF hl hb hr hp (z := 62) (by omega) (by omega), h]
      exact hP
theorem r169_1 (hF : mFx F st nx gf rl dr) (hl : len ≤ 120) (hb : ∀ j, j < len → 0 ≤ b j ∧ b j ≤ 255) {v : Int32} {a2 a3 a4 : Option Value} (h : pos < len) (hr : rRd b len en I pos o) (hlv : lLev (b pos) = 2) (hP : ∀ Pz : mPost, (∀ I2 v3, P (some (.int (lJn (b pos) v v3))) (mLay e) (I2, E, F) → Pz (some (.int v3)) (mLay e) (I2, E, F)) → mF d 168 [.ref 80] (mLay e) (iU I 80 15 (jI ((pos : Int) + 1)), E, F) Pz) : mG (d + 1) 169 5 [some (.ref 80), some (.int v), a2, a3, a4] [] (mLay e) (I, E, F) P := by
  have hp : pos ≤ len := by omega
  have r4 := hr.2.2.2.2.1 pos h
  rcases lLev_2.1 hlv with w | w | w
  · rw [w] at r4 hP
    simp only [g169_5, g169_6, g169_8, g169_11, g169_14, g169_15, g169_17, g169_20, g169_23, g169_24, g169_26, g169_29, g169_32, g169_33, g169_36, g169_37, g169_40, g169_41, g169_42, g169_43, g169_44, g169_47, g169_48, g169_49, g169_52, g169_53, nl_none, nl_int, nl_ref, Option.toList_some, Option.toList_none, List.cons_append, List.nil_append, mSetI_u, mSetL_u, Nat.add_one_ne_zero, Nat.add_eq_zero_iff, and_false, false_and, not_false_eq_true, ne_eq, j0_0, j0_1, j1_0, j1_1, if_true, if_false, ite_true, ite_false, true_and, and_true, or_true, true_or, false_or, or_false, ↓reduceIte, Nat.reduceEqDiff, Nat.reduceAdd, Nat.reduceMul, Nat.reduceSub, Int.reduceLE, Int.reduceLT, Int.reduceNeg, Int.reduceAdd, Int.reduceSub, Int.reduceEq, reduceCtorEq, jI_lt, jI_eq, jI_lt0, jI_0lt, jI_eq0, jI_0le, jn_lo, iU_row, iU_nr, iU_eq, iU_same, jI_ixn, jI_add, jI_sub, jI_nat, sh_80, sh_88, f_80_13 hF, hr.2.1, r4, show ((pos : Nat) : Int) ≤ 2147483647 by omega, show (pos : Nat) ≤ 2147483647 by omega, jI_in (z := ((pos : Int) : Int)) (n := 120) (by omega) (by omega) (by omega), r162 hF hl hb hr hp (z := 60) (by omega) (by omega), r162 hF hl hb hr hp (z := 61) (by omega) (by omega), r162 hF hl hb hr hp (z := 62) (by omega) (by omega), h, w, and_self, eq_self]
    refine hP _ (fun I2 v3 hg => ?_)
    by_cases q : v < v3
    · rw [show lJn 60 v v3 = jI 1 from if_pos q] at hg
      simp only [g169_56, g169_57, g169_58, g169_60, g169_63, g169_64, g169_65, g169_68, g169_69, g169_72, g169_73, g169_76, g169_77, g169_79, g169_82, g169_83, g169_84, g169_87, g169_88, g169_91, g169_92, g169_95, g169_96, g169_97, g169_100, g169_101, g169_104, g169_105, g169_107, g169_109, g169_112, g169_113, g169_116, g169_117, g169_118, g169_119, nl_none, nl_int, nl_ref, Option.toList_some, Option.toList_none, List.cons_append, List.nil_append, mSetI_u, mSetL_u, Nat.add_one_ne_zero, Nat.add_eq_zero_iff, and_false, false_and, not_false_eq_true, ne_eq, j0_0, j0_1, j1_0, j1_1, if_true, if_false, ite_true, ite_false, true_and, and_true, or_true, true_or, false_or, or_false, ↓reduceIte, Nat.reduceEqDiff, Nat.reduceAdd, Nat.reduceMul, Nat.reduceSub, Int.reduceLE, Int.reduceLT, Int.reduceNeg, Int.reduceAdd, Int.reduceSub, Int.reduceEq, reduceCtorEq, jI_lt, jI_eq, jI_lt0, jI_0lt, jI_eq0, jI_0le, jn_lo, iU_row, iU_nr, iU_eq, iU_same, jI_ixn, jI_add, jI_sub, jI_nat, q, eq_self]
      exact hg
    · rw [show lJn 60 v v3 = jI 0 from if_neg q] at hg
      simp only [g169_56, g169_57, g169_58, g169_60, g169_63, g169_64, g169_65, g169_68, g169_69, g169_72, g169_73, g169_76, g169_77, g169_79, g169_82, g169_83, g169_84, g169_87, g169_88, g169_91, g169_92, g169_95, g169_96, g169_97, g169_100, g169_101, g169_104, g169_105, g169_107, g169_109, g169_112, g169_113, g169_116, g169_117, g169_118, g169_119, nl_none, nl_int, nl_ref, Option.toList_some, Option.toList_none, List.cons_append, List.nil_append, mSetI_u, mSetL_u, Nat.add_one_ne_zero, Nat.add_eq_zero_iff, and_false, false_and, not_false_eq_true, ne_eq, j0_0, j0_1, j1_0, j1_1, if_true, if_false, ite_true, ite_false, true_and, and_true, or_true, true_or, false_or, or_false, ↓reduceIte, Nat.reduceEqDiff, Nat.reduceAdd, Nat.reduceMul, Nat.reduceSub, Int.reduceLE, Int.reduceLT, Int.reduceNeg, Int.reduceAdd, Int.reduceSub, Int.reduceEq, reduceCtorEq, jI_lt, jI_eq, jI_lt0, jI_0lt, jI_eq0, jI_0le, jn_lo, iU_row, iU_nr, iU_eq, iU_same, jI_ixn, jI_add, jI_sub, jI_nat, q, eq_self]
      exact hg
  · rw [w] at r4 hP
    simp only [g169_5, g169_6, g169_8, g169_11, g169_14, g169_15, g169_17, g169_20, g169_23, g169_24, g169_26, g169_29, g169_32, g169_33, g169_36, g169_37, g169_40, g169_41, g169_42, g169_43, g169_44, g169_47, g169_48, g169_49, g169_52, g169_53, nl_none, nl_int, nl_ref, Option.toList_some, Option.toList_none, List.cons_append, List.nil_append, mSetI_u, mSetL_u, Nat.add_one_ne_zero, Nat.add_eq_zero_iff, and_false, false_and, not_false_eq_true, ne_eq, j0_0, j0_1, j1_0, j1_1, if_true, if_false, ite_true, ite_false, true_and, and_true, or_true, true_or, false_or, or_false, ↓reduceIte, Nat.reduceEqDiff, Nat.reduceAdd, Nat.reduceMul, Nat.reduceSub, Int.reduceLE, Int.reduceLT, Int.reduceNeg, Int.reduceAdd, Int.reduceSub, Int.reduceEq, reduceCtorEq, jI_lt, jI_eq, jI_lt0, jI_0lt, jI_eq0, jI_0le, jn_lo, iU_row, iU_nr, iU_eq, iU_same, jI_ixn, jI_add, jI_sub, jI_nat, sh_80, sh_88, f_80_13 hF, hr.2.1, r4, show ((pos : Nat) : Int) ≤ 2147483647 by omega, show (pos : Nat) ≤ 2147483647 by omega, jI_in (z := ((pos : Int) : Int)) (n := 120) (by omega) (by omega) (by omega), r162 hF hl hb hr hp (z := 60) (by omega) (by omega), r162 hF hl hb hr hp (z := 61) (by omega) (by omega), r162 hF hl hb hr hp (z := 62) (by omega) (by omega), h, w, and_self, eq_self]
    refine hP _ (fun I2 v3 hg => ?_)
    by_cases q : v = v3
    · rw [show lJn 61 v v3 = jI 1 from if_pos q] at hg
      simp only [g169_56, g169_57, g169_58, g169_60, g169_63, g169_64, g169_65, g169_68, g169_69, g169_72, g169_73, g169_76, g169_77, g169_79, g169_82, g169_83, g169_84, g169_87, g169_88, g169_91, g169_92, g169_95, g169_96, g169_97, g169_100, g169_101, g169_104, g169_105, g169_107, g169_109, g169_112, g169_113, g169_116, g169_117, g169_118, g169_119, nl_none, nl_int, nl_ref, Option.toList_some, Option.toList_none, List.cons_append, List.nil_append, mSetI_u, mSetL_u, Nat.add_one_ne_zero, Nat.add_eq_zero_iff, and_false, false_and, not_false_eq_true, ne_eq, j0_0, j0_1, j1_0, j1_1, if_true, if_false, ite_true, ite_false, true_and, and_true, or_true, true_or, false_or, or_false, ↓reduceIte, Nat.reduceEqDiff, Nat.reduceAdd, Nat.reduceMul, Nat.reduceSub, Int.reduceLE, Int.reduceLT, Int.reduceNeg, Int.reduceAdd, Int.reduceSub, Int.reduceEq, reduceCtorEq, jI_lt, jI_eq, jI_lt0, jI_0lt, jI_eq0, jI_0le, jn_lo, iU_row, iU_nr, iU_eq, iU_same, jI_ixn, jI_add, jI_sub, jI_nat, q, eq_self]
      exact hg
    · rw [show lJn 61 v v3 = jI 0 from if_neg q] at hg
      simp only [g169_56, g169_57, g169_58, g169_60, g169_63, g169_64, g169_65, g169_68, g169_69, g169_72, g169_73, g169_76, g169_77, g169_79, g169_82, g169_83, g169_84, g169_87, g169_88, g169_91, g169_92, g169_95, g169_96, g169_97, g169_100, g169_101, g169_104, g169_105, g169_107, g169_109, g169_112, g169_113, g169_116, g169_117, g169_118, g169_119, nl_none, nl_int, nl_ref, Option.toList_some, Option.toList_none, List.cons_append, List.nil_append, mSetI_u, mSetL_u, Nat.add_one_ne_zero, Nat.add_eq_zero_iff, and_false, false_and, not_false_eq_true, ne_eq, j0_0, j0_1, j1_0, j1_1, if_true, if_false, ite_true, ite_false, true_and, and_true, or_true, true_or, false_or, or_false, ↓reduceIte, Nat.reduceEqDiff, Nat.reduceAdd, Nat.reduceMul, Nat.reduceSub, Int.reduceLE, Int.reduceLT, Int.reduceNeg, Int.reduceAdd, Int.reduceSub, Int.reduceEq, reduceCtorEq, jI_lt, jI_eq, jI_lt0, jI_0lt, jI_eq0, jI_0le, jn_lo, iU_row, iU_nr, iU_eq, iU_same, jI_ixn, jI_add, jI_sub, jI_nat, q, eq_self]
      exact hg
  · rw [w] at r4 hP
    simp only [g169_5, g169_6, g169_8, g169_11, g169_14, g169_15, g169_17, g169_20, g169_23, g169_24, g169_26, g169_29, g169_32, g169_33, g169_36, g169_37, g169_40, g169_41, g169_42, g169_43, g169_44, g169_47, g169_48, g169_49, g169_52, g169_53, nl_none, nl_int, nl_ref, Option.toList_some, Option.toList_none, List.cons_append, List.nil_append, mSetI_u, mSetL_u, Nat.add_one_ne_zero, Nat.add_eq_zero_iff, and_false, false_and, not_false_eq_true, ne_eq, j0_0, j0_1, j1_0, j1_1, if_true, if_false, ite_true, ite_false, true_and, and_true, or_true, true_or, false_or, or_false, ↓reduceIte, Nat.reduceEqDiff, Nat.reduceAdd, Nat.reduceMul, Nat.reduceSub, Int.reduceLE, Int.reduceLT, Int.reduceNeg, Int.reduceAdd, Int.reduceSub, Int.reduceEq, reduceCtorEq, jI_lt, jI_eq, jI_lt0, jI_0lt, jI_eq0, jI_0le, jn_lo, iU_row, iU_nr, iU_eq, iU_same, jI_ixn, jI_add, jI_sub, jI_nat, sh_80, sh_88, f_80_13 hF, hr.2.1, r4, show ((pos : Nat) : Int) ≤ 2147483647 by omega, show (pos : Nat) ≤ 2147483647 by omega, jI_in (z := ((pos : Int) : Int)) (n := 120) (by omega) (by omega) (by omega), r162 hF hl hb hr hp (z := 60) (by omega) (by omega), r162 hF hl hb hr hp (z := 61) (by omega) (by omega), r162 hF hl hb hr hp (z := 62) (by omega) (by omega), h, w, and_self, eq_self]
    refine hP _ (fun I2 v3 hg => ?_)
    by_cases q : v3 < v
    · rw [show lJn 62 v v3 = jI 1 from if_pos q] at hg
      simp only [g169_56, g169_57, g169_58, g169_60, g169_63, g169_64, g169_65, g169_68, g169_69, g169_72, g169_73, g169_76, g169_77, g169_79, g169_82, g169_83, g169_84, g169_87, g169_88, g169_91, g169_92, g169_95, g169_96, g169_97, g169_100, g169_101, g169_104, g169_105, g169_107, g169_109, g169_112, g169_113, g169_116, g169_117, g169_118, g169_119, nl_none, nl_int, nl_ref, Option.toList_some, Option.toList_none, List.cons_append, List.nil_append, mSetI_u, mSetL_u, Nat.add_one_ne_zero, Nat.add_eq_zero_iff, and_false, false_and, not_false_eq_true, ne_eq, j0_0, j0_1, j1_0, j1_1, if_true, if_false, ite_true, ite_false, true_and, and_true, or_true, true_or, false_or, or_false, ↓reduceIte, Nat.reduceEqDiff, Nat.reduceAdd, Nat.reduceMul, Nat.reduceSub, Int.reduceLE, Int.reduceLT, Int.reduceNeg, Int.reduceAdd, Int.reduceSub, Int.reduceEq, reduceCtorEq, jI_lt, jI_eq, jI_lt0, jI_0lt, jI_eq0, jI_0le, jn_lo, iU_row, iU_nr, iU_eq, iU_same, jI_ixn, jI_add, jI_sub, jI_nat, q, eq_self]
      exact hg
    · rw [show lJn 62 v v3 = jI 0 from if_neg q] at hg
      simp only [g169_56, g169_57, g169_58, g169_60, g169_63, g169_64, g169_65, g169_68, g169_69, g169_72, g169_73, g169_76, g169_77, g169_79, g169_82, g169_83, g169_84, g169_87, g169_88, g169_91, g169_92, g169_95, g169_96, g169_97, g169_100, g169_101, g169_104, g169_105, g169_107, g169_109, g169_112, g169_113, g169_116, g169_117, g169_118, g169_119, nl_none, nl_int, nl_ref, Option.toList_some, Option.toList_none, List.cons_append, List.nil_append, mSetI_u, mSetL_u, Nat.add_one_ne_zero, Nat.add_eq_zero_iff, and_false, false_and, not_false_eq_true, ne_eq, j0_0, j0_1, j1_0, j1_1, if_true, if_false, ite_true, ite_false, true_and, and_true, or_true, true_or, false_or, or_false, ↓reduceIte, Nat.reduceEqDiff, Nat.reduceAdd, Nat.reduceMul, Nat.reduceSub, Int.reduceLE, Int.reduceLT, Int.reduceNeg, Int.reduceAdd, Int.reduceSub, Int.reduceEq, reduceCtorEq, jI_lt, jI_eq, jI_lt0, jI_0lt, jI_eq0, jI_0le, jn_lo, iU_row, iU_nr, iU_eq, iU_same, jI_ixn, jI_add, jI_sub, jI_nat, q, eq_self]
      exact hg
theorem r169 {D h : Nat} {X : Nat → lRes} (hF : mFx F st nx gf rl dr) (hl : len ≤ 120) (hb : ∀ j, j < len → 0 ≤ b j ∧ b j ≤ 255) (hX : rS 168 b len en e E F X D o) (hG : lGd len h X) : rS 169 b len en e E F (lLv b len 2 X) (D + 1) o := by
  intro Q pos I P hQ hp hr hP
  obtain ⟨q, rfl⟩ : ∃ q, Q = q + 1 := ⟨Q - 1, by omega⟩
  obtain ⟨x1, x2, x3⟩ := hG pos hp
  simp only [g169_in, g169_0, g169_1, nl_none, nl_int, nl_ref, Option.toList_some, Option.toList_none, List.cons_append, List.nil_append, mSetI_u, mSetL_u, Nat.add_one_ne_zero, Nat.add_eq_zero_iff, and_false, false_and, not_false_eq_true, ne_eq, j0_0, j0_1, j1_0, j1_1, if_true, if_false, ite_true, ite_false, true_and, and_true, or_true, true_or, false_or, or_false, ↓reduceIte, Nat.reduceEqDiff, Nat.reduceAdd, Nat.reduceMul, Nat.reduceSub, Int.reduceLE, Int.reduceLT, Int.reduceNeg, Int.reduceAdd, Int.reduceSub, Int.reduceEq, reduceCtorEq, jI_lt, jI_eq, jI_lt0, jI_0lt, jI_eq0, jI_0le, jn_lo, iU_row, iU_nr, iU_eq, iU_same, jI_ixn, jI_add, jI_sub, jI_nat, sh_80]
  refine hX q pos I _ (by omega) hp hr (fun I2 v h2 => ?_)
  simp only [g169_4, nl_none, nl_int, nl_ref, Option.toList_some, Option.toList_none, List.cons_append, List.nil_append, mSetI_u, mSetL_u, Nat.add_one_ne_zero, Nat.add_eq_zero_iff, and_false, false_and, not_false_eq_true, ne_eq, j0_0, j0_1, j1_0, j1_1, if_true, if_false, ite_true, ite_false, true_and, and_true, or_true, true_or, false_or, or_false, ↓reduceIte, Nat.reduceEqDiff, Nat.reduceAdd, Nat.reduceMul, Nat.reduceSub, Int.reduceLE, Int.reduceLT, Int.reduceNeg, Int.reduceAdd, Int.reduceSub, Int.reduceEq, reduceCtorEq, jI_lt, jI_eq, jI_lt0, jI_0lt, jI_eq0, jI_0le, jn_lo, iU_row, iU_nr, iU_eq, iU_same, jI_ixn, jI_add, jI_sub, jI_nat]
  unfold lLv at hP
  by_cases qx : (X pos).1 = true
  · rw [if_pos qx, show lMost 2 = 1 from rfl, lGo] at hP
    obtain ⟨A, hA⟩ : ∃ A, A = X pos := ⟨_, rfl⟩
    rw [← hA] at hP h2 qx x1 x2 x3
    have hr2 := rPo_rd hr h2 qx
    by_cases qs : A.2.1 < len ∧ lLev (b A.2.1) = 2
    · obtain ⟨y1, y2, y3⟩ := hG (A.2.1 + 1) (by omega)
      have hr1 : rRd b len en (iU I2 80 15 (jI ((A.2.1 : Int) + 1))) (A.2.1 + 1) o := rRd_ag hr2 (vAg_iU vAg_rfl sc_Y5) (by rw [iU_eq]; rfl) (by rw [iU_same (by omega)]; exact hr2.2.2.1) (by rw [iU_same (by omega)]; exact hr2.2.2.2.1)
      rw [if_pos qs] at hP
      refine r169_1 hF hl hb qs.1 hr2 qs.2 (fun Pz hPz => hX q (A.2.1 + 1) _ Pz (by omega) (by omega) hr1 (fun I3 v3 h3 => hPz I3 v3 ?_))
      by_cases qy : (X (A.2.1 + 1)).1 = true
      · rw [if_pos qy] at hP
        exact hP I3 _ (rPo_add qx qy h2 h3)
      · rw [if_neg qy] at hP
        exact hP I3 _ (rPo_fail (vAg_tr (vAg_iU h2.1 sc_Y5) h3.1) h3.2.1 (h3.2.2.2 qy))
    · rw [if_neg qs] at hP
      exact r169_0 hF hl hb (.inr ⟨A.2.1, o, x2, hr2, qs⟩) (hP I2 v h2)
  · rw [if_neg qx] at hP
    have hw := h2.2.2.2 qx
    exact r169_0 (en := en) hF hl hb (.inl hw) (hP I2 _ (rPo_fail h2.1 h2.2.1 hw))
/-! both, any -/
theorem r170 {D h : Nat} {X : Nat → lRes} (hF : mFx F st nx gf rl dr) (hl : len ≤ 120) (hb : ∀ j, j < len → 0 ≤ b j ∧ b j ≤ 255) (hX : rS 169 b len en e E F X D o) (hG : lGd len h X) : rS 170 b len en e E F (lLv b len 1 X) (D + 1) o := by
  refine r_lv (m := 170) (mX := 169) (Lf := fun v a2 _ => [some (.ref 80), some (.int v), a2]) hl (by omega) ?_ ?_ ?_ hX hG
  · intro Q I P hP
    simp only [g170_in, g170_0, g170_1, nl_none, nl_int, nl_ref, Option.toList_some, Option.toList_none, List.cons_append, List.nil_append, mSetI_u, mSetL_u, Nat.add_one_ne_zero, Nat.add_eq_zero_iff, and_false, false_and, not_false_eq_true, ne_eq, j0_0, j0_1, j1_0, j1_1, if_true, if_false, ite_true, ite_false, true_and, and_true, or_true, true_or, false_or, or_false, ↓reduceIte, Nat.reduceEqDiff, Nat.reduceAdd, Nat.reduceMul, Nat.reduceSub, Int.reduceLE, Int.reduceLT, Int.reduceNeg, Int.reduceAdd, Int.reduceSub, Int.reduceEq, reduceCtorEq, jI_lt, jI_eq, jI_lt0, jI_0lt, jI_eq0, jI_0le, jn_lo, iU_row, iU_nr, iU_eq, iU_same, jI_ixn, jI_add, jI_sub, jI_nat, sh_80]
    refine hP _ (fun I2 v hg => ?_)
    simp only [g170_4, nl_none, nl_int, nl_ref, Option.toList_some, Option.toList_none, List.cons_append, List.nil_append, mSetI_u, mSetL_u, Nat.add_one_ne_zero, Nat.add_eq_zero_iff, and_false, false_and, not_false_eq_true, ne_eq, j0_0, j0_1, j1_0, j1_1, if_true, if_false, ite_true, ite_false, true_and, and_true, or_true, true_or, false_or, or_false, ↓reduceIte, Nat.reduceEqDiff, Nat.reduceAdd, Nat.reduceMul, Nat.reduceSub, Int.reduceLE, Int.reduceLT, Int.reduceNeg, Int.reduceAdd, Int.reduceSub, Int.reduceEq, reduceCtorEq, jI_lt, jI_eq, jI_lt0, jI_0lt, jI_eq0, jI_0le, jn_lo, iU_row, iU_nr, iU_eq, iU_same, jI_ixn, jI_add, jI_sub, jI_nat]
    exact hg _ none
  · intro Q I v a2 a3 P hn hP
    show mG (Q + 1) 170 5 [some (.ref 80), some (.int v), a2] [] (mLay e) (I, E, F) P
    rcases hn with hw | ⟨pos, o, hp, hr, hn⟩
    · simp only [g170_5, g170_6, g170_8, g170_11, g170_46, g170_47, nl_none, nl_int, nl_ref, Option.toList_some, Option.toList_none, List.cons_append, List.nil_append, mSetI_u, mSetL_u, Nat.add_one_ne_zero, Nat.add_eq_zero_iff, and_false, false_and, not_false_eq_true, ne_eq, j0_0, j0_1, j1_0, j1_1, if_true, if_false, ite_true, ite_false, true_and, and_true, or_true, true_or, false_or, or_false, ↓reduceIte, Nat.reduceEqDiff, Nat.reduceAdd, Nat.reduceMul, Nat.reduceSub, Int.reduceLE, Int.reduceLT, Int.reduceNeg, Int.reduceAdd, Int.reduceSub, Int.reduceEq, reduceCtorEq, jI_lt, jI_eq, jI_lt0, jI_0lt, jI_eq0, jI_0le, jn_lo, iU_row, iU_nr, iU_eq, iU_same, jI_ixn, jI_add, jI_sub, jI_nat, sh_80, r162_0 hw]
      exact hP
    · by_cases h : pos < len
      · have x0 : ¬ b pos = 38 := fun w => hn ⟨h, lLev_1.2 w⟩
        simp only [g170_5, g170_6, g170_8, g170_11, g170_46, g170_47, nl_none, nl_int, nl_ref, Option.toList_some, Option.toList_none, List.cons_append, List.nil_append, mSetI_u, mSetL_u, Nat.add_one_ne_zero, Nat.add_eq_zero_iff, and_false, false_and, not_false_eq_true, ne_eq, j0_0, j0_1, j1_0, j1_1, if_true, if_false, ite_true, ite_false, true_and, and_true, or_true, true_or, false_or, or_false, ↓reduceIte, Nat.reduceEqDiff, Nat.reduceAdd, Nat.reduceMul, Nat.reduceSub, Int.reduceLE, Int.reduceLT, Int.reduceNeg, Int.reduceAdd, Int.reduceSub, Int.reduceEq, reduceCtorEq, jI_lt, jI_eq, jI_lt0, jI_0lt, jI_eq0, jI_0le, jn_lo, iU_row, iU_nr, iU_eq, iU_same, jI_ixn, jI_add, jI_sub, jI_nat, sh_80, r162 hF hl hb hr hp (z := 38) (by omega) (by omega), x0]
        exact hP
      · simp only [g170_5, g170_6, g170_8, g170_11, g170_46, g170_47, nl_none, nl_int, nl_ref, Option.toList_some, Option.toList_none, List.cons_append, List.nil_append, mSetI_u, mSetL_u, Nat.add_one_ne_zero, Nat.add_eq_zero_iff, and_false, false_and, not_false_eq_true, ne_eq, j0_0, j0_1, j1_0, j1_1, if_true, if_false, ite_true, ite_false, true_and, and_true, or_true, true_or, false_or, or_false, ↓reduceIte, Nat.reduceEqDiff, Nat.reduceAdd, Nat.reduceMul, Nat.reduceSub, Int.reduceLE, Int.reduceLT, Int.reduceNeg, Int.reduceAdd, Int.reduceSub, Int.reduceEq, reduceCtorEq, jI_lt, jI_eq, jI_lt0, jI_0lt, jI_eq0, jI_0le, jn_lo, iU_row, iU_nr, iU_eq, iU_same, jI_ixn, jI_add, jI_sub, jI_nat, sh_80, r162 hF hl hb hr hp (z := 38) (by omega) (by omega), h]
        exact hP
  · intro Q I v a2 a3 pos o P h hr hlv hP
    show mG (Q + 1) 170 5 [some (.ref 80), some (.int v), a2] [] (mLay e) (I, E, F) P
    have hp : pos ≤ len := by omega
    have w := lLev_1.1 hlv
    rw [w] at hP
    simp only [g170_5, g170_6, g170_8, g170_11, g170_14, g170_15, g170_16, g170_19, g170_20, g170_21, g170_24, g170_25, nl_none, nl_int, nl_ref, Option.toList_some, Option.toList_none, List.cons_append, List.nil_append, mSetI_u, mSetL_u, Nat.add_one_ne_zero, Nat.add_eq_zero_iff, and_false, false_and, not_false_eq_true, ne_eq, j0_0, j0_1, j1_0, j1_1, if_true, if_false, ite_true, ite_false, true_and, and_true, or_true, true_or, false_or, or_false, ↓reduceIte, Nat.reduceEqDiff, Nat.reduceAdd, Nat.reduceMul, Nat.reduceSub, Int.reduceLE, Int.reduceLT, Int.reduceNeg, Int.reduceAdd, Int.reduceSub, Int.reduceEq, reduceCtorEq, jI_lt, jI_eq, jI_lt0, jI_0lt, jI_eq0, jI_0le, jn_lo, iU_row, iU_nr, iU_eq, iU_same, jI_ixn, jI_add, jI_sub, jI_nat, sh_80, hr.2.1, show ((pos : Nat) : Int) ≤ 2147483647 by omega, show (pos : Nat) ≤ 2147483647 by omega, r162 hF hl hb hr hp (z := 38) (by omega) (by omega), h, w, and_self, eq_self]
    refine hP _ (fun I2 v3 hg => ?_)
    have hg' := hg (some (.int v3)) none
    by_cases q : v = 0
    · rw [lJn_38, if_pos (.inl q)] at hg'
      simp only [g170_28, g170_29, g170_30, g170_33, g170_34, g170_37, g170_38, g170_41, g170_42, g170_43, nl_none, nl_int, nl_ref, Option.toList_some, Option.toList_none, List.cons_append, List.nil_append, mSetI_u, mSetL_u, Nat.add_one_ne_zero, Nat.add_eq_zero_iff, and_false, false_and, not_false_eq_true, ne_eq, j0_0, j0_1, j1_0, j1_1, if_true, if_false, ite_true, ite_false, true_and, and_true, or_true, true_or, false_or, or_false, ↓reduceIte, Nat.reduceEqDiff, Nat.reduceAdd, Nat.reduceMul, Nat.reduceSub, Int.reduceLE, Int.reduceLT, Int.reduceNeg, Int.reduceAdd, Int.reduceSub, Int.reduceEq, reduceCtorEq, jI_lt, jI_eq, jI_lt0, jI_0lt, jI_eq0, jI_0le, jn_lo, iU_row, iU_nr, iU_eq, iU_same, jI_ixn, jI_add, jI_sub, jI_nat, q, eq_self]
      exact hg'
    · by_cases q3 : v3 = 0
      · rw [lJn_38, if_pos (.inr q3)] at hg'
        simp only [g170_28, g170_29, g170_30, g170_33, g170_34, g170_37, g170_38, g170_41, g170_42, g170_43, nl_none, nl_int, nl_ref, Option.toList_some, Option.toList_none, List.cons_append, List.nil_append, mSetI_u, mSetL_u, Nat.add_one_ne_zero, Nat.add_eq_zero_iff, and_false, false_and, not_false_eq_true, ne_eq, j0_0, j0_1, j1_0, j1_1, if_true, if_false, ite_true, ite_false, true_and, and_true, or_true, true_or, false_or, or_false, ↓reduceIte, Nat.reduceEqDiff, Nat.reduceAdd, Nat.reduceMul, Nat.reduceSub, Int.reduceLE, Int.reduceLT, Int.reduceNeg, Int.reduceAdd, Int.reduceSub, Int.reduceEq, reduceCtorEq, jI_lt, jI_eq, jI_lt0, jI_0lt, jI_eq0, jI_0le, jn_lo, iU_row, iU_nr, iU_eq, iU_same, jI_ixn, jI_add, jI_sub, jI_nat, q, q3, eq_self]
        rw [q3] at hg'
        exact hg'
      · rw [lJn_38, if_neg (fun w => w.elim q q3)] at hg'
        simp only [g170_28, g170_29, g170_30, g170_33, g170_34, g170_37, g170_38, g170_41, g170_42, g170_43, nl_none, nl_int, nl_ref, Option.toList_some, Option.toList_none, List.cons_append, List.nil_append, mSetI_u, mSetL_u, Nat.add_one_ne_zero, Nat.add_eq_zero_iff, and_false, false_and, not_false_eq_true, ne_eq, j0_0, j0_1, j1_0, j1_1, if_true, if_false, ite_true, ite_false, true_and, and_true, or_true, true_or, false_or, or_false, ↓reduceIte, Nat.reduceEqDiff, Nat.reduceAdd, Nat.reduceMul, Nat.reduceSub, Int.reduceLE, Int.reduceLT, Int.reduceNeg, Int.reduceAdd, Int.reduceSub, Int.reduceEq, reduceCtorEq, jI_lt, jI_eq, jI_lt0, jI_0lt, jI_eq0, jI_0le, jn_lo, iU_row, iU_nr, iU_eq, iU_same, jI_ixn, jI_add, jI_sub, jI_nat, q, q3, eq_self]
        exact hg'
theorem r171 {D h : Nat} {X : Nat → lRes} (hF : mFx F st nx gf rl dr) (hl : len ≤ 120) (hb : ∀ j, j < len → 0 ≤ b j ∧ b j ≤ 255) (hX : rS 170 b len en e E F X D o) (hG : lGd len h X) : rS 171 b len en e E F (lLv b len 0 X) (D + 1) o := by
  refine r_lv (m := 171) (mX := 170) (Lf := fun v a2 _ => [some (.ref 80), some (.int v), a2]) hl (by omega) ?_ ?_ ?_ hX hG
  · intro Q I P hP
    simp only [g171_in, g171_0, g171_1, nl_none, nl_int, nl_ref, Option.toList_some, Option.toList_none, List.cons_append, List.nil_append, mSetI_u, mSetL_u, Nat.add_one_ne_zero, Nat.add_eq_zero_iff, and_false, false_and, not_false_eq_true, ne_eq, j0_0, j0_1, j1_0, j1_1, if_true, if_false, ite_true, ite_false, true_and, and_true, or_true, true_or, false_or, or_false, ↓reduceIte, Nat.reduceEqDiff, Nat.reduceAdd, Nat.reduceMul, Nat.reduceSub, Int.reduceLE, Int.reduceLT, Int.reduceNeg, Int.reduceAdd, Int.reduceSub, Int.reduceEq, reduceCtorEq, jI_lt, jI_eq, jI_lt0, jI_0lt, jI_eq0, jI_0le, jn_lo, iU_row, iU_nr, iU_eq, iU_same, jI_ixn, jI_add, jI_sub, jI_nat, sh_80]
    refine hP _ (fun I2 v hg => ?_)
    simp only [g171_4, nl_none, nl_int, nl_ref, Option.toList_some, Option.toList_none, List.cons_append, List.nil_append, mSetI_u, mSetL_u, Nat.add_one_ne_zero, Nat.add_eq_zero_iff, and_false, false_and, not_false_eq_true, ne_eq, j0_0, j0_1, j1_0, j1_1, if_true, if_false, ite_true, ite_false, true_and, and_true, or_true, true_or, false_or, or_false, ↓reduceIte, Nat.reduceEqDiff, Nat.reduceAdd, Nat.reduceMul, Nat.reduceSub, Int.reduceLE, Int.reduceLT, Int.reduceNeg, Int.reduceAdd, Int.reduceSub, Int.reduceEq, reduceCtorEq, jI_lt, jI_eq, jI_lt0, jI_0lt, jI_eq0, jI_0le, jn_lo, iU_row, iU_nr, iU_eq, iU_same, jI_ixn, jI_add, jI_sub, jI_nat]
    exact hg _ none
  · intro Q I v a2 a3 P hn hP
    show mG (Q + 1) 171 5 [some (.ref 80), some (.int v), a2] [] (mLay e) (I, E, F) P
    rcases hn with hw | ⟨pos, o, hp, hr, hn⟩
    · simp only [g171_5, g171_6, g171_8, g171_11, g171_46, g171_47, nl_none, nl_int, nl_ref, Option.toList_some, Option.toList_none, List.cons_append, List.nil_append, mSetI_u, mSetL_u, Nat.add_one_ne_zero, Nat.add_eq_zero_iff, and_false, false_and, not_false_eq_true, ne_eq, j0_0, j0_1, j1_0, j1_1, if_true, if_false, ite_true, ite_false, true_and, and_true, or_true, true_or, false_or, or_false, ↓reduceIte, Nat.reduceEqDiff, Nat.reduceAdd, Nat.reduceMul, Nat.reduceSub, Int.reduceLE, Int.reduceLT, Int.reduceNeg, Int.reduceAdd, Int.reduceSub, Int.reduceEq, reduceCtorEq, jI_lt, jI_eq, jI_lt0, jI_0lt, jI_eq0, jI_0le, jn_lo, iU_row, iU_nr, iU_eq, iU_same, jI_ixn, jI_add, jI_sub, jI_nat, sh_80, r162_0 hw]
      exact hP
    · by_cases h : pos < len
      · have x0 : ¬ b pos = 124 := fun w => hn ⟨h, lLev_0.2 w⟩
        simp only [g171_5, g171_6, g171_8, g171_11, g171_46, g171_47, nl_none, nl_int, nl_ref, Option.toList_some, Option.toList_none, List.cons_append, List.nil_append, mSetI_u, mSetL_u, Nat.add_one_ne_zero, Nat.add_eq_zero_iff, and_false, false_and, not_false_eq_true, ne_eq, j0_0, j0_1, j1_0, j1_1, if_true, if_false, ite_true, ite_false, true_and, and_true, or_true, true_or, false_or, or_false, ↓reduceIte, Nat.reduceEqDiff, Nat.reduceAdd, Nat.reduceMul, Nat.reduceSub, Int.reduceLE, Int.reduceLT, Int.reduceNeg, Int.reduceAdd, Int.reduceSub, Int.reduceEq, reduceCtorEq, jI_lt, jI_eq, jI_lt0, jI_0lt, jI_eq0, jI_0le, jn_lo, iU_row, iU_nr, iU_eq, iU_same, jI_ixn, jI_add, jI_sub, jI_nat, sh_80, r162 hF hl hb hr hp (z := 124) (by omega) (by omega), x0]
        exact hP
      · simp only [g171_5, g171_6, g171_8, g171_11, g171_46, g171_47, nl_none, nl_int, nl_ref, Option.toList_some, Option.toList_none, List.cons_append, List.nil_append, mSetI_u, mSetL_u, Nat.add_one_ne_zero, Nat.add_eq_zero_iff, and_false, false_and, not_false_eq_true, ne_eq, j0_0, j0_1, j1_0, j1_1, if_true, if_false, ite_true, ite_false, true_and, and_true, or_true, true_or, false_or, or_false, ↓reduceIte, Nat.reduceEqDiff, Nat.reduceAdd, Nat.reduceMul, Nat.reduceSub, Int.reduceLE, Int.reduceLT, Int.reduceNeg, Int.reduceAdd, Int.reduceSub, Int.reduceEq, reduceCtorEq, jI_lt, jI_eq, jI_lt0, jI_0lt, jI_eq0, jI_0le, jn_lo, iU_row, iU_nr, iU_eq, iU_same, jI_ixn, jI_add, jI_sub, jI_nat, sh_80, r162 hF hl hb hr hp (z := 124) (by omega) (by omega), h]
        exact hP
  · intro Q I v a2 a3 pos o P h hr hlv hP
    show mG (Q + 1) 171 5 [some (.ref 80), some (.int v), a2] [] (mLay e) (I, E, F) P
    have hp : pos ≤ len := by omega
    have w := lLev_0.1 hlv
    rw [w] at hP
    simp only [g171_5, g171_6, g171_8, g171_11, g171_14, g171_15, g171_16, g171_19, g171_20, g171_21, g171_24, g171_25, nl_none, nl_int, nl_ref, Option.toList_some, Option.toList_none, List.cons_append, List.nil_append, mSetI_u, mSetL_u, Nat.add_one_ne_zero, Nat.add_eq_zero_iff, and_false, false_and, not_false_eq_true, ne_eq, j0_0, j0_1, j1_0, j1_1, if_true, if_false, ite_true, ite_false, true_and, and_true, or_true, true_or, false_or, or_false, ↓reduceIte, Nat.reduceEqDiff, Nat.reduceAdd, Nat.reduceMul, Nat.reduceSub, Int.reduceLE, Int.reduceLT, Int.reduceNeg, Int.reduceAdd, Int.reduceSub, Int.reduceEq, reduceCtorEq, jI_lt, jI_eq, jI_lt0, jI_0lt, jI_eq0, jI_0le, jn_lo, iU_row, iU_nr, iU_eq, iU_same, jI_ixn, jI_add, jI_sub, jI_nat, sh_80, hr.2.1, show ((pos : Nat) : Int) ≤ 2147483647 by omega, show (pos : Nat) ≤ 2147483647 by omega, r162 hF hl hb hr hp (z := 124) (by omega) (by omega), h, w, and_self, eq_self]
    refine hP _ (fun I2 v3 hg => ?_)
    have hg' := hg (some (.int v3)) none
    by_cases q : v = 0
    · by_cases q3 : v3 = 0
      · rw [lJn_124, if_pos ⟨q, q3⟩] at hg'
        simp only [g171_28, g171_29, g171_30, g171_33, g171_34, g171_37, g171_38, g171_41, g171_42, g171_43, nl_none, nl_int, nl_ref, Option.toList_some, Option.toList_none, List.cons_append, List.nil_append, mSetI_u, mSetL_u, Nat.add_one_ne_zero, Nat.add_eq_zero_iff, and_false, false_and, not_false_eq_true, ne_eq, j0_0, j0_1, j1_0, j1_1, if_true, if_false, ite_true, ite_false, true_and, and_true, or_true, true_or, false_or, or_false, ↓reduceIte, Nat.reduceEqDiff, Nat.reduceAdd, Nat.reduceMul, Nat.reduceSub, Int.reduceLE, Int.reduceLT, Int.reduceNeg, Int.reduceAdd, Int.reduceSub, Int.reduceEq, reduceCtorEq, jI_lt, jI_eq, jI_lt0, jI_0lt, jI_eq0, jI_0le, jn_lo, iU_row, iU_nr, iU_eq, iU_same, jI_ixn, jI_add, jI_sub, jI_nat, q, q3, eq_self]
        rw [q3] at hg'
        exact hg'
      · rw [lJn_124, if_neg (fun w => q3 w.2)] at hg'
        simp only [g171_28, g171_29, g171_30, g171_33, g171_34, g171_37, g171_38, g171_41, g171_42, g171_43, nl_none, nl_int, nl_ref, Option.toList_some, Option.toList_none, List.cons_append, List.nil_append, mSetI_u, mSetL_u, Nat.add_one_ne_zero, Nat.add_eq_zero_iff, and_false, false_and, not_false_eq_true, ne_eq, j0_0, j0_1, j1_0, j1_1, if_true, if_false, ite_true, ite_false, true_and, and_true, or_true, true_or, false_or, or_false, ↓reduceIte, Nat.reduceEqDiff, Nat.reduceAdd, Nat.reduceMul, Nat.reduceSub, Int.reduceLE, Int.reduceLT, Int.reduceNeg, Int.reduceAdd, Int.reduceSub, Int.reduceEq, reduceCtorEq, jI_lt, jI_eq, jI_lt0, jI_0lt, jI_eq0, jI_0le, jn_lo, iU_row, iU_nr, iU_eq, iU_same, jI_ixn, jI_add, jI_sub, jI_nat, q, q3, eq_self]
        exact hg'
    · rw [lJn_124, if_neg (fun w => q w.1)] at hg'
      simp only [g171_28, g171_29, g171_30, g171_33, g171_34, g171_37, g171_38, g171_41, g171_42, g171_43, nl_none, nl_int, nl_ref, Option.toList_some, Option.toList_none, List.cons_append, List.nil_append, mSetI_u, mSetL_u, Nat.add_one_ne_zero, Nat.add_eq_zero_iff, and_false, false_and, not_false_eq_true, ne_eq, j0_0, j0_1, j1_0, j1_1, if_true, if_false, ite_true, ite_false, true_and, and_true, or_true, true_or, false_or, or_false, ↓reduceIte, Nat.reduceEqDiff, Nat.reduceAdd, Nat.reduceMul, Nat.reduceSub, Int.reduceLE, Int.reduceLT, Int.reduceNeg, Int.reduceAdd, Int.reduceSub, Int.reduceEq, reduceCtorEq, jI_lt, jI_eq, jI_lt0, jI_0lt, jI_eq0, jI_0le, jn_lo, iU_row, iU_nr, iU_eq, iU_same, jI_ixn, jI_add, jI_sub, jI_nat, q, eq_self]
      exact hg'
theorem rE {D h : Nat} {X : Nat → lRes} (hF : mFx F st nx gf rl dr) (hl : len ≤ 120) (hb : ∀ j, j < len → 0 ≤ b j ∧ b j ≤ 255) (hX : rS 166 b len en e E F X D o) (hG : lGd len h X) : rS 171 b len en e E F (lE b len X) (D + 5) o := by
  have g4 : lGd len (h + 1) (lLv b len 4 X) := lLv_ok (by omega) hG
  have g3 : lGd len (h + 2) (lLv b len 3 (lLv b len 4 X)) := lLv_ok (by omega) g4
  have g2 : lGd len (h + 3) (lLv b len 2 (lLv b len 3 (lLv b len 4 X))) := lLv_ok (by omega) g3
  have g1 : lGd len (h + 4) (lLv b len 1 (lLv b len 2 (lLv b len 3 (lLv b len 4 X)))) := lLv_ok (by omega) g2
  exact r171 hF hl hb (r170 hF hl hb (r169 hF hl hb (r168 hF hl hb (r167 hF hl hb hX hG) g4) g3) g2) g1
theorem r166_k (hF : mFx F st nx gf rl dr) (hl : len ≤ 120) (hb : ∀ j, j < len → 0 ≤ b j ∧ b j ≤ 255) : ∀ (r : Nat) (o : Int), o + r = 6 → r ≤ 6 → rS 166 b len en e E F (lOp b len r) (3 + 6 * r) o
  | 0, o, ho, hr => by
    have e6 : o = 6 := by omega
    subst e6
    exact r166_0 hF hl hb
  | r + 1, o, ho, hr => by
    have ih := r166_k hF hl hb r (o + 1) (by omega) (by omega)
    have h := r166_s hF hl hb (show 0 ≤ o by omega) (show o < 6 by omega) ih (rE hF hl hb ih (lOp_ok r))
    rw [show 3 + 6 * (r + 1) = 3 + 6 * r + 6 by omega]
    exact h
theorem rTop (hF : mFx F st nx gf rl dr) (hl : len ≤ 120) (hb : ∀ j, j < len → 0 ≤ b j ∧ b j ≤ 255) : rS 171 b len en e E F (lE b len (lOp b len 6)) 44 0 := rE hF hl hb (r166_k hF hl hb 6 0 (by omega) (by omega)) (lOp_ok 6)
end RLV
