/-! ===== the law's text: the class reads lines ===== -/
def lPg (s w : Nat → Int32) : List lLn → Nat → Nat → Prop
  | [], p, p' => p = p'
  | (none, q) :: r, p, p' => lHo s w q.1 p ∧ lCm q.1 q.2 36 ∧ s (p + q.1.length) = jI 2 ∧ lPg s w r (p + q.1.length + 1) p'
  | (some t, q) :: r, p, p' => lHo s w t.1 p ∧ lCm t.1 t.2 36 ∧ s (p + t.1.length) = jI 3 ∧ w (p + t.1.length) = jI ((p + t.1.length + 1 + q.1.length : Nat) : Int) ∧ lHo s w q.1 (p + t.1.length + 1) ∧ lCm q.1 q.2 36 ∧ s (p + t.1.length + 1 + q.1.length) = jI 2 ∧ lPg s w r (p + t.1.length + 1 + q.1.length + 1) p'
theorem lPg_le {s w : Nat → Int32} : ∀ (r : List lLn) p p', lPg s w r p p' → p ≤ p'
  | [], p, p', h => Nat.le_of_eq h
  | (none, q) :: r, p, p', h => by
    have := lPg_le r _ _ h.2.2.2
    omega
  | (some t, q) :: r, p, p', h => by
    have := lPg_le r _ _ h.2.2.2.2.2.2.2
    omega
theorem lPg_cg {s w s' w' : Nat → Int32} : ∀ (r : List lLn) p p', (∀ j, p ≤ j → j < p' → s' j = s j ∧ w' j = w j) → lPg s w r p p' → lPg s' w' r p p'
  | [], p, p', hc, h => h
  | (none, q) :: r, p, p', hc, h => by
    obtain ⟨h1, h2, h3, h4⟩ := h
    have hl := lPg_le r _ _ h4
    exact ⟨lHo_cg q.1 p (fun j a b => hc j a (by omega)) h1, h2, (hc _ (by omega) (by omega)).1.trans h3, lPg_cg r _ _ (fun j a b => hc j (by omega) b) h4⟩
  | (some t, q) :: r, p, p', hc, h => by
    obtain ⟨h1, h2, h3, h4, h5, h6, h7, h8⟩ := h
    have hl := lPg_le r _ _ h8
    exact ⟨lHo_cg t.1 p (fun j a b => hc j a (by omega)) h1, h2, (hc _ (by omega) (by omega)).1.trans h3, (hc _ (by omega) (by omega)).2.trans h4, lHo_cg q.1 _ (fun j a b => hc j (by omega) (by omega)) h5, h6, (hc _ (by omega) (by omega)).1.trans h7, lPg_cg r _ _ (fun j a b => hc j (by omega) b) h8⟩
theorem lPg_cons {s w : Nat → Int32} {r : List lLn} {p p1 p' : Nat} : ∀ (x : lLn), lPg s w [x] p p1 → lPg s w r p1 p' → lPg s w (x :: r) p p'
  | (none, q), h, h' => by
    obtain ⟨h1, h2, h3, h4⟩ := h
    have h4 : p + q.1.length + 1 = p1 := h4
    refine ⟨h1, h2, h3, ?_⟩
    rw [h4]
    exact h'
  | (some t, q), h, h' => by
    obtain ⟨h1, h2, h3, h4, h5, h6, h7, h8⟩ := h
    have h8 : p + t.1.length + 1 + q.1.length + 1 = p1 := h8
    refine ⟨h1, h2, h3, h4, h5, h6, h7, ?_⟩
    rw [h8]
    exact h'
def cTp (l sz : Nat) (I : Nat → Nat → Int32) (r : Bool × Nat × List lLn) (m : Nat) (I' : Nat → Nat → Int32) : Prop := vAg (vScL l) I I' ∧ I' 20 2 = jI r.2.1 ∧ (r.1 = true → ∃ sz' : Nat, I' l 2 = jI sz' ∧ lPg (I' (l + 1)) (I' (l + 2)) r.2.2 sz sz' ∧ sz < sz' ∧ sz' ≤ m ∧ ∀ j, j < sz → I' (l + 1) j = I (l + 1) j ∧ I' (l + 2) j = I (l + 2) j)
section LNS
variable {d n : Nat} {e : List mShp} {I : Nat → Nat → Int32} {E : Nat → Nat → Int64} {F : Nat → Nat → Nat} {P : mPost} {st nx gf rl dr l sz pos len : Nat} {b : Nat → Int}
theorem c21_top (hF : mFx F st nx gf rl dr) (hlr : l = 70 ∨ l = 75) (hl : len ≤ 120) (hb : ∀ j, j < len → 0 ≤ b j ∧ b j ≤ 255) : cS21 b len l e E F (lE b len (lOp b len 6)) 56 0 0 := by
  have h := c23_k (e := e) (E := E) hF hlr hl hb 6 (Nat.le_refl 6)
  rw [show (6 : Int) - ((6 : Nat) : Int) = 0 from rfl] at h
  exact c21_E hF hlr hl hb h (lOp_ok 6)
theorem c19 (hF : mFx F st nx gf rl dr) (hlr : l = 70 ∨ l = 75) (hl : len ≤ 120) (hb : ∀ j, j < len → 0 ≤ b j ∧ b j ≤ 255) {Q : Nat} (hQ : 57 ≤ Q) (hp : pos ≤ len) (hs : sz ≤ pos) (hr : cRd b len I pos) (hsz : I l 2 = jI sz) (hP : ∀ I', cTp l sz I ((lLine b len pos).1, (lLine b len pos).2.1, [(lLine b len pos).2.2]) ((lLine b len pos).2.1 + 1) I' → P (some (.int (cBo (lLine b len pos).1))) (mLay e) (I', E, F)) : mF Q 19 [.ref 20, .ref l] (mLay e) (I, E, F) P := by
  obtain ⟨q, rfl⟩ : ∃ q, Q = q + 1 := ⟨Q - 1, by omega⟩
  have hE := c21_top (e := e) (E := E) hF hlr hl hb
  have hG := lTop_ok (b := b) (len := len)
  have hL := vLo_rl (e := e) hF hlr
  have hl0 : ¬ l = 0 := by omega
  have hx := hG pos hp
  rw [lLine] at hP
  simp only [g19_in, g19_0, g19_1, g19_2, g19_3, g19_4, nl_none, nl_int, nl_ref, Option.toList_some, Option.toList_none, List.cons_append, List.nil_append, mSetI_u, mSetL_u, Nat.add_one_ne_zero, Nat.add_eq_zero_iff, and_false, false_and, not_false_eq_true, ne_eq, j0_0, j0_1, j1_0, j1_1, if_true, if_false, ite_true, ite_false, true_and, and_true, or_true, true_or, false_or, or_false, ↓reduceIte, Nat.reduceEqDiff, Nat.reduceAdd, Nat.reduceMul, Nat.reduceSub, Int.reduceLE, Int.reduceLT, Int.reduceNeg, Int.reduceAdd, Int.reduceSub, Int.reduceEq, reduceCtorEq, jI_lt, jI_eq, jI_lt0, jI_0lt, jI_eq0, jI_0le, jn_lo, iU_row, iU_nr, iU_eq, iU_same, jI_ixn, jI_add, jI_sub, jI_nat, sh_20, hl0]
  refine hE q pos sz I _ _ _ (by omega) hp hs hr hsz rfl rfl (fun I1 h1 => ?_)
  by_cases qx : (lE b len (lOp b len 6) pos).1 = true
  · obtain ⟨x3, x4, x5⟩ := hx.2.2 qx
    rw [if_pos qx] at hP
    rw [cBo, if_pos qx]
    have hr1 := cPo_rd hlr h1 hr
    have hsz1 := (h1.2.2 qx).1
    by_cases qn : (lE b len (lOp b len 6) pos).2.1 < len ∧ b (lE b len (lOp b len 6) pos).2.1 = 63
    · rw [if_pos qn] at hP
      obtain ⟨A, hA⟩ : ∃ A, A = lE b len (lOp b len 6) pos := ⟨_, rfl⟩
      rw [← hA] at hP qx qn x3 x4 x5 h1 hr1 hsz1 hx
      have hx2 := hx.2.1
      have hpa := cPo_add (a := 3) (z := 0) (p' := A.2.1) (v := A.2.2.2) hlr qx h1 h1.2.1
      have hsz2 : iU I1 20 2 (jI ((A.2.1 : Int) + 1)) l 2 = jI ((sz + A.2.2.1.length : Nat) : Int) := by
        rw [iU_row (by omega)]
        exact hsz1
      obtain ⟨I3, hI3⟩ : ∃ I3, I3 = iU (iU (iU (iU I1 20 2 (jI ((A.2.1 : Int) + 1))) (l + 1) (sz + A.2.2.1.length) (jI 3)) (l + 2) (sz + A.2.2.1.length) (jI 0)) l 2 (jI (((sz + A.2.2.1.length : Nat) : Int) + 1)) := ⟨_, rfl⟩
      have hpb : cPo l sz I (true, A.2.1 + 1, A.2.2.1 ++ [(3, 0)], A.2.2.2) I3 := by
        obtain ⟨g1, g2, g3⟩ := h1
        have h1' : cPo l sz I A (iU I1 20 2 (jI ((A.2.1 : Int) + 1))) → True := fun _ => trivial
        have g1' : cPo l sz I (true, A.2.1 + 1, A.2.2.1, A.2.2.2) (iU I1 20 2 (jI ((A.2.1 : Int) + 1))) := by
          obtain ⟨k4, k5, k6⟩ := g3 qx
          refine ⟨vAg_iU g1 (.inl ⟨rfl, rfl⟩), iU_eq, fun _ => ⟨?_, ?_, fun j hj => ?_⟩⟩
          · rw [iU_row (show ¬ l = 20 by omega)]
            exact k4
          · rw [iU_row (show ¬ l + 1 = 20 by omega), iU_row (show ¬ l + 2 = 20 by omega)]
            exact k5
          · rw [iU_row (show ¬ l + 1 = 20 by omega), iU_row (show ¬ l + 2 = 20 by omega)]
            exact k6 j hj
        rw [hI3]
        exact cPo_add (a := 3) (z := 0) (p' := A.2.1 + 1) (v := A.2.2.2) hlr rfl g1' iU_eq
      have hr3 := cPo_rd hlr hpb hr
      have hb3 := hpb.2.2 rfl
      have hsz3 : I3 l 2 = jI ((sz + A.2.2.1.length + 1 : Nat) : Int) := by
        have := hb3.1
        rw [show (A.2.2.1 ++ [((3 : Int), (0 : Int))]).length = A.2.2.1.length + 1 by rw [List.length_append]; rfl] at this
        exact this
      have hy := hG (A.2.1 + 1) (by omega)
      simp only [g19_7, g19_10, g19_11, g19_12, g19_13, g19_15, g19_18, g19_21, g19_22, g19_23, g19_24, g19_27, g19_28, g19_29, g19_30, g19_31, g19_32, g19_35, g19_36, g19_37, g19_40, g19_41, g19_42, g19_43, g19_46, g19_47, g19_48, g19_49, g19_50, g19_51, nl_none, nl_int, nl_ref, Option.toList_some, Option.toList_none, List.cons_append, List.nil_append, mSetI_u, mSetL_u, Nat.add_one_ne_zero, Nat.add_eq_zero_iff, and_false, false_and, not_false_eq_true, ne_eq, j0_0, j0_1, j1_0, j1_1, if_true, if_false, ite_true, ite_false, true_and, and_true, or_true, true_or, false_or, or_false, ↓reduceIte, Nat.reduceEqDiff, Nat.reduceAdd, Nat.reduceMul, Nat.reduceSub, Int.reduceLE, Int.reduceLT, Int.reduceNeg, Int.reduceAdd, Int.reduceSub, Int.reduceEq, reduceCtorEq, jI_lt, jI_eq, jI_lt0, jI_0lt, jI_eq0, jI_0le, jn_lo, iU_row, iU_nr, iU_eq, iU_same, jI_ixn, jI_add, jI_sub, jI_nat, sh_20, hl0, hL.2.1, c20 hF hl hr1 hx.2.1 hb (z := 63) (by omega), qn, hr1.2.1, and_self, c6 hL hsz2 (show sz + A.2.2.1.length < 128 by omega)]
      rw [← hI3]
      refine hE q (A.2.1 + 1) (sz + A.2.2.1.length + 1) I3 _ _ _ (by omega) (by omega) (by omega) hr3 hsz3 rfl rfl (fun I4 h4 => ?_)
      obtain ⟨B, hB⟩ : ∃ B, B = lE b len (lOp b len 6) (A.2.1 + 1) := ⟨_, rfl⟩
      rw [← hB] at hP hy h4 ⊢
      have hy2 := hy.2.1
      have hcp : ∀ v, B.1 = true → cPo l sz I (true, B.2.1, (A.2.2.1 ++ [(3, 0)]) ++ B.2.2.1, v) I4 := fun v qb => by
        have e1 : sz + A.2.2.1.length + 1 = sz + (A.2.2.1 ++ [((3 : Int), (0 : Int))]).length := by
          rw [List.length_append]
          rfl
        rw [e1] at h4
        exact cPo_tr hlr rfl qb hpb h4
      by_cases qb : B.1 = true
      · obtain ⟨y3, y4, y5⟩ := hy.2.2 qb
        rw [cBo, if_pos qb]
        have hsz4 := (h4.2.2 qb).1
        have hq := cPo_add (a := 2) (z := 0) (p' := B.2.1) (v := B.2.2.2) hlr rfl (hcp B.2.2.2 qb) h4.2.1
        have e2 : sz + ((A.2.2.1 ++ [((3 : Int), (0 : Int))]) ++ B.2.2.1).length = sz + A.2.2.1.length + 1 + B.2.2.1.length := by
          rw [List.length_append, List.length_append, List.length_singleton]
          omega
        rw [e2] at hq
        obtain ⟨I5, hI5⟩ : ∃ I5, I5 = iU (iU (iU I4 (l + 1) (sz + A.2.2.1.length + 1 + B.2.2.1.length) (jI 2)) (l + 2) (sz + A.2.2.1.length + 1 + B.2.2.1.length) (jI 0)) l 2 (jI (((sz + A.2.2.1.length + 1 + B.2.2.1.length : Nat) : Int) + 1)) := ⟨_, rfl⟩
        rw [← hI5] at hq
        have hq3 := hq.2.2 rfl
        have hsz5 : I5 l 2 = jI ((sz + A.2.2.1.length + 1 + B.2.2.1.length + 1 : Nat) : Int) := by
          rw [hI5, iU_eq]
          rfl
        have hp' := hP (iU I5 (l + 2) (sz + A.2.2.1.length) (jI ((sz + A.2.2.1.length + 1 + B.2.2.1.length : Nat) : Int))) (by
          refine ⟨vAg_iU hq.1 (.inr (.inr (.inl rfl))), ?_, fun _ => ⟨sz + A.2.2.1.length + 1 + B.2.2.1.length + 1, ?_, ?_, by omega, ?_, fun j hj => ?_⟩⟩
          · rw [iU_row (show ¬ 20 = l + 2 by omega)]
            exact hq.2.1
          · rw [iU_row (show ¬ l = l + 2 by omega)]
            exact hsz5
          · have h6 := hq3.2.1
            have h6 : lHo (I5 (l + 1)) (I5 (l + 2)) (((A.2.2.1 ++ [(3, 0)]) ++ B.2.2.1) ++ [(2, 0)]) sz := h6
            rw [lHo_app, lHo_app, lHo_app] at h6
            obtain ⟨⟨⟨k1, k2⟩, k3⟩, k4⟩ := h6
            rw [List.length_append, List.length_singleton] at k3
            rw [List.length_append, List.length_append, List.length_singleton] at k4
            have k2 : I5 (l + 1) (sz + A.2.2.1.length) = jI 3 := k2.1
            have k4 : I5 (l + 1) (sz + (A.2.2.1.length + 1 + B.2.2.1.length)) = jI 2 := k4.1
            rw [iU_row (show ¬ l + 1 = l + 2 by omega)]
            refine ⟨lHo_cg A.2.2.1 sz (fun j a c => ⟨rfl, iU_same (by omega)⟩) k1, x5, k2, iU_eq, lHo_cg B.2.2.1 _ (fun j a c => ⟨rfl, iU_same (by omega)⟩) (by rw [show sz + A.2.2.1.length + 1 = sz + (A.2.2.1.length + 1) by omega]; exact k3), y5, ?_, rfl⟩
            rw [show sz + A.2.2.1.length + 1 + B.2.2.1.length = sz + (A.2.2.1.length + 1 + B.2.2.1.length) by omega]
            exact k4
          · show _ ≤ B.2.1 + 1
            omega
          · rw [iU_row (show ¬ l + 1 = l + 2 by omega), iU_same (show ¬ j = sz + A.2.2.1.length by omega)]
            exact hq3.2.2 j hj)
        rw [cBo, if_pos (show B.1 = true from qb)] at hp'
        simp only [g19_54, g19_57, g19_58, g19_59, g19_60, g19_61, g19_62, g19_63, g19_64, g19_67, g19_70, g19_71, nl_none, nl_int, nl_ref, Option.toList_some, Option.toList_none, List.cons_append, List.nil_append, mSetI_u, mSetL_u, Nat.add_one_ne_zero, Nat.add_eq_zero_iff, and_false, false_and, not_false_eq_true, ne_eq, j0_0, j0_1, j1_0, j1_1, if_true, if_false, ite_true, ite_false, true_and, and_true, or_true, true_or, false_or, or_false, ↓reduceIte, Nat.reduceEqDiff, Nat.reduceAdd, Nat.reduceMul, Nat.reduceSub, Int.reduceLE, Int.reduceLT, Int.reduceNeg, Int.reduceAdd, Int.reduceSub, Int.reduceEq, reduceCtorEq, jI_lt, jI_eq, jI_lt0, jI_0lt, jI_eq0, jI_0le, jn_lo, iU_row, iU_nr, iU_eq, iU_same, jI_ixn, jI_add, jI_sub, jI_nat, hl0, hL.2.1, c6 hL hsz4 (show sz + A.2.2.1.length + 1 + B.2.2.1.length < 128 by omega)]
        rw [← hI5]
        simp only [g19_67, g19_70, g19_71, nl_none, nl_int, nl_ref, Option.toList_some, Option.toList_none, List.cons_append, List.nil_append, mSetI_u, mSetL_u, Nat.add_one_ne_zero, Nat.add_eq_zero_iff, and_false, false_and, not_false_eq_true, ne_eq, j0_0, j0_1, j1_0, j1_1, if_true, if_false, ite_true, ite_false, true_and, and_true, or_true, true_or, false_or, or_false, ↓reduceIte, Nat.reduceEqDiff, Nat.reduceAdd, Nat.reduceMul, Nat.reduceSub, Int.reduceLE, Int.reduceLT, Int.reduceNeg, Int.reduceAdd, Int.reduceSub, Int.reduceEq, reduceCtorEq, jI_lt, jI_eq, jI_lt0, jI_0lt, jI_eq0, jI_0le, jn_lo, iU_row, iU_nr, iU_eq, iU_same, jI_ixn, jI_add, jI_sub, jI_nat, c7 hL hsz5 (show sz + A.2.2.1.length + 1 + B.2.2.1.length + 1 ≤ 128 by omega) (show sz + A.2.2.1.length < sz + A.2.2.1.length + 1 + B.2.2.1.length + 1 by omega), hL.2.1]
        exact hp'
      · have hp' := hP I4 ⟨vAg_tr hpb.1 h4.1, h4.2.1, fun w => absurd w qb⟩
        rw [cBo, if_neg (show ¬ B.1 = true from qb)] at hp'
        rw [cBo, if_neg qb]
        simp only [g19_54, g19_57, g19_58, nl_none, nl_int, nl_ref, Option.toList_some, Option.toList_none, List.cons_append, List.nil_append, mSetI_u, mSetL_u, Nat.add_one_ne_zero, Nat.add_eq_zero_iff, and_false, false_and, not_false_eq_true, ne_eq, j0_0, j0_1, j1_0, j1_1, if_true, if_false, ite_true, ite_false, true_and, and_true, or_true, true_or, false_or, or_false, ↓reduceIte, Nat.reduceEqDiff, Nat.reduceAdd, Nat.reduceMul, Nat.reduceSub, Int.reduceLE, Int.reduceLT, Int.reduceNeg, Int.reduceAdd, Int.reduceSub, Int.reduceEq, reduceCtorEq, jI_lt, jI_eq, jI_lt0, jI_0lt, jI_eq0, jI_0le, jn_lo, iU_row, iU_nr, iU_eq, iU_same, jI_ixn, jI_add, jI_sub, jI_nat]
        exact hp'
    · rw [if_neg qn] at hP
      obtain ⟨A, hA⟩ : ∃ A, A = lE b len (lOp b len 6) pos := ⟨_, rfl⟩
      rw [← hA] at hP qx qn x3 x4 x5 h1 hr1 hsz1 hx
      have hx2 := hx.2.1
      have hpa := cPo_add (a := 2) (z := 0) (p' := A.2.1) (v := A.2.2.2) hlr qx h1 h1.2.1
      have h6 := hpa.2.2 rfl
      have hp' := hP _ ⟨hpa.1, hpa.2.1, fun _ => ⟨sz + A.2.2.1.length + 1, by rw [iU_eq]; rfl, by
        have h7 := h6.2.1
        have h7 : lHo _ _ (A.2.2.1 ++ [(2, 0)]) sz := h7
        rw [lHo_app] at h7
        exact ⟨h7.1, x5, h7.2.1, rfl⟩, by omega, by show _ ≤ A.2.1 + 1; omega, h6.2.2⟩⟩
      simp only [g19_7, g19_10, g19_11, g19_12, g19_13, g19_15, g19_18, g19_21, g19_22, g19_23, g19_24, g19_27, g19_28, g19_29, nl_none, nl_int, nl_ref, Option.toList_some, Option.toList_none, List.cons_append, List.nil_append, mSetI_u, mSetL_u, Nat.add_one_ne_zero, Nat.add_eq_zero_iff, and_false, false_and, not_false_eq_true, ne_eq, j0_0, j0_1, j1_0, j1_1, if_true, if_false, ite_true, ite_false, true_and, and_true, or_true, true_or, false_or, or_false, ↓reduceIte, Nat.reduceEqDiff, Nat.reduceAdd, Nat.reduceMul, Nat.reduceSub, Int.reduceLE, Int.reduceLT, Int.reduceNeg, Int.reduceAdd, Int.reduceSub, Int.reduceEq, reduceCtorEq, jI_lt, jI_eq, jI_lt0, jI_0lt, jI_eq0, jI_0le, jn_lo, iU_row, iU_nr, iU_eq, iU_same, jI_ixn, jI_add, jI_sub, jI_nat, sh_20, hl0, hL.2.1, c20 hF hl hr1 hx.2.1 hb (z := 63) (by omega), qn, c6 hL hsz1 (show sz + A.2.2.1.length < 128 by omega)]
      exact hp'
  · rw [if_neg qx] at hP
    have hp' := hP I1 ⟨h1.1, h1.2.1, fun w => by cases w⟩
    rw [cBo, if_neg qx]
    simp only [g19_7, g19_10, g19_11, nl_none, nl_int, nl_ref, Option.toList_some, Option.toList_none, List.cons_append, List.nil_append, mSetI_u, mSetL_u, Nat.add_one_ne_zero, Nat.add_eq_zero_iff, and_false, false_and, not_false_eq_true, ne_eq, j0_0, j0_1, j1_0, j1_1, if_true, if_false, ite_true, ite_false, true_and, and_true, or_true, true_or, false_or, or_false, ↓reduceIte, Nat.reduceEqDiff, Nat.reduceAdd, Nat.reduceMul, Nat.reduceSub, Int.reduceLE, Int.reduceLT, Int.reduceNeg, Int.reduceAdd, Int.reduceSub, Int.reduceEq, reduceCtorEq, jI_lt, jI_eq, jI_lt0, jI_0lt, jI_eq0, jI_0le, jn_lo, iU_row, iU_nr, iU_eq, iU_same, jI_ixn, jI_add, jI_sub, jI_nat]
    exact hp'
theorem lLine_ge {b : Nat → Int} {len p : Nat} (hp : p ≤ len) : p ≤ (lLine b len p).2.1 ∧ (lLine b len p).2.1 ≤ len := by
  have h1 := lTop_ok (b := b) (len := len) p hp
  unfold lLine
  split
  · split
    · next q =>
      have h2 := lTop_ok (b := b) (len := len) ((lE b len (lOp b len 6) p).2.1 + 1) (by omega)
      show p ≤ (lE b len (lOp b len 6) ((lE b len (lOp b len 6) p).2.1 + 1)).2.1 ∧ (lE b len (lOp b len 6) ((lE b len (lOp b len 6) p).2.1 + 1)).2.1 ≤ len
      have := h1.1
      have := h2.1
      exact ⟨by omega, h2.2.1⟩
    · exact ⟨h1.1, h1.2.1⟩
  · exact ⟨h1.1, h1.2.1⟩
theorem c18_l (hF : mFx F st nx gf rl dr) (hlr : l = 70 ∨ l = 75) (hl : len ≤ 120) (hb : ∀ j, j < len → 0 ≤ b j ∧ b j ≤ 255) {Q : Nat} (hQ : 57 ≤ Q) : ∀ (k i : Nat) (y : Int) (pos sz : Nat) I, i + k = 121 → y = i → i ≤ pos → pos ≤ len → sz ≤ pos → cRd b len I pos → I l 2 = jI sz → (∀ I', cTp l sz I (lText b len k pos) 121 I' → P (some (.int (cBo (lText b len k pos).1))) (mLay e) (I', E, F)) → mG (Q + 1) 18 2 [some (.ref 20), some (.ref l), some (.int (jI y))] [] (mLay e) (I, E, F) P
  | 0, i, y, pos, sz, I, hi, hy, hip, hp, hs, hr, hsz, hP => absurd hip (by omega)
  | k + 1, i, y, pos, sz, I, hi, hy, hip, hp, hs, hr, hsz, hP => by
    have hl0 : ¬ l = 0 := by omega
    subst hy
    have hge := lLine_ge (b := b) hp
    rw [g18_2]
    simp only [g18_3, g18_5, g18_8, g18_9, g18_10, nl_none, nl_int, nl_ref, Option.toList_some, Option.toList_none, List.cons_append, List.nil_append, mSetI_u, mSetL_u, Nat.add_one_ne_zero, Nat.add_eq_zero_iff, and_false, false_and, not_false_eq_true, ne_eq, j0_0, j0_1, j1_0, j1_1, if_true, if_false, ite_true, ite_false, true_and, and_true, or_true, true_or, false_or, or_false, ↓reduceIte, Nat.reduceEqDiff, Nat.reduceAdd, Nat.reduceMul, Nat.reduceSub, Int.reduceLE, Int.reduceLT, Int.reduceNeg, Int.reduceAdd, Int.reduceSub, Int.reduceEq, reduceCtorEq, jI_lt, jI_eq, jI_lt0, jI_0lt, jI_eq0, jI_0le, jn_lo, iU_row, iU_nr, iU_eq, iU_same, jI_ixn, jI_add, jI_sub, jI_nat, sh_20, hl0, show ((i : Nat) : Int) ≤ 2147483647 by omega, show (i : Nat) ≤ 2147483647 by omega, show ¬ ((120 : Int) < (i : Int)) by omega]
    refine c19 hF hlr hl hb hQ hp hs hr hsz (fun I1 h1 => ?_)
    obtain ⟨g1, g2, g3⟩ := h1
    have g2 : I1 20 2 = jI (lLine b len pos).2.1 := g2
    rw [lText] at hP
    have r1 : I1 20 1 = jI len := (g1 20 1 (by unfold vScL; omega)).trans hr.1
    have r3 : ∀ j, j < len → I1 21 j = jI (b j) := fun j hj => (g1 21 j (by unfold vScL; omega)).trans (hr.2.2 j hj)
    by_cases qx : (lLine b len pos).1 = true
    · rw [if_pos qx] at hP
      rw [cBo, if_pos qx]
      obtain ⟨sz1, k1, k2, k3, k4, k5⟩ := g3 qx
      have k4 : sz1 ≤ (lLine b len pos).2.1 + 1 := k4
      by_cases qe : len ≤ (lLine b len pos).2.1
      · rw [if_pos qe] at hP
        have hp' := hP I1 ⟨g1, g2, fun _ => ⟨sz1, k1, k2, k3, by omega, k5⟩⟩
        simp only [g18_13, g18_16, g18_17, g18_18, g18_19, g18_22, g18_23, g18_26, g18_29, g18_30, nl_none, nl_int, nl_ref, Option.toList_some, Option.toList_none, List.cons_append, List.nil_append, mSetI_u, mSetL_u, Nat.add_one_ne_zero, Nat.add_eq_zero_iff, and_false, false_and, not_false_eq_true, ne_eq, j0_0, j0_1, j1_0, j1_1, if_true, if_false, ite_true, ite_false, true_and, and_true, or_true, true_or, false_or, or_false, ↓reduceIte, Nat.reduceEqDiff, Nat.reduceAdd, Nat.reduceMul, Nat.reduceSub, Int.reduceLE, Int.reduceLT, Int.reduceNeg, Int.reduceAdd, Int.reduceSub, Int.reduceEq, reduceCtorEq, jI_lt, jI_eq, jI_lt0, jI_0lt, jI_eq0, jI_0le, jn_lo, iU_row, iU_nr, iU_eq, iU_same, jI_ixn, jI_add, jI_sub, jI_nat, sh_20, r1, g2, show (((lLine b len pos).2.1 : Nat) : Int) ≤ 2147483647 by omega, show ((lLine b len pos).2.1 : Nat) ≤ 2147483647 by omega, show ((len : Nat) : Int) ≤ 2147483647 by omega, show (len : Nat) ≤ 2147483647 by omega, show ¬ (((lLine b len pos).2.1 : Int) < (len : Int)) by omega]
        exact hp'
      · rw [if_neg qe] at hP
        have hbp := hb (lLine b len pos).2.1 (by omega)
        by_cases q59 : b (lLine b len pos).2.1 = 59
        · rw [if_pos q59] at hP
          have ih := c18_l hF hlr hl hb hQ k (i + 1) ((i : Int) + 1) ((lLine b len pos).2.1 + 1) sz1 (iU I1 20 2 (jI (((lLine b len pos).2.1 : Int) + 1))) (by omega) (by omega) (by omega) (by omega) k4 ⟨by rw [iU_same (by omega)]; exact r1, iU_eq, fun j hj => by rw [iU_row (by omega)]; exact r3 j hj⟩ (by rw [iU_row (by omega)]; exact k1) (fun I2 h2 => by
            obtain ⟨m1, m2, m3⟩ := h2
            refine hP I2 ⟨vAg_tr (vAg_iU g1 (.inl ⟨rfl, rfl⟩)) m1, m2, fun w => ?_⟩
            obtain ⟨sz2, n1, n2, n3, n4, n5⟩ := m3 w
            have n5' : ∀ j, j < sz1 → I2 (l + 1) j = I1 (l + 1) j ∧ I2 (l + 2) j = I1 (l + 2) j := fun j hj => by
              have := n5 j hj
              rw [iU_row (show ¬ l + 1 = 20 by omega), iU_row (show ¬ l + 2 = 20 by omega)] at this
              exact this
            exact ⟨sz2, n1, lPg_cons _ (lPg_cg _ _ _ (fun j _ hj => n5' j hj) k2) n2, by omega, n4, fun j hj => ⟨(n5' j (by omega)).1.trans (k5 j hj).1, (n5' j (by omega)).2.trans (k5 j hj).2⟩⟩)
          simp only [g18_13, g18_16, g18_17, g18_18, g18_19, g18_22, g18_23, g18_26, g18_29, g18_30, g18_31, g18_32, g18_35, g18_36, g18_39, g18_40, g18_42, g18_45, g18_46, g18_47, g18_48, g18_49, g18_52, g18_53, g18_54, g18_57, g18_60, nl_none, nl_int, nl_ref, Option.toList_some, Option.toList_none, List.cons_append, List.nil_append, mSetI_u, mSetL_u, Nat.add_one_ne_zero, Nat.add_eq_zero_iff, and_false, false_and, not_false_eq_true, ne_eq, j0_0, j0_1, j1_0, j1_1, if_true, if_false, ite_true, ite_false, true_and, and_true, or_true, true_or, false_or, or_false, ↓reduceIte, Nat.reduceEqDiff, Nat.reduceAdd, Nat.reduceMul, Nat.reduceSub, Int.reduceLE, Int.reduceLT, Int.reduceNeg, Int.reduceAdd, Int.reduceSub, Int.reduceEq, reduceCtorEq, jI_lt, jI_eq, jI_lt0, jI_0lt, jI_eq0, jI_0le, jn_lo, iU_row, iU_nr, iU_eq, iU_same, jI_ixn, jI_add, jI_sub, jI_nat, sh_20, sh_21, f_20_0 hF, r1, g2, r3 (lLine b len pos).2.1 (by omega), show (((lLine b len pos).2.1 : Nat) : Int) ≤ 2147483647 by omega, show ((lLine b len pos).2.1 : Nat) ≤ 2147483647 by omega, show ((len : Nat) : Int) ≤ 2147483647 by omega, show (len : Nat) ≤ 2147483647 by omega, show ((lLine b len pos).2.1 : Int) < (len : Int) by omega, jI_in (z := (((lLine b len pos).2.1 : Int) : Int)) (n := 120) (by omega) (by omega) (by omega), q59, eq_self]
          exact ih
        · rw [if_neg q59] at hP
          have hp' := hP I1 ⟨g1, g2, fun w => by cases w⟩
          simp only [g18_13, g18_16, g18_17, g18_18, g18_19, g18_22, g18_23, g18_26, g18_29, g18_30, g18_31, g18_32, g18_35, g18_36, g18_39, g18_40, g18_42, g18_45, g18_46, nl_none, nl_int, nl_ref, Option.toList_some, Option.toList_none, List.cons_append, List.nil_append, mSetI_u, mSetL_u, Nat.add_one_ne_zero, Nat.add_eq_zero_iff, and_false, false_and, not_false_eq_true, ne_eq, j0_0, j0_1, j1_0, j1_1, if_true, if_false, ite_true, ite_false, true_and, and_true, or_true, true_or, false_or, or_false, ↓reduceIte, Nat.reduceEqDiff, Nat.reduceAdd, Nat.reduceMul, Nat.reduceSub, Int.reduceLE, Int.reduceLT, Int.reduceNeg, Int.reduceAdd, Int.reduceSub, Int.reduceEq, reduceCtorEq, jI_lt, jI_eq, jI_lt0, jI_0lt, jI_eq0, jI_0le, jn_lo, iU_row, iU_nr, iU_eq, iU_same, jI_ixn, jI_add, jI_sub, jI_nat, sh_20, sh_21, f_20_0 hF, r1, g2, r3 (lLine b len pos).2.1 (by omega), show (((lLine b len pos).2.1 : Nat) : Int) ≤ 2147483647 by omega, show ((lLine b len pos).2.1 : Nat) ≤ 2147483647 by omega, show ((len : Nat) : Int) ≤ 2147483647 by omega, show (len : Nat) ≤ 2147483647 by omega, show -2147483648 ≤ (b (lLine b len pos).2.1 : Int) by omega, show (b (lLine b len pos).2.1 : Int) ≤ 2147483647 by omega, show ((lLine b len pos).2.1 : Int) < (len : Int) by omega, jI_in (z := (((lLine b len pos).2.1 : Int) : Int)) (n := 120) (by omega) (by omega) (by omega), q59]
          exact hp'
    · rw [if_neg qx] at hP
      have hp' := hP I1 ⟨g1, g2, fun w => by cases w⟩
      rw [cBo, if_neg qx]
      simp only [g18_13, g18_16, g18_17, nl_none, nl_int, nl_ref, Option.toList_some, Option.toList_none, List.cons_append, List.nil_append, mSetI_u, mSetL_u, Nat.add_one_ne_zero, Nat.add_eq_zero_iff, and_false, false_and, not_false_eq_true, ne_eq, j0_0, j0_1, j1_0, j1_1, if_true, if_false, ite_true, ite_false, true_and, and_true, or_true, true_or, false_or, or_false, ↓reduceIte, Nat.reduceEqDiff, Nat.reduceAdd, Nat.reduceMul, Nat.reduceSub, Int.reduceLE, Int.reduceLT, Int.reduceNeg, Int.reduceAdd, Int.reduceSub, Int.reduceEq, reduceCtorEq, jI_lt, jI_eq, jI_lt0, jI_0lt, jI_eq0, jI_0le, jn_lo, iU_row, iU_nr, iU_eq, iU_same, jI_ixn, jI_add, jI_sub, jI_nat]
      exact hp'
/-- the tape goes into a law -/
theorem c17 (hF : mFx F st nx gf rl dr) (hlr : l = 70 ∨ l = 75) (hl : len ≤ 120) (hb : ∀ j, j < len → 0 ≤ b j ∧ b j ≤ 255) {Q : Nat} (hQ : 59 ≤ Q) (hl1 : I 20 1 = jI len) (ht : ∀ j, j < len → I 21 j = jI (b j)) (hP : ∀ I', vAg (fun r j => vScL l r j ∨ (r = 20 ∧ j = 1)) I I' → I' 20 1 = jI 0 → ((lText b len 121 0).1 = true → ∃ sz' : Nat, I' l 2 = jI sz' ∧ lPg (I' (l + 1)) (I' (l + 2)) (lText b len 121 0).2.2 0 sz' ∧ 0 < sz' ∧ sz' ≤ 121) → P (some (.int (jI (if (lText b len 121 0).1 = true then -1 else ((lText b len 121 0).2.1 : Int))))) (mLay e) (I', E, F)) : mF Q 17 [.ref 20, .ref l] (mLay e) (I, E, F) P := by
  obtain ⟨q, rfl⟩ : ∃ q, Q = q + 1 + 1 := ⟨Q - 2, by omega⟩
  have hl0 : ¬ l = 0 := by omega
  have hL := vLo_rl (e := e) hF hlr
  have hr : cRd b len (iU (iU I l 2 (jI 0)) 20 2 (jI 0)) 0 := ⟨by rw [iU_same (by omega), iU_row (by omega)]; exact hl1, iU_eq, fun j hj => by rw [iU_row (by omega), iU_row (by omega)]; exact ht j hj⟩
  simp only [g17_in, g17_0, g17_1, g17_2, g17_5, g17_6, g17_7, g17_10, g17_11, g17_12, g18_in, g18_0, g18_1, nl_none, nl_int, nl_ref, Option.toList_some, Option.toList_none, List.cons_append, List.nil_append, mSetI_u, mSetL_u, Nat.add_one_ne_zero, Nat.add_eq_zero_iff, and_false, false_and, not_false_eq_true, ne_eq, j0_0, j0_1, j1_0, j1_1, if_true, if_false, ite_true, ite_false, true_and, and_true, or_true, true_or, false_or, or_false, ↓reduceIte, Nat.reduceEqDiff, Nat.reduceAdd, Nat.reduceMul, Nat.reduceSub, Int.reduceLE, Int.reduceLT, Int.reduceNeg, Int.reduceAdd, Int.reduceSub, Int.reduceEq, reduceCtorEq, jI_lt, jI_eq, jI_lt0, jI_0lt, jI_eq0, jI_0le, jn_lo, iU_row, iU_nr, iU_eq, iU_same, jI_ixn, jI_add, jI_sub, jI_nat, sh_20, hl0, hL.2.1]
  refine c18_l hF hlr hl hb (by omega) 121 0 0 0 0 _ (by omega) rfl (by omega) (by omega) (by omega) hr (by rw [iU_row (by omega), iU_eq]; rfl) (fun I2 h2 => ?_)
  obtain ⟨g1, g2, g3⟩ := h2
  have ha : vAg (fun r j => vScL l r j ∨ (r = 20 ∧ j = 1)) I (iU I2 20 1 (jI 0)) := vAg_iU (vAg_tr (vAg_iU (vAg_iU vAg_rfl (.inl (.inr (.inr (.inr ⟨rfl, rfl⟩))))) (.inl (.inl ⟨rfl, rfl⟩))) (vAg_mono g1 (fun r j w => .inl w))) (.inr ⟨rfl, rfl⟩)
  have hp' := hP (iU I2 20 1 (jI 0)) ha iU_eq (fun w => by
    obtain ⟨sz', k1, k2, k3, k4, -⟩ := g3 w
    rw [iU_row (show ¬ l = 20 by omega), iU_row (show ¬ l + 1 = 20 by omega), iU_row (show ¬ l + 2 = 20 by omega)]
    exact ⟨sz', k1, k2, k3, k4⟩)
  by_cases qx : (lText b len 121 0).1 = true
  · rw [if_pos qx] at hp'
    rw [cBo, if_pos qx]
    simp only [g17_15, g17_16, g17_17, g17_18, g17_21, g17_22, g17_25, g17_26, g17_29, g17_30, g17_33, nl_none, nl_int, nl_ref, Option.toList_some, Option.toList_none, List.cons_append, List.nil_append, mSetI_u, mSetL_u, Nat.add_one_ne_zero, Nat.add_eq_zero_iff, and_false, false_and, not_false_eq_true, ne_eq, j0_0, j0_1, j1_0, j1_1, if_true, if_false, ite_true, ite_false, true_and, and_true, or_true, true_or, false_or, or_false, ↓reduceIte, Nat.reduceEqDiff, Nat.reduceAdd, Nat.reduceMul, Nat.reduceSub, Int.reduceLE, Int.reduceLT, Int.reduceNeg, Int.reduceAdd, Int.reduceSub, Int.reduceEq, reduceCtorEq, jI_lt, jI_eq, jI_lt0, jI_0lt, jI_eq0, jI_0le, jn_lo, iU_row, iU_nr, iU_eq, iU_same, jI_ixn, jI_add, jI_sub, jI_nat, sh_20]
    exact hp'
  · rw [if_neg qx] at hp'
    rw [cBo, if_neg qx]
    simp only [g17_15, g17_16, g17_17, g17_18, g17_21, g17_22, g17_25, g17_26, g17_29, g17_30, g17_33, nl_none, nl_int, nl_ref, Option.toList_some, Option.toList_none, List.cons_append, List.nil_append, mSetI_u, mSetL_u, Nat.add_one_ne_zero, Nat.add_eq_zero_iff, and_false, false_and, not_false_eq_true, ne_eq, j0_0, j0_1, j1_0, j1_1, if_true, if_false, ite_true, ite_false, true_and, and_true, or_true, true_or, false_or, or_false, ↓reduceIte, Nat.reduceEqDiff, Nat.reduceAdd, Nat.reduceMul, Nat.reduceSub, Int.reduceLE, Int.reduceLT, Int.reduceNeg, Int.reduceAdd, Int.reduceSub, Int.reduceEq, reduceCtorEq, jI_lt, jI_eq, jI_lt0, jI_0lt, jI_eq0, jI_0le, jn_lo, iU_row, iU_nr, iU_eq, iU_same, jI_ixn, jI_add, jI_sub, jI_nat, sh_20, g2]
    exact hp'
end LNS
