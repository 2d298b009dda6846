/-! ===== the reference's search: take, care ===== -/
def qMr (n : Nat) (s : qSt) (I : Nat → Nat → Int32) : Prop := I 80 25 = jI s.1 ∧ I 80 26 = jI s.2.1 ∧ (0 ≤ s.1 ∧ s.1 ≤ 2147483647) ∧ (-1 ≤ s.2.1 ∧ s.2.1 ≤ 800) ∧ (s.1 ≤ 8 → ∀ j, j < n → I 93 j = jI (s.2.2 j))
def vScK (r j : Nat) : Prop := r = 93 ∨ (r = 80 ∧ (j = 25 ∨ j = 26))
def vScG (r j : Nat) : Prop := (vScr r j ∨ r = 81) ∧ ¬ (r = 80 ∧ j = 27)
def qG (I I' : Nat → Nat → Int32) : Prop := vAg vScG I I' ∧ ∀ j, j < 42 → I' 81 j = I 81 j
theorem qG_rfl {I : Nat → Nat → Int32} : qG I I := ⟨vAg_rfl, fun _ _ => rfl⟩
theorem qG_tr {I I' I'' : Nat → Nat → Int32} (h : qG I I') (h' : qG I' I'') : qG I I'' := ⟨vAg_tr h.1 h'.1, fun j hj => (h'.2 j hj).trans (h.2 j hj)⟩
theorem qG_of {R : Nat → Nat → Prop} {I I' : Nat → Nat → Int32} (h : vAg R I I') (hR : ∀ r j, R r j → vScG r j ∧ ¬ r = 81) : qG I I' := ⟨vAg_mono h (fun r j q => (hR r j q).1), fun j _ => h 81 j (fun q => (hR _ _ q).2 rfl)⟩
theorem sc_K {r j : Nat} (q : vScK r j) : vScG r j ∧ ¬ r = 81 := by
  unfold vScK at q
  unfold vScG vScr
  omega
theorem sc_92 {r j : Nat} (q : r = 92) : vScG r j ∧ ¬ r = 81 := by
  unfold vScG vScr
  omega
theorem qG_R {n : Nat} {T : Nat → Nat → Int} {I I' : Nat → Nat → Int32} (hn : n ≤ 8) (h : qG I I') (hR : vTownR n T (I 81) (I 80 2)) : vTownR n T (I' 81) (I' 80 2) := vTr_42 hn h.2 (h.1 80 2 (by unfold vScG vScr; omega)) hR
section FUL
variable {d n : Nat} {e : List mShp} {I Ib : Nat → Nat → Int32} {E : Nat → Nat → Int64} {F : Nat → Nat → Nat} {P : mPost} {T : Nat → Nat → Int} {lw : vLw} {st nx gf rl dr : Nat} {w : Nat → Nat} {s : qSt}
theorem r190_l (hF : mFx F st nx gf rl dr) (hn : n ≤ 8) (hm2 : I 80 2 = jI n) {a1 a2 : Int32} (hw : ∀ j, j < n → I 92 j = jI (w j)) (hP : ∀ I', vAg (fun r _ => r = 93) I I' → (∀ j, j < n → I' 93 j = jI (w j)) → P none (mLay e) (I', E, F)) : ∀ (m i : Nat) (z : Int) I', i + m = n → z = i → vAg (fun r _ => r = 93) I I' → (∀ j, j < i → I' 93 j = jI (w j)) → mG d 190 36 [some (.ref 80), some (.int a1), some (.int a2), some (.int (jI z))] [] (mLay e) (I', E, F) P
  | 0, i, z, I', hi, hz, ha, hb => by
    subst hz
    have e : i = n := by omega
    subst e
    rw [g190_36]
    simp only [g190_37, g190_38, g190_41, g190_62, nl_none, nl_int, nl_ref, Option.toList_some, Option.toList_none, List.cons_append, List.nil_append, mSetI_u, mSetL_u, Nat.add_one_ne_zero, Nat.add_eq_zero_iff, and_false, false_and, not_false_eq_true, ne_eq, j0_0, j0_1, j1_0, j1_1, if_true, if_false, ite_true, ite_false, true_and, and_true, or_true, true_or, false_or, or_false, ↓reduceIte, Nat.reduceEqDiff, Nat.reduceAdd, Nat.reduceMul, Nat.reduceSub, Int.reduceLE, Int.reduceLT, Int.reduceNeg, Int.reduceAdd, Int.reduceSub, Int.reduceEq, reduceCtorEq, jI_lt, jI_eq, jI_lt0, jI_0lt, jI_eq0, jI_0le, jn_lo, iU_row, iU_nr, iU_eq, iU_same, jI_ixn, jI_add, jI_sub, jI_nat, sh_80, show I' 80 2 = jI i from (ha 80 2 (by omega)).trans hm2, show ((i : Nat) : Int) ≤ 2147483647 by omega, show (i : Nat) ≤ 2147483647 by omega, show ¬ ((i : Int) < (i : Int)) by omega]
    exact hP I' ha hb
  | m + 1, i, z, I', hi, hz, ha, hb => by
    have ih := r190_l hF hn hm2 (a1 := a1) (a2 := a2) hw hP m (i + 1)
    subst hz
    rw [g190_36]
    simp only [g190_37, g190_38, g190_41, g190_44, g190_45, g190_48, g190_49, g190_50, g190_53, g190_54, g190_55, g190_56, g190_59, nl_none, nl_int, nl_ref, Option.toList_some, Option.toList_none, List.cons_append, List.nil_append, mSetI_u, mSetL_u, Nat.add_one_ne_zero, Nat.add_eq_zero_iff, and_false, false_and, not_false_eq_true, ne_eq, j0_0, j0_1, j1_0, j1_1, if_true, if_false, ite_true, ite_false, true_and, and_true, or_true, true_or, false_or, or_false, ↓reduceIte, Nat.reduceEqDiff, Nat.reduceAdd, Nat.reduceMul, Nat.reduceSub, Int.reduceLE, Int.reduceLT, Int.reduceNeg, Int.reduceAdd, Int.reduceSub, Int.reduceEq, reduceCtorEq, jI_lt, jI_eq, jI_lt0, jI_0lt, jI_eq0, jI_0le, jn_lo, iU_row, iU_nr, iU_eq, iU_same, jI_ixn, jI_add, jI_sub, jI_nat, sh_80, sh_92, sh_93, f_80_23 hF, f_80_24 hF, show I' 80 2 = jI n from (ha 80 2 (by omega)).trans hm2, show ((i : Nat) : Int) ≤ 2147483647 by omega, show (i : Nat) ≤ 2147483647 by omega, show ((n : Nat) : Int) ≤ 2147483647 by omega, show (n : Nat) ≤ 2147483647 by omega, show (i : Int) < (n : Int) by omega, jI_in (z := ((i : Int) : Int)) (n := 8) (by omega) (by omega) (by omega), (ha 92 i (by omega)).trans (hw i (by omega))]
    refine ih _ _ (by omega) (by omega) (vAg_iU ha rfl) (fun j hj => ?_)
    by_cases ej : j = i
    · rw [ej, iU_eq]
    · rw [iU_same ej]
      exact hb j (by omega)
theorem r190 (hF : mFx F st nx gf rl dr) (hn : n ≤ 8) (hm2 : I 80 2 = jI n) {few most : Int} (hf : 0 ≤ few ∧ few ≤ 8) (hmo : 0 ≤ most ∧ most ≤ 800) (hw : ∀ j, j < n → I 92 j = jI (w j)) (hm : qMr n s I) (hP : ∀ I', vAg vScK I I' → qMr n (qTk few most w s) I' → P none (mLay e) (I', E, F)) : mF d 190 [.ref 80, .int (jI few), .int (jI most)] (mLay e) (I, E, F) P := by
  obtain ⟨m1, m2, m3, m4, m5⟩ := hm
  have fin : ∀ I', vAg (fun r _ => r = 93) (iU (iU I 80 25 (jI few)) 80 26 (jI most)) I' → (∀ j, j < n → I' 93 j = jI (w j)) → (few < s.1 ∨ (few = s.1 ∧ s.2.1 < most)) → P none (mLay e) (I', E, F) := fun I' ha hb hq => by
    refine hP I' (vAg_tr (vAg_iU (vAg_iU vAg_rfl (.inr ⟨rfl, .inl rfl⟩)) (.inr ⟨rfl, .inr rfl⟩)) (vAg_mono ha (fun r j q => .inl q))) ?_
    rw [qTk, if_pos hq]
    refine ⟨?_, ?_, ⟨hf.1, by show few ≤ 2147483647; omega⟩, ⟨by show -1 ≤ most; omega, hmo.2⟩, fun _ => hb⟩
    · rw [ha 80 25 (by omega), iU_same (by omega), iU_eq]
    · rw [ha 80 26 (by omega), iU_eq]
  have hm2' : iU (iU I 80 25 (jI few)) 80 26 (jI most) 80 2 = jI n := by
    rw [iU_same (by omega), iU_same (by omega)]
    exact hm2
  have hw' : ∀ j, j < n → iU (iU I 80 25 (jI few)) 80 26 (jI most) 92 j = jI (w j) := fun j hj => by
    rw [iU_row (by omega), iU_row (by omega)]
    exact hw j hj
  rcases (by omega : few < s.1 ∨ (few = s.1 ∧ s.2.1 < most) ∨ (¬ few < s.1 ∧ few = s.1 ∧ ¬ s.2.1 < most) ∨ (¬ few < s.1 ∧ ¬ few = s.1)) with q | q | q | q
  · simp only [g190_in, g190_0, g190_1, g190_2, g190_5, g190_8, g190_9, g190_10, g190_13, g190_16, g190_17, g190_18, g190_21, g190_24, g190_25, g190_26, g190_29, g190_30, g190_31, g190_34, g190_35, nl_none, nl_int, nl_ref, Option.toList_some, Option.toList_none, List.cons_append, List.nil_append, mSetI_u, mSetL_u, Nat.add_one_ne_zero, Nat.add_eq_zero_iff, and_false, false_and, not_false_eq_true, ne_eq, j0_0, j0_1, j1_0, j1_1, if_true, if_false, ite_true, ite_false, true_and, and_true, or_true, true_or, false_or, or_false, ↓reduceIte, Nat.reduceEqDiff, Nat.reduceAdd, Nat.reduceMul, Nat.reduceSub, Int.reduceLE, Int.reduceLT, Int.reduceNeg, Int.reduceAdd, Int.reduceSub, Int.reduceEq, reduceCtorEq, jI_lt, jI_eq, jI_lt0, jI_0lt, jI_eq0, jI_0le, jn_lo, iU_row, iU_nr, iU_eq, iU_same, jI_ixn, jI_add, jI_sub, jI_nat, sh_80, m1, m2, show -2147483648 ≤ (few : Int) by omega, show (few : Int) ≤ 2147483647 by omega, show -2147483648 ≤ (s.1 : Int) by omega, show (s.1 : Int) ≤ 2147483647 by omega, show -2147483648 ≤ (most : Int) by omega, show (most : Int) ≤ 2147483647 by omega, show -2147483648 ≤ (s.2.1 : Int) by omega, show (s.2.1 : Int) ≤ 2147483647 by omega, q]
    exact r190_l hF hn hm2' hw' (fun I' h1 h2 => fin I' h1 h2 (.inl q)) n 0 0 _ (by omega) rfl vAg_rfl (fun j hj => absurd hj (by omega))
  · simp only [g190_in, g190_0, g190_1, g190_2, g190_5, g190_8, g190_9, g190_10, g190_13, g190_16, g190_17, g190_18, g190_21, g190_24, g190_25, g190_26, g190_29, g190_30, g190_31, g190_34, g190_35, nl_none, nl_int, nl_ref, Option.toList_some, Option.toList_none, List.cons_append, List.nil_append, mSetI_u, mSetL_u, Nat.add_one_ne_zero, Nat.add_eq_zero_iff, and_false, false_and, not_false_eq_true, ne_eq, j0_0, j0_1, j1_0, j1_1, if_true, if_false, ite_true, ite_false, true_and, and_true, or_true, true_or, false_or, or_false, ↓reduceIte, Nat.reduceEqDiff, Nat.reduceAdd, Nat.reduceMul, Nat.reduceSub, Int.reduceLE, Int.reduceLT, Int.reduceNeg, Int.reduceAdd, Int.reduceSub, Int.reduceEq, reduceCtorEq, jI_lt, jI_eq, jI_lt0, jI_0lt, jI_eq0, jI_0le, jn_lo, iU_row, iU_nr, iU_eq, iU_same, jI_ixn, jI_add, jI_sub, jI_nat, sh_80, m1, m2, show -2147483648 ≤ (few : Int) by omega, show (few : Int) ≤ 2147483647 by omega, show -2147483648 ≤ (s.1 : Int) by omega, show (s.1 : Int) ≤ 2147483647 by omega, show -2147483648 ≤ (most : Int) by omega, show (most : Int) ≤ 2147483647 by omega, show -2147483648 ≤ (s.2.1 : Int) by omega, show (s.2.1 : Int) ≤ 2147483647 by omega, show ¬ (few < s.1) by omega, q.1, q.2, eq_self, Int.lt_irrefl]
    have fin' := fun I' h1 h2 => fin I' h1 h2 (.inr q)
    rw [q.1] at hm2' hw' fin'
    exact r190_l hF hn hm2' hw' fin' n 0 0 _ (by omega) rfl vAg_rfl (fun j hj => absurd hj (by omega))
  · have hp := hP I vAg_rfl (by
      rw [qTk, if_neg (by omega)]
      exact ⟨m1, m2, m3, m4, m5⟩)
    simp only [g190_in, g190_0, g190_1, g190_2, g190_5, g190_8, g190_9, g190_10, g190_13, g190_16, g190_17, g190_18, g190_21, g190_62, nl_none, nl_int, nl_ref, Option.toList_some, Option.toList_none, List.cons_append, List.nil_append, mSetI_u, mSetL_u, Nat.add_one_ne_zero, Nat.add_eq_zero_iff, and_false, false_and, not_false_eq_true, ne_eq, j0_0, j0_1, j1_0, j1_1, if_true, if_false, ite_true, ite_false, true_and, and_true, or_true, true_or, false_or, or_false, ↓reduceIte, Nat.reduceEqDiff, Nat.reduceAdd, Nat.reduceMul, Nat.reduceSub, Int.reduceLE, Int.reduceLT, Int.reduceNeg, Int.reduceAdd, Int.reduceSub, Int.reduceEq, reduceCtorEq, jI_lt, jI_eq, jI_lt0, jI_0lt, jI_eq0, jI_0le, jn_lo, iU_row, iU_nr, iU_eq, iU_same, jI_ixn, jI_add, jI_sub, jI_nat, sh_80, m1, m2, show -2147483648 ≤ (few : Int) by omega, show (few : Int) ≤ 2147483647 by omega, show -2147483648 ≤ (s.1 : Int) by omega, show (s.1 : Int) ≤ 2147483647 by omega, show -2147483648 ≤ (most : Int) by omega, show (most : Int) ≤ 2147483647 by omega, show -2147483648 ≤ (s.2.1 : Int) by omega, show (s.2.1 : Int) ≤ 2147483647 by omega, q.1, q.2.1, q.2.2, eq_self, Int.lt_irrefl]
    exact hp
  · have hp := hP I vAg_rfl (by
      rw [qTk, if_neg (by omega)]
      exact ⟨m1, m2, m3, m4, m5⟩)
    simp only [g190_in, g190_0, g190_1, g190_2, g190_5, g190_8, g190_9, g190_10, g190_13, g190_16, g190_17, g190_18, g190_21, g190_62, nl_none, nl_int, nl_ref, Option.toList_some, Option.toList_none, List.cons_append, List.nil_append, mSetI_u, mSetL_u, Nat.add_one_ne_zero, Nat.add_eq_zero_iff, and_false, false_and, not_false_eq_true, ne_eq, j0_0, j0_1, j1_0, j1_1, if_true, if_false, ite_true, ite_false, true_and, and_true, or_true, true_or, false_or, or_false, ↓reduceIte, Nat.reduceEqDiff, Nat.reduceAdd, Nat.reduceMul, Nat.reduceSub, Int.reduceLE, Int.reduceLT, Int.reduceNeg, Int.reduceAdd, Int.reduceSub, Int.reduceEq, reduceCtorEq, jI_lt, jI_eq, jI_lt0, jI_0lt, jI_eq0, jI_0le, jn_lo, iU_row, iU_nr, iU_eq, iU_same, jI_ixn, jI_add, jI_sub, jI_nat, sh_80, m1, m2, show -2147483648 ≤ (few : Int) by omega, show (few : Int) ≤ 2147483647 by omega, show -2147483648 ≤ (s.1 : Int) by omega, show (s.1 : Int) ≤ 2147483647 by omega, show -2147483648 ≤ (most : Int) by omega, show (most : Int) ≤ 2147483647 by omega, show -2147483648 ≤ (s.2.1 : Int) by omega, show (s.2.1 : Int) ≤ 2147483647 by omega, q.1, q.2]
    exact hp
/-- what a leaf does; what the search does from k before its end on -/
def r191L (n : Nat) (e : List mShp) (E : Nat → Nat → Int64) (F : Nat → Nat → Nat) (rg : Int) (lf : (Nat → Nat) → Int → qSt → qSt) (D : Nat) (Ib : Nat → Nat → Int32) : Prop := ∀ (d b : Nat) (w : Nat → Nat) (oth : Int) (s : qSt) (I : Nat → Nat → Int32) (P : mPost) (zb : Int32), qIn n n w b → 0 ≤ oth → oth ≤ 8 → qG Ib I → (∀ j, j < n → I 92 j = jI (w j)) → qMr n s I → (∀ I', qG Ib I' → (∀ j, j < n → I' 92 j = jI (w j)) → qMr n (lf w oth s) I' → P none (mLay e) (I', E, F)) → mG (d + D) 191 8 [some (.ref 80), some (.int (jI n)), some (.int zb), some (.int (jI rg)), some (.int (jI oth)), none] [] (mLay e) (I, E, F) P
def r191S (n : Nat) (e : List mShp) (E : Nat → Nat → Int64) (F : Nat → Nat → Nat) (T : Nat → Nat → Int) (rg : Int) (lf : (Nat → Nat) → Int → qSt → qSt) (D : Nat) (Ib : Nat → Nat → Int32) (k : Nat) : Prop := ∀ (d who b : Nat) (w : Nat → Nat) (oth : Int) (s : qSt) (I : Nat → Nat → Int32) (P : mPost) (zi zb zo : Int32), who + k = n → qIn n who w b → 0 ≤ oth → oth ≤ who → qG Ib I → (∀ j, j < who → I 92 j = jI (w j)) → qMr n s I → zi = jI who → zb = jI b → zo = jI oth → (∀ I', qG Ib I' → (∀ j, j < who → I' 92 j = jI (w j)) → qMr n (qSr lf T n k who w b oth s) I' → P none (mLay e) (I', E, F)) → mF (d + D + k) 191 [.ref 80, .int zi, .int zb, .int (jI rg), .int zo] (mLay e) (I, E, F) P
theorem r191_l (hF : mFx F st nx gf rl dr) (hok : vTownOk n T) (hR : vTownR n T (Ib 81) (Ib 80 2)) {rg : Int} {lf : (Nat → Nat) → Int → qSt → qSt} {D k : Nat} (ih : r191S n e E F T rg lf D Ib k) {who b : Nat} {oth : Int} (hk : who + (k + 1) = n) (hin : qIn n who w b) (h0 : 0 ≤ oth) (h1 : oth ≤ who) (hP : ∀ I', qG Ib I' → (∀ j, j < who → I' 92 j = jI (w j)) → qMr n (qLp (fun i st => if qFree who b i = true then qSr lf T n k (who + 1) (qUp w who i) (b ||| 2 ^ i) (oth + qOth T who i) st else st) n s) I' → P none (mLay e) (I', E, F)) : ∀ (m i : Nat) (z : Int) I', i + m = n → z = i → qG Ib I' → (∀ j, j < who → I' 92 j = jI (w j)) → qMr n (qLp (fun i st => if qFree who b i = true then qSr lf T n k (who + 1) (qUp w who i) (b ||| 2 ^ i) (oth + qOth T who i) st else st) i s) I' → mG (d + D + k + 1) 191 37 [some (.ref 80), some (.int (jI who)), some (.int (jI b)), some (.int (jI rg)), some (.int (jI oth)), some (.int (jI z))] [] (mLay e) (I', E, F) P
  | 0, i, z, I', hi, hz, ha, hw, hm => by
    have hn := hok.1
    have hR' := qG_R hn ha hR
    subst hz
    have e : i = n := by omega
    subst e
    rw [g191_37]
    simp only [g191_39, g191_40, g191_43, g191_108, nl_none, nl_int, nl_ref, Option.toList_some, Option.toList_none, List.cons_append, List.nil_append, mSetI_u, mSetL_u, Nat.add_one_ne_zero, Nat.add_eq_zero_iff, and_false, false_and, not_false_eq_true, ne_eq, j0_0, j0_1, j1_0, j1_1, if_true, if_false, ite_true, ite_false, true_and, and_true, or_true, true_or, false_or, or_false, ↓reduceIte, Nat.reduceEqDiff, Nat.reduceAdd, Nat.reduceMul, Nat.reduceSub, Int.reduceLE, Int.reduceLT, Int.reduceNeg, Int.reduceAdd, Int.reduceSub, Int.reduceEq, reduceCtorEq, jI_lt, jI_eq, jI_lt0, jI_0lt, jI_eq0, jI_0le, jn_lo, iU_row, iU_nr, iU_eq, iU_same, jI_ixn, jI_add, jI_sub, jI_nat, sh_80, hR'.2.2.2, show ((i : Nat) : Int) ≤ 2147483647 by omega, show (i : Nat) ≤ 2147483647 by omega, show ¬ ((i : Int) < (i : Int)) by omega]
    exact hP I' ha hw hm
  | m + 1, i, z, I', hi, hz, ha, hw, hm => by
    have ihm := r191_l hF hok hR ih hk hin h0 h1 hP m (i + 1)
    have hn := hok.1
    have hR' := qG_R hn ha hR
    have hin' : i < n := by omega
    subst hz
    rw [g191_37]
    by_cases qw : i = who
    · have hf : ¬ qFree who b i = true := fun hf => (qFree_iff.1 hf).1 qw
      have ihm' := ihm ((i : Int) + 1) I' (by omega) (by omega) ha hw (by
        rw [qLp, if_neg hf]
        exact hm)
      subst qw
      simp only [g191_39, g191_40, g191_43, g191_46, g191_48, g191_49, g191_102, g191_105, nl_none, nl_int, nl_ref, Option.toList_some, Option.toList_none, List.cons_append, List.nil_append, mSetI_u, mSetL_u, Nat.add_one_ne_zero, Nat.add_eq_zero_iff, and_false, false_and, not_false_eq_true, ne_eq, j0_0, j0_1, j1_0, j1_1, if_true, if_false, ite_true, ite_false, true_and, and_true, or_true, true_or, false_or, or_false, ↓reduceIte, Nat.reduceEqDiff, Nat.reduceAdd, Nat.reduceMul, Nat.reduceSub, Int.reduceLE, Int.reduceLT, Int.reduceNeg, Int.reduceAdd, Int.reduceSub, Int.reduceEq, reduceCtorEq, jI_lt, jI_eq, jI_lt0, jI_0lt, jI_eq0, jI_0le, jn_lo, iU_row, iU_nr, iU_eq, iU_same, jI_ixn, jI_add, jI_sub, jI_nat, sh_80, hR'.2.2.2, show ((i : Nat) : Int) ≤ 2147483647 by omega, show (i : Nat) ≤ 2147483647 by omega, show ((n : Nat) : Int) ≤ 2147483647 by omega, show (n : Nat) ≤ 2147483647 by omega, show (i : Int) < (n : Int) by omega, eq_self]
      exact ihm'
    · cases qb : pBt b i with
      | true =>
        have hf : ¬ qFree who b i = true := fun hf => by
          have := (qFree_iff.1 hf).2
          rw [qb] at this
          cases this
        have ihm' := ihm ((i : Int) + 1) I' (by omega) (by omega) ha hw (by
          rw [qLp, if_neg hf]
          exact hm)
        simp only [g191_39, g191_40, g191_43, g191_46, g191_48, g191_49, g191_52, g191_53, g191_55, g191_56, g191_57, g191_58, g191_102, g191_105, nl_none, nl_int, nl_ref, Option.toList_some, Option.toList_none, List.cons_append, List.nil_append, mSetI_u, mSetL_u, Nat.add_one_ne_zero, Nat.add_eq_zero_iff, and_false, false_and, not_false_eq_true, ne_eq, j0_0, j0_1, j1_0, j1_1, if_true, if_false, ite_true, ite_false, true_and, and_true, or_true, true_or, false_or, or_false, ↓reduceIte, Nat.reduceEqDiff, Nat.reduceAdd, Nat.reduceMul, Nat.reduceSub, Int.reduceLE, Int.reduceLT, Int.reduceNeg, Int.reduceAdd, Int.reduceSub, Int.reduceEq, reduceCtorEq, jI_lt, jI_eq, jI_lt0, jI_0lt, jI_eq0, jI_0le, jn_lo, iU_row, iU_nr, iU_eq, iU_same, jI_ixn, jI_add, jI_sub, jI_nat, sh_80, hR'.2.2.2, show ((i : Nat) : Int) ≤ 2147483647 by omega, show (i : Nat) ≤ 2147483647 by omega, show ((n : Nat) : Int) ≤ 2147483647 by omega, show (n : Nat) ≤ 2147483647 by omega, show ((who : Nat) : Int) ≤ 2147483647 by omega, show (who : Nat) ≤ 2147483647 by omega, show (i : Int) < (n : Int) by omega, show ¬ ((i : Int) = (who : Int)) by omega, qBit_t hin.1 (show i < 8 by omega) qb]
        exact ihm'
      | false =>
        have hf : qFree who b i = true := qFree_iff.2 ⟨qw, qb⟩
        have hup := qIn_up hn hin hin' hf
        have ho := qOth_in T who i
        have hwho : who < n := by omega
        have hwv := hR'.1 who hwho 4 (by omega)
        have hwo := vOk_w hok hwho
        have hT4 : -1 ≤ T 4 who ∧ T 4 who < n := ⟨hwo.2.2.2.2.2.2.2.2.1, hwo.2.2.2.2.2.2.2.2.2.1⟩
        clear hwo
        have hag : qG Ib (iU I' 92 who (jI i)) := qG_tr ha (qG_of (vAg_iU (R := fun r _ => r = 92) vAg_rfl rfl) (fun r j q => sc_92 q))
        have hmm : qMr n (qLp (fun i st => if qFree who b i = true then qSr lf T n k (who + 1) (qUp w who i) (b ||| 2 ^ i) (oth + qOth T who i) st else st) i s) (iU I' 92 who (jI i)) := by
          obtain ⟨m1, m2, m3, m4, m5⟩ := hm
          refine ⟨?_, ?_, m3, m4, fun h j hj => ?_⟩
          · rw [iU_row (by omega)]
            exact m1
          · rw [iU_row (by omega)]
            exact m2
          · rw [iU_row (by omega)]
            exact m5 h j hj
        have hww : ∀ j, j < who + 1 → iU I' 92 who (jI i) 92 j = jI (qUp w who i j) := fun j hj => by
          by_cases ej : j = who
          · rw [ej, iU_eq, qUp_eq]
          · rw [iU_same ej, qUp_lt (show j < who by omega)]
            exact hw j (by omega)
        have fin : ∀ I2, qG Ib I2 → (∀ j, j < who + 1 → I2 92 j = jI (qUp w who i j)) → qMr n (qSr lf T n k (who + 1) (qUp w who i) (b ||| 2 ^ i) (oth + qOth T who i) (qLp (fun i st => if qFree who b i = true then qSr lf T n k (who + 1) (qUp w who i) (b ||| 2 ^ i) (oth + qOth T who i) st else st) i s)) I2 → mG (d + D + k + 1) 191 37 [some (.ref 80), some (.int (jI who)), some (.int (jI b)), some (.int (jI rg)), some (.int (jI oth)), some (.int (jI ((i : Int) + 1)))] [] (mLay e) (I2, E, F) P := fun I2 h2 hw2 hm2 => by
          refine ihm _ I2 (by omega) (by omega) h2 (fun j hj => ?_) ?_
          · rw [hw2 j (by omega), qUp_lt hj]
          · rw [qLp, if_pos hf]
            exact hm2
        by_cases qt : T 4 who = i
        · have eo : oth + qOth T who i = oth + 0 := by
            unfold qOth
            rw [if_pos qt]
          simp only [g191_39, g191_40, g191_43, g191_46, g191_48, g191_49, g191_52, g191_53, g191_55, g191_56, g191_57, g191_58, g191_61, g191_62, g191_65, g191_66, g191_68, g191_69, g191_70, g191_71, g191_72, g191_73, g191_74, g191_75, g191_77, g191_78, g191_79, g191_80, g191_82, g191_83, g191_84, g191_85, g191_88, g191_90, g191_93, g191_94, g191_97, g191_98, g191_99, nl_none, nl_int, nl_ref, Option.toList_some, Option.toList_none, List.cons_append, List.nil_append, mSetI_u, mSetL_u, Nat.add_one_ne_zero, Nat.add_eq_zero_iff, and_false, false_and, not_false_eq_true, ne_eq, j0_0, j0_1, j1_0, j1_1, if_true, if_false, ite_true, ite_false, true_and, and_true, or_true, true_or, false_or, or_false, ↓reduceIte, Nat.reduceEqDiff, Nat.reduceAdd, Nat.reduceMul, Nat.reduceSub, Int.reduceLE, Int.reduceLT, Int.reduceNeg, Int.reduceAdd, Int.reduceSub, Int.reduceEq, reduceCtorEq, jI_lt, jI_eq, jI_lt0, jI_0lt, jI_eq0, jI_0le, jn_lo, iU_row, iU_nr, iU_eq, iU_same, jI_ixn, jI_add, jI_sub, jI_nat, sh_80, sh_92, f_80_23 hF, hR'.2.2.2, show ((i : Nat) : Int) ≤ 2147483647 by omega, show (i : Nat) ≤ 2147483647 by omega, show ((n : Nat) : Int) ≤ 2147483647 by omega, show (n : Nat) ≤ 2147483647 by omega, show ((who : Nat) : Int) ≤ 2147483647 by omega, show (who : Nat) ≤ 2147483647 by omega, show (i : Int) < (n : Int) by omega, show who ≤ 7 by omega, show ¬ ((i : Int) = (who : Int)) by omega, qBit_f hin.1 (show i < 8 by omega) qb, jI_in (z := ((who : Int) : Int)) (n := 8) (by omega) (by omega) (by omega), r152 hF, Int.reduceToNat, hwv, qt, eq_self]
          refine ih d (who + 1) (b ||| 2 ^ i) (qUp w who i) (oth + qOth T who i) _ _ _ _ _ _ (by omega) hup (by omega) (by omega) hag hww hmm (by rfl) (qBit_o hin.1 (by omega)) (by exact congrArg Int32.ofInt (by omega)) (fun I2 h2 hw2 hm2 => ?_)
          simp only [g191_102, g191_105, nl_none, nl_int, nl_ref, Option.toList_some, Option.toList_none, List.cons_append, List.nil_append, mSetI_u, mSetL_u, Nat.add_one_ne_zero, Nat.add_eq_zero_iff, and_false, false_and, not_false_eq_true, ne_eq, j0_0, j0_1, j1_0, j1_1, if_true, if_false, ite_true, ite_false, true_and, and_true, or_true, true_or, false_or, or_false, ↓reduceIte, Nat.reduceEqDiff, Nat.reduceAdd, Nat.reduceMul, Nat.reduceSub, Int.reduceLE, Int.reduceLT, Int.reduceNeg, Int.reduceAdd, Int.reduceSub, Int.reduceEq, reduceCtorEq, jI_lt, jI_eq, jI_lt0, jI_0lt, jI_eq0, jI_0le, jn_lo, iU_row, iU_nr, iU_eq, iU_same, jI_ixn, jI_add, jI_sub, jI_nat]
          exact fin I2 h2 hw2 hm2
        · have eo : oth + qOth T who i = oth + 1 := by
            unfold qOth
            rw [if_neg qt]
          simp only [g191_39, g191_40, g191_43, g191_46, g191_48, g191_49, g191_52, g191_53, g191_55, g191_56, g191_57, g191_58, g191_61, g191_62, g191_65, g191_66, g191_68, g191_69, g191_70, g191_71, g191_72, g191_73, g191_74, g191_75, g191_77, g191_78, g191_79, g191_80, g191_82, g191_83, g191_84, g191_85, g191_88, g191_90, g191_93, g191_94, g191_97, g191_98, g191_99, nl_none, nl_int, nl_ref, Option.toList_some, Option.toList_none, List.cons_append, List.nil_append, mSetI_u, mSetL_u, Nat.add_one_ne_zero, Nat.add_eq_zero_iff, and_false, false_and, not_false_eq_true, ne_eq, j0_0, j0_1, j1_0, j1_1, if_true, if_false, ite_true, ite_false, true_and, and_true, or_true, true_or, false_or, or_false, ↓reduceIte, Nat.reduceEqDiff, Nat.reduceAdd, Nat.reduceMul, Nat.reduceSub, Int.reduceLE, Int.reduceLT, Int.reduceNeg, Int.reduceAdd, Int.reduceSub, Int.reduceEq, reduceCtorEq, jI_lt, jI_eq, jI_lt0, jI_0lt, jI_eq0, jI_0le, jn_lo, iU_row, iU_nr, iU_eq, iU_same, jI_ixn, jI_add, jI_sub, jI_nat, sh_80, sh_92, f_80_23 hF, hR'.2.2.2, show ((i : Nat) : Int) ≤ 2147483647 by omega, show (i : Nat) ≤ 2147483647 by omega, show ((n : Nat) : Int) ≤ 2147483647 by omega, show (n : Nat) ≤ 2147483647 by omega, show ((who : Nat) : Int) ≤ 2147483647 by omega, show (who : Nat) ≤ 2147483647 by omega, show (i : Int) < (n : Int) by omega, show who ≤ 7 by omega, show ¬ ((i : Int) = (who : Int)) by omega, qBit_f hin.1 (show i < 8 by omega) qb, jI_in (z := ((who : Int) : Int)) (n := 8) (by omega) (by omega) (by omega), r152 hF, Int.reduceToNat, hwv, show -2147483648 ≤ (T 4 who : Int) by omega, show (T 4 who : Int) ≤ 2147483647 by omega, qt]
          refine ih d (who + 1) (b ||| 2 ^ i) (qUp w who i) (oth + qOth T who i) _ _ _ _ _ _ (by omega) hup (by omega) (by omega) hag hww hmm (by rfl) (qBit_o hin.1 (by omega)) (by exact congrArg Int32.ofInt (by omega)) (fun I2 h2 hw2 hm2 => ?_)
          simp only [g191_102, g191_105, nl_none, nl_int, nl_ref, Option.toList_some, Option.toList_none, List.cons_append, List.nil_append, mSetI_u, mSetL_u, Nat.add_one_ne_zero, Nat.add_eq_zero_iff, and_false, false_and, not_false_eq_true, ne_eq, j0_0, j0_1, j1_0, j1_1, if_true, if_false, ite_true, ite_false, true_and, and_true, or_true, true_or, false_or, or_false, ↓reduceIte, Nat.reduceEqDiff, Nat.reduceAdd, Nat.reduceMul, Nat.reduceSub, Int.reduceLE, Int.reduceLT, Int.reduceNeg, Int.reduceAdd, Int.reduceSub, Int.reduceEq, reduceCtorEq, jI_lt, jI_eq, jI_lt0, jI_0lt, jI_eq0, jI_0le, jn_lo, iU_row, iU_nr, iU_eq, iU_same, jI_ixn, jI_add, jI_sub, jI_nat]
          exact fin I2 h2 hw2 hm2
theorem r191_k (hF : mFx F st nx gf rl dr) (hok : vTownOk n T) (hR : vTownR n T (Ib 81) (Ib 80 2)) {rg : Int} {lf : (Nat → Nat) → Int → qSt → qSt} {D : Nat} (hL : r191L n e E F rg lf D Ib) : ∀ k, r191S n e E F T rg lf D Ib k
  | 0 => by
    intro d who b w oth s I P zi zb zo hk hi h0 h1 ha hw hm hzi hzb hzo hP
    have hn := hok.1
    have hR' := qG_R hn ha hR
    have ew : who = n := by omega
    subst ew hzi hzb hzo
    have hl := hL d b w oth s I P (jI b) hi h0 (by omega) ha hw hm hP
    simp only [g191_in, g191_0, g191_1, g191_2, g191_5, nl_none, nl_int, nl_ref, Option.toList_some, Option.toList_none, List.cons_append, List.nil_append, mSetI_u, mSetL_u, Nat.add_one_ne_zero, Nat.add_eq_zero_iff, and_false, false_and, not_false_eq_true, ne_eq, j0_0, j0_1, j1_0, j1_1, if_true, if_false, ite_true, ite_false, true_and, and_true, or_true, true_or, false_or, or_false, ↓reduceIte, Nat.reduceEqDiff, Nat.reduceAdd, Nat.reduceMul, Nat.reduceSub, Int.reduceLE, Int.reduceLT, Int.reduceNeg, Int.reduceAdd, Int.reduceSub, Int.reduceEq, reduceCtorEq, jI_lt, jI_eq, jI_lt0, jI_0lt, jI_eq0, jI_0le, jn_lo, iU_row, iU_nr, iU_eq, iU_same, jI_ixn, jI_add, jI_sub, jI_nat, sh_80, hR'.2.2.2, eq_self]
    exact hl
  | k + 1 => by
    intro d who b w oth s I P zi zb zo hk hi h0 h1 ha hw hm hzi hzb hzo hP
    have hn := hok.1
    have hR' := qG_R hn ha hR
    subst hzi hzb hzo
    rw [show d + D + (k + 1) = d + D + k + 1 from rfl]
    simp only [g191_in, g191_0, g191_1, g191_2, g191_5, g191_34, g191_35, nl_none, nl_int, nl_ref, Option.toList_some, Option.toList_none, List.cons_append, List.nil_append, mSetI_u, mSetL_u, Nat.add_one_ne_zero, Nat.add_eq_zero_iff, and_false, false_and, not_false_eq_true, ne_eq, j0_0, j0_1, j1_0, j1_1, if_true, if_false, ite_true, ite_false, true_and, and_true, or_true, true_or, false_or, or_false, ↓reduceIte, Nat.reduceEqDiff, Nat.reduceAdd, Nat.reduceMul, Nat.reduceSub, Int.reduceLE, Int.reduceLT, Int.reduceNeg, Int.reduceAdd, Int.reduceSub, Int.reduceEq, reduceCtorEq, jI_lt, jI_eq, jI_lt0, jI_0lt, jI_eq0, jI_0le, jn_lo, iU_row, iU_nr, iU_eq, iU_same, jI_ixn, jI_add, jI_sub, jI_nat, sh_80, hR'.2.2.2, show ((who : Nat) : Int) ≤ 2147483647 by omega, show (who : Nat) ≤ 2147483647 by omega, show ((n : Nat) : Int) ≤ 2147483647 by omega, show (n : Nat) ≤ 2147483647 by omega, show ¬ ((who : Int) = (n : Int)) by omega]
    exact r191_l hF hok hR (r191_k hF hok hR hL k) hk hi h0 h1 hP n 0 0 I (by omega) rfl ha hw hm
theorem r191 {Q : Nat} (hF : mFx F st nx gf rl dr) (hok : vTownOk n T) (hR : vTownR n T (Ib 81) (Ib 80 2)) {rg : Int} {lf : (Nat → Nat) → Int → qSt → qSt} {D : Nat} (hL : r191L n e E F rg lf D Ib) (hQ : D + n ≤ Q) (ha : qG Ib I) (hm : qMr n s I) (hP : ∀ I', qG Ib I' → qMr n (qSr lf T n n 0 (fun _ => 0) 0 0 s) I' → P none (mLay e) (I', E, F)) : mF Q 191 [.ref 80, .int (jI 0), .int (jI 0), .int (jI rg), .int (jI 0)] (mLay e) (I, E, F) P := by
  obtain ⟨d, rfl⟩ : ∃ d, Q = d + D + n := ⟨Q - D - n, by omega⟩
  exact r191_k hF hok hR hL n d 0 0 (fun _ => 0) 0 s I P _ _ _ (by omega) (qIn_0 n _) (by omega) (by omega) ha (fun j hj => absurd hj (by omega)) hm rfl rfl rfl (fun I' h1 _ h2 => hP I' h1 h2)
/-- mended's leaf -/
theorem r191_m (hF : mFx F st nx gf rl dr) (hn : n ≤ 8) (hm2 : Ib 80 2 = jI n) : r191L n e E F 0 (fun w oth st => qTk oth 0 w st) 1 Ib := by
  intro d b w oth s I P zb hi h0 h1 ha hw hm hP
  have hm2' : I 80 2 = jI n := (ha.1 80 2 (by unfold vScG vScr; omega)).trans hm2
  simp only [g191_8, g191_9, g191_12, g191_13, g191_15, g191_16, nl_none, nl_int, nl_ref, Option.toList_some, Option.toList_none, List.cons_append, List.nil_append, mSetI_u, mSetL_u, Nat.add_one_ne_zero, Nat.add_eq_zero_iff, and_false, false_and, not_false_eq_true, ne_eq, j0_0, j0_1, j1_0, j1_1, if_true, if_false, ite_true, ite_false, true_and, and_true, or_true, true_or, false_or, or_false, ↓reduceIte, Nat.reduceEqDiff, Nat.reduceAdd, Nat.reduceMul, Nat.reduceSub, Int.reduceLE, Int.reduceLT, Int.reduceNeg, Int.reduceAdd, Int.reduceSub, Int.reduceEq, reduceCtorEq, jI_lt, jI_eq, jI_lt0, jI_0lt, jI_eq0, jI_0le, jn_lo, iU_row, iU_nr, iU_eq, iU_same, jI_ixn, jI_add, jI_sub, jI_nat, sh_80]
  refine r190 hF hn hm2' ⟨h0, h1⟩ ⟨by omega, by omega⟩ hw hm (fun I' h2 hm3 => ?_)
  simp only [g191_19, g191_22, g191_23, g191_26, g191_29, g191_30, g191_33, nl_none, nl_int, nl_ref, Option.toList_some, Option.toList_none, List.cons_append, List.nil_append, mSetI_u, mSetL_u, Nat.add_one_ne_zero, Nat.add_eq_zero_iff, and_false, false_and, not_false_eq_true, ne_eq, j0_0, j0_1, j1_0, j1_1, if_true, if_false, ite_true, ite_false, true_and, and_true, or_true, true_or, false_or, or_false, ↓reduceIte, Nat.reduceEqDiff, Nat.reduceAdd, Nat.reduceMul, Nat.reduceSub, Int.reduceLE, Int.reduceLT, Int.reduceNeg, Int.reduceAdd, Int.reduceSub, Int.reduceEq, reduceCtorEq, jI_lt, jI_eq, jI_lt0, jI_0lt, jI_eq0, jI_0le, jn_lo, iU_row, iU_nr, iU_eq, iU_same, jI_ixn, jI_add, jI_sub, jI_nat]
  exact hP I' (qG_tr ha (qG_of h2 (fun r j q => sc_K q))) (fun j hj => (h2 92 j (by unfold vScK; omega)).trans (hw j hj)) hm3
end FUL
theorem qMd_1 (T : Nat → Nat → Int) (s : qSt) : qMd T 1 s = s := rfl
theorem api_mended (x : Int32) : mApiI vI 106 194 [.int x] := by
  rintro c lay M hc ⟨e, I, E, F, st, nx, gf, rl, dr, n, bn, T, lw, rfl, rfl, hI⟩
  have hF := hI.1
  have hI0 := hI
  obtain ⟨-, -, h3, -, h5, h6, h7, h8, h9, h10, h11, h12, h13, h14, h15, h16, h17, h18⟩ := hI
  have hrl : rl = 70 ∨ rl = 75 := by omega
  clear h3
  have hn := h5.1
  have hc4 : vTc n T 4 I := h6
  have hrl0 : ¬ rl = 0 := by omega
  obtain ⟨z, hz0, hz1, rfl⟩ := jI_of x
  by_cases h : z = -1 ∨ (0 ≤ z ∧ z < n)
  · have ref : ∀ (I1 : Nat → Nat → Int32) (P : mPost), vAg vScr I I1 → (∀ I2, qG I1 I2 → qMr n (qMd T n (2147483647, -1, fun _ => 0)) I2 → mG 100 194 28 [some (.ref 80), some (.int (jI z))] [] (mLay e) (I2, E, F) P) → mF 100 194 [.ref 80, .int (jI z)] (mLay e) (I1, E, F) P := by
      intro I1 P h01 hP
      have hR1 : vTownR n T (I1 81) (I1 80 2) := vTr_sc h01 h7
      simp only [g194_in, g194_0, g194_1, g194_2, g194_3, g194_6, g194_7, g194_8, g194_11, g194_14, g194_15, g194_16, g194_17, g194_20, g194_21, g194_22, g194_23, g194_24, g194_25, g192_in, g192_0, g192_1, g192_4, g192_7, g192_8, g192_9, g192_12, nl_none, nl_int, nl_ref, Option.toList_some, Option.toList_none, List.cons_append, List.nil_append, mSetI_u, mSetL_u, Nat.add_one_ne_zero, Nat.add_eq_zero_iff, and_false, false_and, not_false_eq_true, ne_eq, j0_0, j0_1, j1_0, j1_1, if_true, if_false, ite_true, ite_false, true_and, and_true, or_true, true_or, false_or, or_false, ↓reduceIte, Nat.reduceEqDiff, Nat.reduceAdd, Nat.reduceMul, Nat.reduceSub, Int.reduceLE, Int.reduceLT, Int.reduceNeg, Int.reduceAdd, Int.reduceSub, Int.reduceEq, reduceCtorEq, jI_lt, jI_eq, jI_lt0, jI_0lt, jI_eq0, jI_0le, jn_lo, iU_row, iU_nr, iU_eq, iU_same, jI_ixn, jI_add, jI_sub, jI_nat, sh_80, hR1.2.2.2, r146_t (z := z) (a := -1) (b := (n : Int) - 1) (by omega) (by omega) (by omega) (by omega)]
      have hg : qG I1 (iU (iU I1 80 25 (Int32.ofInt 2147483647)) 80 26 (Int32.ofInt (-1))) := qG_of (R := vScK) (vAg_iU (vAg_iU vAg_rfl (.inr ⟨rfl, .inl rfl⟩)) (.inr ⟨rfl, .inr rfl⟩)) (fun r j q => sc_K q)
      refine r191 (s := (2147483647, -1, fun _ => 0)) hF h5 hR1 (r191_m hF hn hR1.2.2.2) (show 1 + n ≤ 99 by omega) hg ⟨?_, ?_, ⟨by show (0 : Int) ≤ 2147483647; omega, by show (2147483647 : Int) ≤ 2147483647; omega⟩, ⟨by show (-1 : Int) ≤ -1; omega, by show (-1 : Int) ≤ 800; omega⟩, fun h => absurd h (by show ¬ (2147483647 : Int) ≤ 8; omega)⟩ hP
      · rw [iU_same (by omega), iU_eq]
      · rw [iU_eq]
    have fin : ∀ (I1 I2 : Nat → Nat → Int32), vAg vScr I I1 → qG I1 I2 → vI (c + 1) (mLay e) (I2, E, F) := fun I1 I2 h1 h2 => vI_ag hI0 (vAg_tr (vAg_mono h1 (fun _ _ q => .inl q)) (vAg_mono h2.1 (fun _ _ q => q.1))) (fun j hj => (h2.2 j hj).trans (h1 81 j (fun q => (sc_R q).1 rfl)))
    by_cases hn1 : n = 1
    · have cls : ∀ P : mPost, P (some (.int (jI (-2)))) (mLay e) (I, E, F) → mF 100 106 [.ref 3, .int (jI z)] (mLay e) (I, E, F) P := by
        intro P hP
        subst hn1
        rcases h with rfl | h
        · simp only [g106_in, g106_0, g106_1, g106_2, g106_5, g106_6, g106_9, g106_10, g106_13, g106_16, g106_17, g106_18, g106_19, g106_22, g106_25, g106_26, g106_29, g106_31, g106_32, g106_33, g106_36, g106_37, g106_40, g106_43, g106_44, g106_45, g106_48, g106_49, g106_52, g106_55, g106_58, g106_59, g106_62, g106_65, g106_66, g106_67, nl_none, nl_int, nl_ref, Option.toList_some, Option.toList_none, List.cons_append, List.nil_append, mSetI_u, mSetL_u, Nat.add_one_ne_zero, Nat.add_eq_zero_iff, and_false, false_and, not_false_eq_true, ne_eq, j0_0, j0_1, j1_0, j1_1, if_true, if_false, ite_true, ite_false, true_and, and_true, or_true, true_or, false_or, or_false, ↓reduceIte, Nat.reduceEqDiff, Nat.reduceAdd, Nat.reduceMul, Nat.reduceSub, Int.reduceLE, Int.reduceLT, Int.reduceNeg, Int.reduceAdd, Int.reduceSub, Int.reduceEq, reduceCtorEq, jI_lt, jI_eq, jI_lt0, jI_0lt, jI_eq0, jI_0le, jn_lo, iU_row, iU_nr, iU_eq, iU_same, jI_ixn, jI_add, jI_sub, jI_nat, sh_3, sh_4, f_3_0 hF, hc4.2.1, eq_self, show ((1 : Nat) : Int) = 1 from rfl]
          exact hP
        · simp only [g106_in, g106_0, g106_1, g106_2, g106_5, g106_6, g106_9, g106_10, g106_13, g106_16, g106_17, g106_18, g106_19, g106_22, g106_25, g106_26, g106_29, g106_31, g106_32, g106_33, g106_36, g106_37, g106_40, g106_43, g106_44, g106_45, g106_48, g106_49, g106_52, g106_55, g106_58, g106_59, g106_62, g106_65, g106_66, g106_67, nl_none, nl_int, nl_ref, Option.toList_some, Option.toList_none, List.cons_append, List.nil_append, mSetI_u, mSetL_u, Nat.add_one_ne_zero, Nat.add_eq_zero_iff, and_false, false_and, not_false_eq_true, ne_eq, j0_0, j0_1, j1_0, j1_1, if_true, if_false, ite_true, ite_false, true_and, and_true, or_true, true_or, false_or, or_false, ↓reduceIte, Nat.reduceEqDiff, Nat.reduceAdd, Nat.reduceMul, Nat.reduceSub, Int.reduceLE, Int.reduceLT, Int.reduceNeg, Int.reduceAdd, Int.reduceSub, Int.reduceEq, reduceCtorEq, jI_lt, jI_eq, jI_lt0, jI_0lt, jI_eq0, jI_0le, jn_lo, iU_row, iU_nr, iU_eq, iU_same, jI_ixn, jI_add, jI_sub, jI_nat, sh_3, sh_4, f_3_0 hF, hc4.2.1, eq_self, show -2147483648 ≤ (z : Int) by omega, show (z : Int) ≤ 2147483647 by omega, show ¬ (z = -1) by omega, c67_t (vTw_4 hF) hn h.1 h.2 hc4.2.1, show ((1 : Nat) : Int) = 1 from rfl]
          exact hP
      refine cls _ ⟨sh_80, ref I _ vAg_rfl (fun I2 h2 hm2 => ?_)⟩
      have hm3 := hm2.1
      rw [hn1, qMd_1] at hm3
      have hm3 : I2 80 25 = Int32.ofInt 2147483647 := hm3
      simp only [g194_28, g194_29, g194_32, g194_35, g194_38, g194_40, g194_43, g194_44, g194_45, g194_48, g194_49, g194_52, g194_55, g194_56, g194_59, g194_60, g194_61, nl_none, nl_int, nl_ref, Option.toList_some, Option.toList_none, List.cons_append, List.nil_append, mSetI_u, mSetL_u, Nat.add_one_ne_zero, Nat.add_eq_zero_iff, and_false, false_and, not_false_eq_true, ne_eq, j0_0, j0_1, j1_0, j1_1, if_true, if_false, ite_true, ite_false, true_and, and_true, or_true, true_or, false_or, or_false, ↓reduceIte, Nat.reduceEqDiff, Nat.reduceAdd, Nat.reduceMul, Nat.reduceSub, Int.reduceLE, Int.reduceLT, Int.reduceNeg, Int.reduceAdd, Int.reduceSub, Int.reduceEq, reduceCtorEq, jI_lt, jI_eq, jI_lt0, jI_0lt, jI_eq0, jI_0le, jn_lo, iU_row, iU_nr, iU_eq, iU_same, jI_ixn, jI_add, jI_sub, jI_nat, sh_80, hm3, eq_self]
      exact vI_fin (fin I I2 vAg_rfl h2)
    · have hh := qMd_hit (T := T) hn hn1 (2147483647, -1, fun _ => 0)
      have hrel := qMd_eq (T := T) (n := n) (a := (9, 0, fun _ => 0)) (b := (2147483647, -1, fun _ => 0)) hn (by show (9 : Int) ≤ 9; omega) (by show (9 : Int) ≤ 2147483647; omega)
      have heq : qSm T n n 0 (fun _ => 0) 0 0 (9, 0, fun _ => 0) = qMd T n (2147483647, -1, fun _ => 0) := by
        rcases hrel with h | h
        · exact h.1
        · omega
      obtain ⟨B, hB⟩ : ∃ B, B = qMd T n (2147483647, -1, fun _ => 0) := ⟨_, rfl⟩
      rw [← hB] at heq hh ref
      have key : ∀ (I1 : Nat → Nat → Int32), vAg vScr I I1 → qMm n B I1 → mG 100 106 43 [some (.ref 3), some (.int (jI z))] [] (mLay e) (I1, E, F) (fun v l1 M1 => mSh l1 80 = some (13, 44) ∧ mF 100 194 [.ref 80, .int (jI z)] l1 M1 (fun v2 l2 M2 => v2 = v ∧ (∃ r, v = some (.int r)) ∧ vI (c + 1) l2 M2)) := by
        intro I1 h1 hm1
        obtain ⟨a1, a2, a3⟩ := hm1
        rcases h with rfl | h
        · simp only [g106_43, g106_44, g106_45, g106_48, g106_49, g106_52, g106_55, g106_58, g106_59, g106_62, g106_65, g106_66, g106_67, nl_none, nl_int, nl_ref, Option.toList_some, Option.toList_none, List.cons_append, List.nil_append, mSetI_u, mSetL_u, Nat.add_one_ne_zero, Nat.add_eq_zero_iff, and_false, false_and, not_false_eq_true, ne_eq, j0_0, j0_1, j1_0, j1_1, if_true, if_false, ite_true, ite_false, true_and, and_true, or_true, true_or, false_or, or_false, ↓reduceIte, Nat.reduceEqDiff, Nat.reduceAdd, Nat.reduceMul, Nat.reduceSub, Int.reduceLE, Int.reduceLT, Int.reduceNeg, Int.reduceAdd, Int.reduceSub, Int.reduceEq, reduceCtorEq, jI_lt, jI_eq, jI_lt0, jI_0lt, jI_eq0, jI_0le, jn_lo, iU_row, iU_nr, iU_eq, iU_same, jI_ixn, jI_add, jI_sub, jI_nat, sh_3, sh_28, f_3_4 hF, a1, eq_self]
          refine ⟨sh_80, ref I1 _ h1 (fun I2 h2 hm2 => ?_)⟩
          obtain ⟨b1, b2, b3, b4, b5⟩ := hm2
          simp only [g194_28, g194_29, g194_32, g194_35, g194_38, g194_40, g194_43, g194_44, g194_45, g194_48, g194_49, g194_52, g194_55, g194_56, g194_59, g194_60, g194_61, nl_none, nl_int, nl_ref, Option.toList_some, Option.toList_none, List.cons_append, List.nil_append, mSetI_u, mSetL_u, Nat.add_one_ne_zero, Nat.add_eq_zero_iff, and_false, false_and, not_false_eq_true, ne_eq, j0_0, j0_1, j1_0, j1_1, if_true, if_false, ite_true, ite_false, true_and, and_true, or_true, true_or, false_or, or_false, ↓reduceIte, Nat.reduceEqDiff, Nat.reduceAdd, Nat.reduceMul, Nat.reduceSub, Int.reduceLE, Int.reduceLT, Int.reduceNeg, Int.reduceAdd, Int.reduceSub, Int.reduceEq, reduceCtorEq, jI_lt, jI_eq, jI_lt0, jI_0lt, jI_eq0, jI_0le, jn_lo, iU_row, iU_nr, iU_eq, iU_same, jI_ixn, jI_add, jI_sub, jI_nat, sh_80, b1, show -2147483648 ≤ (B.1 : Int) by omega, show (B.1 : Int) ≤ 2147483647 by omega, show ¬ (B.1 = 2147483647) by omega, eq_self]
          exact vI_fin (fin I1 I2 h1 h2)
        · obtain ⟨p, rfl⟩ : ∃ p : Nat, z = p := ⟨z.toNat, by omega⟩
          have hp : p < n := by omega
          simp only [g106_43, g106_44, g106_45, g106_48, g106_49, g106_52, g106_55, g106_58, g106_59, g106_62, g106_65, g106_66, g106_67, nl_none, nl_int, nl_ref, Option.toList_some, Option.toList_none, List.cons_append, List.nil_append, mSetI_u, mSetL_u, Nat.add_one_ne_zero, Nat.add_eq_zero_iff, and_false, false_and, not_false_eq_true, ne_eq, j0_0, j0_1, j1_0, j1_1, if_true, if_false, ite_true, ite_false, true_and, and_true, or_true, true_or, false_or, or_false, ↓reduceIte, Nat.reduceEqDiff, Nat.reduceAdd, Nat.reduceMul, Nat.reduceSub, Int.reduceLE, Int.reduceLT, Int.reduceNeg, Int.reduceAdd, Int.reduceSub, Int.reduceEq, reduceCtorEq, jI_lt, jI_eq, jI_lt0, jI_0lt, jI_eq0, jI_0le, jn_lo, iU_row, iU_nr, iU_eq, iU_same, jI_ixn, jI_add, jI_sub, jI_nat, sh_3, sh_28, sh_29, f_3_4 hF, f_28_0 hF, show ((p : Nat) : Int) ≤ 2147483647 by omega, show (p : Nat) ≤ 2147483647 by omega, show ¬ ((p : Int) = -1) by omega, jI_in (z := ((p : Int) : Int)) (n := 8) (by omega) (by omega) (by omega), a3 hh p hp]
          refine ⟨sh_80, ref I1 _ h1 (fun I2 h2 hm2 => ?_)⟩
          obtain ⟨b1, b2, b3, b4, b5⟩ := hm2
          simp only [g194_28, g194_29, g194_32, g194_35, g194_38, g194_40, g194_43, g194_44, g194_45, g194_48, g194_49, g194_52, g194_55, g194_56, g194_59, g194_60, g194_61, nl_none, nl_int, nl_ref, Option.toList_some, Option.toList_none, List.cons_append, List.nil_append, mSetI_u, mSetL_u, Nat.add_one_ne_zero, Nat.add_eq_zero_iff, and_false, false_and, not_false_eq_true, ne_eq, j0_0, j0_1, j1_0, j1_1, if_true, if_false, ite_true, ite_false, true_and, and_true, or_true, true_or, false_or, or_false, ↓reduceIte, Nat.reduceEqDiff, Nat.reduceAdd, Nat.reduceMul, Nat.reduceSub, Int.reduceLE, Int.reduceLT, Int.reduceNeg, Int.reduceAdd, Int.reduceSub, Int.reduceEq, reduceCtorEq, jI_lt, jI_eq, jI_lt0, jI_0lt, jI_eq0, jI_0le, jn_lo, iU_row, iU_nr, iU_eq, iU_same, jI_ixn, jI_add, jI_sub, jI_nat, sh_80, sh_93, f_80_24 hF, b1, show -2147483648 ≤ (B.1 : Int) by omega, show (B.1 : Int) ≤ 2147483647 by omega, show ¬ (B.1 = 2147483647) by omega, show ¬ ((p : Int) = -1) by omega, show ((p : Nat) : Int) ≤ 2147483647 by omega, show (p : Nat) ≤ 2147483647 by omega, jI_in (z := ((p : Int) : Int)) (n := 8) (by omega) (by omega) (by omega), b5 hh p hp]
          exact vI_fin (fin I1 I2 h1 h2)
      rcases h with rfl | h
      · simp only [g106_in, g106_0, g106_1, g106_2, g106_5, g106_6, g106_9, g106_10, g106_13, g106_16, g106_17, g106_18, g106_19, g106_22, g106_25, g106_26, g106_29, g106_31, g106_32, g106_33, g106_36, g106_37, g106_40, nl_none, nl_int, nl_ref, Option.toList_some, Option.toList_none, List.cons_append, List.nil_append, mSetI_u, mSetL_u, Nat.add_one_ne_zero, Nat.add_eq_zero_iff, and_false, false_and, not_false_eq_true, ne_eq, j0_0, j0_1, j1_0, j1_1, if_true, if_false, ite_true, ite_false, true_and, and_true, or_true, true_or, false_or, or_false, ↓reduceIte, Nat.reduceEqDiff, Nat.reduceAdd, Nat.reduceMul, Nat.reduceSub, Int.reduceLE, Int.reduceLT, Int.reduceNeg, Int.reduceAdd, Int.reduceSub, Int.reduceEq, reduceCtorEq, jI_lt, jI_eq, jI_lt0, jI_0lt, jI_eq0, jI_0le, jn_lo, iU_row, iU_nr, iU_eq, iU_same, jI_ixn, jI_add, jI_sub, jI_nat, sh_3, sh_4, sh_28, f_3_0 hF, f_3_4 hF, hc4.2.1, show ((n : Nat) : Int) ≤ 2147483647 by omega, show (n : Nat) ≤ 2147483647 by omega, show ¬ ((n : Int) = 1) by omega, eq_self]
        refine c13 (D := 99) (show n + 1 ≤ 99 by omega) hF h5 hc4 (fun I1 h1 hm1 => ?_)
        rw [heq] at hm1
        exact key I1 (vAg_mono h1 (fun r j q => by unfold vScM at q; unfold vScr; omega)) hm1
      · simp only [g106_in, g106_0, g106_1, g106_2, g106_5, g106_6, g106_9, g106_10, g106_13, g106_16, g106_17, g106_18, g106_19, g106_22, g106_25, g106_26, g106_29, g106_31, g106_32, g106_33, g106_36, g106_37, g106_40, nl_none, nl_int, nl_ref, Option.toList_some, Option.toList_none, List.cons_append, List.nil_append, mSetI_u, mSetL_u, Nat.add_one_ne_zero, Nat.add_eq_zero_iff, and_false, false_and, not_false_eq_true, ne_eq, j0_0, j0_1, j1_0, j1_1, if_true, if_false, ite_true, ite_false, true_and, and_true, or_true, true_or, false_or, or_false, ↓reduceIte, Nat.reduceEqDiff, Nat.reduceAdd, Nat.reduceMul, Nat.reduceSub, Int.reduceLE, Int.reduceLT, Int.reduceNeg, Int.reduceAdd, Int.reduceSub, Int.reduceEq, reduceCtorEq, jI_lt, jI_eq, jI_lt0, jI_0lt, jI_eq0, jI_0le, jn_lo, iU_row, iU_nr, iU_eq, iU_same, jI_ixn, jI_add, jI_sub, jI_nat, sh_3, sh_4, sh_28, f_3_0 hF, f_3_4 hF, hc4.2.1, show ((n : Nat) : Int) ≤ 2147483647 by omega, show (n : Nat) ≤ 2147483647 by omega, show -2147483648 ≤ (z : Int) by omega, show (z : Int) ≤ 2147483647 by omega, show ¬ ((n : Int) = 1) by omega, show ¬ (z = -1) by omega, c67_t (vTw_4 hF) hn h.1 h.2 hc4.2.1]
        refine c13 (D := 99) (show n + 1 ≤ 99 by omega) hF h5 hc4 (fun I1 h1 hm1 => ?_)
        rw [heq] at hm1
        exact key I1 (vAg_mono h1 (fun r j q => by unfold vScM at q; unfold vScr; omega)) hm1
  · simp only [g106_in, g106_0, g106_1, g106_2, g106_5, g106_6, g106_9, g106_10, g106_13, g106_16, g106_17, g106_18, g106_19, g106_22, g106_25, g106_26, g106_29, g106_31, g106_32, g106_33, g106_36, g106_37, g106_40, g106_43, g106_44, g106_45, g106_48, g106_49, g106_52, g106_55, g106_58, g106_59, g106_62, g106_65, g106_66, g106_67, g194_in, g194_0, g194_1, g194_2, g194_3, g194_6, g194_7, g194_8, g194_11, g194_14, g194_15, g194_16, g194_17, g194_20, g194_21, g194_22, g194_23, g194_24, g194_25, g194_28, g194_29, g194_32, g194_35, g194_38, g194_40, g194_43, g194_44, g194_45, g194_48, g194_49, g194_52, g194_55, g194_56, g194_59, g194_60, g194_61, nl_none, nl_int, nl_ref, Option.toList_some, Option.toList_none, List.cons_append, List.nil_append, mSetI_u, mSetL_u, Nat.add_one_ne_zero, Nat.add_eq_zero_iff, and_false, false_and, not_false_eq_true, ne_eq, j0_0, j0_1, j1_0, j1_1, if_true, if_false, ite_true, ite_false, true_and, and_true, or_true, true_or, false_or, or_false, ↓reduceIte, Nat.reduceEqDiff, Nat.reduceAdd, Nat.reduceMul, Nat.reduceSub, Int.reduceLE, Int.reduceLT, Int.reduceNeg, Int.reduceAdd, Int.reduceSub, Int.reduceEq, reduceCtorEq, jI_lt, jI_eq, jI_lt0, jI_0lt, jI_eq0, jI_0le, jn_lo, iU_row, iU_nr, iU_eq, iU_same, jI_ixn, jI_add, jI_sub, jI_nat, sh_3, sh_4, sh_80, f_3_0 hF, h7.2.2.2, hz0, hz1, show ¬ (z = -1) by omega, c67_f (vTw_4 hF) hn hz0 hz1 (by omega) hc4.2.1, r146_f (z := z) (a := -1) (b := (n : Int) - 1) hz0 hz1 (by omega) (by omega) (by omega) (by omega) (by omega)]
    exact vI_fin (vI_same hI0)
