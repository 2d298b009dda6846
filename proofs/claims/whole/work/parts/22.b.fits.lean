/-! ===== fits: the reference's loop ===== -/
def pCn (p : Nat → Bool) : Nat → Int
  | 0 => 0
  | m + 1 => if p m = true then pCn p m + 1 else pCn p m
def pFs (p : Nat → Bool) : Nat → Int
  | 0 => -2
  | m + 1 => if p m = true ∧ pFs p m = -2 then (m : Int) else pFs p m
theorem pFs_in (p : Nat → Bool) : ∀ m : Nat, -2 ≤ pFs p m ∧ pFs p m ≤ m
  | 0 => ⟨Int.le_refl _, by show (-2 : Int) ≤ 0; omega⟩
  | m + 1 => by
    have h := pFs_in p m
    simp only [pFs]
    split <;> omega
section FIR
variable {d n : Nat} {e : List mShp} {I : Nat → Nat → Int32} {E : Nat → Nat → Int64} {F : Nat → Nat → Nat} {P : mPost} {T : Nat → Nat → Int} {lw : vLw} {st nx gf rl dr : Nat} {y : Nat → Int}
theorem vTr_put {I' : Nat → Nat → Int32} {w told : Nat} {v : Int} (hn : n ≤ 8) (hw : w < 5) (ht : told < n) (hR : vTownR n T (I 81) (I 80 2)) (h81 : ∀ j, j < 42 → ¬ j = 5 * told + w → I' 81 j = I 81 j) (h2 : I' 80 2 = I 80 2) : vTownR n (pSet T w told v) (iU I' 81 (5 * told + w) (jI v) 81) (iU I' 81 (5 * told + w) (jI v) 80 2) := by
  refine ⟨fun i hi w' hw' => ?_, ?_, ?_, ?_⟩
  · rw [iU_r]
    unfold pSet
    by_cases q : w' = w ∧ i = told
    · rw [if_pos (show 5 * i + w' = 5 * told + w by omega), if_pos q]
    · rw [if_neg (show ¬ 5 * i + w' = 5 * told + w by omega), if_neg q, h81 _ (by omega) (by omega)]
      exact hR.1 i hi w' hw'
  · rw [iU_ne (by omega), h81 _ (by omega) (by omega), pSet_w (by omega)]
    exact hR.2.1
  · rw [iU_ne (by omega), h81 _ (by omega) (by omega), pSet_w (by omega)]
    exact hR.2.2.1
  · rw [iU_row (by omega), h2]
    exact hR.2.2.2
theorem r203_g (hF : mFx F st nx gf rl dr) (hok : vTownOk n T) (hl : ∀ g q n k s t, 0 ≤ lw g q n k s t ∧ lw g q n k s t ≤ 20) (hR : vTownR n T (I 81) (I 80 2)) (hlw : vLawR lw (I 87) (I 80 11) (I 80 12) (I 90)) {s one told zz : Nat} {ab w : Int} {x7 : Int32} (hw : 0 ≤ w ∧ w ≤ 1) (hs : s < 6) (hone : one < n) (htold : told < n) (hzz : zz ≤ 60) (hz : I 95 s = jI zz) (hy : ∀ i, i < 60 → -128 ≤ y i ∧ y i ≤ 127 ∧ E 96 (60 * s + i) = Int64.ofInt (y i)) (hP : ∀ I', vAg (fun r j => vScr r j ∨ r = 81) I I' → (∀ j, j < 42 → ¬ j = 5 * told + 1 → I' 81 j = I 81 j) → mG (d + 74) 203 216 [some (.ref 80), some (.int (jI s)), some (.int (jI ab)), some (.int (jI w)), some (.int (jI one)), some (.int (jI told)), some (.int (jI 1)), some (.int x7), some (.int (jI (pCn (pFg lw n T y one told (min zz 41)) 10))), some (.int (jI (pFs (pFg lw n T y one told (min zz 41)) 10))), some (.int (pBf (pFg lw n T y one told (min zz 41)) 10)), some (.int (jI 10))] [] (mLay e) (I', E, F) P) : ∀ (k i : Nat) (z : Int) I', i + k = 10 → z = i → vAg (fun r j => vScr r j ∨ r = 81) I I' → (∀ j, j < 42 → ¬ j = 5 * told + 1 → I' 81 j = I 81 j) → mG (d + 74) 203 115 [some (.ref 80), some (.int (jI s)), some (.int (jI ab)), some (.int (jI w)), some (.int (jI one)), some (.int (jI told)), some (.int (jI 1)), some (.int x7), some (.int (jI (pCn (pFg lw n T y one told (min zz 41)) i))), some (.int (jI (pFs (pFg lw n T y one told (min zz 41)) i))), some (.int (pBf (pFg lw n T y one told (min zz 41)) i)), some (.int (jI z))] [] (mLay e) (I', E, F) P
  | 0, i, z, I', hi, hz', ha, h81 => by
    subst hz'
    have e : i = 10 := by omega
    subst e
    rw [g203_115]
    simp only [g203_117, g203_118, g203_119, g203_122, g203_123, g203_126, g203_127, g203_128, g203_131, g203_133, nl_none, nl_int, nl_ref, Option.toList_some, Option.toList_none, List.cons_append, List.nil_append, mSetI_u, mSetL_u, Nat.add_one_ne_zero, Nat.add_eq_zero_iff, and_false, false_and, not_false_eq_true, ne_eq, j0_0, j0_1, j1_0, j1_1, if_true, if_false, ite_true, ite_false, true_and, and_true, or_true, true_or, false_or, or_false, ↓reduceIte, Nat.reduceEqDiff, Nat.reduceAdd, Nat.reduceMul, Nat.reduceSub, Int.reduceLE, Int.reduceLT, Int.reduceNeg, Int.reduceAdd, Int.reduceSub, Int.reduceEq, reduceCtorEq, jI_lt, jI_eq, jI_lt0, jI_0lt, jI_eq0, jI_0le, jn_lo, iU_row, iU_nr, iU_eq, iU_same, jI_ixn, jI_add, jI_sub, jI_nat, show -2147483648 ≤ (w : Int) by omega, show (w : Int) ≤ 2147483647 by omega, show ¬ (w = 2) by omega, show (9 : Int) < ((10 : Nat) : Int) by omega, show ((10 : Nat) : Int) = 10 from rfl]
    exact hP I' ha h81
  | k + 1, i, z, I', hi, hz', ha, h81 => by
    have ih := r203_g hF hok hl hR hlw hw hs hone htold hzz hz hy (ab := ab) (x7 := x7) hP k (i + 1)
    have hn := hok.1
    have hh : pHas n (told : Int) 1 := .inr ⟨by omega, by omega, by omega, by omega⟩
    have hm : pMay n (told : Int) 1 (i : Int) := .inr (.inl ⟨rfl, by omega, by omega⟩)
    have hok2 : vTownOk n (pSet T 1 told i) := pSet_ok hok hh hm
    have hfw := pFw_in lw n (pSet T 1 told i) y one (min zz 41) 0 (by omega)
    have hfs := pFs_in (pFg lw n T y one told (min zz 41)) i
    have hset := vTr_put (w := 1) (v := (i : Int)) (I' := I') hn (by omega) htold hR h81 (ha 80 2 (by unfold vScr; omega))
    subst hz'
    rw [g203_115]
    simp only [g203_117, g203_118, g203_119, g203_122, g203_123, g203_126, g203_127, g203_128, g203_131, g203_133, g203_136, g203_137, g203_139, g203_141, g203_143, g203_146, g203_147, g203_148, g203_151, g203_153, g203_155, g203_158, g203_159, g203_160, g203_162, nl_none, nl_int, nl_ref, Option.toList_some, Option.toList_none, List.cons_append, List.nil_append, mSetI_u, mSetL_u, Nat.add_one_ne_zero, Nat.add_eq_zero_iff, and_false, false_and, not_false_eq_true, ne_eq, j0_0, j0_1, j1_0, j1_1, if_true, if_false, ite_true, ite_false, true_and, and_true, or_true, true_or, false_or, or_false, ↓reduceIte, Nat.reduceEqDiff, Nat.reduceAdd, Nat.reduceMul, Nat.reduceSub, Int.reduceLE, Int.reduceLT, Int.reduceNeg, Int.reduceAdd, Int.reduceSub, Int.reduceEq, reduceCtorEq, jI_lt, jI_eq, jI_lt0, jI_0lt, jI_eq0, jI_0le, jn_lo, iU_row, iU_nr, iU_eq, iU_same, jI_ixn, jI_add, jI_sub, jI_nat, sh_80, show -2147483648 ≤ (w : Int) by omega, show (w : Int) ≤ 2147483647 by omega, show ((i : Nat) : Int) ≤ 2147483647 by omega, show (i : Nat) ≤ 2147483647 by omega, show ((one : Nat) : Int) ≤ 2147483647 by omega, show (one : Nat) ≤ 2147483647 by omega, show ((told : Nat) : Int) ≤ 2147483647 by omega, show (told : Nat) ≤ 2147483647 by omega, show ¬ (w = 2) by omega, show ¬ ((9 : Int) < (i : Int)) by omega, show w < 2 by omega, show told ≤ 7 by omega, r153 hF, Int.reduceToNat]
    have hA : vAg (fun r j => vScr r j ∨ r = 81) I (iU I' 81 (5 * told + 1) (jI i)) := vAg_iU ha (.inr rfl)
    refine r201 (d := d) hF hok2 hl hset (vLr_ag hA (fun r j q => by unfold vScr at q; omega) hlw) hs hone hzz ((hA 95 s (by unfold vScr; omega)).trans hz) hy (fun I2 h2 h81' => ?_)
    have ih' := ih ((i : Int) + 1) I2 (by omega) (by omega) (vAg_tr hA h2) (fun j hj hq => by
      rw [h81' j hj, iU_ne (fun w => hq w.2)]
      exact h81 j hj hq)
    by_cases q : pFw lw n (pSet T 1 told i) y one (min zz 41) 0 = -2
    · have qq : pFg lw n T y one told (min zz 41) i = true := by
        unfold pFg
        rw [q]
        rfl
      by_cases q2 : pFs (pFg lw n T y one told (min zz 41)) i = -2
      · rw [pBf, if_pos qq, pCn, if_pos qq, pFs, if_pos ⟨qq, q2⟩] at ih'
        simp only [g203_165, g203_167, g203_170, g203_173, g203_175, g203_177, g203_180, g203_182, g203_185, g203_187, g203_189, g203_191, g203_193, g203_194, g203_197, g203_200, g203_203, g203_204, g203_206, g203_207, g203_208, g203_210, g203_213, nl_none, nl_int, nl_ref, Option.toList_some, Option.toList_none, List.cons_append, List.nil_append, mSetI_u, mSetL_u, Nat.add_one_ne_zero, Nat.add_eq_zero_iff, and_false, false_and, not_false_eq_true, ne_eq, j0_0, j0_1, j1_0, j1_1, if_true, if_false, ite_true, ite_false, true_and, and_true, or_true, true_or, false_or, or_false, ↓reduceIte, Nat.reduceEqDiff, Nat.reduceAdd, Nat.reduceMul, Nat.reduceSub, Int.reduceLE, Int.reduceLT, Int.reduceNeg, Int.reduceAdd, Int.reduceSub, Int.reduceEq, reduceCtorEq, jI_lt, jI_eq, jI_lt0, jI_0lt, jI_eq0, jI_0le, jn_lo, iU_row, iU_nr, iU_eq, iU_same, jI_ixn, jI_add, jI_sub, jI_nat, q, q2, eq_self, show ((i : Nat) : Int) ≤ 2147483647 by omega, show (i : Nat) ≤ 2147483647 by omega, show ¬ ((i : Int) = -1) by omega]
        exact ih'
      · rw [pBf, if_pos qq, pCn, if_pos qq, pFs, if_neg (fun w => q2 w.2)] at ih'
        simp only [g203_165, g203_167, g203_170, g203_173, g203_175, g203_177, g203_180, g203_182, g203_185, g203_187, g203_189, g203_191, g203_193, g203_194, g203_197, g203_200, g203_203, g203_204, g203_206, g203_207, g203_208, g203_210, g203_213, nl_none, nl_int, nl_ref, Option.toList_some, Option.toList_none, List.cons_append, List.nil_append, mSetI_u, mSetL_u, Nat.add_one_ne_zero, Nat.add_eq_zero_iff, and_false, false_and, not_false_eq_true, ne_eq, j0_0, j0_1, j1_0, j1_1, if_true, if_false, ite_true, ite_false, true_and, and_true, or_true, true_or, false_or, or_false, ↓reduceIte, Nat.reduceEqDiff, Nat.reduceAdd, Nat.reduceMul, Nat.reduceSub, Int.reduceLE, Int.reduceLT, Int.reduceNeg, Int.reduceAdd, Int.reduceSub, Int.reduceEq, reduceCtorEq, jI_lt, jI_eq, jI_lt0, jI_0lt, jI_eq0, jI_0le, jn_lo, iU_row, iU_nr, iU_eq, iU_same, jI_ixn, jI_add, jI_sub, jI_nat, q, q2, eq_self, show ((i : Nat) : Int) ≤ 2147483647 by omega, show (i : Nat) ≤ 2147483647 by omega, show -2147483648 ≤ (pFs (pFg lw n T y one told (min zz 41)) i : Int) by omega, show (pFs (pFg lw n T y one told (min zz 41)) i : Int) ≤ 2147483647 by omega, show ¬ ((i : Int) = -1) by omega]
        exact ih'
    · have qq : ¬ pFg lw n T y one told (min zz 41) i = true := by
        unfold pFg
        rw [beq_iff_eq]
        exact q
      rw [pBf, if_neg qq, pCn, if_neg qq, pFs, if_neg (fun w => qq w.1)] at ih'
      simp only [g203_165, g203_167, g203_170, g203_173, g203_175, g203_177, g203_180, g203_182, g203_185, g203_187, g203_189, g203_191, g203_193, g203_194, g203_197, g203_200, g203_203, g203_204, g203_206, g203_207, g203_208, g203_210, g203_213, nl_none, nl_int, nl_ref, Option.toList_some, Option.toList_none, List.cons_append, List.nil_append, mSetI_u, mSetL_u, Nat.add_one_ne_zero, Nat.add_eq_zero_iff, and_false, false_and, not_false_eq_true, ne_eq, j0_0, j0_1, j1_0, j1_1, if_true, if_false, ite_true, ite_false, true_and, and_true, or_true, true_or, false_or, or_false, ↓reduceIte, Nat.reduceEqDiff, Nat.reduceAdd, Nat.reduceMul, Nat.reduceSub, Int.reduceLE, Int.reduceLT, Int.reduceNeg, Int.reduceAdd, Int.reduceSub, Int.reduceEq, reduceCtorEq, jI_lt, jI_eq, jI_lt0, jI_0lt, jI_eq0, jI_0le, jn_lo, iU_row, iU_nr, iU_eq, iU_same, jI_ixn, jI_add, jI_sub, jI_nat, hfw, show -2147483648 ≤ (pFw lw n (pSet T 1 told i) y one (min zz 41) 0 : Int) by omega, show (pFw lw n (pSet T 1 told i) y one (min zz 41) 0 : Int) ≤ 2147483647 by omega, q]
      exact ih'
end FIR
