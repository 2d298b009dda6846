section FIC
variable {d n : Nat} {e : List mShp} {I : Nat → Nat → Int32} {E : Nat → Nat → Int64} {F : Nat → Nat → Nat} {P : mPost} {T : Nat → Nat → Int} {lw : vLw} {st nx gf rl dr : Nat} {y : Nat → Int}
theorem r203_s (hF : mFx F st nx gf rl dr) (hok : vTownOk n T) (hl : ∀ g q n k s t, 0 ≤ lw g q n k s t ∧ lw g q n k s t ≤ 20) (hR : vTownR n T (I 81) (I 80 2)) (hlw : vLawR lw (I 87) (I 80 11) (I 80 12) (I 90)) {s one told zz : Nat} {ab v : Int} {x7 x8 x9 x10 : Int32} (hs : s < 6) (hone : one < n) (htold : told < n) (hzz : zz ≤ 60) (hz : I 95 s = jI zz) (hy : ∀ i, i < 60 → -128 ≤ y i ∧ y i ≤ 127 ∧ E 96 (60 * s + i) = Int64.ofInt (y i)) (hv : -1 ≤ v ∧ v < n) {I' : Nat → Nat → Int32} (ha : vAg (fun r j => vScr r j ∨ r = 81) I I') (h81 : ∀ j, j < 42 → ¬ j = 5 * told + 4 → I' 81 j = I 81 j) (hP : ∀ I2 x8 x9, vAg (fun r j => vScr r j ∨ r = 81) I I2 → (∀ j, j < 42 → ¬ j = 5 * told + 4 → I2 81 j = I 81 j) → mG (d + 74) 203 115 [some (.ref 80), some (.int (jI s)), some (.int (jI ab)), some (.int (jI 2)), some (.int (jI one)), some (.int (jI told)), some (.int (jI 4)), some (.int x7), some (.int x8), some (.int x9), some (.int (if ¬ v = told ∧ pFc lw n T y one told (min zz 41) v = true then x10 ||| (if v = -1 then jI 256 else (jI 1 <<< (jI v &&& 31))) else x10)), some (.int (jI (v + 1)))] [] (mLay e) (I2, E, F) P) : mG (d + 74) 203 115 [some (.ref 80), some (.int (jI s)), some (.int (jI ab)), some (.int (jI 2)), some (.int (jI one)), some (.int (jI told)), some (.int (jI 4)), some (.int x7), some (.int x8), some (.int x9), some (.int x10), some (.int (jI v))] [] (mLay e) (I', E, F) P := by
  have hn := hok.1
  have hm : I' 80 2 = jI n := (ha 80 2 (by unfold vScr; omega)).trans hR.2.2.2
  have hA : vAg (fun r j => vScr r j ∨ r = 81) I (iU I' 81 (5 * told + 4) (jI v)) := vAg_iU ha (.inr rfl)
  rw [g203_115]
  by_cases qt : v = told
  · subst qt
    have hp := hP (iU I' 81 (5 * told + 4) (jI told)) x8 x9 hA (fun j hj hq => by
      rw [iU_ne (fun w => hq w.2)]
      exact h81 j hj hq)
    rw [if_neg (fun w => w.1 rfl)] at hp
    simp only [g203_117, g203_118, g203_119, g203_122, g203_123, g203_126, g203_127, g203_128, g203_131, g203_133, g203_136, g203_137, g203_139, g203_141, g203_143, g203_146, g203_147, g203_148, g203_151, g203_153, g203_155, g203_158, g203_159, g203_160, g203_162, g203_165, g203_167, g203_170, g203_173, g203_175, g203_177, g203_180, g203_182, g203_185, g203_187, g203_189, g203_191, g203_193, g203_194, g203_197, g203_200, g203_203, g203_204, g203_206, g203_207, g203_208, g203_210, g203_213, nl_none, nl_int, nl_ref, Option.toList_some, Option.toList_none, List.cons_append, List.nil_append, mSetI_u, mSetL_u, Nat.add_one_ne_zero, Nat.add_eq_zero_iff, and_false, false_and, not_false_eq_true, ne_eq, j0_0, j0_1, j1_0, j1_1, if_true, if_false, ite_true, ite_false, true_and, and_true, or_true, true_or, false_or, or_false, ↓reduceIte, Nat.reduceEqDiff, Nat.reduceAdd, Nat.reduceMul, Nat.reduceSub, Int.reduceLE, Int.reduceLT, Int.reduceNeg, Int.reduceAdd, Int.reduceSub, Int.reduceEq, reduceCtorEq, jI_lt, jI_eq, jI_lt0, jI_0lt, jI_eq0, jI_0le, jn_lo, iU_row, iU_nr, iU_eq, iU_same, jI_ixn, jI_add, jI_sub, jI_nat, sh_80, hm, show ((told : Nat) : Int) ≤ 2147483647 by omega, show (told : Nat) ≤ 2147483647 by omega, show ((n : Nat) : Int) ≤ 2147483647 by omega, show (n : Nat) ≤ 2147483647 by omega, show -2147483648 ≤ ((n : Int) - 1 : Int) by omega, show ((n : Int) - 1 : Int) ≤ 2147483647 by omega, show ¬ ((n : Int) - 1 < (told : Int)) by omega, show told ≤ 7 by omega, r153 hF, Int.reduceToNat, eq_self]
    exact hp
  · have hh : pHas n (told : Int) 4 := .inr ⟨by omega, by omega, by omega, by omega⟩
    have hmay : pMay n (told : Int) 4 v := .inr (.inr (.inr (.inr (.inl ⟨rfl, by omega⟩))))
    have hok2 : vTownOk n (pSet T 4 told v) := pSet_ok hok hh hmay
    have hfw := pFw_in lw n (pSet T 4 told v) y one (min zz 41) 0 (by omega)
    have hset := vTr_put (w := 4) (v := v) (I' := I') hn (by omega) htold hR h81 (ha 80 2 (by unfold vScr; omega))
    simp only [g203_117, g203_118, g203_119, g203_122, g203_123, g203_126, g203_127, g203_128, g203_131, g203_133, g203_136, g203_137, g203_139, g203_141, g203_143, g203_146, g203_147, g203_148, g203_151, g203_153, g203_155, g203_158, g203_159, g203_160, g203_162, nl_none, nl_int, nl_ref, Option.toList_some, Option.toList_none, List.cons_append, List.nil_append, mSetI_u, mSetL_u, Nat.add_one_ne_zero, Nat.add_eq_zero_iff, and_false, false_and, not_false_eq_true, ne_eq, j0_0, j0_1, j1_0, j1_1, if_true, if_false, ite_true, ite_false, true_and, and_true, or_true, true_or, false_or, or_false, ↓reduceIte, Nat.reduceEqDiff, Nat.reduceAdd, Nat.reduceMul, Nat.reduceSub, Int.reduceLE, Int.reduceLT, Int.reduceNeg, Int.reduceAdd, Int.reduceSub, Int.reduceEq, reduceCtorEq, jI_lt, jI_eq, jI_lt0, jI_0lt, jI_eq0, jI_0le, jn_lo, iU_row, iU_nr, iU_eq, iU_same, jI_ixn, jI_add, jI_sub, jI_nat, sh_80, hm, show -2147483648 ≤ (v : Int) by omega, show (v : Int) ≤ 2147483647 by omega, show -2147483648 ≤ ((n : Int) - 1 : Int) by omega, show ((n : Int) - 1 : Int) ≤ 2147483647 by omega, show ((one : Nat) : Int) ≤ 2147483647 by omega, show (one : Nat) ≤ 2147483647 by omega, show ((told : Nat) : Int) ≤ 2147483647 by omega, show (told : Nat) ≤ 2147483647 by omega, show ¬ ((n : Int) - 1 < v) by omega, show ¬ (v = (told : Int)) by omega, show told ≤ 7 by omega, r153 hF, Int.reduceToNat, eq_self]
    refine r201 (d := d) hF hok2 hl hset (vLr_ag hA (fun r j q => by unfold vScr at q; omega) hlw) hs hone hzz ((hA 95 s (by unfold vScr; omega)).trans hz) hy (fun I2 h2 h81' => ?_)
    have hp := fun x8 x9 => hP I2 x8 x9 (vAg_tr hA h2) (fun j hj hq => by
      rw [h81' j hj, iU_ne (fun w => hq w.2)]
      exact h81 j hj hq)
    by_cases q : pFw lw n (pSet T 4 told v) y one (min zz 41) 0 = -2
    · have qq : pFc lw n T y one told (min zz 41) v = true := by
        unfold pFc
        rw [q]
        rfl
      rw [if_pos ⟨qt, qq⟩] at hp
      by_cases q9 : x9 = Int32.ofInt (-2)
      · by_cases qv : v = -1
        · rw [if_pos qv] at hp
          subst qv
          simp only [g203_165, g203_167, g203_170, g203_173, g203_175, g203_177, g203_180, g203_182, g203_185, g203_187, g203_189, g203_191, g203_193, g203_194, g203_197, g203_200, g203_203, g203_204, g203_206, g203_207, g203_208, g203_210, g203_213, nl_none, nl_int, nl_ref, Option.toList_some, Option.toList_none, List.cons_append, List.nil_append, mSetI_u, mSetL_u, Nat.add_one_ne_zero, Nat.add_eq_zero_iff, and_false, false_and, not_false_eq_true, ne_eq, j0_0, j0_1, j1_0, j1_1, if_true, if_false, ite_true, ite_false, true_and, and_true, or_true, true_or, false_or, or_false, ↓reduceIte, Nat.reduceEqDiff, Nat.reduceAdd, Nat.reduceMul, Nat.reduceSub, Int.reduceLE, Int.reduceLT, Int.reduceNeg, Int.reduceAdd, Int.reduceSub, Int.reduceEq, reduceCtorEq, jI_lt, jI_eq, jI_lt0, jI_0lt, jI_eq0, jI_0le, jn_lo, iU_row, iU_nr, iU_eq, iU_same, jI_ixn, jI_add, jI_sub, jI_nat, q, q9, eq_self]
          exact hp _ _
        · rw [if_neg qv] at hp
          simp only [g203_165, g203_167, g203_170, g203_173, g203_175, g203_177, g203_180, g203_182, g203_185, g203_187, g203_189, g203_191, g203_193, g203_194, g203_197, g203_200, g203_203, g203_204, g203_206, g203_207, g203_208, g203_210, g203_213, nl_none, nl_int, nl_ref, Option.toList_some, Option.toList_none, List.cons_append, List.nil_append, mSetI_u, mSetL_u, Nat.add_one_ne_zero, Nat.add_eq_zero_iff, and_false, false_and, not_false_eq_true, ne_eq, j0_0, j0_1, j1_0, j1_1, if_true, if_false, ite_true, ite_false, true_and, and_true, or_true, true_or, false_or, or_false, ↓reduceIte, Nat.reduceEqDiff, Nat.reduceAdd, Nat.reduceMul, Nat.reduceSub, Int.reduceLE, Int.reduceLT, Int.reduceNeg, Int.reduceAdd, Int.reduceSub, Int.reduceEq, reduceCtorEq, jI_lt, jI_eq, jI_lt0, jI_0lt, jI_eq0, jI_0le, jn_lo, iU_row, iU_nr, iU_eq, iU_same, jI_ixn, jI_add, jI_sub, jI_nat, q, q9, eq_self, show -2147483648 ≤ (v : Int) by omega, show (v : Int) ≤ 2147483647 by omega, qv]
          exact hp _ _
      · by_cases qv : v = -1
        · rw [if_pos qv] at hp
          subst qv
          simp only [g203_165, g203_167, g203_170, g203_173, g203_175, g203_177, g203_180, g203_182, g203_185, g203_187, g203_189, g203_191, g203_193, g203_194, g203_197, g203_200, g203_203, g203_204, g203_206, g203_207, g203_208, g203_210, g203_213, nl_none, nl_int, nl_ref, Option.toList_some, Option.toList_none, List.cons_append, List.nil_append, mSetI_u, mSetL_u, Nat.add_one_ne_zero, Nat.add_eq_zero_iff, and_false, false_and, not_false_eq_true, ne_eq, j0_0, j0_1, j1_0, j1_1, if_true, if_false, ite_true, ite_false, true_and, and_true, or_true, true_or, false_or, or_false, ↓reduceIte, Nat.reduceEqDiff, Nat.reduceAdd, Nat.reduceMul, Nat.reduceSub, Int.reduceLE, Int.reduceLT, Int.reduceNeg, Int.reduceAdd, Int.reduceSub, Int.reduceEq, reduceCtorEq, jI_lt, jI_eq, jI_lt0, jI_0lt, jI_eq0, jI_0le, jn_lo, iU_row, iU_nr, iU_eq, iU_same, jI_ixn, jI_add, jI_sub, jI_nat, q, q9, eq_self]
          exact hp _ _
        · rw [if_neg qv] at hp
          simp only [g203_165, g203_167, g203_170, g203_173, g203_175, g203_177, g203_180, g203_182, g203_185, g203_187, g203_189, g203_191, g203_193, g203_194, g203_197, g203_200, g203_203, g203_204, g203_206, g203_207, g203_208, g203_210, g203_213, nl_none, nl_int, nl_ref, Option.toList_some, Option.toList_none, List.cons_append, List.nil_append, mSetI_u, mSetL_u, Nat.add_one_ne_zero, Nat.add_eq_zero_iff, and_false, false_and, not_false_eq_true, ne_eq, j0_0, j0_1, j1_0, j1_1, if_true, if_false, ite_true, ite_false, true_and, and_true, or_true, true_or, false_or, or_false, ↓reduceIte, Nat.reduceEqDiff, Nat.reduceAdd, Nat.reduceMul, Nat.reduceSub, Int.reduceLE, Int.reduceLT, Int.reduceNeg, Int.reduceAdd, Int.reduceSub, Int.reduceEq, reduceCtorEq, jI_lt, jI_eq, jI_lt0, jI_0lt, jI_eq0, jI_0le, jn_lo, iU_row, iU_nr, iU_eq, iU_same, jI_ixn, jI_add, jI_sub, jI_nat, q, q9, eq_self, show -2147483648 ≤ (v : Int) by omega, show (v : Int) ≤ 2147483647 by omega, qv]
          exact hp _ _
    · have qq : ¬ pFc lw n T y one told (min zz 41) v = true := by
        unfold pFc
        rw [beq_iff_eq]
        exact q
      rw [if_neg (fun w => qq w.2)] at hp
      simp only [g203_165, g203_167, g203_170, g203_173, g203_175, g203_177, g203_180, g203_182, g203_185, g203_187, g203_189, g203_191, g203_193, g203_194, g203_197, g203_200, g203_203, g203_204, g203_206, g203_207, g203_208, g203_210, g203_213, nl_none, nl_int, nl_ref, Option.toList_some, Option.toList_none, List.cons_append, List.nil_append, mSetI_u, mSetL_u, Nat.add_one_ne_zero, Nat.add_eq_zero_iff, and_false, false_and, not_false_eq_true, ne_eq, j0_0, j0_1, j1_0, j1_1, if_true, if_false, ite_true, ite_false, true_and, and_true, or_true, true_or, false_or, or_false, ↓reduceIte, Nat.reduceEqDiff, Nat.reduceAdd, Nat.reduceMul, Nat.reduceSub, Int.reduceLE, Int.reduceLT, Int.reduceNeg, Int.reduceAdd, Int.reduceSub, Int.reduceEq, reduceCtorEq, jI_lt, jI_eq, jI_lt0, jI_0lt, jI_eq0, jI_0le, jn_lo, iU_row, iU_nr, iU_eq, iU_same, jI_ixn, jI_add, jI_sub, jI_nat, hfw, show -2147483648 ≤ (pFw lw n (pSet T 4 told v) y one (min zz 41) 0 : Int) by omega, show (pFw lw n (pSet T 4 told v) y one (min zz 41) 0 : Int) ≤ 2147483647 by omega, q]
      exact hp _ _
theorem r203_c (hF : mFx F st nx gf rl dr) (hok : vTownOk n T) (hl : ∀ g q n k s t, 0 ≤ lw g q n k s t ∧ lw g q n k s t ≤ 20) (hR : vTownR n T (I 81) (I 80 2)) (hlw : vLawR lw (I 87) (I 80 11) (I 80 12) (I 90)) {s one told zz : Nat} {ab : Int} {x7 : Int32} (hs : s < 6) (hone : one < n) (htold : told < n) (hzz : zz ≤ 60) (hz : I 95 s = jI zz) (hy : ∀ i, i < 60 → -128 ≤ y i ∧ y i ≤ 127 ∧ E 96 (60 * s + i) = Int64.ofInt (y i)) (hP : ∀ I' x8 x9, vAg (fun r j => vScr r j ∨ r = 81) I I' → (∀ j, j < 42 → ¬ j = 5 * told + 4 → I' 81 j = I 81 j) → mG (d + 74) 203 216 [some (.ref 80), some (.int (jI s)), some (.int (jI ab)), some (.int (jI 2)), some (.int (jI one)), some (.int (jI told)), some (.int (jI 4)), some (.int x7), some (.int x8), some (.int x9), some (.int (pCf (pFc lw n T y one told (min zz 41)) told n)), some (.int (jI n))] [] (mLay e) (I', E, F) P) : ∀ (k i : Nat) (z : Int) I' x8 x9, i + k = n → z = i → vAg (fun r j => vScr r j ∨ r = 81) I I' → (∀ j, j < 42 → ¬ j = 5 * told + 4 → I' 81 j = I 81 j) → mG (d + 74) 203 115 [some (.ref 80), some (.int (jI s)), some (.int (jI ab)), some (.int (jI 2)), some (.int (jI one)), some (.int (jI told)), some (.int (jI 4)), some (.int x7), some (.int x8), some (.int x9), some (.int (pCf (pFc lw n T y one told (min zz 41)) told i)), some (.int (jI z))] [] (mLay e) (I', E, F) P
  | 0, i, z, I', x8, x9, hi, hz', ha, h81 => by
    have hn := hok.1
    have hm : I' 80 2 = jI n := (ha 80 2 (by unfold vScr; omega)).trans hR.2.2.2
    subst hz'
    have e : i = n := by omega
    subst e
    rw [g203_115]
    simp only [g203_117, g203_118, g203_119, g203_122, g203_123, g203_126, g203_127, g203_128, g203_131, g203_133, nl_none, nl_int, nl_ref, Option.toList_some, Option.toList_none, List.cons_append, List.nil_append, mSetI_u, mSetL_u, Nat.add_one_ne_zero, Nat.add_eq_zero_iff, and_false, false_and, not_false_eq_true, ne_eq, j0_0, j0_1, j1_0, j1_1, if_true, if_false, ite_true, ite_false, true_and, and_true, or_true, true_or, false_or, or_false, ↓reduceIte, Nat.reduceEqDiff, Nat.reduceAdd, Nat.reduceMul, Nat.reduceSub, Int.reduceLE, Int.reduceLT, Int.reduceNeg, Int.reduceAdd, Int.reduceSub, Int.reduceEq, reduceCtorEq, jI_lt, jI_eq, jI_lt0, jI_0lt, jI_eq0, jI_0le, jn_lo, iU_row, iU_nr, iU_eq, iU_same, jI_ixn, jI_add, jI_sub, jI_nat, sh_80, hm, show ((i : Nat) : Int) ≤ 2147483647 by omega, show (i : Nat) ≤ 2147483647 by omega, show -2147483648 ≤ ((i : Int) - 1 : Int) by omega, show ((i : Int) - 1 : Int) ≤ 2147483647 by omega, show (i : Int) - 1 < (i : Int) by omega, eq_self]
    exact hP I' x8 x9 ha h81
  | k + 1, i, z, I', x8, x9, hi, hz', ha, h81 => by
    have ih := r203_c hF hok hl hR hlw hs hone htold hzz hz hy (ab := ab) (x7 := x7) hP k (i + 1)
    subst hz'
    refine r203_s hF hok hl hR hlw hs hone htold hzz hz hy ⟨by omega, by omega⟩ ha h81 (fun I2 x8 x9 h2 h81' => ?_)
    have ih' := ih ((i : Int) + 1) I2 x8 x9 (by omega) (by omega) h2 h81'
    rw [if_neg (show ¬ (i : Int) = -1 by omega)]
    by_cases q : ¬ i = told ∧ pFc lw n T y one told (min zz 41) i = true
    · rw [pCf, if_pos q] at ih'
      rw [if_pos ⟨by omega, q.2⟩]
      exact ih'
    · rw [pCf, if_neg q] at ih'
      rw [if_neg (fun w => q ⟨by omega, w.2⟩)]
      exact ih'
end FIC
/-! ten bits -/
def p10 (b0 b1 b2 b3 b4 b5 b6 b7 b8 b9 : Bool) : Nat → Bool
  | 0 => b0
  | 1 => b1
  | 2 => b2
  | 3 => b3
  | 4 => b4
  | 5 => b5
  | 6 => b6
  | 7 => b7
  | 8 => b8
  | _ => b9
theorem p10_d : ∀ b0 b1 b2 b3 b4 b5 b6 b7 b8 b9 : Bool, pBits (pBf (p10 b0 b1 b2 b3 b4 b5 b6 b7 b8 b9) 10) = jI (pCn (p10 b0 b1 b2 b3 b4 b5 b6 b7 b8 b9) 10) ∧ ∀ i : Fin 10, (pBf (p10 b0 b1 b2 b3 b4 b5 b6 b7 b8 b9) 10 >>> (jI ((i.val : Nat) : Int) &&& 31)) &&& jI 1 = if p10 b0 b1 b2 b3 b4 b5 b6 b7 b8 b9 i.val then jI 1 else jI 0 := by decide +kernel
theorem pBf_cg {p q : Nat → Bool} : ∀ m, (∀ j, j < m → p j = q j) → pBf p m = pBf q m ∧ pCn p m = pCn q m
  | 0, _ => ⟨rfl, rfl⟩
  | m + 1, h => by
    obtain ⟨h1, h2⟩ := pBf_cg m (fun j hj => h j (by omega))
    simp only [pBf, pCn, h m (by omega), h1, h2]
    exact ⟨trivial, trivial⟩
theorem p10_of (p : Nat → Bool) : ∀ j, j < 10 → p j = p10 (p 0) (p 1) (p 2) (p 3) (p 4) (p 5) (p 6) (p 7) (p 8) (p 9) j := by
  intro j hj
  rcases (by omega : j = 0 ∨ j = 1 ∨ j = 2 ∨ j = 3 ∨ j = 4 ∨ j = 5 ∨ j = 6 ∨ j = 7 ∨ j = 8 ∨ j = 9) with rfl | rfl | rfl | rfl | rfl | rfl | rfl | rfl | rfl | rfl <;> rfl
theorem pBits_10 (p : Nat → Bool) : pBits (pBf p 10) = jI (pCn p 10) := by
  obtain ⟨h1, h2⟩ := pBf_cg 10 (p10_of p)
  rw [h1, h2]
  exact (p10_d _ _ _ _ _ _ _ _ _ _).1
theorem pBit_10 (p : Nat → Bool) {i : Nat} (hi : i < 10) : (pBf p 10 >>> (jI (i : Int) &&& 31)) &&& jI 1 = if p i then jI 1 else jI 0 := by
  rw [(pBf_cg 10 (p10_of p)).1, p10_of p i hi]
  exact (p10_d _ _ _ _ _ _ _ _ _ _).2 ⟨i, hi⟩
