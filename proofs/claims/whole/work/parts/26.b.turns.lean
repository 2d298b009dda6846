/-! ===== by turns: the reference's side, the call ===== -/
def vScU2 (m r j : Nat) : Prop := (vScr r j ∧ ¬ r = 82) ∨ r = 81 ∨ (r = 82 ∧ 42 * m ≤ j)
def r207S (lw : vLw) (n t N : Nat) (e : List mShp) (E : Nat → Nat → Int64) (F : Nat → Nat → Nat) (k : Nat) : Prop := ∀ (d m : Nat) (T : Nat → Nat → Int) (h : Bool) (I : Nat → Nat → Int32) (P : mPost) (zm : Int32), m + k = N → h = decide (m % 2 = 0) → vTownOk n T → vTownR n T (I 81) (I 80 2) → vLawR lw (I 87) (I 80 11) (I 80 12) (I 90) → I 80 20 = jI (-1) → zm = jI m → (∀ I', vAg (vScU2 (m + 1)) I I' → (∀ j, j < 42 → I' 81 j = I 81 j) → (1 ≤ k → I' 80 32 = jI (tV lw n t k h T).2) → P (some (.int (jI (tV lw n t k h T).1))) (mLay e) (I', E, F)) → mF (d + 75 + k) 207 [.ref 80, .int zm, .int (jI N), .int (jI t)] (mLay e) (I, E, F) P
section RTN
variable {d n : Nat} {e : List mShp} {I : Nat → Nat → Int32} {E : Nat → Nat → Int64} {F : Nat → Nat → Nat} {P : mPost} {T : Nat → Nat → Int} {lw : vLw} {st nx gf rl dr t N m : Nat}
theorem sc_U2 {r j : Nat} (q : vScU2 m r j) : (vScr r j ∨ r = 81) ∧ (r = 82 → 42 * m ≤ j) := by
  unfold vScU2 at q
  rcases q with q | q | q
  · exact ⟨.inl q.1, fun h => absurd h q.2⟩
  · exact ⟨.inr q, fun h => by omega⟩
  · refine ⟨.inl ?_, fun _ => q.2⟩
    rw [q.1]
    exact sc_82 j
theorem sc_U2m {m' r j : Nat} (hm : m ≤ m') (q : vScU2 m' r j) : vScU2 m r j := by
  unfold vScU2 at q ⊢
  rcases q with q | q | q
  · exact .inl q
  · exact .inr (.inl q)
  · exact .inr (.inr ⟨q.1, by omega⟩)
theorem sc_28 {r j : Nat} (h : 28 ≤ r ∧ r ≤ 47) : vScr r j := .inr (.inr (.inr (.inr (.inr (.inr (.inr (.inl h)))))))
theorem sc_U2L {r j : Nat} (q : vScU2 m r j) : ¬ r = 87 ∧ ¬ r = 90 ∧ ¬ (r = 80 ∧ (j = 11 ∨ j = 12)) := by
  rcases (sc_U2 q).1 with h | h
  · exact sc_L h
  · omega
theorem sc_U2g (q : vScU2 m 80 20) : False := by
  rcases (sc_U2 q).1 with h | h
  · exact sc_g h
  · omega
theorem sc_U2n (q : vScU2 m 80 2) : False := by
  rcases (sc_U2 q).1 with h | h
  · exact (sc_R h).2 ⟨rfl, rfl⟩
  · omega
theorem vAg_k2 {I' : Nat → Nat → Int32} {v : Nat} (hv : m ≤ v) (h : vAg (vScU2 m) I I') : vAg (vScU2 m) I (kU I' v 42) := fun r j q => by
  unfold kU
  rw [if_neg (fun w => q (.inr (.inr ⟨w.1, Nat.le_trans (Nat.mul_le_mul_left 42 hv) w.2.1⟩)))]
  exact h r j q
theorem vAg_l2 {I' : Nat → Nat → Int32} {v : Nat} (h : vAg (vScU2 m) I I') : vAg (vScU2 m) I (lU I' v 42) := fun r j q => by
  unfold lU
  rw [if_neg (fun w => q (.inr (.inl w.1)))]
  exact h r j q
theorem sc_EU {r j : Nat} (q : vScE r j) : vScU2 m r j := by
  rcases sc_E q with h | h
  · exact .inl ⟨h, fun w => sc_E82 q w⟩
  · exact .inr (.inl h)
theorem sc_UE {r j : Nat} (h : vScU2 m r j) : vScr r j ∨ r = 81 := (sc_U2 h).1
theorem r206 (hF : mFx F st nx gf rl dr) (hok : vTownOk n T) (hR : vTownR n T (I 81) (I 80 2)) {i : Nat} (hi : i < n) : mF (d + 1) 206 [.ref 80, .int (jI i)] (mLay e) (I, E, F) P = P none (mLay e) (iU I 81 (5 * i + 4) (jI (tNx n T i)), E, F) := by
  have hn := hok.1
  have hw := hR.1 i hi 4 (by omega)
  have ho := vOk_w hok hi
  have hT4 : -1 ≤ T 4 i ∧ T 4 i < n := ⟨ho.2.2.2.2.2.2.2.2.1, ho.2.2.2.2.2.2.2.2.2.1⟩
  clear ho
  obtain ⟨a, ha⟩ : ∃ a : Nat, T 4 i + 1 = a := ⟨(T 4 i + 1).toNat, by omega⟩
  have ea : (T 4 i + 1).toNat = a := by omega
  have hu := Nat.mod_lt a (show 0 < n by omega)
  have d1 := jI_div (a := (a : Int)) (b := (n : Int)) (by omega) (by omega) (by omega) (by omega)
  have p1 := pU_div a n
  obtain ⟨u, eu⟩ : ∃ u, u = a % n := ⟨_, rfl⟩
  rw [← eu] at hu p1
  by_cases qi : u = i
  · subst qi
    have d2 := jI_div (a := (u : Int) + 1) (b := (n : Int)) (by omega) (by omega) (by omega) (by omega)
    obtain ⟨v, ev⟩ : ∃ v, v = (u + 1) % n := ⟨_, rfl⟩
    have hv := Nat.mod_lt (u + 1) (show 0 < n by omega)
    have p2 : ((u : Int) + 1) - ((u : Int) + 1) / (n : Int) * (n : Int) = (v : Int) := by
      have h := pU_div (u + 1) n
      rw [Int.natCast_add, ← ev] at h
      exact h
    rw [← ev] at hv
    by_cases q : n < 2
    · have e1 : tNx n T u = -1 := if_pos q
      have hv0 : v = u := by omega
      rw [e1]
      rw [hv0] at p2
      simp only [g206_in, g206_0, g206_1, g206_2, g206_3, g206_6, g206_7, g206_8, g206_9, g206_12, g206_13, g206_14, g206_15, g206_16, g206_19, g206_20, g206_21, g206_22, g206_23, g206_26, g206_27, g206_30, g206_31, g206_32, g206_33, g206_34, g206_35, g206_36, g206_37, g206_40, g206_41, g206_44, g206_45, g206_48, nl_none, nl_int, nl_ref, Option.toList_some, Option.toList_none, List.cons_append, List.nil_append, mSetI_u, mSetL_u, Nat.add_one_ne_zero, Nat.add_eq_zero_iff, and_false, false_and, not_false_eq_true, ne_eq, j0_0, j0_1, j1_0, j1_1, if_true, if_false, ite_true, ite_false, true_and, and_true, or_true, true_or, false_or, or_false, ↓reduceIte, Nat.reduceEqDiff, Nat.reduceAdd, Nat.reduceMul, Nat.reduceSub, Int.reduceLE, Int.reduceLT, Int.reduceNeg, Int.reduceAdd, Int.reduceSub, Int.reduceEq, reduceCtorEq, jI_lt, jI_eq, jI_lt0, jI_0lt, jI_eq0, jI_0le, jn_lo, iU_row, iU_nr, iU_eq, iU_same, jI_ixn, jI_add, jI_sub, jI_nat, sh_80, hR.2.2.2, r152 hF, r153 hF, Int.reduceToNat, hw, ha, d1, d2, p1, p2, jI_mul, show ((n : Nat) : Int) ≤ 2147483647 by omega, show (n : Nat) ≤ 2147483647 by omega, show ((u : Nat) : Int) ≤ 2147483647 by omega, show (u : Nat) ≤ 2147483647 by omega, show ¬ ((n : Int) = 0) by omega, show u ≤ 7 by omega, eq_self]
    · have e1 : tNx n T u = (v : Int) := by
        unfold tNx
        rw [if_neg q, ea, ← eu, if_pos rfl, ev]
      have hv1 : ¬ v = u := by
        rw [ev]
        rcases (by omega : u + 1 = n ∨ u + 1 < n) with e | e
        · rw [e, Nat.mod_self]
          omega
        · rw [Nat.mod_eq_of_lt e]
          omega
      rw [e1]
      simp only [g206_in, g206_0, g206_1, g206_2, g206_3, g206_6, g206_7, g206_8, g206_9, g206_12, g206_13, g206_14, g206_15, g206_16, g206_19, g206_20, g206_21, g206_22, g206_23, g206_26, g206_27, g206_30, g206_31, g206_32, g206_33, g206_34, g206_35, g206_36, g206_37, g206_40, g206_41, g206_44, g206_45, g206_48, nl_none, nl_int, nl_ref, Option.toList_some, Option.toList_none, List.cons_append, List.nil_append, mSetI_u, mSetL_u, Nat.add_one_ne_zero, Nat.add_eq_zero_iff, and_false, false_and, not_false_eq_true, ne_eq, j0_0, j0_1, j1_0, j1_1, if_true, if_false, ite_true, ite_false, true_and, and_true, or_true, true_or, false_or, or_false, ↓reduceIte, Nat.reduceEqDiff, Nat.reduceAdd, Nat.reduceMul, Nat.reduceSub, Int.reduceLE, Int.reduceLT, Int.reduceNeg, Int.reduceAdd, Int.reduceSub, Int.reduceEq, reduceCtorEq, jI_lt, jI_eq, jI_lt0, jI_0lt, jI_eq0, jI_0le, jn_lo, iU_row, iU_nr, iU_eq, iU_same, jI_ixn, jI_add, jI_sub, jI_nat, sh_80, hR.2.2.2, r152 hF, r153 hF, Int.reduceToNat, hw, ha, d1, d2, p1, p2, jI_mul, show ((n : Nat) : Int) ≤ 2147483647 by omega, show (n : Nat) ≤ 2147483647 by omega, show ((u : Nat) : Int) ≤ 2147483647 by omega, show (u : Nat) ≤ 2147483647 by omega, show ((v : Nat) : Int) ≤ 2147483647 by omega, show (v : Nat) ≤ 2147483647 by omega, show ¬ ((n : Int) = 0) by omega, show ¬ ((v : Int) = (u : Int)) by omega, show u ≤ 7 by omega, eq_self]
  · have q : ¬ n < 2 := fun h => by omega
    have e1 : tNx n T i = (u : Int) := by
      unfold tNx
      rw [if_neg q, ea, ← eu, if_neg qi]
    rw [e1]
    simp only [g206_in, g206_0, g206_1, g206_2, g206_3, g206_6, g206_7, g206_8, g206_9, g206_12, g206_13, g206_14, g206_15, g206_16, g206_19, g206_20, g206_21, g206_22, g206_23, g206_26, g206_27, g206_30, g206_31, g206_32, g206_33, g206_34, g206_35, g206_36, g206_37, g206_40, g206_41, g206_44, g206_45, g206_48, nl_none, nl_int, nl_ref, Option.toList_some, Option.toList_none, List.cons_append, List.nil_append, mSetI_u, mSetL_u, Nat.add_one_ne_zero, Nat.add_eq_zero_iff, and_false, false_and, not_false_eq_true, ne_eq, j0_0, j0_1, j1_0, j1_1, if_true, if_false, ite_true, ite_false, true_and, and_true, or_true, true_or, false_or, or_false, ↓reduceIte, Nat.reduceEqDiff, Nat.reduceAdd, Nat.reduceMul, Nat.reduceSub, Int.reduceLE, Int.reduceLT, Int.reduceNeg, Int.reduceAdd, Int.reduceSub, Int.reduceEq, reduceCtorEq, jI_lt, jI_eq, jI_lt0, jI_0lt, jI_eq0, jI_0le, jn_lo, iU_row, iU_nr, iU_eq, iU_same, jI_ixn, jI_add, jI_sub, jI_nat, sh_80, hR.2.2.2, r152 hF, r153 hF, Int.reduceToNat, hw, ha, d1, p1, jI_mul, show ((n : Nat) : Int) ≤ 2147483647 by omega, show (n : Nat) ≤ 2147483647 by omega, show ((i : Nat) : Int) ≤ 2147483647 by omega, show (i : Nat) ≤ 2147483647 by omega, show ((u : Nat) : Int) ≤ 2147483647 by omega, show (u : Nat) ≤ 2147483647 by omega, show ¬ ((n : Int) = 0) by omega, show ¬ ((u : Int) = (i : Int)) by omega, show i ≤ 7 by omega]
/-- what is kept of row 81 -/
def tKp (m : Nat) (I I' : Nat → Nat → Int32) : Prop := ∀ j, j < 42 → I' 82 (42 * (m + 1) + j) = I 81 j
theorem tKp_up {I' I'' : Nat → Nat → Int32} (h : tKp m I I') (ha : vAg (vScU2 (m + 2)) I' I'') : tKp m I I'' := fun j hj => by
  rw [ha 82 _ (fun q => by
    have := (sc_U2 q).2 rfl
    omega)]
  exact h j hj
theorem tKp_lu {I' : Nat → Nat → Int32} (h : tKp m I I') : ∀ j, j < 42 → lU I' (m + 1) 42 81 j = I 81 j := fun j hj => by
  unfold lU
  rw [if_pos ⟨rfl, hj⟩]
  exact h j hj
theorem tKp_l {I' : Nat → Nat → Int32} {v : Nat} (h : tKp m I I') : tKp m I (lU I' v 42) := fun j hj => by
  rw [lU_row (by omega)]
  exact h j hj
/-- after a deed: what it came to is weighed, and all is laid back -/
theorem r207_w (hF : mFx F st nx gf rl dr) (hm6 : m ≤ 5) {b : Bool} {zN zt : Int32} {best first : Int} {x : Int} {tn : Int} (hb : (b = true ∧ 0 ≤ best ∧ best ≤ 2147483647) ∨ (b = false ∧ -1 ≤ best ∧ best ≤ 8)) (hx : 0 ≤ x ∧ x ≤ 8) (htn : -1 ≤ tn ∧ tn ≤ 7) {a8 a9 : Option Value} (hP : ∀ a8 a9, mG (d + 1) 207 70 [some (.ref 80), some (.int (jI m)), some (.int zN), some (.int zt), some (.int (jI (if b = true then 1 else 0))), some (.int (jI (if (b = true ∧ x < best) ∨ (b = false ∧ best < x) then x else best))), some (.int (jI (if (b = true ∧ x < best) ∨ (b = false ∧ best < x) then (if tn = -1 then 8 else tn) else first))), some (.int (jI (tn + 1))), a8, a9] [] (mLay e) (lU I (m + 1) 42, E, F) P) : mG (d + 1) 207 132 [some (.ref 80), some (.int (jI m)), some (.int zN), some (.int zt), some (.int (jI (if b = true then 1 else 0))), some (.int (jI best)), some (.int (jI first)), some (.int (jI tn)), a8, a9] [.int (jI x)] (mLay e) (I, E, F) P := by
  have e150 := fun (P : mPost) => r150 (d := d) (e := e) (I := I) (E := E) (P := P) hF (v := m + 1) (by omega)
  have e1 : (1 : Int) + (m : Int) = ((m + 1 : Nat) : Int) := by omega
  rcases hb with ⟨rfl, hb⟩ | ⟨rfl, hb⟩
  · by_cases q : x < best
    · rw [if_pos (show ((true = true ∧ x < best) ∨ (true = false ∧ best < x)) from .inl ⟨rfl, q⟩), if_pos (show ((true = true ∧ x < best) ∨ (true = false ∧ best < x)) from .inl ⟨rfl, q⟩), if_pos rfl] at hP
      by_cases qt : tn = -1
      · rw [if_pos qt] at hP
        subst qt
        simp only [g207_132, g207_134, g207_136, g207_139, g207_141, g207_143, g207_146, g207_147, g207_150, g207_151, g207_154, g207_156, g207_158, g207_161, g207_162, g207_165, g207_166, g207_168, g207_170, g207_173, g207_175, g207_176, g207_179, g207_181, g207_184, g207_186, g207_189, g207_191, g207_193, g207_195, g207_198, g207_200, g207_203, g207_205, g207_207, g207_208, g207_209, g207_210, g207_211, g207_214, g207_217, nl_none, nl_int, nl_ref, Option.toList_some, Option.toList_none, List.cons_append, List.nil_append, mSetI_u, mSetL_u, Nat.add_one_ne_zero, Nat.add_eq_zero_iff, and_false, false_and, not_false_eq_true, ne_eq, j0_0, j0_1, j1_0, j1_1, if_true, if_false, ite_true, ite_false, true_and, and_true, or_true, true_or, false_or, or_false, ↓reduceIte, Nat.reduceEqDiff, Nat.reduceAdd, Nat.reduceMul, Nat.reduceSub, Int.reduceLE, Int.reduceLT, Int.reduceNeg, Int.reduceAdd, Int.reduceSub, Int.reduceEq, reduceCtorEq, jI_lt, jI_eq, jI_lt0, jI_0lt, jI_eq0, jI_0le, jn_lo, iU_row, iU_nr, iU_eq, iU_same, jI_ixn, jI_add, jI_sub, jI_nat, sh_80, show -2147483648 ≤ (x : Int) by omega, show (x : Int) ≤ 2147483647 by omega, show -2147483648 ≤ (best : Int) by omega, show (best : Int) ≤ 2147483647 by omega, q, e1, e150, eq_self]
        exact hP _ _
      · rw [if_neg qt] at hP
        simp only [g207_132, g207_134, g207_136, g207_139, g207_141, g207_143, g207_146, g207_147, g207_150, g207_151, g207_154, g207_156, g207_158, g207_161, g207_162, g207_165, g207_166, g207_168, g207_170, g207_173, g207_175, g207_176, g207_179, g207_181, g207_184, g207_186, g207_189, g207_191, g207_193, g207_195, g207_198, g207_200, g207_203, g207_205, g207_207, g207_208, g207_209, g207_210, g207_211, g207_214, g207_217, nl_none, nl_int, nl_ref, Option.toList_some, Option.toList_none, List.cons_append, List.nil_append, mSetI_u, mSetL_u, Nat.add_one_ne_zero, Nat.add_eq_zero_iff, and_false, false_and, not_false_eq_true, ne_eq, j0_0, j0_1, j1_0, j1_1, if_true, if_false, ite_true, ite_false, true_and, and_true, or_true, true_or, false_or, or_false, ↓reduceIte, Nat.reduceEqDiff, Nat.reduceAdd, Nat.reduceMul, Nat.reduceSub, Int.reduceLE, Int.reduceLT, Int.reduceNeg, Int.reduceAdd, Int.reduceSub, Int.reduceEq, reduceCtorEq, jI_lt, jI_eq, jI_lt0, jI_0lt, jI_eq0, jI_0le, jn_lo, iU_row, iU_nr, iU_eq, iU_same, jI_ixn, jI_add, jI_sub, jI_nat, sh_80, show -2147483648 ≤ (x : Int) by omega, show (x : Int) ≤ 2147483647 by omega, show -2147483648 ≤ (best : Int) by omega, show (best : Int) ≤ 2147483647 by omega, show -2147483648 ≤ (tn : Int) by omega, show (tn : Int) ≤ 2147483647 by omega, q, qt, e1, e150, eq_self]
        exact hP _ _
    · have hn : ¬ ((true = true ∧ x < best) ∨ (true = false ∧ best < x)) := by
        rintro (h | h)
        · exact q h.2
        · cases h.1
      rw [if_neg hn, if_neg hn, if_pos rfl] at hP
      simp only [g207_132, g207_134, g207_136, g207_139, g207_141, g207_143, g207_146, g207_147, g207_150, g207_151, g207_154, g207_156, g207_158, g207_161, g207_162, g207_165, g207_166, g207_168, g207_170, g207_173, g207_175, g207_176, g207_179, g207_181, g207_184, g207_186, g207_189, g207_191, g207_193, g207_195, g207_198, g207_200, g207_203, g207_205, g207_207, g207_208, g207_209, g207_210, g207_211, g207_214, g207_217, nl_none, nl_int, nl_ref, Option.toList_some, Option.toList_none, List.cons_append, List.nil_append, mSetI_u, mSetL_u, Nat.add_one_ne_zero, Nat.add_eq_zero_iff, and_false, false_and, not_false_eq_true, ne_eq, j0_0, j0_1, j1_0, j1_1, if_true, if_false, ite_true, ite_false, true_and, and_true, or_true, true_or, false_or, or_false, ↓reduceIte, Nat.reduceEqDiff, Nat.reduceAdd, Nat.reduceMul, Nat.reduceSub, Int.reduceLE, Int.reduceLT, Int.reduceNeg, Int.reduceAdd, Int.reduceSub, Int.reduceEq, reduceCtorEq, jI_lt, jI_eq, jI_lt0, jI_0lt, jI_eq0, jI_0le, jn_lo, iU_row, iU_nr, iU_eq, iU_same, jI_ixn, jI_add, jI_sub, jI_nat, sh_80, show -2147483648 ≤ (x : Int) by omega, show (x : Int) ≤ 2147483647 by omega, show -2147483648 ≤ (best : Int) by omega, show (best : Int) ≤ 2147483647 by omega, q, e1, e150, eq_self]
      exact hP _ _
  · by_cases q : best < x
    · rw [if_pos (show ((false = true ∧ x < best) ∨ (false = false ∧ best < x)) from .inr ⟨rfl, q⟩), if_pos (show ((false = true ∧ x < best) ∨ (false = false ∧ best < x)) from .inr ⟨rfl, q⟩), if_neg (by decide)] at hP
      by_cases qt : tn = -1
      · rw [if_pos qt] at hP
        subst qt
        simp only [g207_132, g207_134, g207_136, g207_139, g207_141, g207_143, g207_146, g207_147, g207_150, g207_151, g207_154, g207_156, g207_158, g207_161, g207_162, g207_165, g207_166, g207_168, g207_170, g207_173, g207_175, g207_176, g207_179, g207_181, g207_184, g207_186, g207_189, g207_191, g207_193, g207_195, g207_198, g207_200, g207_203, g207_205, g207_207, g207_208, g207_209, g207_210, g207_211, g207_214, g207_217, nl_none, nl_int, nl_ref, Option.toList_some, Option.toList_none, List.cons_append, List.nil_append, mSetI_u, mSetL_u, Nat.add_one_ne_zero, Nat.add_eq_zero_iff, and_false, false_and, not_false_eq_true, ne_eq, j0_0, j0_1, j1_0, j1_1, if_true, if_false, ite_true, ite_false, true_and, and_true, or_true, true_or, false_or, or_false, ↓reduceIte, Nat.reduceEqDiff, Nat.reduceAdd, Nat.reduceMul, Nat.reduceSub, Int.reduceLE, Int.reduceLT, Int.reduceNeg, Int.reduceAdd, Int.reduceSub, Int.reduceEq, reduceCtorEq, jI_lt, jI_eq, jI_lt0, jI_0lt, jI_eq0, jI_0le, jn_lo, iU_row, iU_nr, iU_eq, iU_same, jI_ixn, jI_add, jI_sub, jI_nat, sh_80, show -2147483648 ≤ (x : Int) by omega, show (x : Int) ≤ 2147483647 by omega, show -2147483648 ≤ (best : Int) by omega, show (best : Int) ≤ 2147483647 by omega, q, e1, e150, eq_self]
        exact hP _ _
      · rw [if_neg qt] at hP
        simp only [g207_132, g207_134, g207_136, g207_139, g207_141, g207_143, g207_146, g207_147, g207_150, g207_151, g207_154, g207_156, g207_158, g207_161, g207_162, g207_165, g207_166, g207_168, g207_170, g207_173, g207_175, g207_176, g207_179, g207_181, g207_184, g207_186, g207_189, g207_191, g207_193, g207_195, g207_198, g207_200, g207_203, g207_205, g207_207, g207_208, g207_209, g207_210, g207_211, g207_214, g207_217, nl_none, nl_int, nl_ref, Option.toList_some, Option.toList_none, List.cons_append, List.nil_append, mSetI_u, mSetL_u, Nat.add_one_ne_zero, Nat.add_eq_zero_iff, and_false, false_and, not_false_eq_true, ne_eq, j0_0, j0_1, j1_0, j1_1, if_true, if_false, ite_true, ite_false, true_and, and_true, or_true, true_or, false_or, or_false, ↓reduceIte, Nat.reduceEqDiff, Nat.reduceAdd, Nat.reduceMul, Nat.reduceSub, Int.reduceLE, Int.reduceLT, Int.reduceNeg, Int.reduceAdd, Int.reduceSub, Int.reduceEq, reduceCtorEq, jI_lt, jI_eq, jI_lt0, jI_0lt, jI_eq0, jI_0le, jn_lo, iU_row, iU_nr, iU_eq, iU_same, jI_ixn, jI_add, jI_sub, jI_nat, sh_80, show -2147483648 ≤ (x : Int) by omega, show (x : Int) ≤ 2147483647 by omega, show -2147483648 ≤ (best : Int) by omega, show (best : Int) ≤ 2147483647 by omega, show -2147483648 ≤ (tn : Int) by omega, show (tn : Int) ≤ 2147483647 by omega, q, qt, e1, e150, eq_self]
        exact hP _ _
    · have hn : ¬ ((false = true ∧ x < best) ∨ (false = false ∧ best < x)) := by
        rintro (h | h)
        · cases h.1
        · exact q h.2
      rw [if_neg hn, if_neg hn, if_neg (by decide)] at hP
      simp only [g207_132, g207_134, g207_136, g207_139, g207_141, g207_143, g207_146, g207_147, g207_150, g207_151, g207_154, g207_156, g207_158, g207_161, g207_162, g207_165, g207_166, g207_168, g207_170, g207_173, g207_175, g207_176, g207_179, g207_181, g207_184, g207_186, g207_189, g207_191, g207_193, g207_195, g207_198, g207_200, g207_203, g207_205, g207_207, g207_208, g207_209, g207_210, g207_211, g207_214, g207_217, nl_none, nl_int, nl_ref, Option.toList_some, Option.toList_none, List.cons_append, List.nil_append, mSetI_u, mSetL_u, Nat.add_one_ne_zero, Nat.add_eq_zero_iff, and_false, false_and, not_false_eq_true, ne_eq, j0_0, j0_1, j1_0, j1_1, if_true, if_false, ite_true, ite_false, true_and, and_true, or_true, true_or, false_or, or_false, ↓reduceIte, Nat.reduceEqDiff, Nat.reduceAdd, Nat.reduceMul, Nat.reduceSub, Int.reduceLE, Int.reduceLT, Int.reduceNeg, Int.reduceAdd, Int.reduceSub, Int.reduceEq, reduceCtorEq, jI_lt, jI_eq, jI_lt0, jI_0lt, jI_eq0, jI_0le, jn_lo, iU_row, iU_nr, iU_eq, iU_same, jI_ixn, jI_add, jI_sub, jI_nat, sh_80, show -2147483648 ≤ (x : Int) by omega, show (x : Int) ≤ 2147483647 by omega, show -2147483648 ≤ (best : Int) by omega, show (best : Int) ≤ 2147483647 by omega, q, e1, e150, eq_self]
      exact hP _ _
end RTN
