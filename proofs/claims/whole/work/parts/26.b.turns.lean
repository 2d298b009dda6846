/-! ===== by turns: the reference's side, the call ===== -/
def vScU2 (m r j : Nat) : Prop := (vScr r j ∧ ¬ r = 82) ∨ r = 81 ∨ (r = 82 ∧ 42 * m ≤ j)
def r207S (lw : vLw) (n t N : Nat) (e : List mShp) (E : Nat → Nat → Int64) (F : Nat → Nat → Nat) (k : Nat) : Prop := ∀ (d m : Nat) (T : Nat → Nat → Int) (h : Bool) (I : Nat → Nat → Int32) (P : mPost) (zm : Int32), m + k = N → h = decide (m % 2 = 0) → vTownOk n T → vTownR n T (I 81) (I 80 2) → vLawR lw (I 87) (I 80 11) (I 80 12) → I 80 20 = jI (-1) → zm = jI m → (∀ I', vAg (vScU2 (m + 1)) I I' → (∀ j, j < 42 → I' 81 j = I 81 j) → (1 ≤ k → I' 80 32 = jI (tV lw n t k h T).2) → P (some (.int (jI (tV lw n t k h T).1))) (mLay e) (I', E, F)) → mF (d + 75 + k) 207 [.ref 80, .int zm, .int (jI N), .int (jI t)] (mLay e) (I, E, F) P
section RTN
variable {d n : Nat} {e : List mShp} {I : Nat → Nat → Int32} {E : Nat → Nat → Int64} {F : Nat → Nat → Nat} {P : mPost} {T : Nat → Nat → Int} {lw : vLw} {st nx gf rl dr t N m : Nat}
theorem sc_U2 {r j : Nat} (q : vScU2 m r j) : (vScr r j ∨ r = 81) ∧ (r = 82 → 42 * m ≤ j) := by
  unfold vScU2 at q
  rcases q with q | q | q
  · exact ⟨.inl q.1, fun h => absurd h q.2⟩
  · exact ⟨.inr q, fun h => by omega⟩
  · refine ⟨.inl ?_, fun _ => q.2⟩
    rw [q.1]
    exact sc_82 j
theorem sc_U2m {m' r j : Nat} (hm : m ≤ m') (q : vScU2 m' r j) : vScU2 m r j := by
  unfold vScU2 at q ⊢
  omega
theorem sc_U2L {r j : Nat} (q : vScU2 m r j) : ¬ r = 87 ∧ ¬ (r = 80 ∧ (j = 11 ∨ j = 12)) := by
  rcases (sc_U2 q).1 with h | h
  · exact sc_L h
  · omega
theorem sc_U2g (q : vScU2 m 80 20) : False := by
  rcases (sc_U2 q).1 with h | h
  · exact sc_g h
  · omega
theorem sc_U2n (q : vScU2 m 80 2) : False := by
  rcases (sc_U2 q).1 with h | h
  · exact (sc_R h).2 ⟨rfl, rfl⟩
  · omega
theorem vAg_k2 {I' : Nat → Nat → Int32} {v : Nat} (hv : m ≤ v) (h : vAg (vScU2 m) I I') : vAg (vScU2 m) I (kU I' v 42) := fun r j q => by
  unfold kU
  rw [if_neg (fun w => q (.inr (.inr ⟨w.1, Nat.le_trans (Nat.mul_le_mul_left 42 hv) w.2.1⟩)))]
  exact h r j q
theorem vAg_l2 {I' : Nat → Nat → Int32} {v : Nat} (h : vAg (vScU2 m) I I') : vAg (vScU2 m) I (lU I' v 42) := fun r j q => by
  unfold lU
  rw [if_neg (fun w => q (.inr (.inl w.1)))]
  exact h r j q
theorem sc_EU {r j : Nat} (q : vScE r j) : vScU2 m r j := by
  unfold vScE vScD at q
  unfold vScU2 vScr
  omega
theorem sc_UE {r j : Nat} (h : vScU2 m r j) : vScr r j ∨ r = 81 := (sc_U2 h).1
theorem r206 (hF : mFx F st nx gf rl dr) (hok : vTownOk n T) (hR : vTownR n T (I 81) (I 80 2)) {i : Nat} (hi : i < n) : mF (d + 1) 206 [.ref 80, .int (jI i)] (mLay e) (I, E, F) P = P none (mLay e) (iU I 81 (5 * i + 4) (jI (tNx n T i)), E, F) := by
  have hn := hok.1
  have hw := hR.1 i hi 4 (by omega)
  have ho := vOk_w hok hi
  have hT4 : -1 ≤ T 4 i ∧ T 4 i < n := ⟨ho.2.2.2.2.2.2.2.2.1, ho.2.2.2.2.2.2.2.2.2.1⟩
  clear ho
  obtain ⟨a, ha⟩ : ∃ a : Nat, T 4 i + 1 = a := ⟨(T 4 i + 1).toNat, by omega⟩
  have ea : (T 4 i + 1).toNat = a := by omega
  have hu := Nat.mod_lt a (show 0 < n by omega)
  have d1 := jI_div (a := (a : Int)) (b := (n : Int)) (by omega) (by omega) (by omega) (by omega)
  have p1 := pU_div a n
  obtain ⟨u, eu⟩ : ∃ u, u = a % n := ⟨_, rfl⟩
  rw [← eu] at hu p1
  by_cases qi : u = i
  · have d2 := jI_div (a := (u : Int) + 1) (b := (n : Int)) (by omega) (by omega) (by omega) (by omega)
    obtain ⟨v, ev⟩ : ∃ v, v = (u + 1) % n := ⟨_, rfl⟩
    have hv := Nat.mod_lt (u + 1) (show 0 < n by omega)
    have p2 : ((u : Int) + 1) - ((u : Int) + 1) / (n : Int) * (n : Int) = (v : Int) := by
      have h := pU_div (u + 1) n
      rw [Int.natCast_add, ← ev] at h
      exact h
    rw [← ev] at hv
    by_cases q : n < 2
    · have e1 : tNx n T i = -1 := if_pos q
      have hv0 : v = i := by omega
      rw [e1]
      simp only [g206_in, g206_0, g206_1, g206_2, g206_3, g206_6, g206_7, g206_8, g206_9, g206_12, g206_13, g206_14, g206_15, g206_16, g206_19, g206_20, g206_21, g206_22, g206_23, g206_26, g206_27, g206_30, g206_31, g206_32, g206_33, g206_34, g206_35, g206_36, g206_37, g206_40, g206_41, g206_44, g206_45, g206_48, nl_none, nl_int, nl_ref, Option.toList_some, Option.toList_none, List.cons_append, List.nil_append, mSetI_u, mSetL_u, Nat.add_one_ne_zero, Nat.add_eq_zero_iff, and_false, false_and, not_false_eq_true, ne_eq, j0_0, j0_1, j1_0, j1_1, if_true, if_false, ite_true, ite_false, true_and, and_true, or_true, true_or, false_or, or_false, ↓reduceIte, Nat.reduceEqDiff, Nat.reduceAdd, Nat.reduceMul, Nat.reduceSub, Int.reduceLE, Int.reduceLT, Int.reduceNeg, Int.reduceAdd, Int.reduceSub, Int.reduceEq, reduceCtorEq, jI_lt, jI_eq, jI_lt0, jI_0lt, jI_eq0, jI_0le, jn_lo, iU_row, iU_nr, iU_eq, iU_same, jI_ixn, jI_add, jI_sub, jI_nat, sh_80, hR.2.2.2, r152 hF, r153 hF, Int.reduceToNat, hw, ha, d1, d2, p1, p2, jI_mul, show ((n : Nat) : Int) ≤ 2147483647 by omega, show (n : Nat) ≤ 2147483647 by omega, show ((i : Nat) : Int) ≤ 2147483647 by omega, show (i : Nat) ≤ 2147483647 by omega, show ((u : Nat) : Int) ≤ 2147483647 by omega, show (u : Nat) ≤ 2147483647 by omega, show ((v : Nat) : Int) ≤ 2147483647 by omega, show (v : Nat) ≤ 2147483647 by omega, show ¬ ((n : Int) = 0) by omega, show i ≤ 7 by omega, show (u : Int) = (i : Int) by omega, show (v : Int) = (i : Int) by omega]
    · have e1 : tNx n T i = (v : Int) := by
        unfold tNx
        rw [if_neg q, ea, ← eu, if_pos qi, ev, qi]
      have hv1 : ¬ v = i := by
        rw [ev, qi]
        rcases (by omega : i + 1 = n ∨ i + 1 < n) with e | e
        · rw [e, Nat.mod_self]
          omega
        · rw [Nat.mod_eq_of_lt e]
          omega
      rw [e1]
      simp only [g206_in, g206_0, g206_1, g206_2, g206_3, g206_6, g206_7, g206_8, g206_9, g206_12, g206_13, g206_14, g206_15, g206_16, g206_19, g206_20, g206_21, g206_22, g206_23, g206_26, g206_27, g206_30, g206_31, g206_32, g206_33, g206_34, g206_35, g206_36, g206_37, g206_40, g206_41, g206_44, g206_45, g206_48, nl_none, nl_int, nl_ref, Option.toList_some, Option.toList_none, List.cons_append, List.nil_append, mSetI_u, mSetL_u, Nat.add_one_ne_zero, Nat.add_eq_zero_iff, and_false, false_and, not_false_eq_true, ne_eq, j0_0, j0_1, j1_0, j1_1, if_true, if_false, ite_true, ite_false, true_and, and_true, or_true, true_or, false_or, or_false, ↓reduceIte, Nat.reduceEqDiff, Nat.reduceAdd, Nat.reduceMul, Nat.reduceSub, Int.reduceLE, Int.reduceLT, Int.reduceNeg, Int.reduceAdd, Int.reduceSub, Int.reduceEq, reduceCtorEq, jI_lt, jI_eq, jI_lt0, jI_0lt, jI_eq0, jI_0le, jn_lo, iU_row, iU_nr, iU_eq, iU_same, jI_ixn, jI_add, jI_sub, jI_nat, sh_80, hR.2.2.2, r152 hF, r153 hF, Int.reduceToNat, hw, ha, d1, d2, p1, p2, jI_mul, show ((n : Nat) : Int) ≤ 2147483647 by omega, show (n : Nat) ≤ 2147483647 by omega, show ((i : Nat) : Int) ≤ 2147483647 by omega, show (i : Nat) ≤ 2147483647 by omega, show ((u : Nat) : Int) ≤ 2147483647 by omega, show (u : Nat) ≤ 2147483647 by omega, show ((v : Nat) : Int) ≤ 2147483647 by omega, show (v : Nat) ≤ 2147483647 by omega, show ¬ ((n : Int) = 0) by omega, show ¬ ((v : Int) = (i : Int)) by omega, show i ≤ 7 by omega, show (u : Int) = (i : Int) by omega]
  · have q : ¬ n < 2 := fun h => by omega
    have e1 : tNx n T i = (u : Int) := by
      unfold tNx
      rw [if_neg q, ea, ← eu, if_neg qi]
    rw [e1]
    simp only [g206_in, g206_0, g206_1, g206_2, g206_3, g206_6, g206_7, g206_8, g206_9, g206_12, g206_13, g206_14, g206_15, g206_16, g206_19, g206_20, g206_21, g206_22, g206_23, g206_26, g206_27, g206_30, g206_31, g206_32, g206_33, g206_34, g206_35, g206_36, g206_37, g206_40, g206_41, g206_44, g206_45, g206_48, nl_none, nl_int, nl_ref, Option.toList_some, Option.toList_none, List.cons_append, List.nil_append, mSetI_u, mSetL_u, Nat.add_one_ne_zero, Nat.add_eq_zero_iff, and_false, false_and, not_false_eq_true, ne_eq, j0_0, j0_1, j1_0, j1_1, if_true, if_false, ite_true, ite_false, true_and, and_true, or_true, true_or, false_or, or_false, ↓reduceIte, Nat.reduceEqDiff, Nat.reduceAdd, Nat.reduceMul, Nat.reduceSub, Int.reduceLE, Int.reduceLT, Int.reduceNeg, Int.reduceAdd, Int.reduceSub, Int.reduceEq, reduceCtorEq, jI_lt, jI_eq, jI_lt0, jI_0lt, jI_eq0, jI_0le, jn_lo, iU_row, iU_nr, iU_eq, iU_same, jI_ixn, jI_add, jI_sub, jI_nat, sh_80, hR.2.2.2, r152 hF, r153 hF, Int.reduceToNat, hw, ha, d1, p1, jI_mul, show ((n : Nat) : Int) ≤ 2147483647 by omega, show (n : Nat) ≤ 2147483647 by omega, show ((i : Nat) : Int) ≤ 2147483647 by omega, show (i : Nat) ≤ 2147483647 by omega, show ((u : Nat) : Int) ≤ 2147483647 by omega, show (u : Nat) ≤ 2147483647 by omega, show ¬ ((n : Int) = 0) by omega, show ¬ ((u : Int) = (i : Int)) by omega, show i ≤ 7 by omega]
/-- what is kept of row 81 -/
def tKp (m : Nat) (I I' : Nat → Nat → Int32) : Prop := ∀ j, j < 42 → I' 82 (42 * (m + 1) + j) = I 81 j
theorem tKp_up {I' I'' : Nat → Nat → Int32} (h : tKp m I I') (ha : vAg (vScU2 (m + 2)) I' I'') : tKp m I I'' := fun j hj => by
  rw [ha 82 _ (fun q => by
    have := (sc_U2 q).2 rfl
    omega)]
  exact h j hj
theorem tKp_lu {I' : Nat → Nat → Int32} (h : tKp m I I') : ∀ j, j < 42 → lU I' (m + 1) 42 81 j = I 81 j := fun j hj => by
  unfold lU
  rw [if_pos ⟨rfl, hj⟩]
  exact h j hj
theorem tKp_l {I' : Nat → Nat → Int32} {v : Nat} (h : tKp m I I') : tKp m I (lU I' v 42) := fun j hj => by
  rw [lU_row (by omega)]
  exact h j hj
/-- after a deed: what it came to is weighed, and all is laid back -/
theorem r207_w (hF : mFx F st nx gf rl dr) (hm6 : m ≤ 5) {b : Bool} {zN zt : Int32} {best first : Int} {x : Int} {tn : Int} (hb : (b = true ∧ 0 ≤ best ∧ best ≤ 2147483647) ∨ (b = false ∧ -1 ≤ best ∧ best ≤ 8)) (hx : 0 ≤ x ∧ x ≤ 8) (htn : -1 ≤ tn ∧ tn ≤ 7) {a8 a9 : Option Value} (hP : ∀ a8 a9, mG (d + 1) 207 70 [some (.ref 80), some (.int (jI m)), some (.int zN), some (.int zt), some (.int (jI (if b = true then 1 else 0))), some (.int (jI (if (b = true ∧ x < best) ∨ (b = false ∧ best < x) then x else best))), some (.int (jI (if (b = true ∧ x < best) ∨ (b = false ∧ best < x) then (if tn = -1 then 8 else tn) else first))), some (.int (jI (tn + 1))), a8, a9] [] (mLay e) (lU I (m + 1) 42, E, F) P) : mG (d + 1) 207 132 [some (.ref 80), some (.int (jI m)), some (.int zN), some (.int zt), some (.int (jI (if b = true then 1 else 0))), some (.int (jI best)), some (.int (jI first)), some (.int (jI tn)), a8, a9] [.int (jI x)] (mLay e) (I, E, F) P := by
  have e150 := fun (P : mPost) => r150 (d := d) (e := e) (I := I) (E := E) (P := P) hF (v := m + 1) (by omega)
  have e1 : (1 : Int) + (m : Int) = ((m + 1 : Nat) : Int) := by omega
  rcases hb with ⟨rfl, hb⟩ | ⟨rfl, hb⟩
  · by_cases q : x < best
    · rw [if_pos (show ((true = true ∧ x < best) ∨ (true = false ∧ best < x)) from .inl ⟨rfl, q⟩), if_pos (show ((true = true ∧ x < best) ∨ (true = false ∧ best < x)) from .inl ⟨rfl, q⟩), if_pos rfl] at hP
      by_cases qt : tn = -1
      · rw [if_pos qt] at hP
        subst qt
        simp only [g207_132, g207_134, g207_136, g207_139, g207_141, g207_143, g207_146, g207_147, g207_150, g207_151, g207_154, g207_156, g207_158, g207_161, g207_162, g207_165, g207_166, g207_168, g207_170, g207_173, g207_175, g207_176, g207_179, g207_181, g207_184, g207_186, g207_189, g207_191, g207_193, g207_195, g207_198, g207_200, g207_203, g207_205, g207_207, g207_208, g207_209, g207_210, g207_211, g207_214, g207_217, nl_none, nl_int, nl_ref, Option.toList_some, Option.toList_none, List.cons_append, List.nil_append, mSetI_u, mSetL_u, Nat.add_one_ne_zero, Nat.add_eq_zero_iff, and_false, false_and, not_false_eq_true, ne_eq, j0_0, j0_1, j1_0, j1_1, if_true, if_false, ite_true, ite_false, true_and, and_true, or_true, true_or, false_or, or_false, ↓reduceIte, Nat.reduceEqDiff, Nat.reduceAdd, Nat.reduceMul, Nat.reduceSub, Int.reduceLE, Int.reduceLT, Int.reduceNeg, Int.reduceAdd, Int.reduceSub, Int.reduceEq, reduceCtorEq, jI_lt, jI_eq, jI_lt0, jI_0lt, jI_eq0, jI_0le, jn_lo, iU_row, iU_nr, iU_eq, iU_same, jI_ixn, jI_add, jI_sub, jI_nat, show -2147483648 ≤ (x : Int) by omega, show (x : Int) ≤ 2147483647 by omega, show -2147483648 ≤ (best : Int) by omega, show (best : Int) ≤ 2147483647 by omega, q, e1, e150, eq_self]
        exact hP _ _
      · rw [if_neg qt] at hP
        simp only [g207_132, g207_134, g207_136, g207_139, g207_141, g207_143, g207_146, g207_147, g207_150, g207_151, g207_154, g207_156, g207_158, g207_161, g207_162, g207_165, g207_166, g207_168, g207_170, g207_173, g207_175, g207_176, g207_179, g207_181, g207_184, g207_186, g207_189, g207_191, g207_193, g207_195, g207_198, g207_200, g207_203, g207_205, g207_207, g207_208, g207_209, g207_210, g207_211, g207_214, g207_217, nl_none, nl_int, nl_ref, Option.toList_some, Option.toList_none, List.cons_append, List.nil_append, mSetI_u, mSetL_u, Nat.add_one_ne_zero, Nat.add_eq_zero_iff, and_false, false_and, not_false_eq_true, ne_eq, j0_0, j0_1, j1_0, j1_1, if_true, if_false, ite_true, ite_false, true_and, and_true, or_true, true_or, false_or, or_false, ↓reduceIte, Nat.reduceEqDiff, Nat.reduceAdd, Nat.reduceMul, Nat.reduceSub, Int.reduceLE, Int.reduceLT, Int.reduceNeg, Int.reduceAdd, Int.reduceSub, Int.reduceEq, reduceCtorEq, jI_lt, jI_eq, jI_lt0, jI_0lt, jI_eq0, jI_0le, jn_lo, iU_row, iU_nr, iU_eq, iU_same, jI_ixn, jI_add, jI_sub, jI_nat, show -2147483648 ≤ (x : Int) by omega, show (x : Int) ≤ 2147483647 by omega, show -2147483648 ≤ (best : Int) by omega, show (best : Int) ≤ 2147483647 by omega, show -2147483648 ≤ (tn : Int) by omega, show (tn : Int) ≤ 2147483647 by omega, q, qt, e1, e150, eq_self]
        exact hP _ _
    · have hn : ¬ ((true = true ∧ x < best) ∨ (true = false ∧ best < x)) := by
        rintro (h | h)
        · exact q h.2
        · cases h.1
      rw [if_neg hn, if_neg hn, if_pos rfl] at hP
      simp only [g207_132, g207_134, g207_136, g207_139, g207_141, g207_143, g207_146, g207_147, g207_150, g207_151, g207_154, g207_156, g207_158, g207_161, g207_162, g207_165, g207_166, g207_168, g207_170, g207_173, g207_175, g207_176, g207_179, g207_181, g207_184, g207_186, g207_189, g207_191, g207_193, g207_195, g207_198, g207_200, g207_203, g207_205, g207_207, g207_208, g207_209, g207_210, g207_211, g207_214, g207_217, nl_none, nl_int, nl_ref, Option.toList_some, Option.toList_none, List.cons_append, List.nil_append, mSetI_u, mSetL_u, Nat.add_one_ne_zero, Nat.add_eq_zero_iff, and_false, false_and, not_false_eq_true, ne_eq, j0_0, j0_1, j1_0, j1_1, if_true, if_false, ite_true, ite_false, true_and, and_true, or_true, true_or, false_or, or_false, ↓reduceIte, Nat.reduceEqDiff, Nat.reduceAdd, Nat.reduceMul, Nat.reduceSub, Int.reduceLE, Int.reduceLT, Int.reduceNeg, Int.reduceAdd, Int.reduceSub, Int.reduceEq, reduceCtorEq, jI_lt, jI_eq, jI_lt0, jI_0lt, jI_eq0, jI_0le, jn_lo, iU_row, iU_nr, iU_eq, iU_same, jI_ixn, jI_add, jI_sub, jI_nat, show -2147483648 ≤ (x : Int) by omega, show (x : Int) ≤ 2147483647 by omega, show -2147483648 ≤ (best : Int) by omega, show (best : Int) ≤ 2147483647 by omega, q, e1, e150, eq_self]
      exact hP _ _
  · by_cases q : best < x
    · rw [if_pos (show ((false = true ∧ x < best) ∨ (false = false ∧ best < x)) from .inr ⟨rfl, q⟩), if_pos (show ((false = true ∧ x < best) ∨ (false = false ∧ best < x)) from .inr ⟨rfl, q⟩), if_neg (by decide)] at hP
      by_cases qt : tn = -1
      · rw [if_pos qt] at hP
        subst qt
        simp only [g207_132, g207_134, g207_136, g207_139, g207_141, g207_143, g207_146, g207_147, g207_150, g207_151, g207_154, g207_156, g207_158, g207_161, g207_162, g207_165, g207_166, g207_168, g207_170, g207_173, g207_175, g207_176, g207_179, g207_181, g207_184, g207_186, g207_189, g207_191, g207_193, g207_195, g207_198, g207_200, g207_203, g207_205, g207_207, g207_208, g207_209, g207_210, g207_211, g207_214, g207_217, nl_none, nl_int, nl_ref, Option.toList_some, Option.toList_none, List.cons_append, List.nil_append, mSetI_u, mSetL_u, Nat.add_one_ne_zero, Nat.add_eq_zero_iff, and_false, false_and, not_false_eq_true, ne_eq, j0_0, j0_1, j1_0, j1_1, if_true, if_false, ite_true, ite_false, true_and, and_true, or_true, true_or, false_or, or_false, ↓reduceIte, Nat.reduceEqDiff, Nat.reduceAdd, Nat.reduceMul, Nat.reduceSub, Int.reduceLE, Int.reduceLT, Int.reduceNeg, Int.reduceAdd, Int.reduceSub, Int.reduceEq, reduceCtorEq, jI_lt, jI_eq, jI_lt0, jI_0lt, jI_eq0, jI_0le, jn_lo, iU_row, iU_nr, iU_eq, iU_same, jI_ixn, jI_add, jI_sub, jI_nat, show -2147483648 ≤ (x : Int) by omega, show (x : Int) ≤ 2147483647 by omega, show -2147483648 ≤ (best : Int) by omega, show (best : Int) ≤ 2147483647 by omega, q, e1, e150, eq_self]
        exact hP _ _
      · rw [if_neg qt] at hP
        simp only [g207_132, g207_134, g207_136, g207_139, g207_141, g207_143, g207_146, g207_147, g207_150, g207_151, g207_154, g207_156, g207_158, g207_161, g207_162, g207_165, g207_166, g207_168, g207_170, g207_173, g207_175, g207_176, g207_179, g207_181, g207_184, g207_186, g207_189, g207_191, g207_193, g207_195, g207_198, g207_200, g207_203, g207_205, g207_207, g207_208, g207_209, g207_210, g207_211, g207_214, g207_217, nl_none, nl_int, nl_ref, Option.toList_some, Option.toList_none, List.cons_append, List.nil_append, mSetI_u, mSetL_u, Nat.add_one_ne_zero, Nat.add_eq_zero_iff, and_false, false_and, not_false_eq_true, ne_eq, j0_0, j0_1, j1_0, j1_1, if_true, if_false, ite_true, ite_false, true_and, and_true, or_true, true_or, false_or, or_false, ↓reduceIte, Nat.reduceEqDiff, Nat.reduceAdd, Nat.reduceMul, Nat.reduceSub, Int.reduceLE, Int.reduceLT, Int.reduceNeg, Int.reduceAdd, Int.reduceSub, Int.reduceEq, reduceCtorEq, jI_lt, jI_eq, jI_lt0, jI_0lt, jI_eq0, jI_0le, jn_lo, iU_row, iU_nr, iU_eq, iU_same, jI_ixn, jI_add, jI_sub, jI_nat, show -2147483648 ≤ (x : Int) by omega, show (x : Int) ≤ 2147483647 by omega, show -2147483648 ≤ (best : Int) by omega, show (best : Int) ≤ 2147483647 by omega, show -2147483648 ≤ (tn : Int) by omega, show (tn : Int) ≤ 2147483647 by omega, q, qt, e1, e150, eq_self]
        exact hP _ _
    · have hn : ¬ ((false = true ∧ x < best) ∨ (false = false ∧ best < x)) := by
        rintro (h | h)
        · cases h.1
        · exact q h.2
      rw [if_neg hn, if_neg hn, if_neg (by decide)] at hP
      simp only [g207_132, g207_134, g207_136, g207_139, g207_141, g207_143, g207_146, g207_147, g207_150, g207_151, g207_154, g207_156, g207_158, g207_161, g207_162, g207_165, g207_166, g207_168, g207_170, g207_173, g207_175, g207_176, g207_179, g207_181, g207_184, g207_186, g207_189, g207_191, g207_193, g207_195, g207_198, g207_200, g207_203, g207_205, g207_207, g207_208, g207_209, g207_210, g207_211, g207_214, g207_217, nl_none, nl_int, nl_ref, Option.toList_some, Option.toList_none, List.cons_append, List.nil_append, mSetI_u, mSetL_u, Nat.add_one_ne_zero, Nat.add_eq_zero_iff, and_false, false_and, not_false_eq_true, ne_eq, j0_0, j0_1, j1_0, j1_1, if_true, if_false, ite_true, ite_false, true_and, and_true, or_true, true_or, false_or, or_false, ↓reduceIte, Nat.reduceEqDiff, Nat.reduceAdd, Nat.reduceMul, Nat.reduceSub, Int.reduceLE, Int.reduceLT, Int.reduceNeg, Int.reduceAdd, Int.reduceSub, Int.reduceEq, reduceCtorEq, jI_lt, jI_eq, jI_lt0, jI_0lt, jI_eq0, jI_0le, jn_lo, iU_row, iU_nr, iU_eq, iU_same, jI_ixn, jI_add, jI_sub, jI_nat, show -2147483648 ≤ (x : Int) by omega, show (x : Int) ≤ 2147483647 by omega, show -2147483648 ≤ (best : Int) by omega, show (best : Int) ≤ 2147483647 by omega, q, e1, e150, eq_self]
      exact hP _ _
theorem r207_l (hF : mFx F st nx gf rl dr) (hok : vTownOk n T) (hR : vTownR n T (I 81) (I 80 2)) (hlw : vLawR lw (I 87) (I 80 11) (I 80 12)) (hg0 : I 80 20 = jI (-1)) {k : Nat} {h : Bool} (hk : m + (k + 1) = N) (hN : N ≤ 3) (hh : h = decide (m % 2 = 0)) (ih : r207S lw n t N e E F k) (hP : ∀ I', vAg (vScU2 (m + 1)) I I' → (∀ j, j < 42 → I' 81 j = I 81 j) → I' 80 32 = jI (tV lw n t (k + 1) h T).2 → P (some (.int (jI (tV lw n t (k + 1) h T).1))) (mLay e) (I', E, F)) : ∀ (q i : Nat) (z : Int) I' a8 a9, i + q = n → z = i → vAg (vScU2 (m + 1)) I I' → tKp m I I' → (∀ j, j < 42 → I' 81 j = I 81 j) → mG (d + 75 + k + 1) 207 70 [some (.ref 80), some (.int (jI m)), some (.int (jI N)), some (.int (jI t)), some (.int (jI (if h = true then 1 else 0))), some (.int (jI (tFd h (fun i => (tV lw n t k (!h) (tD h n T i)).1) ((tV lw n t k (!h) T).1, 8) i).1)), some (.int (jI (tFd h (fun i => (tV lw n t k (!h) (tD h n T i)).1) ((tV lw n t k (!h) T).1, 8) i).2)), some (.int (jI z)), a8, a9] [] (mLay e) (I', E, F) P
  | 0, i, z, I', a8, a9, hi, hz, ha, hkp, h81 => by
    have hn := hok.1
    have hR' := vTr_42 hn h81 (ha 80 2 sc_U2n) hR
    subst hz
    have e : i = n := by omega
    subst e
    have hp := hP (iU I' 80 32 (jI (tV lw i t (k + 1) h T).2)) (vAg_iU ha (.inl (by unfold vScr; omega))) (fun j hj => by rw [iU_row (by omega)]; exact h81 j hj) iU_eq
    rw [g207_70]
    simp only [g207_72, g207_73, g207_76, g207_220, g207_221, g207_223, g207_226, g207_228, nl_none, nl_int, nl_ref, Option.toList_some, Option.toList_none, List.cons_append, List.nil_append, mSetI_u, mSetL_u, Nat.add_one_ne_zero, Nat.add_eq_zero_iff, and_false, false_and, not_false_eq_true, ne_eq, j0_0, j0_1, j1_0, j1_1, if_true, if_false, ite_true, ite_false, true_and, and_true, or_true, true_or, false_or, or_false, ↓reduceIte, Nat.reduceEqDiff, Nat.reduceAdd, Nat.reduceMul, Nat.reduceSub, Int.reduceLE, Int.reduceLT, Int.reduceNeg, Int.reduceAdd, Int.reduceSub, Int.reduceEq, reduceCtorEq, jI_lt, jI_eq, jI_lt0, jI_0lt, jI_eq0, jI_0le, jn_lo, iU_row, iU_nr, iU_eq, iU_same, jI_ixn, jI_add, jI_sub, jI_nat, sh_80, hR'.2.2.2, show ((i : Nat) : Int) ≤ 2147483647 by omega, show (i : Nat) ≤ 2147483647 by omega, show ¬ ((i : Int) < (i : Int)) by omega]
    exact hp
  | q + 1, i, z, I', a8, a9, hi, hz, ha, hkp, h81 => by
    have ihm := r207_l hF hok hR hlw hg0 hk hN hh ih hP q (i + 1)
    have hn := hok.1
    have hin : i < n := by omega
    have hR' := vTr_42 hn h81 (ha 80 2 sc_U2n) hR
    have hri := tFd_in (h := h) (g := fun i => (tV lw n t k (!h) (tD h n T i)).1) (b := ((tV lw n t k (!h) T).1, 8)) (fun i => tV_in hn k _ _) (tV_in hn k _ _) i
    have hstep1 : (tFd h (fun i => (tV lw n t k (!h) (tD h n T i)).1) ((tV lw n t k (!h) T).1, 8) (i + 1)).1 = (if (h = true ∧ (tV lw n t k (!h) (tD h n T i)).1 < (tFd h (fun i => (tV lw n t k (!h) (tD h n T i)).1) ((tV lw n t k (!h) T).1, 8) i).1) ∨ (h = false ∧ (tFd h (fun i => (tV lw n t k (!h) (tD h n T i)).1) ((tV lw n t k (!h) T).1, 8) i).1 < (tV lw n t k (!h) (tD h n T i)).1) then (tV lw n t k (!h) (tD h n T i)).1 else (tFd h (fun i => (tV lw n t k (!h) (tD h n T i)).1) ((tV lw n t k (!h) T).1, 8) i).1) := by
      rw [tFd]
      split <;> rfl
    have hstep2 : (tFd h (fun i => (tV lw n t k (!h) (tD h n T i)).1) ((tV lw n t k (!h) T).1, 8) (i + 1)).2 = (if (h = true ∧ (tV lw n t k (!h) (tD h n T i)).1 < (tFd h (fun i => (tV lw n t k (!h) (tD h n T i)).1) ((tV lw n t k (!h) T).1, 8) i).1) ∨ (h = false ∧ (tFd h (fun i => (tV lw n t k (!h) (tD h n T i)).1) ((tV lw n t k (!h) T).1, 8) i).1 < (tV lw n t k (!h) (tD h n T i)).1) then (if (i : Int) = -1 then 8 else (i : Int)) else (tFd h (fun i => (tV lw n t k (!h) (tD h n T i)).1) ((tV lw n t k (!h) T).1, 8) i).2) := by
      rw [tFd, if_neg (show ¬ (i : Int) = -1 by omega)]
      split <;> rfl
    rw [hstep1, hstep2] at ihm
    have hv := tV_in (lw := lw) (t := t) hn k (!h) (tD h n T i)
    have hpar : (!h) = decide ((m + 1) % 2 = 0) := by
      rw [hh, ← decide_not]
      congr 1
      apply propext
      omega
    subst hz
    have hL' : vLawR lw (I' 87) (I' 80 11) (I' 80 12) := vLr_ag ha (fun _ _ q => sc_U2L q) hlw
    rw [g207_70]
    have fin : ∀ I2, vAg (vScU2 (m + 1)) I I2 → tKp m I I2 → vTownR n (tD h n T i) (I2 81) (I2 80 2) → vTownOk n (tD h n T i) → mF (d + 75 + k) 207 [.ref 80, .int (jI ((m : Int) + 1)), .int (jI N), .int (jI t)] (mLay e) (I2, E, F) (fun v lay1 M1 => mG (d + 75 + k + 1) 207 132 [some (.ref 80), some (.int (jI m)), some (.int (jI N)), some (.int (jI t)), some (.int (jI (if h = true then 1 else 0))), some (.int (jI (tFd h (fun i => (tV lw n t k (!h) (tD h n T i)).1) ((tV lw n t k (!h) T).1, 8) i).1)), some (.int (jI (tFd h (fun i => (tV lw n t k (!h) (tD h n T i)).1) ((tV lw n t k (!h) T).1, 8) i).2)), some (.int (jI i)), a8, a9] (v.toList ++ []) lay1 M1 P) := by
      intro I2 h2 hk2 hR2 hok2
      refine ih d (m + 1) (tD h n T i) (!h) I2 _ _ (by omega) hpar hok2 hR2 (vLr_ag h2 (fun _ _ q => sc_U2L q) hlw) ((h2 80 20 sc_U2g).trans hg0) rfl (fun I3 h3 h83 _ => ?_)
      refine r207_w (d := d + 75 + k) hF (by omega) (by
        cases h with
        | true => exact .inl ⟨rfl, hri.1, by omega⟩
        | false => exact .inr ⟨rfl, by omega, hri.2⟩) hv ⟨by omega, by omega⟩ (fun a8 a9 => ?_)
      have h23 : vAg (vScU2 (m + 1)) I I3 := vAg_tr h2 (vAg_mono h3 (fun r j q => sc_U2m (by omega) q))
      exact ihm _ _ a8 a9 (by omega) (by omega) (vAg_l2 h23) (tKp_l (tKp_up hk2 h3)) (tKp_lu (tKp_up hk2 h3))
    cases h with
    | true =>
      simp only [g207_72, g207_73, g207_76, g207_79, g207_81, g207_84, g207_86, g207_89, g207_90, g207_92, g207_95, g207_98, g207_100, g207_103, g207_104, g207_106, g207_107, g207_108, g207_109, g207_111, g207_112, g207_115, g207_116, g207_117, g207_120, g207_123, g207_124, g207_125, g207_126, g207_127, g207_128, g207_129, nl_none, nl_int, nl_ref, Option.toList_some, Option.toList_none, List.cons_append, List.nil_append, mSetI_u, mSetL_u, Nat.add_one_ne_zero, Nat.add_eq_zero_iff, and_false, false_and, not_false_eq_true, ne_eq, j0_0, j0_1, j1_0, j1_1, if_true, if_false, ite_true, ite_false, true_and, and_true, or_true, true_or, false_or, or_false, ↓reduceIte, Nat.reduceEqDiff, Nat.reduceAdd, Nat.reduceMul, Nat.reduceSub, Int.reduceLE, Int.reduceLT, Int.reduceNeg, Int.reduceAdd, Int.reduceSub, Int.reduceEq, reduceCtorEq, jI_lt, jI_eq, jI_lt0, jI_0lt, jI_eq0, jI_0le, jn_lo, iU_row, iU_nr, iU_eq, iU_same, jI_ixn, jI_add, jI_sub, jI_nat, sh_80, hR'.2.2.2, show ((i : Nat) : Int) ≤ 2147483647 by omega, show (i : Nat) ≤ 2147483647 by omega, show ((n : Nat) : Int) ≤ 2147483647 by omega, show (n : Nat) ≤ 2147483647 by omega, show ¬ ((i : Int) < 0) by omega, show (i : Int) < (n : Int) by omega, r206 hF hok hR' hin]
      have hset := vTr_put (w := 4) (told := i) (v := tNx n T i) (I' := I') hn (by omega) hin hR' (fun j _ _ => rfl) rfl
      exact fin _ (vAg_iU ha (.inr (.inl rfl))) (fun j hj => by rw [iU_row (by omega)]; exact hkp j hj) hset (tA_ok hok hin)
    | false =>
      have hw := hR'.1 i hin 3 (by omega)
      have ho := vOk_w hok hin
      have hT3 : 0 ≤ T 3 i ∧ T 3 i ≤ 99 := ⟨ho.2.2.2.2.2.2.1, ho.2.2.2.2.2.2.2.1⟩
      clear ho
      simp only [g207_72, g207_73, g207_76, g207_79, g207_81, g207_84, g207_86, g207_89, g207_90, g207_92, g207_95, g207_98, g207_100, g207_103, g207_104, g207_106, g207_107, g207_108, g207_109, g207_111, g207_112, g207_115, g207_116, g207_117, g207_120, g207_123, g207_124, g207_125, g207_126, g207_127, g207_128, g207_129, nl_none, nl_int, nl_ref, Option.toList_some, Option.toList_none, List.cons_append, List.nil_append, mSetI_u, mSetL_u, Nat.add_one_ne_zero, Nat.add_eq_zero_iff, and_false, false_and, not_false_eq_true, ne_eq, j0_0, j0_1, j1_0, j1_1, if_true, if_false, ite_true, ite_false, true_and, and_true, or_true, true_or, false_or, or_false, ↓reduceIte, Nat.reduceEqDiff, Nat.reduceAdd, Nat.reduceMul, Nat.reduceSub, Int.reduceLE, Int.reduceLT, Int.reduceNeg, Int.reduceAdd, Int.reduceSub, Int.reduceEq, reduceCtorEq, jI_lt, jI_eq, jI_lt0, jI_0lt, jI_eq0, jI_0le, jn_lo, iU_row, iU_nr, iU_eq, iU_same, jI_ixn, jI_add, jI_sub, jI_nat, sh_80, hR'.2.2.2, show ((i : Nat) : Int) ≤ 2147483647 by omega, show (i : Nat) ≤ 2147483647 by omega, show ((n : Nat) : Int) ≤ 2147483647 by omega, show (n : Nat) ≤ 2147483647 by omega, show -2147483648 ≤ (T 3 i - 5 : Int) by omega, show (T 3 i - 5 : Int) ≤ 2147483647 by omega, show ¬ ((i : Int) < 0) by omega, show (i : Int) < (n : Int) by omega, show i ≤ 7 by omega, r152 hF, r153 hF, Int.reduceToNat, hw, pPos_e, pPos_e']
      have hset := vTr_put (w := 3) (told := i) (v := pPos (T 3 i - 5)) (I' := I') hn (by omega) hin hR' (fun j _ _ => rfl) rfl
      exact fin _ (vAg_iU ha (.inr (.inl rfl))) (fun j hj => by rw [iU_row (by omega)]; exact hkp j hj) hset (tB_ok hok hin)
theorem r207 (hF : mFx F st nx gf rl dr) (hn : n ≤ 8) (hl : ∀ g q n k s t, 0 ≤ lw g q n k s t ∧ lw g q n k s t ≤ 20) (ht6 : t ≤ 6) (hN : N ≤ 3) : ∀ k, r207S lw n t N e E F k
  | 0 => by
    intro d m T h I P zm hk hh hok hR hlw hg0 hzm hP
    have em : m = N := by omega
    subst em hzm
    have e1 : (1 : Int) + (m : Int) = ((m + 1 : Nat) : Int) := by omega
    have e149 := fun (P : mPost) (d : Nat) => r149 (d := d) (e := e) (I := I) (E := E) (P := P) hF (v := m + 1) (by omega)
    have hR1 : vTownR n T (kU I (m + 1) 42 81) (kU I (m + 1) 42 80 2) := kR hR
    have hL1 : vLawR lw (kU I (m + 1) 42 87) (kU I (m + 1) 42 80 11) (kU I (m + 1) 42 80 12) := kL hlw
    simp only [g207_in, g207_0, g207_1, g207_2, g207_3, g207_4, g207_7, g207_8, g207_9, g207_12, g207_13, g207_14, nl_none, nl_int, nl_ref, Option.toList_some, Option.toList_none, List.cons_append, List.nil_append, mSetI_u, mSetL_u, Nat.add_one_ne_zero, Nat.add_eq_zero_iff, and_false, false_and, not_false_eq_true, ne_eq, j0_0, j0_1, j1_0, j1_1, if_true, if_false, ite_true, ite_false, true_and, and_true, or_true, true_or, false_or, or_false, ↓reduceIte, Nat.reduceEqDiff, Nat.reduceAdd, Nat.reduceMul, Nat.reduceSub, Int.reduceLE, Int.reduceLT, Int.reduceNeg, Int.reduceAdd, Int.reduceSub, Int.reduceEq, reduceCtorEq, jI_lt, jI_eq, jI_lt0, jI_0lt, jI_eq0, jI_0le, jn_lo, iU_row, iU_nr, iU_eq, iU_same, jI_ixn, jI_add, jI_sub, jI_nat, sh_80, e1, e149, eq_self]
    refine r180 hF hok hl hR1 hL1 (by omega) (fun I2 h2 hR2 => ?_)
    have hg2 : I2 80 20 = jI (-1) := kg h2 hg0
    have e150 := fun (P : mPost) (d : Nat) => r150 (d := d) (e := e) (I := I2) (E := E) (P := P) hF (v := m + 1) (by omega)
    have hp := hP (lU I2 (m + 1) 42) (vAg_l2 (vAg_tr (vAg_k2 (m := m + 1) (by omega) vAg_rfl) (vAg_mono h2 (fun _ _ q => sc_EU q)))) (fun j hj => lU_k h2 (fun r j q q' => absurd q' (fun w => sc_E82 q w)) j hj) (fun h => absurd h (by omega))
    simp only [g207_17, g207_18, g207_21, g207_24, g207_26, g207_27, g207_28, g207_29, g207_30, g207_33, g207_35, nl_none, nl_int, nl_ref, Option.toList_some, Option.toList_none, List.cons_append, List.nil_append, mSetI_u, mSetL_u, Nat.add_one_ne_zero, Nat.add_eq_zero_iff, and_false, false_and, not_false_eq_true, ne_eq, j0_0, j0_1, j1_0, j1_1, if_true, if_false, ite_true, ite_false, true_and, and_true, or_true, true_or, false_or, or_false, ↓reduceIte, Nat.reduceEqDiff, Nat.reduceAdd, Nat.reduceMul, Nat.reduceSub, Int.reduceLE, Int.reduceLT, Int.reduceNeg, Int.reduceAdd, Int.reduceSub, Int.reduceEq, reduceCtorEq, jI_lt, jI_eq, jI_lt0, jI_0lt, jI_eq0, jI_0le, jn_lo, iU_row, iU_nr, iU_eq, iU_same, jI_ixn, jI_add, jI_sub, jI_nat, sh_80, e1, e150, r181 (g := -1) hF (pDays_ok (lw := lw) hok t) (by omega) (by omega) hR2 hg2, r230, pBits_ln hn]
    exact hp
  | k + 1 => by
    intro d m T h I P zm hk hh hok hR hlw hg0 hzm hP
    subst hzm
    rw [show d + 75 + (k + 1) = d + 75 + k + 1 from rfl]
    have e1 : (1 : Int) + (m : Int) = ((m + 1 : Nat) : Int) := by omega
    have e149 := fun (P : mPost) (d : Nat) => r149 (d := d) (e := e) (I := I) (E := E) (P := P) hF (v := m + 1) (by omega)
    have hR1 : vTownR n T (kU I (m + 1) 42 81) (kU I (m + 1) 42 80 2) := kR hR
    have hL1 : vLawR lw (kU I (m + 1) 42 87) (kU I (m + 1) 42 80 11) (kU I (m + 1) 42 80 12) := kL hlw
    have hv := tV_in (lw := lw) (t := t) hn k (!h) T
    have hpar : (!h) = decide ((m + 1) % 2 = 0) := by
      rw [hh, ← decide_not]
      congr 1
      apply propext
      omega
    have hk0 : tKp m I (kU I (m + 1) 42) := fun j hj => by
      unfold kU
      rw [if_pos ⟨rfl, by omega, by omega⟩]
      congr 1
      omega
    have ha0 : vAg (vScU2 (m + 1)) I (kU I (m + 1) 42) := vAg_k2 (by omega) vAg_rfl
    have h80 : ∀ j, kU I (m + 1) 42 80 j = I 80 j := fun j => by rw [kU_row (by omega)]
    have fin : ∀ (best : Int) a8 a9, (h = true ∧ best = 2147483647 ∨ h = false ∧ best = -1) → mG (d + 75 + k + 1) 207 123 [some (.ref 80), some (.int (jI m)), some (.int (jI N)), some (.int (jI t)), some (.int (jI (if h = true then 1 else 0))), some (.int (jI best)), some (.int (jI 8)), some (.int (jI (-1))), a8, a9] [] (mLay e) (kU I (m + 1) 42, E, F) P := by
      intro best a8 a9 hbest
      simp only [g207_123, g207_124, g207_125, g207_126, g207_127, g207_128, g207_129, nl_none, nl_int, nl_ref, Option.toList_some, Option.toList_none, List.cons_append, List.nil_append, mSetI_u, mSetL_u, Nat.add_one_ne_zero, Nat.add_eq_zero_iff, and_false, false_and, not_false_eq_true, ne_eq, j0_0, j0_1, j1_0, j1_1, if_true, if_false, ite_true, ite_false, true_and, and_true, or_true, true_or, false_or, or_false, ↓reduceIte, Nat.reduceEqDiff, Nat.reduceAdd, Nat.reduceMul, Nat.reduceSub, Int.reduceLE, Int.reduceLT, Int.reduceNeg, Int.reduceAdd, Int.reduceSub, Int.reduceEq, reduceCtorEq, jI_lt, jI_eq, jI_lt0, jI_0lt, jI_eq0, jI_0le, jn_lo, iU_row, iU_nr, iU_eq, iU_same, jI_ixn, jI_add, jI_sub, jI_nat, sh_80]
      refine r207 hF hn hl ht6 hN k d (m + 1) T (!h) (kU I (m + 1) 42) _ _ (by omega) hpar hok hR1 hL1 ((h80 20).trans hg0) rfl (fun I3 h3 h83 _ => ?_)
      have hwt : (h = true ∧ (tV lw n t k (!h) T).1 < best) ∨ (h = false ∧ best < (tV lw n t k (!h) T).1) := by
        rcases hbest with ⟨h1, h2⟩ | ⟨h1, h2⟩
        · exact .inl ⟨h1, by omega⟩
        · exact .inr ⟨h1, by omega⟩
      refine r207_w (d := d + 75 + k) hF (by omega) (by
        rcases hbest with ⟨h1, h2⟩ | ⟨h1, h2⟩
        · exact .inl ⟨h1, by omega, by omega⟩
        · exact .inr ⟨h1, by omega, by omega⟩) hv ⟨by omega, by omega⟩ (fun a8 a9 => ?_)
      rw [if_pos hwt, if_pos hwt, if_pos rfl]
      exact r207_l hF hok hR hlw hg0 hk hN hh (r207 hF hn hl ht6 hN k) (fun I' g1 g2 g3 => hP I' g1 g2 (fun _ => g3)) n 0 _ _ a8 a9 (by omega) (by omega) (vAg_l2 (vAg_tr ha0 (vAg_mono h3 (fun r j q => sc_U2m (by omega) q)))) (tKp_l (tKp_up hk0 h3)) (tKp_lu (tKp_up hk0 h3))
    have hm3 : m = 0 ∨ m = 1 ∨ m = 2 := by omega
    have hmN : ¬ (m : Int) = (N : Int) := by omega
    cases h with
    | true =>
      have fin' := fun a8 a9 => fin 2147483647 a8 a9 (.inl ⟨rfl, rfl⟩)
      have em : (m : Int) - (m : Int) / 2 * 2 = 0 := by
        have := of_decide_eq_true hh.symm
        omega
      simp only [g207_in, g207_0, g207_1, g207_2, g207_3, g207_4, g207_7, g207_8, g207_9, g207_12, g207_13, g207_14, g207_17, g207_18, g207_21, g207_24, g207_26, g207_27, g207_28, g207_29, g207_30, g207_33, g207_35, g207_36, g207_37, g207_38, g207_39, g207_42, g207_43, g207_46, g207_47, g207_49, g207_51, g207_54, g207_57, g207_60, g207_61, g207_63, g207_65, g207_67, g207_68, g207_70, g207_72, g207_73, g207_76, g207_79, g207_81, g207_84, g207_86, nl_none, nl_int, nl_ref, Option.toList_some, Option.toList_none, List.cons_append, List.nil_append, mSetI_u, mSetL_u, Nat.add_one_ne_zero, Nat.add_eq_zero_iff, and_false, false_and, not_false_eq_true, ne_eq, j0_0, j0_1, j1_0, j1_1, if_true, if_false, ite_true, ite_false, true_and, and_true, or_true, true_or, false_or, or_false, ↓reduceIte, Nat.reduceEqDiff, Nat.reduceAdd, Nat.reduceMul, Nat.reduceSub, Int.reduceLE, Int.reduceLT, Int.reduceNeg, Int.reduceAdd, Int.reduceSub, Int.reduceEq, reduceCtorEq, jI_lt, jI_eq, jI_lt0, jI_0lt, jI_eq0, jI_0le, jn_lo, iU_row, iU_nr, iU_eq, iU_same, jI_ixn, jI_add, jI_sub, jI_nat, sh_80, e1, e149, hmN, show ((m : Nat) : Int) ≤ 2147483647 by omega, show (m : Nat) ≤ 2147483647 by omega, show ((N : Nat) : Int) ≤ 2147483647 by omega, show (N : Nat) ≤ 2147483647 by omega, h80, hR.2.2.2, em, jI_div (a := (m : Int)) (b := 2) (by omega) (by omega) (by omega) (by omega), jI_mul, show ((n : Nat) : Int) ≤ 2147483647 by omega, show (n : Nat) ≤ 2147483647 by omega, show -2147483648 ≤ ((m : Int) - (m : Int) / 2 * 2 : Int) by omega, show ((m : Int) - (m : Int) / 2 * 2 : Int) ≤ 2147483647 by omega, show (-1 : Int) < (n : Int) by omega, show (-1 : Int) < 0 by omega]
      exact fin' _ _
    | false =>
      have fin' := fun a8 a9 => fin (-1) a8 a9 (.inr ⟨rfl, rfl⟩)
      have em : (m : Int) - (m : Int) / 2 * 2 = 1 := by
        have := of_decide_eq_false hh.symm
        omega
      simp only [g207_in, g207_0, g207_1, g207_2, g207_3, g207_4, g207_7, g207_8, g207_9, g207_12, g207_13, g207_14, g207_17, g207_18, g207_21, g207_24, g207_26, g207_27, g207_28, g207_29, g207_30, g207_33, g207_35, g207_36, g207_37, g207_38, g207_39, g207_42, g207_43, g207_46, g207_47, g207_49, g207_51, g207_54, g207_57, g207_60, g207_61, g207_63, g207_65, g207_67, g207_68, g207_70, g207_72, g207_73, g207_76, g207_79, g207_81, g207_84, g207_86, g207_89, g207_90, g207_92, g207_95, g207_98, g207_100, nl_none, nl_int, nl_ref, Option.toList_some, Option.toList_none, List.cons_append, List.nil_append, mSetI_u, mSetL_u, Nat.add_one_ne_zero, Nat.add_eq_zero_iff, and_false, false_and, not_false_eq_true, ne_eq, j0_0, j0_1, j1_0, j1_1, if_true, if_false, ite_true, ite_false, true_and, and_true, or_true, true_or, false_or, or_false, ↓reduceIte, Nat.reduceEqDiff, Nat.reduceAdd, Nat.reduceMul, Nat.reduceSub, Int.reduceLE, Int.reduceLT, Int.reduceNeg, Int.reduceAdd, Int.reduceSub, Int.reduceEq, reduceCtorEq, jI_lt, jI_eq, jI_lt0, jI_0lt, jI_eq0, jI_0le, jn_lo, iU_row, iU_nr, iU_eq, iU_same, jI_ixn, jI_add, jI_sub, jI_nat, sh_80, e1, e149, hmN, show ((m : Nat) : Int) ≤ 2147483647 by omega, show (m : Nat) ≤ 2147483647 by omega, show ((N : Nat) : Int) ≤ 2147483647 by omega, show (N : Nat) ≤ 2147483647 by omega, h80, hR.2.2.2, em, jI_div (a := (m : Int)) (b := 2) (by omega) (by omega) (by omega) (by omega), jI_mul, show ((n : Nat) : Int) ≤ 2147483647 by omega, show (n : Nat) ≤ 2147483647 by omega, show -2147483648 ≤ ((m : Int) - (m : Int) / 2 * 2 : Int) by omega, show ((m : Int) - (m : Int) / 2 * 2 : Int) ≤ 2147483647 by omega, show (-1 : Int) < (n : Int) by omega, show (-1 : Int) < 0 by omega]
      exact fin' _ _
end RTN
theorem api_byTurns (x y : Int32) : mApiI vI 112 208 [.int x, .int y] := by
  rintro c lay M hc ⟨e, I, E, F, st, nx, gf, rl, dr, n, bn, T, lw, rfl, rfl, hI⟩
  have hF := hI.1
  have hI0 := hI
  obtain ⟨-, -, h3, -, h5, h6, h7, h8, h9, h10, h11, h12, h13, h14, h15, h16, h17, h18⟩ := hI
  have hrl : rl = 70 ∨ rl = 75 := by omega
  clear h3
  have hn := h5.1
  have hc4 : vTc n T 4 I := h6
  have hrl0 : ¬ rl = 0 := by omega
  obtain ⟨z, hz0, hz1, rfl⟩ := jI_of x
  obtain ⟨w, hw0, hw1, rfl⟩ := jI_of y
  by_cases hz : z < 0
  · simp only [g112_in, g112_0, g112_1, g112_3, g112_5, g112_8, g112_11, g112_12, g112_14, g112_15, g112_17, g112_20, g112_21, g112_22, g112_23, g112_26, g112_29, g112_30, g112_31, g112_32, g112_35, g112_36, g112_39, g112_40, g112_42, g112_43, g112_44, g112_46, g112_47, g112_50, g112_51, g112_54, g112_55, g112_58, g112_59, g112_61, g112_62, g112_63, g112_66, g112_67, g112_68, g112_71, g112_72, g112_75, g112_76, g112_79, g112_82, g208_in, g208_0, g208_1, g208_4, g208_5, g208_7, g208_8, g208_9, g208_10, g208_13, g208_16, g208_17, g208_19, g208_20, g208_21, g208_23, g208_26, g208_29, g208_30, g208_31, g208_32, g208_35, g208_38, g208_39, g208_40, g208_41, g208_42, g208_43, g208_45, g208_46, g208_47, g208_49, g208_50, g208_53, g208_54, g208_55, g208_58, g208_59, g208_62, g208_63, g208_66, nl_none, nl_int, nl_ref, Option.toList_some, Option.toList_none, List.cons_append, List.nil_append, mSetI_u, mSetL_u, Nat.add_one_ne_zero, Nat.add_eq_zero_iff, and_false, false_and, not_false_eq_true, ne_eq, j0_0, j0_1, j1_0, j1_1, if_true, if_false, ite_true, ite_false, true_and, and_true, or_true, true_or, false_or, or_false, ↓reduceIte, Nat.reduceEqDiff, Nat.reduceAdd, Nat.reduceMul, Nat.reduceSub, Int.reduceLE, Int.reduceLT, Int.reduceNeg, Int.reduceAdd, Int.reduceSub, Int.reduceEq, reduceCtorEq, jI_lt, jI_eq, jI_lt0, jI_0lt, jI_eq0, jI_0le, jn_lo, iU_row, iU_nr, iU_eq, iU_same, jI_ixn, jI_add, jI_sub, jI_nat, sh_3, sh_80, hz0, hz1, hz, c132_f (z := z) (a := 10) (b := 36) hz0 hz1 (by omega) (by omega) (by omega) (by omega) (by omega)]
    exact vI_fin (vI_same hI0)
  · obtain ⟨N, rfl⟩ : ∃ N : Nat, z = N := ⟨z.toNat, by omega⟩
    obtain ⟨D, t, rfl, ht10⟩ : ∃ D t : Nat, N = 10 * D + t ∧ t < 10 := ⟨N / 10, N % 10, by omega, by omega⟩
    obtain ⟨N, hN⟩ : ∃ N : Nat, N = 10 * D + t := ⟨_, rfl⟩
    rw [← hN] at hz0 hz1 hz
    have eN : ((10 * D + t : Nat) : Int) = (N : Int) := by omega
    rw [eN]
    have dv := jI_div (a := (N : Int)) (b := 10) (by omega) (by omega) (by omega) (by omega)
    have eD : (N : Int) / 10 = (D : Int) := by omega
    have et : (N : Int) - (D : Int) * 10 = (t : Int) := by omega
    by_cases hb : 10 ≤ (N : Int) ∧ (N : Int) ≤ 36
    · have hD1 : 1 ≤ D ∧ D ≤ 3 := by omega
      by_cases hbt : t ≤ 6
      · by_cases hbw : 0 ≤ w ∧ w ≤ 1
        · have key : ∀ (I1 : Nat → Nat → Int32), vAg vScr I I1 → I1 31 4 = jI (tV lw n t D true T).2 → mG 100 112 66 [some (.ref 3), some (.int (jI N)), some (.int (jI w)), none] [.int (jI (tV lw n t D true T).1)] (mLay e) (I1, E, F) (fun v l1 M1 => mSh l1 80 = some (13, 44) ∧ mF 100 208 [.ref 80, .int (jI N), .int (jI w)] l1 M1 (fun v2 l2 M2 => v2 = v ∧ (∃ r, v = some (.int r)) ∧ vI (c + 1) l2 M2)) := by
            intro I1 h1 hf1
            have hR1 : vTownR n T (I1 81) (I1 80 2) := vTr_sc h1 h7
            have ref : ∀ P : mPost, (∀ I2, vAg (vScU2 1) I1 I2 → (∀ j, j < 42 → I2 81 j = I1 81 j) → I2 80 32 = jI (tV lw n t D true T).2 → mG 100 208 53 [some (.ref 80), some (.int (jI N)), some (.int (jI w)), none] [.int (jI (tV lw n t D true T).1)] (mLay e) (I2, E, F) P) → mF 100 208 [.ref 80, .int (jI N), .int (jI w)] (mLay e) (I1, E, F) P := by
              intro P hP
              have h99 : (99 : Nat) = (99 - 75 - D) + 75 + D := by omega
              simp only [g208_in, g208_0, g208_1, g208_4, g208_5, g208_7, g208_8, g208_9, g208_10, g208_13, g208_16, g208_17, g208_19, g208_20, g208_21, g208_23, g208_26, g208_29, g208_30, g208_31, g208_32, g208_35, g208_38, g208_39, g208_40, g208_41, g208_42, g208_43, g208_45, g208_46, g208_47, g208_49, g208_50, nl_none, nl_int, nl_ref, Option.toList_some, Option.toList_none, List.cons_append, List.nil_append, mSetI_u, mSetL_u, Nat.add_one_ne_zero, Nat.add_eq_zero_iff, and_false, false_and, not_false_eq_true, ne_eq, j0_0, j0_1, j1_0, j1_1, if_true, if_false, ite_true, ite_false, true_and, and_true, or_true, true_or, false_or, or_false, ↓reduceIte, Nat.reduceEqDiff, Nat.reduceAdd, Nat.reduceMul, Nat.reduceSub, Int.reduceLE, Int.reduceLT, Int.reduceNeg, Int.reduceAdd, Int.reduceSub, Int.reduceEq, reduceCtorEq, jI_lt, jI_eq, jI_lt0, jI_0lt, jI_eq0, jI_0le, jn_lo, iU_row, iU_nr, iU_eq, iU_same, jI_ixn, jI_add, jI_sub, jI_nat, sh_80, show ((N : Nat) : Int) ≤ 2147483647 by omega, show (N : Nat) ≤ 2147483647 by omega, show ¬ ((N : Int) < 0) by omega, dv, jI_mul, eD, et, r146_t (z := (D : Int)) (a := 1) (b := 3) (by omega) (by omega) (by omega) (by omega), r146_t (z := (t : Int)) (a := 0) (b := 6) (by omega) (by omega) (by omega) (by omega), r146_t (z := w) (a := 0) (b := 1) hbw.1 hbw.2 (by omega) (by omega)]
              rw [h99]
              refine r207 hF hn h15.1 hbt hD1.2 D (99 - 75 - D) 0 T true I1 _ _ (by omega) (by decide) h5 hR1 (vLr_sc h1 h16) ((h1 80 20 sc_g).trans h8) rfl (fun I2 h2 h81 hf2 => ?_)
              exact hP I2 h2 h81 (hf2 hD1.1)
            have fin : ∀ I2, vAg (vScU2 1) I1 I2 → (∀ j, j < 42 → I2 81 j = I1 81 j) → vI (c + 1) (mLay e) (I2, E, F) := fun I2 h2 h81 => vI_ag hI0 (vAg_tr (vAg_mono h1 (fun _ _ q => .inl q)) (vAg_mono h2 (fun _ _ q => sc_UE q))) (fun j hj => (h81 j hj).trans (h1 81 j (fun q => (sc_R q).1 rfl)))
            rcases (by omega : w = 0 ∨ w = 1) with rfl | rfl
            · simp only [g112_66, g112_67, g112_68, g112_71, g112_72, g112_75, g112_76, g112_79, g112_82, nl_none, nl_int, nl_ref, Option.toList_some, Option.toList_none, List.cons_append, List.nil_append, mSetI_u, mSetL_u, Nat.add_one_ne_zero, Nat.add_eq_zero_iff, and_false, false_and, not_false_eq_true, ne_eq, j0_0, j0_1, j1_0, j1_1, if_true, if_false, ite_true, ite_false, true_and, and_true, or_true, true_or, false_or, or_false, ↓reduceIte, Nat.reduceEqDiff, Nat.reduceAdd, Nat.reduceMul, Nat.reduceSub, Int.reduceLE, Int.reduceLT, Int.reduceNeg, Int.reduceAdd, Int.reduceSub, Int.reduceEq, reduceCtorEq, jI_lt, jI_eq, jI_lt0, jI_0lt, jI_eq0, jI_0le, jn_lo, iU_row, iU_nr, iU_eq, iU_same, jI_ixn, jI_add, jI_sub, jI_nat]
              refine ⟨sh_80, ref _ (fun I2 h2 h81 hf2 => ?_)⟩
              simp only [g208_53, g208_54, g208_55, g208_58, g208_59, g208_62, g208_63, g208_66, nl_none, nl_int, nl_ref, Option.toList_some, Option.toList_none, List.cons_append, List.nil_append, mSetI_u, mSetL_u, Nat.add_one_ne_zero, Nat.add_eq_zero_iff, and_false, false_and, not_false_eq_true, ne_eq, j0_0, j0_1, j1_0, j1_1, if_true, if_false, ite_true, ite_false, true_and, and_true, or_true, true_or, false_or, or_false, ↓reduceIte, Nat.reduceEqDiff, Nat.reduceAdd, Nat.reduceMul, Nat.reduceSub, Int.reduceLE, Int.reduceLT, Int.reduceNeg, Int.reduceAdd, Int.reduceSub, Int.reduceEq, reduceCtorEq, jI_lt, jI_eq, jI_lt0, jI_0lt, jI_eq0, jI_0le, jn_lo, iU_row, iU_nr, iU_eq, iU_same, jI_ixn, jI_add, jI_sub, jI_nat, eq_self]
              exact vI_fin (fin I2 h2 h81)
            · simp only [g112_66, g112_67, g112_68, g112_71, g112_72, g112_75, g112_76, g112_79, g112_82, nl_none, nl_int, nl_ref, Option.toList_some, Option.toList_none, List.cons_append, List.nil_append, mSetI_u, mSetL_u, Nat.add_one_ne_zero, Nat.add_eq_zero_iff, and_false, false_and, not_false_eq_true, ne_eq, j0_0, j0_1, j1_0, j1_1, if_true, if_false, ite_true, ite_false, true_and, and_true, or_true, true_or, false_or, or_false, ↓reduceIte, Nat.reduceEqDiff, Nat.reduceAdd, Nat.reduceMul, Nat.reduceSub, Int.reduceLE, Int.reduceLT, Int.reduceNeg, Int.reduceAdd, Int.reduceSub, Int.reduceEq, reduceCtorEq, jI_lt, jI_eq, jI_lt0, jI_0lt, jI_eq0, jI_0le, jn_lo, iU_row, iU_nr, iU_eq, iU_same, jI_ixn, jI_add, jI_sub, jI_nat, sh_3, sh_31, f_3_5 hF, hf1]
              refine ⟨sh_80, ref _ (fun I2 h2 h81 hf2 => ?_)⟩
              simp only [g208_53, g208_54, g208_55, g208_58, g208_59, g208_62, g208_63, g208_66, nl_none, nl_int, nl_ref, Option.toList_some, Option.toList_none, List.cons_append, List.nil_append, mSetI_u, mSetL_u, Nat.add_one_ne_zero, Nat.add_eq_zero_iff, and_false, false_and, not_false_eq_true, ne_eq, j0_0, j0_1, j1_0, j1_1, if_true, if_false, ite_true, ite_false, true_and, and_true, or_true, true_or, false_or, or_false, ↓reduceIte, Nat.reduceEqDiff, Nat.reduceAdd, Nat.reduceMul, Nat.reduceSub, Int.reduceLE, Int.reduceLT, Int.reduceNeg, Int.reduceAdd, Int.reduceSub, Int.reduceEq, reduceCtorEq, jI_lt, jI_eq, jI_lt0, jI_0lt, jI_eq0, jI_0le, jn_lo, iU_row, iU_nr, iU_eq, iU_same, jI_ixn, jI_add, jI_sub, jI_nat, sh_80, hf2, eq_self]
              exact vI_fin (fin I2 h2 h81)
          have h99 : (99 : Nat) = (99 - 8 - D) + 8 + D := by omega
          simp only [g112_in, g112_0, g112_1, g112_3, g112_5, g112_8, g112_11, g112_12, g112_14, g112_15, g112_17, g112_20, g112_21, g112_22, g112_23, g112_26, g112_29, g112_30, g112_31, g112_32, g112_35, g112_36, g112_39, g112_40, g112_42, g112_43, g112_44, g112_46, g112_47, g88_in, g88_0, g88_1, g88_4, g88_5, nl_none, nl_int, nl_ref, Option.toList_some, Option.toList_none, List.cons_append, List.nil_append, mSetI_u, mSetL_u, Nat.add_one_ne_zero, Nat.add_eq_zero_iff, and_false, false_and, not_false_eq_true, ne_eq, j0_0, j0_1, j1_0, j1_1, if_true, if_false, ite_true, ite_false, true_and, and_true, or_true, true_or, false_or, or_false, ↓reduceIte, Nat.reduceEqDiff, Nat.reduceAdd, Nat.reduceMul, Nat.reduceSub, Int.reduceLE, Int.reduceLT, Int.reduceNeg, Int.reduceAdd, Int.reduceSub, Int.reduceEq, reduceCtorEq, jI_lt, jI_eq, jI_lt0, jI_0lt, jI_eq0, jI_0le, jn_lo, iU_row, iU_nr, iU_eq, iU_same, jI_ixn, jI_add, jI_sub, jI_nat, sh_3, sh_4, sh_31, sh_32, f_3_0 hF, f_3_5 hF, f_31_0 hF, show ((N : Nat) : Int) ≤ 2147483647 by omega, show (N : Nat) ≤ 2147483647 by omega, show ((t : Nat) : Int) ≤ 2147483647 by omega, show (t : Nat) ≤ 2147483647 by omega, dv, jI_mul, eD, et, show ¬ (6 < (t : Int)) by omega, c132_t (z := (N : Int)) (a := 10) (b := 36) hb.1 hb.2 (by omega) (by omega), c132_t (z := w) (a := 0) (b := 1) hbw.1 hbw.2 (by omega) (by omega)]
          refine c66 (vTw_32 hF) (vTw_4 hF) (by omega) (fun I1 h1 g0 g6 g7 hw => ?_)
          have hc1 : vTc n T 32 (iU (iU (iU I1 31 2 (jI D)) 31 3 (jI t)) 31 4 (jI 8)) := vTc_ag (vAg_iU (R := fun r _ => r = 31) (vAg_iU (vAg_iU vAg_rfl rfl) rfl) rfl) (fun r j q => by omega) (vTc_cp hn hc4 g0 g6 g7 hw)
          have ha1 : vAg vScr I (iU (iU (iU I1 31 2 (jI D)) 31 3 (jI t)) 31 4 (jI 8)) := by
            have e31 : ∀ j, vScr 31 j := fun j => by unfold vScr; omega
            exact vAg_iU (vAg_iU (vAg_iU (vAg_mono h1 (fun r j q => by unfold vScr; omega)) (e31 2)) (e31 3)) (e31 4)
          simp only [g88_8, g88_9, g88_10, g88_13, g88_14, g88_15, g88_18, g88_19, g88_21, g88_24, g112_50, g112_51, g112_54, g112_55, g112_58, g112_59, g112_61, g112_62, g112_63, nl_none, nl_int, nl_ref, Option.toList_some, Option.toList_none, List.cons_append, List.nil_append, mSetI_u, mSetL_u, Nat.add_one_ne_zero, Nat.add_eq_zero_iff, and_false, false_and, not_false_eq_true, ne_eq, j0_0, j0_1, j1_0, j1_1, if_true, if_false, ite_true, ite_false, true_and, and_true, or_true, true_or, false_or, or_false, ↓reduceIte, Nat.reduceEqDiff, Nat.reduceAdd, Nat.reduceMul, Nat.reduceSub, Int.reduceLE, Int.reduceLT, Int.reduceNeg, Int.reduceAdd, Int.reduceSub, Int.reduceEq, reduceCtorEq, jI_lt, jI_eq, jI_lt0, jI_0lt, jI_eq0, jI_0le, jn_lo, iU_row, iU_nr, iU_eq, iU_same, jI_ixn, jI_add, jI_sub, jI_nat, sh_3, sh_31, f_3_5 hF, f_3_13 hF, hrl0, show ((N : Nat) : Int) ≤ 2147483647 by omega, show (N : Nat) ≤ 2147483647 by omega, dv, eD]
          rw [h99]
          refine (tFM hF hrl hn hbt hD1.1 hD1.2 D (Nat.le_refl D)).1 (99 - 8 - D) T (-1) _ _ _ _ h5 hc1 (vLw_ag ha1 (fun r j q => by unfold vScr at q; omega) h15) (by rw [iU_same (by omega), iU_same (by omega), iU_eq]) (by rw [iU_same (by omega), iU_eq]) (fun _ => ⟨rfl, iU_eq⟩) (by omega) (by omega) rfl rfl (fun I2 r h2 hc2 r0 r1 hr hf _ => ?_)
          have her : r = (tV lw n t D true T).1 := by
            rcases hr with h | h
            · exact h
            · omega
          rw [her]
          exact key I2 (vAg_tr ha1 (vAg_mono h2 (fun r j q => by unfold vScT2 at q; unfold vScr; omega))) (hf rfl)
        · simp only [g112_in, g112_0, g112_1, g112_3, g112_5, g112_8, g112_11, g112_12, g112_14, g112_15, g112_17, g112_20, g112_21, g112_22, g112_23, g112_26, g112_29, g112_30, g112_31, g112_32, g112_35, g112_36, g112_39, g112_40, g112_42, g112_43, g112_44, g112_46, g112_47, g112_50, g112_51, g112_54, g112_55, g112_58, g112_59, g112_61, g112_62, g112_63, g112_66, g112_67, g112_68, g112_71, g112_72, g112_75, g112_76, g112_79, g112_82, g208_in, g208_0, g208_1, g208_4, g208_5, g208_7, g208_8, g208_9, g208_10, g208_13, g208_16, g208_17, g208_19, g208_20, g208_21, g208_23, g208_26, g208_29, g208_30, g208_31, g208_32, g208_35, g208_38, g208_39, g208_40, g208_41, g208_42, g208_43, g208_45, g208_46, g208_47, g208_49, g208_50, g208_53, g208_54, g208_55, g208_58, g208_59, g208_62, g208_63, g208_66, nl_none, nl_int, nl_ref, Option.toList_some, Option.toList_none, List.cons_append, List.nil_append, mSetI_u, mSetL_u, Nat.add_one_ne_zero, Nat.add_eq_zero_iff, and_false, false_and, not_false_eq_true, ne_eq, j0_0, j0_1, j1_0, j1_1, if_true, if_false, ite_true, ite_false, true_and, and_true, or_true, true_or, false_or, or_false, ↓reduceIte, Nat.reduceEqDiff, Nat.reduceAdd, Nat.reduceMul, Nat.reduceSub, Int.reduceLE, Int.reduceLT, Int.reduceNeg, Int.reduceAdd, Int.reduceSub, Int.reduceEq, reduceCtorEq, jI_lt, jI_eq, jI_lt0, jI_0lt, jI_eq0, jI_0le, jn_lo, iU_row, iU_nr, iU_eq, iU_same, jI_ixn, jI_add, jI_sub, jI_nat, sh_3, sh_80, show ((N : Nat) : Int) ≤ 2147483647 by omega, show (N : Nat) ≤ 2147483647 by omega, show ((t : Nat) : Int) ≤ 2147483647 by omega, show (t : Nat) ≤ 2147483647 by omega, show ¬ ((N : Int) < 0) by omega, show ¬ (6 < (t : Int)) by omega, dv, jI_mul, eD, et, c132_t (z := (N : Int)) (a := 10) (b := 36) hb.1 hb.2 (by omega) (by omega), c132_f (z := w) (a := 0) (b := 1) hw0 hw1 hbw (by omega) (by omega) (by omega) (by omega), r146_t (z := (D : Int)) (a := 1) (b := 3) (by omega) (by omega) (by omega) (by omega), r146_t (z := (t : Int)) (a := 0) (b := 6) (by omega) (by omega) (by omega) (by omega), r146_f (z := w) (a := 0) (b := 1) hw0 hw1 hbw (by omega) (by omega) (by omega) (by omega)]
          exact vI_fin (vI_same hI0)
      · simp only [g112_in, g112_0, g112_1, g112_3, g112_5, g112_8, g112_11, g112_12, g112_14, g112_15, g112_17, g112_20, g112_21, g112_22, g112_23, g112_26, g112_29, g112_30, g112_31, g112_32, g112_35, g112_36, g112_39, g112_40, g112_42, g112_43, g112_44, g112_46, g112_47, g112_50, g112_51, g112_54, g112_55, g112_58, g112_59, g112_61, g112_62, g112_63, g112_66, g112_67, g112_68, g112_71, g112_72, g112_75, g112_76, g112_79, g112_82, g208_in, g208_0, g208_1, g208_4, g208_5, g208_7, g208_8, g208_9, g208_10, g208_13, g208_16, g208_17, g208_19, g208_20, g208_21, g208_23, g208_26, g208_29, g208_30, g208_31, g208_32, g208_35, g208_38, g208_39, g208_40, g208_41, g208_42, g208_43, g208_45, g208_46, g208_47, g208_49, g208_50, g208_53, g208_54, g208_55, g208_58, g208_59, g208_62, g208_63, g208_66, nl_none, nl_int, nl_ref, Option.toList_some, Option.toList_none, List.cons_append, List.nil_append, mSetI_u, mSetL_u, Nat.add_one_ne_zero, Nat.add_eq_zero_iff, and_false, false_and, not_false_eq_true, ne_eq, j0_0, j0_1, j1_0, j1_1, if_true, if_false, ite_true, ite_false, true_and, and_true, or_true, true_or, false_or, or_false, ↓reduceIte, Nat.reduceEqDiff, Nat.reduceAdd, Nat.reduceMul, Nat.reduceSub, Int.reduceLE, Int.reduceLT, Int.reduceNeg, Int.reduceAdd, Int.reduceSub, Int.reduceEq, reduceCtorEq, jI_lt, jI_eq, jI_lt0, jI_0lt, jI_eq0, jI_0le, jn_lo, iU_row, iU_nr, iU_eq, iU_same, jI_ixn, jI_add, jI_sub, jI_nat, sh_3, sh_80, show ((N : Nat) : Int) ≤ 2147483647 by omega, show (N : Nat) ≤ 2147483647 by omega, show ((t : Nat) : Int) ≤ 2147483647 by omega, show (t : Nat) ≤ 2147483647 by omega, show ¬ ((N : Int) < 0) by omega, show 6 < (t : Int) by omega, dv, jI_mul, eD, et, c132_t (z := (N : Int)) (a := 10) (b := 36) hb.1 hb.2 (by omega) (by omega), r146_t (z := (D : Int)) (a := 1) (b := 3) (by omega) (by omega) (by omega) (by omega), r146_f (z := (t : Int)) (a := 0) (b := 6) (by omega) (by omega) (by omega) (by omega) (by omega) (by omega) (by omega)]
        exact vI_fin (vI_same hI0)
    · by_cases hbD : 1 ≤ (D : Int) ∧ (D : Int) ≤ 3
      · simp only [g112_in, g112_0, g112_1, g112_3, g112_5, g112_8, g112_11, g112_12, g112_14, g112_15, g112_17, g112_20, g112_21, g112_22, g112_23, g112_26, g112_29, g112_30, g112_31, g112_32, g112_35, g112_36, g112_39, g112_40, g112_42, g112_43, g112_44, g112_46, g112_47, g112_50, g112_51, g112_54, g112_55, g112_58, g112_59, g112_61, g112_62, g112_63, g112_66, g112_67, g112_68, g112_71, g112_72, g112_75, g112_76, g112_79, g112_82, g208_in, g208_0, g208_1, g208_4, g208_5, g208_7, g208_8, g208_9, g208_10, g208_13, g208_16, g208_17, g208_19, g208_20, g208_21, g208_23, g208_26, g208_29, g208_30, g208_31, g208_32, g208_35, g208_38, g208_39, g208_40, g208_41, g208_42, g208_43, g208_45, g208_46, g208_47, g208_49, g208_50, g208_53, g208_54, g208_55, g208_58, g208_59, g208_62, g208_63, g208_66, nl_none, nl_int, nl_ref, Option.toList_some, Option.toList_none, List.cons_append, List.nil_append, mSetI_u, mSetL_u, Nat.add_one_ne_zero, Nat.add_eq_zero_iff, and_false, false_and, not_false_eq_true, ne_eq, j0_0, j0_1, j1_0, j1_1, if_true, if_false, ite_true, ite_false, true_and, and_true, or_true, true_or, false_or, or_false, ↓reduceIte, Nat.reduceEqDiff, Nat.reduceAdd, Nat.reduceMul, Nat.reduceSub, Int.reduceLE, Int.reduceLT, Int.reduceNeg, Int.reduceAdd, Int.reduceSub, Int.reduceEq, reduceCtorEq, jI_lt, jI_eq, jI_lt0, jI_0lt, jI_eq0, jI_0le, jn_lo, iU_row, iU_nr, iU_eq, iU_same, jI_ixn, jI_add, jI_sub, jI_nat, sh_3, sh_80, show ((N : Nat) : Int) ≤ 2147483647 by omega, show (N : Nat) ≤ 2147483647 by omega, show ((t : Nat) : Int) ≤ 2147483647 by omega, show (t : Nat) ≤ 2147483647 by omega, show ¬ ((N : Int) < 0) by omega, dv, jI_mul, eD, et, c132_f (z := (N : Int)) (a := 10) (b := 36) hz0 hz1 hb (by omega) (by omega) (by omega) (by omega), r146_t (z := (D : Int)) (a := 1) (b := 3) hbD.1 hbD.2 (by omega) (by omega), r146_f (z := (t : Int)) (a := 0) (b := 6) (by omega) (by omega) (by omega) (by omega) (by omega) (by omega) (by omega)]
        exact vI_fin (vI_same hI0)
      · simp only [g112_in, g112_0, g112_1, g112_3, g112_5, g112_8, g112_11, g112_12, g112_14, g112_15, g112_17, g112_20, g112_21, g112_22, g112_23, g112_26, g112_29, g112_30, g112_31, g112_32, g112_35, g112_36, g112_39, g112_40, g112_42, g112_43, g112_44, g112_46, g112_47, g112_50, g112_51, g112_54, g112_55, g112_58, g112_59, g112_61, g112_62, g112_63, g112_66, g112_67, g112_68, g112_71, g112_72, g112_75, g112_76, g112_79, g112_82, g208_in, g208_0, g208_1, g208_4, g208_5, g208_7, g208_8, g208_9, g208_10, g208_13, g208_16, g208_17, g208_19, g208_20, g208_21, g208_23, g208_26, g208_29, g208_30, g208_31, g208_32, g208_35, g208_38, g208_39, g208_40, g208_41, g208_42, g208_43, g208_45, g208_46, g208_47, g208_49, g208_50, g208_53, g208_54, g208_55, g208_58, g208_59, g208_62, g208_63, g208_66, nl_none, nl_int, nl_ref, Option.toList_some, Option.toList_none, List.cons_append, List.nil_append, mSetI_u, mSetL_u, Nat.add_one_ne_zero, Nat.add_eq_zero_iff, and_false, false_and, not_false_eq_true, ne_eq, j0_0, j0_1, j1_0, j1_1, if_true, if_false, ite_true, ite_false, true_and, and_true, or_true, true_or, false_or, or_false, ↓reduceIte, Nat.reduceEqDiff, Nat.reduceAdd, Nat.reduceMul, Nat.reduceSub, Int.reduceLE, Int.reduceLT, Int.reduceNeg, Int.reduceAdd, Int.reduceSub, Int.reduceEq, reduceCtorEq, jI_lt, jI_eq, jI_lt0, jI_0lt, jI_eq0, jI_0le, jn_lo, iU_row, iU_nr, iU_eq, iU_same, jI_ixn, jI_add, jI_sub, jI_nat, sh_3, sh_80, show ((N : Nat) : Int) ≤ 2147483647 by omega, show (N : Nat) ≤ 2147483647 by omega, show ((t : Nat) : Int) ≤ 2147483647 by omega, show (t : Nat) ≤ 2147483647 by omega, show ¬ ((N : Int) < 0) by omega, dv, jI_mul, eD, et, c132_f (z := (N : Int)) (a := 10) (b := 36) hz0 hz1 hb (by omega) (by omega) (by omega) (by omega), r146_f (z := (D : Int)) (a := 1) (b := 3) (by omega) (by omega) hbD (by omega) (by omega) (by omega) (by omega)]
        exact vI_fin (vI_same hI0)
