/-! ===== by turns: numbers; the class's side ===== -/
theorem pLack_bf (T : Nat → Nat → Int) : ∀ m, pLack T (-1) m = pBf (fun i => T 3 i == 0) m
  | 0 => rfl
  | m + 1 => by
    rw [pLack, pBf, pLack_bf T m]
    by_cases q : T 3 m = 0
    · rw [if_pos ⟨q, by omega⟩, if_pos (beq_iff_eq.2 q)]
    · rw [if_neg (fun w => q w.1), if_neg (fun w => q (beq_iff_eq.1 w))]
theorem qLn_cn (T : Nat → Nat → Int) : ∀ m, pCn (fun i => T 3 i == 0) m = qLn T m
  | 0 => rfl
  | m + 1 => by
    rw [pCn, qLn, qLn_cn T m]
    by_cases q : T 3 m = 0
    · rw [if_pos (beq_iff_eq.2 q), if_pos q]
    · rw [if_neg (fun w => q (beq_iff_eq.1 w)), if_neg q, Int.add_zero]
theorem pBf_ext (p : Nat → Bool) (n : Nat) : ∀ k, pBf (fun i => decide (i < n) && p i) (n + k) = pBf p n ∧ pCn (fun i => decide (i < n) && p i) (n + k) = pCn p n
  | 0 => pBf_cg n (fun j hj => by simp [hj])
  | k + 1 => by
    obtain ⟨h1, h2⟩ := pBf_ext p n k
    have e : ¬ ((decide (n + k < n) && p (n + k)) = true) := by
      rw [decide_eq_false (by omega), Bool.false_and]
      decide
    rw [← Nat.add_assoc, pBf, pCn, if_neg e, if_neg e]
    exact ⟨h1, h2⟩
/-- who lacks, counted -/
theorem pBits_ln {n : Nat} (hn : n ≤ 8) (T : Nat → Nat → Int) : pBits (pLack T (-1) n) = jI (qLn T n) := by
  have h := pBits_10 (fun i => decide (i < n) && (fun i => T 3 i == 0) i)
  obtain ⟨h1, h2⟩ := pBf_ext (fun i => T 3 i == 0) n (10 - n)
  rw [show n + (10 - n) = 10 by omega] at h1 h2
  rw [h1, h2] at h
  rw [pLack_bf, h, qLn_cn]
theorem qLn_in (T : Nat → Nat → Int) : ∀ m : Nat, 0 ≤ qLn T m ∧ qLn T m ≤ m
  | 0 => ⟨Int.le_refl _, Int.le_refl _⟩
  | m + 1 => by
    have h := qLn_in T m
    rw [qLn]
    split <;> omega
/-- whom one cares for next -/
def tNx (n : Nat) (T : Nat → Nat → Int) (i : Nat) : Int := if n < 2 then -1 else if (T 4 i + 1).toNat % n = i then (((i + 1) % n : Nat) : Int) else (((T 4 i + 1).toNat % n : Nat) : Int)
def tA (n : Nat) (T : Nat → Nat → Int) (i : Nat) : Nat → Nat → Int := pSet T 4 i (tNx n T i)
def tB (T : Nat → Nat → Int) (i : Nat) : Nat → Nat → Int := pSet T 3 i (pPos (T 3 i - 5))
def tD (h : Bool) (n : Nat) (T : Nat → Nat → Int) (i : Nat) : Nat → Nat → Int := if h = true then tA n T i else tB T i
def tFd (h : Bool) (g : Nat → Int) (b : Int × Int) : Nat → Int × Int
  | 0 => b
  | m + 1 => if (h = true ∧ g m < (tFd h g b m).1) ∨ (h = false ∧ (tFd h g b m).1 < g m) then (g m, (m : Int)) else tFd h g b m
/-- the value with k deeds left, and the first deed; h: the mathematician is to do one -/
def tV (lw : vLw) (n t : Nat) : Nat → Bool → (Nat → Nat → Int) → Int × Int
  | 0, _, T => (qLn (pDays lw n T t) n, 8)
  | k + 1, h, T => tFd h (fun i => (tV lw n t k (!h) (tD h n T i)).1) ((tV lw n t k (!h) T).1, 8) n
theorem tFd_in {h : Bool} {g : Nat → Int} {b : Int × Int} (hg : ∀ i, 0 ≤ g i ∧ g i ≤ 8) (hb : 0 ≤ b.1 ∧ b.1 ≤ 8) : ∀ m, 0 ≤ (tFd h g b m).1 ∧ (tFd h g b m).1 ≤ 8
  | 0 => hb
  | m + 1 => by
    rw [tFd]
    split
    · exact hg m
    · exact tFd_in hg hb m
theorem tFd_2 {h : Bool} {g : Nat → Int} {b : Int × Int} (hb : 0 ≤ b.2 ∧ b.2 ≤ 8) : ∀ m, m ≤ 8 → 0 ≤ (tFd h g b m).2 ∧ (tFd h g b m).2 ≤ 8
  | 0, _ => hb
  | m + 1, hm => by
    rw [tFd]
    split
    · exact ⟨by show (0 : Int) ≤ (m : Int); omega, by show (m : Int) ≤ 8; omega⟩
    · exact tFd_2 hb m (by omega)
theorem tV_in {lw : vLw} {n t : Nat} (hn : n ≤ 8) : ∀ k h T, 0 ≤ (tV lw n t k h T).1 ∧ (tV lw n t k h T).1 ≤ 8
  | 0, h, T => by
    have := qLn_in (pDays lw n T t) n
    exact ⟨this.1, by show qLn (pDays lw n T t) n ≤ 8; omega⟩
  | k + 1, h, T => by
    rw [tV]
    exact tFd_in (h := h) (g := fun i => (tV lw n t k (!h) (tD h n T i)).1) (b := ((tV lw n t k (!h) T).1, 8)) (fun i => tV_in hn k _ _) (tV_in hn k _ _) n
theorem tFd_dn {g : Nat → Int} {b : Int × Int} (i : Nat) : ∀ m, (tFd true g b (i + m)).1 ≤ (tFd true g b i).1
  | 0 => Int.le_refl _
  | m + 1 => by
    have ih := tFd_dn (g := g) (b := b) i m
    rw [← Nat.add_assoc, tFd]
    split
    · next q =>
      rcases q with q | q
      · exact Int.le_trans (Int.le_of_lt q.2) ih
      · exact absurd q.1 (by decide)
    · exact ih
theorem tFd_up {g : Nat → Int} {b : Int × Int} (i : Nat) : ∀ m, (tFd false g b i).1 ≤ (tFd false g b (i + m)).1
  | 0 => Int.le_refl _
  | m + 1 => by
    have ih := tFd_up (g := g) (b := b) i m
    rw [← Nat.add_assoc, tFd]
    split
    · next q =>
      rcases q with q | q
      · exact absurd q.1 (by decide)
      · exact Int.le_trans ih (Int.le_of_lt q.2)
    · exact ih
section TUP
variable {n : Nat} {T : Nat → Nat → Int} {i : Nat}
theorem tNx_in (hi : i < n) : -1 ≤ tNx n T i ∧ tNx n T i < n ∧ tNx n T i ≠ i := by
  unfold tNx
  by_cases q : n < 2
  · rw [if_pos q]
    omega
  · rw [if_neg q]
    have h1 := Nat.mod_lt (i + 1) (show 0 < n by omega)
    have h2 := Nat.mod_lt (T 4 i + 1).toNat (show 0 < n by omega)
    have h3 : (i + 1) % n ≠ i := by
      rcases (by omega : i + 1 = n ∨ i + 1 < n) with e | e
      · rw [e, Nat.mod_self]
        omega
      · rw [Nat.mod_eq_of_lt e]
        omega
    split <;> omega
theorem tA_ok (hok : vTownOk n T) (hi : i < n) : vTownOk n (tA n T i) := by
  have h := tNx_in (T := T) hi
  exact pSet_ok (a := (i : Int)) (b := 4) hok (.inr ⟨by omega, by omega, by omega, by omega⟩) (.inr (.inr (.inr (.inr (.inl ⟨rfl, by omega⟩)))))
theorem tB_in (hok : vTownOk n T) (hi : i < n) : 0 ≤ pPos (T 3 i - 5) ∧ pPos (T 3 i - 5) ≤ 99 := by
  have h := vOk_w hok hi
  unfold pPos
  split <;> omega
theorem tB_ok (hok : vTownOk n T) (hi : i < n) : vTownOk n (tB T i) := by
  have h := tB_in hok hi
  exact pSet_ok (a := (i : Int)) (b := 3) hok (.inr ⟨by omega, by omega, by omega, by omega⟩) (.inr (.inr (.inr (.inl ⟨rfl, h⟩))))
theorem pSet_back {b a : Nat} {v : Int} : pSet (pSet T b a v) b a (T b a) = T := by
  funext w j
  unfold pSet
  by_cases q : w = b ∧ j = a
  · rw [if_pos q, q.1, q.2]
  · rw [if_neg q, if_neg q]
end TUP
/-- what the class's turns write -/
def vScT2 (rl r j : Nat) : Prop := (32 ≤ r ∧ r ≤ 47) ∨ (r = 31 ∧ j = 4) ∨ r = rl + 3 ∨ r = rl + 4
section TRN
variable {d n : Nat} {e : List mShp} {I : Nat → Nat → Int32} {E : Nat → Nat → Int64} {F : Nat → Nat → Nat} {P : mPost} {T : Nat → Nat → Int} {lw : vLw} {st nx gf rl dr t D : Nat}
theorem c86 (hF : mFx F st nx gf rl dr) (hok : vTownOk n T) {i : Nat} (hi : i < n) (hc : vTc n T 32 I) : mF d 86 [.ref 32, .int (jI i)] (mLay e) (I, E, F) P = P (some (.int (jI (tNx n T i)))) (mLay e) (I, E, F) := by
  have hn := hok.1
  have hw := (hc.1 i hi).2.2.2.2
  have ho := vOk_w hok hi
  have hT4 : -1 ≤ T 4 i ∧ T 4 i < n := ⟨ho.2.2.2.2.2.2.2.2.1, ho.2.2.2.2.2.2.2.2.2.1⟩
  clear ho
  by_cases q : n < 2
  · have e1 : tNx n T i = -1 := if_pos q
    rw [e1]
    simp only [g86_in, g86_0, g86_1, g86_4, g86_5, g86_8, g86_9, g86_10, g86_11, g86_14, g86_15, g86_16, g86_17, g86_18, g86_19, g86_22, g86_23, g86_24, g86_25, g86_26, g86_29, g86_30, g86_31, g86_32, g86_33, g86_36, g86_37, g86_40, g86_41, nl_none, nl_int, nl_ref, Option.toList_some, Option.toList_none, List.cons_append, List.nil_append, mSetI_u, mSetL_u, Nat.add_one_ne_zero, Nat.add_eq_zero_iff, and_false, false_and, not_false_eq_true, ne_eq, j0_0, j0_1, j1_0, j1_1, if_true, if_false, ite_true, ite_false, true_and, and_true, or_true, true_or, false_or, or_false, ↓reduceIte, Nat.reduceEqDiff, Nat.reduceAdd, Nat.reduceMul, Nat.reduceSub, Int.reduceLE, Int.reduceLT, Int.reduceNeg, Int.reduceAdd, Int.reduceSub, Int.reduceEq, reduceCtorEq, jI_lt, jI_eq, jI_lt0, jI_0lt, jI_eq0, jI_0le, jn_lo, iU_row, iU_nr, iU_eq, iU_same, jI_ixn, jI_add, jI_sub, jI_nat, sh_32, hc.2.1, show ((n : Nat) : Int) ≤ 2147483647 by omega, show (n : Nat) ≤ 2147483647 by omega, show (n : Int) < 2 by omega]
  · obtain ⟨a, ha⟩ : ∃ a : Nat, T 4 i + 1 = a := ⟨(T 4 i + 1).toNat, by omega⟩
    have ea : (T 4 i + 1).toNat = a := by omega
    have hu := Nat.mod_lt a (show 0 < n by omega)
    have d1 := jI_div (a := (a : Int)) (b := (n : Int)) (by omega) (by omega) (by omega) (by omega)
    have p1 := pU_div a n
    obtain ⟨u, eu⟩ : ∃ u, u = a % n := ⟨_, rfl⟩
    rw [← eu] at hu p1
    by_cases qi : u = i
    · subst qi
      have e1 : tNx n T u = (((u + 1) % n : Nat) : Int) := by
        unfold tNx
        rw [if_neg q, ea, ← eu, if_pos rfl]
      have d2 := jI_div (a := (u : Int) + 1) (b := (n : Int)) (by omega) (by omega) (by omega) (by omega)
      have p2 : ((u : Int) + 1) - ((u : Int) + 1) / (n : Int) * (n : Int) = (((u + 1) % n : Nat) : Int) := by
        have h := pU_div (u + 1) n
        rw [Int.natCast_add] at h
        exact h
      rw [e1]
      simp only [g86_in, g86_0, g86_1, g86_4, g86_5, g86_8, g86_9, g86_10, g86_11, g86_14, g86_15, g86_16, g86_17, g86_18, g86_19, g86_22, g86_23, g86_24, g86_25, g86_26, g86_29, g86_30, g86_31, g86_32, g86_33, g86_36, g86_37, g86_40, g86_41, nl_none, nl_int, nl_ref, Option.toList_some, Option.toList_none, List.cons_append, List.nil_append, mSetI_u, mSetL_u, Nat.add_one_ne_zero, Nat.add_eq_zero_iff, and_false, false_and, not_false_eq_true, ne_eq, j0_0, j0_1, j1_0, j1_1, if_true, if_false, ite_true, ite_false, true_and, and_true, or_true, true_or, false_or, or_false, ↓reduceIte, Nat.reduceEqDiff, Nat.reduceAdd, Nat.reduceMul, Nat.reduceSub, Int.reduceLE, Int.reduceLT, Int.reduceNeg, Int.reduceAdd, Int.reduceSub, Int.reduceEq, reduceCtorEq, jI_lt, jI_eq, jI_lt0, jI_0lt, jI_eq0, jI_0le, jn_lo, iU_row, iU_nr, iU_eq, iU_same, jI_ixn, jI_add, jI_sub, jI_nat, sh_32, sh_37, f_32_5 hF, hc.2.1, hw, ha, d1, d2, p1, p2, jI_mul, show ((n : Nat) : Int) ≤ 2147483647 by omega, show (n : Nat) ≤ 2147483647 by omega, show ((u : Nat) : Int) ≤ 2147483647 by omega, show (u : Nat) ≤ 2147483647 by omega, jI_in (z := ((u : Int) : Int)) (n := 8) (by omega) (by omega) (by omega), show ¬ ((n : Int) < 2) by omega, show ¬ ((n : Int) = 0) by omega, eq_self]
    · have e1 : tNx n T i = (u : Int) := by
        unfold tNx
        rw [if_neg q, ea, ← eu, if_neg qi]
      rw [e1]
      simp only [g86_in, g86_0, g86_1, g86_4, g86_5, g86_8, g86_9, g86_10, g86_11, g86_14, g86_15, g86_16, g86_17, g86_18, g86_19, g86_22, g86_23, g86_24, g86_25, g86_26, g86_29, g86_30, g86_31, g86_32, g86_33, g86_36, g86_37, g86_40, g86_41, nl_none, nl_int, nl_ref, Option.toList_some, Option.toList_none, List.cons_append, List.nil_append, mSetI_u, mSetL_u, Nat.add_one_ne_zero, Nat.add_eq_zero_iff, and_false, false_and, not_false_eq_true, ne_eq, j0_0, j0_1, j1_0, j1_1, if_true, if_false, ite_true, ite_false, true_and, and_true, or_true, true_or, false_or, or_false, ↓reduceIte, Nat.reduceEqDiff, Nat.reduceAdd, Nat.reduceMul, Nat.reduceSub, Int.reduceLE, Int.reduceLT, Int.reduceNeg, Int.reduceAdd, Int.reduceSub, Int.reduceEq, reduceCtorEq, jI_lt, jI_eq, jI_lt0, jI_0lt, jI_eq0, jI_0le, jn_lo, iU_row, iU_nr, iU_eq, iU_same, jI_ixn, jI_add, jI_sub, jI_nat, sh_32, sh_37, f_32_5 hF, hc.2.1, hw, ha, d1, p1, jI_mul, show ((n : Nat) : Int) ≤ 2147483647 by omega, show (n : Nat) ≤ 2147483647 by omega, show ((i : Nat) : Int) ≤ 2147483647 by omega, show (i : Nat) ≤ 2147483647 by omega, show ((u : Nat) : Int) ≤ 2147483647 by omega, show (u : Nat) ≤ 2147483647 by omega, jI_in (z := ((i : Int) : Int)) (n := 8) (by omega) (by omega) (by omega), show ¬ ((n : Int) < 2) by omega, show ¬ ((n : Int) = 0) by omega, show ¬ ((u : Int) = (i : Int)) by omega]
theorem c89_a (hF : mFx F st nx gf rl dr) (hrl : rl = 70 ∨ rl = 75) (hok : vTownOk n T) (hlw : vLawC lw (I (rl + 1)) (I (rl + 2)) (I rl 2)) (ht : I 31 3 = jI t) (ht6 : t ≤ 6) (hP : ∀ I', vAg (fun r j => (40 ≤ r ∧ r ≤ 47) ∨ r = rl + 3 ∨ r = rl + 4) I I' → P (some (.int (jI (qLn (pDays lw n T t) n)))) (mLay e) (I', E, F)) : ∀ (k i : Nat) (z : Int) I', i + k = t → z = i → vAg (fun r j => (40 ≤ r ∧ r ≤ 47) ∨ r = rl + 3 ∨ r = rl + 4) I I' → vTc n (pDays lw n T i) 40 I' → mG (d + 7) 89 13 [some (.ref 31), some (.ref rl), some (.int (jI z))] [] (mLay e) (I', E, F) P
  | 0, i, z, I', hi, hz, ha, hc => by
    have hn := hok.1
    subst hz
    have e : i = t := by omega
    subst e
    have ht' : I' 31 3 = jI i := (ha 31 3 (by omega)).trans ht
    rw [g89_13]
    simp only [g89_14, g89_15, g89_18, g89_21, g89_22, g89_25, g89_26, g89_29, g89_32, g89_35, g89_36, g89_39, g89_42, g89_45, nl_none, nl_int, nl_ref, Option.toList_some, Option.toList_none, List.cons_append, List.nil_append, mSetI_u, mSetL_u, Nat.add_one_ne_zero, Nat.add_eq_zero_iff, and_false, false_and, not_false_eq_true, ne_eq, j0_0, j0_1, j1_0, j1_1, if_true, if_false, ite_true, ite_false, true_and, and_true, or_true, true_or, false_or, or_false, ↓reduceIte, Nat.reduceEqDiff, Nat.reduceAdd, Nat.reduceMul, Nat.reduceSub, Int.reduceLE, Int.reduceLT, Int.reduceNeg, Int.reduceAdd, Int.reduceSub, Int.reduceEq, reduceCtorEq, jI_lt, jI_eq, jI_lt0, jI_0lt, jI_eq0, jI_0le, jn_lo, iU_row, iU_nr, iU_eq, iU_same, jI_ixn, jI_add, jI_sub, jI_nat, sh_31, sh_40, f_31_1 hF, ht', show ((i : Nat) : Int) ≤ 2147483647 by omega, show (i : Nat) ≤ 2147483647 by omega, show ¬ ((i : Int) < (i : Int)) by omega, c74 (vTw_40 hF) (pDays_ok hok i) hc, r230, pBits_ln hn]
    exact hP I' ha
  | k + 1, i, z, I', hi, hz, ha, hc => by
    have ih := c89_a hF hrl hok hlw ht ht6 hP k (i + 1)
    have hrl0 : ¬ rl = 0 := by omega
    have ht' : I' 31 3 = jI t := (ha 31 3 (by omega)).trans ht
    subst hz
    rw [g89_13]
    simp only [g89_14, g89_15, g89_18, g89_21, g89_22, g89_25, g89_26, nl_none, nl_int, nl_ref, Option.toList_some, Option.toList_none, List.cons_append, List.nil_append, mSetI_u, mSetL_u, Nat.add_one_ne_zero, Nat.add_eq_zero_iff, and_false, false_and, not_false_eq_true, ne_eq, j0_0, j0_1, j1_0, j1_1, if_true, if_false, ite_true, ite_false, true_and, and_true, or_true, true_or, false_or, or_false, ↓reduceIte, Nat.reduceEqDiff, Nat.reduceAdd, Nat.reduceMul, Nat.reduceSub, Int.reduceLE, Int.reduceLT, Int.reduceNeg, Int.reduceAdd, Int.reduceSub, Int.reduceEq, reduceCtorEq, jI_lt, jI_eq, jI_lt0, jI_0lt, jI_eq0, jI_0le, jn_lo, iU_row, iU_nr, iU_eq, iU_same, jI_ixn, jI_add, jI_sub, jI_nat, sh_31, sh_40, f_31_1 hF, hrl0, ht', show ((i : Nat) : Int) ≤ 2147483647 by omega, show (i : Nat) ≤ 2147483647 by omega, show ((t : Nat) : Int) ≤ 2147483647 by omega, show (t : Nat) ≤ 2147483647 by omega, show (i : Int) < (t : Int) by omega]
    refine c80 (vTw_40 hF) (vLo_rl hF hrl) (pDays_ok hok i) hc (vLw_ag ha (fun r j q => by omega) hlw) (by omega) (fun I2 h2 hc2 _ => ?_)
    simp only [g89_29, g89_32, nl_none, nl_int, nl_ref, Option.toList_some, Option.toList_none, List.cons_append, List.nil_append, mSetI_u, mSetL_u, Nat.add_one_ne_zero, Nat.add_eq_zero_iff, and_false, false_and, not_false_eq_true, ne_eq, j0_0, j0_1, j1_0, j1_1, if_true, if_false, ite_true, ite_false, true_and, and_true, or_true, true_or, false_or, or_false, ↓reduceIte, Nat.reduceEqDiff, Nat.reduceAdd, Nat.reduceMul, Nat.reduceSub, Int.reduceLE, Int.reduceLT, Int.reduceNeg, Int.reduceAdd, Int.reduceSub, Int.reduceEq, reduceCtorEq, jI_lt, jI_eq, jI_lt0, jI_0lt, jI_eq0, jI_0le, jn_lo, iU_row, iU_nr, iU_eq, iU_same, jI_ixn, jI_add, jI_sub, jI_nat]
    exact ih _ _ (by omega) (by omega) (vAg_tr ha (vAg_mono h2 (fun r j q => by omega))) hc2
theorem c89 (hF : mFx F st nx gf rl dr) (hrl : rl = 70 ∨ rl = 75) (hok : vTownOk n T) (hc : vTc n T 32 I) (hlw : vLawC lw (I (rl + 1)) (I (rl + 2)) (I rl 2)) (ht : I 31 3 = jI t) (ht6 : t ≤ 6) (hP : ∀ I', vAg (fun r j => (40 ≤ r ∧ r ≤ 47) ∨ r = rl + 3 ∨ r = rl + 4) I I' → P (some (.int (jI (qLn (pDays lw n T t) n)))) (mLay e) (I', E, F)) : mF (d + 7) 89 [.ref 31, .ref rl] (mLay e) (I, E, F) P := by
  have hrl0 : ¬ rl = 0 := by omega
  simp only [g89_in, g89_0, g89_1, g89_4, g89_5, g89_8, nl_none, nl_int, nl_ref, Option.toList_some, Option.toList_none, List.cons_append, List.nil_append, mSetI_u, mSetL_u, Nat.add_one_ne_zero, Nat.add_eq_zero_iff, and_false, false_and, not_false_eq_true, ne_eq, j0_0, j0_1, j1_0, j1_1, if_true, if_false, ite_true, ite_false, true_and, and_true, or_true, true_or, false_or, or_false, ↓reduceIte, Nat.reduceEqDiff, Nat.reduceAdd, Nat.reduceMul, Nat.reduceSub, Int.reduceLE, Int.reduceLT, Int.reduceNeg, Int.reduceAdd, Int.reduceSub, Int.reduceEq, reduceCtorEq, jI_lt, jI_eq, jI_lt0, jI_0lt, jI_eq0, jI_0le, jn_lo, iU_row, iU_nr, iU_eq, iU_same, jI_ixn, jI_add, jI_sub, jI_nat, sh_31, sh_32, sh_40, f_31_0 hF, f_31_1 hF, hrl0]
  refine c66 (vTw_40 hF) (vTw_32 hF) (by omega) (fun I1 h1 g0 g6 g7 hw => ?_)
  have ha : vAg (fun r j => (40 ≤ r ∧ r ≤ 47) ∨ r = rl + 3 ∨ r = rl + 4) I I1 := vAg_mono h1 (fun r j q => by omega)
  simp only [g89_11, g89_12, nl_none, nl_int, nl_ref, Option.toList_some, Option.toList_none, List.cons_append, List.nil_append, mSetI_u, mSetL_u, Nat.add_one_ne_zero, Nat.add_eq_zero_iff, and_false, false_and, not_false_eq_true, ne_eq, j0_0, j0_1, j1_0, j1_1, if_true, if_false, ite_true, ite_false, true_and, and_true, or_true, true_or, false_or, or_false, ↓reduceIte, Nat.reduceEqDiff, Nat.reduceAdd, Nat.reduceMul, Nat.reduceSub, Int.reduceLE, Int.reduceLT, Int.reduceNeg, Int.reduceAdd, Int.reduceSub, Int.reduceEq, reduceCtorEq, jI_lt, jI_eq, jI_lt0, jI_0lt, jI_eq0, jI_0le, jn_lo, iU_row, iU_nr, iU_eq, iU_same, jI_ixn, jI_add, jI_sub, jI_nat]
  exact c89_a hF hrl hok hlw ht ht6 hP t 0 0 I1 (by omega) rfl ha (vTc_cp hok.1 hc g0 g6 g7 hw)
end TRN
/-- the mathematician with k deeds left; the wind -/
def tFS (lw : vLw) (n t D rl : Nat) (e : List mShp) (E : Nat → Nat → Int64) (F : Nat → Nat → Nat) (k : Nat) : Prop := ∀ (d : Nat) (T : Nat → Nat → Int) (bound : Int) (I : Nat → Nat → Int32) (P : mPost) (zl zb : Int32), vTownOk n T → vTc n T 32 I → vLawC lw (I (rl + 1)) (I (rl + 2)) (I rl 2) → I 31 2 = jI D → I 31 3 = jI t → (k = D → bound = -1 ∧ I 31 4 = jI 8) → -1 ≤ bound → bound ≤ 9 → zl = jI k → zb = jI bound → (∀ I' (r : Int), vAg (vScT2 rl) I I' → vTc n T 32 I' → 0 ≤ r → r ≤ 8 → (r = (tV lw n t k true T).1 ∨ (r ≤ bound ∧ (tV lw n t k true T).1 ≤ r)) → (k = D → I' 31 4 = jI (tV lw n t k true T).2) → (¬ k = D → I' 31 4 = I 31 4) → P (some (.int (jI r))) (mLay e) (I', E, F)) → mF (d + 8 + k) 90 [.ref 31, .ref rl, .int zl, .int zb] (mLay e) (I, E, F) P
def tMS (lw : vLw) (n t D rl : Nat) (e : List mShp) (E : Nat → Nat → Int64) (F : Nat → Nat → Nat) (k : Nat) : Prop := ∀ (d : Nat) (T : Nat → Nat → Int) (bound : Int) (I : Nat → Nat → Int32) (P : mPost) (zl zb : Int32), vTownOk n T → vTc n T 32 I → vLawC lw (I (rl + 1)) (I (rl + 2)) (I rl 2) → I 31 2 = jI D → I 31 3 = jI t → k < D → -1 ≤ bound → bound ≤ 9 → zl = jI k → zb = jI bound → (∀ I' (r : Int), vAg (vScT2 rl) I I' → vTc n T 32 I' → 0 ≤ r → r ≤ 8 → (r = (tV lw n t k false T).1 ∨ (bound ≤ r ∧ r ≤ (tV lw n t k false T).1)) → I' 31 4 = I 31 4 → P (some (.int (jI r))) (mLay e) (I', E, F)) → mF (d + 8 + k) 91 [.ref 31, .ref rl, .int zl, .int zb] (mLay e) (I, E, F) P
section TRM
variable {d n : Nat} {e : List mShp} {I : Nat → Nat → Int32} {E : Nat → Nat → Int64} {F : Nat → Nat → Nat} {P : mPost} {T : Nat → Nat → Int} {lw : vLw} {st nx gf rl dr t D : Nat}
theorem sc_T2 {r j : Nat} (hrl : rl = 70 ∨ rl = 75) (q : vScT2 rl r j) : (¬ r = rl + 1 ∧ ¬ r = rl + 2 ∧ ¬ (r = rl ∧ j = 2)) ∧ ¬ (r = 31 ∧ (j = 2 ∨ j = 3)) := by
  unfold vScT2 at q
  omega
theorem c90_l (hF : mFx F st nx gf rl dr) (hrl : rl = 70 ∨ rl = 75) (hok : vTownOk n T) (hlw : vLawC lw (I (rl + 1)) (I (rl + 2)) (I rl 2)) (hD : I 31 2 = jI D) (ht : I 31 3 = jI t) {k : Nat} (hk : k + 1 ≤ D) (hD3 : D ≤ 3) (ih : tMS lw n t D rl e E F k) {bound : Int} (hb0 : -1 ≤ bound) (hb1 : bound ≤ 9) (hroot : k + 1 = D → bound = -1 ∧ I 31 4 = jI 8) (hP : ∀ I' (r : Int), vAg (vScT2 rl) I I' → vTc n T 32 I' → 0 ≤ r → r ≤ 8 → (r = (tV lw n t (k + 1) true T).1 ∨ (r ≤ bound ∧ (tV lw n t (k + 1) true T).1 ≤ r)) → (k + 1 = D → I' 31 4 = jI (tV lw n t (k + 1) true T).2) → (¬ k + 1 = D → I' 31 4 = I 31 4) → P (some (.int (jI r))) (mLay e) (I', E, F)) : ∀ (m i : Nat) (z r : Int) I' a6 a7, i + m = n → z = i → r = (tFd true (fun i => (tV lw n t k (!true) (tD true n T i)).1) ((tV lw n t k (!true) T).1, 8) i).1 → vAg (vScT2 rl) I I' → vTc n T 32 I' → (k + 1 = D → I' 31 4 = jI (tFd true (fun i => (tV lw n t k (!true) (tD true n T i)).1) ((tV lw n t k (!true) T).1, 8) i).2) → (¬ k + 1 = D → I' 31 4 = I 31 4) → mG (d + 8 + k + 1) 90 25 [some (.ref 31), some (.ref rl), some (.int (jI ((k : Int) + 1))), some (.int (jI bound)), some (.int (jI r)), some (.int (jI z)), a6, a7] [] (mLay e) (I', E, F) P
  | 0, i, z, r, I', a6, a7, hi, hz, hr, ha, hc, hf, hf' => by
    have hn := hok.1
    have hri := tFd_in (h := true) (g := fun i => (tV lw n t k (!true) (tD true n T i)).1) (b := ((tV lw n t k (!true) T).1, 8)) (fun i => tV_in hn k _ _) (tV_in hn k _ _) i
    rw [← hr] at hri
    subst hz
    have e : i = n := by omega
    subst e
    rw [g90_25]
    simp only [g90_27, g90_28, g90_31, g90_34, g90_136, g90_138, nl_none, nl_int, nl_ref, Option.toList_some, Option.toList_none, List.cons_append, List.nil_append, mSetI_u, mSetL_u, Nat.add_one_ne_zero, Nat.add_eq_zero_iff, and_false, false_and, not_false_eq_true, ne_eq, j0_0, j0_1, j1_0, j1_1, if_true, if_false, ite_true, ite_false, true_and, and_true, or_true, true_or, false_or, or_false, ↓reduceIte, Nat.reduceEqDiff, Nat.reduceAdd, Nat.reduceMul, Nat.reduceSub, Int.reduceLE, Int.reduceLT, Int.reduceNeg, Int.reduceAdd, Int.reduceSub, Int.reduceEq, reduceCtorEq, jI_lt, jI_eq, jI_lt0, jI_0lt, jI_eq0, jI_0le, jn_lo, iU_row, iU_nr, iU_eq, iU_same, jI_ixn, jI_add, jI_sub, jI_nat, sh_31, sh_32, f_31_0 hF, hc.2.1, show ((i : Nat) : Int) ≤ 2147483647 by omega, show (i : Nat) ≤ 2147483647 by omega, show ¬ ((i : Int) < (i : Int)) by omega]
    exact hP I' r ha hc hri.1 hri.2 (.inl hr) hf hf'
  | m + 1, i, z, r, I', a6, a7, hi, hz, hr, ha, hc, hf, hf' => by
    have ihm := c90_l hF hrl hok hlw hD ht hk hD3 ih hb0 hb1 hroot hP m (i + 1)
    have hn := hok.1
    have hrl0 : ¬ rl = 0 := by omega
    have hin : i < n := by omega
    have hri := tFd_in (h := true) (g := fun i => (tV lw n t k (!true) (tD true n T i)).1) (b := ((tV lw n t k (!true) T).1, 8)) (fun i => tV_in hn k _ _) (tV_in hn k _ _) i
    rw [← hr] at hri
    subst hz
    rw [g90_25]
    by_cases qb : bound < r
    · have hwi := (hc.1 i hin).2.2.2.2
      have hnx := tNx_in (T := T) hin
      have ho := vOk_w hok hin
      have hT4 : -1 ≤ T 4 i ∧ T 4 i < n := ⟨ho.2.2.2.2.2.2.2.2.1, ho.2.2.2.2.2.2.2.2.2.1⟩
      clear ho
      have hD' : I' 31 2 = jI D := (ha 31 2 (fun q => (sc_T2 hrl q).2 ⟨rfl, .inl rfl⟩)).trans hD
      have ht' : I' 31 3 = jI t := (ha 31 3 (fun q => (sc_T2 hrl q).2 ⟨rfl, .inr rfl⟩)).trans ht
      have hcA : vTc n (tA n T i) 32 (iU I' 37 i (jI (tNx n T i))) := vTc_set (w := 4) (by omega) hc
      have haA : vAg (vScT2 rl) I (iU I' 37 i (jI (tNx n T i))) := vAg_iU ha (.inl ⟨by omega, by omega⟩)
      simp only [g90_27, g90_28, g90_31, g90_34, g90_37, g90_39, g90_40, g90_43, g90_44, g90_47, g90_50, g90_52, g90_53, g90_55, g90_56, g90_59, g90_62, g90_64, g90_65, g90_68, g90_70, g90_73, g90_74, g90_75, g90_76, g90_77, g90_78, g90_79, g90_81, nl_none, nl_int, nl_ref, Option.toList_some, Option.toList_none, List.cons_append, List.nil_append, mSetI_u, mSetL_u, Nat.add_one_ne_zero, Nat.add_eq_zero_iff, and_false, false_and, not_false_eq_true, ne_eq, j0_0, j0_1, j1_0, j1_1, if_true, if_false, ite_true, ite_false, true_and, and_true, or_true, true_or, false_or, or_false, ↓reduceIte, Nat.reduceEqDiff, Nat.reduceAdd, Nat.reduceMul, Nat.reduceSub, Int.reduceLE, Int.reduceLT, Int.reduceNeg, Int.reduceAdd, Int.reduceSub, Int.reduceEq, reduceCtorEq, jI_lt, jI_eq, jI_lt0, jI_0lt, jI_eq0, jI_0le, jn_lo, iU_row, iU_nr, iU_eq, iU_same, jI_ixn, jI_add, jI_sub, jI_nat, sh_31, sh_32, sh_37, f_31_0 hF, f_32_5 hF, hrl0, hc.2.1, hwi, show ((i : Nat) : Int) ≤ 2147483647 by omega, show (i : Nat) ≤ 2147483647 by omega, show ((n : Nat) : Int) ≤ 2147483647 by omega, show (n : Nat) ≤ 2147483647 by omega, show -2147483648 ≤ (r : Int) by omega, show (r : Int) ≤ 2147483647 by omega, show -2147483648 ≤ (bound : Int) by omega, show (bound : Int) ≤ 2147483647 by omega, qb, show (i : Int) < (n : Int) by omega, jI_in (z := ((i : Int) : Int)) (n := 8) (by omega) (by omega) (by omega), c86 hF hok hin hc]
      refine ih d (tA n T i) r _ _ _ _ (tA_ok hok hin) hcA (vLw_ag haA (fun r j q => (sc_T2 hrl q).1) hlw) ((haA 31 2 (fun q => (sc_T2 hrl q).2 ⟨rfl, .inl rfl⟩)).trans hD) ((haA 31 3 (fun q => (sc_T2 hrl q).2 ⟨rfl, .inr rfl⟩)).trans ht) (by omega) (by omega) (by omega) (by exact congrArg Int32.ofInt (by omega)) (by rfl) (fun I2 x h2 hc2 hx0 hx1 hx hfd => ?_)
      have hcB : vTc n T 32 (iU I2 37 i (jI (T 4 i))) := by
        have h := vTc_set (w := 4) (v := T 4 i) (i := i) (by omega) hc2
        rw [show pSet (tA n T i) 4 i (T 4 i) = T from pSet_back] at h
        exact h
      have haB : vAg (vScT2 rl) I (iU I2 37 i (jI (T 4 i))) := vAg_iU (vAg_tr haA h2) (.inl ⟨by omega, by omega⟩)
      have hD2 : I2 31 2 = jI D := ((vAg_tr haA h2) 31 2 (fun q => (sc_T2 hrl q).2 ⟨rfl, .inl rfl⟩)).trans hD
      have hf2 : I2 31 4 = I' 31 4 := hfd.trans (by rw [iU_row (show ¬ 31 = 37 by omega)])
      have hg : (tV lw n t k (!true) (tD true n T i)).1 = (tV lw n t k false (tA n T i)).1 := rfl
      by_cases q : x < r
      · have hxe : x = (tV lw n t k (!true) (tD true n T i)).1 := by
          rw [hg]
          rcases hx with h | h
          · exact h
          · omega
        have hstep : tFd true (fun i => (tV lw n t k (!true) (tD true n T i)).1) ((tV lw n t k (!true) T).1, 8) (i + 1) = (x, (i : Int)) := by
          rw [tFd, if_pos (.inl ⟨rfl, by show (tV lw n t k (!true) (tD true n T i)).1 < _; rw [← hr, ← hxe]; exact q⟩)]
          rw [← hxe]
        rcases (by omega : k + 1 = D ∨ ¬ k + 1 = D) with qr | qr
        · have ihm' := ihm ((i : Int) + 1) x (iU (iU I2 37 i (jI (T 4 i))) 31 4 (jI i)) (some (.int (jI (T 4 i)))) (some (.int (jI x))) (by omega) (by omega) (by rw [hstep]) (vAg_iU haB (.inr (.inl ⟨rfl, rfl⟩))) (vTc_ag (vAg_iU (R := fun r j => r = 31) vAg_rfl rfl) (fun r j q => by omega) hcB) (fun _ => by rw [hstep, iU_eq]) (fun h => absurd qr h)
          have hD2' : I2 31 2 = jI ((k : Int) + 1) := by rw [hD2, show (D : Int) = (k : Int) + 1 by omega]
          simp only [g90_84, g90_86, g90_87, g90_90, g90_93, g90_95, g90_97, g90_98, g90_100, g90_102, g90_105, g90_107, g90_109, g90_110, g90_111, g90_112, g90_115, g90_118, g90_120, g90_123, g90_124, g90_127, g90_130, g90_133, nl_none, nl_int, nl_ref, Option.toList_some, Option.toList_none, List.cons_append, List.nil_append, mSetI_u, mSetL_u, Nat.add_one_ne_zero, Nat.add_eq_zero_iff, and_false, false_and, not_false_eq_true, ne_eq, j0_0, j0_1, j1_0, j1_1, if_true, if_false, ite_true, ite_false, true_and, and_true, or_true, true_or, false_or, or_false, ↓reduceIte, Nat.reduceEqDiff, Nat.reduceAdd, Nat.reduceMul, Nat.reduceSub, Int.reduceLE, Int.reduceLT, Int.reduceNeg, Int.reduceAdd, Int.reduceSub, Int.reduceEq, reduceCtorEq, jI_lt, jI_eq, jI_lt0, jI_0lt, jI_eq0, jI_0le, jn_lo, iU_row, iU_nr, iU_eq, iU_same, jI_ixn, jI_add, jI_sub, jI_nat, sh_31, sh_32, sh_37, f_31_0 hF, f_32_5 hF, hD2', show ((i : Nat) : Int) ≤ 2147483647 by omega, show (i : Nat) ≤ 2147483647 by omega, show -2147483648 ≤ (x : Int) by omega, show (x : Int) ≤ 2147483647 by omega, show -2147483648 ≤ (r : Int) by omega, show (r : Int) ≤ 2147483647 by omega, show -2147483648 ≤ ((k : Int) + 1 : Int) by omega, show ((k : Int) + 1 : Int) ≤ 2147483647 by omega, q, eq_self, jI_in (z := ((i : Int) : Int)) (n := 8) (by omega) (by omega) (by omega)]
          exact ihm'
        · have ihm' := ihm ((i : Int) + 1) x (iU (iU I2 37 i (jI (T 4 i))) 31 4 (I2 31 4)) (some (.int (jI (T 4 i)))) (some (.int (jI x))) (by omega) (by omega) (by rw [hstep]) (vAg_iU haB (.inr (.inl ⟨rfl, rfl⟩))) (vTc_ag (vAg_iU (R := fun r j => r = 31) vAg_rfl rfl) (fun r j q => by omega) hcB) (fun h => absurd h qr) (fun h => by
            rw [iU_eq, hf2]
            exact hf' h)
          simp only [g90_84, g90_86, g90_87, g90_90, g90_93, g90_95, g90_97, g90_98, g90_100, g90_102, g90_105, g90_107, g90_109, g90_110, g90_111, g90_112, g90_115, g90_118, g90_120, g90_123, g90_124, g90_127, g90_130, g90_133, nl_none, nl_int, nl_ref, Option.toList_some, Option.toList_none, List.cons_append, List.nil_append, mSetI_u, mSetL_u, Nat.add_one_ne_zero, Nat.add_eq_zero_iff, and_false, false_and, not_false_eq_true, ne_eq, j0_0, j0_1, j1_0, j1_1, if_true, if_false, ite_true, ite_false, true_and, and_true, or_true, true_or, false_or, or_false, ↓reduceIte, Nat.reduceEqDiff, Nat.reduceAdd, Nat.reduceMul, Nat.reduceSub, Int.reduceLE, Int.reduceLT, Int.reduceNeg, Int.reduceAdd, Int.reduceSub, Int.reduceEq, reduceCtorEq, jI_lt, jI_eq, jI_lt0, jI_0lt, jI_eq0, jI_0le, jn_lo, iU_row, iU_nr, iU_eq, iU_same, jI_ixn, jI_add, jI_sub, jI_nat, sh_31, sh_32, sh_37, f_31_0 hF, f_32_5 hF, hD2, show ((i : Nat) : Int) ≤ 2147483647 by omega, show (i : Nat) ≤ 2147483647 by omega, show ((D : Nat) : Int) ≤ 2147483647 by omega, show (D : Nat) ≤ 2147483647 by omega, show -2147483648 ≤ (x : Int) by omega, show (x : Int) ≤ 2147483647 by omega, show -2147483648 ≤ (r : Int) by omega, show (r : Int) ≤ 2147483647 by omega, show -2147483648 ≤ ((k : Int) + 1 : Int) by omega, show ((k : Int) + 1 : Int) ≤ 2147483647 by omega, q, show ¬ ((k : Int) + 1 = (D : Int)) by omega, jI_in (z := ((i : Int) : Int)) (n := 8) (by omega) (by omega) (by omega)]
          exact ihm'
      · have hstep : tFd true (fun i => (tV lw n t k (!true) (tD true n T i)).1) ((tV lw n t k (!true) T).1, 8) (i + 1) = tFd true (fun i => (tV lw n t k (!true) (tD true n T i)).1) ((tV lw n t k (!true) T).1, 8) i := by
          rw [tFd, if_neg]
          rintro (h | h)
          · have h2 := h.2
            rw [← hr] at h2
            have h2 : (tV lw n t k false (tA n T i)).1 < r := h2
            omega
          · exact absurd h.1 (by decide)
        have ihm' := ihm ((i : Int) + 1) r (iU I2 37 i (jI (T 4 i))) (some (.int (jI (T 4 i)))) (some (.int (jI x))) (by omega) (by omega) (by rw [hstep]; exact hr) haB hcB (fun h => by
          rw [hstep, iU_row (by omega), hf2]
          exact hf h) (fun h => by
          rw [iU_row (by omega), hf2]
          exact hf' h)
        simp only [g90_84, g90_86, g90_87, g90_90, g90_93, g90_95, g90_97, g90_98, g90_100, g90_102, g90_130, g90_133, nl_none, nl_int, nl_ref, Option.toList_some, Option.toList_none, List.cons_append, List.nil_append, mSetI_u, mSetL_u, Nat.add_one_ne_zero, Nat.add_eq_zero_iff, and_false, false_and, not_false_eq_true, ne_eq, j0_0, j0_1, j1_0, j1_1, if_true, if_false, ite_true, ite_false, true_and, and_true, or_true, true_or, false_or, or_false, ↓reduceIte, Nat.reduceEqDiff, Nat.reduceAdd, Nat.reduceMul, Nat.reduceSub, Int.reduceLE, Int.reduceLT, Int.reduceNeg, Int.reduceAdd, Int.reduceSub, Int.reduceEq, reduceCtorEq, jI_lt, jI_eq, jI_lt0, jI_0lt, jI_eq0, jI_0le, jn_lo, iU_row, iU_nr, iU_eq, iU_same, jI_ixn, jI_add, jI_sub, jI_nat, sh_31, sh_32, sh_37, f_31_0 hF, f_32_5 hF, show ((i : Nat) : Int) ≤ 2147483647 by omega, show (i : Nat) ≤ 2147483647 by omega, show -2147483648 ≤ (x : Int) by omega, show (x : Int) ≤ 2147483647 by omega, show -2147483648 ≤ (r : Int) by omega, show (r : Int) ≤ 2147483647 by omega, q, jI_in (z := ((i : Int) : Int)) (n := 8) (by omega) (by omega) (by omega)]
        exact ihm'
    · have hlast : ¬ k + 1 = D := fun h => by
        have := (hroot h).1
        omega
      have hdn := tFd_dn (g := fun i => (tV lw n t k (!true) (tD true n T i)).1) (b := ((tV lw n t k (!true) T).1, 8)) i (m + 1)
      rw [hi, ← hr] at hdn
      simp only [g90_27, g90_28, g90_31, g90_34, g90_37, g90_39, g90_40, g90_136, g90_138, nl_none, nl_int, nl_ref, Option.toList_some, Option.toList_none, List.cons_append, List.nil_append, mSetI_u, mSetL_u, Nat.add_one_ne_zero, Nat.add_eq_zero_iff, and_false, false_and, not_false_eq_true, ne_eq, j0_0, j0_1, j1_0, j1_1, if_true, if_false, ite_true, ite_false, true_and, and_true, or_true, true_or, false_or, or_false, ↓reduceIte, Nat.reduceEqDiff, Nat.reduceAdd, Nat.reduceMul, Nat.reduceSub, Int.reduceLE, Int.reduceLT, Int.reduceNeg, Int.reduceAdd, Int.reduceSub, Int.reduceEq, reduceCtorEq, jI_lt, jI_eq, jI_lt0, jI_0lt, jI_eq0, jI_0le, jn_lo, iU_row, iU_nr, iU_eq, iU_same, jI_ixn, jI_add, jI_sub, jI_nat, sh_31, sh_32, f_31_0 hF, hc.2.1, show ((i : Nat) : Int) ≤ 2147483647 by omega, show (i : Nat) ≤ 2147483647 by omega, show ((n : Nat) : Int) ≤ 2147483647 by omega, show (n : Nat) ≤ 2147483647 by omega, show -2147483648 ≤ (r : Int) by omega, show (r : Int) ≤ 2147483647 by omega, show -2147483648 ≤ (bound : Int) by omega, show (bound : Int) ≤ 2147483647 by omega, qb, show (i : Int) < (n : Int) by omega]
      exact hP I' r ha hc hri.1 hri.2 (.inr ⟨by omega, hdn⟩) (fun h => absurd h hlast) hf'
theorem c91_l (hF : mFx F st nx gf rl dr) (hrl : rl = 70 ∨ rl = 75) (hok : vTownOk n T) (hlw : vLawC lw (I (rl + 1)) (I (rl + 2)) (I rl 2)) (hD : I 31 2 = jI D) (ht : I 31 3 = jI t) {k : Nat} (hk : k + 1 < D) (hD3 : D ≤ 3) (ih : tFS lw n t D rl e E F k) {bound : Int} (hb0 : -1 ≤ bound) (hb1 : bound ≤ 9) (hP : ∀ I' (r : Int), vAg (vScT2 rl) I I' → vTc n T 32 I' → 0 ≤ r → r ≤ 8 → (r = (tV lw n t (k + 1) false T).1 ∨ (bound ≤ r ∧ r ≤ (tV lw n t (k + 1) false T).1)) → I' 31 4 = I 31 4 → P (some (.int (jI r))) (mLay e) (I', E, F)) : ∀ (m i : Nat) (z r : Int) I' a6, i + m = n → z = i → r = (tFd false (fun i => (tV lw n t k (!false) (tD false n T i)).1) ((tV lw n t k (!false) T).1, 8) i).1 → vAg (vScT2 rl) I I' → vTc n T 32 I' → I' 31 4 = I 31 4 → mG (d + 8 + k + 1) 91 24 [some (.ref 31), some (.ref rl), some (.int (jI ((k : Int) + 1))), some (.int (jI bound)), some (.int (jI r)), some (.int (jI z)), a6] [] (mLay e) (I', E, F) P
  | 0, i, z, r, I', a6, hi, hz, hr, ha, hc, hf => by
    have hn := hok.1
    have hri := tFd_in (h := false) (g := fun i => (tV lw n t k (!false) (tD false n T i)).1) (b := ((tV lw n t k (!false) T).1, 8)) (fun i => tV_in hn k _ _) (tV_in hn k _ _) i
    rw [← hr] at hri
    subst hz
    have e : i = n := by omega
    subst e
    rw [g91_24]
    simp only [g91_26, g91_27, g91_30, g91_33, g91_107, g91_109, nl_none, nl_int, nl_ref, Option.toList_some, Option.toList_none, List.cons_append, List.nil_append, mSetI_u, mSetL_u, Nat.add_one_ne_zero, Nat.add_eq_zero_iff, and_false, false_and, not_false_eq_true, ne_eq, j0_0, j0_1, j1_0, j1_1, if_true, if_false, ite_true, ite_false, true_and, and_true, or_true, true_or, false_or, or_false, ↓reduceIte, Nat.reduceEqDiff, Nat.reduceAdd, Nat.reduceMul, Nat.reduceSub, Int.reduceLE, Int.reduceLT, Int.reduceNeg, Int.reduceAdd, Int.reduceSub, Int.reduceEq, reduceCtorEq, jI_lt, jI_eq, jI_lt0, jI_0lt, jI_eq0, jI_0le, jn_lo, iU_row, iU_nr, iU_eq, iU_same, jI_ixn, jI_add, jI_sub, jI_nat, sh_31, sh_32, f_31_0 hF, hc.2.1, show ((i : Nat) : Int) ≤ 2147483647 by omega, show (i : Nat) ≤ 2147483647 by omega, show ¬ ((i : Int) < (i : Int)) by omega]
    exact hP I' r ha hc hri.1 hri.2 (.inl hr) hf
  | m + 1, i, z, r, I', a6, hi, hz, hr, ha, hc, hf => by
    have ihm := c91_l hF hrl hok hlw hD ht hk hD3 ih hb0 hb1 hP m (i + 1)
    have hn := hok.1
    have hrl0 : ¬ rl = 0 := by omega
    have hin : i < n := by omega
    have hri := tFd_in (h := false) (g := fun i => (tV lw n t k (!false) (tD false n T i)).1) (b := ((tV lw n t k (!false) T).1, 8)) (fun i => tV_in hn k _ _) (tV_in hn k _ _) i
    rw [← hr] at hri
    subst hz
    rw [g91_24]
    by_cases qb : r < bound
    · have hwi := (hc.1 i hin).2.2.2.1
      have hbi := tB_in hok hin
      have ho := vOk_w hok hin
      have hT3 : 0 ≤ T 3 i ∧ T 3 i ≤ 99 := ⟨ho.2.2.2.2.2.2.1, ho.2.2.2.2.2.2.2.1⟩
      clear ho
      have hcA : vTc n (tB T i) 32 (iU I' 36 i (jI (pPos (T 3 i - 5)))) := vTc_set (w := 3) (by omega) hc
      have haA : vAg (vScT2 rl) I (iU I' 36 i (jI (pPos (T 3 i - 5)))) := vAg_iU ha (.inl ⟨by omega, by omega⟩)
      simp only [g91_26, g91_27, g91_30, g91_33, g91_36, g91_38, g91_39, g91_42, g91_43, g91_46, g91_49, g91_51, g91_52, g91_54, g91_55, g91_58, g91_61, g91_63, g91_65, g91_66, g91_67, g91_68, g91_71, g91_72, g91_74, g91_75, g91_76, g91_77, g91_78, g91_79, g91_81, nl_none, nl_int, nl_ref, Option.toList_some, Option.toList_none, List.cons_append, List.nil_append, mSetI_u, mSetL_u, Nat.add_one_ne_zero, Nat.add_eq_zero_iff, and_false, false_and, not_false_eq_true, ne_eq, j0_0, j0_1, j1_0, j1_1, if_true, if_false, ite_true, ite_false, true_and, and_true, or_true, true_or, false_or, or_false, ↓reduceIte, Nat.reduceEqDiff, Nat.reduceAdd, Nat.reduceMul, Nat.reduceSub, Int.reduceLE, Int.reduceLT, Int.reduceNeg, Int.reduceAdd, Int.reduceSub, Int.reduceEq, reduceCtorEq, jI_lt, jI_eq, jI_lt0, jI_0lt, jI_eq0, jI_0le, jn_lo, iU_row, iU_nr, iU_eq, iU_same, jI_ixn, jI_add, jI_sub, jI_nat, sh_31, sh_32, sh_36, f_31_0 hF, f_32_4 hF, hrl0, hc.2.1, hwi, show ((i : Nat) : Int) ≤ 2147483647 by omega, show (i : Nat) ≤ 2147483647 by omega, show ((n : Nat) : Int) ≤ 2147483647 by omega, show (n : Nat) ≤ 2147483647 by omega, show -2147483648 ≤ (r : Int) by omega, show (r : Int) ≤ 2147483647 by omega, show -2147483648 ≤ (bound : Int) by omega, show (bound : Int) ≤ 2147483647 by omega, show -2147483648 ≤ (T 3 i - 5 : Int) by omega, show (T 3 i - 5 : Int) ≤ 2147483647 by omega, qb, show (i : Int) < (n : Int) by omega, jI_in (z := ((i : Int) : Int)) (n := 8) (by omega) (by omega) (by omega), pPos_e, pPos_e']
      refine ih d (tB T i) r _ _ _ _ (tB_ok hok hin) hcA (vLw_ag haA (fun r j q => (sc_T2 hrl q).1) hlw) ((haA 31 2 (fun q => (sc_T2 hrl q).2 ⟨rfl, .inl rfl⟩)).trans hD) ((haA 31 3 (fun q => (sc_T2 hrl q).2 ⟨rfl, .inr rfl⟩)).trans ht) (fun h => absurd h (by omega)) (by omega) (by omega) (by exact congrArg Int32.ofInt (by omega)) (by rfl) (fun I2 x h2 hc2 hx0 hx1 hx _ hfd => ?_)
      have hfd := hfd (by omega)
      have hcB : vTc n T 32 (iU I2 36 i (jI (T 3 i))) := by
        have h := vTc_set (w := 3) (v := T 3 i) (i := i) (by omega) hc2
        rw [show pSet (tB T i) 3 i (T 3 i) = T from pSet_back] at h
        exact h
      have haB : vAg (vScT2 rl) I (iU I2 36 i (jI (T 3 i))) := vAg_iU (vAg_tr haA h2) (.inl ⟨by omega, by omega⟩)
      have hf2 : iU I2 36 i (jI (T 3 i)) 31 4 = I 31 4 := by
        rw [iU_row (by omega), hfd, iU_row (by omega)]
        exact hf
      by_cases q : r < x
      · have hxe : x = (tV lw n t k true (tB T i)).1 := by
          rcases hx with h | h
          · exact h
          · omega
        have hstep : (tFd false (fun i => (tV lw n t k (!false) (tD false n T i)).1) ((tV lw n t k (!false) T).1, 8) (i + 1)).1 = x := by
          rw [tFd, if_pos (.inr ⟨rfl, by show _ < (tV lw n t k true (tB T i)).1; rw [← hr, ← hxe]; exact q⟩)]
          exact hxe.symm
        have ihm' := ihm ((i : Int) + 1) x (iU I2 36 i (jI (T 3 i))) (some (.int (jI (T 3 i)))) (by omega) (by omega) hstep.symm haB hcB hf2
        simp only [g91_84, g91_87, g91_89, g91_90, g91_93, g91_96, g91_98, g91_100, g91_101, g91_104, nl_none, nl_int, nl_ref, Option.toList_some, Option.toList_none, List.cons_append, List.nil_append, mSetI_u, mSetL_u, Nat.add_one_ne_zero, Nat.add_eq_zero_iff, and_false, false_and, not_false_eq_true, ne_eq, j0_0, j0_1, j1_0, j1_1, if_true, if_false, ite_true, ite_false, true_and, and_true, or_true, true_or, false_or, or_false, ↓reduceIte, Nat.reduceEqDiff, Nat.reduceAdd, Nat.reduceMul, Nat.reduceSub, Int.reduceLE, Int.reduceLT, Int.reduceNeg, Int.reduceAdd, Int.reduceSub, Int.reduceEq, reduceCtorEq, jI_lt, jI_eq, jI_lt0, jI_0lt, jI_eq0, jI_0le, jn_lo, iU_row, iU_nr, iU_eq, iU_same, jI_ixn, jI_add, jI_sub, jI_nat, sh_31, sh_32, sh_36, f_31_0 hF, f_32_4 hF, show ((i : Nat) : Int) ≤ 2147483647 by omega, show (i : Nat) ≤ 2147483647 by omega, show -2147483648 ≤ (x : Int) by omega, show (x : Int) ≤ 2147483647 by omega, show -2147483648 ≤ (r : Int) by omega, show (r : Int) ≤ 2147483647 by omega, q, jI_in (z := ((i : Int) : Int)) (n := 8) (by omega) (by omega) (by omega)]
        exact ihm'
      · have hstep : (tFd false (fun i => (tV lw n t k (!false) (tD false n T i)).1) ((tV lw n t k (!false) T).1, 8) (i + 1)).1 = r := by
          rw [tFd, if_neg]
          · exact hr.symm
          · rintro (h | h)
            · exact absurd h.1 (by decide)
            · have h2 := h.2
              rw [← hr] at h2
              have h2 : r < (tV lw n t k true (tB T i)).1 := h2
              omega
        have ihm' := ihm ((i : Int) + 1) r (iU I2 36 i (jI (T 3 i))) (some (.int (jI (T 3 i)))) (by omega) (by omega) hstep.symm haB hcB hf2
        simp only [g91_84, g91_87, g91_89, g91_90, g91_93, g91_96, g91_98, g91_100, g91_101, g91_104, nl_none, nl_int, nl_ref, Option.toList_some, Option.toList_none, List.cons_append, List.nil_append, mSetI_u, mSetL_u, Nat.add_one_ne_zero, Nat.add_eq_zero_iff, and_false, false_and, not_false_eq_true, ne_eq, j0_0, j0_1, j1_0, j1_1, if_true, if_false, ite_true, ite_false, true_and, and_true, or_true, true_or, false_or, or_false, ↓reduceIte, Nat.reduceEqDiff, Nat.reduceAdd, Nat.reduceMul, Nat.reduceSub, Int.reduceLE, Int.reduceLT, Int.reduceNeg, Int.reduceAdd, Int.reduceSub, Int.reduceEq, reduceCtorEq, jI_lt, jI_eq, jI_lt0, jI_0lt, jI_eq0, jI_0le, jn_lo, iU_row, iU_nr, iU_eq, iU_same, jI_ixn, jI_add, jI_sub, jI_nat, sh_31, sh_32, sh_36, f_31_0 hF, f_32_4 hF, show ((i : Nat) : Int) ≤ 2147483647 by omega, show (i : Nat) ≤ 2147483647 by omega, show -2147483648 ≤ (x : Int) by omega, show (x : Int) ≤ 2147483647 by omega, show -2147483648 ≤ (r : Int) by omega, show (r : Int) ≤ 2147483647 by omega, q, jI_in (z := ((i : Int) : Int)) (n := 8) (by omega) (by omega) (by omega)]
        exact ihm'
    · have hup := tFd_up (g := fun i => (tV lw n t k (!false) (tD false n T i)).1) (b := ((tV lw n t k (!false) T).1, 8)) i (m + 1)
      rw [hi, ← hr] at hup
      simp only [g91_26, g91_27, g91_30, g91_33, g91_36, g91_38, g91_39, g91_107, g91_109, nl_none, nl_int, nl_ref, Option.toList_some, Option.toList_none, List.cons_append, List.nil_append, mSetI_u, mSetL_u, Nat.add_one_ne_zero, Nat.add_eq_zero_iff, and_false, false_and, not_false_eq_true, ne_eq, j0_0, j0_1, j1_0, j1_1, if_true, if_false, ite_true, ite_false, true_and, and_true, or_true, true_or, false_or, or_false, ↓reduceIte, Nat.reduceEqDiff, Nat.reduceAdd, Nat.reduceMul, Nat.reduceSub, Int.reduceLE, Int.reduceLT, Int.reduceNeg, Int.reduceAdd, Int.reduceSub, Int.reduceEq, reduceCtorEq, jI_lt, jI_eq, jI_lt0, jI_0lt, jI_eq0, jI_0le, jn_lo, iU_row, iU_nr, iU_eq, iU_same, jI_ixn, jI_add, jI_sub, jI_nat, sh_31, sh_32, f_31_0 hF, hc.2.1, show ((i : Nat) : Int) ≤ 2147483647 by omega, show (i : Nat) ≤ 2147483647 by omega, show ((n : Nat) : Int) ≤ 2147483647 by omega, show (n : Nat) ≤ 2147483647 by omega, show -2147483648 ≤ (r : Int) by omega, show (r : Int) ≤ 2147483647 by omega, show -2147483648 ≤ (bound : Int) by omega, show (bound : Int) ≤ 2147483647 by omega, qb, show (i : Int) < (n : Int) by omega]
      exact hP I' r ha hc hri.1 hri.2 (.inr ⟨by omega, hup⟩) hf
theorem tFM (hF : mFx F st nx gf rl dr) (hrl : rl = 70 ∨ rl = 75) (hn : n ≤ 8) (ht6 : t ≤ 6) (hD1 : 1 ≤ D) (hD3 : D ≤ 3) : ∀ k, k ≤ D → tFS lw n t D rl e E F k ∧ (k < D → tMS lw n t D rl e E F k)
  | 0, hk => by
    have hrl0 : ¬ rl = 0 := by omega
    constructor
    · intro d T bound I P zl zb hok hc hlw hD ht hroot hb0 hb1 hzl hzb hP
      subst hzl hzb
      have hv := tV_in (lw := lw) (t := t) hn 0 true T
      simp only [g90_in, g90_0, g90_1, g90_4, g90_5, g90_6, nl_none, nl_int, nl_ref, Option.toList_some, Option.toList_none, List.cons_append, List.nil_append, mSetI_u, mSetL_u, Nat.add_one_ne_zero, Nat.add_eq_zero_iff, and_false, false_and, not_false_eq_true, ne_eq, j0_0, j0_1, j1_0, j1_1, if_true, if_false, ite_true, ite_false, true_and, and_true, or_true, true_or, false_or, or_false, ↓reduceIte, Nat.reduceEqDiff, Nat.reduceAdd, Nat.reduceMul, Nat.reduceSub, Int.reduceLE, Int.reduceLT, Int.reduceNeg, Int.reduceAdd, Int.reduceSub, Int.reduceEq, reduceCtorEq, jI_lt, jI_eq, jI_lt0, jI_0lt, jI_eq0, jI_0le, jn_lo, iU_row, iU_nr, iU_eq, iU_same, jI_ixn, jI_add, jI_sub, jI_nat, sh_31, hrl0, Int.lt_irrefl, show ((0 : Nat) : Int) = 0 from rfl]
      refine c89 hF hrl hok hc hlw ht ht6 (fun I2 h2 => ?_)
      simp only [g90_9, nl_none, nl_int, nl_ref, Option.toList_some, Option.toList_none, List.cons_append, List.nil_append, mSetI_u, mSetL_u, Nat.add_one_ne_zero, Nat.add_eq_zero_iff, and_false, false_and, not_false_eq_true, ne_eq, j0_0, j0_1, j1_0, j1_1, if_true, if_false, ite_true, ite_false, true_and, and_true, or_true, true_or, false_or, or_false, ↓reduceIte, Nat.reduceEqDiff, Nat.reduceAdd, Nat.reduceMul, Nat.reduceSub, Int.reduceLE, Int.reduceLT, Int.reduceNeg, Int.reduceAdd, Int.reduceSub, Int.reduceEq, reduceCtorEq, jI_lt, jI_eq, jI_lt0, jI_0lt, jI_eq0, jI_0le, jn_lo, iU_row, iU_nr, iU_eq, iU_same, jI_ixn, jI_add, jI_sub, jI_nat]
      exact hP I2 _ (vAg_mono h2 (fun r j q => by unfold vScT2; omega)) (vTc_ag h2 (fun r j q => by omega) hc) hv.1 hv.2 (.inl rfl) (fun h => absurd h (by omega)) (fun _ => h2 31 4 (by omega))
    · intro _ d T bound I P zl zb hok hc hlw hD ht hkD hb0 hb1 hzl hzb hP
      subst hzl hzb
      have hv := tV_in (lw := lw) (t := t) hn 0 false T
      simp only [g91_in, g91_0, g91_1, g91_4, g91_5, g91_6, nl_none, nl_int, nl_ref, Option.toList_some, Option.toList_none, List.cons_append, List.nil_append, mSetI_u, mSetL_u, Nat.add_one_ne_zero, Nat.add_eq_zero_iff, and_false, false_and, not_false_eq_true, ne_eq, j0_0, j0_1, j1_0, j1_1, if_true, if_false, ite_true, ite_false, true_and, and_true, or_true, true_or, false_or, or_false, ↓reduceIte, Nat.reduceEqDiff, Nat.reduceAdd, Nat.reduceMul, Nat.reduceSub, Int.reduceLE, Int.reduceLT, Int.reduceNeg, Int.reduceAdd, Int.reduceSub, Int.reduceEq, reduceCtorEq, jI_lt, jI_eq, jI_lt0, jI_0lt, jI_eq0, jI_0le, jn_lo, iU_row, iU_nr, iU_eq, iU_same, jI_ixn, jI_add, jI_sub, jI_nat, sh_31, hrl0, Int.lt_irrefl, show ((0 : Nat) : Int) = 0 from rfl]
      refine c89 hF hrl hok hc hlw ht ht6 (fun I2 h2 => ?_)
      simp only [g91_9, nl_none, nl_int, nl_ref, Option.toList_some, Option.toList_none, List.cons_append, List.nil_append, mSetI_u, mSetL_u, Nat.add_one_ne_zero, Nat.add_eq_zero_iff, and_false, false_and, not_false_eq_true, ne_eq, j0_0, j0_1, j1_0, j1_1, if_true, if_false, ite_true, ite_false, true_and, and_true, or_true, true_or, false_or, or_false, ↓reduceIte, Nat.reduceEqDiff, Nat.reduceAdd, Nat.reduceMul, Nat.reduceSub, Int.reduceLE, Int.reduceLT, Int.reduceNeg, Int.reduceAdd, Int.reduceSub, Int.reduceEq, reduceCtorEq, jI_lt, jI_eq, jI_lt0, jI_0lt, jI_eq0, jI_0le, jn_lo, iU_row, iU_nr, iU_eq, iU_same, jI_ixn, jI_add, jI_sub, jI_nat]
      exact hP I2 _ (vAg_mono h2 (fun r j q => by unfold vScT2; omega)) (vTc_ag h2 (fun r j q => by omega) hc) hv.1 hv.2 (.inl rfl) (h2 31 4 (by omega))
  | k + 1, hk => by
    have hrl0 : ¬ rl = 0 := by omega
    obtain ⟨ihF, ihM⟩ := tFM hF hrl hn ht6 hD1 hD3 k (by omega)
    constructor
    · intro d T bound I P zl zb hok hc hlw hD ht hroot hb0 hb1 hzl hzb hP
      subst hzl hzb
      rw [show d + 8 + (k + 1) = d + 8 + k + 1 from rfl]
      have ek : ((k + 1 : Nat) : Int) = (k : Int) + 1 := rfl
      simp only [g90_in, g90_0, g90_1, g90_4, g90_5, g90_6, g90_9, g90_10, g90_11, g90_12, g90_13, g90_14, g90_15, g90_17, nl_none, nl_int, nl_ref, Option.toList_some, Option.toList_none, List.cons_append, List.nil_append, mSetI_u, mSetL_u, Nat.add_one_ne_zero, Nat.add_eq_zero_iff, and_false, false_and, not_false_eq_true, ne_eq, j0_0, j0_1, j1_0, j1_1, if_true, if_false, ite_true, ite_false, true_and, and_true, or_true, true_or, false_or, or_false, ↓reduceIte, Nat.reduceEqDiff, Nat.reduceAdd, Nat.reduceMul, Nat.reduceSub, Int.reduceLE, Int.reduceLT, Int.reduceNeg, Int.reduceAdd, Int.reduceSub, Int.reduceEq, reduceCtorEq, jI_lt, jI_eq, jI_lt0, jI_0lt, jI_eq0, jI_0le, jn_lo, iU_row, iU_nr, iU_eq, iU_same, jI_ixn, jI_add, jI_sub, jI_nat, sh_31, hrl0, ek, show -2147483648 ≤ ((k : Int) + 1 : Int) by omega, show ((k : Int) + 1 : Int) ≤ 2147483647 by omega, show 0 < (k : Int) + 1 by omega]
      refine ihM (by omega) d T 9 I _ _ _ hok hc hlw hD ht (by omega) (by omega) (by omega) (by exact congrArg Int32.ofInt (by omega)) (by rfl) (fun I2 x h2 hc2 hx0 hx1 hx hfd => ?_)
      have hxe : x = (tV lw n t k (!true) T).1 := by
        rcases hx with h | h
        · exact h
        · omega
      simp only [g90_20, g90_22, g90_23, nl_none, nl_int, nl_ref, Option.toList_some, Option.toList_none, List.cons_append, List.nil_append, mSetI_u, mSetL_u, Nat.add_one_ne_zero, Nat.add_eq_zero_iff, and_false, false_and, not_false_eq_true, ne_eq, j0_0, j0_1, j1_0, j1_1, if_true, if_false, ite_true, ite_false, true_and, and_true, or_true, true_or, false_or, or_false, ↓reduceIte, Nat.reduceEqDiff, Nat.reduceAdd, Nat.reduceMul, Nat.reduceSub, Int.reduceLE, Int.reduceLT, Int.reduceNeg, Int.reduceAdd, Int.reduceSub, Int.reduceEq, reduceCtorEq, jI_lt, jI_eq, jI_lt0, jI_0lt, jI_eq0, jI_0le, jn_lo, iU_row, iU_nr, iU_eq, iU_same, jI_ixn, jI_add, jI_sub, jI_nat]
      refine c90_l hF hrl hok (vLw_ag h2 (fun r j q => (sc_T2 hrl q).1) hlw) ((h2 31 2 (fun q => (sc_T2 hrl q).2 ⟨rfl, .inl rfl⟩)).trans hD) ((h2 31 3 (fun q => (sc_T2 hrl q).2 ⟨rfl, .inr rfl⟩)).trans ht) (by omega) hD3 (ihM (by omega)) hb0 hb1 (fun h => ⟨(hroot h).1, hfd.trans (hroot h).2⟩) (fun I3 r h3 hc3 r0 r1 hr hf hf' => ?_) n 0 0 x I2 _ _ (by omega) rfl hxe vAg_rfl hc2 (fun h => hfd.trans (hroot h).2) (fun _ => rfl)
      exact hP I3 r (vAg_tr h2 h3) hc3 r0 r1 hr hf (fun h => (hf' h).trans hfd)
    · intro hkD d T bound I P zl zb hok hc hlw hD ht hkD' hb0 hb1 hzl hzb hP
      subst hzl hzb
      rw [show d + 8 + (k + 1) = d + 8 + k + 1 from rfl]
      have ek : ((k + 1 : Nat) : Int) = (k : Int) + 1 := rfl
      simp only [g91_in, g91_0, g91_1, g91_4, g91_5, g91_6, g91_9, g91_10, g91_11, g91_12, g91_13, g91_14, g91_15, g91_16, nl_none, nl_int, nl_ref, Option.toList_some, Option.toList_none, List.cons_append, List.nil_append, mSetI_u, mSetL_u, Nat.add_one_ne_zero, Nat.add_eq_zero_iff, and_false, false_and, not_false_eq_true, ne_eq, j0_0, j0_1, j1_0, j1_1, if_true, if_false, ite_true, ite_false, true_and, and_true, or_true, true_or, false_or, or_false, ↓reduceIte, Nat.reduceEqDiff, Nat.reduceAdd, Nat.reduceMul, Nat.reduceSub, Int.reduceLE, Int.reduceLT, Int.reduceNeg, Int.reduceAdd, Int.reduceSub, Int.reduceEq, reduceCtorEq, jI_lt, jI_eq, jI_lt0, jI_0lt, jI_eq0, jI_0le, jn_lo, iU_row, iU_nr, iU_eq, iU_same, jI_ixn, jI_add, jI_sub, jI_nat, sh_31, hrl0, ek, show -2147483648 ≤ ((k : Int) + 1 : Int) by omega, show ((k : Int) + 1 : Int) ≤ 2147483647 by omega, show 0 < (k : Int) + 1 by omega]
      refine ihF d T (-1) I _ _ _ hok hc hlw hD ht (fun h => absurd h (by omega)) (by omega) (by omega) (by exact congrArg Int32.ofInt (by omega)) (by rfl) (fun I2 x h2 hc2 hx0 hx1 hx _ hfd => ?_)
      have hfd := hfd (by omega)
      have hxe : x = (tV lw n t k (!false) T).1 := by
        rcases hx with h | h
        · exact h
        · omega
      simp only [g91_19, g91_21, g91_22, nl_none, nl_int, nl_ref, Option.toList_some, Option.toList_none, List.cons_append, List.nil_append, mSetI_u, mSetL_u, Nat.add_one_ne_zero, Nat.add_eq_zero_iff, and_false, false_and, not_false_eq_true, ne_eq, j0_0, j0_1, j1_0, j1_1, if_true, if_false, ite_true, ite_false, true_and, and_true, or_true, true_or, false_or, or_false, ↓reduceIte, Nat.reduceEqDiff, Nat.reduceAdd, Nat.reduceMul, Nat.reduceSub, Int.reduceLE, Int.reduceLT, Int.reduceNeg, Int.reduceAdd, Int.reduceSub, Int.reduceEq, reduceCtorEq, jI_lt, jI_eq, jI_lt0, jI_0lt, jI_eq0, jI_0le, jn_lo, iU_row, iU_nr, iU_eq, iU_same, jI_ixn, jI_add, jI_sub, jI_nat]
      refine c91_l hF hrl hok (vLw_ag h2 (fun r j q => (sc_T2 hrl q).1) hlw) ((h2 31 2 (fun q => (sc_T2 hrl q).2 ⟨rfl, .inl rfl⟩)).trans hD) ((h2 31 3 (fun q => (sc_T2 hrl q).2 ⟨rfl, .inr rfl⟩)).trans ht) hkD' hD3 ihF hb0 hb1 (fun I3 r h3 hc3 r0 r1 hr hf => ?_) n 0 0 x I2 _ (by omega) rfl hxe vAg_rfl hc2 rfl
      exact hP I3 r (vAg_tr h2 h3) hc3 r0 r1 hr (hf.trans hfd)
end TRM
