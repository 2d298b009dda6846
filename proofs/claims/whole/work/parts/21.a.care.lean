/-! ===== care ===== -/
theorem pPig : ∀ (n : Nat) (f : Nat → Nat), (∀ i, i ≤ n → f i < n) → ∃ a b, a < b ∧ b ≤ n ∧ f a = f b
  | 0, f, h => absurd (h 0 (Nat.le_refl 0)) (by omega)
  | n + 1, f, h => by
    by_cases q : ∃ a, a ≤ n ∧ f a = f (n + 1)
    · obtain ⟨a, h1, h2⟩ := q
      exact ⟨a, n + 1, by omega, Nat.le_refl _, h2⟩
    · have q' : ∀ a, a ≤ n → ¬ f a = f (n + 1) := fun a h1 h2 => q ⟨a, h1, h2⟩
      obtain ⟨a, b, h1, h2, h3⟩ := pPig n (fun i => if f i > f (n + 1) then f i - 1 else f i) (fun i hi => by
        have h4 := h i (by omega)
        have h5 := q' i hi
        have h6 := h (n + 1) (Nat.le_refl _)
        show (if f i > f (n + 1) then f i - 1 else f i) < n
        split <;> omega)
      have h4 := q' a (by omega)
      have h5 := q' b h2
      refine ⟨a, b, h1, by omega, ?_⟩
      split at h3 <;> split at h3 <;> omega
theorem pFirst (Q : Nat → Prop) : ∀ k, (∃ s, s < k ∧ Q s ∧ ∀ j, j < s → ¬ Q j) ∨ (∀ j, j < k → ¬ Q j)
  | 0 => .inr (fun j hj => absurd hj (by omega))
  | k + 1 => by
    rcases pFirst Q k with ⟨s, h1, h2, h3⟩ | h
    · exact .inl ⟨s, by omega, h2, h3⟩
    · by_cases q : Q k
      · exact .inl ⟨k, by omega, q, h⟩
      · refine .inr (fun j hj => ?_)
        by_cases e : j = k
        · rw [e]
          exact q
        · exact h j (by omega)
/-- whom one comes to -/
def pIt (T : Nat → Nat → Int) (p : Nat) : Nat → Nat
  | 0 => p
  | k + 1 => (T 4 (pIt T p k)).toNat
def pEnd (T : Nat → Nat → Int) : Nat → Nat → Int
  | 0, _ => -2
  | k + 1, x => if T 4 x = -1 then x else pEnd T k (T 4 x).toNat
def pRng (T : Nat → Nat → Int) (p : Nat) : Nat → Nat → Nat → Int
  | 0, _, _ => -2
  | k + 1, s, x => if T 4 x = p then s else if T 4 x = -1 then -2 else pRng T p k (s + 1) (T 4 x).toNat
theorem pIt_add {T : Nat → Nat → Int} {p a b : Nat} (h : pIt T p a = pIt T p b) : ∀ t, pIt T p (a + t) = pIt T p (b + t)
  | 0 => h
  | t + 1 => by
    have ih := pIt_add h t
    show (T 4 (pIt T p (a + t))).toNat = (T 4 (pIt T p (b + t))).toNat
    rw [ih]
theorem pIt_lt {n : Nat} {T : Nat → Nat → Int} {p : Nat} (hok : vTownOk n T) (hp : p < n) : ∀ s, (∀ j, j < s → ¬ T 4 (pIt T p j) = -1) → pIt T p s < n
  | 0, _ => hp
  | s + 1, h => by
    have ih := pIt_lt hok hp s (fun j hj => h j (by omega))
    have o := vOk_w hok ih
    have h1 := h s (by omega)
    show (T 4 (pIt T p s)).toNat < n
    omega
theorem pEnd_no {T : Nat → Nat → Int} {p : Nat} : ∀ k i, (∀ j, j < i + k → ¬ T 4 (pIt T p j) = -1) → pEnd T k (pIt T p i) = -2
  | 0, i, _ => rfl
  | k + 1, i, h => by
    rw [pEnd, if_neg (h i (by omega))]
    exact pEnd_no k (i + 1) (fun j hj => h j (by omega))
theorem pEnd_at {T : Nat → Nat → Int} {p s : Nat} (hs : T 4 (pIt T p s) = -1) : ∀ k i, i ≤ s → s < i + k → (∀ j, j < s → ¬ T 4 (pIt T p j) = -1) → pEnd T k (pIt T p i) = pIt T p s
  | 0, i, h1, h2, _ => absurd h2 (by omega)
  | k + 1, i, h1, h2, h => by
    rw [pEnd]
    by_cases e : i = s
    · rw [e, if_pos hs]
    · rw [if_neg (h i (by omega))]
      exact pEnd_at hs k (i + 1) (by omega) (by omega) h
theorem pEnd_eq {n : Nat} {T : Nat → Nat → Int} {p : Nat} (hok : vTownOk n T) (hp : p < n) : pEnd T (n + 1) p = pEnd T 9 p := by
  have hn := hok.1
  rcases pFirst (fun j => T 4 (pIt T p j) = -1) 9 with ⟨s, h1, h2, h3⟩ | h
  · have hsn : s ≤ n := by
      by_cases q : s ≤ n
      · exact q
      · exfalso
        obtain ⟨a, b, hab, hb, he⟩ := pPig n (pIt T p) (fun i hi => pIt_lt hok hp i (fun j hj => h3 j (by omega)))
        have := pIt_add he (s - b)
        rw [show b + (s - b) = s by omega] at this
        refine h3 (a + (s - b)) (by omega) ?_
        rw [this]
        exact h2
    rw [show pEnd T (n + 1) p = pIt T p s from pEnd_at h2 (n + 1) 0 (by omega) (by omega) h3, show pEnd T 9 p = pIt T p s from pEnd_at h2 9 0 (by omega) (by omega) h3]
  · rw [show pEnd T (n + 1) p = -2 from pEnd_no (n + 1) 0 (fun j hj => h j (by omega)), show pEnd T 9 p = -2 from pEnd_no 9 0 (fun j hj => h j (by omega))]
/-- where the ring's way stops: it has come back, or it ends -/
def pSt (T : Nat → Nat → Int) (p j : Nat) : Prop := T 4 (pIt T p j) = p ∨ T 4 (pIt T p j) = -1
theorem pRng_no {T : Nat → Nat → Int} {p : Nat} : ∀ k i, (∀ j, j < i + k → ¬ pSt T p j) → pRng T p k (i + 1) (pIt T p i) = -2
  | 0, i, _ => rfl
  | k + 1, i, h => by
    rw [pRng, if_neg (fun q => h i (by omega) (.inl q)), if_neg (fun q => h i (by omega) (.inr q))]
    exact pRng_no k (i + 1) (fun j hj => h j (by omega))
theorem pRng_at {T : Nat → Nat → Int} {p s : Nat} (hs : pSt T p s) : ∀ k i, i ≤ s → s < i + k → (∀ j, j < s → ¬ pSt T p j) → pRng T p k (i + 1) (pIt T p i) = if T 4 (pIt T p s) = p then ((s + 1 : Nat) : Int) else -2
  | 0, i, h1, h2, _ => absurd h2 (by omega)
  | k + 1, i, h1, h2, h => by
    rw [pRng]
    by_cases e : i = s
    · subst e
      by_cases q : T 4 (pIt T p i) = p
      · rw [if_pos q, if_pos q]
      · rw [if_neg q, if_neg q]
        rcases hs with hs | hs
        · exact absurd hs q
        · rw [if_pos hs]
    · rw [if_neg (fun q => h i (by omega) (.inl q)), if_neg (fun q => h i (by omega) (.inr q))]
      exact pRng_at hs k (i + 1) (by omega) (by omega) h
theorem pRng_eq {n : Nat} {T : Nat → Nat → Int} {p : Nat} (hok : vTownOk n T) (hp : p < n) : pRng T p n 1 p = pRng T p 8 1 p := by
  have hn := hok.1
  rcases pFirst (pSt T p) 8 with ⟨s, h1, h2, h3⟩ | h
  · have hsn : s < n := by
      by_cases q : s < n
      · exact q
      · exfalso
        obtain ⟨a, b, hab, hb, he⟩ := pPig n (pIt T p) (fun i hi => pIt_lt hok hp i (fun j hj w => h3 j (by omega) (.inr w)))
        by_cases hbs : b ≤ s
        · have := pIt_add he (s - b)
          rw [show b + (s - b) = s by omega] at this
          refine h3 (a + (s - b)) (by omega) ?_
          unfold pSt
          rw [this]
          exact h2
        · omega
    rw [show pRng T p n 1 p = _ from pRng_at h2 n 0 (by omega) (by omega) h3, show pRng T p 8 1 p = _ from pRng_at h2 8 0 (by omega) (by omega) h3]
  · rw [show pRng T p n 1 p = -2 from pRng_no n 0 (fun j hj => h j (by omega)), show pRng T p 8 1 p = -2 from pRng_no 8 0 (fun j hj => h j (by omega))]
section CAL
variable {d n : Nat} {e : List mShp} {I : Nat → Nat → Int32} {E : Nat → Nat → Int64} {F : Nat → Nat → Nat} {P : mPost} {T : Nat → Nat → Int} {st nx gf rl dr p : Nat}
theorem c82_a (hF : mFx F st nx gf rl dr) (hok : vTownOk n T) (hc : vTc n T 4 I) {a1 : Int32} {r : Int} (hP : P (some (.int (jI r))) (mLay e) (I, E, F)) : ∀ (k i x : Nat) (z : Int), i + k = n + 1 → z = i → x < n → r = pEnd T k x → mG (d + 1) 82 4 [some (.ref 4), some (.int a1), some (.int (jI x)), some (.int (jI z))] [] (mLay e) (I, E, F) P
  | 0, i, x, z, hi, hz, hx, hr => by
    have hn := hok.1
    subst hz
    simp only [pEnd] at hr
    subst hr
    rw [g82_4]
    simp only [g82_5, g82_6, g82_9, g82_12, g82_13, g82_14, g82_17, g82_18, g82_19, g82_22, g82_25, g82_26, g82_27, g82_28, g82_31, g82_32, g82_33, g82_34, g82_37, g82_40, g82_42, nl_none, nl_int, nl_ref, Option.toList_some, Option.toList_none, List.cons_append, List.nil_append, mSetI_u, mSetL_u, Nat.add_one_ne_zero, Nat.add_eq_zero_iff, and_false, false_and, not_false_eq_true, ne_eq, j0_0, j0_1, j1_0, j1_1, if_true, if_false, ite_true, ite_false, true_and, and_true, or_true, true_or, false_or, or_false, ↓reduceIte, Nat.reduceEqDiff, Nat.reduceAdd, Nat.reduceMul, Nat.reduceSub, Int.reduceLE, Int.reduceLT, Int.reduceNeg, Int.reduceAdd, Int.reduceSub, Int.reduceEq, reduceCtorEq, jI_lt, jI_eq, jI_lt0, jI_0lt, jI_eq0, jI_0le, jn_lo, iU_row, iU_nr, iU_eq, iU_same, jI_ixn, jI_add, jI_sub, jI_nat, sh_4, hc.2.1, show ((i : Nat) : Int) ≤ 2147483647 by omega, show (i : Nat) ≤ 2147483647 by omega, show ((n : Nat) : Int) ≤ 2147483647 by omega, show (n : Nat) ≤ 2147483647 by omega, show (n : Int) < (i : Int) by omega]
    exact hP
  | k + 1, i, x, z, hi, hz, hx, hr => by
    have ih := c82_a hF hok hc (a1 := a1) hP k (i + 1)
    have hn := hok.1
    have hw := (hc.1 x hx).2.2.2.2
    have o := vOk_w hok hx
    have o' : -1 ≤ T 4 x ∧ T 4 x < n := ⟨o.2.2.2.2.2.2.2.2.1, o.2.2.2.2.2.2.2.2.2.1⟩
    clear o
    subst hz
    simp only [pEnd] at hr
    rw [g82_4]
    by_cases q : T 4 x = -1
    · rw [if_pos q] at hr
      subst hr
      rw [q] at hw
      simp only [g82_5, g82_6, g82_9, g82_12, g82_13, g82_14, g82_17, g82_18, g82_19, g82_22, g82_25, g82_26, g82_27, g82_28, g82_31, g82_32, g82_33, g82_34, g82_37, g82_40, g82_42, nl_none, nl_int, nl_ref, Option.toList_some, Option.toList_none, List.cons_append, List.nil_append, mSetI_u, mSetL_u, Nat.add_one_ne_zero, Nat.add_eq_zero_iff, and_false, false_and, not_false_eq_true, ne_eq, j0_0, j0_1, j1_0, j1_1, if_true, if_false, ite_true, ite_false, true_and, and_true, or_true, true_or, false_or, or_false, ↓reduceIte, Nat.reduceEqDiff, Nat.reduceAdd, Nat.reduceMul, Nat.reduceSub, Int.reduceLE, Int.reduceLT, Int.reduceNeg, Int.reduceAdd, Int.reduceSub, Int.reduceEq, reduceCtorEq, jI_lt, jI_eq, jI_lt0, jI_0lt, jI_eq0, jI_0le, jn_lo, iU_row, iU_nr, iU_eq, iU_same, jI_ixn, jI_add, jI_sub, jI_nat, sh_4, sh_9, f_4_5 hF, hc.2.1, hw, show ((i : Nat) : Int) ≤ 2147483647 by omega, show (i : Nat) ≤ 2147483647 by omega, show ((n : Nat) : Int) ≤ 2147483647 by omega, show (n : Nat) ≤ 2147483647 by omega, show ((x : Nat) : Int) ≤ 2147483647 by omega, show (x : Nat) ≤ 2147483647 by omega, show ¬ ((n : Int) < (i : Int)) by omega, jI_in (z := ((x : Int) : Int)) (n := 8) (by omega) (by omega) (by omega), c67_f (z := -1) (vTw_4 hF) hn (by omega) (by omega) (by omega) hc.2.1]
      exact hP
    · rw [if_neg q] at hr
      obtain ⟨y, hy⟩ : ∃ y : Nat, T 4 x = y := ⟨(T 4 x).toNat, by omega⟩
      rw [hy] at hw hr o'
      simp only [g82_5, g82_6, g82_9, g82_12, g82_13, g82_14, g82_17, g82_18, g82_19, g82_22, g82_25, g82_26, g82_27, g82_28, g82_31, g82_32, g82_33, g82_34, g82_37, g82_40, g82_42, nl_none, nl_int, nl_ref, Option.toList_some, Option.toList_none, List.cons_append, List.nil_append, mSetI_u, mSetL_u, Nat.add_one_ne_zero, Nat.add_eq_zero_iff, and_false, false_and, not_false_eq_true, ne_eq, j0_0, j0_1, j1_0, j1_1, if_true, if_false, ite_true, ite_false, true_and, and_true, or_true, true_or, false_or, or_false, ↓reduceIte, Nat.reduceEqDiff, Nat.reduceAdd, Nat.reduceMul, Nat.reduceSub, Int.reduceLE, Int.reduceLT, Int.reduceNeg, Int.reduceAdd, Int.reduceSub, Int.reduceEq, reduceCtorEq, jI_lt, jI_eq, jI_lt0, jI_0lt, jI_eq0, jI_0le, jn_lo, iU_row, iU_nr, iU_eq, iU_same, jI_ixn, jI_add, jI_sub, jI_nat, sh_4, sh_9, f_4_5 hF, hc.2.1, hw, show ((i : Nat) : Int) ≤ 2147483647 by omega, show (i : Nat) ≤ 2147483647 by omega, show ((n : Nat) : Int) ≤ 2147483647 by omega, show (n : Nat) ≤ 2147483647 by omega, show ((x : Nat) : Int) ≤ 2147483647 by omega, show (x : Nat) ≤ 2147483647 by omega, show ¬ ((n : Int) < (i : Int)) by omega, jI_in (z := ((x : Int) : Int)) (n := 8) (by omega) (by omega) (by omega), c67_t (z := (y : Int)) (vTw_4 hF) hn (by omega) o'.2 hc.2.1]
      exact ih y _ (by omega) (by omega) (by omega) hr
theorem c83_a (hF : mFx F st nx gf rl dr) (hok : vTownOk n T) (hc : vTc n T 4 I) (hp : p < n) {r : Int} (hP : P (some (.int (jI r))) (mLay e) (I, E, F)) : ∀ (k i x : Nat) (z : Int), i + k = n + 1 → z = i → x < n → r = pRng T p k i x → mG (d + 1) 83 4 [some (.ref 4), some (.int (jI p)), some (.int (jI x)), some (.int (jI z))] [] (mLay e) (I, E, F) P
  | 0, i, x, z, hi, hz, hx, hr => by
    have hn := hok.1
    subst hz
    simp only [pRng] at hr
    subst hr
    rw [g83_4]
    simp only [g83_5, g83_6, g83_9, g83_12, g83_13, g83_16, g83_17, g83_18, g83_19, g83_20, g83_21, g83_24, g83_25, g83_26, g83_27, g83_28, g83_31, g83_34, g83_36, g83_37, g83_40, g83_43, g83_45, nl_none, nl_int, nl_ref, Option.toList_some, Option.toList_none, List.cons_append, List.nil_append, mSetI_u, mSetL_u, Nat.add_one_ne_zero, Nat.add_eq_zero_iff, and_false, false_and, not_false_eq_true, ne_eq, j0_0, j0_1, j1_0, j1_1, if_true, if_false, ite_true, ite_false, true_and, and_true, or_true, true_or, false_or, or_false, ↓reduceIte, Nat.reduceEqDiff, Nat.reduceAdd, Nat.reduceMul, Nat.reduceSub, Int.reduceLE, Int.reduceLT, Int.reduceNeg, Int.reduceAdd, Int.reduceSub, Int.reduceEq, reduceCtorEq, jI_lt, jI_eq, jI_lt0, jI_0lt, jI_eq0, jI_0le, jn_lo, iU_row, iU_nr, iU_eq, iU_same, jI_ixn, jI_add, jI_sub, jI_nat, sh_4, hc.2.1, show ((i : Nat) : Int) ≤ 2147483647 by omega, show (i : Nat) ≤ 2147483647 by omega, show ((n : Nat) : Int) ≤ 2147483647 by omega, show (n : Nat) ≤ 2147483647 by omega, show (n : Int) < (i : Int) by omega]
    exact hP
  | k + 1, i, x, z, hi, hz, hx, hr => by
    have ih := c83_a hF hok hc hp hP k (i + 1)
    have hn := hok.1
    have hw := (hc.1 x hx).2.2.2.2
    have o := vOk_w hok hx
    have o' : -1 ≤ T 4 x ∧ T 4 x < n := ⟨o.2.2.2.2.2.2.2.2.1, o.2.2.2.2.2.2.2.2.2.1⟩
    clear o
    subst hz
    simp only [pRng] at hr
    rw [g83_4]
    by_cases q0 : T 4 x = p
    · rw [if_pos q0] at hr
      subst hr
      rw [q0] at hw
      simp only [g83_5, g83_6, g83_9, g83_12, g83_13, g83_16, g83_17, g83_18, g83_19, g83_20, g83_21, g83_24, g83_25, g83_26, g83_27, g83_28, g83_31, g83_34, g83_36, g83_37, g83_40, g83_43, g83_45, nl_none, nl_int, nl_ref, Option.toList_some, Option.toList_none, List.cons_append, List.nil_append, mSetI_u, mSetL_u, Nat.add_one_ne_zero, Nat.add_eq_zero_iff, and_false, false_and, not_false_eq_true, ne_eq, j0_0, j0_1, j1_0, j1_1, if_true, if_false, ite_true, ite_false, true_and, and_true, or_true, true_or, false_or, or_false, ↓reduceIte, Nat.reduceEqDiff, Nat.reduceAdd, Nat.reduceMul, Nat.reduceSub, Int.reduceLE, Int.reduceLT, Int.reduceNeg, Int.reduceAdd, Int.reduceSub, Int.reduceEq, reduceCtorEq, jI_lt, jI_eq, jI_lt0, jI_0lt, jI_eq0, jI_0le, jn_lo, iU_row, iU_nr, iU_eq, iU_same, jI_ixn, jI_add, jI_sub, jI_nat, sh_4, sh_9, f_4_5 hF, hc.2.1, hw, show ((i : Nat) : Int) ≤ 2147483647 by omega, show (i : Nat) ≤ 2147483647 by omega, show ((n : Nat) : Int) ≤ 2147483647 by omega, show (n : Nat) ≤ 2147483647 by omega, show ((x : Nat) : Int) ≤ 2147483647 by omega, show (x : Nat) ≤ 2147483647 by omega, show ((p : Nat) : Int) ≤ 2147483647 by omega, show (p : Nat) ≤ 2147483647 by omega, show ¬ ((n : Int) < (i : Int)) by omega, jI_in (z := ((x : Int) : Int)) (n := 8) (by omega) (by omega) (by omega), eq_self]
      exact hP
    · rw [if_neg q0] at hr
      by_cases q : T 4 x = -1
      · rw [if_pos q] at hr
        subst hr
        rw [q] at hw
        simp only [g83_5, g83_6, g83_9, g83_12, g83_13, g83_16, g83_17, g83_18, g83_19, g83_20, g83_21, g83_24, g83_25, g83_26, g83_27, g83_28, g83_31, g83_34, g83_36, g83_37, g83_40, g83_43, g83_45, nl_none, nl_int, nl_ref, Option.toList_some, Option.toList_none, List.cons_append, List.nil_append, mSetI_u, mSetL_u, Nat.add_one_ne_zero, Nat.add_eq_zero_iff, and_false, false_and, not_false_eq_true, ne_eq, j0_0, j0_1, j1_0, j1_1, if_true, if_false, ite_true, ite_false, true_and, and_true, or_true, true_or, false_or, or_false, ↓reduceIte, Nat.reduceEqDiff, Nat.reduceAdd, Nat.reduceMul, Nat.reduceSub, Int.reduceLE, Int.reduceLT, Int.reduceNeg, Int.reduceAdd, Int.reduceSub, Int.reduceEq, reduceCtorEq, jI_lt, jI_eq, jI_lt0, jI_0lt, jI_eq0, jI_0le, jn_lo, iU_row, iU_nr, iU_eq, iU_same, jI_ixn, jI_add, jI_sub, jI_nat, sh_4, sh_9, f_4_5 hF, hc.2.1, hw, show ((i : Nat) : Int) ≤ 2147483647 by omega, show (i : Nat) ≤ 2147483647 by omega, show ((n : Nat) : Int) ≤ 2147483647 by omega, show (n : Nat) ≤ 2147483647 by omega, show ((x : Nat) : Int) ≤ 2147483647 by omega, show (x : Nat) ≤ 2147483647 by omega, show ((p : Nat) : Int) ≤ 2147483647 by omega, show (p : Nat) ≤ 2147483647 by omega, show ¬ ((n : Int) < (i : Int)) by omega, show ¬ ((-1 : Int) = (p : Int)) by omega, jI_in (z := ((x : Int) : Int)) (n := 8) (by omega) (by omega) (by omega), c67_f (z := -1) (vTw_4 hF) hn (by omega) (by omega) (by omega) hc.2.1]
        exact hP
      · rw [if_neg q] at hr
        obtain ⟨y, hy⟩ : ∃ y : Nat, T 4 x = y := ⟨(T 4 x).toNat, by omega⟩
        rw [hy] at hw hr o' q0
        simp only [g83_5, g83_6, g83_9, g83_12, g83_13, g83_16, g83_17, g83_18, g83_19, g83_20, g83_21, g83_24, g83_25, g83_26, g83_27, g83_28, g83_31, g83_34, g83_36, g83_37, g83_40, g83_43, g83_45, nl_none, nl_int, nl_ref, Option.toList_some, Option.toList_none, List.cons_append, List.nil_append, mSetI_u, mSetL_u, Nat.add_one_ne_zero, Nat.add_eq_zero_iff, and_false, false_and, not_false_eq_true, ne_eq, j0_0, j0_1, j1_0, j1_1, if_true, if_false, ite_true, ite_false, true_and, and_true, or_true, true_or, false_or, or_false, ↓reduceIte, Nat.reduceEqDiff, Nat.reduceAdd, Nat.reduceMul, Nat.reduceSub, Int.reduceLE, Int.reduceLT, Int.reduceNeg, Int.reduceAdd, Int.reduceSub, Int.reduceEq, reduceCtorEq, jI_lt, jI_eq, jI_lt0, jI_0lt, jI_eq0, jI_0le, jn_lo, iU_row, iU_nr, iU_eq, iU_same, jI_ixn, jI_add, jI_sub, jI_nat, sh_4, sh_9, f_4_5 hF, hc.2.1, hw, show ((i : Nat) : Int) ≤ 2147483647 by omega, show (i : Nat) ≤ 2147483647 by omega, show ((n : Nat) : Int) ≤ 2147483647 by omega, show (n : Nat) ≤ 2147483647 by omega, show ((x : Nat) : Int) ≤ 2147483647 by omega, show (x : Nat) ≤ 2147483647 by omega, show ((p : Nat) : Int) ≤ 2147483647 by omega, show (p : Nat) ≤ 2147483647 by omega, show ((y : Nat) : Int) ≤ 2147483647 by omega, show (y : Nat) ≤ 2147483647 by omega, show ¬ ((n : Int) < (i : Int)) by omega, show ¬ ((y : Int) = (p : Int)) by omega, jI_in (z := ((x : Int) : Int)) (n := 8) (by omega) (by omega) (by omega), c67_t (z := (y : Int)) (vTw_4 hF) hn (by omega) o'.2 hc.2.1]
        exact ih y _ (by omega) (by omega) (by omega) hr
theorem r186_0 (hF : mFx F st nx gf rl dr) (hok : vTownOk n T) (hR : vTownR n T (I 81) (I 80 2)) {r : Int} (hP : P (some (.int (jI r))) (mLay e) (I, E, F)) : ∀ (k i x : Nat) (z : Int) a5, i + k = 8 → z = i → x < n → r = pEnd T (k + 1) x → mG (d + 1) 186 24 [some (.ref 80), some (.int (jI p)), some (.int (jI 0)), some (.int (jI x)), some (.int (jI z)), a5] [] (mLay e) (I, E, F) P
  | 0, i, x, z, a5, hi, hz, hx, hr => by
    have hn := hok.1
    have hw := hR.1 x hx 4 (by omega)
    have o := vOk_w hok hx
    have o' : -1 ≤ T 4 x ∧ T 4 x < n := ⟨o.2.2.2.2.2.2.2.2.1, o.2.2.2.2.2.2.2.2.2.1⟩
    clear o
    subst hz
    simp only [pEnd] at hr
    rw [g186_24]
    by_cases q : T 4 x = -1
    · rw [if_pos q] at hr
      subst hr
      simp only [g186_26, g186_28, g186_31, g186_32, g186_33, g186_34, g186_37, g186_39, g186_40, g186_43, g186_45, g186_46, g186_49, g186_50, g186_51, g186_52, g186_53, g186_56, g186_58, g186_59, g186_62, g186_64, g186_65, g186_66, g186_67, g186_69, g186_70, g186_73, g186_74, g186_77, g186_79, g186_80, g186_83, g186_86, g186_87, g186_90, g186_91, g186_92, g186_93, g186_96, g186_97, g186_100, g186_101, g186_104, g186_106, nl_none, nl_int, nl_ref, Option.toList_some, Option.toList_none, List.cons_append, List.nil_append, mSetI_u, mSetL_u, Nat.add_one_ne_zero, Nat.add_eq_zero_iff, and_false, false_and, not_false_eq_true, ne_eq, j0_0, j0_1, j1_0, j1_1, if_true, if_false, ite_true, ite_false, true_and, and_true, or_true, true_or, false_or, or_false, ↓reduceIte, Nat.reduceEqDiff, Nat.reduceAdd, Nat.reduceMul, Nat.reduceSub, Int.reduceLE, Int.reduceLT, Int.reduceNeg, Int.reduceAdd, Int.reduceSub, Int.reduceEq, reduceCtorEq, jI_lt, jI_eq, jI_lt0, jI_0lt, jI_eq0, jI_0le, jn_lo, iU_row, iU_nr, iU_eq, iU_same, jI_ixn, jI_add, jI_sub, jI_nat, sh_80, show ((i : Nat) : Int) ≤ 2147483647 by omega, show (i : Nat) ≤ 2147483647 by omega, show ¬ ((i : Int) < 8) by omega, r152 hF, Int.reduceToNat, hw, q, show x ≤ 7 by omega, eq_self]
      exact hP
    · rw [if_neg q] at hr
      subst hr
      simp only [g186_26, g186_28, g186_31, g186_32, g186_33, g186_34, g186_37, g186_39, g186_40, g186_43, g186_45, g186_46, g186_49, g186_50, g186_51, g186_52, g186_53, g186_56, g186_58, g186_59, g186_62, g186_64, g186_65, g186_66, g186_67, g186_69, g186_70, g186_73, g186_74, g186_77, g186_79, g186_80, g186_83, g186_86, g186_87, g186_90, g186_91, g186_92, g186_93, g186_96, g186_97, g186_100, g186_101, g186_104, g186_106, nl_none, nl_int, nl_ref, Option.toList_some, Option.toList_none, List.cons_append, List.nil_append, mSetI_u, mSetL_u, Nat.add_one_ne_zero, Nat.add_eq_zero_iff, and_false, false_and, not_false_eq_true, ne_eq, j0_0, j0_1, j1_0, j1_1, if_true, if_false, ite_true, ite_false, true_and, and_true, or_true, true_or, false_or, or_false, ↓reduceIte, Nat.reduceEqDiff, Nat.reduceAdd, Nat.reduceMul, Nat.reduceSub, Int.reduceLE, Int.reduceLT, Int.reduceNeg, Int.reduceAdd, Int.reduceSub, Int.reduceEq, reduceCtorEq, jI_lt, jI_eq, jI_lt0, jI_0lt, jI_eq0, jI_0le, jn_lo, iU_row, iU_nr, iU_eq, iU_same, jI_ixn, jI_add, jI_sub, jI_nat, sh_80, show ((i : Nat) : Int) ≤ 2147483647 by omega, show (i : Nat) ≤ 2147483647 by omega, show ¬ ((i : Int) < 8) by omega, show ¬ (T 4 x = -1) by omega, show -2147483648 ≤ (T 4 x : Int) by omega, show (T 4 x : Int) ≤ 2147483647 by omega, r152 hF, Int.reduceToNat, hw, show x ≤ 7 by omega, eq_self]
      exact hP
  | k + 1, i, x, z, a5, hi, hz, hx, hr => by
    have ih := r186_0 hF hok hR hP k (i + 1)
    have hn := hok.1
    have hw := hR.1 x hx 4 (by omega)
    have o := vOk_w hok hx
    have o' : -1 ≤ T 4 x ∧ T 4 x < n := ⟨o.2.2.2.2.2.2.2.2.1, o.2.2.2.2.2.2.2.2.2.1⟩
    clear o
    subst hz
    rw [pEnd] at hr
    rw [g186_24]
    by_cases q : T 4 x = -1
    · rw [if_pos q] at hr
      subst hr
      simp only [g186_26, g186_28, g186_31, g186_32, g186_33, g186_34, g186_37, g186_39, g186_40, g186_43, g186_45, g186_46, g186_49, g186_50, g186_51, g186_52, g186_53, g186_56, g186_58, g186_59, g186_62, g186_64, g186_65, g186_66, g186_67, g186_69, g186_70, g186_73, g186_74, g186_77, g186_79, g186_80, g186_83, nl_none, nl_int, nl_ref, Option.toList_some, Option.toList_none, List.cons_append, List.nil_append, mSetI_u, mSetL_u, Nat.add_one_ne_zero, Nat.add_eq_zero_iff, and_false, false_and, not_false_eq_true, ne_eq, j0_0, j0_1, j1_0, j1_1, if_true, if_false, ite_true, ite_false, true_and, and_true, or_true, true_or, false_or, or_false, ↓reduceIte, Nat.reduceEqDiff, Nat.reduceAdd, Nat.reduceMul, Nat.reduceSub, Int.reduceLE, Int.reduceLT, Int.reduceNeg, Int.reduceAdd, Int.reduceSub, Int.reduceEq, reduceCtorEq, jI_lt, jI_eq, jI_lt0, jI_0lt, jI_eq0, jI_0le, jn_lo, iU_row, iU_nr, iU_eq, iU_same, jI_ixn, jI_add, jI_sub, jI_nat, sh_80, show ((i : Nat) : Int) ≤ 2147483647 by omega, show (i : Nat) ≤ 2147483647 by omega, show (i : Int) < 8 by omega, r152 hF, Int.reduceToNat, hw, q, show x ≤ 7 by omega, eq_self]
      exact hP
    · rw [if_neg q] at hr
      obtain ⟨y, hy⟩ : ∃ y : Nat, T 4 x = y := ⟨(T 4 x).toNat, by omega⟩
      rw [hy] at hw hr o'
      simp only [g186_26, g186_28, g186_31, g186_32, g186_33, g186_34, g186_37, g186_39, g186_40, g186_43, g186_45, g186_46, g186_49, g186_50, g186_51, g186_52, g186_53, g186_56, g186_58, g186_59, g186_62, g186_64, g186_65, g186_66, g186_67, g186_69, g186_70, g186_73, g186_74, g186_77, g186_79, g186_80, g186_83, nl_none, nl_int, nl_ref, Option.toList_some, Option.toList_none, List.cons_append, List.nil_append, mSetI_u, mSetL_u, Nat.add_one_ne_zero, Nat.add_eq_zero_iff, and_false, false_and, not_false_eq_true, ne_eq, j0_0, j0_1, j1_0, j1_1, if_true, if_false, ite_true, ite_false, true_and, and_true, or_true, true_or, false_or, or_false, ↓reduceIte, Nat.reduceEqDiff, Nat.reduceAdd, Nat.reduceMul, Nat.reduceSub, Int.reduceLE, Int.reduceLT, Int.reduceNeg, Int.reduceAdd, Int.reduceSub, Int.reduceEq, reduceCtorEq, jI_lt, jI_eq, jI_lt0, jI_0lt, jI_eq0, jI_0le, jn_lo, iU_row, iU_nr, iU_eq, iU_same, jI_ixn, jI_add, jI_sub, jI_nat, sh_80, show ((i : Nat) : Int) ≤ 2147483647 by omega, show (i : Nat) ≤ 2147483647 by omega, show ((y : Nat) : Int) ≤ 2147483647 by omega, show (y : Nat) ≤ 2147483647 by omega, show (i : Int) < 8 by omega, r152 hF, Int.reduceToNat, hw, show x ≤ 7 by omega, show ¬ ((y : Int) = -1) by omega, eq_self]
      exact ih y _ _ (by omega) (by omega) (by omega) hr
theorem r186_d (hF : mFx F st nx gf rl dr) (hok : vTownOk n T) (hR : vTownR n T (I 81) (I 80 2)) (hp : p < n) {x : Nat} (hx : x < n) (hq : T 4 x = -1) (hP : P (some (.int (jI (-2)))) (mLay e) (I, E, F)) : ∀ (k i : Nat) (z : Int) a5, i + k = 8 → z = i → mG (d + 1) 186 24 [some (.ref 80), some (.int (jI p)), some (.int (jI 1)), some (.int (jI x)), some (.int (jI z)), a5] [] (mLay e) (I, E, F) P
  | 0, i, z, a5, hi, hz => by
    have hn := hok.1
    subst hz
    rw [g186_24]
    simp only [g186_26, g186_28, g186_31, g186_32, g186_33, g186_34, g186_37, g186_39, g186_40, g186_43, g186_45, g186_46, g186_49, g186_50, g186_51, g186_52, g186_53, g186_56, g186_58, g186_59, g186_62, g186_64, g186_65, g186_66, g186_67, g186_69, g186_70, g186_73, g186_74, g186_77, g186_79, g186_80, g186_83, g186_86, g186_87, g186_90, g186_91, g186_92, g186_93, g186_96, g186_97, g186_100, g186_101, g186_104, g186_106, nl_none, nl_int, nl_ref, Option.toList_some, Option.toList_none, List.cons_append, List.nil_append, mSetI_u, mSetL_u, Nat.add_one_ne_zero, Nat.add_eq_zero_iff, and_false, false_and, not_false_eq_true, ne_eq, j0_0, j0_1, j1_0, j1_1, if_true, if_false, ite_true, ite_false, true_and, and_true, or_true, true_or, false_or, or_false, ↓reduceIte, Nat.reduceEqDiff, Nat.reduceAdd, Nat.reduceMul, Nat.reduceSub, Int.reduceLE, Int.reduceLT, Int.reduceNeg, Int.reduceAdd, Int.reduceSub, Int.reduceEq, reduceCtorEq, jI_lt, jI_eq, jI_lt0, jI_0lt, jI_eq0, jI_0le, jn_lo, iU_row, iU_nr, iU_eq, iU_same, jI_ixn, jI_add, jI_sub, jI_nat, sh_80, show ((i : Nat) : Int) ≤ 2147483647 by omega, show (i : Nat) ≤ 2147483647 by omega, show ¬ ((i : Int) < 8) by omega]
    exact hP
  | k + 1, i, z, a5, hi, hz => by
    have ih := r186_d hF hok hR hp hx hq hP k (i + 1)
    have hn := hok.1
    have hw := hR.1 x hx 4 (by omega)
    subst hz
    rw [g186_24]
    simp only [g186_26, g186_28, g186_31, g186_32, g186_33, g186_34, g186_37, g186_39, g186_40, g186_43, g186_45, g186_46, g186_49, g186_50, g186_51, g186_52, g186_53, g186_56, g186_58, g186_59, g186_62, g186_64, g186_65, g186_66, g186_67, g186_69, g186_70, g186_73, g186_74, g186_77, g186_79, g186_80, g186_83, nl_none, nl_int, nl_ref, Option.toList_some, Option.toList_none, List.cons_append, List.nil_append, mSetI_u, mSetL_u, Nat.add_one_ne_zero, Nat.add_eq_zero_iff, and_false, false_and, not_false_eq_true, ne_eq, j0_0, j0_1, j1_0, j1_1, if_true, if_false, ite_true, ite_false, true_and, and_true, or_true, true_or, false_or, or_false, ↓reduceIte, Nat.reduceEqDiff, Nat.reduceAdd, Nat.reduceMul, Nat.reduceSub, Int.reduceLE, Int.reduceLT, Int.reduceNeg, Int.reduceAdd, Int.reduceSub, Int.reduceEq, reduceCtorEq, jI_lt, jI_eq, jI_lt0, jI_0lt, jI_eq0, jI_0le, jn_lo, iU_row, iU_nr, iU_eq, iU_same, jI_ixn, jI_add, jI_sub, jI_nat, sh_80, show ((i : Nat) : Int) ≤ 2147483647 by omega, show (i : Nat) ≤ 2147483647 by omega, show ((p : Nat) : Int) ≤ 2147483647 by omega, show (p : Nat) ≤ 2147483647 by omega, show (i : Int) < 8 by omega, r152 hF, Int.reduceToNat, hw, hq, show x ≤ 7 by omega, show ¬ ((-1 : Int) = (p : Int)) by omega, eq_self]
    exact ih _ _ (by omega) (by omega)
theorem r186_1 (hF : mFx F st nx gf rl dr) (hok : vTownOk n T) (hR : vTownR n T (I 81) (I 80 2)) (hp : p < n) {r : Int} (hP : P (some (.int (jI r))) (mLay e) (I, E, F)) : ∀ (k i x : Nat) (z : Int) a5, i + k = 8 → z = i → x < n → r = pRng T p k (i + 1) x → mG (d + 1) 186 24 [some (.ref 80), some (.int (jI p)), some (.int (jI 1)), some (.int (jI x)), some (.int (jI z)), a5] [] (mLay e) (I, E, F) P
  | 0, i, x, z, a5, hi, hz, hx, hr => by
    subst hz
    simp only [pRng] at hr
    subst hr
    rw [g186_24]
    simp only [g186_26, g186_28, g186_31, g186_32, g186_33, g186_34, g186_37, g186_39, g186_40, g186_43, g186_45, g186_46, g186_49, g186_50, g186_51, g186_52, g186_53, g186_56, g186_58, g186_59, g186_62, g186_64, g186_65, g186_66, g186_67, g186_69, g186_70, g186_73, g186_74, g186_77, g186_79, g186_80, g186_83, g186_86, g186_87, g186_90, g186_91, g186_92, g186_93, g186_96, g186_97, g186_100, g186_101, g186_104, g186_106, nl_none, nl_int, nl_ref, Option.toList_some, Option.toList_none, List.cons_append, List.nil_append, mSetI_u, mSetL_u, Nat.add_one_ne_zero, Nat.add_eq_zero_iff, and_false, false_and, not_false_eq_true, ne_eq, j0_0, j0_1, j1_0, j1_1, if_true, if_false, ite_true, ite_false, true_and, and_true, or_true, true_or, false_or, or_false, ↓reduceIte, Nat.reduceEqDiff, Nat.reduceAdd, Nat.reduceMul, Nat.reduceSub, Int.reduceLE, Int.reduceLT, Int.reduceNeg, Int.reduceAdd, Int.reduceSub, Int.reduceEq, reduceCtorEq, jI_lt, jI_eq, jI_lt0, jI_0lt, jI_eq0, jI_0le, jn_lo, iU_row, iU_nr, iU_eq, iU_same, jI_ixn, jI_add, jI_sub, jI_nat, sh_80, show ((i : Nat) : Int) ≤ 2147483647 by omega, show (i : Nat) ≤ 2147483647 by omega, show ¬ ((i : Int) < 8) by omega]
    exact hP
  | k + 1, i, x, z, a5, hi, hz, hx, hr => by
    have ih := r186_1 hF hok hR hp hP k (i + 1)
    have hn := hok.1
    have hw := hR.1 x hx 4 (by omega)
    have o := vOk_w hok hx
    have o' : -1 ≤ T 4 x ∧ T 4 x < n := ⟨o.2.2.2.2.2.2.2.2.1, o.2.2.2.2.2.2.2.2.2.1⟩
    clear o
    subst hz
    simp only [pRng] at hr
    by_cases q0 : T 4 x = p
    · rw [if_pos q0] at hr
      subst hr
      rw [g186_24]
      simp only [g186_26, g186_28, g186_31, g186_32, g186_33, g186_34, g186_37, g186_39, g186_40, g186_43, g186_45, g186_46, g186_49, g186_50, g186_51, g186_52, g186_53, g186_56, g186_58, g186_59, g186_62, g186_64, g186_65, g186_66, g186_67, g186_69, g186_70, g186_73, g186_74, g186_77, g186_79, g186_80, g186_83, nl_none, nl_int, nl_ref, Option.toList_some, Option.toList_none, List.cons_append, List.nil_append, mSetI_u, mSetL_u, Nat.add_one_ne_zero, Nat.add_eq_zero_iff, and_false, false_and, not_false_eq_true, ne_eq, j0_0, j0_1, j1_0, j1_1, if_true, if_false, ite_true, ite_false, true_and, and_true, or_true, true_or, false_or, or_false, ↓reduceIte, Nat.reduceEqDiff, Nat.reduceAdd, Nat.reduceMul, Nat.reduceSub, Int.reduceLE, Int.reduceLT, Int.reduceNeg, Int.reduceAdd, Int.reduceSub, Int.reduceEq, reduceCtorEq, jI_lt, jI_eq, jI_lt0, jI_0lt, jI_eq0, jI_0le, jn_lo, iU_row, iU_nr, iU_eq, iU_same, jI_ixn, jI_add, jI_sub, jI_nat, sh_80, show ((i : Nat) : Int) ≤ 2147483647 by omega, show (i : Nat) ≤ 2147483647 by omega, show ((p : Nat) : Int) ≤ 2147483647 by omega, show (p : Nat) ≤ 2147483647 by omega, show (i : Int) < 8 by omega, r152 hF, Int.reduceToNat, hw, q0, show x ≤ 7 by omega, eq_self]
      exact hP
    · rw [if_neg q0] at hr
      by_cases q : T 4 x = -1
      · rw [if_pos q] at hr
        subst hr
        exact r186_d hF hok hR hp hx q hP (k + 1) i _ a5 hi rfl
      · rw [if_neg q] at hr
        obtain ⟨y, hy⟩ : ∃ y : Nat, T 4 x = y := ⟨(T 4 x).toNat, by omega⟩
        rw [hy] at hw hr o' q0
        rw [g186_24]
        simp only [g186_26, g186_28, g186_31, g186_32, g186_33, g186_34, g186_37, g186_39, g186_40, g186_43, g186_45, g186_46, g186_49, g186_50, g186_51, g186_52, g186_53, g186_56, g186_58, g186_59, g186_62, g186_64, g186_65, g186_66, g186_67, g186_69, g186_70, g186_73, g186_74, g186_77, g186_79, g186_80, g186_83, nl_none, nl_int, nl_ref, Option.toList_some, Option.toList_none, List.cons_append, List.nil_append, mSetI_u, mSetL_u, Nat.add_one_ne_zero, Nat.add_eq_zero_iff, and_false, false_and, not_false_eq_true, ne_eq, j0_0, j0_1, j1_0, j1_1, if_true, if_false, ite_true, ite_false, true_and, and_true, or_true, true_or, false_or, or_false, ↓reduceIte, Nat.reduceEqDiff, Nat.reduceAdd, Nat.reduceMul, Nat.reduceSub, Int.reduceLE, Int.reduceLT, Int.reduceNeg, Int.reduceAdd, Int.reduceSub, Int.reduceEq, reduceCtorEq, jI_lt, jI_eq, jI_lt0, jI_0lt, jI_eq0, jI_0le, jn_lo, iU_row, iU_nr, iU_eq, iU_same, jI_ixn, jI_add, jI_sub, jI_nat, sh_80, show ((i : Nat) : Int) ≤ 2147483647 by omega, show (i : Nat) ≤ 2147483647 by omega, show ((y : Nat) : Int) ≤ 2147483647 by omega, show (y : Nat) ≤ 2147483647 by omega, show ((p : Nat) : Int) ≤ 2147483647 by omega, show (p : Nat) ≤ 2147483647 by omega, show (i : Int) < 8 by omega, r152 hF, Int.reduceToNat, hw, show x ≤ 7 by omega, show ¬ ((y : Int) = -1) by omega, show ¬ ((y : Int) = (p : Int)) by omega, eq_self]
        exact ih y _ _ (by omega) (by omega) (by omega) hr
end CAL
theorem api_care (x y : Int32) : mApiI vI 103 186 [.int x, .int y] := by
  rintro c lay M hc ⟨e, I, E, F, st, nx, gf, rl, dr, n, bn, T, lw, rfl, rfl, hI⟩
  have hF := hI.1
  have hI0 := hI
  obtain ⟨-, -, h3, -, h5, h6, h7, h8, h9, h10, h11, h12, h13, h14, h15, h16, h17, h18⟩ := hI
  have hrl : rl = 70 ∨ rl = 75 := by omega
  clear h3
  have hn := h5.1
  have hc4 : vTc n T 4 I := h6
  have hrl0 : ¬ rl = 0 := by omega
  obtain ⟨z, hz0, hz1, rfl⟩ := jI_of x
  obtain ⟨w, hw0, hw1, rfl⟩ := jI_of y
  by_cases h : 0 ≤ z ∧ z < n
  · obtain ⟨p, rfl⟩ : ∃ p : Nat, z = p := ⟨z.toNat, by omega⟩
    have hp : p < n := by omega
    rcases (by omega : w = 0 ∨ w = 1 ∨ ¬ (0 ≤ w ∧ w ≤ 1)) with rfl | rfl | hw
    · simp only [g103_in, g103_0, g103_1, g103_4, g103_5, g103_8, g103_11, g103_12, g103_13, g103_14, g103_17, g103_20, g103_21, g103_22, g103_23, g103_26, g103_27, g103_30, g103_31, g103_34, g103_37, g103_38, g103_41, g103_42, g103_45, g82_in, g82_0, g82_1, g82_2, g82_3, nl_none, nl_int, nl_ref, Option.toList_some, Option.toList_none, List.cons_append, List.nil_append, mSetI_u, mSetL_u, Nat.add_one_ne_zero, Nat.add_eq_zero_iff, and_false, false_and, not_false_eq_true, ne_eq, j0_0, j0_1, j1_0, j1_1, if_true, if_false, ite_true, ite_false, true_and, and_true, or_true, true_or, false_or, or_false, ↓reduceIte, Nat.reduceEqDiff, Nat.reduceAdd, Nat.reduceMul, Nat.reduceSub, Int.reduceLE, Int.reduceLT, Int.reduceNeg, Int.reduceAdd, Int.reduceSub, Int.reduceEq, reduceCtorEq, jI_lt, jI_eq, jI_lt0, jI_0lt, jI_eq0, jI_0le, jn_lo, iU_row, iU_nr, iU_eq, iU_same, jI_ixn, jI_add, jI_sub, jI_nat, sh_3, sh_4, f_3_0 hF, c67_t (vTw_4 hF) hn h.1 h.2 hc4.2.1, c132_t (z := 0) (a := 0) (b := 1) (by omega) (by omega) (by omega) (by omega)]
      refine c82_a (d := 98) hF h5 hc4 (r := pEnd T (n + 1) p) ?_ (n + 1) 0 p 0 (by omega) rfl hp rfl
      simp only [g103_34, g103_37, g103_38, g103_41, g103_42, g103_45, nl_none, nl_int, nl_ref, Option.toList_some, Option.toList_none, List.cons_append, List.nil_append, mSetI_u, mSetL_u, Nat.add_one_ne_zero, Nat.add_eq_zero_iff, and_false, false_and, not_false_eq_true, ne_eq, j0_0, j0_1, j1_0, j1_1, if_true, if_false, ite_true, ite_false, true_and, and_true, or_true, true_or, false_or, or_false, ↓reduceIte, Nat.reduceEqDiff, Nat.reduceAdd, Nat.reduceMul, Nat.reduceSub, Int.reduceLE, Int.reduceLT, Int.reduceNeg, Int.reduceAdd, Int.reduceSub, Int.reduceEq, reduceCtorEq, jI_lt, jI_eq, jI_lt0, jI_0lt, jI_eq0, jI_0le, jn_lo, iU_row, iU_nr, iU_eq, iU_same, jI_ixn, jI_add, jI_sub, jI_nat]
      refine ⟨sh_80, ?_⟩
      simp only [g186_in, g186_0, g186_1, g186_2, g186_5, g186_8, g186_9, g186_10, g186_11, g186_14, g186_17, g186_18, g186_19, g186_20, g186_21, g186_22, nl_none, nl_int, nl_ref, Option.toList_some, Option.toList_none, List.cons_append, List.nil_append, mSetI_u, mSetL_u, Nat.add_one_ne_zero, Nat.add_eq_zero_iff, and_false, false_and, not_false_eq_true, ne_eq, j0_0, j0_1, j1_0, j1_1, if_true, if_false, ite_true, ite_false, true_and, and_true, or_true, true_or, false_or, or_false, ↓reduceIte, Nat.reduceEqDiff, Nat.reduceAdd, Nat.reduceMul, Nat.reduceSub, Int.reduceLE, Int.reduceLT, Int.reduceNeg, Int.reduceAdd, Int.reduceSub, Int.reduceEq, reduceCtorEq, jI_lt, jI_eq, jI_lt0, jI_0lt, jI_eq0, jI_0le, jn_lo, iU_row, iU_nr, iU_eq, iU_same, jI_ixn, jI_add, jI_sub, jI_nat, sh_80, r151_t hF hn h.1 h.2 h7.2.2.2, r146_t (z := 0) (a := 0) (b := 1) (by omega) (by omega) (by omega) (by omega)]
      exact r186_0 (d := 99) hF h5 h7 (r := pEnd T (n + 1) p) ⟨rfl, vI_fin (vI_same hI0)⟩ 8 0 p 0 _ (by omega) rfl hp (pEnd_eq h5 hp)
    · simp only [g103_in, g103_0, g103_1, g103_4, g103_5, g103_8, g103_11, g103_12, g103_13, g103_14, g103_17, g103_20, g103_21, g103_22, g103_23, g103_26, g103_27, g103_30, g103_31, g103_34, g103_37, g103_38, g103_41, g103_42, g103_45, g83_in, g83_0, g83_1, g83_2, g83_3, nl_none, nl_int, nl_ref, Option.toList_some, Option.toList_none, List.cons_append, List.nil_append, mSetI_u, mSetL_u, Nat.add_one_ne_zero, Nat.add_eq_zero_iff, and_false, false_and, not_false_eq_true, ne_eq, j0_0, j0_1, j1_0, j1_1, if_true, if_false, ite_true, ite_false, true_and, and_true, or_true, true_or, false_or, or_false, ↓reduceIte, Nat.reduceEqDiff, Nat.reduceAdd, Nat.reduceMul, Nat.reduceSub, Int.reduceLE, Int.reduceLT, Int.reduceNeg, Int.reduceAdd, Int.reduceSub, Int.reduceEq, reduceCtorEq, jI_lt, jI_eq, jI_lt0, jI_0lt, jI_eq0, jI_0le, jn_lo, iU_row, iU_nr, iU_eq, iU_same, jI_ixn, jI_add, jI_sub, jI_nat, sh_3, sh_4, f_3_0 hF, c67_t (vTw_4 hF) hn h.1 h.2 hc4.2.1, c132_t (z := 1) (a := 0) (b := 1) (by omega) (by omega) (by omega) (by omega)]
      refine c83_a (d := 98) hF h5 hc4 hp (r := pRng T p n 1 p) ?_ n 1 p 1 (by omega) rfl hp rfl
      simp only [g103_45, nl_none, nl_int, nl_ref, Option.toList_some, Option.toList_none, List.cons_append, List.nil_append, mSetI_u, mSetL_u, Nat.add_one_ne_zero, Nat.add_eq_zero_iff, and_false, false_and, not_false_eq_true, ne_eq, j0_0, j0_1, j1_0, j1_1, if_true, if_false, ite_true, ite_false, true_and, and_true, or_true, true_or, false_or, or_false, ↓reduceIte, Nat.reduceEqDiff, Nat.reduceAdd, Nat.reduceMul, Nat.reduceSub, Int.reduceLE, Int.reduceLT, Int.reduceNeg, Int.reduceAdd, Int.reduceSub, Int.reduceEq, reduceCtorEq, jI_lt, jI_eq, jI_lt0, jI_0lt, jI_eq0, jI_0le, jn_lo, iU_row, iU_nr, iU_eq, iU_same, jI_ixn, jI_add, jI_sub, jI_nat]
      refine ⟨sh_80, ?_⟩
      simp only [g186_in, g186_0, g186_1, g186_2, g186_5, g186_8, g186_9, g186_10, g186_11, g186_14, g186_17, g186_18, g186_19, g186_20, g186_21, g186_22, nl_none, nl_int, nl_ref, Option.toList_some, Option.toList_none, List.cons_append, List.nil_append, mSetI_u, mSetL_u, Nat.add_one_ne_zero, Nat.add_eq_zero_iff, and_false, false_and, not_false_eq_true, ne_eq, j0_0, j0_1, j1_0, j1_1, if_true, if_false, ite_true, ite_false, true_and, and_true, or_true, true_or, false_or, or_false, ↓reduceIte, Nat.reduceEqDiff, Nat.reduceAdd, Nat.reduceMul, Nat.reduceSub, Int.reduceLE, Int.reduceLT, Int.reduceNeg, Int.reduceAdd, Int.reduceSub, Int.reduceEq, reduceCtorEq, jI_lt, jI_eq, jI_lt0, jI_0lt, jI_eq0, jI_0le, jn_lo, iU_row, iU_nr, iU_eq, iU_same, jI_ixn, jI_add, jI_sub, jI_nat, sh_80, r151_t hF hn h.1 h.2 h7.2.2.2, r146_t (z := 1) (a := 0) (b := 1) (by omega) (by omega) (by omega) (by omega)]
      exact r186_1 (d := 99) hF h5 h7 hp (r := pRng T p n 1 p) ⟨rfl, vI_fin (vI_same hI0)⟩ 8 0 p 0 _ (by omega) rfl hp (pRng_eq h5 hp)
    · simp only [g103_in, g103_0, g103_1, g103_4, g103_5, g103_8, g103_11, g103_12, g103_13, g103_14, g103_17, g103_20, g103_21, g103_22, g103_23, g103_26, g103_27, g103_30, g103_31, g103_34, g103_37, g103_38, g103_41, g103_42, g103_45, g186_in, g186_0, g186_1, g186_2, g186_5, g186_8, g186_9, g186_10, g186_11, g186_14, g186_17, g186_18, g186_19, g186_20, g186_21, g186_22, g186_24, g186_26, g186_28, g186_31, g186_32, g186_33, g186_34, g186_37, g186_39, g186_40, g186_43, g186_45, g186_46, g186_49, g186_50, g186_51, g186_52, g186_53, g186_56, g186_58, g186_59, g186_62, g186_64, g186_65, g186_66, g186_67, g186_69, g186_70, g186_73, g186_74, g186_77, g186_79, g186_80, g186_83, g186_86, g186_87, g186_90, g186_91, g186_92, g186_93, g186_96, g186_97, g186_100, g186_101, g186_104, g186_106, nl_none, nl_int, nl_ref, Option.toList_some, Option.toList_none, List.cons_append, List.nil_append, mSetI_u, mSetL_u, Nat.add_one_ne_zero, Nat.add_eq_zero_iff, and_false, false_and, not_false_eq_true, ne_eq, j0_0, j0_1, j1_0, j1_1, if_true, if_false, ite_true, ite_false, true_and, and_true, or_true, true_or, false_or, or_false, ↓reduceIte, Nat.reduceEqDiff, Nat.reduceAdd, Nat.reduceMul, Nat.reduceSub, Int.reduceLE, Int.reduceLT, Int.reduceNeg, Int.reduceAdd, Int.reduceSub, Int.reduceEq, reduceCtorEq, jI_lt, jI_eq, jI_lt0, jI_0lt, jI_eq0, jI_0le, jn_lo, iU_row, iU_nr, iU_eq, iU_same, jI_ixn, jI_add, jI_sub, jI_nat, sh_3, sh_4, sh_80, f_3_0 hF, c67_t (vTw_4 hF) hn h.1 h.2 hc4.2.1, r151_t hF hn h.1 h.2 h7.2.2.2, c132_f (z := w) (a := 0) (b := 1) hw0 hw1 hw (by omega) (by omega) (by omega) (by omega), r146_f (z := w) (a := 0) (b := 1) hw0 hw1 hw (by omega) (by omega) (by omega) (by omega)]
      exact vI_fin (vI_same hI0)
  · simp only [g103_in, g103_0, g103_1, g103_4, g103_5, g103_8, g103_11, g103_12, g103_13, g103_14, g103_17, g103_20, g103_21, g103_22, g103_23, g103_26, g103_27, g103_30, g103_31, g103_34, g103_37, g103_38, g103_41, g103_42, g103_45, g186_in, g186_0, g186_1, g186_2, g186_5, g186_8, g186_9, g186_10, g186_11, g186_14, g186_17, g186_18, g186_19, g186_20, g186_21, g186_22, g186_24, g186_26, g186_28, g186_31, g186_32, g186_33, g186_34, g186_37, g186_39, g186_40, g186_43, g186_45, g186_46, g186_49, g186_50, g186_51, g186_52, g186_53, g186_56, g186_58, g186_59, g186_62, g186_64, g186_65, g186_66, g186_67, g186_69, g186_70, g186_73, g186_74, g186_77, g186_79, g186_80, g186_83, g186_86, g186_87, g186_90, g186_91, g186_92, g186_93, g186_96, g186_97, g186_100, g186_101, g186_104, g186_106, nl_none, nl_int, nl_ref, Option.toList_some, Option.toList_none, List.cons_append, List.nil_append, mSetI_u, mSetL_u, Nat.add_one_ne_zero, Nat.add_eq_zero_iff, and_false, false_and, not_false_eq_true, ne_eq, j0_0, j0_1, j1_0, j1_1, if_true, if_false, ite_true, ite_false, true_and, and_true, or_true, true_or, false_or, or_false, ↓reduceIte, Nat.reduceEqDiff, Nat.reduceAdd, Nat.reduceMul, Nat.reduceSub, Int.reduceLE, Int.reduceLT, Int.reduceNeg, Int.reduceAdd, Int.reduceSub, Int.reduceEq, reduceCtorEq, jI_lt, jI_eq, jI_lt0, jI_0lt, jI_eq0, jI_0le, jn_lo, iU_row, iU_nr, iU_eq, iU_same, jI_ixn, jI_add, jI_sub, jI_nat, sh_3, sh_4, sh_80, f_3_0 hF, c67_f (vTw_4 hF) hn hz0 hz1 h hc4.2.1, r151_f hF hn hz0 hz1 h h7.2.2.2]
    exact vI_fin (vI_same hI0)
