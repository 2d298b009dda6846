/-! ===== round: what the search with pruning finds; the reference's leaf ===== -/
def qCe (n : Nat) (w : Nat → Nat) (who i : Nat) : Bool := !(who + 1 == n) && (qWk w who 8 i == who)
theorem qCe_iff {n who i : Nat} {w : Nat → Nat} : qCe n w who i = true ↔ who + 1 ≠ n ∧ qEv (qUp w who i) who := by
  unfold qCe qEv
  rw [qUp_eq, qWk_cg (w := qUp w who i) (w' := w) (fun j hj => qUp_lt hj), Bool.and_eq_true, Bool.not_eq_true', beq_eq_false_iff_ne, beq_iff_eq]
theorem qEv_cg {w w' : Nat → Nat} {v : Nat} (h : ∀ j, j ≤ v → w j = w' j) : qEv w v ↔ qEv w' v := by
  unfold qEv
  rw [h v (Nat.le_refl v), qWk_cg (fun j hj => h j (by omega))]
def qSc {α : Type} (lf : (Nat → Nat) → α → α) (n : Nat) : Nat → Nat → (Nat → Nat) → Nat → α → α
  | 0, _, w, _, st => lf w st
  | k + 1, who, w, b, st => qLp (fun i st => if qFree who b i = true ∧ ¬ qCe n w who i = true then qSc lf n k (who + 1) (qUp w who i) (b ||| 2 ^ i) st else st) n st
def qLc (lw : vLw) (n : Nat) (T : Nat → Nat → Int) (h : Nat) (w : Nat → Nat) (st : qSt) : qSt := qTk (qLn (pDays lw n (qWho T n w) h) n) (pSum (pDays lw n (qWho T n w) h) n) w st
section QRD
variable {lw : vLw} {n h : Nat} {T : Nat → Nat → Int}
theorem qSr_no (hn : n ≤ 8) : ∀ (k who : Nat) (w : Nat → Nat) (b : Nat) (oth : Int) (st : qSt) (v : Nat), who + k = n → qIn n who w b → v < who → v + 1 < n → qEv w v → qSr (fun w _ st => qLf lw n T h w st) T n k who w b oth st = st
  | 0, who, w, b, oth, st, v, hk, hi, hv, hv1, he => by
    have e : who = n := by omega
    subst e
    rw [qSr]
    show qLf lw who T h w st = st
    unfold qLf
    rw [qRg_no (qIn_pm hi) hv1 he]
    exact if_neg (by decide)
  | k + 1, who, w, b, oth, st, v, hk, hi, hv, hv1, he => by
    rw [qSr]
    refine (qLp_cg (g := fun _ st => st) n st (fun i st hin => ?_)).trans (qLp_id (fun _ => rfl) n)
    by_cases hf : qFree who b i = true
    · rw [if_pos hf]
      exact qSr_no hn k (who + 1) _ _ _ st v (by omega) (qIn_up hn hi hin hf) (by omega) hv1 ((qEv_cg (fun j hj => qUp_lt (by omega))).2 he)
    · rw [if_neg hf]
theorem qSc_eq (hn : n ≤ 8) (h0 : 0 < n) : ∀ (k who : Nat) (w : Nat → Nat) (b : Nat) (oth : Int) (st : qSt), who + k = n → qIn n who w b → (∀ v, v < who → v + 1 < n → ¬ qEv w v) → qSc (qLc lw n T h) n k who w b st = qSr (fun w _ st => qLf lw n T h w st) T n k who w b oth st
  | 0, who, w, b, oth, st, hk, hi, hq => by
    have e : who = n := by omega
    subst e
    rw [qSc, qSr]
    show qLc lw who T h w st = qLf lw who T h w st
    unfold qLf
    rw [qRg_yes (qIn_pm hi) h0 hn (fun v hv => hq v (by omega) hv)]
    exact (if_pos rfl).symm
  | k + 1, who, w, b, oth, st, hk, hi, hq => by
    rw [qSc, qSr]
    refine qLp_cg n st (fun i st hin => ?_)
    by_cases hf : qFree who b i = true
    · by_cases hc : qCe n w who i = true
      · rw [if_neg (fun q => q.2 hc), if_pos hf]
        obtain ⟨c1, c2⟩ := qCe_iff.1 hc
        exact (qSr_no hn k (who + 1) _ _ _ st who (by omega) (qIn_up hn hi hin hf) (by omega) (by omega) c2).symm
      · rw [if_pos ⟨hf, hc⟩, if_pos hf]
        refine qSc_eq hn h0 k (who + 1) _ _ _ st (by omega) (qIn_up hn hi hin hf) (fun v hv hv1 he => ?_)
        by_cases ev : v = who
        · rw [ev] at he hv1
          exact hc (qCe_iff.2 ⟨by omega, he⟩)
        · exact hq v (by omega) hv1 ((qEv_cg (fun j hj => qUp_lt (by omega))).1 he)
    · rw [if_neg (fun q => hf q.1), if_neg hf]
def qRe (a b : qSt) : Prop := a = b ∨ (9 ≤ a.1 ∧ 9 ≤ b.1)
theorem qLf_re (hn : n ≤ 8) : ∀ (w : Nat → Nat) (oth : Int) a b, qPm n w → 0 ≤ oth → oth ≤ 8 → qRe a b → qRe (qLf lw n T h w a) (qLf lw n T h w b) := by
  intro w oth a b _ _ _ hab
  have hl := qLn_in (pDays lw n (qWho T n w) h) n
  unfold qLf
  by_cases q : qRg w (n - 1) 0 = true
  · rw [if_pos q, if_pos q]
    rcases hab with rfl | ⟨h1, h2⟩
    · exact .inl rfl
    · unfold qTk
      rw [if_pos (by omega), if_pos (by omega)]
      exact .inl rfl
  · rw [if_neg q, if_neg q]
    exact hab
theorem qIt_way {w : Nat → Nat} (hw : ∀ j, j + 1 < n → w j = j + 1) : ∀ j, j < n → qIt w 0 j = j
  | 0, hj => rfl
  | j + 1, hj => by
    rw [qIt, qIt_way hw j (by omega)]
    exact hw j hj
theorem qRd_c (hn : n ≤ 8) (h2 : 2 ≤ n) : qSc (qLc lw n T h) n n 0 (fun _ => 0) 0 (9, -1, fun _ => 0) = qRd lw n T h ∧ (qRd lw n T h).1 ≤ 8 := by
  have hit : (qRd lw n T h).1 ≤ 8 := by
    unfold qRd
    obtain ⟨m, rfl⟩ : ∃ m, n = m + 2 := ⟨n - 2, by omega⟩
    refine qSr_hit (S := fun st : qSt => st.1 ≤ 8) hn (by omega) (fun w oth st _ h => ?_) (fun w oth st ho hw1 hw2 => ?_) (m + 1) 0 _ 0 0 _ (by omega) (by omega) (by omega) (fun j hj => absurd hj (by omega)) (fun j hj hz => ?_)
    · show (qLf lw (m + 2) T _ w st).1 ≤ 8
      unfold qLf
      split
      · exact qTk_k h
      · exact h
    · show (qLf lw (m + 2) T h w st).1 ≤ 8
      have hl := qLn_in (pDays lw (m + 2) (qWho T (m + 2) w) h) (m + 2)
      unfold qLf
      have hr : qRg w (m + 2 - 1) 0 = true := by
        rw [qRg_iff]
        refine ⟨fun j a c => ?_, ?_⟩
        · rw [qIt_way hw1 j (by omega)]
          omega
        · rw [qIt, qIt_way hw1 _ (by omega)]
          exact hw2
      rw [if_pos hr]
      exact qTk_8 (by omega)
    · rw [pBt_0 ⟨j, hj⟩] at hz
      cases hz
  refine ⟨?_, hit⟩
  rw [qSc_eq hn (by omega) n 0 _ 0 0 _ (by omega) (qIn_0 n _) (fun v hv => absurd hv (by omega))]
  have hre := qSr_rel (R := qRe) (lf := fun w _ st => qLf lw n T h w st) (lg := fun w _ st => qLf lw n T h w st) (T := T) hn (qLf_re hn) n 0 (fun _ => 0) 0 0 (9, -1, fun _ => 0) (2147483647, -1, fun _ => 0) (by omega) (qIn_0 n _) (by omega) (by omega) (.inr ⟨by show (9 : Int) ≤ 9; omega, by show (9 : Int) ≤ 2147483647; omega⟩)
  rcases hre with e | e
  · exact e
  · exact absurd e.2 (by unfold qRd at hit; omega)
/-! the town in which the way is gone -/
theorem qWho_4 {w : Nat → Nat} {m j : Nat} (hj : j < m) : qWho T m w 4 j = w j := if_pos ⟨rfl, hj⟩
theorem qWho_n {w : Nat → Nat} {m k j : Nat} (hk : ¬ k = 4) : qWho T m w k j = T k j := if_neg (fun q => hk q.1)
theorem qWho_0 {w : Nat → Nat} : qWho T 0 w = T := by
  funext k j
  exact if_neg (fun q => absurd q.2 (by omega))
theorem qWho_ok {w : Nat → Nat} {b : Nat} (hok : vTownOk n T) (hi : qIn n n w b) : vTownOk n (qWho T n w) := by
  refine vOk_of hok.1 (fun i hin => ?_) ?_ ?_
  · obtain ⟨a0, a1, b0, b1, c0, c1, e0, e1, w0, w1, w2⟩ := vOk_w hok hin
    obtain ⟨g1, g2, -⟩ := hi.2.1 i hin
    rw [qWho_4 hin, qWho_n (k := 0) (by omega), qWho_n (k := 1) (by omega), qWho_n (k := 2) (by omega), qWho_n (k := 3) (by omega)]
    omega
  · rw [qWho_n (by omega)]
    exact hok.2.2.1
  · rw [qWho_n (by omega)]
    exact hok.2.2.2
end QRD
section RRG
variable {d n : Nat} {e : List mShp} {I Ib : Nat → Nat → Int32} {E : Nat → Nat → Int64} {F : Nat → Nat → Nat} {P : mPost} {T : Nat → Nat → Int} {lw : vLw} {st nx gf rl dr h : Nat} {w : Nat → Nat} {s : qSt}
theorem r188_l (hF : mFx F st nx gf rl dr) (hn : n ≤ 8) (hm2 : I 80 2 = jI n) (hw : ∀ j, j < n → I 92 j = jI (w j)) (hlt : ∀ j, j < n → w j < n) : ∀ (k i x : Nat) (z y : Int), i + k = n → x < n → z = i → y = x → P (some (.int (jI (if qRg w k x = true then 1 else 0)))) (mLay e) (I, E, F) → mG d 188 4 [some (.ref 80), some (.int (jI y)), some (.int (jI z))] [] (mLay e) (I, E, F) P
  | 0, i, x, z, y, hi, hx, hz, hy, hP => by
    subst hz hy
    have e : i = n := by omega
    subst e
    have hl := hlt x hx
    rw [g188_4]
    by_cases q : w x = 0
    · rw [qRg, if_pos (by rw [q]; rfl)] at hP
      simp only [g188_5, g188_6, g188_9, g188_31, g188_32, g188_35, g188_36, g188_37, g188_40, g188_41, g188_44, g188_45, nl_none, nl_int, nl_ref, Option.toList_some, Option.toList_none, List.cons_append, List.nil_append, mSetI_u, mSetL_u, Nat.add_one_ne_zero, Nat.add_eq_zero_iff, and_false, false_and, not_false_eq_true, ne_eq, j0_0, j0_1, j1_0, j1_1, if_true, if_false, ite_true, ite_false, true_and, and_true, or_true, true_or, false_or, or_false, ↓reduceIte, Nat.reduceEqDiff, Nat.reduceAdd, Nat.reduceMul, Nat.reduceSub, Int.reduceLE, Int.reduceLT, Int.reduceNeg, Int.reduceAdd, Int.reduceSub, Int.reduceEq, reduceCtorEq, jI_lt, jI_eq, jI_lt0, jI_0lt, jI_eq0, jI_0le, jn_lo, iU_row, iU_nr, iU_eq, iU_same, jI_ixn, jI_add, jI_sub, jI_nat, sh_80, sh_92, f_80_23 hF, hm2, show ((i : Nat) : Int) ≤ 2147483647 by omega, show (i : Nat) ≤ 2147483647 by omega, show ((x : Nat) : Int) ≤ 2147483647 by omega, show (x : Nat) ≤ 2147483647 by omega, show ¬ ((i : Int) < (i : Int)) by omega, jI_in (z := ((x : Int) : Int)) (n := 8) (by omega) (by omega) (by omega), hw x hx, q, show ((0 : Nat) : Int) = 0 from rfl]
      exact hP
    · rw [qRg, if_neg (by rw [beq_iff_eq]; exact q)] at hP
      simp only [g188_5, g188_6, g188_9, g188_31, g188_32, g188_35, g188_36, g188_37, g188_40, g188_41, g188_44, g188_45, nl_none, nl_int, nl_ref, Option.toList_some, Option.toList_none, List.cons_append, List.nil_append, mSetI_u, mSetL_u, Nat.add_one_ne_zero, Nat.add_eq_zero_iff, and_false, false_and, not_false_eq_true, ne_eq, j0_0, j0_1, j1_0, j1_1, if_true, if_false, ite_true, ite_false, true_and, and_true, or_true, true_or, false_or, or_false, ↓reduceIte, Nat.reduceEqDiff, Nat.reduceAdd, Nat.reduceMul, Nat.reduceSub, Int.reduceLE, Int.reduceLT, Int.reduceNeg, Int.reduceAdd, Int.reduceSub, Int.reduceEq, reduceCtorEq, jI_lt, jI_eq, jI_lt0, jI_0lt, jI_eq0, jI_0le, jn_lo, iU_row, iU_nr, iU_eq, iU_same, jI_ixn, jI_add, jI_sub, jI_nat, sh_80, sh_92, f_80_23 hF, hm2, show ((i : Nat) : Int) ≤ 2147483647 by omega, show (i : Nat) ≤ 2147483647 by omega, show ((x : Nat) : Int) ≤ 2147483647 by omega, show (x : Nat) ≤ 2147483647 by omega, show ((w x : Nat) : Int) ≤ 2147483647 by omega, show (w x : Nat) ≤ 2147483647 by omega, show ¬ ((i : Int) < (i : Int)) by omega, show ¬ (((w x : Nat) : Int) = 0) by omega, jI_in (z := ((x : Int) : Int)) (n := 8) (by omega) (by omega) (by omega), hw x hx]
      exact hP
  | k + 1, i, x, z, y, hi, hx, hz, hy, hP => by
    subst hz hy
    have hl := hlt x hx
    rw [g188_4]
    by_cases q : w x = 0
    · rw [qRg, if_pos q, if_neg (by decide)] at hP
      simp only [g188_5, g188_6, g188_9, g188_12, g188_13, g188_16, g188_17, g188_18, g188_19, g188_20, g188_23, g188_24, nl_none, nl_int, nl_ref, Option.toList_some, Option.toList_none, List.cons_append, List.nil_append, mSetI_u, mSetL_u, Nat.add_one_ne_zero, Nat.add_eq_zero_iff, and_false, false_and, not_false_eq_true, ne_eq, j0_0, j0_1, j1_0, j1_1, if_true, if_false, ite_true, ite_false, true_and, and_true, or_true, true_or, false_or, or_false, ↓reduceIte, Nat.reduceEqDiff, Nat.reduceAdd, Nat.reduceMul, Nat.reduceSub, Int.reduceLE, Int.reduceLT, Int.reduceNeg, Int.reduceAdd, Int.reduceSub, Int.reduceEq, reduceCtorEq, jI_lt, jI_eq, jI_lt0, jI_0lt, jI_eq0, jI_0le, jn_lo, iU_row, iU_nr, iU_eq, iU_same, jI_ixn, jI_add, jI_sub, jI_nat, sh_80, sh_92, f_80_23 hF, hm2, show ((i : Nat) : Int) ≤ 2147483647 by omega, show (i : Nat) ≤ 2147483647 by omega, show ((n : Nat) : Int) ≤ 2147483647 by omega, show (n : Nat) ≤ 2147483647 by omega, show ((x : Nat) : Int) ≤ 2147483647 by omega, show (x : Nat) ≤ 2147483647 by omega, show (i : Int) < (n : Int) by omega, jI_in (z := ((x : Int) : Int)) (n := 8) (by omega) (by omega) (by omega), hw x hx, q, show ((0 : Nat) : Int) = 0 from rfl]
      exact hP
    · rw [qRg, if_neg q] at hP
      have ih := r188_l hF hn hm2 hw hlt k (i + 1) (w x) ((i : Int) + 1) (w x) (by omega) hl (by omega) rfl hP
      simp only [g188_5, g188_6, g188_9, g188_12, g188_13, g188_16, g188_17, g188_18, g188_19, g188_20, g188_23, g188_24, g188_25, g188_28, nl_none, nl_int, nl_ref, Option.toList_some, Option.toList_none, List.cons_append, List.nil_append, mSetI_u, mSetL_u, Nat.add_one_ne_zero, Nat.add_eq_zero_iff, and_false, false_and, not_false_eq_true, ne_eq, j0_0, j0_1, j1_0, j1_1, if_true, if_false, ite_true, ite_false, true_and, and_true, or_true, true_or, false_or, or_false, ↓reduceIte, Nat.reduceEqDiff, Nat.reduceAdd, Nat.reduceMul, Nat.reduceSub, Int.reduceLE, Int.reduceLT, Int.reduceNeg, Int.reduceAdd, Int.reduceSub, Int.reduceEq, reduceCtorEq, jI_lt, jI_eq, jI_lt0, jI_0lt, jI_eq0, jI_0le, jn_lo, iU_row, iU_nr, iU_eq, iU_same, jI_ixn, jI_add, jI_sub, jI_nat, sh_80, sh_92, f_80_23 hF, hm2, show ((i : Nat) : Int) ≤ 2147483647 by omega, show (i : Nat) ≤ 2147483647 by omega, show ((n : Nat) : Int) ≤ 2147483647 by omega, show (n : Nat) ≤ 2147483647 by omega, show ((x : Nat) : Int) ≤ 2147483647 by omega, show (x : Nat) ≤ 2147483647 by omega, show ((w x : Nat) : Int) ≤ 2147483647 by omega, show (w x : Nat) ≤ 2147483647 by omega, show (i : Int) < (n : Int) by omega, show ¬ (((w x : Nat) : Int) = 0) by omega, jI_in (z := ((x : Int) : Int)) (n := 8) (by omega) (by omega) (by omega), hw x hx]
      exact ih
theorem r188 (hF : mFx F st nx gf rl dr) (hn : n ≤ 8) (h0 : 0 < n) (hm2 : I 80 2 = jI n) (hw : ∀ j, j < n → I 92 j = jI (w j)) (hlt : ∀ j, j < n → w j < n) (hP : P (some (.int (jI (if qRg w (n - 1) 0 = true then 1 else 0)))) (mLay e) (I, E, F)) : mF d 188 [.ref 80] (mLay e) (I, E, F) P := by
  simp only [g188_in, g188_0, g188_1, g188_2, g188_3, nl_none, nl_int, nl_ref, Option.toList_some, Option.toList_none, List.cons_append, List.nil_append, mSetI_u, mSetL_u, Nat.add_one_ne_zero, Nat.add_eq_zero_iff, and_false, false_and, not_false_eq_true, ne_eq, j0_0, j0_1, j1_0, j1_1, if_true, if_false, ite_true, ite_false, true_and, and_true, or_true, true_or, false_or, or_false, ↓reduceIte, Nat.reduceEqDiff, Nat.reduceAdd, Nat.reduceMul, Nat.reduceSub, Int.reduceLE, Int.reduceLT, Int.reduceNeg, Int.reduceAdd, Int.reduceSub, Int.reduceEq, reduceCtorEq, jI_lt, jI_eq, jI_lt0, jI_0lt, jI_eq0, jI_0le, jn_lo, iU_row, iU_nr, iU_eq, iU_same, jI_ixn, jI_add, jI_sub, jI_nat]
  exact r188_l hF hn hm2 hw hlt (n - 1) 1 0 1 0 (by omega) h0 rfl rfl hP
theorem r189_l (hF : mFx F st nx gf rl dr) (hok : vTownOk n T) (hw : ∀ j, j < n → I 92 j = jI (w j)) (hm2 : I 80 2 = jI n) (hP : ∀ I', vAg (fun r _ => r = 81) I I' → vTownR n (qWho T n w) (I' 81) (I' 80 2) → mG (d + 1) 189 33 [some (.ref 80), some (.int (jI n)), none] [] (mLay e) (I', E, F) P) : ∀ (k i : Nat) (z : Int) I', i + k = n → z = i → vAg (fun r _ => r = 81) I I' → vTownR n (qWho T i w) (I' 81) (I' 80 2) → mG (d + 1) 189 7 [some (.ref 80), some (.int (jI z)), none] [] (mLay e) (I', E, F) P
  | 0, i, z, I', hi, hz, ha, hR => by
    have hn := hok.1
    subst hz
    have e : i = n := by omega
    subst e
    rw [g189_7]
    simp only [g189_8, g189_9, g189_12, nl_none, nl_int, nl_ref, Option.toList_some, Option.toList_none, List.cons_append, List.nil_append, mSetI_u, mSetL_u, Nat.add_one_ne_zero, Nat.add_eq_zero_iff, and_false, false_and, not_false_eq_true, ne_eq, j0_0, j0_1, j1_0, j1_1, if_true, if_false, ite_true, ite_false, true_and, and_true, or_true, true_or, false_or, or_false, ↓reduceIte, Nat.reduceEqDiff, Nat.reduceAdd, Nat.reduceMul, Nat.reduceSub, Int.reduceLE, Int.reduceLT, Int.reduceNeg, Int.reduceAdd, Int.reduceSub, Int.reduceEq, reduceCtorEq, jI_lt, jI_eq, jI_lt0, jI_0lt, jI_eq0, jI_0le, jn_lo, iU_row, iU_nr, iU_eq, iU_same, jI_ixn, jI_add, jI_sub, jI_nat, sh_80, hR.2.2.2, show ((i : Nat) : Int) ≤ 2147483647 by omega, show (i : Nat) ≤ 2147483647 by omega, show ¬ ((i : Int) < (i : Int)) by omega]
    exact hP I' ha hR
  | k + 1, i, z, I', hi, hz, ha, hR => by
    have hn := hok.1
    subst hz
    have hwi : I' 92 i = jI (w i) := (ha 92 i (by omega)).trans (hw i (by omega))
    have ih := r189_l hF hok hw hm2 hP k (i + 1) ((i : Int) + 1) (iU I' 81 (5 * i + 4) (jI (w i))) (by omega) (by omega) (vAg_iU ha rfl) (by
      obtain ⟨q1, q2, q3, q4⟩ := hR
      refine ⟨fun j hj k hk => ?_, ?_, ?_, ?_⟩
      · by_cases q : k = 4 ∧ j = i
        · rw [q.1, q.2, iU_eq, qWho_4 (by omega)]
        · rw [iU_same (by omega), q1 j hj k hk]
          congr 1
          unfold qWho
          by_cases qq : k = 4 ∧ j < i
          · rw [if_pos qq, if_pos ⟨qq.1, by omega⟩]
          · rw [if_neg qq, if_neg (by omega)]
      · rw [iU_same (by omega), q2, qWho_n (by omega), qWho_n (by omega)]
      · rw [iU_same (by omega), q3, qWho_n (by omega), qWho_n (by omega)]
      · rw [iU_row (by omega)]
        exact q4)
    rw [g189_7]
    simp only [g189_8, g189_9, g189_12, g189_15, g189_16, g189_17, g189_18, g189_19, g189_22, g189_23, g189_24, g189_27, g189_30, nl_none, nl_int, nl_ref, Option.toList_some, Option.toList_none, List.cons_append, List.nil_append, mSetI_u, mSetL_u, Nat.add_one_ne_zero, Nat.add_eq_zero_iff, and_false, false_and, not_false_eq_true, ne_eq, j0_0, j0_1, j1_0, j1_1, if_true, if_false, ite_true, ite_false, true_and, and_true, or_true, true_or, false_or, or_false, ↓reduceIte, Nat.reduceEqDiff, Nat.reduceAdd, Nat.reduceMul, Nat.reduceSub, Int.reduceLE, Int.reduceLT, Int.reduceNeg, Int.reduceAdd, Int.reduceSub, Int.reduceEq, reduceCtorEq, jI_lt, jI_eq, jI_lt0, jI_0lt, jI_eq0, jI_0le, jn_lo, iU_row, iU_nr, iU_eq, iU_same, jI_ixn, jI_add, jI_sub, jI_nat, sh_80, sh_92, f_80_23 hF, hR.2.2.2, show ((i : Nat) : Int) ≤ 2147483647 by omega, show (i : Nat) ≤ 2147483647 by omega, show ((n : Nat) : Int) ≤ 2147483647 by omega, show (n : Nat) ≤ 2147483647 by omega, show (i : Int) < (n : Int) by omega, show i ≤ 7 by omega, jI_in (z := ((i : Int) : Int)) (n := 8) (by omega) (by omega) (by omega), r153 hF, Int.reduceToNat, hwi]
    exact ih
theorem sc_EG {r j : Nat} (q : vScE r j) : vScG r j := by
  refine ⟨sc_E q, fun w => ?_⟩
  unfold vScE vScD at q
  omega
theorem sc_81G (j : Nat) : vScG 81 j := ⟨.inr rfl, by omega⟩
theorem sc_82G (j : Nat) : vScG 82 j := ⟨.inl (sc_82 j), by omega⟩
theorem qG_th {I2 : Nat → Nat → Int32} (h : vAg vScE (kU I 0 42) I2) : qG I (lU I2 0 42) := by
  refine ⟨vAg_lU (vAg_tr (vAg_kU vAg_rfl sc_82G) (vAg_mono h (fun _ _ q => sc_EG q))) sc_81G, fun j hj => ?_⟩
  exact lU_k h (fun r j q q' => absurd q' (fun w => sc_E82 q w)) j hj
theorem r189 (hF : mFx F st nx gf rl dr) {b : Nat} (hok : vTownOk n T) (hi : qIn n n w b) (hh : h ≤ 6) (hl : ∀ g q n k s t, 0 ≤ lw g q n k s t ∧ lw g q n k s t ≤ 20) (hR : vTownR n T (I 81) (I 80 2)) (hlw : vLawR lw (I 87) (I 80 11) (I 80 12) (I 90)) (hg : I 80 20 = jI (-1)) (hd : I 80 27 = jI h) (hw : ∀ j, j < n → I 92 j = jI (w j)) (hm : qMr n s I) (hP : ∀ I', qG I I' → (∀ j, j < n → I' 92 j = jI (w j)) → qMr n (qTk (qLn (pDays lw n (qWho T n w) h) n) (pSum (pDays lw n (qWho T n w) h) n) w s) I' → P none (mLay e) (I', E, F)) : mF (d + 74) 189 [.ref 80] (mLay e) (I, E, F) P := by
  have hn := hok.1
  have hok2 := qWho_ok hok hi
  have hok3 := pDays_ok (lw := lw) hok2 h
  have hln := qLn_in (pDays lw n (qWho T n w) h) n
  have hsm := pSum_in hok3 n (Nat.le_refl n)
  simp only [g189_in, g189_0, g189_1, g189_2, g189_5, g189_6, nl_none, nl_int, nl_ref, Option.toList_some, Option.toList_none, List.cons_append, List.nil_append, mSetI_u, mSetL_u, Nat.add_one_ne_zero, Nat.add_eq_zero_iff, and_false, false_and, not_false_eq_true, ne_eq, j0_0, j0_1, j1_0, j1_1, if_true, if_false, ite_true, ite_false, true_and, and_true, or_true, true_or, false_or, or_false, ↓reduceIte, Nat.reduceEqDiff, Nat.reduceAdd, Nat.reduceMul, Nat.reduceSub, Int.reduceLE, Int.reduceLT, Int.reduceNeg, Int.reduceAdd, Int.reduceSub, Int.reduceEq, reduceCtorEq, jI_lt, jI_eq, jI_lt0, jI_0lt, jI_eq0, jI_0le, jn_lo, iU_row, iU_nr, iU_eq, iU_same, jI_ixn, jI_add, jI_sub, jI_nat, sh_80, r149_0 hF]
  have k92 : ∀ j, j < n → kU I 0 42 92 j = jI (w j) := fun j hj => by
    rw [kU_row (by omega)]
    exact hw j hj
  refine r189_l (I := kU I 0 42) hF hok k92 (by rw [kU_row (by omega)]; exact hR.2.2.2) (fun I1 h1 hR1 => ?_) n 0 0 _ (by omega) rfl vAg_rfl (by rw [qWho_0]; exact kR hR)
  have d1 : I1 80 27 = jI h := by
    rw [h1 80 27 (by omega), kU_row (by omega)]
    exact hd
  have hl1 : vLawR lw (I1 87) (I1 80 11) (I1 80 12) (I1 90) := vLr_ag h1 (fun r j q => by omega) (kL hlw)
  simp only [g189_33, g189_34, g189_35, g189_38, nl_none, nl_int, nl_ref, Option.toList_some, Option.toList_none, List.cons_append, List.nil_append, mSetI_u, mSetL_u, Nat.add_one_ne_zero, Nat.add_eq_zero_iff, and_false, false_and, not_false_eq_true, ne_eq, j0_0, j0_1, j1_0, j1_1, if_true, if_false, ite_true, ite_false, true_and, and_true, or_true, true_or, false_or, or_false, ↓reduceIte, Nat.reduceEqDiff, Nat.reduceAdd, Nat.reduceMul, Nat.reduceSub, Int.reduceLE, Int.reduceLT, Int.reduceNeg, Int.reduceAdd, Int.reduceSub, Int.reduceEq, reduceCtorEq, jI_lt, jI_eq, jI_lt0, jI_0lt, jI_eq0, jI_0le, jn_lo, iU_row, iU_nr, iU_eq, iU_same, jI_ixn, jI_add, jI_sub, jI_nat, sh_80, d1]
  refine r180 hF hok2 hl hR1 hl1 (show h ≤ 100 by omega) (fun I2 h2 hR2 => ?_)
  have g2 : I2 80 20 = jI (-1) := by
    rw [h2 80 20 (fun q => sc_Eg q), h1 80 20 (by omega), kU_row (by omega)]
    exact hg
  have hth : qG I (lU I2 0 42) := qG_th (vAg_tr (vAg_mono h1 (fun r j q => .inl q)) h2)
  have hw3 : ∀ j, j < n → lU I2 0 42 92 j = jI (w j) := fun j hj => by
    rw [lU_row (by omega), h2 92 j (by unfold vScE vScD; omega), h1 92 j (by omega)]
    exact k92 j hj
  have hm3 : qMr n s (lU I2 0 42) := by
    obtain ⟨m1, m2, m3, m4, m5⟩ := hm
    have e80 : ∀ j, j = 25 ∨ j = 26 → lU I2 0 42 80 j = I 80 j := fun j hj => by
      rw [lU_row (by omega), h2 80 j (by unfold vScE vScD; omega), h1 80 j (by omega), kU_row (by omega)]
    refine ⟨(e80 25 (.inl rfl)).trans m1, (e80 26 (.inr rfl)).trans m2, m3, m4, fun q j hj => ?_⟩
    rw [lU_row (by omega), h2 93 j (by unfold vScE vScD; omega), h1 93 j (by omega), kU_row (by omega)]
    exact m5 q j hj
  have hm2 : lU I2 0 42 80 2 = jI n := by
    rw [lU_row (by omega)]
    exact hR2.2.2.2
  simp only [g189_41, g189_42, g189_45, g189_48, g189_49, g189_50, g189_53, g189_54, g189_55, g189_56, g189_59, g189_60, g189_61, g189_62, nl_none, nl_int, nl_ref, Option.toList_some, Option.toList_none, List.cons_append, List.nil_append, mSetI_u, mSetL_u, Nat.add_one_ne_zero, Nat.add_eq_zero_iff, and_false, false_and, not_false_eq_true, ne_eq, j0_0, j0_1, j1_0, j1_1, if_true, if_false, ite_true, ite_false, true_and, and_true, or_true, true_or, false_or, or_false, ↓reduceIte, Nat.reduceEqDiff, Nat.reduceAdd, Nat.reduceMul, Nat.reduceSub, Int.reduceLE, Int.reduceLT, Int.reduceNeg, Int.reduceAdd, Int.reduceSub, Int.reduceEq, reduceCtorEq, jI_lt, jI_eq, jI_lt0, jI_0lt, jI_eq0, jI_0le, jn_lo, iU_row, iU_nr, iU_eq, iU_same, jI_ixn, jI_add, jI_sub, jI_nat, sh_80, r181 hF hok3 (show (-1 : Int) ≤ -1 by omega) (show (-1 : Int) ≤ 8 by omega) hR2 g2, r230, pBits_ln hn, r182 hF hok3 hR2, r150_0 hF]
  refine r190 hF hn hm2 ⟨hln.1, by omega⟩ ⟨hsm.1, by omega⟩ hw3 hm3 (fun I4 h4 hm4 => ?_)
  have hp := hP I4 (qG_tr hth (qG_of h4 (fun r j q => sc_K q))) (fun j hj => (h4 92 j (by unfold vScK; omega)).trans (hw3 j hj)) hm4
  simp only [g189_65, nl_none, nl_int, nl_ref, Option.toList_some, Option.toList_none, List.cons_append, List.nil_append, mSetI_u, mSetL_u, Nat.add_one_ne_zero, Nat.add_eq_zero_iff, and_false, false_and, not_false_eq_true, ne_eq, j0_0, j0_1, j1_0, j1_1, if_true, if_false, ite_true, ite_false, true_and, and_true, or_true, true_or, false_or, or_false, ↓reduceIte, Nat.reduceEqDiff, Nat.reduceAdd, Nat.reduceMul, Nat.reduceSub, Int.reduceLE, Int.reduceLT, Int.reduceNeg, Int.reduceAdd, Int.reduceSub, Int.reduceEq, reduceCtorEq, jI_lt, jI_eq, jI_lt0, jI_0lt, jI_eq0, jI_0le, jn_lo, iU_row, iU_nr, iU_eq, iU_same, jI_ixn, jI_add, jI_sub, jI_nat]
  exact hp
/-- round's leaf -/
theorem r191_r (hF : mFx F st nx gf rl dr) (hok : vTownOk n T) (h0 : 0 < n) (hh : h ≤ 6) (hl : ∀ g q n k s t, 0 ≤ lw g q n k s t ∧ lw g q n k s t ≤ 20) (hR : vTownR n T (Ib 81) (Ib 80 2)) (hlw : vLawR lw (Ib 87) (Ib 80 11) (Ib 80 12) (Ib 90)) (hg : Ib 80 20 = jI (-1)) (hd : Ib 80 27 = jI h) : r191L n e E F 1 (fun w _ st => qLf lw n T h w st) 75 Ib := by
  intro d b w oth s I P zb hi h00 h1 ha hw hm hP
  have hn := hok.1
  have hR' := qG_R hn ha hR
  have hl1 : vLawR lw (I 87) (I 80 11) (I 80 12) (I 90) := vLr_ag ha.1 (fun r j q => by unfold vScG vScr at q; omega) hlw
  have g1 : I 80 20 = jI (-1) := (ha.1 80 20 (by unfold vScG vScr; omega)).trans hg
  have d1 : I 80 27 = jI h := (ha.1 80 27 (by unfold vScG vScr; omega)).trans hd
  simp only [g191_8, g191_9, g191_12, g191_13, g191_15, g191_16, g191_19, g191_22, g191_23, nl_none, nl_int, nl_ref, Option.toList_some, Option.toList_none, List.cons_append, List.nil_append, mSetI_u, mSetL_u, Nat.add_one_ne_zero, Nat.add_eq_zero_iff, and_false, false_and, not_false_eq_true, ne_eq, j0_0, j0_1, j1_0, j1_1, if_true, if_false, ite_true, ite_false, true_and, and_true, or_true, true_or, false_or, or_false, ↓reduceIte, Nat.reduceEqDiff, Nat.reduceAdd, Nat.reduceMul, Nat.reduceSub, Int.reduceLE, Int.reduceLT, Int.reduceNeg, Int.reduceAdd, Int.reduceSub, Int.reduceEq, reduceCtorEq, jI_lt, jI_eq, jI_lt0, jI_0lt, jI_eq0, jI_0le, jn_lo, iU_row, iU_nr, iU_eq, iU_same, jI_ixn, jI_add, jI_sub, jI_nat, sh_80]
  refine r188 hF hn h0 hR'.2.2.2 hw (fun j hj => (hi.2.1 j hj).1) ?_
  by_cases q : qRg w (n - 1) 0 = true
  · have e1 : qLf lw n T h w s = qTk (qLn (pDays lw n (qWho T n w) h) n) (pSum (pDays lw n (qWho T n w) h) n) w s := if_pos q
    rw [if_pos q]
    simp only [g191_26, g191_29, g191_30, nl_none, nl_int, nl_ref, Option.toList_some, Option.toList_none, List.cons_append, List.nil_append, mSetI_u, mSetL_u, Nat.add_one_ne_zero, Nat.add_eq_zero_iff, and_false, false_and, not_false_eq_true, ne_eq, j0_0, j0_1, j1_0, j1_1, if_true, if_false, ite_true, ite_false, true_and, and_true, or_true, true_or, false_or, or_false, ↓reduceIte, Nat.reduceEqDiff, Nat.reduceAdd, Nat.reduceMul, Nat.reduceSub, Int.reduceLE, Int.reduceLT, Int.reduceNeg, Int.reduceAdd, Int.reduceSub, Int.reduceEq, reduceCtorEq, jI_lt, jI_eq, jI_lt0, jI_0lt, jI_eq0, jI_0le, jn_lo, iU_row, iU_nr, iU_eq, iU_same, jI_ixn, jI_add, jI_sub, jI_nat, sh_80]
    refine r189 hF hok hi hh hl hR' hl1 g1 d1 hw hm (fun I2 h2 hw2 hm2 => ?_)
    have hp := hP I2 (qG_tr ha h2) hw2 (by show qMr n (qLf lw n T h w s) I2; rw [e1]; exact hm2)
    simp only [g191_33, nl_none, nl_int, nl_ref, Option.toList_some, Option.toList_none, List.cons_append, List.nil_append, mSetI_u, mSetL_u, Nat.add_one_ne_zero, Nat.add_eq_zero_iff, and_false, false_and, not_false_eq_true, ne_eq, j0_0, j0_1, j1_0, j1_1, if_true, if_false, ite_true, ite_false, true_and, and_true, or_true, true_or, false_or, or_false, ↓reduceIte, Nat.reduceEqDiff, Nat.reduceAdd, Nat.reduceMul, Nat.reduceSub, Int.reduceLE, Int.reduceLT, Int.reduceNeg, Int.reduceAdd, Int.reduceSub, Int.reduceEq, reduceCtorEq, jI_lt, jI_eq, jI_lt0, jI_0lt, jI_eq0, jI_0le, jn_lo, iU_row, iU_nr, iU_eq, iU_same, jI_ixn, jI_add, jI_sub, jI_nat]
    exact hp
  · have e1 : qLf lw n T h w s = s := if_neg q
    rw [if_neg q]
    have hp := hP I ha hw (by show qMr n (qLf lw n T h w s) I; rw [e1]; exact hm)
    simp only [g191_26, g191_29, g191_30, g191_33, nl_none, nl_int, nl_ref, Option.toList_some, Option.toList_none, List.cons_append, List.nil_append, mSetI_u, mSetL_u, Nat.add_one_ne_zero, Nat.add_eq_zero_iff, and_false, false_and, not_false_eq_true, ne_eq, j0_0, j0_1, j1_0, j1_1, if_true, if_false, ite_true, ite_false, true_and, and_true, or_true, true_or, false_or, or_false, ↓reduceIte, Nat.reduceEqDiff, Nat.reduceAdd, Nat.reduceMul, Nat.reduceSub, Int.reduceLE, Int.reduceLT, Int.reduceNeg, Int.reduceAdd, Int.reduceSub, Int.reduceEq, reduceCtorEq, jI_lt, jI_eq, jI_lt0, jI_0lt, jI_eq0, jI_0le, jn_lo, iU_row, iU_nr, iU_eq, iU_same, jI_ixn, jI_add, jI_sub, jI_nat, sh_80]
    exact hp
end RRG
