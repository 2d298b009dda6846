/-! ===== round: days in a ring, as numbers ===== -/
theorem pDays_n {lw : vLw} {n : Nat} {T : Nat → Nat → Int} {k j : Nat} (h3 : ¬ k = 3) (h6 : ¬ k = 6) : ∀ m, pDays lw n T m k j = T k j
  | 0 => rfl
  | m + 1 => by
    rw [pDays]
    unfold pDay
    rw [if_neg h3, if_neg h6]
    exact pDays_n h3 h6 m
theorem pDays_6 {lw : vLw} {n : Nat} {T : Nat → Nat → Int} (h : T 6 0 ≤ 99) : ∀ m : Nat, pDays lw n T m 6 0 = if 99 < T 6 0 + (m : Int) then 99 else T 6 0 + (m : Int)
  | 0 => by
    rw [if_neg (by omega)]
    show T 6 0 = T 6 0 + ((0 : Nat) : Int)
    omega
  | m + 1 => by
    have ih := pDays_6 (lw := lw) (n := n) h m
    rw [pDays]
    unfold pDay
    rw [if_neg (by omega), if_pos rfl, ih]
    split <;> split <;> split <;> omega
section QDY
variable {lw : vLw} {n : Nat} {S : Nat → Nat → Int} {w : Nat → Nat}
theorem pCar_w (hp : qPm n w) (hS : ∀ j, j < n → S 4 j = w j) {i : Nat} (hi : i < n) : ∀ m, m ≤ n → pCar S (w i) m = if i < m then 1 else 0
  | 0, hm => by
    rw [if_neg (by omega)]
    rfl
  | m + 1, hm => by
    rw [pCar, pCar_w hp hS hi m (by omega), hS m (by omega)]
    by_cases q : m = i
    · rw [q, if_neg (by omega), if_pos rfl, if_pos (by omega)]
    · have hne : ¬ w m = w i := fun e => q (hp.2 m i (by omega) hi e)
      rw [if_neg (show ¬ ((w m : Nat) : Int) = ((w i : Nat) : Int) by omega)]
      by_cases q2 : i < m
      · rw [if_pos q2, if_pos (by omega)]
      · rw [if_neg q2, if_neg (by omega)]
theorem pIn_w (hp : qPm n w) (hS : ∀ j, j < n → S 4 j = w j) {i : Nat} (hi : i < n) : ∀ m, m ≤ n → pIn lw n S (w i) m = if i < m then pCome lw n S i else 0
  | 0, hm => by
    rw [if_neg (by omega)]
    rfl
  | m + 1, hm => by
    rw [pIn, pIn_w hp hS hi m (by omega), hS m (by omega)]
    by_cases q : m = i
    · rw [q, if_neg (by omega), if_pos rfl, if_pos (by omega), Int.zero_add]
    · have hne : ¬ w m = w i := fun e => q (hp.2 m i (by omega) hi e)
      rw [if_neg (show ¬ ((w m : Nat) : Int) = ((w i : Nat) : Int) by omega), Int.add_zero]
      by_cases q2 : i < m
      · rw [if_pos q2, if_pos (by omega)]
      · rw [if_neg q2, if_neg (by omega)]
theorem qDay_w {T : Nat → Nat → Int} {b : Nat} (hok : vTownOk n T) (hi : qIn n n w b) {p i : Nat} (hin : i < n) {x : Nat} (hx : pDays lw n (qWho T n w) p 3 i = x) : pDays lw n (qWho T n w) (p + 1) 3 (w i) = pHold (pDays lw n (qWho T n w) p 3 (w i) + (if x = 0 then 0 else gV lw T (gSl p i (w i) x)) - T 2 (w i)) 99 := by
  have hp := qIn_pm hi
  have hn := hok.1
  have hwi := hp.1 i hin
  have hok3 := pDays_ok (lw := lw) (qWho_ok hok hi) p
  obtain ⟨-, -, -, -, -, -, e0, e1, -⟩ := vOk_w hok3 hin
  have hday := hok.2.2.2
  have h4 : ∀ j, j < n → pDays lw n (qWho T n w) p 4 j = w j := fun j hj => by
    rw [pDays_n (by omega) (by omega), qWho_4 hj]
  have hk : ∀ k j, k = 0 ∨ k = 1 ∨ k = 2 → pDays lw n (qWho T n w) p k j = T k j := fun k j hk => by
    rw [pDays_n (by omega) (by omega), qWho_n (by omega)]
  have h6 : pDays lw n (qWho T n w) p 6 0 = if 99 < T 6 0 + (p : Int) then 99 else T 6 0 + (p : Int) := by
    rw [pDays_6 (by rw [qWho_n (by omega)]; omega), qWho_n (by omega)]
  show pNew lw n (pDays lw n (qWho T n w) p) (w i) = _
  unfold pNew pLost
  rw [pIn_w hp h4 hin n (Nat.le_refl n), if_pos hin, pCar_w hp h4 hin n (Nat.le_refl n), if_pos hin, if_neg (by omega), hk 2 _ (by omega), Int.add_zero]
  unfold pCome
  rw [h4 i hin, hx, Int.toNat_natCast, hk 1 i (by omega), hk 0 i (by omega), hk 0 (w i) (by omega), hk 2 (w i) (by omega), pCar_w hp h4 hin n (Nat.le_refl n), if_pos hin, h6]
  by_cases q : x = 0
  · rw [if_pos (.inr (by omega)), if_pos q]
  · rw [if_neg (by omega), if_neg q, gV_sl (by omega) (by omega) (by omega)]
    rfl
end QDY
def qSx (st nx : Nat) : Prop := (st = 25 ∧ nx = 26) ∨ (st = 26 ∧ nx = 25)
section WGD
variable {d n : Nat} {I : Nat → Nat → Int32} {E : Nat → Nat → Int64} {F : Nat → Nat → Nat} {P : mPost} {T : Nat → Nat → Int} {lw : vLw} {st nx rl dr h sn : Nat} {w : Nat → Nat} {s : qSt}
theorem c33_i (hF : mFx F st nx 105 rl dr) (hrl : rl = 70 ∨ rl = 75) (hsx : qSx st nx) {b : Nat} (hok : vTownOk n T) (hi : qIn n n w b) (hl : ∀ g q n k s t, 0 ≤ lw g q n k s t ∧ lw g q n k s t ≤ 20) (hc : cOk lw n T rl sn h I) (hsn : sn ≤ 512) {p : Nat} (hp : p < 6) (hw : ∀ j, j < n → I 24 j = jI (w j)) (hS : ∀ j, j < n → I st j = jI (pDays lw n (qWho T n w) p 3 j)) (hP : ∀ I' a5 a6, vAg (fun r _ => r = nx ∨ r = 105 ∨ r = rl + 3 ∨ r = rl + 4) I I' → qGf sn (gV lw T) (I' 105) → (∀ j, j < n → I' nx j = jI (pDays lw n (qWho T n w) (p + 1) 3 j)) → mG (d + 5) 33 109 [some (.ref 22), some (.ref 4), some (.ref rl), some (.int (jI p)), some (.int (jI n)), a5, a6] [] (mLay eG) (I', E, F) P) : ∀ (k i : Nat) (z : Int) I' a5 a6, i + k = n → z = i → vAg (fun r _ => r = nx ∨ r = 105 ∨ r = rl + 3 ∨ r = rl + 4) I I' → qGf sn (gV lw T) (I' 105) → (∀ j, j < i → I' nx (w j) = jI (pDays lw n (qWho T n w) (p + 1) 3 (w j))) → mG (d + 5) 33 28 [some (.ref 22), some (.ref 4), some (.ref rl), some (.int (jI p)), some (.int (jI z)), a5, a6] [] (mLay eG) (I', E, F) P
  | 0, i, z, I', a5, a6, hik, hz, ha, hg, hq => by
    have hn := hok.1
    subst hz
    have e : i = n := by omega
    subst e
    have hc4 : vTc i T 4 I' := vTc_ag ha (fun r j q => by unfold qSx at hsx; omega) hc.1
    rw [g33_28]
    simp only [g33_30, g33_31, g33_34, nl_none, nl_int, nl_ref, Option.toList_some, Option.toList_none, List.cons_append, List.nil_append, mSetI_u, mSetL_u, Nat.add_one_ne_zero, Nat.add_eq_zero_iff, and_false, false_and, not_false_eq_true, ne_eq, j0_0, j0_1, j1_0, j1_1, if_true, if_false, ite_true, ite_false, true_and, and_true, or_true, true_or, false_or, or_false, ↓reduceIte, Nat.reduceEqDiff, Nat.reduceAdd, Nat.reduceMul, Nat.reduceSub, Int.reduceLE, Int.reduceLT, Int.reduceNeg, Int.reduceAdd, Int.reduceSub, Int.reduceEq, reduceCtorEq, jI_lt, jI_eq, jI_lt0, jI_0lt, jI_eq0, jI_0le, jn_lo, iU_row, iU_nr, iU_eq, iU_same, jI_ixn, jI_add, jI_sub, jI_nat, sh_4, hc4.2.1, show ((i : Nat) : Int) ≤ 2147483647 by omega, show (i : Nat) ≤ 2147483647 by omega, show ¬ ((i : Int) < (i : Int)) by omega]
    refine hP I' a5 a6 ha hg (fun j hj => ?_)
    obtain ⟨i', h1, rfl⟩ := qPm_on (qIn_pm hi) hj
    exact hq i' h1
  | k + 1, i, z, I', a5, a6, hik, hz, ha, hg, hq => by
    have hn := hok.1
    have hsx' := hsx
    unfold qSx at hsx
    have hst : st = 25 ∨ st = 26 := by omega
    have hst0 : ¬ st = 0 := by omega
    have hnx : nx = 25 ∨ nx = 26 := by omega
    have hnx0 : ¬ nx = 0 := by omega
    have hrl0 : ¬ rl = 0 := by omega
    have hin : i < n := by omega
    subst hz
    have hc' : cOk lw n T rl sn h I' := cOk_ag hrl (vAg_mono ha (fun r j q => by unfold vScQ; omega)) hg hc
    have hwi := (qIn_pm hi).1 i hin
    have w24 : I' 24 i = jI (w i) := (ha 24 i (by omega)).trans (hw i hin)
    have hok3 := pDays_ok (lw := lw) (qWho_ok hok hi) p
    obtain ⟨-, -, -, -, -, -, e0, e1, -⟩ := vOk_w hok3 hin
    obtain ⟨-, -, -, -, -, -, f0, f1, -⟩ := vOk_w hok3 hwi
    obtain ⟨-, -, -, -, t0, t1, -⟩ := vOk_w hok hwi
    obtain ⟨x, hx⟩ : ∃ x : Nat, pDays lw n (qWho T n w) p 3 i = x := ⟨(pDays lw n (qWho T n w) p 3 i).toNat, by omega⟩
    have hdw := qDay_w (lw := lw) hok hi (p := p) hin hx
    have s1 : I' st i = jI x := by
      rw [ha st i (by omega), hS i hin, hx]
    have s2 : ∀ I2, vAg (fun r _ => r = 105 ∨ r = rl + 3 ∨ r = rl + 4) I' I2 → I2 st (w i) = jI (pDays lw n (qWho T n w) p 3 (w i)) := fun I2 h2 => by
      rw [h2 st (w i) (by omega), ha st (w i) (by omega)]
      exact hS (w i) hwi
    have n2 : ∀ I2, vAg (fun r _ => r = 105 ∨ r = rl + 3 ∨ r = rl + 4) I' I2 → I2 7 (w i) = jI (T 2 (w i)) := fun I2 h2 => by
      rw [h2 7 (w i) (by omega)]
      exact (hc'.1.1 (w i) hwi).2.2.1
    have next : ∀ (I2 : Nat → Nat → Int32) (v : Int32) (b5 b6 : Option Value), vAg (fun r _ => r = 105 ∨ r = rl + 3 ∨ r = rl + 4) I' I2 → qGf sn (gV lw T) (I2 105) → v = jI (pDays lw n (qWho T n w) (p + 1) 3 (w i)) → mG (d + 5) 33 28 [some (.ref 22), some (.ref 4), some (.ref rl), some (.int (jI p)), some (.int (jI ((i : Int) + 1))), b5, b6] [] (mLay eG) (iU I2 nx (w i) v, E, F) P := by
      intro I2 v b5 b6 h2 hg2 hv
      refine c33_i hF hrl hsx' hok hi hl hc hsn hp hw hS hP k (i + 1) ((i : Int) + 1) _ b5 b6 (by omega) (by omega) (vAg_iU (vAg_tr ha (vAg_mono h2 (fun r j q => .inr q))) (.inl rfl)) (by rw [iU_row (by omega)]; exact hg2) (fun j hj => ?_)
      by_cases ej : w j = w i
      · rw [ej, iU_eq]
        exact hv
      · have hji : j < i := by
          rcases (by omega : j = i ∨ j < i) with q | q
          · exact absurd (by rw [q]) ej
          · exact q
        rw [iU_same ej, h2 nx (w j) (by omega)]
        exact hq j hji
    have hcm := hc'.1.2.1
    rw [g33_28]
    by_cases qx : x = 0
    · rw [if_pos qx, Int.add_zero] at hdw
      have hp' := next I' (jI (pHold (pDays lw n (qWho T n w) p 3 (w i) - T 2 (w i)) 99)) (some (.int (jI (w i)))) (some (.int (jI 0))) vAg_rfl hg (by rw [hdw])
      simp only [g33_30, g33_31, g33_34, g33_37, g33_38, g33_41, g33_43, g33_44, g33_46, g33_47, g33_50, g33_52, g33_53, g33_56, g33_57, g33_71, g33_73, g33_74, g33_77, g33_79, g33_80, g33_83, g33_85, g33_86, g33_88, g33_89, g33_90, g33_93, g33_95, g33_96, g33_97, g33_99, g33_102, g33_103, g33_106, nl_none, nl_int, nl_ref, Option.toList_some, Option.toList_none, List.cons_append, List.nil_append, mSetI_u, mSetL_u, Nat.add_one_ne_zero, Nat.add_eq_zero_iff, and_false, false_and, not_false_eq_true, ne_eq, j0_0, j0_1, j1_0, j1_1, if_true, if_false, ite_true, ite_false, true_and, and_true, or_true, true_or, false_or, or_false, ↓reduceIte, Nat.reduceEqDiff, Nat.reduceAdd, Nat.reduceMul, Nat.reduceSub, Int.reduceLE, Int.reduceLT, Int.reduceNeg, Int.reduceAdd, Int.reduceSub, Int.reduceEq, reduceCtorEq, jI_lt, jI_eq, jI_lt0, jI_0lt, jI_eq0, jI_0le, jn_lo, iU_row, iU_nr, iU_eq, iU_same, jI_ixn, jI_add, jI_sub, jI_nat, sh_4, sh_7, sh_22, sh_24, sh_sn hst, sh_sn hnx, f_4_3 hF, f_22_4 hF, f_22_5 hF, f_22_6 hF, hst0, hnx0, hcm, show ((i : Nat) : Int) ≤ 2147483647 by omega, show (i : Nat) ≤ 2147483647 by omega, show ((n : Nat) : Int) ≤ 2147483647 by omega, show (n : Nat) ≤ 2147483647 by omega, show ((w i : Nat) : Int) ≤ 2147483647 by omega, show (w i : Nat) ≤ 2147483647 by omega, show (i : Int) < (n : Int) by omega, jI_in (z := ((i : Int) : Int)) (n := 8) (by omega) (by omega) (by omega), jI_in (z := ((w i : Int) : Int)) (n := 8) (by omega) (by omega) (by omega), w24, s1, s2 I' vAg_rfl, n2 I' vAg_rfl, qx, show ((0 : Nat) : Int) = 0 from rfl, Int.add_zero, c133 (v := pDays lw n (qWho T n w) p 3 (w i) - T 2 (w i)) (m := 99) (by omega) (by omega) (by omega) (by omega)]
      exact hp'
    · rw [if_neg qx] at hdw
      simp only [g33_30, g33_31, g33_34, g33_37, g33_38, g33_41, g33_43, g33_44, g33_46, g33_47, g33_50, g33_52, g33_53, g33_56, g33_57, g33_60, g33_61, g33_62, g33_63, g33_64, g33_66, g33_68, nl_none, nl_int, nl_ref, Option.toList_some, Option.toList_none, List.cons_append, List.nil_append, mSetI_u, mSetL_u, Nat.add_one_ne_zero, Nat.add_eq_zero_iff, and_false, false_and, not_false_eq_true, ne_eq, j0_0, j0_1, j1_0, j1_1, if_true, if_false, ite_true, ite_false, true_and, and_true, or_true, true_or, false_or, or_false, ↓reduceIte, Nat.reduceEqDiff, Nat.reduceAdd, Nat.reduceMul, Nat.reduceSub, Int.reduceLE, Int.reduceLT, Int.reduceNeg, Int.reduceAdd, Int.reduceSub, Int.reduceEq, reduceCtorEq, jI_lt, jI_eq, jI_lt0, jI_0lt, jI_eq0, jI_0le, jn_lo, iU_row, iU_nr, iU_eq, iU_same, jI_ixn, jI_add, jI_sub, jI_nat, sh_4, sh_22, sh_24, sh_sn hst, f_22_4 hF, f_22_5 hF, hst0, hrl0, hcm, show ((i : Nat) : Int) ≤ 2147483647 by omega, show (i : Nat) ≤ 2147483647 by omega, show ((n : Nat) : Int) ≤ 2147483647 by omega, show (n : Nat) ≤ 2147483647 by omega, show ((w i : Nat) : Int) ≤ 2147483647 by omega, show (w i : Nat) ≤ 2147483647 by omega, show ((x : Nat) : Int) ≤ 2147483647 by omega, show (x : Nat) ≤ 2147483647 by omega, show (i : Int) < (n : Int) by omega, show ¬ ((x : Int) = 0) by omega, jI_in (z := ((i : Int) : Int)) (n := 8) (by omega) (by omega) (by omega), w24, s1]
      refine c35 hF hrl hst hok hc' hsn hp hin hwi (show x ≤ 99 by omega) (show 0 < x by omega) s1 (fun I2 h2 hg2 => ?_)
      have hgb : 0 ≤ gV lw T (gSl p i (w i) x) ∧ gV lw T (gSl p i (w i) x) ≤ 20 := hl _ _ _ _ _ _
      have hp' := next I2 (jI (pHold (pDays lw n (qWho T n w) p 3 (w i) + gV lw T (gSl p i (w i) x) - T 2 (w i)) 99)) (some (.int (jI (w i)))) (some (.int (jI (gV lw T (gSl p i (w i) x))))) h2 hg2 (by rw [hdw])
      simp only [g33_71, g33_73, g33_74, g33_77, g33_79, g33_80, g33_83, g33_85, g33_86, g33_88, g33_89, g33_90, g33_93, g33_95, g33_96, g33_97, g33_99, g33_102, g33_103, g33_106, nl_none, nl_int, nl_ref, Option.toList_some, Option.toList_none, List.cons_append, List.nil_append, mSetI_u, mSetL_u, Nat.add_one_ne_zero, Nat.add_eq_zero_iff, and_false, false_and, not_false_eq_true, ne_eq, j0_0, j0_1, j1_0, j1_1, if_true, if_false, ite_true, ite_false, true_and, and_true, or_true, true_or, false_or, or_false, ↓reduceIte, Nat.reduceEqDiff, Nat.reduceAdd, Nat.reduceMul, Nat.reduceSub, Int.reduceLE, Int.reduceLT, Int.reduceNeg, Int.reduceAdd, Int.reduceSub, Int.reduceEq, reduceCtorEq, jI_lt, jI_eq, jI_lt0, jI_0lt, jI_eq0, jI_0le, jn_lo, iU_row, iU_nr, iU_eq, iU_same, jI_ixn, jI_add, jI_sub, jI_nat, sh_4, sh_7, sh_22, sh_sn hst, sh_sn hnx, f_4_3 hF, f_22_5 hF, f_22_6 hF, hst0, hnx0, show ((w i : Nat) : Int) ≤ 2147483647 by omega, show (w i : Nat) ≤ 2147483647 by omega, show ((i : Nat) : Int) ≤ 2147483647 by omega, show (i : Nat) ≤ 2147483647 by omega, jI_in (z := ((w i : Int) : Int)) (n := 8) (by omega) (by omega) (by omega), s2 I2 h2, n2 I2 h2, c133 (v := pDays lw n (qWho T n w) p 3 (w i) + gV lw T (gSl p i (w i) x) - T 2 (w i)) (m := 99) (by omega) (by omega) (by omega) (by omega)]
      exact hp'
theorem c33_p (hrl : rl = 70 ∨ rl = 75) {b : Nat} (hok : vTownOk n T) (hi : qIn n n w b) (hl : ∀ g q n k s t, 0 ≤ lw g q n k s t ∧ lw g q n k s t ≤ 20) (hsn : sn ≤ 512) (hh : h ≤ 6) (hP : ∀ I' F' st' nx', mFx F' st' nx' 105 rl dr → qSx st' nx' → vAg (vScQ rl) I I' → cOk lw n T rl sn h I' → (∀ j, j < n → I' 24 j = jI (w j)) → qMc n (qLc lw n T h w s) I' → P none (mLay eG) (I', E, F')) : ∀ (k p : Nat) (z : Int) I' F st nx a4 a5 a6, p + k = h → z = p → mFx F st nx 105 rl dr → qSx st nx → vAg (fun r j => vScQ rl r j ∧ ¬ r = 24) I I' → cOk lw n T rl sn h I' → (∀ j, j < n → I' 24 j = jI (w j)) → (∀ j, j < n → I' st j = jI (pDays lw n (qWho T n w) p 3 j)) → qMc n s I' → mG (d + 5) 33 17 [some (.ref 22), some (.ref 4), some (.ref rl), some (.int (jI z)), a4, a5, a6] [] (mLay eG) (I', E, F) P
  | 0, p, z, I', F, st, nx, a4, a5, a6, hpk, hz, hF, hsx, ha, hc, hw, hS, hm => by
    have hn := hok.1
    have hst : st = 25 ∨ st = 26 := by
      unfold qSx at hsx
      omega
    subst hz
    have e : p = h := by omega
    subst e
    have hok3 := pDays_ok (lw := lw) (qWho_ok hok hi) p
    have hsm := pSum_in hok3 n (Nat.le_refl n)
    rw [g33_17]
    simp only [g33_18, g33_19, g33_22, g33_135, g33_136, g33_137, g33_140, nl_none, nl_int, nl_ref, Option.toList_some, Option.toList_none, List.cons_append, List.nil_append, mSetI_u, mSetL_u, Nat.add_one_ne_zero, Nat.add_eq_zero_iff, and_false, false_and, not_false_eq_true, ne_eq, j0_0, j0_1, j1_0, j1_1, if_true, if_false, ite_true, ite_false, true_and, and_true, or_true, true_or, false_or, or_false, ↓reduceIte, Nat.reduceEqDiff, Nat.reduceAdd, Nat.reduceMul, Nat.reduceSub, Int.reduceLE, Int.reduceLT, Int.reduceNeg, Int.reduceAdd, Int.reduceSub, Int.reduceEq, reduceCtorEq, jI_lt, jI_eq, jI_lt0, jI_0lt, jI_eq0, jI_0le, jn_lo, iU_row, iU_nr, iU_eq, iU_same, jI_ixn, jI_add, jI_sub, jI_nat, sh_4, sh_22, hc.2.2.2.1, hc.1.2.1, show ((p : Nat) : Int) ≤ 2147483647 by omega, show (p : Nat) ≤ 2147483647 by omega, show ¬ ((p : Int) < (p : Int)) by omega]
    refine c34 hF hst hn (S := pDays lw n (qWho T n w) p) (fun j hj => ⟨hS j hj, ?_⟩) ⟨hsm.1, by omega⟩ hw hm (fun I2 h2 hm2 => ?_)
    · obtain ⟨-, -, -, -, -, -, e0, e1, -⟩ := vOk_w hok3 hj
      exact ⟨e0, e1⟩
    · have h2' : vAg (vScQ rl) I' I2 := vAg_mono h2 (fun r j q => by unfold vScQ; omega)
      have hp := hP I2 F st nx hF hsx (vAg_tr (vAg_mono ha (fun r j q => q.1)) h2') (cOk_ag hrl h2' (by rw [vAg_row (r := 105) h2 (fun j => by omega)]; exact hc.2.2.2.2) hc) (fun j hj => (h2 24 j (by omega)).trans (hw j hj)) hm2
      simp only [g33_143, nl_none, nl_int, nl_ref, Option.toList_some, Option.toList_none, List.cons_append, List.nil_append, mSetI_u, mSetL_u, Nat.add_one_ne_zero, Nat.add_eq_zero_iff, and_false, false_and, not_false_eq_true, ne_eq, j0_0, j0_1, j1_0, j1_1, if_true, if_false, ite_true, ite_false, true_and, and_true, or_true, true_or, false_or, or_false, ↓reduceIte, Nat.reduceEqDiff, Nat.reduceAdd, Nat.reduceMul, Nat.reduceSub, Int.reduceLE, Int.reduceLT, Int.reduceNeg, Int.reduceAdd, Int.reduceSub, Int.reduceEq, reduceCtorEq, jI_lt, jI_eq, jI_lt0, jI_0lt, jI_eq0, jI_0le, jn_lo, iU_row, iU_nr, iU_eq, iU_same, jI_ixn, jI_add, jI_sub, jI_nat]
      exact hp
  | k + 1, p, z, I', F, st, nx, a4, a5, a6, hpk, hz, hF, hsx, ha, hc, hw, hS, hm => by
    have hsx' := hsx
    unfold qSx at hsx
    have hst0 : ¬ st = 0 := by omega
    have hnx0 : ¬ nx = 0 := by omega
    subst hz
    have hF' := mFx_st hF
    rw [g33_17]
    simp only [g33_18, g33_19, g33_22, g33_25, g33_26, nl_none, nl_int, nl_ref, Option.toList_some, Option.toList_none, List.cons_append, List.nil_append, mSetI_u, mSetL_u, Nat.add_one_ne_zero, Nat.add_eq_zero_iff, and_false, false_and, not_false_eq_true, ne_eq, j0_0, j0_1, j1_0, j1_1, if_true, if_false, ite_true, ite_false, true_and, and_true, or_true, true_or, false_or, or_false, ↓reduceIte, Nat.reduceEqDiff, Nat.reduceAdd, Nat.reduceMul, Nat.reduceSub, Int.reduceLE, Int.reduceLT, Int.reduceNeg, Int.reduceAdd, Int.reduceSub, Int.reduceEq, reduceCtorEq, jI_lt, jI_eq, jI_lt0, jI_0lt, jI_eq0, jI_0le, jn_lo, iU_row, iU_nr, iU_eq, iU_same, jI_ixn, jI_add, jI_sub, jI_nat, sh_22, hc.2.2.2.1, show ((p : Nat) : Int) ≤ 2147483647 by omega, show (p : Nat) ≤ 2147483647 by omega, show ((h : Nat) : Int) ≤ 2147483647 by omega, show (h : Nat) ≤ 2147483647 by omega, show (p : Int) < (h : Int) by omega]
    refine c33_i hF hrl hsx' hok hi hl hc hsn (show p < 6 by omega) hw hS (fun I2 b5 b6 h2 hg2 hq2 => ?_) n 0 0 I' _ _ (by omega) rfl vAg_rfl hc.2.2.2.2 (fun j hj => absurd hj (by omega))
    have h2' : vAg (fun r j => vScQ rl r j ∧ ¬ r = 24) I' I2 := vAg_mono h2 (fun r j q => by unfold vScQ; omega)
    have hm2 : qMc n s I2 := by
      obtain ⟨m1, m2, m3, m4, m5⟩ := hm
      exact ⟨(h2 22 1 (by omega)).trans m1, (h2 22 2 (by omega)).trans m2, m3, m4, fun q j hj => (h2 23 j (by omega)).trans (m5 q j hj)⟩
    have ih := c33_p hrl hok hi hl hsn hh hP k (p + 1) ((p : Int) + 1) I2 _ nx st (some (.ref st)) b5 b6 (by omega) (by omega) hF' (by unfold qSx; omega) (vAg_tr ha h2') (cOk_ag hrl (vAg_mono h2' (fun r j q => q.1)) hg2 hc) (fun j hj => (h2 24 j (by omega)).trans (hw j hj)) hq2 hm2
    simp only [g33_109, g33_110, g33_113, g33_115, g33_116, g33_117, g33_120, g33_123, g33_124, g33_126, g33_129, g33_132, nl_none, nl_int, nl_ref, Option.toList_some, Option.toList_none, List.cons_append, List.nil_append, mSetI_u, mSetL_u, Nat.add_one_ne_zero, Nat.add_eq_zero_iff, and_false, false_and, not_false_eq_true, ne_eq, j0_0, j0_1, j1_0, j1_1, if_true, if_false, ite_true, ite_false, true_and, and_true, or_true, true_or, false_or, or_false, ↓reduceIte, Nat.reduceEqDiff, Nat.reduceAdd, Nat.reduceMul, Nat.reduceSub, Int.reduceLE, Int.reduceLT, Int.reduceNeg, Int.reduceAdd, Int.reduceSub, Int.reduceEq, reduceCtorEq, jI_lt, jI_eq, jI_lt0, jI_0lt, jI_eq0, jI_0le, jn_lo, iU_row, iU_nr, iU_eq, iU_same, jI_ixn, jI_add, jI_sub, jI_nat, sh_22, f_22_5 hF, f_22_6 hF, hst0, hnx0, mSetR_u, show ((p : Nat) : Int) ≤ 2147483647 by omega, show (p : Nat) ≤ 2147483647 by omega]
    exact ih
theorem c33 (hF : mFx F st nx 105 rl dr) (hrl : rl = 70 ∨ rl = 75) (hsx : qSx st nx) {b : Nat} (hok : vTownOk n T) (hi : qIn n n w b) (hl : ∀ g q n k s t, 0 ≤ lw g q n k s t ∧ lw g q n k s t ≤ 20) (hc : cOk lw n T rl sn h I) (hsn : sn ≤ 512) (hh : h ≤ 6) (hw : ∀ j, j < n → I 24 j = jI (w j)) (hm : qMc n s I) (hP : ∀ I' F' st' nx', mFx F' st' nx' 105 rl dr → qSx st' nx' → vAg (vScQ rl) I I' → cOk lw n T rl sn h I' → (∀ j, j < n → I' 24 j = jI (w j)) → qMc n (qLc lw n T h w s) I' → P none (mLay eG) (I', E, F')) : mF (d + 5) 33 [.ref 22, .ref 4, .ref rl] (mLay eG) (I, E, F) P := by
  have hn := hok.1
  have hsx' := hsx
  unfold qSx at hsx
  have hst : st = 25 ∨ st = 26 := by omega
  have hst0 : ¬ st = 0 := by omega
  have hrl0 : ¬ rl = 0 := by omega
  have ha : vAg (fun r j => vScQ rl r j ∧ ¬ r = 24) I (cU I 8 st 0 0 8) := fun r j q => by
    have hr : ¬ r = st := fun e => q (by unfold vScQ; omega)
    rw [cU_row hr]
  have hm2 : qMc n s (cU I 8 st 0 0 8) := by
    obtain ⟨m1, m2, m3, m4, m5⟩ := hm
    refine ⟨?_, ?_, m3, m4, fun q j hj => ?_⟩
    · rw [cU_row (by omega)]
      exact m1
    · rw [cU_row (by omega)]
      exact m2
    · rw [cU_row (by omega)]
      exact m5 q j hj
  have lp := c33_p (d := d) (E := E) (P := P) hrl hok hi hl hsn hh hP h 0 0 (cU I 8 st 0 0 8) F st nx none none none (by omega) rfl hF hsx' ha (cOk_ag hrl (vAg_mono ha (fun r j q => q.1)) (by rw [cU_row (by omega)]; exact hc.2.2.2.2) hc) (fun j hj => by rw [cU_row (by omega)]; exact hw j hj) (fun j hj => by
    rw [cU_0 (show j < 8 by omega)]
    show _ = jI (qWho T n w 3 j)
    rw [qWho_n (by omega)]
    exact (hc.1.1 j hj).2.2.2.1) hm2
  simp only [g33_in, g33_0, g33_1, g33_4, g33_5, g33_6, g33_9, g33_10, g33_12, g33_15, g33_16, nl_none, nl_int, nl_ref, Option.toList_some, Option.toList_none, List.cons_append, List.nil_append, mSetI_u, mSetL_u, Nat.add_one_ne_zero, Nat.add_eq_zero_iff, and_false, false_and, not_false_eq_true, ne_eq, j0_0, j0_1, j1_0, j1_1, if_true, if_false, ite_true, ite_false, true_and, and_true, or_true, true_or, false_or, or_false, ↓reduceIte, Nat.reduceEqDiff, Nat.reduceAdd, Nat.reduceMul, Nat.reduceSub, Int.reduceLE, Int.reduceLT, Int.reduceNeg, Int.reduceAdd, Int.reduceSub, Int.reduceEq, reduceCtorEq, jI_lt, jI_eq, jI_lt0, jI_0lt, jI_eq0, jI_0le, jn_lo, iU_row, iU_nr, iU_eq, iU_same, jI_ixn, jI_add, jI_sub, jI_nat, sh_4, sh_8, sh_22, sh_sn hst, f_4_4 hF, f_22_5 hF, hst0, hrl0, mCpyI_u, n8_8, n0_0, cp_8]
  exact lp
end WGD
