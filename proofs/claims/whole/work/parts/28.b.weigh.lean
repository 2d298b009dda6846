/-! ===== round: the class weighs a ring ===== -/
theorem i5_shl : ∀ s : Fin 514, ∀ g : Fin 21, (jI (s.val : Int) <<< (jI 5 &&& 31)) ||| jI (g.val : Int) = jI ((32 * s.val + g.val : Nat) : Int) := by decide +kernel
theorem i5_and_d : ∀ s : Fin 514, ∀ r : Fin 32, jI ((32 * s.val + r.val : Nat) : Int) &&& jI 31 = jI (r.val : Int) := by decide +kernel
theorem i5_shr_d : ∀ s : Fin 514, ∀ r : Fin 32, jI ((32 * s.val + r.val : Nat) : Int) >>> (jI 5 &&& 31) = jI (s.val : Int) := by decide +kernel
theorem i5_and {g : Nat} (h : g < 16448) : jI (g : Int) &&& jI 31 = jI ((g % 32 : Nat) : Int) := by
  have := i5_and_d ⟨g / 32, by omega⟩ ⟨g % 32, by omega⟩
  rw [show 32 * (g / 32) + g % 32 = g by omega] at this
  exact this
theorem i5_shr {g : Nat} (h : g < 16448) : jI (g : Int) >>> (jI 5 &&& 31) = jI ((g / 32 : Nat) : Int) := by
  have := i5_shr_d ⟨g / 32, by omega⟩ ⟨g % 32, by omega⟩
  rw [show 32 * (g / 32) + g % 32 = g by omega] at this
  exact this
/-- what is given by a slot's giver -/
def gV (lw : vLw) (T : Nat → Nat → Int) (s : Nat) : Int := lw (T 1 (s / 800 % 8)) (pFar (T 0 (s / 800 % 8)) (T 0 (s / 100 % 8))) (T 2 (s / 100 % 8)) 1 ((s % 100 : Nat) : Int) (if 99 < T 6 0 + ((s / 6400 : Nat) : Int) then 99 else T 6 0 + ((s / 6400 : Nat) : Int))
def gSl (past one to x : Nat) : Nat := ((past * 8 + one) * 8 + to) * 100 + x
theorem gV_sl {lw : vLw} {T : Nat → Nat → Int} {past one to x : Nat} (h1 : one < 8) (h2 : to < 8) (h3 : x < 100) : gV lw T (gSl past one to x) = lw (T 1 one) (pFar (T 0 one) (T 0 to)) (T 2 to) 1 (x : Int) (if 99 < T 6 0 + (past : Int) then 99 else T 6 0 + (past : Int)) := by
  unfold gV gSl
  rw [show (((past * 8 + one) * 8 + to) * 100 + x) / 800 % 8 = one by omega, show (((past * 8 + one) * 8 + to) * 100 + x) / 100 % 8 = to by omega, show (((past * 8 + one) * 8 + to) * 100 + x) % 100 = x by omega, show (((past * 8 + one) * 8 + to) * 100 + x) / 6400 = past by omega]
def qGf (sn : Nat) (gv : Nat → Int) (gifts : Nat → Int32) : Prop := ∀ s, s < 38400 → ∃ g : Nat, gifts s = jI g ∧ g < 32 * (sn + 1) ∧ (32 * sn ≤ g → ((g - 32 * sn : Nat) : Int) = gv s)
abbrev eG : List mShp := [(0, 38400)]
theorem sh_105 : mSh (mLay eG) 105 = some (0, 38400) := by
  have h : mSh (mLay eG) 105 = some (0, 38400) := rfl
  exact h
def vScQ (rl r j : Nat) : Prop := r = 23 ∨ r = 24 ∨ r = 25 ∨ r = 26 ∨ (r = 22 ∧ (j = 1 ∨ j = 2)) ∨ r = 105 ∨ r = rl + 3 ∨ r = rl + 4
def cOk (lw : vLw) (n : Nat) (T : Nat → Nat → Int) (rl sn h : Nat) (I : Nat → Nat → Int32) : Prop := vTc n T 4 I ∧ vLawC lw (I (rl + 1)) (I (rl + 2)) (I rl 2) ∧ I 22 8 = jI sn ∧ I 22 9 = jI h ∧ qGf sn (gV lw T) (I 105)
theorem sh_sn {e : List mShp} {st : Nat} (h : st = 25 ∨ st = 26) : mSh (mLay e) st = some (0, 8) := by
  rcases h with rfl | rfl
  · exact sh_25
  · exact sh_26
def qMc (n : Nat) (s : qSt) (I : Nat → Nat → Int32) : Prop := I 22 1 = jI s.1 ∧ I 22 2 = jI s.2.1 ∧ (0 ≤ s.1 ∧ s.1 ≤ 9) ∧ (-1 ≤ s.2.1 ∧ s.2.1 ≤ 800) ∧ (s.1 ≤ 8 → ∀ j, j < n → I 23 j = jI (s.2.2 j))
section WGH
variable {d n : Nat} {I : Nat → Nat → Int32} {E : Nat → Nat → Int64} {F : Nat → Nat → Nat} {P : mPost} {T : Nat → Nat → Int} {lw : vLw} {st nx rl dr h sn : Nat} {w : Nat → Nat} {s : qSt}
theorem cOk_ag {I' : Nat → Nat → Int32} (hrl : rl = 70 ∨ rl = 75) (ha : vAg (vScQ rl) I I') (hg : qGf sn (gV lw T) (I' 105)) (hc : cOk lw n T rl sn h I) : cOk lw n T rl sn h I' := by
  obtain ⟨h1, h2, h3, h4, -⟩ := hc
  refine ⟨vTc_ag ha (fun r j q => by unfold vScQ at q; omega) h1, ?_, (ha 22 8 (by unfold vScQ; omega)).trans h3, (ha 22 9 (by unfold vScQ; omega)).trans h4, hg⟩
  rw [vAg_row (r := rl + 1) ha (fun j => by unfold vScQ; omega), vAg_row (r := rl + 2) ha (fun j => by unfold vScQ; omega), ha rl 2 (by unfold vScQ; omega)]
  exact h2
theorem c35 (hF : mFx F st nx 105 rl dr) (hrl : rl = 70 ∨ rl = 75) (hst : st = 25 ∨ st = 26) (hok : vTownOk n T) (hc : cOk lw n T rl sn h I) (hsn : sn ≤ 512) {past one to x : Nat} (hp : past < 6) (ho : one < n) (hto : to < n) (hx : x ≤ 99) (hx0 : 0 < x) (hst1 : I st one = jI x) (hP : ∀ I', vAg (fun r _ => r = 105 ∨ r = rl + 3 ∨ r = rl + 4) I I' → qGf sn (gV lw T) (I' 105) → P (some (.int (jI (gV lw T (gSl past one to x))))) (mLay eG) (I', E, F)) : mF (d + 4) 35 [.ref 22, .ref 4, .ref rl, .int (jI past), .int (jI one), .int (jI to)] (mLay eG) (I, E, F) P := by
  have hn := hok.1
  have hrl0 : ¬ rl = 0 := by omega
  have hst0 : ¬ st = 0 := by omega
  have hL := vLo_rl (e := eG) hF hrl
  obtain ⟨a0, a1, b0, b1, -⟩ := vOk_w hok ho
  obtain ⟨x0, x1, y0, y1, z0, z1, -⟩ := vOk_w hok hto
  have hday := hok.2.2.2
  obtain ⟨hc1, hlw, h8, h9, hg⟩ := hc
  obtain ⟨k0, k1, k2, k3, k4⟩ := hc1.1 one ho
  obtain ⟨m0, m1, m2, m3, m4⟩ := hc1.1 to hto
  have hT7 := hc1.2.2.2
  have hs1 : gSl past one to x < 38400 := by
    unfold gSl
    omega
  have es : (((past : Int) * 8 + (one : Int)) * 8 + (to : Int)) * 100 + (x : Int) = ((gSl past one to x : Nat) : Int) := by
    unfold gSl
    omega
  obtain ⟨g, g1, g2, g3⟩ := hg _ hs1
  have e1 := gV_sl (lw := lw) (T := T) (past := past) (show one < 8 by omega) (show to < 8 by omega) (show x < 100 by omega)
  obtain ⟨sl, hsl⟩ : ∃ sl, sl = gSl past one to x := ⟨_, rfl⟩
  rw [← hsl] at hs1 es g1 g3 hP e1
  by_cases q : g / 32 = sn
  · have hp' := hP I vAg_rfl hg
    rw [← g3 (by omega)] at hp'
    simp only [g35_in, g35_0, g35_1, g35_4, g35_6, g35_7, g35_9, g35_10, g35_12, g35_13, g35_15, g35_16, g35_18, g35_19, g35_21, g35_22, g35_24, g35_25, g35_27, g35_28, g35_30, g35_32, g35_35, g35_37, g35_38, g35_42, g35_45, g35_46, g35_47, g35_48, g35_51, g35_53, g35_54, g35_55, g35_56, g35_57, g35_60, g35_125, g35_126, g35_129, g35_131, g35_132, g35_134, g35_135, nl_none, nl_int, nl_ref, Option.toList_some, Option.toList_none, List.cons_append, List.nil_append, mSetI_u, mSetL_u, Nat.add_one_ne_zero, Nat.add_eq_zero_iff, and_false, false_and, not_false_eq_true, ne_eq, j0_0, j0_1, j1_0, j1_1, if_true, if_false, ite_true, ite_false, true_and, and_true, or_true, true_or, false_or, or_false, ↓reduceIte, Nat.reduceEqDiff, Nat.reduceAdd, Nat.reduceMul, Nat.reduceSub, Int.reduceLE, Int.reduceLT, Int.reduceNeg, Int.reduceAdd, Int.reduceSub, Int.reduceEq, reduceCtorEq, jI_lt, jI_eq, jI_lt0, jI_0lt, jI_eq0, jI_0le, jn_lo, iU_row, iU_nr, iU_eq, iU_same, jI_ixn, jI_add, jI_sub, jI_nat, sh_22, sh_105, sh_sn hst, f_22_5 hF, f_22_7 hF, hst0, hst1, show ((past : Nat) : Int) ≤ 2147483647 by omega, show (past : Nat) ≤ 2147483647 by omega, show ((one : Nat) : Int) ≤ 2147483647 by omega, show (one : Nat) ≤ 2147483647 by omega, show ((to : Nat) : Int) ≤ 2147483647 by omega, show (to : Nat) ≤ 2147483647 by omega, show ((x : Nat) : Int) ≤ 2147483647 by omega, show (x : Nat) ≤ 2147483647 by omega, show ((sl : Nat) : Int) ≤ 2147483647 by omega, show (sl : Nat) ≤ 2147483647 by omega, show ((g / 32 : Nat) : Int) ≤ 2147483647 by omega, show (g / 32 : Nat) ≤ 2147483647 by omega, jI_in (z := ((one : Int) : Int)) (n := 8) (by omega) (by omega) (by omega), jI_in (z := ((sl : Int) : Int)) (n := 38400) (by omega) (by omega) (by omega), jI_mul, es, show ¬ ((sl : Int) < 0) by omega, show (sl : Int) < 38400 by omega, g1, i5_shr (show g < 16448 by omega), i5_and (show g < 16448 by omega), q, h8, eq_self, g35_41b, show ((38400 : Nat) : Int) = 38400 from rfl]
    rw [show g % 32 = g - 32 * sn by omega]
    exact hp'
  · have hfar := pFar_in ⟨a0, a1⟩ ⟨x0, x1⟩
    obtain ⟨td, htd⟩ : ∃ td, td = if 99 < T 6 0 + (past : Int) then (99 : Int) else T 6 0 + (past : Int) := ⟨_, rfl⟩
    have htd0 : 0 ≤ td ∧ td ≤ 99 := by
      rw [htd]
      split <;> omega
    rw [← htd] at e1
    have hlv := hlw.1 (T 1 one) (pFar (T 0 one) (T 0 to)) (T 2 to) 1 x td
    rw [← e1] at hlv
    have fin : mF (d + 3) 8 [.ref rl, .int (jI (T 1 one)), .int (jI (pFar (T 0 one) (T 0 to))), .int (jI (T 2 to)), .int (jI 1), .int (jI x), .int (jI td)] (mLay eG) (I, E, F) (fun v lay1 M1 => mG (d + 3 + 1) 35 107 [some (.ref 22), some (.ref 4), some (.ref rl), some (.int (jI past)), some (.int (jI one)), some (.int (jI to)), some (.int (jI x)), some (.int (jI sl)), some (.int (jI td)), none] (v.toList ++ []) lay1 M1 P) := by
      refine hlw.2 (mLay eG) F rl I E d _ (T 1 one) (pFar (T 0 one) (T 0 to)) (T 2 to) 1 x td hL rfl rfl rfl ⟨⟨b0, b1⟩, hfar, ⟨z0, z1⟩, ⟨by omega, by omega⟩, ⟨by omega, by omega⟩, htd0⟩ (fun I' hI' => ?_)
      rw [← e1]
      obtain ⟨gv, hgv⟩ : ∃ gv : Nat, gV lw T sl = gv := ⟨(gV lw T sl).toNat, by omega⟩
      rw [hgv] at hlv hP ⊢
      have e8 : I' 22 8 = jI sn := (hI' 22 8 (by omega)).trans h8
      have hor := i5_shl ⟨sn, by omega⟩ ⟨gv, by omega⟩
      have hor : (jI (sn : Int) <<< (jI 5 &&& 31)) ||| jI (gv : Int) = jI ((32 * sn + gv : Nat) : Int) := hor
      have hp' := hP (iU I' 105 sl (jI ((32 * sn + gv : Nat) : Int))) (vAg_iU (vAg_mono hI' (fun r j q => .inr q)) (.inl rfl)) (fun s hs => by
        by_cases ej : s = sl
        · rw [ej, iU_eq]
          exact ⟨32 * sn + gv, rfl, by omega, fun _ => by rw [hgv]; omega⟩
        · rw [iU_same ej, hI' 105 s (by omega)]
          exact hg s hs)
      simp only [g35_107, g35_109, g35_110, g35_113, g35_115, g35_116, g35_119, g35_120, g35_121, g35_123, g35_124, g35_125, g35_126, g35_129, g35_131, g35_132, g35_134, g35_135, nl_none, nl_int, nl_ref, Option.toList_some, Option.toList_none, List.cons_append, List.nil_append, mSetI_u, mSetL_u, Nat.add_one_ne_zero, Nat.add_eq_zero_iff, and_false, false_and, not_false_eq_true, ne_eq, j0_0, j0_1, j1_0, j1_1, if_true, if_false, ite_true, ite_false, true_and, and_true, or_true, true_or, false_or, or_false, ↓reduceIte, Nat.reduceEqDiff, Nat.reduceAdd, Nat.reduceMul, Nat.reduceSub, Int.reduceLE, Int.reduceLT, Int.reduceNeg, Int.reduceAdd, Int.reduceSub, Int.reduceEq, reduceCtorEq, jI_lt, jI_eq, jI_lt0, jI_0lt, jI_eq0, jI_0le, jn_lo, iU_row, iU_nr, iU_eq, iU_same, jI_ixn, jI_add, jI_sub, jI_nat, sh_22, sh_105, f_22_7 hF, e8, show ((sl : Nat) : Int) ≤ 2147483647 by omega, show (sl : Nat) ≤ 2147483647 by omega, jI_in (z := ((sl : Int) : Int)) (n := 38400) (by omega) (by omega) (by omega), hor, i5_and (show 32 * sn + gv < 16448 by omega), eq_self]
      rw [show (32 * sn + gv) % 32 = gv by omega]
      exact hp'
    by_cases q2 : 99 < T 6 0 + (past : Int)
    · rw [if_pos q2] at htd
      rw [htd] at fin
      simp only [g35_in, g35_0, g35_1, g35_4, g35_6, g35_7, g35_9, g35_10, g35_12, g35_13, g35_15, g35_16, g35_18, g35_19, g35_21, g35_22, g35_24, g35_25, g35_27, g35_28, g35_30, g35_32, g35_35, g35_37, g35_38, g35_42, g35_45, g35_46, g35_47, g35_48, g35_51, g35_53, g35_54, g35_55, g35_56, g35_57, g35_60, g35_63, g35_64, g35_67, g35_68, g35_69, g35_71, g35_74, g35_76, g35_77, g35_78, g35_81, g35_83, g35_84, g35_85, g35_87, g35_89, g35_92, g35_93, g35_96, g35_98, g35_99, g35_100, g35_102, g35_104, nl_none, nl_int, nl_ref, Option.toList_some, Option.toList_none, List.cons_append, List.nil_append, mSetI_u, mSetL_u, Nat.add_one_ne_zero, Nat.add_eq_zero_iff, and_false, false_and, not_false_eq_true, ne_eq, j0_0, j0_1, j1_0, j1_1, if_true, if_false, ite_true, ite_false, true_and, and_true, or_true, true_or, false_or, or_false, ↓reduceIte, Nat.reduceEqDiff, Nat.reduceAdd, Nat.reduceMul, Nat.reduceSub, Int.reduceLE, Int.reduceLT, Int.reduceNeg, Int.reduceAdd, Int.reduceSub, Int.reduceEq, reduceCtorEq, jI_lt, jI_eq, jI_lt0, jI_0lt, jI_eq0, jI_0le, jn_lo, iU_row, iU_nr, iU_eq, iU_same, jI_ixn, jI_add, jI_sub, jI_nat, sh_4, sh_6, sh_7, sh_22, sh_105, sh_sn hst, f_4_2 hF, f_4_3 hF, f_22_5 hF, f_22_7 hF, hst0, hrl0, hL.2.1, hst1, show ((past : Nat) : Int) ≤ 2147483647 by omega, show (past : Nat) ≤ 2147483647 by omega, show ((one : Nat) : Int) ≤ 2147483647 by omega, show (one : Nat) ≤ 2147483647 by omega, show ((to : Nat) : Int) ≤ 2147483647 by omega, show (to : Nat) ≤ 2147483647 by omega, show ((x : Nat) : Int) ≤ 2147483647 by omega, show (x : Nat) ≤ 2147483647 by omega, show ((sl : Nat) : Int) ≤ 2147483647 by omega, show (sl : Nat) ≤ 2147483647 by omega, show ((g / 32 : Nat) : Int) ≤ 2147483647 by omega, show (g / 32 : Nat) ≤ 2147483647 by omega, show ((sn : Nat) : Int) ≤ 2147483647 by omega, show (sn : Nat) ≤ 2147483647 by omega, jI_in (z := ((one : Int) : Int)) (n := 8) (by omega) (by omega) (by omega), jI_in (z := ((to : Int) : Int)) (n := 8) (by omega) (by omega) (by omega), jI_in (z := ((sl : Int) : Int)) (n := 38400) (by omega) (by omega) (by omega), jI_mul, es, show ¬ ((sl : Int) < 0) by omega, show ¬ (((g / 32 : Nat) : Int) = (sn : Int)) by omega, show (sl : Int) < 38400 by omega, g1, i5_shr (show g < 16448 by omega), h8, hT7, show -2147483648 ≤ (T 6 0 + (past : Int) : Int) by omega, show (T 6 0 + (past : Int) : Int) ≤ 2147483647 by omega, q2, k1, m2, c78 (vTw_4 hF) (show one < 8 by omega) (show to < 8 by omega) k0 m0 a0 a1 x0 x1, g35_41b, show ((38400 : Nat) : Int) = 38400 from rfl]
      exact fin
    · rw [if_neg q2] at htd
      rw [htd] at fin
      simp only [g35_in, g35_0, g35_1, g35_4, g35_6, g35_7, g35_9, g35_10, g35_12, g35_13, g35_15, g35_16, g35_18, g35_19, g35_21, g35_22, g35_24, g35_25, g35_27, g35_28, g35_30, g35_32, g35_35, g35_37, g35_38, g35_42, g35_45, g35_46, g35_47, g35_48, g35_51, g35_53, g35_54, g35_55, g35_56, g35_57, g35_60, g35_63, g35_64, g35_67, g35_68, g35_69, g35_71, g35_74, g35_76, g35_77, g35_78, g35_81, g35_83, g35_84, g35_85, g35_87, g35_89, g35_92, g35_93, g35_96, g35_98, g35_99, g35_100, g35_102, g35_104, nl_none, nl_int, nl_ref, Option.toList_some, Option.toList_none, List.cons_append, List.nil_append, mSetI_u, mSetL_u, Nat.add_one_ne_zero, Nat.add_eq_zero_iff, and_false, false_and, not_false_eq_true, ne_eq, j0_0, j0_1, j1_0, j1_1, if_true, if_false, ite_true, ite_false, true_and, and_true, or_true, true_or, false_or, or_false, ↓reduceIte, Nat.reduceEqDiff, Nat.reduceAdd, Nat.reduceMul, Nat.reduceSub, Int.reduceLE, Int.reduceLT, Int.reduceNeg, Int.reduceAdd, Int.reduceSub, Int.reduceEq, reduceCtorEq, jI_lt, jI_eq, jI_lt0, jI_0lt, jI_eq0, jI_0le, jn_lo, iU_row, iU_nr, iU_eq, iU_same, jI_ixn, jI_add, jI_sub, jI_nat, sh_4, sh_6, sh_7, sh_22, sh_105, sh_sn hst, f_4_2 hF, f_4_3 hF, f_22_5 hF, f_22_7 hF, hst0, hrl0, hL.2.1, hst1, show ((past : Nat) : Int) ≤ 2147483647 by omega, show (past : Nat) ≤ 2147483647 by omega, show ((one : Nat) : Int) ≤ 2147483647 by omega, show (one : Nat) ≤ 2147483647 by omega, show ((to : Nat) : Int) ≤ 2147483647 by omega, show (to : Nat) ≤ 2147483647 by omega, show ((x : Nat) : Int) ≤ 2147483647 by omega, show (x : Nat) ≤ 2147483647 by omega, show ((sl : Nat) : Int) ≤ 2147483647 by omega, show (sl : Nat) ≤ 2147483647 by omega, show ((g / 32 : Nat) : Int) ≤ 2147483647 by omega, show (g / 32 : Nat) ≤ 2147483647 by omega, show ((sn : Nat) : Int) ≤ 2147483647 by omega, show (sn : Nat) ≤ 2147483647 by omega, jI_in (z := ((one : Int) : Int)) (n := 8) (by omega) (by omega) (by omega), jI_in (z := ((to : Int) : Int)) (n := 8) (by omega) (by omega) (by omega), jI_in (z := ((sl : Int) : Int)) (n := 38400) (by omega) (by omega) (by omega), jI_mul, es, show ¬ ((sl : Int) < 0) by omega, show ¬ (((g / 32 : Nat) : Int) = (sn : Int)) by omega, show (sl : Int) < 38400 by omega, g1, i5_shr (show g < 16448 by omega), h8, hT7, show -2147483648 ≤ (T 6 0 + (past : Int) : Int) by omega, show (T 6 0 + (past : Int) : Int) ≤ 2147483647 by omega, q2, k1, m2, c78 (vTw_4 hF) (show one < 8 by omega) (show to < 8 by omega) k0 m0 a0 a1 x0 x1, g35_41b, show ((38400 : Nat) : Int) = 38400 from rfl]
      exact fin
/-! compare -/
theorem c34_l (hF : mFx F st nx 105 rl dr) (hst : st = 25 ∨ st = 26) (hn : n ≤ 8) {S : Nat → Nat → Int} (hS : ∀ j, j < n → I st j = jI (S 3 j) ∧ 0 ≤ S 3 j ∧ S 3 j ≤ 99) (hP : mG d 34 47 [some (.ref 22), some (.int (jI n)), some (.int (jI (qLn S n))), some (.int (jI (pSum S n))), some (.int (jI n))] [] (mLay eG) (I, E, F) P) : ∀ (k i : Nat) (z a c : Int), i + k = n → z = i → a = qLn S i → c = pSum S i → mG d 34 7 [some (.ref 22), some (.int (jI n)), some (.int (jI a)), some (.int (jI c)), some (.int (jI z))] [] (mLay eG) (I, E, F) P
  | 0, i, z, a, c, hi, hz, ha, hc => by
    have e : i = n := by omega
    subst hz ha hc e
    rw [g34_7]
    simp only [g34_9, g34_10, nl_none, nl_int, nl_ref, Option.toList_some, Option.toList_none, List.cons_append, List.nil_append, mSetI_u, mSetL_u, Nat.add_one_ne_zero, Nat.add_eq_zero_iff, and_false, false_and, not_false_eq_true, ne_eq, j0_0, j0_1, j1_0, j1_1, if_true, if_false, ite_true, ite_false, true_and, and_true, or_true, true_or, false_or, or_false, ↓reduceIte, Nat.reduceEqDiff, Nat.reduceAdd, Nat.reduceMul, Nat.reduceSub, Int.reduceLE, Int.reduceLT, Int.reduceNeg, Int.reduceAdd, Int.reduceSub, Int.reduceEq, reduceCtorEq, jI_lt, jI_eq, jI_lt0, jI_0lt, jI_eq0, jI_0le, jn_lo, iU_row, iU_nr, iU_eq, iU_same, jI_ixn, jI_add, jI_sub, jI_nat, show ((i : Nat) : Int) ≤ 2147483647 by omega, show (i : Nat) ≤ 2147483647 by omega, show ¬ ((i : Int) < (i : Int)) by omega]
    exact hP
  | k + 1, i, z, a, c, hi, hz, ha, hc => by
    have hst0 : ¬ st = 0 := by omega
    obtain ⟨s0, s1, s2⟩ := hS i (by omega)
    have ih := c34_l hF hst hn hS hP k (i + 1)
    subst hz ha hc
    rw [g34_7]
    by_cases q : S 3 i = 0
    · have ih' := ih ((i : Int) + 1) (qLn S i + 1) (pSum S i + S 3 i) (by omega) (by omega) (by rw [qLn, if_pos q]) (by rw [pSum])
      simp only [g34_9, g34_10, g34_13, g34_14, g34_15, g34_18, g34_20, g34_21, g34_22, g34_23, g34_24, g34_25, g34_28, g34_30, g34_31, g34_34, g34_35, g34_38, g34_39, g34_40, g34_41, g34_44, nl_none, nl_int, nl_ref, Option.toList_some, Option.toList_none, List.cons_append, List.nil_append, mSetI_u, mSetL_u, Nat.add_one_ne_zero, Nat.add_eq_zero_iff, and_false, false_and, not_false_eq_true, ne_eq, j0_0, j0_1, j1_0, j1_1, if_true, if_false, ite_true, ite_false, true_and, and_true, or_true, true_or, false_or, or_false, ↓reduceIte, Nat.reduceEqDiff, Nat.reduceAdd, Nat.reduceMul, Nat.reduceSub, Int.reduceLE, Int.reduceLT, Int.reduceNeg, Int.reduceAdd, Int.reduceSub, Int.reduceEq, reduceCtorEq, jI_lt, jI_eq, jI_lt0, jI_0lt, jI_eq0, jI_0le, jn_lo, iU_row, iU_nr, iU_eq, iU_same, jI_ixn, jI_add, jI_sub, jI_nat, sh_22, sh_sn hst, f_22_5 hF, hst0, s0, show ((i : Nat) : Int) ≤ 2147483647 by omega, show (i : Nat) ≤ 2147483647 by omega, show ((n : Nat) : Int) ≤ 2147483647 by omega, show (n : Nat) ≤ 2147483647 by omega, show (i : Int) < (n : Int) by omega, jI_in (z := ((i : Int) : Int)) (n := 8) (by omega) (by omega) (by omega), q, Int.add_zero]
      rw [q, Int.add_zero] at ih'
      exact ih'
    · have ih' := ih ((i : Int) + 1) (qLn S i + 0) (pSum S i + S 3 i) (by omega) (by omega) (by rw [qLn, if_neg q]) (by rw [pSum])
      rw [Int.add_zero] at ih'
      simp only [g34_9, g34_10, g34_13, g34_14, g34_15, g34_18, g34_20, g34_21, g34_22, g34_23, g34_24, g34_25, g34_28, g34_30, g34_31, g34_34, g34_35, g34_38, g34_39, g34_40, g34_41, g34_44, nl_none, nl_int, nl_ref, Option.toList_some, Option.toList_none, List.cons_append, List.nil_append, mSetI_u, mSetL_u, Nat.add_one_ne_zero, Nat.add_eq_zero_iff, and_false, false_and, not_false_eq_true, ne_eq, j0_0, j0_1, j1_0, j1_1, if_true, if_false, ite_true, ite_false, true_and, and_true, or_true, true_or, false_or, or_false, ↓reduceIte, Nat.reduceEqDiff, Nat.reduceAdd, Nat.reduceMul, Nat.reduceSub, Int.reduceLE, Int.reduceLT, Int.reduceNeg, Int.reduceAdd, Int.reduceSub, Int.reduceEq, reduceCtorEq, jI_lt, jI_eq, jI_lt0, jI_0lt, jI_eq0, jI_0le, jn_lo, iU_row, iU_nr, iU_eq, iU_same, jI_ixn, jI_add, jI_sub, jI_nat, sh_22, sh_sn hst, f_22_5 hF, hst0, s0, show ((i : Nat) : Int) ≤ 2147483647 by omega, show (i : Nat) ≤ 2147483647 by omega, show ((n : Nat) : Int) ≤ 2147483647 by omega, show (n : Nat) ≤ 2147483647 by omega, show -2147483648 ≤ (S 3 i : Int) by omega, show (S 3 i : Int) ≤ 2147483647 by omega, show (i : Int) < (n : Int) by omega, jI_in (z := ((i : Int) : Int)) (n := 8) (by omega) (by omega) (by omega), q, Int.add_zero]
      exact ih'
theorem c34 (hF : mFx F st nx 105 rl dr) (hst : st = 25 ∨ st = 26) (hn : n ≤ 8) {S : Nat → Nat → Int} (hS : ∀ j, j < n → I st j = jI (S 3 j) ∧ 0 ≤ S 3 j ∧ S 3 j ≤ 99) (hsm : 0 ≤ pSum S n ∧ pSum S n ≤ 800) (hw : ∀ j, j < n → I 24 j = jI (w j)) (hm : qMc n s I) (hP : ∀ I', vAg (fun r j => r = 23 ∨ (r = 22 ∧ (j = 1 ∨ j = 2))) I I' → qMc n (qTk (qLn S n) (pSum S n) w s) I' → P none (mLay eG) (I', E, F)) : mF d 34 [.ref 22, .int (jI n)] (mLay eG) (I, E, F) P := by
  have hl := qLn_in S n
  obtain ⟨m1, m2, m3, m4, m5⟩ := hm
  simp only [g34_in, g34_0, g34_1, g34_2, g34_3, g34_4, g34_5, nl_none, nl_int, nl_ref, Option.toList_some, Option.toList_none, List.cons_append, List.nil_append, mSetI_u, mSetL_u, Nat.add_one_ne_zero, Nat.add_eq_zero_iff, and_false, false_and, not_false_eq_true, ne_eq, j0_0, j0_1, j1_0, j1_1, if_true, if_false, ite_true, ite_false, true_and, and_true, or_true, true_or, false_or, or_false, ↓reduceIte, Nat.reduceEqDiff, Nat.reduceAdd, Nat.reduceMul, Nat.reduceSub, Int.reduceLE, Int.reduceLT, Int.reduceNeg, Int.reduceAdd, Int.reduceSub, Int.reduceEq, reduceCtorEq, jI_lt, jI_eq, jI_lt0, jI_0lt, jI_eq0, jI_0le, jn_lo, iU_row, iU_nr, iU_eq, iU_same, jI_ixn, jI_add, jI_sub, jI_nat]
  refine c34_l hF hst hn hS ?_ n 0 0 0 0 (by omega) rfl rfl rfl
  have yes : (qLn S n < s.1 ∨ (qLn S n = s.1 ∧ s.2.1 < pSum S n)) → P none (mLay eG) (cU (iU (iU I 22 1 (jI (qLn S n))) 22 2 (jI (pSum S n))) 24 23 0 0 8, E, F) := fun q => by
    refine hP _ (fun r j hr => ?_) ?_
    · rw [cU_row (by omega), iU_ne (by omega), iU_ne (by omega)]
    · rw [qTk, if_pos q]
      refine ⟨?_, ?_, ⟨hl.1, by show qLn S n ≤ 9; omega⟩, ⟨by show -1 ≤ pSum S n; omega, hsm.2⟩, fun _ j hj => ?_⟩
      · rw [cU_row (by omega), iU_same (by omega), iU_eq]
      · rw [cU_row (by omega), iU_eq]
      · rw [cU_0 (show j < 8 by omega), iU_row (by omega), iU_row (by omega)]
        exact hw j hj
  have no : ¬ (qLn S n < s.1 ∨ (qLn S n = s.1 ∧ s.2.1 < pSum S n)) → P none (mLay eG) (I, E, F) := fun q => by
    refine hP I vAg_rfl ?_
    rw [qTk, if_neg q]
    exact ⟨m1, m2, m3, m4, m5⟩
  rcases (by omega : qLn S n < s.1 ∨ (¬ qLn S n < s.1 ∧ qLn S n = s.1 ∧ s.2.1 < pSum S n) ∨ (¬ qLn S n < s.1 ∧ qLn S n = s.1 ∧ ¬ s.2.1 < pSum S n) ∨ (¬ qLn S n < s.1 ∧ ¬ qLn S n = s.1)) with q | q | q | q
  · have hp := yes (.inl q)
    simp only [g34_47, g34_48, g34_49, g34_52, g34_55, g34_56, g34_57, g34_60, g34_63, g34_64, g34_65, g34_68, g34_71, g34_72, g34_73, g34_76, g34_77, g34_78, g34_81, g34_82, g34_85, g34_86, g34_87, g34_90, g34_91, g34_93, g34_96, nl_none, nl_int, nl_ref, Option.toList_some, Option.toList_none, List.cons_append, List.nil_append, mSetI_u, mSetL_u, Nat.add_one_ne_zero, Nat.add_eq_zero_iff, and_false, false_and, not_false_eq_true, ne_eq, j0_0, j0_1, j1_0, j1_1, if_true, if_false, ite_true, ite_false, true_and, and_true, or_true, true_or, false_or, or_false, ↓reduceIte, Nat.reduceEqDiff, Nat.reduceAdd, Nat.reduceMul, Nat.reduceSub, Int.reduceLE, Int.reduceLT, Int.reduceNeg, Int.reduceAdd, Int.reduceSub, Int.reduceEq, reduceCtorEq, jI_lt, jI_eq, jI_lt0, jI_0lt, jI_eq0, jI_0le, jn_lo, iU_row, iU_nr, iU_eq, iU_same, jI_ixn, jI_add, jI_sub, jI_nat, sh_22, sh_23, sh_24, f_22_0 hF, f_22_4 hF, m1, m2, show -2147483648 ≤ (qLn S n : Int) by omega, show (qLn S n : Int) ≤ 2147483647 by omega, show -2147483648 ≤ (s.1 : Int) by omega, show (s.1 : Int) ≤ 2147483647 by omega, show -2147483648 ≤ (pSum S n : Int) by omega, show (pSum S n : Int) ≤ 2147483647 by omega, show -2147483648 ≤ (s.2.1 : Int) by omega, show (s.2.1 : Int) ≤ 2147483647 by omega, q, mCpyI_u, n8_8, n0_0, cp_8]
    exact hp
  · have hp := yes (.inr q.2)
    simp only [g34_47, g34_48, g34_49, g34_52, g34_55, g34_56, g34_57, g34_60, g34_63, g34_64, g34_65, g34_68, g34_71, g34_72, g34_73, g34_76, g34_77, g34_78, g34_81, g34_82, g34_85, g34_86, g34_87, g34_90, g34_91, g34_93, g34_96, nl_none, nl_int, nl_ref, Option.toList_some, Option.toList_none, List.cons_append, List.nil_append, mSetI_u, mSetL_u, Nat.add_one_ne_zero, Nat.add_eq_zero_iff, and_false, false_and, not_false_eq_true, ne_eq, j0_0, j0_1, j1_0, j1_1, if_true, if_false, ite_true, ite_false, true_and, and_true, or_true, true_or, false_or, or_false, ↓reduceIte, Nat.reduceEqDiff, Nat.reduceAdd, Nat.reduceMul, Nat.reduceSub, Int.reduceLE, Int.reduceLT, Int.reduceNeg, Int.reduceAdd, Int.reduceSub, Int.reduceEq, reduceCtorEq, jI_lt, jI_eq, jI_lt0, jI_0lt, jI_eq0, jI_0le, jn_lo, iU_row, iU_nr, iU_eq, iU_same, jI_ixn, jI_add, jI_sub, jI_nat, sh_22, sh_23, sh_24, f_22_0 hF, f_22_4 hF, m1, m2, show -2147483648 ≤ (qLn S n : Int) by omega, show (qLn S n : Int) ≤ 2147483647 by omega, show -2147483648 ≤ (s.1 : Int) by omega, show (s.1 : Int) ≤ 2147483647 by omega, show -2147483648 ≤ (pSum S n : Int) by omega, show (pSum S n : Int) ≤ 2147483647 by omega, show -2147483648 ≤ (s.2.1 : Int) by omega, show (s.2.1 : Int) ≤ 2147483647 by omega, q.1, q.2.1, q.2.2, eq_self, Int.lt_irrefl, mCpyI_u, n8_8, n0_0, cp_8]
    rw [q.2.1] at hp
    exact hp
  · have hp := no (by omega)
    simp only [g34_47, g34_48, g34_49, g34_52, g34_55, g34_56, g34_57, g34_60, g34_63, g34_64, g34_65, g34_68, g34_71, g34_72, g34_73, g34_76, g34_77, g34_78, g34_81, g34_82, g34_85, g34_86, g34_87, g34_90, g34_91, g34_93, g34_96, nl_none, nl_int, nl_ref, Option.toList_some, Option.toList_none, List.cons_append, List.nil_append, mSetI_u, mSetL_u, Nat.add_one_ne_zero, Nat.add_eq_zero_iff, and_false, false_and, not_false_eq_true, ne_eq, j0_0, j0_1, j1_0, j1_1, if_true, if_false, ite_true, ite_false, true_and, and_true, or_true, true_or, false_or, or_false, ↓reduceIte, Nat.reduceEqDiff, Nat.reduceAdd, Nat.reduceMul, Nat.reduceSub, Int.reduceLE, Int.reduceLT, Int.reduceNeg, Int.reduceAdd, Int.reduceSub, Int.reduceEq, reduceCtorEq, jI_lt, jI_eq, jI_lt0, jI_0lt, jI_eq0, jI_0le, jn_lo, iU_row, iU_nr, iU_eq, iU_same, jI_ixn, jI_add, jI_sub, jI_nat, sh_22, m1, m2, show -2147483648 ≤ (qLn S n : Int) by omega, show (qLn S n : Int) ≤ 2147483647 by omega, show -2147483648 ≤ (s.1 : Int) by omega, show (s.1 : Int) ≤ 2147483647 by omega, show -2147483648 ≤ (pSum S n : Int) by omega, show (pSum S n : Int) ≤ 2147483647 by omega, show -2147483648 ≤ (s.2.1 : Int) by omega, show (s.2.1 : Int) ≤ 2147483647 by omega, q.1, q.2.1, q.2.2, eq_self, Int.lt_irrefl]
    exact hp
  · have hp := no (by omega)
    simp only [g34_47, g34_48, g34_49, g34_52, g34_55, g34_56, g34_57, g34_60, g34_63, g34_64, g34_65, g34_68, g34_71, g34_72, g34_73, g34_76, g34_77, g34_78, g34_81, g34_82, g34_85, g34_86, g34_87, g34_90, g34_91, g34_93, g34_96, nl_none, nl_int, nl_ref, Option.toList_some, Option.toList_none, List.cons_append, List.nil_append, mSetI_u, mSetL_u, Nat.add_one_ne_zero, Nat.add_eq_zero_iff, and_false, false_and, not_false_eq_true, ne_eq, j0_0, j0_1, j1_0, j1_1, if_true, if_false, ite_true, ite_false, true_and, and_true, or_true, true_or, false_or, or_false, ↓reduceIte, Nat.reduceEqDiff, Nat.reduceAdd, Nat.reduceMul, Nat.reduceSub, Int.reduceLE, Int.reduceLT, Int.reduceNeg, Int.reduceAdd, Int.reduceSub, Int.reduceEq, reduceCtorEq, jI_lt, jI_eq, jI_lt0, jI_0lt, jI_eq0, jI_0le, jn_lo, iU_row, iU_nr, iU_eq, iU_same, jI_ixn, jI_add, jI_sub, jI_nat, sh_22, m1, m2, show -2147483648 ≤ (qLn S n : Int) by omega, show (qLn S n : Int) ≤ 2147483647 by omega, show -2147483648 ≤ (s.1 : Int) by omega, show (s.1 : Int) ≤ 2147483647 by omega, show -2147483648 ≤ (pSum S n : Int) by omega, show (pSum S n : Int) ≤ 2147483647 by omega, show -2147483648 ≤ (s.2.1 : Int) by omega, show (s.2.1 : Int) ≤ 2147483647 by omega, q.1, q.2]
    exact hp
end WGH
