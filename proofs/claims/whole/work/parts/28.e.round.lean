/-! ===== round ===== -/
section FIN
variable {d n : Nat} {e : List mShp} {I : Nat → Nat → Int32} {E : Nat → Nat → Int64} {F : Nat → Nat → Nat} {P : mPost} {T : Nat → Nat → Int} {lw : vLw} {st nx gf rl dr h sn : Nat} {w : Nat → Nat} {s : qSt}
theorem c31 {Q : Nat} (hQ : n + 6 ≤ Q) (hrl : rl = 70 ∨ rl = 75) (hok : vTownOk n T) (hl : ∀ g q n k s t, 0 ≤ lw g q n k s t ∧ lw g q n k s t ≤ 20) (hsn : sn ≤ 512) (hh : h ≤ 6) (hF : mFx F st nx 105 rl dr) (hsx : qSx st nx) (hc : cOk lw n T rl sn h I) (hm : qMc n s I) (hP : ∀ I' F' st' nx', mFx F' st' nx' 105 rl dr → qSx st' nx' → vAg (vScQ rl) I I' → cOk lw n T rl sn h I' → qMc n (qSc (qLc lw n T h) n n 0 (fun _ => 0) 0 s) I' → P none (mLay eG) (I', E, F')) : mF Q 31 [.ref 22, .ref 4, .ref rl, .int (jI 0), .int (jI 0)] (mLay eG) (I, E, F) P := by
  obtain ⟨d, rfl⟩ : ∃ d, Q = d + 6 + n := ⟨Q - 6 - n, by omega⟩
  exact c31_k hrl hok hl hsn hh n d 0 0 (fun _ => 0) s I F st nx P _ _ (by omega) (qIn_0 n _) hF hsx hc (fun j hj => absurd hj (by omega)) hm rfl rfl (fun I' F' st' nx' a1 a2 a3 a4 _ a6 => hP I' F' st' nx' a1 a2 a3 a4 a6)
theorem c30_b (hrl : rl = 70 ∨ rl = 75) (hok : vTownOk n T) (h2 : 2 ≤ n) (hl : ∀ g q n k s t, 0 ≤ lw g q n k s t ∧ lw g q n k s t ≤ 20) (hsn : sn ≤ 511) (hh : h ≤ 6) (hF : mFx F st nx 105 rl dr) (hsx : qSx st nx) (hc : vTc n T 4 I) (hlw : vLawC lw (I (rl + 1)) (I (rl + 2)) (I rl 2)) (h8 : I 22 8 = jI sn) (hg : ∀ s, s < 38400 → ∃ g : Nat, I 105 s = jI g ∧ g < 32 * (sn + 1)) (hP : ∀ I' F' st' nx', mFx F' st' nx' 105 rl dr → qSx st' nx' → vAg (vScF rl) I I' → I' 22 8 = jI ((sn + 1 : Nat) : Int) → (∀ s, s < 38400 → ∃ g : Nat, I' 105 s = jI g ∧ g < 32 * (sn + 1 + 1)) → I' 22 3 = jI h → qMc n (qRd lw n T h) I' → P none (mLay eG) (I', E, F')) : mG 99 30 25 [some (.ref 22), some (.ref 4), some (.ref rl), some (.int (jI h))] [] (mLay eG) (I, E, F) P := by
  have hn := hok.1
  have hrl0 : ¬ rl = 0 := by omega
  obtain ⟨I1, hI1⟩ : ∃ I1, I1 = iU (iU (iU (iU I 22 9 (jI h)) 22 8 (jI ((sn : Int) + 1))) 22 1 (jI 9)) 22 2 (jI (-1)) := ⟨_, rfl⟩
  have ha : vAg (fun r _ => r = 22) I I1 := by
    rw [hI1]
    exact vAg_iU (vAg_iU (vAg_iU (vAg_iU vAg_rfl rfl) rfl) rfl) rfl
  have hc1 : cOk lw n T rl (sn + 1) h I1 := by
    refine ⟨vTc_ag ha (fun r j q => by omega) hc, ?_, ?_, ?_, fun s hs => ?_⟩
    · rw [vAg_row (r := rl + 1) ha (fun j => by omega), vAg_row (r := rl + 2) ha (fun j => by omega), ha rl 2 (by omega)]
      exact hlw
    · rw [hI1, iU_same (by omega), iU_same (by omega), iU_eq]
      rfl
    · rw [hI1, iU_same (by omega), iU_same (by omega), iU_same (by omega), iU_eq]
    · obtain ⟨g, g1, g2⟩ := hg s hs
      exact ⟨g, (ha 105 s (by omega)).trans g1, by omega, fun q => absurd q (by omega)⟩
  have hm1 : qMc n (9, -1, fun _ => 0) I1 := by
    refine ⟨?_, ?_, ⟨by show (0 : Int) ≤ 9; omega, by show (9 : Int) ≤ 9; omega⟩, ⟨by show (-1 : Int) ≤ -1; omega, by show (-1 : Int) ≤ 800; omega⟩, fun q => absurd q (by show ¬ (9 : Int) ≤ 8; omega)⟩
    · rw [hI1, iU_same (by omega), iU_eq]
    · rw [hI1, iU_eq]
  simp only [g30_25, g30_26, g30_27, g30_30, g30_31, g30_32, g30_35, g30_36, g30_37, g30_40, g30_41, g30_43, g30_46, g30_47, g30_48, g30_51, g30_52, g30_53, g30_54, g30_55, g30_56, nl_none, nl_int, nl_ref, Option.toList_some, Option.toList_none, List.cons_append, List.nil_append, mSetI_u, mSetL_u, Nat.add_one_ne_zero, Nat.add_eq_zero_iff, and_false, false_and, not_false_eq_true, ne_eq, j0_0, j0_1, j1_0, j1_1, if_true, if_false, ite_true, ite_false, true_and, and_true, or_true, true_or, false_or, or_false, ↓reduceIte, Nat.reduceEqDiff, Nat.reduceAdd, Nat.reduceMul, Nat.reduceSub, Int.reduceLE, Int.reduceLT, Int.reduceNeg, Int.reduceAdd, Int.reduceSub, Int.reduceEq, reduceCtorEq, jI_lt, jI_eq, jI_lt0, jI_0lt, jI_eq0, jI_0le, jn_lo, iU_row, iU_nr, iU_eq, iU_same, jI_ixn, jI_add, jI_sub, jI_nat, sh_22, hrl0, h8, show ((sn : Nat) : Int) ≤ 2147483647 by omega, show (sn : Nat) ≤ 2147483647 by omega]
  rw [← hI1]
  refine c31 (Q := 98) (by omega) hrl hok hl (show sn + 1 ≤ 512 by omega) hh hF hsx hc1 hm1 (fun I2 F2 st2 nx2 a1 a2 a3 a4 a5 => ?_)
  rw [(qRd_c hn h2).1] at a5
  have hag : vAg (vScF rl) I (iU I2 22 3 (jI h)) := vAg_iU (vAg_tr (vAg_mono ha (fun r j q => .inl q)) (vAg_mono a3 (fun r j q => by unfold vScQ at q; unfold vScF; omega))) (.inl rfl)
  have hp := hP (iU I2 22 3 (jI h)) F2 st2 nx2 a1 a2 hag (by rw [iU_same (by omega)]; exact a4.2.2.1) (fun s hs => by
    obtain ⟨g, g1, g2, -⟩ := a4.2.2.2.2 s hs
    exact ⟨g, by rw [iU_row (by omega)]; exact g1, by omega⟩) iU_eq (by
    obtain ⟨m1, m2, m3, m4, m5⟩ := a5
    refine ⟨?_, ?_, m3, m4, fun q j hj => ?_⟩
    · rw [iU_same (by omega)]
      exact m1
    · rw [iU_same (by omega)]
      exact m2
    · rw [iU_row (by omega)]
      exact m5 q j hj)
  simp only [g30_59, g30_60, g30_61, g30_64, nl_none, nl_int, nl_ref, Option.toList_some, Option.toList_none, List.cons_append, List.nil_append, mSetI_u, mSetL_u, Nat.add_one_ne_zero, Nat.add_eq_zero_iff, and_false, false_and, not_false_eq_true, ne_eq, j0_0, j0_1, j1_0, j1_1, if_true, if_false, ite_true, ite_false, true_and, and_true, or_true, true_or, false_or, or_false, ↓reduceIte, Nat.reduceEqDiff, Nat.reduceAdd, Nat.reduceMul, Nat.reduceSub, Int.reduceLE, Int.reduceLT, Int.reduceNeg, Int.reduceAdd, Int.reduceSub, Int.reduceEq, reduceCtorEq, jI_lt, jI_eq, jI_lt0, jI_0lt, jI_eq0, jI_0le, jn_lo, iU_row, iU_nr, iU_eq, iU_same, jI_ixn, jI_add, jI_sub, jI_nat, sh_22]
  exact hp
theorem c30 (hrl : rl = 70 ∨ rl = 75) (hok : vTownOk n T) (h2 : 2 ≤ n) (hl : ∀ g q n k s t, 0 ≤ lw g q n k s t ∧ lw g q n k s t ≤ 20) (hsn : sn ≤ 511) (hh : h ≤ 6) (hF : mFx F st nx gf rl dr) (hsx : qSx st nx) (hgf : (gf = 27 ∧ e = []) ∨ (gf = 105 ∧ e = [(0, 38400)])) (hc : vTc n T 4 I) (hlw : vLawC lw (I (rl + 1)) (I (rl + 2)) (I rl 2)) (h8 : I 22 8 = jI sn) (hg : gf = 105 → ∀ s, s < 38400 → ∃ g : Nat, I gf s = jI g ∧ g < 32 * (sn + 1)) {z : Int} (h3 : I 22 3 = jI z) (hz0 : -1 ≤ z) (hz1 : z ≤ 6) (hne : ¬ z = h) (hP : ∀ I' E' F' st' nx', mFx F' st' nx' 105 rl dr → qSx st' nx' → E' 59 = E 59 → E' 96 = E 96 → vAg (vScF rl) I I' → I' 22 8 = jI ((sn + 1 : Nat) : Int) → (∀ s, s < 38400 → ∃ g : Nat, I' 105 s = jI g ∧ g < 32 * (sn + 1 + 1)) → I' 22 3 = jI h → qMc n (qRd lw n T h) I' → P none (mLay eG) (I', E', F')) : mF 99 30 [.ref 22, .ref 4, .ref rl, .int (jI h)] (mLay e) (I, E, F) P := by
  have hrl0 : ¬ rl = 0 := by omega
  rcases hgf with ⟨rfl, rfl⟩ | ⟨rfl, rfl⟩
  · have hF2 := mFx_gf (mFx_nu hF)
    have hag : vAg (fun r _ => r = 105) I (nU I 105) := fun r j q => by rw [nU_row q]
    have hb := c30_b (I := nU I 105) (E := nU E 105) (P := P) hrl hok h2 hl hsn hh hF2 hsx (vTc_ag hag (fun r j q => by omega) hc) (by rw [nU_row (by omega), nU_row (by omega), nU_row (by omega)]; exact hlw) (by rw [nU_row (by omega)]; exact h8) (fun s hs => ⟨0, if_pos rfl, by omega⟩) (fun I' F' st' nx' a1 a2 a3 a4 a5 a6 a7 => hP I' (nU E 105) F' st' nx' a1 a2 (nU_row (by omega)) (nU_row (by omega)) (vAg_tr (vAg_mono hag (fun r j q => by unfold vScF; omega)) a3) a4 a5 a6 a7)
    simp only [g30_in, g30_0, g30_1, g30_4, g30_5, g30_8, g30_9, g30_10, g30_14, g30_17, g30_18, nl_none, nl_int, nl_ref, Option.toList_some, Option.toList_none, List.cons_append, List.nil_append, mSetI_u, mSetL_u, Nat.add_one_ne_zero, Nat.add_eq_zero_iff, and_false, false_and, not_false_eq_true, ne_eq, j0_0, j0_1, j1_0, j1_1, if_true, if_false, ite_true, ite_false, true_and, and_true, or_true, true_or, false_or, or_false, ↓reduceIte, Nat.reduceEqDiff, Nat.reduceAdd, Nat.reduceMul, Nat.reduceSub, Int.reduceLE, Int.reduceLT, Int.reduceNeg, Int.reduceAdd, Int.reduceSub, Int.reduceEq, reduceCtorEq, jI_lt, jI_eq, jI_lt0, jI_0lt, jI_eq0, jI_0le, jn_lo, iU_row, iU_nr, iU_eq, iU_same, jI_ixn, jI_add, jI_sub, jI_nat, sh_22, sh_27, g30_13a, f_22_7 hF, hrl0, h3, show -2147483648 ≤ (z : Int) by omega, show (z : Int) ≤ 2147483647 by omega, show ((h : Nat) : Int) ≤ 2147483647 by omega, show (h : Nat) ≤ 2147483647 by omega, hne, show ((0 : Nat) : Int) = 0 from rfl, eq_self]
    rw [g30_20]
    refine ⟨by decide, ?_⟩
    show mG 99 30 22 [some (.ref 22), some (.ref 4), some (.ref rl), some (.int (jI h))] [.ref 105, .ref 22] (mLay eG) (nU I 105, nU E 105, nU F 105) P
    simp only [g30_22, nl_none, nl_int, nl_ref, Option.toList_some, Option.toList_none, List.cons_append, List.nil_append, mSetI_u, mSetL_u, Nat.add_one_ne_zero, Nat.add_eq_zero_iff, and_false, false_and, not_false_eq_true, ne_eq, j0_0, j0_1, j1_0, j1_1, if_true, if_false, ite_true, ite_false, true_and, and_true, or_true, true_or, false_or, or_false, ↓reduceIte, Nat.reduceEqDiff, Nat.reduceAdd, Nat.reduceMul, Nat.reduceSub, Int.reduceLE, Int.reduceLT, Int.reduceNeg, Int.reduceAdd, Int.reduceSub, Int.reduceEq, reduceCtorEq, jI_lt, jI_eq, jI_lt0, jI_0lt, jI_eq0, jI_0le, jn_lo, iU_row, iU_nr, iU_eq, iU_same, jI_ixn, jI_add, jI_sub, jI_nat, sh_22, mSetR_u]
    exact hb
  · have hb := c30_b (I := I) (E := E) (P := P) hrl hok h2 hl hsn hh hF hsx hc hlw h8 (hg rfl) (fun I' F' st' nx' a1 a2 a3 a4 a5 a6 a7 => hP I' E F' st' nx' a1 a2 rfl rfl a3 a4 a5 a6 a7)
    simp only [g30_in, g30_0, g30_1, g30_4, g30_5, g30_8, g30_9, g30_10, g30_14, nl_none, nl_int, nl_ref, Option.toList_some, Option.toList_none, List.cons_append, List.nil_append, mSetI_u, mSetL_u, Nat.add_one_ne_zero, Nat.add_eq_zero_iff, and_false, false_and, not_false_eq_true, ne_eq, j0_0, j0_1, j1_0, j1_1, if_true, if_false, ite_true, ite_false, true_and, and_true, or_true, true_or, false_or, or_false, ↓reduceIte, Nat.reduceEqDiff, Nat.reduceAdd, Nat.reduceMul, Nat.reduceSub, Int.reduceLE, Int.reduceLT, Int.reduceNeg, Int.reduceAdd, Int.reduceSub, Int.reduceEq, reduceCtorEq, jI_lt, jI_eq, jI_lt0, jI_0lt, jI_eq0, jI_0le, jn_lo, iU_row, iU_nr, iU_eq, iU_same, jI_ixn, jI_add, jI_sub, jI_nat, sh_22, sh_105, g30_13b, f_22_7 hF, hrl0, h3, show -2147483648 ≤ (z : Int) by omega, show (z : Int) ≤ 2147483647 by omega, show ((h : Nat) : Int) ≤ 2147483647 by omega, show (h : Nat) ≤ 2147483647 by omega, hne, show ((38400 : Nat) : Int) = 38400 from rfl]
    exact hb
def qVal (B : qSt) (u : Int) : Int := if u = -1 then B.1 else if u = -2 then B.2.1 else ((B.2.2 u.toNat : Nat) : Int)
theorem c105_g (hF : mFx F st nx gf rl dr) (hn : n ≤ 8) {B : qSt} (k1 : I 22 1 = jI B.1) (k2 : I 22 2 = jI B.2.1) (k3 : ∀ j, j < n → I 23 j = jI (B.2.2 j)) {z u : Int} (hu : u = -1 ∨ u = -2 ∨ (0 ≤ u ∧ u < n)) (hP : P (some (.int (jI (qVal B u)))) (mLay e) (I, E, F)) : mG d 105 64 [some (.ref 3), some (.int (jI z)), some (.int (jI u))] [] (mLay e) (I, E, F) P := by
  rcases hu with rfl | rfl | hu
  · rw [qVal, if_pos rfl] at hP
    simp only [g105_64, g105_65, g105_66, g105_69, g105_70, g105_73, g105_76, g105_77, g105_78, g105_80, g105_83, g105_84, g105_87, g105_90, g105_93, g105_94, g105_97, g105_100, g105_101, g105_102, nl_none, nl_int, nl_ref, Option.toList_some, Option.toList_none, List.cons_append, List.nil_append, mSetI_u, mSetL_u, Nat.add_one_ne_zero, Nat.add_eq_zero_iff, and_false, false_and, not_false_eq_true, ne_eq, j0_0, j0_1, j1_0, j1_1, if_true, if_false, ite_true, ite_false, true_and, and_true, or_true, true_or, false_or, or_false, ↓reduceIte, Nat.reduceEqDiff, Nat.reduceAdd, Nat.reduceMul, Nat.reduceSub, Int.reduceLE, Int.reduceLT, Int.reduceNeg, Int.reduceAdd, Int.reduceSub, Int.reduceEq, reduceCtorEq, jI_lt, jI_eq, jI_lt0, jI_0lt, jI_eq0, jI_0le, jn_lo, iU_row, iU_nr, iU_eq, iU_same, jI_ixn, jI_add, jI_sub, jI_nat, sh_3, sh_22, f_3_3 hF, k1, eq_self]
    exact hP
  · rw [qVal, if_neg (by omega), if_pos rfl] at hP
    simp only [g105_64, g105_65, g105_66, g105_69, g105_70, g105_73, g105_76, g105_77, g105_78, g105_80, g105_83, g105_84, g105_87, g105_90, g105_93, g105_94, g105_97, g105_100, g105_101, g105_102, nl_none, nl_int, nl_ref, Option.toList_some, Option.toList_none, List.cons_append, List.nil_append, mSetI_u, mSetL_u, Nat.add_one_ne_zero, Nat.add_eq_zero_iff, and_false, false_and, not_false_eq_true, ne_eq, j0_0, j0_1, j1_0, j1_1, if_true, if_false, ite_true, ite_false, true_and, and_true, or_true, true_or, false_or, or_false, ↓reduceIte, Nat.reduceEqDiff, Nat.reduceAdd, Nat.reduceMul, Nat.reduceSub, Int.reduceLE, Int.reduceLT, Int.reduceNeg, Int.reduceAdd, Int.reduceSub, Int.reduceEq, reduceCtorEq, jI_lt, jI_eq, jI_lt0, jI_0lt, jI_eq0, jI_0le, jn_lo, iU_row, iU_nr, iU_eq, iU_same, jI_ixn, jI_add, jI_sub, jI_nat, sh_3, sh_22, f_3_3 hF, k2, eq_self]
    exact hP
  · obtain ⟨p, rfl⟩ : ∃ p : Nat, u = p := ⟨u.toNat, by omega⟩
    rw [qVal, if_neg (by omega), if_neg (by omega), Int.toNat_natCast, ← k3 p (by omega)] at hP
    simp only [g105_64, g105_65, g105_66, g105_69, g105_70, g105_73, g105_76, g105_77, g105_78, g105_80, g105_83, g105_84, g105_87, g105_90, g105_93, g105_94, g105_97, g105_100, g105_101, g105_102, nl_none, nl_int, nl_ref, Option.toList_some, Option.toList_none, List.cons_append, List.nil_append, mSetI_u, mSetL_u, Nat.add_one_ne_zero, Nat.add_eq_zero_iff, and_false, false_and, not_false_eq_true, ne_eq, j0_0, j0_1, j1_0, j1_1, if_true, if_false, ite_true, ite_false, true_and, and_true, or_true, true_or, false_or, or_false, ↓reduceIte, Nat.reduceEqDiff, Nat.reduceAdd, Nat.reduceMul, Nat.reduceSub, Int.reduceLE, Int.reduceLT, Int.reduceNeg, Int.reduceAdd, Int.reduceSub, Int.reduceEq, reduceCtorEq, jI_lt, jI_eq, jI_lt0, jI_0lt, jI_eq0, jI_0le, jn_lo, iU_row, iU_nr, iU_eq, iU_same, jI_ixn, jI_add, jI_sub, jI_nat, sh_3, sh_22, sh_23, f_3_3 hF, f_22_0 hF, show ((p : Nat) : Int) ≤ 2147483647 by omega, show (p : Nat) ≤ 2147483647 by omega, show ¬ ((p : Int) = -1) by omega, show ¬ ((p : Int) = -2) by omega, jI_in (z := ((p : Int) : Int)) (n := 8) (by omega) (by omega) (by omega)]
    exact hP
theorem r193_g (hF : mFx F st nx gf rl dr) (hn : n ≤ 8) {B : qSt} (hB : B.1 ≤ 8) (hm : qMr n B I) {z u : Int} (hu : u = -1 ∨ u = -2 ∨ (0 ≤ u ∧ u < n)) (hP : P (some (.int (jI (qVal B u)))) (mLay e) (I, E, F)) : mG d 193 55 [some (.ref 80), some (.int (jI z)), some (.int (jI u))] [] (mLay e) (I, E, F) P := by
  obtain ⟨k1, k2, -, -, k3⟩ := hm
  rcases hu with rfl | rfl | hu
  · rw [qVal, if_pos rfl] at hP
    simp only [g193_55, g193_56, g193_57, g193_60, g193_61, g193_64, g193_67, g193_68, g193_70, g193_73, g193_74, g193_77, g193_80, g193_81, g193_84, g193_85, g193_86, nl_none, nl_int, nl_ref, Option.toList_some, Option.toList_none, List.cons_append, List.nil_append, mSetI_u, mSetL_u, Nat.add_one_ne_zero, Nat.add_eq_zero_iff, and_false, false_and, not_false_eq_true, ne_eq, j0_0, j0_1, j1_0, j1_1, if_true, if_false, ite_true, ite_false, true_and, and_true, or_true, true_or, false_or, or_false, ↓reduceIte, Nat.reduceEqDiff, Nat.reduceAdd, Nat.reduceMul, Nat.reduceSub, Int.reduceLE, Int.reduceLT, Int.reduceNeg, Int.reduceAdd, Int.reduceSub, Int.reduceEq, reduceCtorEq, jI_lt, jI_eq, jI_lt0, jI_0lt, jI_eq0, jI_0le, jn_lo, iU_row, iU_nr, iU_eq, iU_same, jI_ixn, jI_add, jI_sub, jI_nat, sh_80, k1, eq_self]
    exact hP
  · rw [qVal, if_neg (by omega), if_pos rfl] at hP
    simp only [g193_55, g193_56, g193_57, g193_60, g193_61, g193_64, g193_67, g193_68, g193_70, g193_73, g193_74, g193_77, g193_80, g193_81, g193_84, g193_85, g193_86, nl_none, nl_int, nl_ref, Option.toList_some, Option.toList_none, List.cons_append, List.nil_append, mSetI_u, mSetL_u, Nat.add_one_ne_zero, Nat.add_eq_zero_iff, and_false, false_and, not_false_eq_true, ne_eq, j0_0, j0_1, j1_0, j1_1, if_true, if_false, ite_true, ite_false, true_and, and_true, or_true, true_or, false_or, or_false, ↓reduceIte, Nat.reduceEqDiff, Nat.reduceAdd, Nat.reduceMul, Nat.reduceSub, Int.reduceLE, Int.reduceLT, Int.reduceNeg, Int.reduceAdd, Int.reduceSub, Int.reduceEq, reduceCtorEq, jI_lt, jI_eq, jI_lt0, jI_0lt, jI_eq0, jI_0le, jn_lo, iU_row, iU_nr, iU_eq, iU_same, jI_ixn, jI_add, jI_sub, jI_nat, sh_80, k2, eq_self]
    exact hP
  · obtain ⟨p, rfl⟩ : ∃ p : Nat, u = p := ⟨u.toNat, by omega⟩
    rw [qVal, if_neg (by omega), if_neg (by omega), Int.toNat_natCast, ← k3 hB p (by omega)] at hP
    simp only [g193_55, g193_56, g193_57, g193_60, g193_61, g193_64, g193_67, g193_68, g193_70, g193_73, g193_74, g193_77, g193_80, g193_81, g193_84, g193_85, g193_86, nl_none, nl_int, nl_ref, Option.toList_some, Option.toList_none, List.cons_append, List.nil_append, mSetI_u, mSetL_u, Nat.add_one_ne_zero, Nat.add_eq_zero_iff, and_false, false_and, not_false_eq_true, ne_eq, j0_0, j0_1, j1_0, j1_1, if_true, if_false, ite_true, ite_false, true_and, and_true, or_true, true_or, false_or, or_false, ↓reduceIte, Nat.reduceEqDiff, Nat.reduceAdd, Nat.reduceMul, Nat.reduceSub, Int.reduceLE, Int.reduceLT, Int.reduceNeg, Int.reduceAdd, Int.reduceSub, Int.reduceEq, reduceCtorEq, jI_lt, jI_eq, jI_lt0, jI_0lt, jI_eq0, jI_0le, jn_lo, iU_row, iU_nr, iU_eq, iU_same, jI_ixn, jI_add, jI_sub, jI_nat, sh_80, sh_93, f_80_24 hF, show ((p : Nat) : Int) ≤ 2147483647 by omega, show (p : Nat) ≤ 2147483647 by omega, show ¬ ((p : Int) = -1) by omega, show ¬ ((p : Int) = -2) by omega, jI_in (z := ((p : Int) : Int)) (n := 8) (by omega) (by omega) (by omega)]
    exact hP
/-- the reference's call -/
theorem r193 (hF : mFx F st nx gf rl dr) (hok : vTownOk n T) (h2 : 2 ≤ n) (hl : ∀ g q n k s t, 0 ≤ lw g q n k s t ∧ lw g q n k s t ≤ 20) (hh : h ≤ 6) (hR : vTownR n T (I 81) (I 80 2)) (hlw : vLawR lw (I 87) (I 80 11) (I 80 12) (I 90)) (hg : I 80 20 = jI (-1)) {u : Int} (hu : u = -1 ∨ u = -2 ∨ (0 ≤ u ∧ u < n)) (hP : ∀ I', vAg (fun r j => vScr r j ∨ r = 81) I I' → (∀ j, j < 42 → I' 81 j = I 81 j) → P (some (.int (jI (qVal (qRd lw n T h) u)))) (mLay e) (I', E, F)) : mF 100 193 [.ref 80, .int (jI h), .int (jI u)] (mLay e) (I, E, F) P := by
  have hn := hok.1
  obtain ⟨I1, hI1⟩ : ∃ I1, I1 = iU (iU (iU I 80 25 (jI 2147483647)) 80 26 (jI (-1))) 80 27 (jI h) := ⟨_, rfl⟩
  have ha : vAg (fun r j => r = 80 ∧ 25 ≤ j ∧ j ≤ 27) I I1 := by
    rw [hI1]
    exact vAg_iU (vAg_iU (vAg_iU vAg_rfl ⟨rfl, by omega, by omega⟩) ⟨rfl, by omega, by omega⟩) ⟨rfl, by omega, by omega⟩
  have hR1 : vTownR n T (I1 81) (I1 80 2) := vTr_ag ha (fun r j q => by omega) hR
  have hl1 : vLawR lw (I1 87) (I1 80 11) (I1 80 12) (I1 90) := vLr_ag ha (fun r j q => by omega) hlw
  have g1 : I1 80 20 = jI (-1) := (ha 80 20 (by omega)).trans hg
  have d1 : I1 80 27 = jI h := by rw [hI1, iU_eq]
  have hm : qMr n (2147483647, -1, fun _ => 0) I1 := by
    refine ⟨?_, ?_, ⟨by show (0 : Int) ≤ 2147483647; omega, by show (2147483647 : Int) ≤ 2147483647; omega⟩, ⟨by show (-1 : Int) ≤ -1; omega, by show (-1 : Int) ≤ 800; omega⟩, fun q => absurd q (by show ¬ (2147483647 : Int) ≤ 8; omega)⟩
    · rw [hI1, iU_same (by omega), iU_same (by omega), iU_eq]
    · rw [hI1, iU_same (by omega), iU_eq]
  have hB := (qRd_c (lw := lw) (T := T) (h := h) hn h2).2
  simp only [g193_in, g193_0, g193_1, g193_2, g193_4, g193_7, g193_10, g193_11, g193_13, g193_14, g193_17, g193_18, g193_19, g193_22, g193_25, g193_26, g193_27, g193_28, g193_31, g193_32, g193_35, g193_37, g193_38, g193_39, g193_42, g193_43, g193_44, g193_47, g193_48, g193_49, g193_50, g193_51, g193_52, g192_in, g192_0, g192_1, g192_4, g192_7, g192_8, g192_9, g192_12, nl_none, nl_int, nl_ref, Option.toList_some, Option.toList_none, List.cons_append, List.nil_append, mSetI_u, mSetL_u, Nat.add_one_ne_zero, Nat.add_eq_zero_iff, and_false, false_and, not_false_eq_true, ne_eq, j0_0, j0_1, j1_0, j1_1, if_true, if_false, ite_true, ite_false, true_and, and_true, or_true, true_or, false_or, or_false, ↓reduceIte, Nat.reduceEqDiff, Nat.reduceAdd, Nat.reduceMul, Nat.reduceSub, Int.reduceLE, Int.reduceLT, Int.reduceNeg, Int.reduceAdd, Int.reduceSub, Int.reduceEq, reduceCtorEq, jI_lt, jI_eq, jI_lt0, jI_0lt, jI_eq0, jI_0le, jn_lo, iU_row, iU_nr, iU_eq, iU_same, jI_ixn, jI_add, jI_sub, jI_nat, sh_80, hR.2.2.2, show ((n : Nat) : Int) ≤ 2147483647 by omega, show (n : Nat) ≤ 2147483647 by omega, show ¬ ((n : Int) < 2) by omega, r146_t (z := (h : Int)) (a := 0) (b := 6) (by omega) (by omega) (by omega) (by omega), r146_t (z := u) (a := -2) (b := (n : Int) - 1) (by omega) (by omega) (by omega) (by omega)]
  rw [← hI1]
  refine r191 (T := T) (s := (2147483647, -1, fun _ => 0)) hF hok hR1 (r191_r hF hok (by omega) hh hl hR1 hl1 g1 d1) (show 75 + n ≤ 99 by omega) qG_rfl hm (fun I2 h2' hm2 => ?_)
  show mG 100 193 55 [some (.ref 80), some (.int (jI (h : Int))), some (.int (jI u))] [] (mLay e) (I2, E, F) P
  refine r193_g (d := 100) hF hn hB hm2 hu (hP I2 (vAg_tr (vAg_mono ha (fun r j q => .inl ?_)) (vAg_mono h2'.1 (fun r j q => q.1))) (fun j hj => (h2'.2 j hj).trans (ha 81 j (by omega))))
  obtain ⟨rfl, q1, q2⟩ := q
  unfold vScr
  omega
theorem vInv_rg {c bn st' nx' : Nat} {I' : Nat → Nat → Int32} {E' : Nat → Nat → Int64} {F' : Nat → Nat → Nat} (h : vInv c e I E F st nx gf rl dr n bn T lw) (hF' : mFx F' st' nx' 105 rl dr) (hsx : qSx st' nx') (he1 : E' 59 = E 59) (he2 : E' 96 = E 96) (ha : vAg (fun r j => vScF rl r j ∨ vScr r j ∨ r = 81) I I') (h81 : ∀ j, j < 42 → I' 81 j = I 81 j) (hr : vRing (c + 1) n T lw (I' 23) (I' 22 1) (I' 22 2) (I' 22 3) (I' 22 8) 105 (I' 105)) : vInv (c + 1) eG I' E' F' st' nx' 105 rl dr n bn T lw := by
  obtain ⟨h1, h2, h3, h4, h5, h6, h7, h8, h9, h10, h11, h12, h13, h14, h15, h16, h17, h18⟩ := h
  have hrow : ∀ r, (∀ j, ¬ (vScF rl r j ∨ vScr r j ∨ r = 81)) → I' r = I r := fun r hr => vAg_row ha hr
  have hpl : ∀ r j, ¬ (vScF rl r j ∨ vScr r j ∨ r = 81) → I' r j = I r j := ha
  have hrl : rl = 70 ∨ rl = 75 := by omega
  unfold vScF vScr at hrow hpl
  refine ⟨hF', hsx, h3, .inr ⟨rfl, rfl⟩, h5, ?_, ?_, ?_, ?_, ?_, ?_, ?_, ?_, ?_, ?_, ?_, hr, ?_⟩
  · rw [hrow 5 (by omega), hrow 6 (by omega), hrow 7 (by omega), hrow 8 (by omega), hrow 9 (by omega), hpl 4 0 (by omega), hpl 4 6 (by omega), hpl 4 7 (by omega)]
    exact h6
  · have hn := h5.1
    refine ⟨fun i hi w hw => ?_, ?_, ?_, ?_⟩
    · rw [h81 _ (by omega)]
      exact h7.1 i hi w hw
    · rw [h81 _ (by omega)]
      exact h7.2.1
    · rw [h81 _ (by omega)]
      exact h7.2.2.1
    · rw [hpl 80 2 (by omega)]
      exact h7.2.2.2
  · rw [hpl 80 20 (by omega)]
    exact h8
  · rw [hrow 60 (by omega), hrow 98 (by omega)]
    exact h9
  · rw [hpl 3 12 (by omega), hpl 80 37 (by omega), hrow 62 (by omega), hrow 63 (by omega), hrow 64 (by omega), hrow 65 (by omega), hrow 66 (by omega), hpl 61 0 (by omega), hpl 61 6 (by omega), hpl 61 7 (by omega), hrow 99 (by omega), hpl 80 36 (by omega), hrow 69 (by omega), hrow 100 (by omega)]
    exact h10
  · rw [hpl 48 4 (by omega), hpl 48 5 (by omega), hpl 80 6 (by omega), hpl 80 7 (by omega), hrow 49 (by omega), hrow 50 (by omega), hrow 51 (by omega), hrow 52 (by omega), hrow 83 (by omega), hrow 84 (by omega), hrow 85 (by omega)]
    exact h11
  · rw [hpl 20 1 (by omega), hpl 80 9 (by omega), hrow 21 (by omega), hrow 86 (by omega)]
    exact h12
  · rw [hpl 53 1 (by omega), hpl 80 41 (by omega), hrow 54 (by omega), hrow 103 (by omega), hpl 53 3 (by omega), hpl 80 43 (by omega), hrow 55 (by omega), hrow 104 (by omega), hrow 101 (by omega), hrow 102 (by omega)]
    exact h13
  · rw [hrow 57 (by omega), hrow 58 (by omega), hrow 94 (by omega), hrow 95 (by omega), he1, he2]
    exact h14
  · rw [hrow (rl + 1) (by omega), hrow (rl + 2) (by omega), hpl rl 2 (by omega)]
    exact h15
  · rw [hrow 87 (by omega), hrow 90 (by omega), hpl 80 11 (by omega), hpl 80 12 (by omega)]
    exact h16
  · rw [hrow 90 (by omega)]
    exact h18
end FIN
theorem api_round (x y : Int32) : mApiI vI 105 193 [.int x, .int y] := by
  rintro c lay M hc ⟨e, I, E, F, st, nx, gf, rl, dr, n, bn, T, lw, rfl, rfl, hI⟩
  have hF := hI.1
  have hI0 := hI
  obtain ⟨-, hsx, h3, h4, h5, h6, h7, h8, -, -, -, -, -, -, h15, h16, h17, -⟩ := hI
  have hrl : rl = 70 ∨ rl = 75 := by omega
  have hrl0 : ¬ rl = 0 := by omega
  have hn := h5.1
  have hc4 : vTc n T 4 I := h6
  clear h3
  obtain ⟨z, hz0, hz1, rfl⟩ := jI_of x
  obtain ⟨u, hu0, hu1, rfl⟩ := jI_of y
  have hcm := hc4.2.1
  by_cases hz : 0 ≤ z ∧ z ≤ 6
  · by_cases hu : u = -1 ∨ u = -2 ∨ (0 ≤ u ∧ u < n)
    · obtain ⟨h, rfl⟩ : ∃ h : Nat, z = h := ⟨z.toNat, by omega⟩
      have hh : h ≤ 6 := by omega
      by_cases h2 : 2 ≤ n
      · have cls : ∀ P : mPost, mG 100 105 48 [some (.ref 3), some (.int (jI h)), some (.int (jI u))] [] (mLay e) (I, E, F) P → mF 100 105 [.ref 3, .int (jI h), .int (jI u)] (mLay e) (I, E, F) P := by
          intro P hP
          rcases hu with rfl | rfl | hu
          · simp only [g105_in, g105_0, g105_1, g105_2, g105_4, g105_7, g105_10, g105_11, g105_12, g105_15, g105_16, g105_18, g105_21, g105_22, g105_25, g105_26, g105_29, g105_32, g105_33, g105_34, g105_35, g105_38, g105_41, g105_42, nl_none, nl_int, nl_ref, Option.toList_some, Option.toList_none, List.cons_append, List.nil_append, mSetI_u, mSetL_u, Nat.add_one_ne_zero, Nat.add_eq_zero_iff, and_false, false_and, not_false_eq_true, ne_eq, j0_0, j0_1, j1_0, j1_1, if_true, if_false, ite_true, ite_false, true_and, and_true, or_true, true_or, false_or, or_false, ↓reduceIte, Nat.reduceEqDiff, Nat.reduceAdd, Nat.reduceMul, Nat.reduceSub, Int.reduceLE, Int.reduceLT, Int.reduceNeg, Int.reduceAdd, Int.reduceSub, Int.reduceEq, reduceCtorEq, jI_lt, jI_eq, jI_lt0, jI_0lt, jI_eq0, jI_0le, jn_lo, iU_row, iU_nr, iU_eq, iU_same, jI_ixn, jI_add, jI_sub, jI_nat, sh_3, sh_4, f_3_0 hF, hcm, show ((n : Nat) : Int) ≤ 2147483647 by omega, show (n : Nat) ≤ 2147483647 by omega, show ¬ ((n : Int) < 2) by omega, c132_t (z := (h : Int)) (a := 0) (b := 6) hz.1 hz.2 (by omega) (by omega), eq_self]
            exact hP
          · simp only [g105_in, g105_0, g105_1, g105_2, g105_4, g105_7, g105_10, g105_11, g105_12, g105_15, g105_16, g105_18, g105_21, g105_22, g105_25, g105_26, g105_29, g105_32, g105_33, g105_34, g105_35, g105_38, g105_41, g105_42, nl_none, nl_int, nl_ref, Option.toList_some, Option.toList_none, List.cons_append, List.nil_append, mSetI_u, mSetL_u, Nat.add_one_ne_zero, Nat.add_eq_zero_iff, and_false, false_and, not_false_eq_true, ne_eq, j0_0, j0_1, j1_0, j1_1, if_true, if_false, ite_true, ite_false, true_and, and_true, or_true, true_or, false_or, or_false, ↓reduceIte, Nat.reduceEqDiff, Nat.reduceAdd, Nat.reduceMul, Nat.reduceSub, Int.reduceLE, Int.reduceLT, Int.reduceNeg, Int.reduceAdd, Int.reduceSub, Int.reduceEq, reduceCtorEq, jI_lt, jI_eq, jI_lt0, jI_0lt, jI_eq0, jI_0le, jn_lo, iU_row, iU_nr, iU_eq, iU_same, jI_ixn, jI_add, jI_sub, jI_nat, sh_3, sh_4, f_3_0 hF, hcm, show ((n : Nat) : Int) ≤ 2147483647 by omega, show (n : Nat) ≤ 2147483647 by omega, show ¬ ((n : Int) < 2) by omega, c132_t (z := (h : Int)) (a := 0) (b := 6) hz.1 hz.2 (by omega) (by omega), eq_self]
            exact hP
          · simp only [g105_in, g105_0, g105_1, g105_2, g105_4, g105_7, g105_10, g105_11, g105_12, g105_15, g105_16, g105_18, g105_21, g105_22, g105_25, g105_26, g105_29, g105_32, g105_33, g105_34, g105_35, g105_38, g105_41, g105_42, nl_none, nl_int, nl_ref, Option.toList_some, Option.toList_none, List.cons_append, List.nil_append, mSetI_u, mSetL_u, Nat.add_one_ne_zero, Nat.add_eq_zero_iff, and_false, false_and, not_false_eq_true, ne_eq, j0_0, j0_1, j1_0, j1_1, if_true, if_false, ite_true, ite_false, true_and, and_true, or_true, true_or, false_or, or_false, ↓reduceIte, Nat.reduceEqDiff, Nat.reduceAdd, Nat.reduceMul, Nat.reduceSub, Int.reduceLE, Int.reduceLT, Int.reduceNeg, Int.reduceAdd, Int.reduceSub, Int.reduceEq, reduceCtorEq, jI_lt, jI_eq, jI_lt0, jI_0lt, jI_eq0, jI_0le, jn_lo, iU_row, iU_nr, iU_eq, iU_same, jI_ixn, jI_add, jI_sub, jI_nat, sh_3, sh_4, f_3_0 hF, hcm, show ((n : Nat) : Int) ≤ 2147483647 by omega, show (n : Nat) ≤ 2147483647 by omega, show -2147483648 ≤ (u : Int) by omega, show (u : Int) ≤ 2147483647 by omega, show ¬ ((n : Int) < 2) by omega, show ¬ (u = -1) by omega, show ¬ (u = -2) by omega, c132_t (z := (h : Int)) (a := 0) (b := 6) hz.1 hz.2 (by omega) (by omega), c67_t (vTw_4 hF) hn hu.1 hu.2 hcm]
            exact hP
        obtain ⟨⟨sn, s1, s2, s3⟩, hheld⟩ := h17
        refine cls _ ?_
        simp only [g105_48, g105_49, g105_52, g105_53, g105_56, g105_57, g105_60, g105_61, nl_none, nl_int, nl_ref, Option.toList_some, Option.toList_none, List.cons_append, List.nil_append, mSetI_u, mSetL_u, Nat.add_one_ne_zero, Nat.add_eq_zero_iff, and_false, false_and, not_false_eq_true, ne_eq, j0_0, j0_1, j1_0, j1_1, if_true, if_false, ite_true, ite_false, true_and, and_true, or_true, true_or, false_or, or_false, ↓reduceIte, Nat.reduceEqDiff, Nat.reduceAdd, Nat.reduceMul, Nat.reduceSub, Int.reduceLE, Int.reduceLT, Int.reduceNeg, Int.reduceAdd, Int.reduceSub, Int.reduceEq, reduceCtorEq, jI_lt, jI_eq, jI_lt0, jI_0lt, jI_eq0, jI_0le, jn_lo, iU_row, iU_nr, iU_eq, iU_same, jI_ixn, jI_add, jI_sub, jI_nat, sh_3, sh_4, sh_22, f_3_0 hF, f_3_3 hF, f_3_13 hF, hrl0]
        by_cases hq : I 22 3 = jI h
        · -- held
          obtain ⟨h', p1, p2, p3, p4, p5, p6⟩ : ∃ h' : Nat, h' ≤ 6 ∧ I 22 3 = jI h' ∧ 2 ≤ n ∧ I 22 1 = jI (qRd lw n T h').1 ∧ I 22 2 = jI (qRd lw n T h').2.1 ∧ ∀ j, j < n → I 23 j = jI ((qRd lw n T h').2.2 j) := by
            rcases hheld with e | e
            · rw [hq] at e
              have := congrArg Int32.toInt e
              rw [jI_toInt (by omega) (by omega), jI_toInt (by omega) (by omega)] at this
              omega
            · exact e
          have eh : h' = h := by
            rw [hq] at p2
            have := congrArg Int32.toInt p2
            rw [jI_toInt (by omega) (by omega), jI_toInt (by omega) (by omega)] at this
            omega
          subst eh
          simp only [g30_in, g30_0, g30_1, g30_4, g30_5, g30_8, nl_none, nl_int, nl_ref, Option.toList_some, Option.toList_none, List.cons_append, List.nil_append, mSetI_u, mSetL_u, Nat.add_one_ne_zero, Nat.add_eq_zero_iff, and_false, false_and, not_false_eq_true, ne_eq, j0_0, j0_1, j1_0, j1_1, if_true, if_false, ite_true, ite_false, true_and, and_true, or_true, true_or, false_or, or_false, ↓reduceIte, Nat.reduceEqDiff, Nat.reduceAdd, Nat.reduceMul, Nat.reduceSub, Int.reduceLE, Int.reduceLT, Int.reduceNeg, Int.reduceAdd, Int.reduceSub, Int.reduceEq, reduceCtorEq, jI_lt, jI_eq, jI_lt0, jI_0lt, jI_eq0, jI_0le, jn_lo, iU_row, iU_nr, iU_eq, iU_same, jI_ixn, jI_add, jI_sub, jI_nat, sh_22, p2, show ((h' : Nat) : Int) ≤ 2147483647 by omega, show (h' : Nat) ≤ 2147483647 by omega, eq_self]
          refine c105_g hF hn p4 p5 p6 hu ⟨sh_80, ?_⟩
          refine r193 hF h5 h2 h15.1 hh h7 h16 h8 hu (fun I2 a1 a2 => ⟨rfl, vI_fin (vI_ag hI0 a1 a2)⟩)
        · obtain ⟨z3, q1, q2, q3, q4⟩ : ∃ z3 : Int, I 22 3 = jI z3 ∧ -1 ≤ z3 ∧ z3 ≤ 6 ∧ ¬ z3 = h := by
            rcases hheld with e | ⟨h', p1, p2, -⟩
            · exact ⟨-1, e, by omega, by omega, by omega⟩
            · exact ⟨h', p2, by omega, by omega, fun w => hq (by rw [p2, w])⟩
          refine c30 hrl h5 h2 h15.1 (show sn ≤ 511 by omega) hh hF hsx h4 hc4 h15 s1 s3 q1 q2 q3 q4 (fun I' E' F' st' nx' a1 a2 a3 a4 a5 a6 a7 a8 a9 => ?_)
          obtain ⟨m1, m2, m3, m4, m5⟩ := a9
          have hB := (qRd_c (lw := lw) (T := T) (h := h) hn h2).2
          have b1 : vTownR n T (I' 81) (I' 80 2) := vTr_ag a5 (fun r j q => by unfold vScF at q; omega) h7
          have b2 : vLawR lw (I' 87) (I' 80 11) (I' 80 12) (I' 90) := vLr_ag a5 (fun r j q => by unfold vScF at q; omega) h16
          have b3 : I' 80 20 = jI (-1) := (a5 80 20 (by unfold vScF; omega)).trans h8
          refine c105_g a1 hn m1 m2 (m5 hB) hu ⟨sh_80, ?_⟩
          refine r193 a1 h5 h2 h15.1 hh b1 b2 b3 hu (fun I2 k1 k2 => ⟨rfl, vI_fin (vI_of (vInv_rg hI0 a1 a2 a3 a4 (vAg_tr (vAg_mono a5 (fun r j q => .inl q)) (vAg_mono k1 (fun r j q => .inr q))) (fun j hj => (k2 j hj).trans (a5 81 j (by unfold vScF; omega))) ?_))⟩)
          have k : ∀ r j, r = 22 ∧ (j = 1 ∨ j = 2 ∨ j = 3 ∨ j = 8) ∨ r = 23 ∨ r = 105 → I2 r j = I' r j := fun r j q => k1 r j (by unfold vScr; omega)
          refine ⟨⟨sn + 1, (k 22 8 (by omega)).trans a6, by omega, fun _ s hs => ?_⟩, .inr ⟨h, hh, (k 22 3 (by omega)).trans a8, h2, (k 22 1 (by omega)).trans m1, (k 22 2 (by omega)).trans m2, fun j hj => (k 23 j (by omega)).trans (m5 hB j hj)⟩⟩
          rw [k 105 s (by omega)]
          exact a7 s hs
      · rcases hu with rfl | rfl | hu
        · simp only [g105_in, g105_0, g105_1, g105_2, g105_4, g105_7, g105_10, g105_11, g105_12, g105_15, g105_16, g105_18, g105_21, g105_22, g105_25, g105_26, g105_29, g105_32, g105_33, g105_34, g105_35, g105_38, g105_41, g105_42, g105_45, g105_47, g105_48, g105_49, g105_52, g105_53, g105_56, g105_57, g105_60, g105_61, g105_64, g105_65, g105_66, g105_69, g105_70, g105_73, g105_76, g105_77, g105_78, g105_80, g105_83, g105_84, g105_87, g105_90, g105_93, g105_94, g105_97, g105_100, g105_101, g105_102, g193_in, g193_0, g193_1, g193_2, g193_4, g193_7, g193_10, g193_11, g193_13, g193_14, g193_17, g193_18, g193_19, g193_22, g193_25, g193_26, g193_27, g193_28, g193_31, g193_32, g193_35, g193_37, nl_none, nl_int, nl_ref, Option.toList_some, Option.toList_none, List.cons_append, List.nil_append, mSetI_u, mSetL_u, Nat.add_one_ne_zero, Nat.add_eq_zero_iff, and_false, false_and, not_false_eq_true, ne_eq, j0_0, j0_1, j1_0, j1_1, if_true, if_false, ite_true, ite_false, true_and, and_true, or_true, true_or, false_or, or_false, ↓reduceIte, Nat.reduceEqDiff, Nat.reduceAdd, Nat.reduceMul, Nat.reduceSub, Int.reduceLE, Int.reduceLT, Int.reduceNeg, Int.reduceAdd, Int.reduceSub, Int.reduceEq, reduceCtorEq, jI_lt, jI_eq, jI_lt0, jI_0lt, jI_eq0, jI_0le, jn_lo, iU_row, iU_nr, iU_eq, iU_same, jI_ixn, jI_add, jI_sub, jI_nat, sh_3, sh_4, sh_80, f_3_0 hF, hcm, h7.2.2.2, show ((n : Nat) : Int) ≤ 2147483647 by omega, show (n : Nat) ≤ 2147483647 by omega, show (n : Int) < 2 by omega, c132_t (z := (h : Int)) (a := 0) (b := 6) hz.1 hz.2 (by omega) (by omega), r146_t (z := (h : Int)) (a := 0) (b := 6) hz.1 hz.2 (by omega) (by omega), r146_t (z := -1) (a := -2) (b := (n : Int) - 1) (by omega) (by omega) (by omega) (by omega), eq_self]
          exact vI_fin (vI_same hI0)
        · simp only [g105_in, g105_0, g105_1, g105_2, g105_4, g105_7, g105_10, g105_11, g105_12, g105_15, g105_16, g105_18, g105_21, g105_22, g105_25, g105_26, g105_29, g105_32, g105_33, g105_34, g105_35, g105_38, g105_41, g105_42, g105_45, g105_47, g105_48, g105_49, g105_52, g105_53, g105_56, g105_57, g105_60, g105_61, g105_64, g105_65, g105_66, g105_69, g105_70, g105_73, g105_76, g105_77, g105_78, g105_80, g105_83, g105_84, g105_87, g105_90, g105_93, g105_94, g105_97, g105_100, g105_101, g105_102, g193_in, g193_0, g193_1, g193_2, g193_4, g193_7, g193_10, g193_11, g193_13, g193_14, g193_17, g193_18, g193_19, g193_22, g193_25, g193_26, g193_27, g193_28, g193_31, g193_32, g193_35, g193_37, nl_none, nl_int, nl_ref, Option.toList_some, Option.toList_none, List.cons_append, List.nil_append, mSetI_u, mSetL_u, Nat.add_one_ne_zero, Nat.add_eq_zero_iff, and_false, false_and, not_false_eq_true, ne_eq, j0_0, j0_1, j1_0, j1_1, if_true, if_false, ite_true, ite_false, true_and, and_true, or_true, true_or, false_or, or_false, ↓reduceIte, Nat.reduceEqDiff, Nat.reduceAdd, Nat.reduceMul, Nat.reduceSub, Int.reduceLE, Int.reduceLT, Int.reduceNeg, Int.reduceAdd, Int.reduceSub, Int.reduceEq, reduceCtorEq, jI_lt, jI_eq, jI_lt0, jI_0lt, jI_eq0, jI_0le, jn_lo, iU_row, iU_nr, iU_eq, iU_same, jI_ixn, jI_add, jI_sub, jI_nat, sh_3, sh_4, sh_80, f_3_0 hF, hcm, h7.2.2.2, show ((n : Nat) : Int) ≤ 2147483647 by omega, show (n : Nat) ≤ 2147483647 by omega, show (n : Int) < 2 by omega, c132_t (z := (h : Int)) (a := 0) (b := 6) hz.1 hz.2 (by omega) (by omega), r146_t (z := (h : Int)) (a := 0) (b := 6) hz.1 hz.2 (by omega) (by omega), r146_t (z := -2) (a := -2) (b := (n : Int) - 1) (by omega) (by omega) (by omega) (by omega), eq_self]
          exact vI_fin (vI_same hI0)
        · simp only [g105_in, g105_0, g105_1, g105_2, g105_4, g105_7, g105_10, g105_11, g105_12, g105_15, g105_16, g105_18, g105_21, g105_22, g105_25, g105_26, g105_29, g105_32, g105_33, g105_34, g105_35, g105_38, g105_41, g105_42, g105_45, g105_47, g105_48, g105_49, g105_52, g105_53, g105_56, g105_57, g105_60, g105_61, g105_64, g105_65, g105_66, g105_69, g105_70, g105_73, g105_76, g105_77, g105_78, g105_80, g105_83, g105_84, g105_87, g105_90, g105_93, g105_94, g105_97, g105_100, g105_101, g105_102, g193_in, g193_0, g193_1, g193_2, g193_4, g193_7, g193_10, g193_11, g193_13, g193_14, g193_17, g193_18, g193_19, g193_22, g193_25, g193_26, g193_27, g193_28, g193_31, g193_32, g193_35, g193_37, nl_none, nl_int, nl_ref, Option.toList_some, Option.toList_none, List.cons_append, List.nil_append, mSetI_u, mSetL_u, Nat.add_one_ne_zero, Nat.add_eq_zero_iff, and_false, false_and, not_false_eq_true, ne_eq, j0_0, j0_1, j1_0, j1_1, if_true, if_false, ite_true, ite_false, true_and, and_true, or_true, true_or, false_or, or_false, ↓reduceIte, Nat.reduceEqDiff, Nat.reduceAdd, Nat.reduceMul, Nat.reduceSub, Int.reduceLE, Int.reduceLT, Int.reduceNeg, Int.reduceAdd, Int.reduceSub, Int.reduceEq, reduceCtorEq, jI_lt, jI_eq, jI_lt0, jI_0lt, jI_eq0, jI_0le, jn_lo, iU_row, iU_nr, iU_eq, iU_same, jI_ixn, jI_add, jI_sub, jI_nat, sh_3, sh_4, sh_80, f_3_0 hF, hcm, h7.2.2.2, show ((n : Nat) : Int) ≤ 2147483647 by omega, show (n : Nat) ≤ 2147483647 by omega, show -2147483648 ≤ (u : Int) by omega, show (u : Int) ≤ 2147483647 by omega, show (n : Int) < 2 by omega, show ¬ (u = -1) by omega, show ¬ (u = -2) by omega, c67_t (vTw_4 hF) hn hu.1 hu.2 hcm, c132_t (z := (h : Int)) (a := 0) (b := 6) hz.1 hz.2 (by omega) (by omega), r146_t (z := (h : Int)) (a := 0) (b := 6) hz.1 hz.2 (by omega) (by omega), r146_t (z := u) (a := -2) (b := (n : Int) - 1) (by omega) (by omega) (by omega) (by omega)]
          exact vI_fin (vI_same hI0)
    · simp only [g105_in, g105_0, g105_1, g105_2, g105_4, g105_7, g105_10, g105_11, g105_12, g105_15, g105_16, g105_18, g105_21, g105_22, g105_25, g105_26, g105_29, g105_32, g105_33, g105_34, g105_35, g105_38, g105_41, g105_42, g105_45, g105_47, g105_48, g105_49, g105_52, g105_53, g105_56, g105_57, g105_60, g105_61, g105_64, g105_65, g105_66, g105_69, g105_70, g105_73, g105_76, g105_77, g105_78, g105_80, g105_83, g105_84, g105_87, g105_90, g105_93, g105_94, g105_97, g105_100, g105_101, g105_102, g193_in, g193_0, g193_1, g193_2, g193_4, g193_7, g193_10, g193_11, g193_13, g193_14, g193_17, g193_18, g193_19, g193_22, g193_25, g193_26, nl_none, nl_int, nl_ref, Option.toList_some, Option.toList_none, List.cons_append, List.nil_append, mSetI_u, mSetL_u, Nat.add_one_ne_zero, Nat.add_eq_zero_iff, and_false, false_and, not_false_eq_true, ne_eq, j0_0, j0_1, j1_0, j1_1, if_true, if_false, ite_true, ite_false, true_and, and_true, or_true, true_or, false_or, or_false, ↓reduceIte, Nat.reduceEqDiff, Nat.reduceAdd, Nat.reduceMul, Nat.reduceSub, Int.reduceLE, Int.reduceLT, Int.reduceNeg, Int.reduceAdd, Int.reduceSub, Int.reduceEq, reduceCtorEq, jI_lt, jI_eq, jI_lt0, jI_0lt, jI_eq0, jI_0le, jn_lo, iU_row, iU_nr, iU_eq, iU_same, jI_ixn, jI_add, jI_sub, jI_nat, sh_3, sh_4, sh_80, f_3_0 hF, hcm, h7.2.2.2, hu0, hu1, show ¬ (u = -1) by omega, show ¬ (u = -2) by omega, c67_f (vTw_4 hF) hn hu0 hu1 (by omega) hcm, c132_t (z := z) (a := 0) (b := 6) hz.1 hz.2 (by omega) (by omega), r146_t (z := z) (a := 0) (b := 6) hz.1 hz.2 (by omega) (by omega), r146_f (z := u) (a := -2) (b := (n : Int) - 1) hu0 hu1 (by omega) (by omega) (by omega) (by omega) (by omega)]
      exact vI_fin (vI_same hI0)
  · simp only [g105_in, g105_0, g105_1, g105_2, g105_4, g105_7, g105_10, g105_11, g105_12, g105_15, g105_16, g105_18, g105_21, g105_22, g105_25, g105_26, g105_29, g105_32, g105_33, g105_34, g105_35, g105_38, g105_41, g105_42, g105_45, g105_47, g105_48, g105_49, g105_52, g105_53, g105_56, g105_57, g105_60, g105_61, g105_64, g105_65, g105_66, g105_69, g105_70, g105_73, g105_76, g105_77, g105_78, g105_80, g105_83, g105_84, g105_87, g105_90, g105_93, g105_94, g105_97, g105_100, g105_101, g105_102, g193_in, g193_0, g193_1, g193_2, g193_4, g193_7, g193_10, g193_11, g193_13, g193_14, g193_17, g193_18, g193_19, g193_22, g193_25, g193_26, nl_none, nl_int, nl_ref, Option.toList_some, Option.toList_none, List.cons_append, List.nil_append, mSetI_u, mSetL_u, Nat.add_one_ne_zero, Nat.add_eq_zero_iff, and_false, false_and, not_false_eq_true, ne_eq, j0_0, j0_1, j1_0, j1_1, if_true, if_false, ite_true, ite_false, true_and, and_true, or_true, true_or, false_or, or_false, ↓reduceIte, Nat.reduceEqDiff, Nat.reduceAdd, Nat.reduceMul, Nat.reduceSub, Int.reduceLE, Int.reduceLT, Int.reduceNeg, Int.reduceAdd, Int.reduceSub, Int.reduceEq, reduceCtorEq, jI_lt, jI_eq, jI_lt0, jI_0lt, jI_eq0, jI_0le, jn_lo, iU_row, iU_nr, iU_eq, iU_same, jI_ixn, jI_add, jI_sub, jI_nat, sh_3, sh_80, c132_f (z := z) (a := 0) (b := 6) hz0 hz1 hz (by omega) (by omega) (by omega) (by omega), r146_f (z := z) (a := 0) (b := 6) hz0 hz1 hz (by omega) (by omega) (by omega) (by omega)]
    exact vI_fin (vI_same hI0)
