/-! ===== the start: both constructors, reckoned ===== -/
def iFs : List (Nat × Nat × Nat) := [(3, 0, 4), (3, 1, 12), (3, 2, 20), (3, 3, 22), (3, 4, 28), (3, 5, 31), (3, 6, 48), (3, 7, 53), (3, 8, 56), (3, 9, 60), (3, 10, 61), (3, 11, 69), (3, 13, 70), (3, 14, 75), (4, 1, 5), (4, 2, 6), (4, 3, 7), (4, 4, 8), (4, 5, 9), (4, 8, 10), (4, 9, 11), (12, 1, 13), (12, 2, 14), (12, 3, 15), (12, 4, 16), (12, 5, 17), (12, 8, 18), (12, 9, 19), (20, 0, 21), (22, 0, 23), (22, 4, 24), (22, 5, 25), (22, 6, 26), (22, 7, 27), (28, 0, 29), (28, 2, 30), (31, 0, 32), (31, 1, 40), (32, 1, 33), (32, 2, 34), (32, 3, 35), (32, 4, 36), (32, 5, 37), (32, 8, 38), (32, 9, 39), (40, 1, 41), (40, 2, 42), (40, 3, 43), (40, 4, 44), (40, 5, 45), (40, 8, 46), (40, 9, 47), (48, 0, 49), (48, 1, 50), (48, 2, 51), (48, 3, 52), (53, 0, 54), (53, 2, 55), (56, 0, 57), (56, 1, 58), (56, 2, 59), (61, 1, 62), (61, 2, 63), (61, 3, 64), (61, 4, 65), (61, 5, 66), (61, 8, 67), (61, 9, 68), (70, 0, 71), (70, 1, 72), (70, 3, 73), (70, 4, 74), (75, 0, 76), (75, 1, 77), (75, 3, 78), (75, 4, 79), (80, 0, 81), (80, 1, 82), (80, 3, 83), (80, 4, 84), (80, 5, 85), (80, 8, 86), (80, 10, 87), (80, 13, 88), (80, 18, 89), (80, 19, 90), (80, 21, 91), (80, 23, 92), (80, 24, 93), (80, 28, 94), (80, 29, 95), (80, 30, 96), (80, 31, 97), (80, 33, 98), (80, 34, 99), (80, 35, 100), (80, 38, 101), (80, 39, 102), (80, 40, 103), (80, 42, 104)]
def iIs : List (Nat × Nat × Int) := [(4, 0, 0), (4, 6, 2), (4, 7, 0), (81, 40, 2), (81, 41, 0), (80, 2, 0), (80, 20, -1), (60, 0, 0), (60, 1, 0), (60, 2, 0), (60, 3, 0), (60, 4, 0), (98, 0, 0), (98, 1, 0), (98, 2, 0), (98, 3, 0), (98, 4, 0), (3, 12, 0), (80, 37, 0), (48, 4, 0), (48, 5, 0), (80, 6, 0), (80, 7, 0), (20, 1, 0), (80, 9, 0), (53, 1, 0), (80, 41, 0), (53, 3, 0), (80, 43, 0), (57, 0, 6), (57, 1, 6), (57, 2, 6), (57, 3, 6), (57, 4, 6), (57, 5, 6), (94, 0, -1), (94, 1, -1), (94, 2, -1), (94, 3, -1), (94, 4, -1), (94, 5, -1), (70, 2, 0), (80, 12, 0), (22, 8, 0), (22, 3, -1), (90, 0, 103), (90, 1, 100), (90, 2, 110), (90, 3, 107), (90, 4, 115), (90, 5, 116)]
def iGood (l : List mShp) (M : mMem) : Bool := decide (l = mLay []) && iFs.all (fun q => decide (M.2.2 q.1 q.2.1 = q.2.2)) && iIs.all (fun q => decide (M.1 q.1 q.2.1 = jI q.2.2)) && (List.range 8).all (fun j => decide (M.1 101 j = mAb j)) && (List.range 32).all (fun j => decide (M.1 102 j = mBo j)) && (List.range 360).all (fun j => decide (M.2.1 59 j = M.2.1 96 j))
def iChk (r : Option (Option Value × List mShp × mMem)) (f : List mShp → mMem → Bool) : Bool := match r with
  | some (none, l, M) => f l M
  | _ => false
theorem iChk_of {r : Option (Option Value × List mShp × mMem)} {f : List mShp → mMem → Bool} (h : iChk r f = true) : ∃ l M, r = some (none, l, M) ∧ f l M = true := by
  unfold iChk at h
  split at h
  · exact ⟨_, _, rfl, h⟩
  · cases h
def iRun2 (l : List mShp) (M : mMem) : Option (Option Value × List mShp × mMem) := mRun 3000 100 145 0 (mEntry (mM 145).2.2.2.1 [.ref 80]) [] (l ++ [(13, 44)]) (mNew M 80)
def iRun1 : Option (Option Value × List mShp × mMem) := mRun 3000 100 92 0 (mEntry (mM 92).2.2.2.1 [.ref 3]) [] [(12, 15)] (mNew mM0 3)
set_option maxRecDepth 1000000 in
theorem iAll : iChk iRun1 (fun l M => decide (l.length = 77) && decide (mSum l ≤ 5000) && iChk (iRun2 l M) iGood) = true := by decide +kernel
/-! the built-in law -/
def lw0 : vLw := fun g q _ _ _ _ => pHold (g - q / 2) 20
theorem vLawC_0 {steps wth : Nat → Int32} : vLawC lw0 steps wth (jI 0) := by
  refine ⟨fun g q n k s t => pHold_20 _, ?_⟩
  intro lay F l I E d P g q n k s t hL h1 h2 h3 hin hP
  obtain ⟨u, t0, t1, t2, t3, t4, f1, f2, f3, f4⟩ := hL
  obtain ⟨⟨g0, g1⟩, ⟨q0, q1⟩, -⟩ := hin
  have hp := hP I vAg_rfl
  simp only [g8_in, g8_0, g8_1, g8_4, g8_7, g8_8, g8_9, g8_10, g8_11, g8_12, g8_14, g8_17, nl_none, nl_int, nl_ref, Option.toList_some, Option.toList_none, List.cons_append, List.nil_append, mSetI_u, mSetL_u, Nat.add_one_ne_zero, Nat.add_eq_zero_iff, and_false, false_and, not_false_eq_true, ne_eq, j0_0, j0_1, j1_0, j1_1, if_true, if_false, ite_true, ite_false, true_and, and_true, or_true, true_or, false_or, or_false, ↓reduceIte, Nat.reduceEqDiff, Nat.reduceAdd, Nat.reduceMul, Nat.reduceSub, Int.reduceLE, Int.reduceLT, Int.reduceNeg, Int.reduceAdd, Int.reduceSub, Int.reduceEq, reduceCtorEq, jI_lt, jI_eq, jI_lt0, jI_0lt, jI_eq0, jI_0le, jn_lo, iU_row, iU_nr, iU_eq, iU_same, jI_ixn, jI_add, jI_sub, jI_nat, u, t0, h3, show -2147483648 ≤ (q : Int) by omega, show (q : Int) ≤ 2147483647 by omega, show -2147483648 ≤ (g : Int) by omega, show (g : Int) ≤ 2147483647 by omega, jI_div (a := q) (b := 2) (by omega) (by omega) (by omega) (by omega), c133 (v := g - q / 2) (m := 20) (by omega) (by omega) (by omega) (by omega)]
  exact hp
theorem vLawR_0 {text lets : Nat → Int32} {texted : Int32} : vLawR lw0 text texted (jI 0) lets := by
  intro e F st nx gf rl dr I E d P g q n k s t hF h90 h87 h11 h12 a0 a1 a2 a3 a4 a5 hin hP
  obtain ⟨⟨g0, g1⟩, ⟨q0, q1⟩, -⟩ := hin
  have hp := hP I (g - q / 2) vAg_rfl (by omega) (by omega) rfl
  simp only [g174_in, g174_0, g174_1, g174_4, g174_7, g174_8, g174_11, g174_12, g174_13, g174_14, g174_17, g174_18, g174_19, g174_20, g174_21, g174_22, nl_none, nl_int, nl_ref, Option.toList_some, Option.toList_none, List.cons_append, List.nil_append, mSetI_u, mSetL_u, Nat.add_one_ne_zero, Nat.add_eq_zero_iff, and_false, false_and, not_false_eq_true, ne_eq, j0_0, j0_1, j1_0, j1_1, if_true, if_false, ite_true, ite_false, true_and, and_true, or_true, true_or, false_or, or_false, ↓reduceIte, Nat.reduceEqDiff, Nat.reduceAdd, Nat.reduceMul, Nat.reduceSub, Int.reduceLE, Int.reduceLT, Int.reduceNeg, Int.reduceAdd, Int.reduceSub, Int.reduceEq, reduceCtorEq, jI_lt, jI_eq, jI_lt0, jI_0lt, jI_eq0, jI_0le, jn_lo, iU_row, iU_nr, iU_eq, iU_same, jI_ixn, jI_add, jI_sub, jI_nat, sh_80, sh_89, f_80_18 hF, h12, a0, a1, show -2147483648 ≤ (q : Int) by omega, show (q : Int) ≤ 2147483647 by omega, show -2147483648 ≤ (g : Int) by omega, show (g : Int) ≤ 2147483647 by omega, show mIdx (Int32.ofInt 0) 6 = true from rfl, show (Int32.ofInt 0).toNatClampNeg = 0 from rfl, show mIdx (Int32.ofInt 1) 6 = true from rfl, show (Int32.ofInt 1).toNatClampNeg = 1 from rfl, jI_div (a := q) (b := 2) (by omega) (by omega) (by omega) (by omega)]
  exact hp
def T0 : Nat → Nat → Int := fun w _ => if w = 5 then 2 else 0
theorem iI {l : List mShp} {M : mMem} (h : iGood l M = true) : vI 0 l M := by
  obtain ⟨I, E, F⟩ := M
  unfold iGood at h
  simp only [Bool.and_eq_true, decide_eq_true_iff, List.all_eq_true, List.mem_range] at h
  obtain ⟨⟨⟨⟨⟨h1, h2⟩, h3⟩, h4⟩, h5⟩, h6⟩ := h
  have f : ∀ r j v, (r, j, v) ∈ iIs → I r j = jI v := fun r j v hm => h3 (r, j, v) hm
  have hF : mFx F 25 26 27 70 75 := fun q hq => h2 q hq
  have hok : vTownOk 0 T0 := ⟨by omega, fun i hi => absurd hi (by omega), by decide, by decide⟩
  refine ⟨[], I, E, F, 25, 26, 27, 70, 75, 0, 0, T0, lw0, h1, rfl, hF, .inl ⟨rfl, rfl⟩, .inl ⟨rfl, rfl⟩, .inl ⟨rfl, rfl⟩, hok, ⟨fun i hi => absurd hi (by omega), f 4 0 0 (by decide), f 4 6 2 (by decide), f 4 7 0 (by decide)⟩, ⟨fun i hi => absurd hi (by omega), f 81 40 2 (by decide), f 81 41 0 (by decide), f 80 2 0 (by decide)⟩, f 80 20 (-1) (by decide), fun j hj => ?_, .inl ⟨f 3 12 0 (by decide), f 80 37 0 (by decide)⟩, ⟨0, 0, by omega, by omega, f 48 4 0 (by decide), f 80 6 0 (by decide), f 48 5 0 (by decide), f 80 7 0 (by decide), fun j hj => absurd hj (by omega)⟩, ⟨0, by omega, f 20 1 0 (by decide), f 80 9 0 (by decide), fun j hj => absurd hj (by omega)⟩, ⟨by omega, f 53 1 0 (by decide), f 80 41 0 (by decide), fun j hj => absurd hj (by omega), ⟨0, by omega, f 53 3 0 (by decide), f 80 43 0 (by decide), fun j _ hj => absurd hj (by omega)⟩, h4, h5⟩, ⟨fun s hs => .inl ?_, h6⟩, ?_, ?_, ⟨⟨0, f 22 8 0 (by decide), by omega, fun h => absurd h (by decide)⟩, .inl (f 22 3 (-1) (by decide))⟩, ⟨f 90 0 103 (by decide), f 90 1 100 (by decide), f 90 2 110 (by decide), f 90 3 107 (by decide), f 90 4 115 (by decide), f 90 5 116 (by decide)⟩⟩
  · rcases (by omega : j = 0 ∨ j = 1 ∨ j = 2 ∨ j = 3 ∨ j = 4) with rfl | rfl | rfl | rfl | rfl
    · exact (f 60 0 0 (by decide)).trans (f 98 0 0 (by decide)).symm
    · exact (f 60 1 0 (by decide)).trans (f 98 1 0 (by decide)).symm
    · exact (f 60 2 0 (by decide)).trans (f 98 2 0 (by decide)).symm
    · exact (f 60 3 0 (by decide)).trans (f 98 3 0 (by decide)).symm
    · exact (f 60 4 0 (by decide)).trans (f 98 4 0 (by decide)).symm
  · rcases (by omega : s = 0 ∨ s = 1 ∨ s = 2 ∨ s = 3 ∨ s = 4 ∨ s = 5) with rfl | rfl | rfl | rfl | rfl | rfl
    · exact ⟨f 57 0 6 (by decide), f 94 0 (-1) (by decide)⟩
    · exact ⟨f 57 1 6 (by decide), f 94 1 (-1) (by decide)⟩
    · exact ⟨f 57 2 6 (by decide), f 94 2 (-1) (by decide)⟩
    · exact ⟨f 57 3 6 (by decide), f 94 3 (-1) (by decide)⟩
    · exact ⟨f 57 4 6 (by decide), f 94 4 (-1) (by decide)⟩
    · exact ⟨f 57 5 6 (by decide), f 94 5 (-1) (by decide)⟩
  · rw [f 70 2 0 (by decide)]
    exact vLawC_0
  · rw [f 80 12 0 (by decide)]
    exact vLawR_0
theorem vI_init : mInit vI := by
  obtain ⟨l1, M1, r1, g1⟩ := iChk_of iAll
  have g1 : (decide (l1.length = 77) && decide (mSum l1 ≤ 5000) && iChk (iRun2 l1 M1) iGood) = true := g1
  rw [Bool.and_eq_true, Bool.and_eq_true, decide_eq_true_iff, decide_eq_true_iff] at g1
  obtain ⟨⟨g2, g3⟩, g4⟩ := g1
  obtain ⟨l2, M2, r2, g5⟩ := iChk_of g4
  refine ⟨by decide, 3000, none, l1, M1, r1, rfl, g2, g3, by decide, 3000, none, l2, M2, r2, rfl, iI g5⟩
theorem vI_apis : mApis vI := ⟨api_person, api_people, api_mend, api_of, api_feed, api_law, api_comes, api_later, api_lacking, api_first, api_care, api_cared, api_round, api_mended, api_gone, api_judge, api_fits, api_can, api_paid, api_byTurns, api_drawn, api_day, api_cares, api_gives, api_led, api_image, api_back, api_undo, api_redo, api_body, api_act, api_trace, api_keep, api_row, api_put, api_element, api_shift, api_taken, api_count⟩
theorem whole_start {p : Program} {e : Env} {s : State} {m : MethodId} {below : List Frame} {meth : Method} {c : Code} (l : Launch) (hflags : l.flags = flags0) {b L : Nat} {xs : Nat → Int32} (hL : L ≤ 3072) (C0 : lw_At p s m meth c b L xs) : W p l e room_1 s m #[Value.ref b] below meth c s.heap [] 0 0 (lw_Z below #[Value.ref b] s) (entryFrame m ([Value.ref b] : List Value).toArray 4) := ls_go vI_ok (fun _ _ _ h => vI_up h) vI_apis vI_init l hL C0
