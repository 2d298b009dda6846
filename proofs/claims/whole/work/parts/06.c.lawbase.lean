/-! ===== the law's frame: what its rows do, said in the small machine's words ===== -/
def lwSv (D : va_G) (cy : Nat → ClassId) (t1 t2 : Nat) (s : State) (b : Nat) (LL : List (Nat × Value)) (H : Heap) (locs : List Loc) (ls : Array Slot) (ad : Nat → Nat) (lay : List mShp) (M : mMem) : Prop :=
  lv_has ls 4 ((0, .ref b) :: LL.map fun q => (q.1, mV ad q.2)) ∧ va_P D vwCl (mWd cy ad lay M) H ∧ va_D (fun q => s.heap.size ≤ q) (mWd cy ad lay M) ∧ va_S (fun q => s.heap.size ≤ q) s.heap H locs ∧ mOkM lay.length M ∧ mKinds lay ∧ (ad 1 = t1 ∧ ad 2 = t2) ∧ (∀ q ∈ LL, mOkV lay.length q.2)
def lwCx (D : va_G) (cy : Nat → ClassId) (t1 t2 : Nat) (p : Program) (s : State) (m : MethodId) (meth : Method) (c : Code) (b L : Nat) (xs : Nat → Int32) : Prop :=
  lw_At p s m meth c b L xs ∧ va_K D vwCl (mTys cy) s ∧ (∀ w ∈ mNW, va_Nw w s) ∧ mStc t1 t2 (fun q => s.heap.size ≤ q) s s.heap ∧ L ≤ 3072
def lwW (D : va_G) (cy : Nat → ClassId) (t1 t2 : Nat) (p : Program) (l : Launch) (e : Env) (s : State) (m : MethodId) (below : List Frame) (meth : Method) (c : Code) (b pc : Nat) (LL : List (Nat × Value)) (st : List Value) (lay : List mShp) (M : mMem) : Prop :=
  ∀ (H : Heap) (locs : List Loc) (ls : Array Slot) (ad : Nat → Nat), lwSv D cy t1 t2 s b LL H locs ls ad lay M → mOkS lay.length st → W p l e room_1 s m #[Value.ref b] below meth c H locs lay.length (mSum lay) (lw_Z below #[Value.ref b] s) (F0 m pc ls (st.map (mV ad)))
theorem lw_hts {D : va_G} {cy : Nat → ClassId} {t1 t2 : Nat} {p : Program} {s : State} {m : MethodId} {meth : Method} {c : Code} {b L : Nat} {xs : Nat → Int32} (X : lwCx D cy t1 t2 p s m meth c b L xs) : ∀ w ∈ mWW, w.before #[Value.ref b] s = true := fun w hw => X.1.2.2.2.2.2.1 w (mww_tbl w hw)
section LWF
variable {D : va_G} {cy : Nat → ClassId} {t1 t2 : Nat} {p : Program} {l : Launch} {e : Env} {s : State} {m : MethodId} {below : List Frame} {meth : Method} {c : Code} {b L pc : Nat} {xs : Nat → Int32} {LL : List (Nat × Value)} {st : List Value} {lay : List mShp} {M : mMem}
theorem lw_load (X : lwCx D cy t1 t2 p s m meth c b L xs) {n : Fin 4} {r k : Nat} (hd : decode code pc = .ok (.aload_n n, 1)) (hk : LL[k]? = some (n.val, .ref (r + 1))) (kk : lwW D cy t1 t2 p l e s m below meth c b (pc + 1) LL (.ref (r + 1) :: st) lay M) : lwW D cy t1 t2 p l e s m below meth c b pc LL st lay M := by
  obtain ⟨⟨hx, hb, -⟩, -⟩ := X
  intro H locs ls ad hv hS
  have h1 : ((0, Value.ref b) :: LL.map fun q => (q.1, mV ad q.2))[k + 1]? = some (n.val, .ref (ad (r + 1))) := by
    simp [hk, mV, mRf]
  exact lv_aload_n hx hb hd rfl (lv_at hv.1 (k + 1) h1) (kk H locs ls ad hv (mOkS_cons.mpr ⟨hv.2.2.2.2.2.2.2 _ (List.mem_of_getElem? hk), hS⟩))
/-- a number of the script: aload_0, iload_3, iconst, iadd, iaload -/
theorem lw_arg (X : lwCx D cy t1 t2 p s m meth c b L xs) {k i n : Nat} (d0 : decode code pc = .ok (.aload_n 0, 1)) (d1 : decode code (pc + 1) = .ok (.iload_n 3, 1)) (d2 : decode code (pc + 2) = .ok (.iconst n, 1)) (d3 : decode code (pc + 3) = .ok (.iadd, 1)) (d4 : decode code (pc + 4) = .ok (.iaload, 1)) (hk : LL[k]? = some (3, .int (nI i))) (hi : i + n < L) (kk : lwW D cy t1 t2 p l e s m below meth c b (pc + 5) LL (.int (xs (i + n)) :: st) lay M) : lwW D cy t1 t2 p l e s m below meth c b pc LL st lay M := by
  obtain ⟨⟨hx, hb, hr, hml, hown, hts, hX, hbl, hlk, -⟩, -, -, -, hL⟩ := X
  have hbA : ¬ (fun q : Nat => s.heap.size ≤ q) b := Nat.not_le.mpr hbl
  intro H locs ls ad hv hS
  have h1 : ((0, Value.ref b) :: LL.map fun q => (q.1, mV ad q.2))[k + 1]? = some (3, .int (nI i)) := by
    simp [hk, mV]
  refine lv_aload_n hx hb d0 rfl (lv_at hv.1 0 rfl) ?_
  refine lv_iload_n hx hb d1 rfl (lv_at hv.1 (k + 1) h1) ?_
  refine lv_iconst (v := nI n) hx hb d2 (by rw [← jI_nat]; rfl) ?_
  refine lv_iadd hx hb d3 ?_
  rw [nI_add]
  refine va_sld hx hb hX hbl hbA hv.2.2.2.1 (vp_in_nI hi (by omega)) d4 ?_
  rw [nI_clamp (by omega)]
  exact kk H locs ls ad hv (mOkS_cons.mpr ⟨trivial, hS⟩)
theorem lw_call (X : lwCx D cy t1 t2 p s m meth c b L xs) {cp j r nn : Nat} {As rest : List Value} {Pst : mPost} (hd : decode code pc = .ok (.invokevirtual cp, 3)) (hj : j < 231) (hl : Jvm.Cond.methodLink RL cp (mM j).2.1 ∈ mWW) (hs1 : (mM j).2.2.2.2.2.2.2 = false) (hi0 : (mM j).2.2.2.2.2.2.1 = false) (hna : (mM j).2.2.2.2.2.1 = As.length) (hci : (mM j).1 < 11) (hsh : mSh lay (r + 1) = some ((mM j).1 + 3, nn)) (hcat : mCat rest ≤ 8) (hst : st = As.reverse ++ .ref (r + 1) :: rest) (hrun : mF 100 j (.ref (r + 1) :: As) lay M Pst) (hsz : ∀ v lay' M', Pst v lay' M' → lay'.length ≤ 600000 ∧ mSum lay' ≤ 7302250) (kk : ∀ v lay' M', Pst v lay' M' → lwW D cy t1 t2 p l e s m below meth c b (pc + 3) LL (v.toList ++ rest) lay' M') : lwW D cy t1 t2 p l e s m below meth c b pc LL st lay M := by
  subst hst
  have hww := lw_hts X
  obtain ⟨⟨hx, hb, hr, hml, hown, hts, hX, hbl, hlk, -⟩, hK, hN, hstc, hL⟩ := X
  obtain ⟨hlen, n, v, lay', M', hrn, hP'⟩ := hrun
  have hmono := mRun_mono _ _ _ _ _ _ _ _ _ _ _ hrn
  have hsz2 := hsz v lay' M' hP'
  obtain ⟨-, hcls, hcode, hini, ⟨hd1, hd2, hd3⟩, hstat, hinst, hsel, hnm, hmL⟩ := mM_ok hj
  intro H locs ls ad hv hS
  obtain ⟨hl0, hP, hD, hSt, hoM, hki, hst, hoL⟩ := hv
  have hokas : mOkS lay.length (.ref (r + 1) :: As) := by
    intro w hw
    rcases List.mem_cons.mp hw with rfl | hw
    · exact hS _ (List.mem_append_right _ List.mem_cons_self)
    · exact hS w (List.mem_append_left _ (List.mem_reverse.mpr hw))
  have hokrest : mOkS lay.length rest := fun w hw => hS w (List.mem_append_right _ (List.mem_cons_of_mem _ hw))
  have hMet := mContract l (D := D) (cy := cy) (sz := H.size) hj hrn hlen hst hoM hki hokas
  have hAw : ∀ q, va_A (mWd cy ad lay M) H.size q → s.heap.size ≤ q := by
    intro q hq
    rcases hq with ⟨k2, e2, hq⟩ | hq
    · exact hD.2 k2 _ hq
    · exact Nat.le_trans hSt.1 hq
  have hpre : ∀ U : State, U.heap = H → s.WarmedH U.vm → va_Pc ((.ref (r + 1) :: As).map (mV ad)) (mPre D cy t1 t2 H.size (mWd cy ad lay M)) ((.ref (r + 1) :: As).map (mV ad)).toArray U := by
    intro U hU hW
    refine ⟨rfl, by rw [hU], by rw [hU]; exact hP, va_K.moved hW.alike hK, hD.weaken (fun _ _ _ _ => trivial), mNw_warm hW hN, ?_⟩
    rw [hU]
    exact ((hstc.kept hSt.2.1).narrow hAw).moved hW.alike
  have hfix : CallFix p m c code 4 s #[Value.ref b] mWW R_law := ⟨hx, hb, hml, hown, hww⟩
  have hRR : (mRm 100 (lay'.length - lay.length) (mSum lay' - mSum lay)).frames + 1 ≤ room_1.frames ∧ 8 + ((mM j).2.2.2.1 + 11) + (mRm 100 (lay'.length - lay.length) (mSum lay' - mSum lay)).locals ≤ room_1.locals := by
    refine ⟨Nat.le_of_ble_eq_true rfl, ?_⟩
    show 8 + ((mM j).2.2.2.1 + 11) + (40 * 100 + 60) ≤ 84000
    omega
  have hstk : (As.reverse ++ .ref (r + 1) :: rest).map (mV ad) = (As.map (mV ad)).reverse ++ .ref (ad (r + 1)) :: rest.map (mV ad) := by
    rw [List.map_append, List.map_reverse]
    rfl
  have hrm8 := lv_room (m := m) (pc := pc) (ls := ls) (rest := (As.reverse ++ .ref (r + 1) :: rest).map (mV ad)) (st := rest.map (mV ad)) (by rw [mV_catS]; exact hcat)
  have has2 : ((.ref (r + 1) :: As : List Value)).map (mV ad) = .ref (ad (r + 1)) :: As.map (mV ad) := rfl
  rw [has2] at hMet hpre
  rcases mSh_in hki hsh with ⟨hk14, q, hq0, hq⟩ | ⟨-, h0, -⟩ | ⟨-, h0, -⟩
  · have hrq : r + 1 = q + 3 := hq0
    have he0 : (mWd cy ad lay M)[q]? = some (ad (r + 1), .inr ((mM j).1, (List.range nn).map fun i => mFV (mTy (mM j).1 i) ad M (q + 3) i)) := by rw [hrq, mWd_get, hq]; rfl
    have hrec : ∃ cell : Cell, H[ad (r + 1)]? = some cell ∧ cell.vm.isStatics = false ∧ s.vm.findClass (mM j).2.1.cls = some cell.cls := by
      have := va_recv hK hP (mCl_at hci) he0
      rw [hcls, ← mCl_name hci]
      exact this
    have hrun : va_Run p l e room_1 s m #[Value.ref b] below meth c H locs lay.length (mSum lay) (lay'.length - lay.length) (mSum lay' - mSum lay) (F0 m pc ls ((As.reverse ++ .ref (r + 1) :: rest).map (mV ad))) (rest.map (mV ad)) (mQ D cy t1 t2 lay.length ad v lay' M' (va_A (mWd cy ad lay M) H.size) (.ref (ad (r + 1)) :: As.map (mV ad)).toArray) (va_A (mWd cy ad lay M) H.size) := by
      refine va_runV (n := As.length) (C := (mM j).2.1.cls) (ret := (mM j).2.2.2.2.1) (bytes := (mM j).2.2.1) (maxL := (mM j).2.2.2.1) hfix hMet (cwV _ hww (fun w hw => ?_) rfl rfl rfl ⟨rfl, hd1, hd2, by rw [hd3, hna]⟩ hRR) ⟨mBlind, hrec, hpre⟩ rfl (by simp) hl0.1 hstk hrm8 hd ⟨?_, ?_⟩
      · simp only [wsV, List.mem_append, List.mem_cons, List.not_mem_nil, or_false] at hw
        rcases hw with (rfl | rfl | rfl | rfl) | hw
        · exact ⟨hl, good_of_word (mww_good _ hl)⟩
        · exact ⟨hinst hs1, good_of_word (mww_good _ (hinst hs1))⟩
        · exact ⟨hsel hs1 hi0, good_of_word (mww_good _ (hsel hs1 hi0))⟩
        · exact ⟨hini, good_of_word (mww_good _ hini)⟩
        · exact mGood j hj w hw
      · show lay.length + (lay'.length - lay.length) ≤ 600000; omega
      · show mSum lay + (mSum lay' - mSum lay) ≤ 7302250; omega
    refine mCall (A := fun q => s.heap.size ≤ q) hrun hSt hAw (fun ad' H1 locs1 q1 q2 q3 q4 q5 q6 q7 q8 => ?_)
    have hLL : (LL.map fun q => (q.1, mV ad' q.2)) = LL.map fun q => (q.1, mV ad q.2) := List.map_congr_left fun q hq => by rw [(hoL q hq).at q1]
    have k2 := kk v lay' M' hP' H1 locs1 ls ad' ⟨by rw [hLL]; exact hl0, q3, q4, q8, q5, q6, q2, fun q hq => (hoL q hq).mono hmono.1⟩ (by
      intro w hw
      rcases List.mem_append.mp hw with hw | hw
      · exact q7 w (by cases v with
          | none => cases hw
          | some x => rw [List.mem_singleton.mp hw])
      · exact (hokrest w hw).mono hmono.1)
    have e1 : (v.toList ++ rest).map (mV ad') = (v.map (mV ad')).toList ++ rest.map (mV ad) := by
      rw [List.map_append, hokrest.at q1]
      cases v <;> rfl
    rw [e1] at k2
    refine W.cs ?_ ?_ k2
    · omega
    · omega
  · omega
  · omega
theorem lw_init (X : lwCx D cy t1 t2 p s m meth c b L xs) {cp j r : Nat} {rest : List Value} {Pst : mPost} (hd : decode code pc = .ok (.invokespecial cp, 3)) (hj : j < 231) (hl : Jvm.Cond.methodLink RL cp (mM j).2.1 ∈ mWW) (hs1 : (mM j).2.2.2.2.2.2.2 = false) (hi0 : (mM j).2.2.2.2.2.2.1 = true) (hna : (mM j).2.2.2.2.2.1 = 0) (hcat : mCat rest ≤ 8) (hrun : mF 100 j [.ref (r + 1)] lay M Pst) (hsz : ∀ v lay' M', Pst v lay' M' → lay'.length ≤ 600000 ∧ mSum lay' ≤ 7302250) (kk : ∀ v lay' M', Pst v lay' M' → lwW D cy t1 t2 p l e s m below meth c b (pc + 3) LL (v.toList ++ rest) lay' M') : lwW D cy t1 t2 p l e s m below meth c b pc LL (.ref (r + 1) :: rest) lay M := by
  have hww := lw_hts X
  obtain ⟨⟨hx, hb, hr, hml, hown, hts, hX, hbl, hlk, -⟩, hK, hN, hstc, hL⟩ := X
  obtain ⟨hlen, n, v, lay', M', hrn, hP'⟩ := hrun
  have hmono := mRun_mono _ _ _ _ _ _ _ _ _ _ _ hrn
  have hsz2 := hsz v lay' M' hP'
  obtain ⟨-, hcls, hcode, hini, ⟨hd1, hd2, hd3⟩, hstat, hinst, hsel, hnm, hmL⟩ := mM_ok hj
  intro H locs ls ad hv hS
  obtain ⟨hl0, hP, hD, hSt, hoM, hki, hst, hoL⟩ := hv
  have hokas : mOkS lay.length [.ref (r + 1)] := by
    intro w hw
    rw [List.mem_singleton.mp hw]
    exact hS _ List.mem_cons_self
  have hokrest : mOkS lay.length rest := fun w hw => hS w (List.mem_cons_of_mem _ hw)
  have hMet := mContract l (D := D) (cy := cy) (sz := H.size) hj hrn hlen hst hoM hki hokas
  have hAw : ∀ q, va_A (mWd cy ad lay M) H.size q → s.heap.size ≤ q := by
    intro q hq
    rcases hq with ⟨k2, e2, hq⟩ | hq
    · exact hD.2 k2 _ hq
    · exact Nat.le_trans hSt.1 hq
  have hpre : ∀ U : State, U.heap = H → s.WarmedH U.vm → va_Pc ([.ref (r + 1)].map (mV ad)) (mPre D cy t1 t2 H.size (mWd cy ad lay M)) ([.ref (r + 1)].map (mV ad)).toArray U := by
    intro U hU hW
    refine ⟨rfl, by rw [hU], by rw [hU]; exact hP, va_K.moved hW.alike hK, hD.weaken (fun _ _ _ _ => trivial), mNw_warm hW hN, ?_⟩
    rw [hU]
    exact ((hstc.kept hSt.2.1).narrow hAw).moved hW.alike
  have hfix : CallFix p m c code 4 s #[Value.ref b] mWW R_law := ⟨hx, hb, hml, hown, hww⟩
  have hRR : (mRm 100 (lay'.length - lay.length) (mSum lay' - mSum lay)).frames + 1 ≤ room_1.frames ∧ 8 + ((mM j).2.2.2.1 + 11) + (mRm 100 (lay'.length - lay.length) (mSum lay' - mSum lay)).locals ≤ room_1.locals := by
    refine ⟨Nat.le_of_ble_eq_true rfl, ?_⟩
    show 8 + ((mM j).2.2.2.1 + 11) + (40 * 100 + 60) ≤ 84000
    omega
  have hrm8 := lv_room (m := m) (pc := pc) (ls := ls) (rest := (.ref (r + 1) :: rest).map (mV ad)) (st := rest.map (mV ad)) (by rw [mV_catS]; exact hcat)
  have hrn0 : (mM j).2.2.2.2.1 = none := mM_init hj hi0
  have hcodeN : mWs j = Jvm.Cond.code (mM j).2.1 (mM j).2.2.1 (mM j).2.2.2.1 none :: mWW := by rw [← hrn0]; rfl
  have hrun : va_Run p l e room_1 s m #[Value.ref b] below meth c H locs lay.length (mSum lay) (lay'.length - lay.length) (mSum lay' - mSum lay) (F0 m pc ls ((.ref (r + 1) :: rest).map (mV ad))) (rest.map (mV ad)) (mQ D cy t1 t2 lay.length ad v lay' M' (va_A (mWd cy ad lay M) H.size) (.ref (ad (r + 1)) :: []).toArray) (va_A (mWd cy ad lay M) H.size) := by
    refine va_runI (As := []) (n := 0) (bytes := (mM j).2.2.1) (maxL := (mM j).2.2.2.1) hfix hMet (cwI _ hww (mGood j hj) hcodeN rfl rfl (hww _ hini) (hww _ hl) (hww _ (hinst hs1)) (hnm hi0) ⟨hd1, hd2, by rw [hd3, hna]⟩ hRR) ⟨mBlind, hpre⟩ rfl rfl hl0.1 rfl hrm8 hd ⟨?_, ?_⟩
    · show lay.length + (lay'.length - lay.length) ≤ 600000; omega
    · show mSum lay + (mSum lay' - mSum lay) ≤ 7302250; omega
  refine mCall (A := fun q => s.heap.size ≤ q) hrun hSt hAw (fun ad' H1 locs1 q1 q2 q3 q4 q5 q6 q7 q8 => ?_)
  have hLL : (LL.map fun q => (q.1, mV ad' q.2)) = LL.map fun q => (q.1, mV ad q.2) := List.map_congr_left fun q hq => by rw [(hoL q hq).at q1]
  have k2 := kk v lay' M' hP' H1 locs1 ls ad' ⟨by rw [hLL]; exact hl0, q3, q4, q8, q5, q6, q2, fun q hq => (hoL q hq).mono hmono.1⟩ (by
    intro w hw
    rcases List.mem_append.mp hw with hw | hw
    · exact q7 w (by cases v with
        | none => cases hw
        | some x => rw [List.mem_singleton.mp hw])
    · exact (hokrest w hw).mono hmono.1)
  have e1 : (v.toList ++ rest).map (mV ad') = (v.map (mV ad')).toList ++ rest.map (mV ad) := by
    rw [List.map_append, hokrest.at q1]
    cases v <;> rfl
  rw [e1] at k2
  refine W.cs ?_ ?_ k2
  · omega
  · omega
theorem lw_new (X : lwCx D cy t1 t2 p s m meth c b L xs) {cp ci : Nat} (hci : ci < 11) (hd : decode code pc = .ok (.new cp, 3)) (hcl : Jvm.Cond.classLink RL cp (mCl ci).1 ∈ mWW) (hsz : lay.length + 1 ≤ 600000 ∧ mSum lay + (mCl ci).2.2 ≤ 7302250) (kk : lwW D cy t1 t2 p l e s m below meth c b (pc + 3) LL (.ref (lay.length + 3) :: st) (lay ++ [(ci + 3, (mCl ci).2.2)]) (mNew M (lay.length + 3))) : lwW D cy t1 t2 p l e s m below meth c b pc LL st lay M := by
  have hww := lw_hts X
  obtain ⟨⟨hx, hb, hr, hml, hown, hts, hX, hbl, hlk, -⟩, hK, hN, hstc, hL⟩ := X
  intro H locs ls ad hv hS
  obtain ⟨hl0, hP, hD, hSt, hoM, hki, hst, hoL⟩ := hv
  have hA : ∀ q : Nat, s.heap.size ≤ q → (fun q : Nat => s.heap.size ≤ q) q := fun _ h => h
  have hlen : (lay ++ [(ci + 3, (mCl ci).2.2)]).length = lay.length + 1 := by simp
  have hsum : mSum (lay ++ [(ci + 3, (mCl ci).2.2)]) = mSum lay + (mCl ci).2.2 := mSum_app _ _
  refine va_new (D := D) (ci := ci) (fs := (List.range (mCl ci).2.2).map fun j => mFV (mTy ci j) ad (mNew M (lay.length + 3)) (lay.length + 3) j) (C := (mCl ci).1) (T := (mCl ci).2.1) (N := (mCl ci).2.2) hx hb hww (mCl_ws hci) (mTy ci) (mCl_ty hci) hown (hww _ hcl) (hww _ (mw_ins ci hci).1) (hww _ (mw_ins ci hci).2) hK hP hD hSt hA (mCl_at hci) (fun j hj => ?_) hsz.1 hsz.2 hd (fun q H1 p1 p2 p3 => ?_)
  · rw [mDef (ad := ad) (M := M) (r := lay.length + 3) (r2 := lay.length + 3) (j := j) (mCl_tk hci j hj) rfl]
    simp [vp_V, hj]
  · have hcell : mCell cy (fun r => if r = lay.length + 3 then q else ad r) (mNew M (lay.length + 3)) (lay.length + 3) (ci + 3, (mCl ci).2.2) = .inr (ci, (List.range (mCl ci).2.2).map fun j => mFV (mTy ci j) ad (mNew M (lay.length + 3)) (lay.length + 3) j) := by
      show (Sum.inr (ci, _) : va_E) = _
      refine congrArg (fun z => (Sum.inr (ci, z) : va_E)) ?_
      refine List.map_congr_left fun j hj => ?_
      have hj := List.mem_range.mp hj
      rw [← mDef (mCl_tk hci j hj) rfl, ← mDef (mCl_tk hci j hj) rfl]
    have hn2 : ∀ r, r < lay.length + 3 → (fun r => if r = lay.length + 3 then q else ad r) r = ad r := fun r hr => if_neg (by omega)
    have hw := mWd_new (cy := cy) (ad := ad) (ad' := fun r => if r = lay.length + 3 then q else ad r) (M' := mNew M (lay.length + 3)) (x := (ci + 3, (mCl ci).2.2)) (q := q) hoM (if_pos rfl) hn2 (fun r hr => by
      have : r ≠ lay.length + 3 := by omega
      exact ⟨by funext b; simp [mNew, this], by funext b; simp [mNew, this], by funext b; simp [mNew, this]⟩) hcell
    rw [hw] at p1 p2
    have hLL : (LL.map fun z => (z.1, mV (fun r => if r = lay.length + 3 then q else ad r) z.2)) = LL.map fun z => (z.1, mV ad z.2) := List.map_congr_left fun z hz => by rw [(hoL z hz).at hn2]
    have k2 := kk H1 locs ls _ ⟨by rw [hLL]; exact hl0, p1, p2, p3, by rw [hlen]; exact hoM.new _, by
      intro y hy
      rcases List.mem_append.mp hy with h | h
      · exact hki y h
      · rw [List.mem_singleton.mp h]; show ci + 3 < 14; omega, ⟨by rw [← hst.1]; exact if_neg (by omega), by rw [← hst.2]; exact if_neg (by omega)⟩, fun z hz => (hoL z hz).mono (by rw [hlen]; omega)⟩ (mOkS_cons.mpr ⟨by rw [hlen]; exact Nat.lt_succ_self _, by rw [hlen]; exact hS.mono (Nat.le_succ _)⟩)
    rw [hlen, hsum] at k2
    have e1 : (Value.ref (lay.length + 3) :: st).map (mV (fun r => if r = lay.length + 3 then q else ad r)) = .ref q :: st.map (mV ad) := by
      have e2 : mV (fun r => if r = lay.length + 3 then q else ad r) (.ref (lay.length + 3)) = .ref q := by
        show Value.ref (if lay.length + 3 = lay.length + 3 then q else _) = _
        rw [if_pos rfl]
      rw [List.map_cons, hS.at hn2, e2]
    rw [e1] at k2
    exact k2
theorem lw_dup (X : lwCx D cy t1 t2 p s m meth c b L xs) {r : Nat} (hd : decode code pc = .ok (.dup, 1)) (kk : lwW D cy t1 t2 p l e s m below meth c b (pc + 1) LL (.ref (r + 1) :: .ref (r + 1) :: st) lay M) : lwW D cy t1 t2 p l e s m below meth c b pc LL (.ref (r + 1) :: st) lay M := by
  obtain ⟨⟨hx, hb, -⟩, -⟩ := X
  intro H locs ls ad hv hS
  exact lv_dup hx hb hd rfl (kk H locs ls ad hv (mOkS_cons.mpr ⟨(mOkS_cons.mp hS).1, hS⟩))
theorem lw_eqI (X : lwCx D cy t1 t2 p s m meth c b L xs) {x : Int32} {off : Int} {t : Nat} (hd : decode code pc = .ok (.if_icmp .eq off, 3)) (ht : (pc : Int) + off = (t : Int)) (kk : lwW D cy t1 t2 p l e s m below meth c b t LL st lay M) : lwW D cy t1 t2 p l e s m below meth c b pc LL (.int x :: .int x :: st) lay M := by
  obtain ⟨⟨hx, hb, -⟩, -⟩ := X
  intro H locs ls ad hv hS
  exact lv_icmp_eq hx hb hd ht (fun _ => kk H locs ls ad hv (mOkS_cons.mp (mOkS_cons.mp hS).2).2) (fun q => absurd rfl q)
theorem lw_eqL (X : lwCx D cy t1 t2 p s m meth c b L xs) {x : Int64} {off : Int} {t : Nat} (hd0 : decode code pc = .ok (.lcmp, 1)) (hd : decode code (pc + 1) = .ok (.ifCond .eq off, 3)) (ht : ((pc + 1 : Nat) : Int) + off = (t : Int)) (kk : lwW D cy t1 t2 p l e s m below meth c b t LL st lay M) : lwW D cy t1 t2 p l e s m below meth c b pc LL (.long x :: .long x :: st) lay M := by
  obtain ⟨⟨hx, hb, -⟩, -⟩ := X
  intro H locs ls ad hv hS
  refine W.lcmp hx hb hd0 ?_
  have e0 : lg_cmp x x = 0 := by simp [lg_cmp]
  rw [e0]
  exact lv_if_eq hx hb hd ht (fun _ => kk H locs ls ad hv (mOkS_cons.mp (mOkS_cons.mp hS).2).2) (fun q => absurd rfl q)
/-- the long argument of put: i2l, bipush 32, lshl, .., land, lor -/
theorem lw_long (X : lwCx D cy t1 t2 p s m meth c b L xs) {k i n2 cp : Nat} (d0 : decode code pc = .ok (.i2l, 1)) (d1 : decode code (pc + 1) = .ok (.bipush 32, 2)) (d2 : decode code (pc + 3) = .ok (.lshl, 1)) (a0 : decode code (pc + 4) = .ok (.aload_n 0, 1)) (a1 : decode code (pc + 5) = .ok (.iload_n 3, 1)) (a2 : decode code (pc + 6) = .ok (.iconst n2, 1)) (a3 : decode code (pc + 7) = .ok (.iadd, 1)) (a4 : decode code (pc + 8) = .ok (.iaload, 1)) (d3 : decode code (pc + 9) = .ok (.i2l, 1)) (d4 : decode code (pc + 10) = .ok (.ldc2_w cp, 3)) (hc : Jvm.Cond.constantLong RL cp (4294967295 : Int64) ∈ mWW) (d5 : decode code (pc + 13) = .ok (.land, 1)) (d6 : decode code (pc + 14) = .ok (.lor, 1)) (hk : LL[k]? = some (3, .int (nI i))) (hi : i + n2 < L) {x : Int32} (kk : lwW D cy t1 t2 p l e s m below meth c b (pc + 15) LL (.long ((x.toInt64 <<< ((32 : Int32).toInt64 &&& 63)) ||| ((xs (i + n2)).toInt64 &&& 4294967295)) :: st) lay M) : lwW D cy t1 t2 p l e s m below meth c b pc LL (.int x :: st) lay M := by
  have hww := lw_hts X
  obtain ⟨⟨hx, hb, hr, hml, hown, hts, hX, hbl, hlk, -⟩, -, -, -, hL⟩ := X
  have hbA : ¬ (fun q : Nat => s.heap.size ≤ q) b := Nat.not_le.mpr hbl
  intro H locs ls ad hv hS
  have h1 : ((0, Value.ref b) :: LL.map fun q => (q.1, mV ad q.2))[k + 1]? = some (3, .int (nI i)) := by
    simp [hk, mV]
  refine lv_i2l hx hb d0 rfl ?_
  refine lv_bipush (v := 32) hx hb d1 (by decide) ?_
  refine lv_lshl hx hb d2 rfl ?_
  refine lv_aload_n hx hb a0 rfl (lv_at hv.1 0 rfl) ?_
  refine lv_iload_n hx hb a1 rfl (lv_at hv.1 (k + 1) h1) ?_
  refine lv_iconst (v := nI n2) hx hb a2 (by rw [← jI_nat]; rfl) ?_
  refine lv_iadd hx hb a3 ?_
  rw [nI_add]
  refine va_sld hx hb hX hbl hbA hv.2.2.2.1 (vp_in_nI hi (by omega)) a4 ?_
  rw [nI_clamp (by omega)]
  refine lv_i2l hx hb d3 rfl ?_
  refine lv_ldc2 hx hb hown (hww _ hc) d4 ?_
  refine lv_land hx hb d5 ?_
  refine lv_lor hx hb d6 ?_
  exact kk H locs ls ad hv (mOkS_cons.mpr ⟨trivial, (mOkS_cons.mp hS).2⟩)
end LWF
