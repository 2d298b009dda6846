/-! ===== a run of the small machine is a run of the JVM ===== -/
def mWs (k : Nat) : List Jvm.Cond := Jvm.Cond.code (mM k).2.1 (mM k).2.2.1 (mM k).2.2.2.1 (mM k).2.2.2.2.1 :: mWW
def mRm (d mc ms : Nat) : Room := { frames := d + 1, cells := mc, slots := ms, locals := 40 * d + 60 }
def mQ (D : va_G) (cy : Nat → ClassId) (t1 t2 n0 : Nat) (ad0 : Nat → Nat) (v : Option Value) (lay' : List mShp) (M' : mMem) (A : Nat → Prop) : Array Value → State → Outcome → State → Prop := fun _ st o t => (∃ ad' : Nat → Nat, (∀ r, r < n0 + 3 → ad' r = ad0 r) ∧ (ad' 1 = t1 ∧ ad' 2 = t2) ∧ o = .returned (v.map (mV ad')) ∧ va_P D vwCl (mWd cy ad' lay' M') t.heap ∧ va_D A (mWd cy ad' lay' M') ∧ mOkM lay'.length M' ∧ mKinds lay' ∧ (∀ w, v = some w → mOkV lay'.length w)) ∧ va_F A st t
def mPre (D : va_G) (cy : Nat → ClassId) (t1 t2 sz : Nat) (ws : va_W) (U : State) : Prop := U.heap.size = sz ∧ va_P D vwCl ws U.heap ∧ va_K D vwCl (mTys cy) U ∧ va_D (fun _ => True) ws ∧ (∀ w ∈ mNW, va_Nw w U) ∧ mStc t1 t2 (va_A ws sz) U U.heap
theorem mStc.moved {t1 t2 : Nat} {A : Nat → Prop} {u U : State} {H : Heap} (hvm : u.vm.Alike U.vm) (h : mStc t1 t2 A u H) : mStc t1 t2 A U H := ⟨h.1.moved hvm, h.2.1.moved hvm, h.2.2.1.moved hvm, h.2.2.2.moved hvm⟩
theorem mStc.kept {t1 t2 : Nat} {A : Nat → Prop} {U : State} {H H1 : Heap} (h : mStc t1 t2 A U H) (hq : ∀ a : Nat, a < H.size → ¬ A a → H1[a]? = H[a]?) : mStc t1 t2 A U H1 := ⟨h.1.kept hq, h.2.1.kept hq, h.2.2.1.kept hq, h.2.2.2.kept hq⟩
theorem mStc.narrow {t1 t2 : Nat} {A B : Nat → Prop} {U : State} {H : Heap} (h : mStc t1 t2 A U H) (hAB : ∀ q, B q → A q) : mStc t1 t2 B U H := ⟨h.1.narrow hAB, h.2.1.narrow hAB, h.2.2.1.narrow hAB, h.2.2.2.narrow hAB⟩
theorem mNw_warm {s U : State} (hW : s.WarmedH U.vm) (h : ∀ w ∈ mNW, va_Nw w s) : ∀ w ∈ mNW, va_Nw w U := by
  intro w hw
  have h1 := h w hw
  have h2 := (List.mem_filter.mp hw).2
  cases w <;> first | exact va_Nw.warmF hW h1 | exact va_Nw.warmM hW h1 | cases h2
theorem mNw_same {u U : State} (hvm : u.vm = U.vm) (h : ∀ w ∈ mNW, va_Nw w u) : ∀ w ∈ mNW, va_Nw w U := by
  intro w hw
  have h1 := h w hw
  have h2 := (List.mem_filter.mp hw).2
  cases w <;> first | exact va_Nw.same rfl hvm h1 | cases h2
theorem mGood (k : Nat) (hk : k < 231) : GoodIn mWW (mWs k) := by
  intro w hw
  rcases List.mem_cons.mp hw with rfl | h
  · have h1 := (mM_ok hk).2.2.1
    exact ⟨h1, good_of_word (mww_good _ h1)⟩
  · exact ⟨h, good_of_word (mww_good _ h)⟩
theorem mBlind {D : va_G} {cy : Nat → ClassId} {t1 t2 sz : Nat} {ws : va_W} {av : List Value} : FrameBlind (va_Pc av (mPre D cy t1 t2 sz ws)) := by
  intro a U g mk h
  obtain ⟨h0, h1, h2, h3, h4, h5, h6⟩ := h
  exact ⟨h0, h1, h2, va_K.moved (u := U) (U := U.calling g mk a) (Vm.Alike.refl U.vm) h3, h4, mNw_same (u := U) (U := U.calling g mk a) rfl h5, mStc.moved (u := U) (U := U.calling g mk a) (Vm.Alike.refl U.vm) h6⟩
theorem mMs_all : (mMs.all fun e => decide (e.1 < 12) && (!e.2.2.2.2.2.2.1 || decide (e.2.2.2.2.1 = none))) = true := by decide +kernel
theorem mM_own {k : Nat} (hk : k < 231) : (mM k).1 < 12 := by
  have h := List.all_eq_true.mp mMs_all (mM k) (mGetD_in (by rw [mMs_len]; exact hk))
  simp only [Bool.and_eq_true, decide_eq_true_eq] at h
  exact h.1
theorem mM_init {k : Nat} (hk : k < 231) (h0 : (mM k).2.2.2.2.2.2.1 = true) : (mM k).2.2.2.2.1 = none := by
  have h := List.all_eq_true.mp mMs_all (mM k) (mGetD_in (by rw [mMs_len]; exact hk))
  simp only [Bool.and_eq_true, decide_eq_true_eq, h0, Bool.not_true, Bool.false_or] at h
  exact h.2
theorem mCl_name {c : Nat} (h : c < 11) : (mCl c).1 = mOwn c := by
  rcases (by omega : c = 0 ∨ c = 1 ∨ c = 2 ∨ c = 3 ∨ c = 4 ∨ c = 5 ∨ c = 6 ∨ c = 7 ∨ c = 8 ∨ c = 9 ∨ c = 10) with rfl | rfl | rfl | rfl | rfl | rfl | rfl | rfl | rfl | rfl | rfl <;> rfl
section MRN
variable {D : va_G} {cy : Nat → ClassId} {p : Program} {l : Launch} {e : Env} {R : Room} {s : State} {m : MethodId} {args : Array Value} {below : List Frame} {meth : Method} {c : Code} {Q : State → Prop} {A : Nat → Prop} {k t1 t2 n0 s0 : Nat} {ad0 : Nat → Nat}
variable {pc pc' len : Nat} {i : Instr} {L L' : mLs} {S S' : List Value} {lay lay' : List mShp} {M M' : mMem}
/-- ends -/
theorem mR {v : Option Value} (X : mCx D cy p R s m args meth c A k t1 t2) (hf : mFetch k pc = some (i, len)) (h : mStep k pc i len L S lay M = some (.inr (.inl v))) : mTg D cy p l e R s m args below meth c (MQ below (mQ D cy t1 t2 n0 ad0 v lay M A) args s (lay.length - n0) (mSum lay - s0) A) A k t1 t2 n0 s0 ad0 pc L S lay M := by
  obtain ⟨hx, hb, hr, hml, hown, hts, hlk, -⟩ := X
  obtain ⟨hk231, hd, he, -⟩ := mFetch_ok hf
  have hie := mStep_inr h
  intro H locs ls ad hv hS
  obtain ⟨hl, hP, hD, hSt, hoL, hoM, hki, hst, hn, hra⟩ := hv
  have hq : ∀ (w : Option Value), (∀ x, w = some x → mOkV lay.length x) → ∀ t : State, t.heap = H → s.WarmedH t.vm → mQ D cy t1 t2 n0 ad0 w lay M A args s (.returned (w.map (mV ad))) t := by
    intro w hw t ht _
    exact ⟨⟨ad, hra, hst, rfl, by rw [ht]; exact hP, hD, hoM, hki, hw⟩, hSt.F ht⟩
  have hlen : (∀ c, i ≠ .invokestatic c) → (∀ c, i ≠ .invokespecial c) → (∀ c, i ≠ .invokevirtual c) → len = 1 := by
    intro h1 h2 h3
    cases i <;> first | (simpa [mEnt] using he) | (exact absurd rfl (h1 _)) | (exact absurd rfl (h2 _)) | (exact absurd rfl (h3 _)) | cases hie
  cases i <;> try cases hie
  case invokestatic cp =>
    simp only [mStep] at h
    split at h
    · split at h
      · cases h
      · obtain ⟨_, _, h2⟩ := mPrim_some h
        exact (mGo_inr h2).elim
    · obtain ⟨_, _, _, _, _, _, -, h2, -⟩ := mInv_some h
      cases h2
  case invokespecial cp =>
    simp only [mStep] at h
    split at h
    · split at h
      · obtain ⟨_, _, h2⟩ := mPrim_some h
        exact (mGo_inr h2).elim
      · cases h
    · obtain ⟨_, _, _, _, _, _, -, h2, -⟩ := mInv_some h
      cases h2
  case invokevirtual cp =>
    simp only [mStep] at h
    obtain ⟨_, _, _, _, _, _, -, h2, -⟩ := mInv_some h
    cases h2
  case ireturn =>
    have hl1 := hlen (fun _ q => by cases q) (fun _ q => by cases q) (fun _ q => by cases q)
    subst hl1
    simp only [mStep] at h
    split at h
    next x =>
      split at h
      next hrt =>
        cases h
        have hQ := hq (some (.int x)) (fun y hy => by cases hy; trivial)
        unfold mRetI at hrt
        split at hrt
        next hret => exact W.iret hx hb (by rw [hr, hret]) hQ hSt.2.2 hd hlk
        next hret =>
          simp only [decide_eq_true_eq] at hrt
          exact W.zret (ty := .boolean) hx hb (by rw [hr, hret]) (by rcases hrt with rfl | rfl <;> rfl) hQ hSt.2.2 hd hlk
        next => cases hrt
      next => cases h
    next => cases h
  case lreturn =>
    have hl1 := hlen (fun _ q => by cases q) (fun _ q => by cases q) (fun _ q => by cases q)
    subst hl1
    simp only [mStep] at h
    split at h
    next x =>
      split at h
      next hret =>
        cases h
        exact W.lret hx hb (by rw [hr, hret]) (hq (some (.long x)) (fun y hy => by cases hy; trivial)) hSt.2.2 hd hlk
      next => cases h
    next => cases h
  case areturn =>
    have hl1 := hlen (fun _ q => by cases q) (fun _ q => by cases q) (fun _ q => by cases q)
    subst hl1
    simp only [mStep] at h
    split at h
    next x =>
      split at h
      next hret =>
        cases h
        refine W.aret (rt := .array .int) hx hb (by rw [hr, hret]) (Or.inr ⟨_, rfl⟩) ?_ (hq (some (.ref x)) (fun y hy => by cases hy; exact hS _ List.mem_cons_self)) hSt.2.2 hd hlk
        cases x with
        | zero => exact Or.inl rfl
        | succ x => exact Or.inr ⟨_, rfl⟩
      next => cases h
    next => cases h
  case return_ =>
    have hl1 := hlen (fun _ q => by cases q) (fun _ q => by cases q) (fun _ q => by cases q)
    subst hl1
    simp only [mStep] at h
    split at h
    next =>
      split at h
      next hret =>
        cases h
        exact W.vret hx hb (by rw [hr, hret]) (hq none (fun y hy => by cases hy)) hSt.2.2 hd hlk
      next => cases h
    next => cases h
/-- behind a call -/
theorem mCall {H : Heap} {locs : List Loc} {cells slots mc ms : Nat} {ls : Array Slot} {st0 rest : List Value} {a : Array Value} {ad : Nat → Nat} {v : Option Value} {W0 : va_W} (hr : va_Run p l e R s m args below meth c H locs cells slots mc ms (F0 m pc ls st0) rest (mQ D cy t1 t2 lay.length ad v lay' M' (va_A W0 H.size) a) (va_A W0 H.size)) (hS : va_S A s.heap H locs) (hA : ∀ q, va_A W0 H.size q → A q)
    (kk : ∀ (ad' : Nat → Nat) (H1 : Heap) (locs1 : List Loc), (∀ r, r < lay.length + 3 → ad' r = ad r) → (ad' 1 = t1 ∧ ad' 2 = t2) → va_P D vwCl (mWd cy ad' lay' M') H1 → va_D A (mWd cy ad' lay' M') → mOkM lay'.length M' → mKinds lay' → (∀ w, v = some w → mOkV lay'.length w) → va_S A s.heap H1 locs1 → W p l e R s m args below meth c H1 locs1 (cells + mc) (slots + ms) Q (F0 m (pc + 3) ls ((v.map (mV ad')).toList ++ rest))) : W p l e R s m args below meth c H locs cells slots Q (F0 m pc ls st0) := by
  intro T hT X
  obtain ⟨v', st₀, t, T', L, h0, X', hL, e1, e2, ⟨⟨ad', q1, q2, q3, q4, q5, q6, q7, q8⟩, hz, hk⟩, st⟩ := hr T hT X
  cases q3
  rw [h0] at hz hk
  obtain ⟨t2', a1, b1⟩ := kk ad' T'.heap (locs ++ L) q1 q2 (by rw [e1]; exact q4) (q5.weaken fun _ q _ h => hA _ h) q6 q7 q8
    ⟨Nat.le_trans hS.1 (by rw [e1]; exact hz), fun q h1 h2 => by rw [e1, hk q (Nat.lt_of_lt_of_le h1 hS.1) (fun z => h2 (hA q z))]; exact hS.2.1 q h1 h2, fun q hq => by
      rcases List.mem_append.mp hq with h | h
      · exact hS.2.2 q h
      · exact hA _ (hL q h)⟩ T' rfl X'
  exact ⟨t2', st t2' a1, b1⟩
theorem mStep_call {j : Nat} {as rest : List Value} (h : mStep k pc i len L S lay M = some (.inr (.inr (j, as, rest)))) : ∃ kd cp, mInv kd (mM k).1 cp lay S = some (.inr (.inr (j, as, rest))) ∧ ((kd = 0 ∧ i = .invokestatic cp) ∨ (kd = 1 ∧ i = .invokevirtual cp) ∨ (kd = 2 ∧ i = .invokespecial cp)) := by
  have hie := mStep_inr h
  cases i <;> try cases hie
  case invokestatic cp =>
    simp only [mStep] at h
    split at h
    · split at h
      · cases h
      · obtain ⟨_, _, h2⟩ := mPrim_some h
        exact (mGo_inr h2).elim
    · exact ⟨0, cp, h, Or.inl ⟨rfl, rfl⟩⟩
  case invokespecial cp =>
    simp only [mStep] at h
    split at h
    · split at h
      · obtain ⟨_, _, h2⟩ := mPrim_some h
        exact (mGo_inr h2).elim
      · cases h
    · exact ⟨2, cp, h, Or.inr (Or.inr ⟨rfl, rfl⟩)⟩
  case invokevirtual cp =>
    simp only [mStep] at h
    exact ⟨1, cp, h, Or.inr (Or.inl ⟨rfl, rfl⟩)⟩
  case ireturn =>
    simp only [mStep] at h
    split at h
    · split at h <;> cases h
    · cases h
  case lreturn =>
    simp only [mStep] at h
    split at h
    · split at h <;> cases h
    · cases h
  case areturn =>
    simp only [mStep] at h
    split at h
    · split at h <;> cases h
    · cases h
  case return_ =>
    simp only [mStep] at h
    split at h
    · split at h <;> cases h
    · cases h
theorem mC {j d mc ms mcR msR : Nat} {as rest : List Value} {v : Option Value} (X : mCx D cy p (mRm (d + 1) mcR msR) s m args meth c A k t1 t2) (hf : mFetch k pc = some (i, len)) (h : mStep k pc i len L S lay M = some (.inr (.inr (j, as, rest))))
    (hmc : mc = lay'.length - lay.length) (hms : ms = mSum lay' - mSum lay) (hle : lay.length ≤ lay'.length ∧ mSum lay ≤ mSum lay') (hrm : lay'.length - n0 ≤ mcR ∧ mSum lay' - s0 ≤ msR)
    (hM : ∀ (ad : Nat → Nat) (sz : Nat), (ad 1 = t1 ∧ ad 2 = t2) → mOkM lay.length M → mKinds lay → mOkS lay.length as → Met l (mM j).2.1 (mWs j) (mRm d mc ms) (va_Pc (as.map (mV ad)) (mPre D cy t1 t2 sz (mWd cy ad lay M))) (mQ D cy t1 t2 lay.length ad v lay' M' (va_A (mWd cy ad lay M) sz)) mc ms (va_A (mWd cy ad lay M) sz))
    (hk : mTg D cy p l e (mRm (d + 1) mcR msR) s m args below meth c Q A k t1 t2 n0 s0 ad0 (pc + 3) L (v.toList ++ rest) lay' M') : mTg D cy p l e (mRm (d + 1) mcR msR) s m args below meth c Q A k t1 t2 n0 s0 ad0 pc L S lay M := by
  obtain ⟨hx, hb, hr, hml, hown, hts, hlk, -, hK, hN, hstc, hA, hR⟩ := X
  obtain ⟨hk231, hd, he, -⟩ := mFetch_ok hf
  obtain ⟨kd, cp, hinv, hkind⟩ := mStep_call h
  obtain ⟨nst, j', a, z, as', rest', hz, hout, hlen, hcat, hcase⟩ := mInv_some hinv
  cases hout
  obtain ⟨hj, hl0, hl1, hn2⟩ := mMt_ok _ _ (mFindR_mem hz)
  dsimp only at hj hl0 hl1 hn2
  obtain ⟨-, hcls, hcode, hini, ⟨hd1, hd2, hd3⟩, hstat, hinst, hsel, hnm, hmL⟩ := mM_ok hj
  have hl3 : len = 3 := by rcases hkind with ⟨-, rfl⟩ | ⟨-, rfl⟩ | ⟨-, rfl⟩ <;> simpa [mEnt] using he
  subst hl3
  intro H locs ls ad hv hS
  obtain ⟨hl, hP, hD, hSt, hoL, hoM, hki, hst, hn, hra⟩ := hv
  have hfix : CallFix p m c (mM k).2.2.1 (mM k).2.2.2.1 s args mWW (mOwn (mM k).1) := ⟨hx, hb, hml, hown, hts⟩
  have hAw : ∀ q, va_A (mWd cy ad lay M) H.size q → A q := by
    intro q hq
    rcases hq with ⟨k2, e2, hq⟩ | hq
    · exact hD.2 k2 _ hq
    · exact hA q (Nat.le_trans hSt.1 hq)
  have hokas : mOkS lay.length as := by
    intro w hw
    rcases hcase with ⟨-, -, rfl, -⟩ | ⟨-, -, -, r, n, -, rfl, hdr⟩
    · exact hS w (List.mem_of_mem_take (List.mem_reverse.mp hw))
    · rcases List.mem_cons.mp hw with rfl | hw
      · exact hS _ (List.mem_of_mem_drop (by rw [hdr]; exact List.mem_cons_self))
      · exact hS w (List.mem_of_mem_take (List.mem_reverse.mp hw))
  have hokrest : mOkS lay.length rest := by
    intro w hw
    rcases hcase with ⟨-, -, -, rfl⟩ | ⟨-, -, -, r, n, -, -, hdr⟩
    · exact hS w (List.mem_of_mem_drop hw)
    · exact hS w (List.mem_of_mem_drop (by rw [hdr]; exact List.mem_cons_of_mem _ hw))
  have hMet := hM ad H.size hst hoM hki hokas
  have hpre : ∀ U : State, U.heap = H → s.WarmedH U.vm → va_Pc (as.map (mV ad)) (mPre D cy t1 t2 H.size (mWd cy ad lay M)) (as.map (mV ad)).toArray U := by
    intro U hU hW
    refine ⟨rfl, by rw [hU], by rw [hU]; exact hP, va_K.moved hW.alike hK, hD.weaken (fun _ _ _ _ => trivial), mNw_warm hW hN, ?_⟩
    rw [hU]
    exact ((hstc.kept hSt.2.1).narrow hAw).moved hW.alike
  have hgo : va_Run p l e (mRm (d + 1) mcR msR) s m args below meth c H locs (lay.length - n0) (mSum lay - s0) mc ms (F0 m pc ls (S.map (mV ad))) (rest.map (mV ad)) (mQ D cy t1 t2 lay.length ad v lay' M' (va_A (mWd cy ad lay M) H.size) (as.map (mV ad)).toArray) (va_A (mWd cy ad lay M) H.size) → W p l e (mRm (d + 1) mcR msR) s m args below meth c H locs (lay.length - n0) (mSum lay - s0) Q (F0 m pc ls (S.map (mV ad))) := by
    intro hrun
    refine mCall hrun hSt hAw (fun ad' H1 locs1 q1 q2 q3 q4 q5 q6 q7 q8 => ?_)
    have hn2 : n0 ≤ lay'.length ∧ s0 ≤ mSum lay' := ⟨Nat.le_trans hn.1 hle.1, Nat.le_trans hn.2 hle.2⟩
    have kk := hk H1 locs1 ls ad' ⟨hl.at hoL q1, q3, q4, q8, hoL.mono hle.1, q5, q6, q2, hn2, fun r hr => (q1 r (by omega)).trans (hra r hr)⟩ (by
      intro w hw
      rcases List.mem_append.mp hw with hw | hw
      · exact q7 w (by cases v with
          | none => cases hw
          | some x => rw [List.mem_singleton.mp hw])
      · exact (hokrest w hw).mono hle.1)
    have e1 : (v.toList ++ rest).map (mV ad') = (v.map (mV ad')).toList ++ rest.map (mV ad) := by
      rw [List.map_append, hokrest.at q1]
      cases v <;> rfl
    rw [e1] at kk
    refine W.cs ?_ ?_ kk
    · omega
    · omega
  have hcap : lay.length - n0 + mc ≤ (mRm (d + 1) mcR msR).cells ∧ mSum lay - s0 + ms ≤ (mRm (d + 1) mcR msR).slots := by
    refine ⟨?_, ?_⟩
    · show _ ≤ mcR; omega
    · show _ ≤ msR; omega
  have hRR : (mRm d mc ms).frames + 1 ≤ (mRm (d + 1) mcR msR).frames ∧ 8 + ((mM j).2.2.2.1 + 11) + (mRm d mc ms).locals ≤ (mRm (d + 1) mcR msR).locals := by
    refine ⟨Nat.le_refl _, ?_⟩
    show 8 + ((mM j).2.2.2.1 + 11) + (40 * d + 60) ≤ 40 * (d + 1) + 60
    omega
  have hrm8 := lv_room (m := m) (pc := pc) (ls := ls) (rest := S.map (mV ad)) (st := rest.map (mV ad)) (by rw [mV_catS]; exact hcat)
  apply hgo
  have hsplit : S = S.take (mM j).2.2.2.2.2.1 ++ S.drop (mM j).2.2.2.2.2.1 := (List.take_append_drop _ _).symm
  have hargn : ((S.take (mM j).2.2.2.2.2.1).reverse.map (mV ad)).length = (mM j).2.2.2.2.2.1 := by simp; omega
  rcases hcase with ⟨rfl, hs1, has, hrest⟩ | ⟨hkd, hs1, hinit, r, n, hsh, has, hdr⟩
  · rcases hkind with ⟨-, rfl⟩ | ⟨h9, -⟩ | ⟨h9, -⟩
    · have hstk : S.map (mV ad) = (as.map (mV ad)).reverse ++ rest.map (mV ad) := by
        rw [has, hrest, ← List.map_reverse, List.reverse_reverse, ← List.map_append, List.take_append_drop]
      have hlenA : (as.map (mV ad)).length = (mM j).2.2.2.2.2.1 := by rw [has]; exact hargn
      by_cases hn0 : nst = 0
      · refine va_runS (n := (mM j).2.2.2.2.2.1) (ret := (mM j).2.2.2.2.1) (bytes := (mM j).2.2.1) (maxL := (mM j).2.2.2.1) hfix hMet (va_cwS _ hts (fun w hw => ?_) rfl rfl rfl ⟨hd1, hd2, hd3⟩ hRR) ⟨mBlind, hpre⟩ rfl hlenA hl.2.1 hstk hrm8 hd hcap
        simp only [va_wsS, List.mem_append, List.mem_cons, List.not_mem_nil, or_false] at hw
        rcases hw with (rfl | rfl | rfl) | hw
        · exact ⟨hl0 hn0, good_of_word (mww_good _ (hl0 hn0))⟩
        · exact ⟨hstat hs1, good_of_word (mww_good _ (hstat hs1))⟩
        · exact ⟨hini, good_of_word (mww_good _ hini)⟩
        · exact mGood j hj w hw
      · have hnw := hN _ (hl1 (by omega))
        exact va_runSN (n := (mM j).2.2.2.2.2.1) (ret := (mM j).2.2.2.2.1) (bytes := (mM j).2.2.1) (maxL := (mM j).2.2.2.1) hfix hMet ⟨va_cnB _ hts (mGood j hj) rfl rfl rfl hnw (hts _ hini) ⟨hd1, hd2, hd3⟩ hRR, hts _ (hstat hs1), trivial⟩ ⟨mBlind, hpre⟩ rfl hlenA hl.2.1 hstk hrm8 hd hcap
    · omega
    · omega
  · have hstk : S.map (mV ad) = ((S.take (mM j).2.2.2.2.2.1).reverse.map (mV ad)).reverse ++ .ref (ad (r + 1)) :: rest.map (mV ad) := by
      rw [← List.map_reverse, List.reverse_reverse]
      have : S.map (mV ad) = (S.take (mM j).2.2.2.2.2.1).map (mV ad) ++ (S.drop (mM j).2.2.2.2.2.1).map (mV ad) := by rw [← List.map_append, List.take_append_drop]
      rw [this, hdr]
      rfl
    have has2 : as.map (mV ad) = .ref (ad (r + 1)) :: (S.take (mM j).2.2.2.2.2.1).reverse.map (mV ad) := by rw [has]; rfl
    rw [has2] at hMet hpre ⊢
    have hci : (mM j).1 < 11 := by
      rcases mSh_in hki hsh with ⟨hk14, -⟩ | ⟨-, h0, -⟩ | ⟨-, h0, -⟩
      · omega
      · have := (mM_own hj); omega
      · have := (mM_own hj); omega
    rcases mSh_in hki hsh with ⟨hk14, q, hq0, hq⟩ | ⟨-, h0, -⟩ | ⟨-, h0, -⟩
    · have hrq : r + 1 = q + 3 := hq0
      have he0 : (mWd cy ad lay M)[q]? = some (ad (r + 1), .inr ((mM j).1, (List.range n).map fun i => mFV (mTy (mM j).1 i) ad M (q + 3) i)) := by rw [hrq, mWd_get, hq]; rfl
      have hrec : ∃ cell : Cell, H[ad (r + 1)]? = some cell ∧ cell.vm.isStatics = false ∧ s.vm.findClass (mM j).2.1.cls = some cell.cls := by
        have := va_recv hK hP (mCl_at hci) he0
        rw [hcls, ← mCl_name hci]
        exact this
      rcases hkind with ⟨h9, -⟩ | ⟨rfl, rfl⟩ | ⟨rfl, rfl⟩
      · exact absurd h9 hkd
      · have hi0 : (mM j).2.2.2.2.2.2.1 = false := by rw [hinit]; rfl
        by_cases hn0 : nst = 0
        · refine va_runV (n := (mM j).2.2.2.2.2.1) (C := (mM j).2.1.cls) (ret := (mM j).2.2.2.2.1) (bytes := (mM j).2.2.1) (maxL := (mM j).2.2.2.1) hfix hMet (cwV _ hts (fun w hw => ?_) rfl rfl rfl ⟨rfl, hd1, hd2, hd3⟩ hRR) ⟨mBlind, hrec, hpre⟩ rfl hargn hl.2.1 hstk hrm8 hd hcap
          simp only [wsV, List.mem_append, List.mem_cons, List.not_mem_nil, or_false] at hw
          rcases hw with (rfl | rfl | rfl | rfl) | hw
          · exact ⟨hl0 hn0, good_of_word (mww_good _ (hl0 hn0))⟩
          · exact ⟨hinst hs1, good_of_word (mww_good _ (hinst hs1))⟩
          · exact ⟨hsel hs1 hi0, good_of_word (mww_good _ (hsel hs1 hi0))⟩
          · exact ⟨hini, good_of_word (mww_good _ hini)⟩
          · exact mGood j hj w hw
        · have hnw := hN _ (hl1 (by omega))
          exact va_runVN (n := (mM j).2.2.2.2.2.1) (C := (mM j).2.1.cls) (ret := (mM j).2.2.2.2.1) (bytes := (mM j).2.2.1) (maxL := (mM j).2.2.2.1) hfix hMet ⟨va_cnB _ hts (mGood j hj) rfl rfl rfl hnw (hts _ hini) ⟨hd1, hd2, hd3⟩ hRR, hts _ (hinst hs1), hts _ (hsel hs1 hi0)⟩ ⟨mBlind, hrec, hpre⟩ rfl hargn hl.2.1 hstk hrm8 hd hcap
      · have hi0 : (mM j).2.2.2.2.2.2.1 = true := by rw [hinit]; rfl
        have hrn : (mM j).2.2.2.2.1 = none := mM_init hj hi0
        have hcodeN : mWs j = Jvm.Cond.code (mM j).2.1 (mM j).2.2.1 (mM j).2.2.2.1 none :: mWW := by rw [← hrn]; rfl
        by_cases hn0 : nst = 0
        · exact va_runI (n := (mM j).2.2.2.2.2.1) (bytes := (mM j).2.2.1) (maxL := (mM j).2.2.2.1) hfix hMet (cwI _ hts (mGood j hj) hcodeN rfl rfl (hts _ hini) (hts _ (hl0 hn0)) (hts _ (hinst hs1)) (hnm hi0) ⟨hd1, hd2, hd3⟩ hRR) ⟨mBlind, hpre⟩ rfl hargn hl.2.1 hstk hrm8 hd hcap
        · have hnw := hN _ (hl1 (by omega))
          exact va_runIN (n := (mM j).2.2.2.2.2.1) (bytes := (mM j).2.2.1) (maxL := (mM j).2.2.2.1) hfix hMet ⟨va_cnB _ hts (mGood j hj) hcodeN rfl rfl hnw (hts _ hini) ⟨hd1, hd2, hd3⟩ hRR, hnm hi0, hts _ (hinst hs1)⟩ ⟨mBlind, hpre⟩ rfl hargn hl.2.1 hstk hrm8 hd hcap
    · have := mM_own hj; omega
    · have := mM_own hj; omega
end MRN
