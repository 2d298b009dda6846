/-! ===== from the law's entry (by program: gen11.py) ===== -/
theorem ls_static {s : State} {b : Nat} (C : String) (nm : String) (N : Nat) (f : Nat → Int32) (hN : N < 2 ^ 31) (hgv : (Jvm.Cond.and given_1 narrow_1).before #[Value.ref b] s = true) (hts : ∀ w ∈ lw_tbl, w.before #[Value.ref b] s = true) (h1 : Jvm.Cond.arrayOf (.static C nm "[I") .int ∈ flatC (Jvm.Cond.and given_1 narrow_1)) (h2 : Jvm.Cond.eq (.length (.static C nm "[I")) (.int (Int32.ofNat N)) ∈ flatC (Jvm.Cond.and given_1 narrow_1)) (h3 : ∀ j, j < N → Jvm.Cond.eq (.elem (.static C nm "[I") (.int (Int32.ofNat j))) (.int (f j)) ∈ flatC (Jvm.Cond.and given_1 narrow_1)) (h4 : Jvm.Cond.laysStatic C nm "[I" ∈ lw_tbl) (h5 : Jvm.Cond.initialized C ∈ lw_tbl) : ∃ t : Nat, va_Z C nm "[I" (.ref t) (fun q => s.heap.size ≤ q) s s.heap ∧ va_T .int t N (fun j => .int (f j)) (fun q => s.heap.size ≤ q) s s.heap := by
  have hs := flat_of_before _ hgv
  have hA : ∀ a : Nat, a < s.heap.size → ¬ (fun q : Nat => s.heap.size ≤ q) a := fun a h => Nat.not_le.mpr h
  obtain ⟨t, e1, e2⟩ := va_Tof (f := fun j => .int (f j)) hN (hs _ h1) (va_eqt (hs _ h2)) (fun j hj => va_eqt (hs _ (h3 j hj))) hA
  exact ⟨t, va_Zof (hts _ h4) (hts _ h5) e1 hA, e2⟩
theorem ls_nest {s : State} {b : Nat} (hts : ∀ w ∈ lw_tbl, w.before #[Value.ref b] s = true) : ∀ w ∈ mNW, va_Nw w s := by
  intro w hw
  obtain ⟨h1, h2⟩ := List.mem_filter.mp hw
  have h3 := hts w (List.mem_append_right _ h1)
  cases w <;> first | exact va_Nw.of rfl h3 | cases h2
theorem ls_arr {s : State} {args : Array Value} {ty : FieldType} (h : (Jvm.Cond.arrayClass ty).before args s = true) : ∃ cA : ClassId, ArrOfT s cA ty ∧ s.vm.findClass ("[" ++ ty.toString) = some cA := by
  obtain ⟨cA, kA, comp, h1, h2, h3⟩ := Cond.arrayClass_spec h
  exact ⟨cA, fun n z => ⟨fun k h => (by cases h), kA, h2, comp, h3⟩, h1⟩
theorem ls_K {s : State} {b : Nat} (hts : ∀ w ∈ mWW, w.before #[Value.ref b] s = true) : ∃ (D : va_G) (cy : Nat → ClassId), va_K D vwCl (mTys cy) s := by
  have hc : ∀ c : Nat, ∃ q : ClassId × (Nat → Nat), c < 11 → u_Kn s (mCl c).1 (mCl c).2.1 (mCl c).2.2 q.1 q.2 := by
    intro c
    by_cases h : c < 11
    · obtain ⟨cC, iS, hK⟩ := u_known hts (mCl_ws h) (hts _ (mw_ins c h).1)
      exact ⟨(cC, iS), fun _ => hK⟩
    · exact ⟨(0, fun _ => 0), fun h2 => absurd h2 h⟩
  obtain ⟨c0, a0, b0⟩ := ls_arr (hts _ mw_arr.1)
  obtain ⟨c1, a1, b1⟩ := ls_arr (hts _ mw_arr.2.1)
  obtain ⟨c2, a2, b2⟩ := ls_arr (hts _ mw_arr.2.2)
  refine ⟨(fun c => (Classical.choose (hc c)).1, fun c => (Classical.choose (hc c)).2), fun k => if k = 0 then c0 else if k = 1 then c1 else c2, ?_, ?_⟩
  · intro k q hq
    have hk : k < 11 := (List.getElem?_eq_some_iff.mp hq).1
    rw [mCl_at hk] at hq
    cases hq
    exact Classical.choose_spec (hc k) hk
  · intro k q hq
    match k, hq with
    | 0, hq => cases hq; exact ⟨a0, b0⟩
    | 1, hq => cases hq; exact ⟨a1, b1⟩
    | 2, hq => cases hq; exact ⟨a2, b2⟩
    | k + 3, hq => cases hq
set_option maxRecDepth 100000 in
theorem ls_go {Inv : mInvT} (hOk : mInvOk Inv) (hMo : ∀ n lay M, Inv n lay M → Inv (n + 1) lay M) (hA : mApis Inv) (hI : mInit Inv) {p : Program} {e : Env} {s : State} {m : MethodId} {below : List Frame} {meth : Method} {c : Code} (l : Launch) {b L : Nat} {xs : Nat → Int32} (hL : L ≤ 3072) (C0 : lw_At p s m meth c b L xs) : W p l e room_1 s m #[Value.ref b] below meth c s.heap [] 0 0 (lw_Z below #[Value.ref b] s) (entryFrame m ([Value.ref b] : List Value).toArray 4) := by
  have C1 := C0
  obtain ⟨hx, hb, hr, hml, hown, hts, hX, hbl, hlocks, hgv⟩ := C1
  have hww : ∀ w ∈ mWW, w.before #[Value.ref b] s = true := fun w hw => hts w (mww_tbl w hw)
  obtain ⟨D, cy, hK⟩ := ls_K hww
  obtain ⟨t1, hz1, ht1⟩ := ls_static "ShieldLine$Shields" "ABOVE" 8 mAb (by decide) hgv hts (by decide +kernel) (by decide +kernel) (by decide +kernel) (List.mem_append_right _ (mem4 (i := 68) rfl)) (List.mem_append_right _ (mem1 (i := 8) rfl))
  obtain ⟨t2, hz2, ht2⟩ := ls_static "ShieldLine$Shields" "BODIES" 32 mBo (by decide) hgv hts (by decide +kernel) (by decide +kernel) (by decide +kernel) (List.mem_append_right _ (mem4 (i := 99) rfl)) (List.mem_append_right _ (mem1 (i := 8) rfl))
  have X : lwCx D cy t1 t2 p s m meth c b L xs := ⟨C0, hK, ls_nest hts, ⟨hz1, ht1, hz2, ht2⟩, hL⟩
  have hl := lv_entry ([.ref b]) (n := 4) (Nat.le_of_ble_eq_true rfl)
  rw [lg_entry_eq]
  generalize (lg_sl ([.ref b]) ++ List.replicate (4 - (lg_sl ([.ref b])).length) Slot.unset).toArray = ls at hl ⊢
  have hgo : lwW D cy t1 t2 p l e s m below meth c b 0 [] [] [] mM0 := by
    refine lw_new X (ci := 9) (by decide) dw_0 (mW (mem1 (i := 15) rfl) rfl) ⟨by decide, by decide⟩ ?_
    refine lw_dup X (r := 2) dw_3 ?_
    have hI1 : mF 100 92 [.ref (2 + 1)] ([] ++ [(9 + 3, (mCl 9).2.2)]) (mNew mM0 (([] : List mShp).length + 3)) (fun v l1 M1 => v = none ∧ l1.length = 77 ∧ mSum l1 ≤ 5000 ∧ mF 100 145 [.ref 80] (l1 ++ [(13, 44)]) (mNew M1 80) (fun v2 l2 M2 => v2 = none ∧ Inv 0 l2 M2)) := hI
    refine lw_init X (j := 92) (r := 2) dw_4 (by decide) (mW (mem1 (i := 17) rfl) rfl) rfl rfl rfl (Nat.le_of_ble_eq_true rfl) hI1 (fun v l1 M1 hP => ⟨by omega, by omega⟩) (fun v l1 M1 hP => ?_)
    obtain ⟨rfl, hlen, hsum, hP⟩ := hP
    refine lw_store1 X (r := 2) (st := []) dw_7 ?_
    refine lw_new X (ci := 10) (by decide) dw_8 (mW (mem4 (i := 190) rfl) rfl) ⟨by omega, by show _ + 44 ≤ _; omega⟩ ?_
    have e80 : l1.length + 3 = 79 + 1 := by omega
    rw [e80]
    refine lw_dup X (r := 79) dw_11 ?_
    refine lw_init X (j := 145) (r := 79) dw_12 (by decide) (mW (mem4 (i := 192) rfl) rfl) rfl rfl rfl (Nat.le_of_ble_eq_true rfl) hP (fun v l1 M1 hP => ⟨(hOk _ _ _ hP.2).1, (hOk _ _ _ hP.2).2.1⟩) (fun v l2 M2 hP2 => ?_)
    obtain ⟨rfl, hI0⟩ := hP2
    refine lw_store2 X (r := 79) (r1 := 2) (st := []) dw_15 ?_
    refine lw_zero3 X (r := 79) (r1 := 2) dw_16 dw_17 ?_
    exact lw_loop X hOk hMo hA ((L + 6) / 6 + 1) 0 l2 M2 (by omega) (by omega) hI0
  have kk := hgo s.heap [] ls (fun r => if r = 1 then t1 else t2) ⟨hl, fun k q h => by simp [mWd] at h, ⟨fun i j p q h => by simp [mWd] at h, fun k q h => by simp [mWd] at h⟩, va_S.rf, fun r j => by show 0 < _; omega, fun s hs => absurd hs List.not_mem_nil, ⟨rfl, rfl⟩, fun q hq => absurd hq List.not_mem_nil⟩ (fun v hv => absurd hv List.not_mem_nil)
  exact kk
