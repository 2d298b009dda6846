/-! ===== the law's loop and start (by program: gen10.py) ===== -/
def mApis (Inv : mInvT) : Prop := (∀ (x0 : Int32), mApiI Inv 93 155 [.int x0]) ∧ (∀ (x0 : Int32) (x1 : Int32) (x2 : Int32), mApiI Inv 94 200 [.int x0, .int x1, .int x2]) ∧ (∀ (x0 : Int32) (x1 : Int32) (x2 : Int32), mApiI Inv 95 157 [.int x0, .int x1, .int x2]) ∧ (∀ (x0 : Int32) (x1 : Int32), mApiI Inv 96 158 [.int x0, .int x1]) ∧ (∀ (x0 : Int32), mApiI Inv 97 161 [.int x0]) ∧ (mApiI Inv 98 173 []) ∧ (∀ (x0 : Int32), mApiI Inv 99 178 [.int x0]) ∧ (∀ (x0 : Int32) (x1 : Int32), mApiI Inv 100 183 [.int x0, .int x1]) ∧ (∀ (x0 : Int32), mApiI Inv 101 184 [.int x0]) ∧ (∀ (x0 : Int32), mApiI Inv 102 185 [.int x0]) ∧ (∀ (x0 : Int32) (x1 : Int32), mApiI Inv 103 186 [.int x0, .int x1]) ∧ (∀ (x0 : Int32), mApiI Inv 104 187 [.int x0]) ∧ (∀ (x0 : Int32) (x1 : Int32), mApiI Inv 105 193 [.int x0, .int x1]) ∧ (∀ (x0 : Int32), mApiI Inv 106 194 [.int x0]) ∧ (∀ (x0 : Int32) (x1 : Int32), mApiI Inv 107 196 [.int x0, .int x1]) ∧ (∀ (x0 : Int32) (x1 : Int32), mApiI Inv 108 202 [.int x0, .int x1]) ∧ (∀ (x0 : Int32) (x1 : Int32) (x2 : Int32), mApiI Inv 109 203 [.int x0, .int x1, .int x2]) ∧ (∀ (x0 : Int32) (x1 : Int32), mApiL Inv 110 204 [.int x0, .int x1]) ∧ (∀ (x0 : Int32) (x1 : Int32), mApiI Inv 111 205 [.int x0, .int x1]) ∧ (∀ (x0 : Int32) (x1 : Int32), mApiI Inv 112 208 [.int x0, .int x1]) ∧ (∀ (x0 : Int32) (x1 : Int32) (x2 : Int32), mApiI Inv 113 209 [.int x0, .int x1, .int x2]) ∧ (mApiI Inv 114 210 []) ∧ (∀ (x0 : Int32) (x1 : Int32), mApiI Inv 115 211 [.int x0, .int x1]) ∧ (∀ (x0 : Int32) (x1 : Int32) (x2 : Int32), mApiI Inv 116 212 [.int x0, .int x1, .int x2]) ∧ (∀ (x0 : Int32), mApiI Inv 117 213 [.int x0]) ∧ (mApiI Inv 118 214 []) ∧ (mApiI Inv 119 215 []) ∧ (mApiI Inv 120 159 []) ∧ (mApiI Inv 121 160 []) ∧ (∀ (x0 : Int32), mApiI Inv 122 216 [.int x0]) ∧ (∀ (x0 : Int32) (x1 : Int32) (x2 : Int32), mApiI Inv 123 219 [.int x0, .int x1, .int x2]) ∧ (∀ (x0 : Int32), mApiI Inv 124 220 [.int x0]) ∧ (∀ (x0 : Int32) (x1 : Int32), mApiI Inv 125 221 [.int x0, .int x1]) ∧ (∀ (x0 : Int32) (x1 : Int32) (x2 : Int32), mApiI Inv 126 222 [.int x0, .int x1, .int x2]) ∧ (∀ (x0 : Int32) (x1 : Int32) (x2 : Int64), mApiI Inv 127 224 [.int x0, .int x1, .long x2]) ∧ (∀ (x0 : Int32) (x1 : Int32), mApiL Inv 128 225 [.int x0, .int x1]) ∧ (∀ (x0 : Int32) (x1 : Int32) (x2 : Int32) (x3 : Int32) (x4 : Int32), mApiI Inv 129 226 [.int x0, .int x1, .int x2, .int x3, .int x4]) ∧ (∀ (x0 : Int32) (x1 : Int32), mApiI Inv 130 227 [.int x0, .int x1]) ∧ (∀ (x0 : Int32), mApiI Inv 131 228 [.int x0])
def mM0 : mMem := (fun _ _ => 0, fun _ _ => 0, fun _ _ => 0)
def mInit (Inv : mInvT) : Prop := mF 100 92 [.ref 3] [(12, 15)] (mNew mM0 3) (fun v l1 M1 => v = none ∧ l1.length = 77 ∧ mSum l1 ≤ 5000 ∧ mF 100 145 [.ref 80] (l1 ++ [(13, 44)]) (mNew M1 80) (fun v2 l2 M2 => v2 = none ∧ Inv 0 l2 M2))
section LWS
variable {D : va_G} {cy : Nat → ClassId} {t1 t2 : Nat} {p : Program} {l : Launch} {e : Env} {s : State} {m : MethodId} {below : List Frame} {meth : Method} {c : Code} {b L pc : Nat} {xs : Nat → Int32} {st : List Value} {lay : List mShp} {M : mMem}
theorem lw_store1 (X : lwCx D cy t1 t2 p s m meth c b L xs) {r : Nat} (hd : decode code pc = .ok (.astore_n 1, 1)) (kk : lwW D cy t1 t2 p l e s m below meth c b (pc + 1) [(1, .ref (r + 1))] st lay M) : lwW D cy t1 t2 p l e s m below meth c b pc [] (.ref (r + 1) :: st) lay M := by
  obtain ⟨⟨hx, hb, -⟩, -⟩ := X
  intro H locs ls ad hv hS
  obtain ⟨hl0, hP, hD, hSt, hoM, hki, hst, hoL⟩ := hv
  obtain ⟨hS1, hS2⟩ := mOkS_cons.mp hS
  refine lv_astore_n (lv' := [(1, .ref (ad (r + 1))), (0, .ref b)]) hx hb hd rfl hl0 (by decide) rfl (fun ls' hl' => ?_)
  exact kk H locs ls' ad ⟨lv_sub hl' [1, 0] rfl, hP, hD, hSt, hoM, hki, hst, fun q hq => by rw [List.mem_singleton.mp hq]; exact hS1⟩ hS2
theorem lw_store2 (X : lwCx D cy t1 t2 p s m meth c b L xs) {r r1 : Nat} (hd : decode code pc = .ok (.astore_n 2, 1)) (kk : lwW D cy t1 t2 p l e s m below meth c b (pc + 1) [(1, .ref (r1 + 1)), (2, .ref (r + 1))] st lay M) : lwW D cy t1 t2 p l e s m below meth c b pc [(1, .ref (r1 + 1))] (.ref (r + 1) :: st) lay M := by
  obtain ⟨⟨hx, hb, -⟩, -⟩ := X
  intro H locs ls ad hv hS
  obtain ⟨hl0, hP, hD, hSt, hoM, hki, hst, hoL⟩ := hv
  obtain ⟨hS1, hS2⟩ := mOkS_cons.mp hS
  refine lv_astore_n (lv' := [(2, .ref (ad (r + 1))), (0, .ref b), (1, .ref (ad (r1 + 1)))]) hx hb hd rfl hl0 (by decide) rfl (fun ls' hl' => ?_)
  exact kk H locs ls' ad ⟨lv_sub hl' [1, 2, 0] rfl, hP, hD, hSt, hoM, hki, hst, fun q hq => by
    rcases List.mem_cons.mp hq with rfl | hq
    · exact hoL _ List.mem_cons_self
    · rw [List.mem_singleton.mp hq]; exact hS1⟩ hS2
theorem lw_zero3 (X : lwCx D cy t1 t2 p s m meth c b L xs) {r r1 : Nat} (hd0 : decode code pc = .ok (.iconst 0, 1)) (hd : decode code (pc + 1) = .ok (.istore_n 3, 1)) (kk : lwW D cy t1 t2 p l e s m below meth c b (pc + 2) [(1, .ref (r1 + 1)), (2, .ref (r + 1)), (3, .int (nI 0))] st lay M) : lwW D cy t1 t2 p l e s m below meth c b pc [(1, .ref (r1 + 1)), (2, .ref (r + 1))] st lay M := by
  obtain ⟨⟨hx, hb, -⟩, -⟩ := X
  intro H locs ls ad hv hS
  obtain ⟨hl0, hP, hD, hSt, hoM, hki, hst, hoL⟩ := hv
  refine lv_iconst (v := nI 0) hx hb hd0 (by decide) ?_
  refine lv_istore_n (lv' := [(3, .int (nI 0)), (0, .ref b), (1, .ref (ad (r1 + 1))), (2, .ref (ad (r + 1)))]) hx hb hd rfl hl0 (by decide) rfl (fun ls' hl' => ?_)
  exact kk H locs ls' ad ⟨lv_sub hl' [1, 2, 3, 0] rfl, hP, hD, hSt, hoM, hki, hst, fun q hq => by
    rcases List.mem_cons.mp hq with rfl | hq
    · exact hoL _ List.mem_cons_self
    · rcases List.mem_cons.mp hq with rfl | hq
      · exact hoL _ (List.mem_cons_of_mem _ List.mem_cons_self)
      · rw [List.mem_singleton.mp hq]; trivial⟩ hS
theorem lw_next (X : lwCx D cy t1 t2 p s m meth c b L xs) {i : Nat} (kk : lwW D cy t1 t2 p l e s m below meth c b 18 (lwL (i + 6)) st lay M) : lwW D cy t1 t2 p l e s m below meth c b 1403 (lwL i) st lay M := by
  obtain ⟨⟨hx, hb, -⟩, -⟩ := X
  intro H locs ls ad hv hS
  obtain ⟨hl0, hP, hD, hSt, hoM, hki, hst, hoL⟩ := hv
  refine lv_iinc (k := 3) (v := nI (i + 6)) (lv' := [(3, .int (nI (i + 6))), (0, .ref b), (1, .ref (ad 3)), (2, .ref (ad 80))]) hx hb dw_1403 hl0 rfl (by rw [← nI_add]; rfl) (by decide) rfl (fun ls' hl' => ?_)
  refine lv_goto (tgt := 18) hx hb dw_1406 (by decide) ?_
  exact kk H locs ls' ad ⟨lv_sub hl' [1, 2, 3, 0] rfl, hP, hD, hSt, hoM, hki, hst, fun q hq => by
    rcases List.mem_cons.mp hq with rfl | hq
    · exact hoL _ List.mem_cons_self
    · rcases List.mem_cons.mp hq with rfl | hq
      · exact hoL _ (List.mem_cons_of_mem _ List.mem_cons_self)
      · rw [List.mem_singleton.mp hq]; trivial⟩ hS
theorem lw_end (X : lwCx D cy t1 t2 p s m meth c b L xs) {LL : List (Nat × Value)} (hz : lay.length ≤ 600000 ∧ mSum lay ≤ 7302250) : lwW D cy t1 t2 p l e s m below meth c b 1409 LL [] lay M := by
  obtain ⟨⟨hx, hb, hr, hml, hown, hts, hX, hbl, hlk, -⟩, -⟩ := X
  intro H locs ls ad hv hS
  refine lv_iconst (v := 1) hx hb dw_1409 (by decide) ?_
  refine va_forget (fun q hq => hv.2.2.2.1.2.2 q hq) ?_
  refine W.widen (k := 600000) (n := 7302250) hz.1 hz.2 ?_
  exact lw_ret hx hb hr hlk dw_1410

theorem lw_loop {Inv : mInvT} (X : lwCx D cy t1 t2 p s m meth c b L xs) (hOk : mInvOk Inv) (hMo : ∀ n lay M, Inv n lay M → Inv (n + 1) lay M) (hA : mApis Inv) : ∀ (k n : Nat) (lay : List mShp) (M : mMem), L + 6 ≤ 6 * n + 6 * k → 6 * n ≤ L + 6 → Inv n lay M → lwW D cy t1 t2 p l e s m below meth c b 18 (lwL (6 * n)) [] lay M := by
  intro k
  induction k with
  | zero =>
    intro n lay M hk hn hI
    have hz := hOk _ _ _ hI
    have hL := X.2.2.2.2
    have hend := lw_end (LL := lwL (6 * n)) (l := l) (e := e) (below := below) (M := M) X ⟨hz.1, hz.2.1⟩
    obtain ⟨⟨hx, hb, hr, hml, hown, hts, hX, hbl, hlk, -⟩, -⟩ := X
    have hbA : ¬ (fun q : Nat => s.heap.size ≤ q) b := Nat.not_le.mpr hbl
    intro H locs ls ad hv hS
    refine lv_iload_n hx hb dw_18 rfl (lv_at hv.1 3 rfl) ?_
    refine lv_aload_n hx hb dw_19 rfl (lv_at hv.1 0 rfl) ?_
    refine va_slen hx hb hX hbl hbA hv.2.2.2.1 dw_20 ?_
    refine lv_bipush (v := Int32.ofInt 6) hx hb dw_21 (by decide) ?_
    refine lv_isub hx hb dw_23 ?_
    refine lv_icmp_gt (tgt := 1409) hx hb dw_24 (by decide) (fun _ => hend H locs ls ad hv hS) (fun q => absurd ?_ q)
    rw [show nI (6 * n) = Int32.ofNat (6 * n) from rfl, jI_nat, jI_sub, jI_nat, jI_lt ⟨by omega, by omega⟩ ⟨by omega, by omega⟩]
    omega
  | succ k ih =>
    intro n lay M hk hn hI
    have hz := hOk _ _ _ hI
    have hL := X.2.2.2.2
    have hend := lw_end (LL := lwL (6 * n)) (l := l) (e := e) (below := below) (M := M) X ⟨hz.1, hz.2.1⟩
    have X0 := X
    obtain ⟨⟨hx, hb, hr, hml, hown, hts, hX, hbl, hlk, -⟩, -⟩ := X
    have hbA : ¬ (fun q : Nat => s.heap.size ≤ q) b := Nat.not_le.mpr hbl
    intro H locs ls ad hv hS
    refine lv_iload_n hx hb dw_18 rfl (lv_at hv.1 3 rfl) ?_
    refine lv_aload_n hx hb dw_19 rfl (lv_at hv.1 0 rfl) ?_
    refine va_slen hx hb hX hbl hbA hv.2.2.2.1 dw_20 ?_
    refine lv_bipush (v := Int32.ofInt 6) hx hb dw_21 (by decide) ?_
    refine lv_isub hx hb dw_23 ?_
    refine lv_icmp_gt (tgt := 1409) hx hb dw_24 (by decide) (fun _ => hend H locs ls ad hv hS) (fun q => ?_)
    have hi : 6 * n + 5 < L := by
      rcases Nat.lt_or_ge (6 * n + 5) L with z | z
      · exact z
      · refine absurd ?_ q
        rw [show nI (6 * n) = Int32.ofNat (6 * n) from rfl, jI_nat, jI_sub, jI_nat, jI_lt ⟨by omega, by omega⟩ ⟨by omega, by omega⟩]
        omega
    have hc : n < 512 := by omega
    have hnext : ∀ l2 M2, Inv (n + 1) l2 M2 → lwW D cy t1 t2 p l e s m below meth c b 1403 (lwL (6 * n)) [] l2 M2 := by
      intro l2 M2 h2
      refine lw_next X0 ?_
      have := ih (n + 1) l2 M2 (by omega) (by omega) h2
      rwa [show 6 * (n + 1) = 6 * n + 6 by omega] at this
    refine lv_aload_n hx hb dw_27 rfl (lv_at hv.1 0 rfl) ?_
    refine lv_iload_n hx hb dw_28 rfl (lv_at hv.1 3 rfl) ?_
    refine va_sld hx hb hX hbl hbA hv.2.2.2.1 (vp_in_nI (by omega : 6 * n < L) (by omega)) dw_29 ?_
    refine lv_bipush (v := 63) hx hb dw_30 (by decide) ?_
    refine lv_iand hx hb dw_32 ?_
    obtain ⟨j, hj, hje⟩ := pk_andE (xs (nI (6 * n)).toNatClampNeg) (m := 63) 6 (by decide)
    rw [hje]
    unfold mApis at hA
    obtain ⟨h0, h1, h2, h3, h4, h5, h6, h7, h8, h9, h10, h11, h12, h13, h14, h15, h16, h17, h18, h19, h20, h21, h22, h23, h24, h25, h26, h27, h28, h29, h30, h31, h32, h33, h34, h35, h36, h37, h38⟩ := hA
    rcases (by omega : j = 0 ∨ j = 1 ∨ j = 2 ∨ j = 3 ∨ j = 4 ∨ j = 5 ∨ j = 6 ∨ j = 7 ∨ j = 8 ∨ j = 9 ∨ j = 10 ∨ j = 11 ∨ j = 12 ∨ j = 13 ∨ j = 14 ∨ j = 15 ∨ j = 16 ∨ j = 17 ∨ j = 18 ∨ j = 19 ∨ j = 20 ∨ j = 21 ∨ j = 22 ∨ j = 23 ∨ j = 24 ∨ j = 25 ∨ j = 26 ∨ j = 27 ∨ j = 28 ∨ j = 29 ∨ j = 30 ∨ j = 31 ∨ j = 32 ∨ j = 33 ∨ j = 34 ∨ j = 35 ∨ j = 36 ∨ j = 37 ∨ j = 38 ∨ 39 ≤ j) with rfl | rfl | rfl | rfl | rfl | rfl | rfl | rfl | rfl | rfl | rfl | rfl | rfl | rfl | rfl | rfl | rfl | rfl | rfl | rfl | rfl | rfl | rfl | rfl | rfl | rfl | rfl | rfl | rfl | rfl | rfl | rfl | rfl | rfl | rfl | rfl | rfl | rfl | rfl | hge
    · refine lv_tableIn (off := 171) (tgt := 204) hx hb dw_33 (by decide) (by decide) (by decide +kernel) (by decide) ?_
      exact lwc_0 X0 hi hOk hc hI (h0 _) hnext H locs ls ad hv hS
    · refine lv_tableIn (off := 194) (tgt := 227) hx hb dw_33 (by decide) (by decide) (by decide +kernel) (by decide) ?_
      exact lwc_1 X0 hi hOk hc hI (h1 _ _ _) hnext H locs ls ad hv hS
    · refine lv_tableIn (off := 237) (tgt := 270) hx hb dw_33 (by decide) (by decide) (by decide +kernel) (by decide) ?_
      exact lwc_2 X0 hi hOk hc hI (h2 _ _ _) hnext H locs ls ad hv hS
    · refine lv_tableIn (off := 280) (tgt := 313) hx hb dw_33 (by decide) (by decide) (by decide +kernel) (by decide) ?_
      exact lwc_3 X0 hi hOk hc hI (h3 _ _) hnext H locs ls ad hv hS
    · refine lv_tableIn (off := 313) (tgt := 346) hx hb dw_33 (by decide) (by decide) (by decide +kernel) (by decide) ?_
      exact lwc_4 X0 hi hOk hc hI (h4 _) hnext H locs ls ad hv hS
    · refine lv_tableIn (off := 336) (tgt := 369) hx hb dw_33 (by decide) (by decide) (by decide +kernel) (by decide) ?_
      exact lwc_5 X0 hi hOk hc hI (h5) hnext H locs ls ad hv hS
    · refine lv_tableIn (off := 349) (tgt := 382) hx hb dw_33 (by decide) (by decide) (by decide +kernel) (by decide) ?_
      exact lwc_6 X0 hi hOk hc hI (h6 _) hnext H locs ls ad hv hS
    · refine lv_tableIn (off := 372) (tgt := 405) hx hb dw_33 (by decide) (by decide) (by decide +kernel) (by decide) ?_
      exact lwc_7 X0 hi hOk hc hI (h7 _ _) hnext H locs ls ad hv hS
    · refine lv_tableIn (off := 405) (tgt := 438) hx hb dw_33 (by decide) (by decide) (by decide +kernel) (by decide) ?_
      exact lwc_8 X0 hi hOk hc hI (h8 _) hnext H locs ls ad hv hS
    · refine lv_tableIn (off := 428) (tgt := 461) hx hb dw_33 (by decide) (by decide) (by decide +kernel) (by decide) ?_
      exact lwc_9 X0 hi hOk hc hI (h9 _) hnext H locs ls ad hv hS
    · refine lv_tableIn (off := 451) (tgt := 484) hx hb dw_33 (by decide) (by decide) (by decide +kernel) (by decide) ?_
      exact lwc_10 X0 hi hOk hc hI (h10 _ _) hnext H locs ls ad hv hS
    · refine lv_tableIn (off := 484) (tgt := 517) hx hb dw_33 (by decide) (by decide) (by decide +kernel) (by decide) ?_
      exact lwc_11 X0 hi hOk hc hI (h11 _) hnext H locs ls ad hv hS
    · refine lv_tableIn (off := 507) (tgt := 540) hx hb dw_33 (by decide) (by decide) (by decide +kernel) (by decide) ?_
      exact lwc_12 X0 hi hOk hc hI (h12 _ _) hnext H locs ls ad hv hS
    · refine lv_tableIn (off := 540) (tgt := 573) hx hb dw_33 (by decide) (by decide) (by decide +kernel) (by decide) ?_
      exact lwc_13 X0 hi hOk hc hI (h13 _) hnext H locs ls ad hv hS
    · refine lv_tableIn (off := 563) (tgt := 596) hx hb dw_33 (by decide) (by decide) (by decide +kernel) (by decide) ?_
      exact lwc_14 X0 hi hOk hc hI (h14 _ _) hnext H locs ls ad hv hS
    · refine lv_tableIn (off := 596) (tgt := 629) hx hb dw_33 (by decide) (by decide) (by decide +kernel) (by decide) ?_
      exact lwc_15 X0 hi hOk hc hI (h15 _ _) hnext H locs ls ad hv hS
    · refine lv_tableIn (off := 629) (tgt := 662) hx hb dw_33 (by decide) (by decide) (by decide +kernel) (by decide) ?_
      exact lwc_16 X0 hi hOk hc hI (h16 _ _ _) hnext H locs ls ad hv hS
    · refine lv_tableIn (off := 672) (tgt := 705) hx hb dw_33 (by decide) (by decide) (by decide +kernel) (by decide) ?_
      exact lwc_17 X0 hi hOk hc hI (h17 _ _) hnext H locs ls ad hv hS
    · refine lv_tableIn (off := 706) (tgt := 739) hx hb dw_33 (by decide) (by decide) (by decide +kernel) (by decide) ?_
      exact lwc_18 X0 hi hOk hc hI (h18 _ _) hnext H locs ls ad hv hS
    · refine lv_tableIn (off := 739) (tgt := 772) hx hb dw_33 (by decide) (by decide) (by decide +kernel) (by decide) ?_
      exact lwc_19 X0 hi hOk hc hI (h19 _ _) hnext H locs ls ad hv hS
    · refine lv_tableIn (off := 772) (tgt := 805) hx hb dw_33 (by decide) (by decide) (by decide +kernel) (by decide) ?_
      exact lwc_20 X0 hi hOk hc hI (h20 _ _ _) hnext H locs ls ad hv hS
    · refine lv_tableIn (off := 815) (tgt := 848) hx hb dw_33 (by decide) (by decide) (by decide +kernel) (by decide) ?_
      exact lwc_21 X0 hi hOk hc hI (h21) hnext H locs ls ad hv hS
    · refine lv_tableIn (off := 828) (tgt := 861) hx hb dw_33 (by decide) (by decide) (by decide +kernel) (by decide) ?_
      exact lwc_22 X0 hi hOk hc hI (h22 _ _) hnext H locs ls ad hv hS
    · refine lv_tableIn (off := 861) (tgt := 894) hx hb dw_33 (by decide) (by decide) (by decide +kernel) (by decide) ?_
      exact lwc_23 X0 hi hOk hc hI (h23 _ _ _) hnext H locs ls ad hv hS
    · refine lv_tableIn (off := 904) (tgt := 937) hx hb dw_33 (by decide) (by decide) (by decide +kernel) (by decide) ?_
      exact lwc_24 X0 hi hOk hc hI (h24 _) hnext H locs ls ad hv hS
    · refine lv_tableIn (off := 927) (tgt := 960) hx hb dw_33 (by decide) (by decide) (by decide +kernel) (by decide) ?_
      exact lwc_25 X0 hi hOk hc hI (h25) hnext H locs ls ad hv hS
    · refine lv_tableIn (off := 940) (tgt := 973) hx hb dw_33 (by decide) (by decide) (by decide +kernel) (by decide) ?_
      exact lwc_26 X0 hi hOk hc hI (h26) hnext H locs ls ad hv hS
    · refine lv_tableIn (off := 953) (tgt := 986) hx hb dw_33 (by decide) (by decide) (by decide +kernel) (by decide) ?_
      exact lwc_27 X0 hi hOk hc hI (h27) hnext H locs ls ad hv hS
    · refine lv_tableIn (off := 966) (tgt := 999) hx hb dw_33 (by decide) (by decide) (by decide +kernel) (by decide) ?_
      exact lwc_28 X0 hi hOk hc hI (h28) hnext H locs ls ad hv hS
    · refine lv_tableIn (off := 979) (tgt := 1012) hx hb dw_33 (by decide) (by decide) (by decide +kernel) (by decide) ?_
      exact lwc_29 X0 hi hOk hc hI (h29 _) hnext H locs ls ad hv hS
    · refine lv_tableIn (off := 1002) (tgt := 1035) hx hb dw_33 (by decide) (by decide) (by decide +kernel) (by decide) ?_
      exact lwc_30 X0 hi hOk hc hI (h30 _ _ _) hnext H locs ls ad hv hS
    · refine lv_tableIn (off := 1045) (tgt := 1078) hx hb dw_33 (by decide) (by decide) (by decide +kernel) (by decide) ?_
      exact lwc_31 X0 hi hOk hc hI (h31 _) hnext H locs ls ad hv hS
    · refine lv_tableIn (off := 1068) (tgt := 1101) hx hb dw_33 (by decide) (by decide) (by decide +kernel) (by decide) ?_
      exact lwc_32 X0 hi hOk hc hI (h32 _ _) hnext H locs ls ad hv hS
    · refine lv_tableIn (off := 1101) (tgt := 1134) hx hb dw_33 (by decide) (by decide) (by decide +kernel) (by decide) ?_
      exact lwc_33 X0 hi hOk hc hI (h33 _ _ _) hnext H locs ls ad hv hS
    · refine lv_tableIn (off := 1144) (tgt := 1177) hx hb dw_33 (by decide) (by decide) (by decide +kernel) (by decide) ?_
      exact lwc_34 X0 hi hOk hc hI (h34 _ _ _) hnext H locs ls ad hv hS
    · refine lv_tableIn (off := 1217) (tgt := 1250) hx hb dw_33 (by decide) (by decide) (by decide +kernel) (by decide) ?_
      exact lwc_35 X0 hi hOk hc hI (h35 _ _) hnext H locs ls ad hv hS
    · refine lv_tableIn (off := 1251) (tgt := 1284) hx hb dw_33 (by decide) (by decide) (by decide +kernel) (by decide) ?_
      exact lwc_36 X0 hi hOk hc hI (h36 _ _ _ _ _) hnext H locs ls ad hv hS
    · refine lv_tableIn (off := 1314) (tgt := 1347) hx hb dw_33 (by decide) (by decide) (by decide +kernel) (by decide) ?_
      exact lwc_37 X0 hi hOk hc hI (h37 _ _) hnext H locs ls ad hv hS
    · refine lv_tableIn (off := 1347) (tgt := 1380) hx hb dw_33 (by decide) (by decide) (by decide +kernel) (by decide) ?_
      exact lwc_38 X0 hi hOk hc hI (h38 _) hnext H locs ls ad hv hS
    · refine lv_tableOut (tgt := 1403) hx hb dw_33 (Or.inr ?_) (by decide) ?_
      · rw [nI_toInt (by omega)]
        omega
      · exact hnext _ _ (hMo _ _ _ hI) H locs ls ad hv hS
end LWS
