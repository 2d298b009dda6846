/-! ===== the law, case by case (by program: gen09.py); Inv: any invariant of the class and the reference side by side ===== -/
abbrev mInvT : Type := Nat → List mShp → mMem → Prop
def mApiI (Inv : mInvT) (jx jm : Nat) (As : List Value) : Prop := ∀ (c : Nat) (lay : List mShp) (M : mMem), c < 512 → Inv c lay M → mF 100 jx (.ref 3 :: As) lay M (fun v l1 M1 => mSh l1 80 = some (13, 44) ∧ mF 100 jm (.ref 80 :: As) l1 M1 (fun v2 l2 M2 => v2 = v ∧ (∃ r, v = some (.int r)) ∧ Inv (c + 1) l2 M2))
def mApiL (Inv : mInvT) (jx jm : Nat) (As : List Value) : Prop := ∀ (c : Nat) (lay : List mShp) (M : mMem), c < 512 → Inv c lay M → mF 100 jx (.ref 3 :: As) lay M (fun v l1 M1 => mSh l1 80 = some (13, 44) ∧ mF 100 jm (.ref 80 :: As) l1 M1 (fun v2 l2 M2 => v2 = v ∧ (∃ r, v = some (.long r)) ∧ Inv (c + 1) l2 M2))
def mInvOk (Inv : mInvT) : Prop := ∀ c lay M, Inv c lay M → lay.length ≤ 600000 ∧ mSum lay ≤ 7302250 ∧ mSh lay 3 = some (12, 15) ∧ mSh lay 80 = some (13, 44)
theorem mCat_opt (v : Option Value) : mCat (v.toList ++ []) ≤ 8 := by
  cases v with
  | none => exact Nat.zero_le _
  | some v => cases v <;> exact Nat.le_of_ble_eq_true rfl
theorem mF_le {d k : Nat} {as : List Value} {lay : List mShp} {M : mMem} {P : mPost} (h : mF d k as lay M P) : ∃ v l2 M2, lay.length ≤ l2.length ∧ mSum lay ≤ mSum l2 ∧ P v l2 M2 := by
  obtain ⟨-, n, v, l2, M2, hr, hP⟩ := h
  have := mRun_mono _ _ _ _ _ _ _ _ _ _ _ hr
  exact ⟨v, l2, M2, this.1, this.2, hP⟩
def lwL (i : Nat) : List (Nat × Value) := [(1, .ref 3), (2, .ref 80), (3, .int (nI i))]
section LWC
variable {D : va_G} {cy : Nat → ClassId} {t1 t2 : Nat} {p : Program} {l : Launch} {e : Env} {s : State} {m : MethodId} {below : List Frame} {meth : Method} {c : Code} {b L i n : Nat} {xs : Nat → Int32} {lay : List mShp} {M : mMem} {Inv : mInvT}
theorem lwc_0 (X : lwCx D cy t1 t2 p s m meth c b L xs) (hi : i + 5 < L) (hOk : mInvOk Inv) (hc : n < 512) (hI : Inv n lay M) (ha : mApiI Inv 93 155 [.int (xs (i + 1))]) (kk : ∀ l2 M2, Inv (n + 1) l2 M2 → lwW D cy t1 t2 p l e s m below meth c b 1403 (lwL i) [] l2 M2) : lwW D cy t1 t2 p l e s m below meth c b 204 (lwL i) [] lay M := by
  refine lw_load X dw_204 (k := 0) rfl ?_
  refine lw_arg X dw_205 dw_206 dw_207 dw_208 dw_209 (k := 2) rfl (n := 1) (by omega) ?_
  refine lw_call X (j := 93) (As := [.int (xs (i + 1))]) dw_210 (by decide) (mW (mem2 (i := 79) rfl) rfl) rfl rfl rfl (by decide) (hOk _ _ _ hI).2.2.1 (Nat.le_of_ble_eq_true rfl) rfl (ha _ _ _ hc hI) (fun v l1 M1 hP => ?_) (fun v l1 M1 hP => ?_)
  · obtain ⟨v2, l2, M2, g1, g2, -, -, g3⟩ := mF_le hP.2
    have g4 := hOk _ _ _ g3
    exact ⟨Nat.le_trans g1 g4.1, Nat.le_trans g2 g4.2.1⟩
  obtain ⟨hs80, hP⟩ := hP
  refine lw_load X dw_213 (k := 1) rfl ?_
  refine lw_arg X dw_214 dw_215 dw_216 dw_217 dw_218 (k := 2) rfl (n := 1) (by omega) ?_
  refine lw_call X (j := 155) (As := [.int (xs (i + 1))]) (rest := v.toList ++ []) dw_219 (by decide) (mW (mem5 (i := 93) rfl) rfl) rfl rfl rfl (by decide) hs80 (mCat_opt v) rfl hP (fun v2 l2 M2 hP => ⟨(hOk _ _ _ hP.2.2).1, (hOk _ _ _ hP.2.2).2.1⟩) (fun v2 l2 M2 hP => ?_)
  obtain ⟨rfl, ⟨r, rfl⟩, hI2⟩ := hP
  exact lw_eqI X (t := 1403) dw_222 (by decide) (kk _ _ hI2)
theorem lwc_1 (X : lwCx D cy t1 t2 p s m meth c b L xs) (hi : i + 5 < L) (hOk : mInvOk Inv) (hc : n < 512) (hI : Inv n lay M) (ha : mApiI Inv 94 200 [.int (xs (i + 1)), .int (xs (i + 2)), .int (xs (i + 3))]) (kk : ∀ l2 M2, Inv (n + 1) l2 M2 → lwW D cy t1 t2 p l e s m below meth c b 1403 (lwL i) [] l2 M2) : lwW D cy t1 t2 p l e s m below meth c b 227 (lwL i) [] lay M := by
  refine lw_load X dw_227 (k := 0) rfl ?_
  refine lw_arg X dw_228 dw_229 dw_230 dw_231 dw_232 (k := 2) rfl (n := 1) (by omega) ?_
  refine lw_arg X dw_233 dw_234 dw_235 dw_236 dw_237 (k := 2) rfl (n := 2) (by omega) ?_
  refine lw_arg X dw_238 dw_239 dw_240 dw_241 dw_242 (k := 2) rfl (n := 3) (by omega) ?_
  refine lw_call X (j := 94) (As := [.int (xs (i + 1)), .int (xs (i + 2)), .int (xs (i + 3))]) dw_243 (by decide) (mW (mem2 (i := 94) rfl) rfl) rfl rfl rfl (by decide) (hOk _ _ _ hI).2.2.1 (Nat.le_of_ble_eq_true rfl) rfl (ha _ _ _ hc hI) (fun v l1 M1 hP => ?_) (fun v l1 M1 hP => ?_)
  · obtain ⟨v2, l2, M2, g1, g2, -, -, g3⟩ := mF_le hP.2
    have g4 := hOk _ _ _ g3
    exact ⟨Nat.le_trans g1 g4.1, Nat.le_trans g2 g4.2.1⟩
  obtain ⟨hs80, hP⟩ := hP
  refine lw_load X dw_246 (k := 1) rfl ?_
  refine lw_arg X dw_247 dw_248 dw_249 dw_250 dw_251 (k := 2) rfl (n := 1) (by omega) ?_
  refine lw_arg X dw_252 dw_253 dw_254 dw_255 dw_256 (k := 2) rfl (n := 2) (by omega) ?_
  refine lw_arg X dw_257 dw_258 dw_259 dw_260 dw_261 (k := 2) rfl (n := 3) (by omega) ?_
  refine lw_call X (j := 200) (As := [.int (xs (i + 1)), .int (xs (i + 2)), .int (xs (i + 3))]) (rest := v.toList ++ []) dw_262 (by decide) (mW (mem6 (i := 60) rfl) rfl) rfl rfl rfl (by decide) hs80 (mCat_opt v) rfl hP (fun v2 l2 M2 hP => ⟨(hOk _ _ _ hP.2.2).1, (hOk _ _ _ hP.2.2).2.1⟩) (fun v2 l2 M2 hP => ?_)
  obtain ⟨rfl, ⟨r, rfl⟩, hI2⟩ := hP
  exact lw_eqI X (t := 1403) dw_265 (by decide) (kk _ _ hI2)
theorem lwc_2 (X : lwCx D cy t1 t2 p s m meth c b L xs) (hi : i + 5 < L) (hOk : mInvOk Inv) (hc : n < 512) (hI : Inv n lay M) (ha : mApiI Inv 95 157 [.int (xs (i + 1)), .int (xs (i + 2)), .int (xs (i + 3))]) (kk : ∀ l2 M2, Inv (n + 1) l2 M2 → lwW D cy t1 t2 p l e s m below meth c b 1403 (lwL i) [] l2 M2) : lwW D cy t1 t2 p l e s m below meth c b 270 (lwL i) [] lay M := by
  refine lw_load X dw_270 (k := 0) rfl ?_
  refine lw_arg X dw_271 dw_272 dw_273 dw_274 dw_275 (k := 2) rfl (n := 1) (by omega) ?_
  refine lw_arg X dw_276 dw_277 dw_278 dw_279 dw_280 (k := 2) rfl (n := 2) (by omega) ?_
  refine lw_arg X dw_281 dw_282 dw_283 dw_284 dw_285 (k := 2) rfl (n := 3) (by omega) ?_
  refine lw_call X (j := 95) (As := [.int (xs (i + 1)), .int (xs (i + 2)), .int (xs (i + 3))]) dw_286 (by decide) (mW (mem2 (i := 121) rfl) rfl) rfl rfl rfl (by decide) (hOk _ _ _ hI).2.2.1 (Nat.le_of_ble_eq_true rfl) rfl (ha _ _ _ hc hI) (fun v l1 M1 hP => ?_) (fun v l1 M1 hP => ?_)
  · obtain ⟨v2, l2, M2, g1, g2, -, -, g3⟩ := mF_le hP.2
    have g4 := hOk _ _ _ g3
    exact ⟨Nat.le_trans g1 g4.1, Nat.le_trans g2 g4.2.1⟩
  obtain ⟨hs80, hP⟩ := hP
  refine lw_load X dw_289 (k := 1) rfl ?_
  refine lw_arg X dw_290 dw_291 dw_292 dw_293 dw_294 (k := 2) rfl (n := 1) (by omega) ?_
  refine lw_arg X dw_295 dw_296 dw_297 dw_298 dw_299 (k := 2) rfl (n := 2) (by omega) ?_
  refine lw_arg X dw_300 dw_301 dw_302 dw_303 dw_304 (k := 2) rfl (n := 3) (by omega) ?_
  refine lw_call X (j := 157) (As := [.int (xs (i + 1)), .int (xs (i + 2)), .int (xs (i + 3))]) (rest := v.toList ++ []) dw_305 (by decide) (mW (mem5 (i := 108) rfl) rfl) rfl rfl rfl (by decide) hs80 (mCat_opt v) rfl hP (fun v2 l2 M2 hP => ⟨(hOk _ _ _ hP.2.2).1, (hOk _ _ _ hP.2.2).2.1⟩) (fun v2 l2 M2 hP => ?_)
  obtain ⟨rfl, ⟨r, rfl⟩, hI2⟩ := hP
  exact lw_eqI X (t := 1403) dw_308 (by decide) (kk _ _ hI2)
theorem lwc_3 (X : lwCx D cy t1 t2 p s m meth c b L xs) (hi : i + 5 < L) (hOk : mInvOk Inv) (hc : n < 512) (hI : Inv n lay M) (ha : mApiI Inv 96 158 [.int (xs (i + 1)), .int (xs (i + 2))]) (kk : ∀ l2 M2, Inv (n + 1) l2 M2 → lwW D cy t1 t2 p l e s m below meth c b 1403 (lwL i) [] l2 M2) : lwW D cy t1 t2 p l e s m below meth c b 313 (lwL i) [] lay M := by
  refine lw_load X dw_313 (k := 0) rfl ?_
  refine lw_arg X dw_314 dw_315 dw_316 dw_317 dw_318 (k := 2) rfl (n := 1) (by omega) ?_
  refine lw_arg X dw_319 dw_320 dw_321 dw_322 dw_323 (k := 2) rfl (n := 2) (by omega) ?_
  refine lw_call X (j := 96) (As := [.int (xs (i + 1)), .int (xs (i + 2))]) dw_324 (by decide) (mW (mem2 (i := 165) rfl) rfl) rfl rfl rfl (by decide) (hOk _ _ _ hI).2.2.1 (Nat.le_of_ble_eq_true rfl) rfl (ha _ _ _ hc hI) (fun v l1 M1 hP => ?_) (fun v l1 M1 hP => ?_)
  · obtain ⟨v2, l2, M2, g1, g2, -, -, g3⟩ := mF_le hP.2
    have g4 := hOk _ _ _ g3
    exact ⟨Nat.le_trans g1 g4.1, Nat.le_trans g2 g4.2.1⟩
  obtain ⟨hs80, hP⟩ := hP
  refine lw_load X dw_327 (k := 1) rfl ?_
  refine lw_arg X dw_328 dw_329 dw_330 dw_331 dw_332 (k := 2) rfl (n := 1) (by omega) ?_
  refine lw_arg X dw_333 dw_334 dw_335 dw_336 dw_337 (k := 2) rfl (n := 2) (by omega) ?_
  refine lw_call X (j := 158) (As := [.int (xs (i + 1)), .int (xs (i + 2))]) (rest := v.toList ++ []) dw_338 (by decide) (mW (mem5 (i := 121) rfl) rfl) rfl rfl rfl (by decide) hs80 (mCat_opt v) rfl hP (fun v2 l2 M2 hP => ⟨(hOk _ _ _ hP.2.2).1, (hOk _ _ _ hP.2.2).2.1⟩) (fun v2 l2 M2 hP => ?_)
  obtain ⟨rfl, ⟨r, rfl⟩, hI2⟩ := hP
  exact lw_eqI X (t := 1403) dw_341 (by decide) (kk _ _ hI2)
theorem lwc_4 (X : lwCx D cy t1 t2 p s m meth c b L xs) (hi : i + 5 < L) (hOk : mInvOk Inv) (hc : n < 512) (hI : Inv n lay M) (ha : mApiI Inv 97 161 [.int (xs (i + 1))]) (kk : ∀ l2 M2, Inv (n + 1) l2 M2 → lwW D cy t1 t2 p l e s m below meth c b 1403 (lwL i) [] l2 M2) : lwW D cy t1 t2 p l e s m below meth c b 346 (lwL i) [] lay M := by
  refine lw_load X dw_346 (k := 0) rfl ?_
  refine lw_arg X dw_347 dw_348 dw_349 dw_350 dw_351 (k := 2) rfl (n := 1) (by omega) ?_
  refine lw_call X (j := 97) (As := [.int (xs (i + 1))]) dw_352 (by decide) (mW (mem2 (i := 169) rfl) rfl) rfl rfl rfl (by decide) (hOk _ _ _ hI).2.2.1 (Nat.le_of_ble_eq_true rfl) rfl (ha _ _ _ hc hI) (fun v l1 M1 hP => ?_) (fun v l1 M1 hP => ?_)
  · obtain ⟨v2, l2, M2, g1, g2, -, -, g3⟩ := mF_le hP.2
    have g4 := hOk _ _ _ g3
    exact ⟨Nat.le_trans g1 g4.1, Nat.le_trans g2 g4.2.1⟩
  obtain ⟨hs80, hP⟩ := hP
  refine lw_load X dw_355 (k := 1) rfl ?_
  refine lw_arg X dw_356 dw_357 dw_358 dw_359 dw_360 (k := 2) rfl (n := 1) (by omega) ?_
  refine lw_call X (j := 161) (As := [.int (xs (i + 1))]) (rest := v.toList ++ []) dw_361 (by decide) (mW (mem5 (i := 133) rfl) rfl) rfl rfl rfl (by decide) hs80 (mCat_opt v) rfl hP (fun v2 l2 M2 hP => ⟨(hOk _ _ _ hP.2.2).1, (hOk _ _ _ hP.2.2).2.1⟩) (fun v2 l2 M2 hP => ?_)
  obtain ⟨rfl, ⟨r, rfl⟩, hI2⟩ := hP
  exact lw_eqI X (t := 1403) dw_364 (by decide) (kk _ _ hI2)
theorem lwc_5 (X : lwCx D cy t1 t2 p s m meth c b L xs) (hi : i + 5 < L) (hOk : mInvOk Inv) (hc : n < 512) (hI : Inv n lay M) (ha : mApiI Inv 98 173 []) (kk : ∀ l2 M2, Inv (n + 1) l2 M2 → lwW D cy t1 t2 p l e s m below meth c b 1403 (lwL i) [] l2 M2) : lwW D cy t1 t2 p l e s m below meth c b 369 (lwL i) [] lay M := by
  refine lw_load X dw_369 (k := 0) rfl ?_
  refine lw_call X (j := 98) (As := []) dw_370 (by decide) (mW (mem2 (i := 177) rfl) rfl) rfl rfl rfl (by decide) (hOk _ _ _ hI).2.2.1 (Nat.le_of_ble_eq_true rfl) rfl (ha _ _ _ hc hI) (fun v l1 M1 hP => ?_) (fun v l1 M1 hP => ?_)
  · obtain ⟨v2, l2, M2, g1, g2, -, -, g3⟩ := mF_le hP.2
    have g4 := hOk _ _ _ g3
    exact ⟨Nat.le_trans g1 g4.1, Nat.le_trans g2 g4.2.1⟩
  obtain ⟨hs80, hP⟩ := hP
  refine lw_load X dw_373 (k := 1) rfl ?_
  refine lw_call X (j := 173) (As := []) (rest := v.toList ++ []) dw_374 (by decide) (mW (mem5 (i := 137) rfl) rfl) rfl rfl rfl (by decide) hs80 (mCat_opt v) rfl hP (fun v2 l2 M2 hP => ⟨(hOk _ _ _ hP.2.2).1, (hOk _ _ _ hP.2.2).2.1⟩) (fun v2 l2 M2 hP => ?_)
  obtain ⟨rfl, ⟨r, rfl⟩, hI2⟩ := hP
  exact lw_eqI X (t := 1403) dw_377 (by decide) (kk _ _ hI2)
theorem lwc_6 (X : lwCx D cy t1 t2 p s m meth c b L xs) (hi : i + 5 < L) (hOk : mInvOk Inv) (hc : n < 512) (hI : Inv n lay M) (ha : mApiI Inv 99 178 [.int (xs (i + 1))]) (kk : ∀ l2 M2, Inv (n + 1) l2 M2 → lwW D cy t1 t2 p l e s m below meth c b 1403 (lwL i) [] l2 M2) : lwW D cy t1 t2 p l e s m below meth c b 382 (lwL i) [] lay M := by
  refine lw_load X dw_382 (k := 0) rfl ?_
  refine lw_arg X dw_383 dw_384 dw_385 dw_386 dw_387 (k := 2) rfl (n := 1) (by omega) ?_
  refine lw_call X (j := 99) (As := [.int (xs (i + 1))]) dw_388 (by decide) (mW (mem2 (i := 230) rfl) rfl) rfl rfl rfl (by decide) (hOk _ _ _ hI).2.2.1 (Nat.le_of_ble_eq_true rfl) rfl (ha _ _ _ hc hI) (fun v l1 M1 hP => ?_) (fun v l1 M1 hP => ?_)
  · obtain ⟨v2, l2, M2, g1, g2, -, -, g3⟩ := mF_le hP.2
    have g4 := hOk _ _ _ g3
    exact ⟨Nat.le_trans g1 g4.1, Nat.le_trans g2 g4.2.1⟩
  obtain ⟨hs80, hP⟩ := hP
  refine lw_load X dw_391 (k := 1) rfl ?_
  refine lw_arg X dw_392 dw_393 dw_394 dw_395 dw_396 (k := 2) rfl (n := 1) (by omega) ?_
  refine lw_call X (j := 178) (As := [.int (xs (i + 1))]) (rest := v.toList ++ []) dw_397 (by decide) (mW (mem5 (i := 185) rfl) rfl) rfl rfl rfl (by decide) hs80 (mCat_opt v) rfl hP (fun v2 l2 M2 hP => ⟨(hOk _ _ _ hP.2.2).1, (hOk _ _ _ hP.2.2).2.1⟩) (fun v2 l2 M2 hP => ?_)
  obtain ⟨rfl, ⟨r, rfl⟩, hI2⟩ := hP
  exact lw_eqI X (t := 1403) dw_400 (by decide) (kk _ _ hI2)
theorem lwc_7 (X : lwCx D cy t1 t2 p s m meth c b L xs) (hi : i + 5 < L) (hOk : mInvOk Inv) (hc : n < 512) (hI : Inv n lay M) (ha : mApiI Inv 100 183 [.int (xs (i + 1)), .int (xs (i + 2))]) (kk : ∀ l2 M2, Inv (n + 1) l2 M2 → lwW D cy t1 t2 p l e s m below meth c b 1403 (lwL i) [] l2 M2) : lwW D cy t1 t2 p l e s m below meth c b 405 (lwL i) [] lay M := by
  refine lw_load X dw_405 (k := 0) rfl ?_
  refine lw_arg X dw_406 dw_407 dw_408 dw_409 dw_410 (k := 2) rfl (n := 1) (by omega) ?_
  refine lw_arg X dw_411 dw_412 dw_413 dw_414 dw_415 (k := 2) rfl (n := 2) (by omega) ?_
  refine lw_call X (j := 100) (As := [.int (xs (i + 1)), .int (xs (i + 2))]) dw_416 (by decide) (mW (mem3 (i := 31) rfl) rfl) rfl rfl rfl (by decide) (hOk _ _ _ hI).2.2.1 (Nat.le_of_ble_eq_true rfl) rfl (ha _ _ _ hc hI) (fun v l1 M1 hP => ?_) (fun v l1 M1 hP => ?_)
  · obtain ⟨v2, l2, M2, g1, g2, -, -, g3⟩ := mF_le hP.2
    have g4 := hOk _ _ _ g3
    exact ⟨Nat.le_trans g1 g4.1, Nat.le_trans g2 g4.2.1⟩
  obtain ⟨hs80, hP⟩ := hP
  refine lw_load X dw_419 (k := 1) rfl ?_
  refine lw_arg X dw_420 dw_421 dw_422 dw_423 dw_424 (k := 2) rfl (n := 1) (by omega) ?_
  refine lw_arg X dw_425 dw_426 dw_427 dw_428 dw_429 (k := 2) rfl (n := 2) (by omega) ?_
  refine lw_call X (j := 183) (As := [.int (xs (i + 1)), .int (xs (i + 2))]) (rest := v.toList ++ []) dw_430 (by decide) (mW (mem5 (i := 214) rfl) rfl) rfl rfl rfl (by decide) hs80 (mCat_opt v) rfl hP (fun v2 l2 M2 hP => ⟨(hOk _ _ _ hP.2.2).1, (hOk _ _ _ hP.2.2).2.1⟩) (fun v2 l2 M2 hP => ?_)
  obtain ⟨rfl, ⟨r, rfl⟩, hI2⟩ := hP
  exact lw_eqI X (t := 1403) dw_433 (by decide) (kk _ _ hI2)
theorem lwc_8 (X : lwCx D cy t1 t2 p s m meth c b L xs) (hi : i + 5 < L) (hOk : mInvOk Inv) (hc : n < 512) (hI : Inv n lay M) (ha : mApiI Inv 101 184 [.int (xs (i + 1))]) (kk : ∀ l2 M2, Inv (n + 1) l2 M2 → lwW D cy t1 t2 p l e s m below meth c b 1403 (lwL i) [] l2 M2) : lwW D cy t1 t2 p l e s m below meth c b 438 (lwL i) [] lay M := by
  refine lw_load X dw_438 (k := 0) rfl ?_
  refine lw_arg X dw_439 dw_440 dw_441 dw_442 dw_443 (k := 2) rfl (n := 1) (by omega) ?_
  refine lw_call X (j := 101) (As := [.int (xs (i + 1))]) dw_444 (by decide) (mW (mem3 (i := 66) rfl) rfl) rfl rfl rfl (by decide) (hOk _ _ _ hI).2.2.1 (Nat.le_of_ble_eq_true rfl) rfl (ha _ _ _ hc hI) (fun v l1 M1 hP => ?_) (fun v l1 M1 hP => ?_)
  · obtain ⟨v2, l2, M2, g1, g2, -, -, g3⟩ := mF_le hP.2
    have g4 := hOk _ _ _ g3
    exact ⟨Nat.le_trans g1 g4.1, Nat.le_trans g2 g4.2.1⟩
  obtain ⟨hs80, hP⟩ := hP
  refine lw_load X dw_447 (k := 1) rfl ?_
  refine lw_arg X dw_448 dw_449 dw_450 dw_451 dw_452 (k := 2) rfl (n := 1) (by omega) ?_
  refine lw_call X (j := 184) (As := [.int (xs (i + 1))]) (rest := v.toList ++ []) dw_453 (by decide) (mW (mem5 (i := 238) rfl) rfl) rfl rfl rfl (by decide) hs80 (mCat_opt v) rfl hP (fun v2 l2 M2 hP => ⟨(hOk _ _ _ hP.2.2).1, (hOk _ _ _ hP.2.2).2.1⟩) (fun v2 l2 M2 hP => ?_)
  obtain ⟨rfl, ⟨r, rfl⟩, hI2⟩ := hP
  exact lw_eqI X (t := 1403) dw_456 (by decide) (kk _ _ hI2)
theorem lwc_9 (X : lwCx D cy t1 t2 p s m meth c b L xs) (hi : i + 5 < L) (hOk : mInvOk Inv) (hc : n < 512) (hI : Inv n lay M) (ha : mApiI Inv 102 185 [.int (xs (i + 1))]) (kk : ∀ l2 M2, Inv (n + 1) l2 M2 → lwW D cy t1 t2 p l e s m below meth c b 1403 (lwL i) [] l2 M2) : lwW D cy t1 t2 p l e s m below meth c b 461 (lwL i) [] lay M := by
  refine lw_load X dw_461 (k := 0) rfl ?_
  refine lw_arg X dw_462 dw_463 dw_464 dw_465 dw_466 (k := 2) rfl (n := 1) (by omega) ?_
  refine lw_call X (j := 102) (As := [.int (xs (i + 1))]) dw_467 (by decide) (mW (mem3 (i := 74) rfl) rfl) rfl rfl rfl (by decide) (hOk _ _ _ hI).2.2.1 (Nat.le_of_ble_eq_true rfl) rfl (ha _ _ _ hc hI) (fun v l1 M1 hP => ?_) (fun v l1 M1 hP => ?_)
  · obtain ⟨v2, l2, M2, g1, g2, -, -, g3⟩ := mF_le hP.2
    have g4 := hOk _ _ _ g3
    exact ⟨Nat.le_trans g1 g4.1, Nat.le_trans g2 g4.2.1⟩
  obtain ⟨hs80, hP⟩ := hP
  refine lw_load X dw_470 (k := 1) rfl ?_
  refine lw_arg X dw_471 dw_472 dw_473 dw_474 dw_475 (k := 2) rfl (n := 1) (by omega) ?_
  refine lw_call X (j := 185) (As := [.int (xs (i + 1))]) (rest := v.toList ++ []) dw_476 (by decide) (mW (mem6 (i := 6) rfl) rfl) rfl rfl rfl (by decide) hs80 (mCat_opt v) rfl hP (fun v2 l2 M2 hP => ⟨(hOk _ _ _ hP.2.2).1, (hOk _ _ _ hP.2.2).2.1⟩) (fun v2 l2 M2 hP => ?_)
  obtain ⟨rfl, ⟨r, rfl⟩, hI2⟩ := hP
  exact lw_eqI X (t := 1403) dw_479 (by decide) (kk _ _ hI2)
theorem lwc_10 (X : lwCx D cy t1 t2 p s m meth c b L xs) (hi : i + 5 < L) (hOk : mInvOk Inv) (hc : n < 512) (hI : Inv n lay M) (ha : mApiI Inv 103 186 [.int (xs (i + 1)), .int (xs (i + 2))]) (kk : ∀ l2 M2, Inv (n + 1) l2 M2 → lwW D cy t1 t2 p l e s m below meth c b 1403 (lwL i) [] l2 M2) : lwW D cy t1 t2 p l e s m below meth c b 484 (lwL i) [] lay M := by
  refine lw_load X dw_484 (k := 0) rfl ?_
  refine lw_arg X dw_485 dw_486 dw_487 dw_488 dw_489 (k := 2) rfl (n := 1) (by omega) ?_
  refine lw_arg X dw_490 dw_491 dw_492 dw_493 dw_494 (k := 2) rfl (n := 2) (by omega) ?_
  refine lw_call X (j := 103) (As := [.int (xs (i + 1)), .int (xs (i + 2))]) dw_495 (by decide) (mW (mem3 (i := 82) rfl) rfl) rfl rfl rfl (by decide) (hOk _ _ _ hI).2.2.1 (Nat.le_of_ble_eq_true rfl) rfl (ha _ _ _ hc hI) (fun v l1 M1 hP => ?_) (fun v l1 M1 hP => ?_)
  · obtain ⟨v2, l2, M2, g1, g2, -, -, g3⟩ := mF_le hP.2
    have g4 := hOk _ _ _ g3
    exact ⟨Nat.le_trans g1 g4.1, Nat.le_trans g2 g4.2.1⟩
  obtain ⟨hs80, hP⟩ := hP
  refine lw_load X dw_498 (k := 1) rfl ?_
  refine lw_arg X dw_499 dw_500 dw_501 dw_502 dw_503 (k := 2) rfl (n := 1) (by omega) ?_
  refine lw_arg X dw_504 dw_505 dw_506 dw_507 dw_508 (k := 2) rfl (n := 2) (by omega) ?_
  refine lw_call X (j := 186) (As := [.int (xs (i + 1)), .int (xs (i + 2))]) (rest := v.toList ++ []) dw_509 (by decide) (mW (mem6 (i := 14) rfl) rfl) rfl rfl rfl (by decide) hs80 (mCat_opt v) rfl hP (fun v2 l2 M2 hP => ⟨(hOk _ _ _ hP.2.2).1, (hOk _ _ _ hP.2.2).2.1⟩) (fun v2 l2 M2 hP => ?_)
  obtain ⟨rfl, ⟨r, rfl⟩, hI2⟩ := hP
  exact lw_eqI X (t := 1403) dw_512 (by decide) (kk _ _ hI2)
theorem lwc_11 (X : lwCx D cy t1 t2 p s m meth c b L xs) (hi : i + 5 < L) (hOk : mInvOk Inv) (hc : n < 512) (hI : Inv n lay M) (ha : mApiI Inv 104 187 [.int (xs (i + 1))]) (kk : ∀ l2 M2, Inv (n + 1) l2 M2 → lwW D cy t1 t2 p l e s m below meth c b 1403 (lwL i) [] l2 M2) : lwW D cy t1 t2 p l e s m below meth c b 517 (lwL i) [] lay M := by
  refine lw_load X dw_517 (k := 0) rfl ?_
  refine lw_arg X dw_518 dw_519 dw_520 dw_521 dw_522 (k := 2) rfl (n := 1) (by omega) ?_
  refine lw_call X (j := 104) (As := [.int (xs (i + 1))]) dw_523 (by decide) (mW (mem3 (i := 94) rfl) rfl) rfl rfl rfl (by decide) (hOk _ _ _ hI).2.2.1 (Nat.le_of_ble_eq_true rfl) rfl (ha _ _ _ hc hI) (fun v l1 M1 hP => ?_) (fun v l1 M1 hP => ?_)
  · obtain ⟨v2, l2, M2, g1, g2, -, -, g3⟩ := mF_le hP.2
    have g4 := hOk _ _ _ g3
    exact ⟨Nat.le_trans g1 g4.1, Nat.le_trans g2 g4.2.1⟩
  obtain ⟨hs80, hP⟩ := hP
  refine lw_load X dw_526 (k := 1) rfl ?_
  refine lw_arg X dw_527 dw_528 dw_529 dw_530 dw_531 (k := 2) rfl (n := 1) (by omega) ?_
  refine lw_call X (j := 187) (As := [.int (xs (i + 1))]) (rest := v.toList ++ []) dw_532 (by decide) (mW (mem6 (i := 18) rfl) rfl) rfl rfl rfl (by decide) hs80 (mCat_opt v) rfl hP (fun v2 l2 M2 hP => ⟨(hOk _ _ _ hP.2.2).1, (hOk _ _ _ hP.2.2).2.1⟩) (fun v2 l2 M2 hP => ?_)
  obtain ⟨rfl, ⟨r, rfl⟩, hI2⟩ := hP
  exact lw_eqI X (t := 1403) dw_535 (by decide) (kk _ _ hI2)
theorem lwc_12 (X : lwCx D cy t1 t2 p s m meth c b L xs) (hi : i + 5 < L) (hOk : mInvOk Inv) (hc : n < 512) (hI : Inv n lay M) (ha : mApiI Inv 105 193 [.int (xs (i + 1)), .int (xs (i + 2))]) (kk : ∀ l2 M2, Inv (n + 1) l2 M2 → lwW D cy t1 t2 p l e s m below meth c b 1403 (lwL i) [] l2 M2) : lwW D cy t1 t2 p l e s m below meth c b 540 (lwL i) [] lay M := by
  refine lw_load X dw_540 (k := 0) rfl ?_
  refine lw_arg X dw_541 dw_542 dw_543 dw_544 dw_545 (k := 2) rfl (n := 1) (by omega) ?_
  refine lw_arg X dw_546 dw_547 dw_548 dw_549 dw_550 (k := 2) rfl (n := 2) (by omega) ?_
  refine lw_call X (j := 105) (As := [.int (xs (i + 1)), .int (xs (i + 2))]) dw_551 (by decide) (mW (mem3 (i := 102) rfl) rfl) rfl rfl rfl (by decide) (hOk _ _ _ hI).2.2.1 (Nat.le_of_ble_eq_true rfl) rfl (ha _ _ _ hc hI) (fun v l1 M1 hP => ?_) (fun v l1 M1 hP => ?_)
  · obtain ⟨v2, l2, M2, g1, g2, -, -, g3⟩ := mF_le hP.2
    have g4 := hOk _ _ _ g3
    exact ⟨Nat.le_trans g1 g4.1, Nat.le_trans g2 g4.2.1⟩
  obtain ⟨hs80, hP⟩ := hP
  refine lw_load X dw_554 (k := 1) rfl ?_
  refine lw_arg X dw_555 dw_556 dw_557 dw_558 dw_559 (k := 2) rfl (n := 1) (by omega) ?_
  refine lw_arg X dw_560 dw_561 dw_562 dw_563 dw_564 (k := 2) rfl (n := 2) (by omega) ?_
  refine lw_call X (j := 193) (As := [.int (xs (i + 1)), .int (xs (i + 2))]) (rest := v.toList ++ []) dw_565 (by decide) (mW (mem6 (i := 22) rfl) rfl) rfl rfl rfl (by decide) hs80 (mCat_opt v) rfl hP (fun v2 l2 M2 hP => ⟨(hOk _ _ _ hP.2.2).1, (hOk _ _ _ hP.2.2).2.1⟩) (fun v2 l2 M2 hP => ?_)
  obtain ⟨rfl, ⟨r, rfl⟩, hI2⟩ := hP
  exact lw_eqI X (t := 1403) dw_568 (by decide) (kk _ _ hI2)
theorem lwc_13 (X : lwCx D cy t1 t2 p s m meth c b L xs) (hi : i + 5 < L) (hOk : mInvOk Inv) (hc : n < 512) (hI : Inv n lay M) (ha : mApiI Inv 106 194 [.int (xs (i + 1))]) (kk : ∀ l2 M2, Inv (n + 1) l2 M2 → lwW D cy t1 t2 p l e s m below meth c b 1403 (lwL i) [] l2 M2) : lwW D cy t1 t2 p l e s m below meth c b 573 (lwL i) [] lay M := by
  refine lw_load X dw_573 (k := 0) rfl ?_
  refine lw_arg X dw_574 dw_575 dw_576 dw_577 dw_578 (k := 2) rfl (n := 1) (by omega) ?_
  refine lw_call X (j := 106) (As := [.int (xs (i + 1))]) dw_579 (by decide) (mW (mem3 (i := 136) rfl) rfl) rfl rfl rfl (by decide) (hOk _ _ _ hI).2.2.1 (Nat.le_of_ble_eq_true rfl) rfl (ha _ _ _ hc hI) (fun v l1 M1 hP => ?_) (fun v l1 M1 hP => ?_)
  · obtain ⟨v2, l2, M2, g1, g2, -, -, g3⟩ := mF_le hP.2
    have g4 := hOk _ _ _ g3
    exact ⟨Nat.le_trans g1 g4.1, Nat.le_trans g2 g4.2.1⟩
  obtain ⟨hs80, hP⟩ := hP
  refine lw_load X dw_582 (k := 1) rfl ?_
  refine lw_arg X dw_583 dw_584 dw_585 dw_586 dw_587 (k := 2) rfl (n := 1) (by omega) ?_
  refine lw_call X (j := 194) (As := [.int (xs (i + 1))]) (rest := v.toList ++ []) dw_588 (by decide) (mW (mem6 (i := 48) rfl) rfl) rfl rfl rfl (by decide) hs80 (mCat_opt v) rfl hP (fun v2 l2 M2 hP => ⟨(hOk _ _ _ hP.2.2).1, (hOk _ _ _ hP.2.2).2.1⟩) (fun v2 l2 M2 hP => ?_)
  obtain ⟨rfl, ⟨r, rfl⟩, hI2⟩ := hP
  exact lw_eqI X (t := 1403) dw_591 (by decide) (kk _ _ hI2)
theorem lwc_14 (X : lwCx D cy t1 t2 p s m meth c b L xs) (hi : i + 5 < L) (hOk : mInvOk Inv) (hc : n < 512) (hI : Inv n lay M) (ha : mApiI Inv 107 196 [.int (xs (i + 1)), .int (xs (i + 2))]) (kk : ∀ l2 M2, Inv (n + 1) l2 M2 → lwW D cy t1 t2 p l e s m below meth c b 1403 (lwL i) [] l2 M2) : lwW D cy t1 t2 p l e s m below meth c b 596 (lwL i) [] lay M := by
  refine lw_load X dw_596 (k := 0) rfl ?_
  refine lw_arg X dw_597 dw_598 dw_599 dw_600 dw_601 (k := 2) rfl (n := 1) (by omega) ?_
  refine lw_arg X dw_602 dw_603 dw_604 dw_605 dw_606 (k := 2) rfl (n := 2) (by omega) ?_
  refine lw_call X (j := 107) (As := [.int (xs (i + 1)), .int (xs (i + 2))]) dw_607 (by decide) (mW (mem3 (i := 149) rfl) rfl) rfl rfl rfl (by decide) (hOk _ _ _ hI).2.2.1 (Nat.le_of_ble_eq_true rfl) rfl (ha _ _ _ hc hI) (fun v l1 M1 hP => ?_) (fun v l1 M1 hP => ?_)
  · obtain ⟨v2, l2, M2, g1, g2, -, -, g3⟩ := mF_le hP.2
    have g4 := hOk _ _ _ g3
    exact ⟨Nat.le_trans g1 g4.1, Nat.le_trans g2 g4.2.1⟩
  obtain ⟨hs80, hP⟩ := hP
  refine lw_load X dw_610 (k := 1) rfl ?_
  refine lw_arg X dw_611 dw_612 dw_613 dw_614 dw_615 (k := 2) rfl (n := 1) (by omega) ?_
  refine lw_arg X dw_616 dw_617 dw_618 dw_619 dw_620 (k := 2) rfl (n := 2) (by omega) ?_
  refine lw_call X (j := 196) (As := [.int (xs (i + 1)), .int (xs (i + 2))]) (rest := v.toList ++ []) dw_621 (by decide) (mW (mem6 (i := 52) rfl) rfl) rfl rfl rfl (by decide) hs80 (mCat_opt v) rfl hP (fun v2 l2 M2 hP => ⟨(hOk _ _ _ hP.2.2).1, (hOk _ _ _ hP.2.2).2.1⟩) (fun v2 l2 M2 hP => ?_)
  obtain ⟨rfl, ⟨r, rfl⟩, hI2⟩ := hP
  exact lw_eqI X (t := 1403) dw_624 (by decide) (kk _ _ hI2)
theorem lwc_15 (X : lwCx D cy t1 t2 p s m meth c b L xs) (hi : i + 5 < L) (hOk : mInvOk Inv) (hc : n < 512) (hI : Inv n lay M) (ha : mApiI Inv 108 202 [.int (xs (i + 1)), .int (xs (i + 2))]) (kk : ∀ l2 M2, Inv (n + 1) l2 M2 → lwW D cy t1 t2 p l e s m below meth c b 1403 (lwL i) [] l2 M2) : lwW D cy t1 t2 p l e s m below meth c b 629 (lwL i) [] lay M := by
  refine lw_load X dw_629 (k := 0) rfl ?_
  refine lw_arg X dw_630 dw_631 dw_632 dw_633 dw_634 (k := 2) rfl (n := 1) (by omega) ?_
  refine lw_arg X dw_635 dw_636 dw_637 dw_638 dw_639 (k := 2) rfl (n := 2) (by omega) ?_
  refine lw_call X (j := 108) (As := [.int (xs (i + 1)), .int (xs (i + 2))]) dw_640 (by decide) (mW (mem3 (i := 167) rfl) rfl) rfl rfl rfl (by decide) (hOk _ _ _ hI).2.2.1 (Nat.le_of_ble_eq_true rfl) rfl (ha _ _ _ hc hI) (fun v l1 M1 hP => ?_) (fun v l1 M1 hP => ?_)
  · obtain ⟨v2, l2, M2, g1, g2, -, -, g3⟩ := mF_le hP.2
    have g4 := hOk _ _ _ g3
    exact ⟨Nat.le_trans g1 g4.1, Nat.le_trans g2 g4.2.1⟩
  obtain ⟨hs80, hP⟩ := hP
  refine lw_load X dw_643 (k := 1) rfl ?_
  refine lw_arg X dw_644 dw_645 dw_646 dw_647 dw_648 (k := 2) rfl (n := 1) (by omega) ?_
  refine lw_arg X dw_649 dw_650 dw_651 dw_652 dw_653 (k := 2) rfl (n := 2) (by omega) ?_
  refine lw_call X (j := 202) (As := [.int (xs (i + 1)), .int (xs (i + 2))]) (rest := v.toList ++ []) dw_654 (by decide) (mW (mem6 (i := 73) rfl) rfl) rfl rfl rfl (by decide) hs80 (mCat_opt v) rfl hP (fun v2 l2 M2 hP => ⟨(hOk _ _ _ hP.2.2).1, (hOk _ _ _ hP.2.2).2.1⟩) (fun v2 l2 M2 hP => ?_)
  obtain ⟨rfl, ⟨r, rfl⟩, hI2⟩ := hP
  exact lw_eqI X (t := 1403) dw_657 (by decide) (kk _ _ hI2)
theorem lwc_16 (X : lwCx D cy t1 t2 p s m meth c b L xs) (hi : i + 5 < L) (hOk : mInvOk Inv) (hc : n < 512) (hI : Inv n lay M) (ha : mApiI Inv 109 203 [.int (xs (i + 1)), .int (xs (i + 2)), .int (xs (i + 3))]) (kk : ∀ l2 M2, Inv (n + 1) l2 M2 → lwW D cy t1 t2 p l e s m below meth c b 1403 (lwL i) [] l2 M2) : lwW D cy t1 t2 p l e s m below meth c b 662 (lwL i) [] lay M := by
  refine lw_load X dw_662 (k := 0) rfl ?_
  refine lw_arg X dw_663 dw_664 dw_665 dw_666 dw_667 (k := 2) rfl (n := 1) (by omega) ?_
  refine lw_arg X dw_668 dw_669 dw_670 dw_671 dw_672 (k := 2) rfl (n := 2) (by omega) ?_
  refine lw_arg X dw_673 dw_674 dw_675 dw_676 dw_677 (k := 2) rfl (n := 3) (by omega) ?_
  refine lw_call X (j := 109) (As := [.int (xs (i + 1)), .int (xs (i + 2)), .int (xs (i + 3))]) dw_678 (by decide) (mW (mem3 (i := 182) rfl) rfl) rfl rfl rfl (by decide) (hOk _ _ _ hI).2.2.1 (Nat.le_of_ble_eq_true rfl) rfl (ha _ _ _ hc hI) (fun v l1 M1 hP => ?_) (fun v l1 M1 hP => ?_)
  · obtain ⟨v2, l2, M2, g1, g2, -, -, g3⟩ := mF_le hP.2
    have g4 := hOk _ _ _ g3
    exact ⟨Nat.le_trans g1 g4.1, Nat.le_trans g2 g4.2.1⟩
  obtain ⟨hs80, hP⟩ := hP
  refine lw_load X dw_681 (k := 1) rfl ?_
  refine lw_arg X dw_682 dw_683 dw_684 dw_685 dw_686 (k := 2) rfl (n := 1) (by omega) ?_
  refine lw_arg X dw_687 dw_688 dw_689 dw_690 dw_691 (k := 2) rfl (n := 2) (by omega) ?_
  refine lw_arg X dw_692 dw_693 dw_694 dw_695 dw_696 (k := 2) rfl (n := 3) (by omega) ?_
  refine lw_call X (j := 203) (As := [.int (xs (i + 1)), .int (xs (i + 2)), .int (xs (i + 3))]) (rest := v.toList ++ []) dw_697 (by decide) (mW (mem6 (i := 85) rfl) rfl) rfl rfl rfl (by decide) hs80 (mCat_opt v) rfl hP (fun v2 l2 M2 hP => ⟨(hOk _ _ _ hP.2.2).1, (hOk _ _ _ hP.2.2).2.1⟩) (fun v2 l2 M2 hP => ?_)
  obtain ⟨rfl, ⟨r, rfl⟩, hI2⟩ := hP
  exact lw_eqI X (t := 1403) dw_700 (by decide) (kk _ _ hI2)
theorem lwc_17 (X : lwCx D cy t1 t2 p s m meth c b L xs) (hi : i + 5 < L) (hOk : mInvOk Inv) (hc : n < 512) (hI : Inv n lay M) (ha : mApiL Inv 110 204 [.int (xs (i + 1)), .int (xs (i + 2))]) (kk : ∀ l2 M2, Inv (n + 1) l2 M2 → lwW D cy t1 t2 p l e s m below meth c b 1403 (lwL i) [] l2 M2) : lwW D cy t1 t2 p l e s m below meth c b 705 (lwL i) [] lay M := by
  refine lw_load X dw_705 (k := 0) rfl ?_
  refine lw_arg X dw_706 dw_707 dw_708 dw_709 dw_710 (k := 2) rfl (n := 1) (by omega) ?_
  refine lw_arg X dw_711 dw_712 dw_713 dw_714 dw_715 (k := 2) rfl (n := 2) (by omega) ?_
  refine lw_call X (j := 110) (As := [.int (xs (i + 1)), .int (xs (i + 2))]) dw_716 (by decide) (mW (mem3 (i := 194) rfl) rfl) rfl rfl rfl (by decide) (hOk _ _ _ hI).2.2.1 (Nat.le_of_ble_eq_true rfl) rfl (ha _ _ _ hc hI) (fun v l1 M1 hP => ?_) (fun v l1 M1 hP => ?_)
  · obtain ⟨v2, l2, M2, g1, g2, -, -, g3⟩ := mF_le hP.2
    have g4 := hOk _ _ _ g3
    exact ⟨Nat.le_trans g1 g4.1, Nat.le_trans g2 g4.2.1⟩
  obtain ⟨hs80, hP⟩ := hP
  refine lw_load X dw_719 (k := 1) rfl ?_
  refine lw_arg X dw_720 dw_721 dw_722 dw_723 dw_724 (k := 2) rfl (n := 1) (by omega) ?_
  refine lw_arg X dw_725 dw_726 dw_727 dw_728 dw_729 (k := 2) rfl (n := 2) (by omega) ?_
  refine lw_call X (j := 204) (As := [.int (xs (i + 1)), .int (xs (i + 2))]) (rest := v.toList ++ []) dw_730 (by decide) (mW (mem6 (i := 89) rfl) rfl) rfl rfl rfl (by decide) hs80 (mCat_opt v) rfl hP (fun v2 l2 M2 hP => ⟨(hOk _ _ _ hP.2.2).1, (hOk _ _ _ hP.2.2).2.1⟩) (fun v2 l2 M2 hP => ?_)
  obtain ⟨rfl, ⟨r, rfl⟩, hI2⟩ := hP
  exact lw_eqL X (t := 1403) dw_733 dw_734 (by decide) (kk _ _ hI2)
theorem lwc_18 (X : lwCx D cy t1 t2 p s m meth c b L xs) (hi : i + 5 < L) (hOk : mInvOk Inv) (hc : n < 512) (hI : Inv n lay M) (ha : mApiI Inv 111 205 [.int (xs (i + 1)), .int (xs (i + 2))]) (kk : ∀ l2 M2, Inv (n + 1) l2 M2 → lwW D cy t1 t2 p l e s m below meth c b 1403 (lwL i) [] l2 M2) : lwW D cy t1 t2 p l e s m below meth c b 739 (lwL i) [] lay M := by
  refine lw_load X dw_739 (k := 0) rfl ?_
  refine lw_arg X dw_740 dw_741 dw_742 dw_743 dw_744 (k := 2) rfl (n := 1) (by omega) ?_
  refine lw_arg X dw_745 dw_746 dw_747 dw_748 dw_749 (k := 2) rfl (n := 2) (by omega) ?_
  refine lw_call X (j := 111) (As := [.int (xs (i + 1)), .int (xs (i + 2))]) dw_750 (by decide) (mW (mem3 (i := 208) rfl) rfl) rfl rfl rfl (by decide) (hOk _ _ _ hI).2.2.1 (Nat.le_of_ble_eq_true rfl) rfl (ha _ _ _ hc hI) (fun v l1 M1 hP => ?_) (fun v l1 M1 hP => ?_)
  · obtain ⟨v2, l2, M2, g1, g2, -, -, g3⟩ := mF_le hP.2
    have g4 := hOk _ _ _ g3
    exact ⟨Nat.le_trans g1 g4.1, Nat.le_trans g2 g4.2.1⟩
  obtain ⟨hs80, hP⟩ := hP
  refine lw_load X dw_753 (k := 1) rfl ?_
  refine lw_arg X dw_754 dw_755 dw_756 dw_757 dw_758 (k := 2) rfl (n := 1) (by omega) ?_
  refine lw_arg X dw_759 dw_760 dw_761 dw_762 dw_763 (k := 2) rfl (n := 2) (by omega) ?_
  refine lw_call X (j := 205) (As := [.int (xs (i + 1)), .int (xs (i + 2))]) (rest := v.toList ++ []) dw_764 (by decide) (mW (mem6 (i := 94) rfl) rfl) rfl rfl rfl (by decide) hs80 (mCat_opt v) rfl hP (fun v2 l2 M2 hP => ⟨(hOk _ _ _ hP.2.2).1, (hOk _ _ _ hP.2.2).2.1⟩) (fun v2 l2 M2 hP => ?_)
  obtain ⟨rfl, ⟨r, rfl⟩, hI2⟩ := hP
  exact lw_eqI X (t := 1403) dw_767 (by decide) (kk _ _ hI2)
theorem lwc_19 (X : lwCx D cy t1 t2 p s m meth c b L xs) (hi : i + 5 < L) (hOk : mInvOk Inv) (hc : n < 512) (hI : Inv n lay M) (ha : mApiI Inv 112 208 [.int (xs (i + 1)), .int (xs (i + 2))]) (kk : ∀ l2 M2, Inv (n + 1) l2 M2 → lwW D cy t1 t2 p l e s m below meth c b 1403 (lwL i) [] l2 M2) : lwW D cy t1 t2 p l e s m below meth c b 772 (lwL i) [] lay M := by
  refine lw_load X dw_772 (k := 0) rfl ?_
  refine lw_arg X dw_773 dw_774 dw_775 dw_776 dw_777 (k := 2) rfl (n := 1) (by omega) ?_
  refine lw_arg X dw_778 dw_779 dw_780 dw_781 dw_782 (k := 2) rfl (n := 2) (by omega) ?_
  refine lw_call X (j := 112) (As := [.int (xs (i + 1)), .int (xs (i + 2))]) dw_783 (by decide) (mW (mem3 (i := 216) rfl) rfl) rfl rfl rfl (by decide) (hOk _ _ _ hI).2.2.1 (Nat.le_of_ble_eq_true rfl) rfl (ha _ _ _ hc hI) (fun v l1 M1 hP => ?_) (fun v l1 M1 hP => ?_)
  · obtain ⟨v2, l2, M2, g1, g2, -, -, g3⟩ := mF_le hP.2
    have g4 := hOk _ _ _ g3
    exact ⟨Nat.le_trans g1 g4.1, Nat.le_trans g2 g4.2.1⟩
  obtain ⟨hs80, hP⟩ := hP
  refine lw_load X dw_786 (k := 1) rfl ?_
  refine lw_arg X dw_787 dw_788 dw_789 dw_790 dw_791 (k := 2) rfl (n := 1) (by omega) ?_
  refine lw_arg X dw_792 dw_793 dw_794 dw_795 dw_796 (k := 2) rfl (n := 2) (by omega) ?_
  refine lw_call X (j := 208) (As := [.int (xs (i + 1)), .int (xs (i + 2))]) (rest := v.toList ++ []) dw_797 (by decide) (mW (mem6 (i := 98) rfl) rfl) rfl rfl rfl (by decide) hs80 (mCat_opt v) rfl hP (fun v2 l2 M2 hP => ⟨(hOk _ _ _ hP.2.2).1, (hOk _ _ _ hP.2.2).2.1⟩) (fun v2 l2 M2 hP => ?_)
  obtain ⟨rfl, ⟨r, rfl⟩, hI2⟩ := hP
  exact lw_eqI X (t := 1403) dw_800 (by decide) (kk _ _ hI2)
theorem lwc_20 (X : lwCx D cy t1 t2 p s m meth c b L xs) (hi : i + 5 < L) (hOk : mInvOk Inv) (hc : n < 512) (hI : Inv n lay M) (ha : mApiI Inv 113 209 [.int (xs (i + 1)), .int (xs (i + 2)), .int (xs (i + 3))]) (kk : ∀ l2 M2, Inv (n + 1) l2 M2 → lwW D cy t1 t2 p l e s m below meth c b 1403 (lwL i) [] l2 M2) : lwW D cy t1 t2 p l e s m below meth c b 805 (lwL i) [] lay M := by
  refine lw_load X dw_805 (k := 0) rfl ?_
  refine lw_arg X dw_806 dw_807 dw_808 dw_809 dw_810 (k := 2) rfl (n := 1) (by omega) ?_
  refine lw_arg X dw_811 dw_812 dw_813 dw_814 dw_815 (k := 2) rfl (n := 2) (by omega) ?_
  refine lw_arg X dw_816 dw_817 dw_818 dw_819 dw_820 (k := 2) rfl (n := 3) (by omega) ?_
  refine lw_call X (j := 113) (As := [.int (xs (i + 1)), .int (xs (i + 2)), .int (xs (i + 3))]) dw_821 (by decide) (mW (mem4 (i := 6) rfl) rfl) rfl rfl rfl (by decide) (hOk _ _ _ hI).2.2.1 (Nat.le_of_ble_eq_true rfl) rfl (ha _ _ _ hc hI) (fun v l1 M1 hP => ?_) (fun v l1 M1 hP => ?_)
  · obtain ⟨v2, l2, M2, g1, g2, -, -, g3⟩ := mF_le hP.2
    have g4 := hOk _ _ _ g3
    exact ⟨Nat.le_trans g1 g4.1, Nat.le_trans g2 g4.2.1⟩
  obtain ⟨hs80, hP⟩ := hP
  refine lw_load X dw_824 (k := 1) rfl ?_
  refine lw_arg X dw_825 dw_826 dw_827 dw_828 dw_829 (k := 2) rfl (n := 1) (by omega) ?_
  refine lw_arg X dw_830 dw_831 dw_832 dw_833 dw_834 (k := 2) rfl (n := 2) (by omega) ?_
  refine lw_arg X dw_835 dw_836 dw_837 dw_838 dw_839 (k := 2) rfl (n := 3) (by omega) ?_
  refine lw_call X (j := 209) (As := [.int (xs (i + 1)), .int (xs (i + 2)), .int (xs (i + 3))]) (rest := v.toList ++ []) dw_840 (by decide) (mW (mem6 (i := 110) rfl) rfl) rfl rfl rfl (by decide) hs80 (mCat_opt v) rfl hP (fun v2 l2 M2 hP => ⟨(hOk _ _ _ hP.2.2).1, (hOk _ _ _ hP.2.2).2.1⟩) (fun v2 l2 M2 hP => ?_)
  obtain ⟨rfl, ⟨r, rfl⟩, hI2⟩ := hP
  exact lw_eqI X (t := 1403) dw_843 (by decide) (kk _ _ hI2)
theorem lwc_21 (X : lwCx D cy t1 t2 p s m meth c b L xs) (hi : i + 5 < L) (hOk : mInvOk Inv) (hc : n < 512) (hI : Inv n lay M) (ha : mApiI Inv 114 210 []) (kk : ∀ l2 M2, Inv (n + 1) l2 M2 → lwW D cy t1 t2 p l e s m below meth c b 1403 (lwL i) [] l2 M2) : lwW D cy t1 t2 p l e s m below meth c b 848 (lwL i) [] lay M := by
  refine lw_load X dw_848 (k := 0) rfl ?_
  refine lw_call X (j := 114) (As := []) dw_849 (by decide) (mW (mem4 (i := 16) rfl) rfl) rfl rfl rfl (by decide) (hOk _ _ _ hI).2.2.1 (Nat.le_of_ble_eq_true rfl) rfl (ha _ _ _ hc hI) (fun v l1 M1 hP => ?_) (fun v l1 M1 hP => ?_)
  · obtain ⟨v2, l2, M2, g1, g2, -, -, g3⟩ := mF_le hP.2
    have g4 := hOk _ _ _ g3
    exact ⟨Nat.le_trans g1 g4.1, Nat.le_trans g2 g4.2.1⟩
  obtain ⟨hs80, hP⟩ := hP
  refine lw_load X dw_852 (k := 1) rfl ?_
  refine lw_call X (j := 210) (As := []) (rest := v.toList ++ []) dw_853 (by decide) (mW (mem6 (i := 115) rfl) rfl) rfl rfl rfl (by decide) hs80 (mCat_opt v) rfl hP (fun v2 l2 M2 hP => ⟨(hOk _ _ _ hP.2.2).1, (hOk _ _ _ hP.2.2).2.1⟩) (fun v2 l2 M2 hP => ?_)
  obtain ⟨rfl, ⟨r, rfl⟩, hI2⟩ := hP
  exact lw_eqI X (t := 1403) dw_856 (by decide) (kk _ _ hI2)
theorem lwc_22 (X : lwCx D cy t1 t2 p s m meth c b L xs) (hi : i + 5 < L) (hOk : mInvOk Inv) (hc : n < 512) (hI : Inv n lay M) (ha : mApiI Inv 115 211 [.int (xs (i + 1)), .int (xs (i + 2))]) (kk : ∀ l2 M2, Inv (n + 1) l2 M2 → lwW D cy t1 t2 p l e s m below meth c b 1403 (lwL i) [] l2 M2) : lwW D cy t1 t2 p l e s m below meth c b 861 (lwL i) [] lay M := by
  refine lw_load X dw_861 (k := 0) rfl ?_
  refine lw_arg X dw_862 dw_863 dw_864 dw_865 dw_866 (k := 2) rfl (n := 1) (by omega) ?_
  refine lw_arg X dw_867 dw_868 dw_869 dw_870 dw_871 (k := 2) rfl (n := 2) (by omega) ?_
  refine lw_call X (j := 115) (As := [.int (xs (i + 1)), .int (xs (i + 2))]) dw_872 (by decide) (mW (mem4 (i := 20) rfl) rfl) rfl rfl rfl (by decide) (hOk _ _ _ hI).2.2.1 (Nat.le_of_ble_eq_true rfl) rfl (ha _ _ _ hc hI) (fun v l1 M1 hP => ?_) (fun v l1 M1 hP => ?_)
  · obtain ⟨v2, l2, M2, g1, g2, -, -, g3⟩ := mF_le hP.2
    have g4 := hOk _ _ _ g3
    exact ⟨Nat.le_trans g1 g4.1, Nat.le_trans g2 g4.2.1⟩
  obtain ⟨hs80, hP⟩ := hP
  refine lw_load X dw_875 (k := 1) rfl ?_
  refine lw_arg X dw_876 dw_877 dw_878 dw_879 dw_880 (k := 2) rfl (n := 1) (by omega) ?_
  refine lw_arg X dw_881 dw_882 dw_883 dw_884 dw_885 (k := 2) rfl (n := 2) (by omega) ?_
  refine lw_call X (j := 211) (As := [.int (xs (i + 1)), .int (xs (i + 2))]) (rest := v.toList ++ []) dw_886 (by decide) (mW (mem6 (i := 119) rfl) rfl) rfl rfl rfl (by decide) hs80 (mCat_opt v) rfl hP (fun v2 l2 M2 hP => ⟨(hOk _ _ _ hP.2.2).1, (hOk _ _ _ hP.2.2).2.1⟩) (fun v2 l2 M2 hP => ?_)
  obtain ⟨rfl, ⟨r, rfl⟩, hI2⟩ := hP
  exact lw_eqI X (t := 1403) dw_889 (by decide) (kk _ _ hI2)
theorem lwc_23 (X : lwCx D cy t1 t2 p s m meth c b L xs) (hi : i + 5 < L) (hOk : mInvOk Inv) (hc : n < 512) (hI : Inv n lay M) (ha : mApiI Inv 116 212 [.int (xs (i + 1)), .int (xs (i + 2)), .int (xs (i + 3))]) (kk : ∀ l2 M2, Inv (n + 1) l2 M2 → lwW D cy t1 t2 p l e s m below meth c b 1403 (lwL i) [] l2 M2) : lwW D cy t1 t2 p l e s m below meth c b 894 (lwL i) [] lay M := by
  refine lw_load X dw_894 (k := 0) rfl ?_
  refine lw_arg X dw_895 dw_896 dw_897 dw_898 dw_899 (k := 2) rfl (n := 1) (by omega) ?_
  refine lw_arg X dw_900 dw_901 dw_902 dw_903 dw_904 (k := 2) rfl (n := 2) (by omega) ?_
  refine lw_arg X dw_905 dw_906 dw_907 dw_908 dw_909 (k := 2) rfl (n := 3) (by omega) ?_
  refine lw_call X (j := 116) (As := [.int (xs (i + 1)), .int (xs (i + 2)), .int (xs (i + 3))]) dw_910 (by decide) (mW (mem4 (i := 24) rfl) rfl) rfl rfl rfl (by decide) (hOk _ _ _ hI).2.2.1 (Nat.le_of_ble_eq_true rfl) rfl (ha _ _ _ hc hI) (fun v l1 M1 hP => ?_) (fun v l1 M1 hP => ?_)
  · obtain ⟨v2, l2, M2, g1, g2, -, -, g3⟩ := mF_le hP.2
    have g4 := hOk _ _ _ g3
    exact ⟨Nat.le_trans g1 g4.1, Nat.le_trans g2 g4.2.1⟩
  obtain ⟨hs80, hP⟩ := hP
  refine lw_load X dw_913 (k := 1) rfl ?_
  refine lw_arg X dw_914 dw_915 dw_916 dw_917 dw_918 (k := 2) rfl (n := 1) (by omega) ?_
  refine lw_arg X dw_919 dw_920 dw_921 dw_922 dw_923 (k := 2) rfl (n := 2) (by omega) ?_
  refine lw_arg X dw_924 dw_925 dw_926 dw_927 dw_928 (k := 2) rfl (n := 3) (by omega) ?_
  refine lw_call X (j := 212) (As := [.int (xs (i + 1)), .int (xs (i + 2)), .int (xs (i + 3))]) (rest := v.toList ++ []) dw_929 (by decide) (mW (mem6 (i := 123) rfl) rfl) rfl rfl rfl (by decide) hs80 (mCat_opt v) rfl hP (fun v2 l2 M2 hP => ⟨(hOk _ _ _ hP.2.2).1, (hOk _ _ _ hP.2.2).2.1⟩) (fun v2 l2 M2 hP => ?_)
  obtain ⟨rfl, ⟨r, rfl⟩, hI2⟩ := hP
  exact lw_eqI X (t := 1403) dw_932 (by decide) (kk _ _ hI2)
theorem lwc_24 (X : lwCx D cy t1 t2 p s m meth c b L xs) (hi : i + 5 < L) (hOk : mInvOk Inv) (hc : n < 512) (hI : Inv n lay M) (ha : mApiI Inv 117 213 [.int (xs (i + 1))]) (kk : ∀ l2 M2, Inv (n + 1) l2 M2 → lwW D cy t1 t2 p l e s m below meth c b 1403 (lwL i) [] l2 M2) : lwW D cy t1 t2 p l e s m below meth c b 937 (lwL i) [] lay M := by
  refine lw_load X dw_937 (k := 0) rfl ?_
  refine lw_arg X dw_938 dw_939 dw_940 dw_941 dw_942 (k := 2) rfl (n := 1) (by omega) ?_
  refine lw_call X (j := 117) (As := [.int (xs (i + 1))]) dw_943 (by decide) (mW (mem4 (i := 29) rfl) rfl) rfl rfl rfl (by decide) (hOk _ _ _ hI).2.2.1 (Nat.le_of_ble_eq_true rfl) rfl (ha _ _ _ hc hI) (fun v l1 M1 hP => ?_) (fun v l1 M1 hP => ?_)
  · obtain ⟨v2, l2, M2, g1, g2, -, -, g3⟩ := mF_le hP.2
    have g4 := hOk _ _ _ g3
    exact ⟨Nat.le_trans g1 g4.1, Nat.le_trans g2 g4.2.1⟩
  obtain ⟨hs80, hP⟩ := hP
  refine lw_load X dw_946 (k := 1) rfl ?_
  refine lw_arg X dw_947 dw_948 dw_949 dw_950 dw_951 (k := 2) rfl (n := 1) (by omega) ?_
  refine lw_call X (j := 213) (As := [.int (xs (i + 1))]) (rest := v.toList ++ []) dw_952 (by decide) (mW (mem6 (i := 127) rfl) rfl) rfl rfl rfl (by decide) hs80 (mCat_opt v) rfl hP (fun v2 l2 M2 hP => ⟨(hOk _ _ _ hP.2.2).1, (hOk _ _ _ hP.2.2).2.1⟩) (fun v2 l2 M2 hP => ?_)
  obtain ⟨rfl, ⟨r, rfl⟩, hI2⟩ := hP
  exact lw_eqI X (t := 1403) dw_955 (by decide) (kk _ _ hI2)
theorem lwc_25 (X : lwCx D cy t1 t2 p s m meth c b L xs) (hi : i + 5 < L) (hOk : mInvOk Inv) (hc : n < 512) (hI : Inv n lay M) (ha : mApiI Inv 118 214 []) (kk : ∀ l2 M2, Inv (n + 1) l2 M2 → lwW D cy t1 t2 p l e s m below meth c b 1403 (lwL i) [] l2 M2) : lwW D cy t1 t2 p l e s m below meth c b 960 (lwL i) [] lay M := by
  refine lw_load X dw_960 (k := 0) rfl ?_
  refine lw_call X (j := 118) (As := []) dw_961 (by decide) (mW (mem4 (i := 33) rfl) rfl) rfl rfl rfl (by decide) (hOk _ _ _ hI).2.2.1 (Nat.le_of_ble_eq_true rfl) rfl (ha _ _ _ hc hI) (fun v l1 M1 hP => ?_) (fun v l1 M1 hP => ?_)
  · obtain ⟨v2, l2, M2, g1, g2, -, -, g3⟩ := mF_le hP.2
    have g4 := hOk _ _ _ g3
    exact ⟨Nat.le_trans g1 g4.1, Nat.le_trans g2 g4.2.1⟩
  obtain ⟨hs80, hP⟩ := hP
  refine lw_load X dw_964 (k := 1) rfl ?_
  refine lw_call X (j := 214) (As := []) (rest := v.toList ++ []) dw_965 (by decide) (mW (mem6 (i := 131) rfl) rfl) rfl rfl rfl (by decide) hs80 (mCat_opt v) rfl hP (fun v2 l2 M2 hP => ⟨(hOk _ _ _ hP.2.2).1, (hOk _ _ _ hP.2.2).2.1⟩) (fun v2 l2 M2 hP => ?_)
  obtain ⟨rfl, ⟨r, rfl⟩, hI2⟩ := hP
  exact lw_eqI X (t := 1403) dw_968 (by decide) (kk _ _ hI2)
theorem lwc_26 (X : lwCx D cy t1 t2 p s m meth c b L xs) (hi : i + 5 < L) (hOk : mInvOk Inv) (hc : n < 512) (hI : Inv n lay M) (ha : mApiI Inv 119 215 []) (kk : ∀ l2 M2, Inv (n + 1) l2 M2 → lwW D cy t1 t2 p l e s m below meth c b 1403 (lwL i) [] l2 M2) : lwW D cy t1 t2 p l e s m below meth c b 973 (lwL i) [] lay M := by
  refine lw_load X dw_973 (k := 0) rfl ?_
  refine lw_call X (j := 119) (As := []) dw_974 (by decide) (mW (mem4 (i := 38) rfl) rfl) rfl rfl rfl (by decide) (hOk _ _ _ hI).2.2.1 (Nat.le_of_ble_eq_true rfl) rfl (ha _ _ _ hc hI) (fun v l1 M1 hP => ?_) (fun v l1 M1 hP => ?_)
  · obtain ⟨v2, l2, M2, g1, g2, -, -, g3⟩ := mF_le hP.2
    have g4 := hOk _ _ _ g3
    exact ⟨Nat.le_trans g1 g4.1, Nat.le_trans g2 g4.2.1⟩
  obtain ⟨hs80, hP⟩ := hP
  refine lw_load X dw_977 (k := 1) rfl ?_
  refine lw_call X (j := 215) (As := []) (rest := v.toList ++ []) dw_978 (by decide) (mW (mem6 (i := 135) rfl) rfl) rfl rfl rfl (by decide) hs80 (mCat_opt v) rfl hP (fun v2 l2 M2 hP => ⟨(hOk _ _ _ hP.2.2).1, (hOk _ _ _ hP.2.2).2.1⟩) (fun v2 l2 M2 hP => ?_)
  obtain ⟨rfl, ⟨r, rfl⟩, hI2⟩ := hP
  exact lw_eqI X (t := 1403) dw_981 (by decide) (kk _ _ hI2)
theorem lwc_27 (X : lwCx D cy t1 t2 p s m meth c b L xs) (hi : i + 5 < L) (hOk : mInvOk Inv) (hc : n < 512) (hI : Inv n lay M) (ha : mApiI Inv 120 159 []) (kk : ∀ l2 M2, Inv (n + 1) l2 M2 → lwW D cy t1 t2 p l e s m below meth c b 1403 (lwL i) [] l2 M2) : lwW D cy t1 t2 p l e s m below meth c b 986 (lwL i) [] lay M := by
  refine lw_load X dw_986 (k := 0) rfl ?_
  refine lw_call X (j := 120) (As := []) dw_987 (by decide) (mW (mem4 (i := 42) rfl) rfl) rfl rfl rfl (by decide) (hOk _ _ _ hI).2.2.1 (Nat.le_of_ble_eq_true rfl) rfl (ha _ _ _ hc hI) (fun v l1 M1 hP => ?_) (fun v l1 M1 hP => ?_)
  · obtain ⟨v2, l2, M2, g1, g2, -, -, g3⟩ := mF_le hP.2
    have g4 := hOk _ _ _ g3
    exact ⟨Nat.le_trans g1 g4.1, Nat.le_trans g2 g4.2.1⟩
  obtain ⟨hs80, hP⟩ := hP
  refine lw_load X dw_990 (k := 1) rfl ?_
  refine lw_call X (j := 159) (As := []) (rest := v.toList ++ []) dw_991 (by decide) (mW (mem5 (i := 125) rfl) rfl) rfl rfl rfl (by decide) hs80 (mCat_opt v) rfl hP (fun v2 l2 M2 hP => ⟨(hOk _ _ _ hP.2.2).1, (hOk _ _ _ hP.2.2).2.1⟩) (fun v2 l2 M2 hP => ?_)
  obtain ⟨rfl, ⟨r, rfl⟩, hI2⟩ := hP
  exact lw_eqI X (t := 1403) dw_994 (by decide) (kk _ _ hI2)
theorem lwc_28 (X : lwCx D cy t1 t2 p s m meth c b L xs) (hi : i + 5 < L) (hOk : mInvOk Inv) (hc : n < 512) (hI : Inv n lay M) (ha : mApiI Inv 121 160 []) (kk : ∀ l2 M2, Inv (n + 1) l2 M2 → lwW D cy t1 t2 p l e s m below meth c b 1403 (lwL i) [] l2 M2) : lwW D cy t1 t2 p l e s m below meth c b 999 (lwL i) [] lay M := by
  refine lw_load X dw_999 (k := 0) rfl ?_
  refine lw_call X (j := 121) (As := []) dw_1000 (by decide) (mW (mem4 (i := 51) rfl) rfl) rfl rfl rfl (by decide) (hOk _ _ _ hI).2.2.1 (Nat.le_of_ble_eq_true rfl) rfl (ha _ _ _ hc hI) (fun v l1 M1 hP => ?_) (fun v l1 M1 hP => ?_)
  · obtain ⟨v2, l2, M2, g1, g2, -, -, g3⟩ := mF_le hP.2
    have g4 := hOk _ _ _ g3
    exact ⟨Nat.le_trans g1 g4.1, Nat.le_trans g2 g4.2.1⟩
  obtain ⟨hs80, hP⟩ := hP
  refine lw_load X dw_1003 (k := 1) rfl ?_
  refine lw_call X (j := 160) (As := []) (rest := v.toList ++ []) dw_1004 (by decide) (mW (mem5 (i := 129) rfl) rfl) rfl rfl rfl (by decide) hs80 (mCat_opt v) rfl hP (fun v2 l2 M2 hP => ⟨(hOk _ _ _ hP.2.2).1, (hOk _ _ _ hP.2.2).2.1⟩) (fun v2 l2 M2 hP => ?_)
  obtain ⟨rfl, ⟨r, rfl⟩, hI2⟩ := hP
  exact lw_eqI X (t := 1403) dw_1007 (by decide) (kk _ _ hI2)
theorem lwc_29 (X : lwCx D cy t1 t2 p s m meth c b L xs) (hi : i + 5 < L) (hOk : mInvOk Inv) (hc : n < 512) (hI : Inv n lay M) (ha : mApiI Inv 122 216 [.int (xs (i + 1))]) (kk : ∀ l2 M2, Inv (n + 1) l2 M2 → lwW D cy t1 t2 p l e s m below meth c b 1403 (lwL i) [] l2 M2) : lwW D cy t1 t2 p l e s m below meth c b 1012 (lwL i) [] lay M := by
  refine lw_load X dw_1012 (k := 0) rfl ?_
  refine lw_arg X dw_1013 dw_1014 dw_1015 dw_1016 dw_1017 (k := 2) rfl (n := 1) (by omega) ?_
  refine lw_call X (j := 122) (As := [.int (xs (i + 1))]) dw_1018 (by decide) (mW (mem4 (i := 60) rfl) rfl) rfl rfl rfl (by decide) (hOk _ _ _ hI).2.2.1 (Nat.le_of_ble_eq_true rfl) rfl (ha _ _ _ hc hI) (fun v l1 M1 hP => ?_) (fun v l1 M1 hP => ?_)
  · obtain ⟨v2, l2, M2, g1, g2, -, -, g3⟩ := mF_le hP.2
    have g4 := hOk _ _ _ g3
    exact ⟨Nat.le_trans g1 g4.1, Nat.le_trans g2 g4.2.1⟩
  obtain ⟨hs80, hP⟩ := hP
  refine lw_load X dw_1021 (k := 1) rfl ?_
  refine lw_arg X dw_1022 dw_1023 dw_1024 dw_1025 dw_1026 (k := 2) rfl (n := 1) (by omega) ?_
  refine lw_call X (j := 216) (As := [.int (xs (i + 1))]) (rest := v.toList ++ []) dw_1027 (by decide) (mW (mem6 (i := 139) rfl) rfl) rfl rfl rfl (by decide) hs80 (mCat_opt v) rfl hP (fun v2 l2 M2 hP => ⟨(hOk _ _ _ hP.2.2).1, (hOk _ _ _ hP.2.2).2.1⟩) (fun v2 l2 M2 hP => ?_)
  obtain ⟨rfl, ⟨r, rfl⟩, hI2⟩ := hP
  exact lw_eqI X (t := 1403) dw_1030 (by decide) (kk _ _ hI2)
theorem lwc_30 (X : lwCx D cy t1 t2 p s m meth c b L xs) (hi : i + 5 < L) (hOk : mInvOk Inv) (hc : n < 512) (hI : Inv n lay M) (ha : mApiI Inv 123 219 [.int (xs (i + 1)), .int (xs (i + 2)), .int (xs (i + 3))]) (kk : ∀ l2 M2, Inv (n + 1) l2 M2 → lwW D cy t1 t2 p l e s m below meth c b 1403 (lwL i) [] l2 M2) : lwW D cy t1 t2 p l e s m below meth c b 1035 (lwL i) [] lay M := by
  refine lw_load X dw_1035 (k := 0) rfl ?_
  refine lw_arg X dw_1036 dw_1037 dw_1038 dw_1039 dw_1040 (k := 2) rfl (n := 1) (by omega) ?_
  refine lw_arg X dw_1041 dw_1042 dw_1043 dw_1044 dw_1045 (k := 2) rfl (n := 2) (by omega) ?_
  refine lw_arg X dw_1046 dw_1047 dw_1048 dw_1049 dw_1050 (k := 2) rfl (n := 3) (by omega) ?_
  refine lw_call X (j := 123) (As := [.int (xs (i + 1)), .int (xs (i + 2)), .int (xs (i + 3))]) dw_1051 (by decide) (mW (mem4 (i := 73) rfl) rfl) rfl rfl rfl (by decide) (hOk _ _ _ hI).2.2.1 (Nat.le_of_ble_eq_true rfl) rfl (ha _ _ _ hc hI) (fun v l1 M1 hP => ?_) (fun v l1 M1 hP => ?_)
  · obtain ⟨v2, l2, M2, g1, g2, -, -, g3⟩ := mF_le hP.2
    have g4 := hOk _ _ _ g3
    exact ⟨Nat.le_trans g1 g4.1, Nat.le_trans g2 g4.2.1⟩
  obtain ⟨hs80, hP⟩ := hP
  refine lw_load X dw_1054 (k := 1) rfl ?_
  refine lw_arg X dw_1055 dw_1056 dw_1057 dw_1058 dw_1059 (k := 2) rfl (n := 1) (by omega) ?_
  refine lw_arg X dw_1060 dw_1061 dw_1062 dw_1063 dw_1064 (k := 2) rfl (n := 2) (by omega) ?_
  refine lw_arg X dw_1065 dw_1066 dw_1067 dw_1068 dw_1069 (k := 2) rfl (n := 3) (by omega) ?_
  refine lw_call X (j := 219) (As := [.int (xs (i + 1)), .int (xs (i + 2)), .int (xs (i + 3))]) (rest := v.toList ++ []) dw_1070 (by decide) (mW (mem6 (i := 143) rfl) rfl) rfl rfl rfl (by decide) hs80 (mCat_opt v) rfl hP (fun v2 l2 M2 hP => ⟨(hOk _ _ _ hP.2.2).1, (hOk _ _ _ hP.2.2).2.1⟩) (fun v2 l2 M2 hP => ?_)
  obtain ⟨rfl, ⟨r, rfl⟩, hI2⟩ := hP
  exact lw_eqI X (t := 1403) dw_1073 (by decide) (kk _ _ hI2)
theorem lwc_31 (X : lwCx D cy t1 t2 p s m meth c b L xs) (hi : i + 5 < L) (hOk : mInvOk Inv) (hc : n < 512) (hI : Inv n lay M) (ha : mApiI Inv 124 220 [.int (xs (i + 1))]) (kk : ∀ l2 M2, Inv (n + 1) l2 M2 → lwW D cy t1 t2 p l e s m below meth c b 1403 (lwL i) [] l2 M2) : lwW D cy t1 t2 p l e s m below meth c b 1078 (lwL i) [] lay M := by
  refine lw_load X dw_1078 (k := 0) rfl ?_
  refine lw_arg X dw_1079 dw_1080 dw_1081 dw_1082 dw_1083 (k := 2) rfl (n := 1) (by omega) ?_
  refine lw_call X (j := 124) (As := [.int (xs (i + 1))]) dw_1084 (by decide) (mW (mem4 (i := 108) rfl) rfl) rfl rfl rfl (by decide) (hOk _ _ _ hI).2.2.1 (Nat.le_of_ble_eq_true rfl) rfl (ha _ _ _ hc hI) (fun v l1 M1 hP => ?_) (fun v l1 M1 hP => ?_)
  · obtain ⟨v2, l2, M2, g1, g2, -, -, g3⟩ := mF_le hP.2
    have g4 := hOk _ _ _ g3
    exact ⟨Nat.le_trans g1 g4.1, Nat.le_trans g2 g4.2.1⟩
  obtain ⟨hs80, hP⟩ := hP
  refine lw_load X dw_1087 (k := 1) rfl ?_
  refine lw_arg X dw_1088 dw_1089 dw_1090 dw_1091 dw_1092 (k := 2) rfl (n := 1) (by omega) ?_
  refine lw_call X (j := 220) (As := [.int (xs (i + 1))]) (rest := v.toList ++ []) dw_1093 (by decide) (mW (mem6 (i := 155) rfl) rfl) rfl rfl rfl (by decide) hs80 (mCat_opt v) rfl hP (fun v2 l2 M2 hP => ⟨(hOk _ _ _ hP.2.2).1, (hOk _ _ _ hP.2.2).2.1⟩) (fun v2 l2 M2 hP => ?_)
  obtain ⟨rfl, ⟨r, rfl⟩, hI2⟩ := hP
  exact lw_eqI X (t := 1403) dw_1096 (by decide) (kk _ _ hI2)
theorem lwc_32 (X : lwCx D cy t1 t2 p s m meth c b L xs) (hi : i + 5 < L) (hOk : mInvOk Inv) (hc : n < 512) (hI : Inv n lay M) (ha : mApiI Inv 125 221 [.int (xs (i + 1)), .int (xs (i + 2))]) (kk : ∀ l2 M2, Inv (n + 1) l2 M2 → lwW D cy t1 t2 p l e s m below meth c b 1403 (lwL i) [] l2 M2) : lwW D cy t1 t2 p l e s m below meth c b 1101 (lwL i) [] lay M := by
  refine lw_load X dw_1101 (k := 0) rfl ?_
  refine lw_arg X dw_1102 dw_1103 dw_1104 dw_1105 dw_1106 (k := 2) rfl (n := 1) (by omega) ?_
  refine lw_arg X dw_1107 dw_1108 dw_1109 dw_1110 dw_1111 (k := 2) rfl (n := 2) (by omega) ?_
  refine lw_call X (j := 125) (As := [.int (xs (i + 1)), .int (xs (i + 2))]) dw_1112 (by decide) (mW (mem4 (i := 117) rfl) rfl) rfl rfl rfl (by decide) (hOk _ _ _ hI).2.2.1 (Nat.le_of_ble_eq_true rfl) rfl (ha _ _ _ hc hI) (fun v l1 M1 hP => ?_) (fun v l1 M1 hP => ?_)
  · obtain ⟨v2, l2, M2, g1, g2, -, -, g3⟩ := mF_le hP.2
    have g4 := hOk _ _ _ g3
    exact ⟨Nat.le_trans g1 g4.1, Nat.le_trans g2 g4.2.1⟩
  obtain ⟨hs80, hP⟩ := hP
  refine lw_load X dw_1115 (k := 1) rfl ?_
  refine lw_arg X dw_1116 dw_1117 dw_1118 dw_1119 dw_1120 (k := 2) rfl (n := 1) (by omega) ?_
  refine lw_arg X dw_1121 dw_1122 dw_1123 dw_1124 dw_1125 (k := 2) rfl (n := 2) (by omega) ?_
  refine lw_call X (j := 221) (As := [.int (xs (i + 1)), .int (xs (i + 2))]) (rest := v.toList ++ []) dw_1126 (by decide) (mW (mem6 (i := 159) rfl) rfl) rfl rfl rfl (by decide) hs80 (mCat_opt v) rfl hP (fun v2 l2 M2 hP => ⟨(hOk _ _ _ hP.2.2).1, (hOk _ _ _ hP.2.2).2.1⟩) (fun v2 l2 M2 hP => ?_)
  obtain ⟨rfl, ⟨r, rfl⟩, hI2⟩ := hP
  exact lw_eqI X (t := 1403) dw_1129 (by decide) (kk _ _ hI2)
theorem lwc_33 (X : lwCx D cy t1 t2 p s m meth c b L xs) (hi : i + 5 < L) (hOk : mInvOk Inv) (hc : n < 512) (hI : Inv n lay M) (ha : mApiI Inv 126 222 [.int (xs (i + 1)), .int (xs (i + 2)), .int (xs (i + 3))]) (kk : ∀ l2 M2, Inv (n + 1) l2 M2 → lwW D cy t1 t2 p l e s m below meth c b 1403 (lwL i) [] l2 M2) : lwW D cy t1 t2 p l e s m below meth c b 1134 (lwL i) [] lay M := by
  refine lw_load X dw_1134 (k := 0) rfl ?_
  refine lw_arg X dw_1135 dw_1136 dw_1137 dw_1138 dw_1139 (k := 2) rfl (n := 1) (by omega) ?_
  refine lw_arg X dw_1140 dw_1141 dw_1142 dw_1143 dw_1144 (k := 2) rfl (n := 2) (by omega) ?_
  refine lw_arg X dw_1145 dw_1146 dw_1147 dw_1148 dw_1149 (k := 2) rfl (n := 3) (by omega) ?_
  refine lw_call X (j := 126) (As := [.int (xs (i + 1)), .int (xs (i + 2)), .int (xs (i + 3))]) dw_1150 (by decide) (mW (mem4 (i := 130) rfl) rfl) rfl rfl rfl (by decide) (hOk _ _ _ hI).2.2.1 (Nat.le_of_ble_eq_true rfl) rfl (ha _ _ _ hc hI) (fun v l1 M1 hP => ?_) (fun v l1 M1 hP => ?_)
  · obtain ⟨v2, l2, M2, g1, g2, -, -, g3⟩ := mF_le hP.2
    have g4 := hOk _ _ _ g3
    exact ⟨Nat.le_trans g1 g4.1, Nat.le_trans g2 g4.2.1⟩
  obtain ⟨hs80, hP⟩ := hP
  refine lw_load X dw_1153 (k := 1) rfl ?_
  refine lw_arg X dw_1154 dw_1155 dw_1156 dw_1157 dw_1158 (k := 2) rfl (n := 1) (by omega) ?_
  refine lw_arg X dw_1159 dw_1160 dw_1161 dw_1162 dw_1163 (k := 2) rfl (n := 2) (by omega) ?_
  refine lw_arg X dw_1164 dw_1165 dw_1166 dw_1167 dw_1168 (k := 2) rfl (n := 3) (by omega) ?_
  refine lw_call X (j := 222) (As := [.int (xs (i + 1)), .int (xs (i + 2)), .int (xs (i + 3))]) (rest := v.toList ++ []) dw_1169 (by decide) (mW (mem6 (i := 163) rfl) rfl) rfl rfl rfl (by decide) hs80 (mCat_opt v) rfl hP (fun v2 l2 M2 hP => ⟨(hOk _ _ _ hP.2.2).1, (hOk _ _ _ hP.2.2).2.1⟩) (fun v2 l2 M2 hP => ?_)
  obtain ⟨rfl, ⟨r, rfl⟩, hI2⟩ := hP
  exact lw_eqI X (t := 1403) dw_1172 (by decide) (kk _ _ hI2)
theorem lwc_34 (X : lwCx D cy t1 t2 p s m meth c b L xs) (hi : i + 5 < L) (hOk : mInvOk Inv) (hc : n < 512) (hI : Inv n lay M) (ha : mApiI Inv 127 224 [.int (xs (i + 1)), .int (xs (i + 2)), .long (((xs (i + 3)).toInt64 <<< ((32 : Int32).toInt64 &&& 63)) ||| ((xs (i + 4)).toInt64 &&& 4294967295))]) (kk : ∀ l2 M2, Inv (n + 1) l2 M2 → lwW D cy t1 t2 p l e s m below meth c b 1403 (lwL i) [] l2 M2) : lwW D cy t1 t2 p l e s m below meth c b 1177 (lwL i) [] lay M := by
  refine lw_load X dw_1177 (k := 0) rfl ?_
  refine lw_arg X dw_1178 dw_1179 dw_1180 dw_1181 dw_1182 (k := 2) rfl (n := 1) (by omega) ?_
  refine lw_arg X dw_1183 dw_1184 dw_1185 dw_1186 dw_1187 (k := 2) rfl (n := 2) (by omega) ?_
  refine lw_arg X dw_1188 dw_1189 dw_1190 dw_1191 dw_1192 (k := 2) rfl (n := 3) (by omega) ?_
  refine lw_long X dw_1193 dw_1194 dw_1196 dw_1197 dw_1198 dw_1199 dw_1200 dw_1201 dw_1202 dw_1203 (mW (mem6 (i := 191) rfl) rfl) dw_1206 dw_1207 (k := 2) rfl (n2 := 4) (by omega) ?_
  refine lw_call X (j := 127) (As := [.int (xs (i + 1)), .int (xs (i + 2)), .long (((xs (i + 3)).toInt64 <<< ((32 : Int32).toInt64 &&& 63)) ||| ((xs (i + 4)).toInt64 &&& 4294967295))]) dw_1208 (by decide) (mW (mem4 (i := 138) rfl) rfl) rfl rfl rfl (by decide) (hOk _ _ _ hI).2.2.1 (Nat.le_of_ble_eq_true rfl) rfl (ha _ _ _ hc hI) (fun v l1 M1 hP => ?_) (fun v l1 M1 hP => ?_)
  · obtain ⟨v2, l2, M2, g1, g2, -, -, g3⟩ := mF_le hP.2
    have g4 := hOk _ _ _ g3
    exact ⟨Nat.le_trans g1 g4.1, Nat.le_trans g2 g4.2.1⟩
  obtain ⟨hs80, hP⟩ := hP
  refine lw_load X dw_1211 (k := 1) rfl ?_
  refine lw_arg X dw_1212 dw_1213 dw_1214 dw_1215 dw_1216 (k := 2) rfl (n := 1) (by omega) ?_
  refine lw_arg X dw_1217 dw_1218 dw_1219 dw_1220 dw_1221 (k := 2) rfl (n := 2) (by omega) ?_
  refine lw_arg X dw_1222 dw_1223 dw_1224 dw_1225 dw_1226 (k := 2) rfl (n := 3) (by omega) ?_
  refine lw_long X dw_1227 dw_1228 dw_1230 dw_1231 dw_1232 dw_1233 dw_1234 dw_1235 dw_1236 dw_1237 (mW (mem6 (i := 191) rfl) rfl) dw_1240 dw_1241 (k := 2) rfl (n2 := 4) (by omega) ?_
  refine lw_call X (j := 224) (As := [.int (xs (i + 1)), .int (xs (i + 2)), .long (((xs (i + 3)).toInt64 <<< ((32 : Int32).toInt64 &&& 63)) ||| ((xs (i + 4)).toInt64 &&& 4294967295))]) (rest := v.toList ++ []) dw_1242 (by decide) (mW (mem6 (i := 167) rfl) rfl) rfl rfl rfl (by decide) hs80 (mCat_opt v) rfl hP (fun v2 l2 M2 hP => ⟨(hOk _ _ _ hP.2.2).1, (hOk _ _ _ hP.2.2).2.1⟩) (fun v2 l2 M2 hP => ?_)
  obtain ⟨rfl, ⟨r, rfl⟩, hI2⟩ := hP
  exact lw_eqI X (t := 1403) dw_1245 (by decide) (kk _ _ hI2)
theorem lwc_35 (X : lwCx D cy t1 t2 p s m meth c b L xs) (hi : i + 5 < L) (hOk : mInvOk Inv) (hc : n < 512) (hI : Inv n lay M) (ha : mApiL Inv 128 225 [.int (xs (i + 1)), .int (xs (i + 2))]) (kk : ∀ l2 M2, Inv (n + 1) l2 M2 → lwW D cy t1 t2 p l e s m below meth c b 1403 (lwL i) [] l2 M2) : lwW D cy t1 t2 p l e s m below meth c b 1250 (lwL i) [] lay M := by
  refine lw_load X dw_1250 (k := 0) rfl ?_
  refine lw_arg X dw_1251 dw_1252 dw_1253 dw_1254 dw_1255 (k := 2) rfl (n := 1) (by omega) ?_
  refine lw_arg X dw_1256 dw_1257 dw_1258 dw_1259 dw_1260 (k := 2) rfl (n := 2) (by omega) ?_
  refine lw_call X (j := 128) (As := [.int (xs (i + 1)), .int (xs (i + 2))]) dw_1261 (by decide) (mW (mem4 (i := 157) rfl) rfl) rfl rfl rfl (by decide) (hOk _ _ _ hI).2.2.1 (Nat.le_of_ble_eq_true rfl) rfl (ha _ _ _ hc hI) (fun v l1 M1 hP => ?_) (fun v l1 M1 hP => ?_)
  · obtain ⟨v2, l2, M2, g1, g2, -, -, g3⟩ := mF_le hP.2
    have g4 := hOk _ _ _ g3
    exact ⟨Nat.le_trans g1 g4.1, Nat.le_trans g2 g4.2.1⟩
  obtain ⟨hs80, hP⟩ := hP
  refine lw_load X dw_1264 (k := 1) rfl ?_
  refine lw_arg X dw_1265 dw_1266 dw_1267 dw_1268 dw_1269 (k := 2) rfl (n := 1) (by omega) ?_
  refine lw_arg X dw_1270 dw_1271 dw_1272 dw_1273 dw_1274 (k := 2) rfl (n := 2) (by omega) ?_
  refine lw_call X (j := 225) (As := [.int (xs (i + 1)), .int (xs (i + 2))]) (rest := v.toList ++ []) dw_1275 (by decide) (mW (mem6 (i := 175) rfl) rfl) rfl rfl rfl (by decide) hs80 (mCat_opt v) rfl hP (fun v2 l2 M2 hP => ⟨(hOk _ _ _ hP.2.2).1, (hOk _ _ _ hP.2.2).2.1⟩) (fun v2 l2 M2 hP => ?_)
  obtain ⟨rfl, ⟨r, rfl⟩, hI2⟩ := hP
  exact lw_eqL X (t := 1403) dw_1278 dw_1279 (by decide) (kk _ _ hI2)
theorem lwc_36 (X : lwCx D cy t1 t2 p s m meth c b L xs) (hi : i + 5 < L) (hOk : mInvOk Inv) (hc : n < 512) (hI : Inv n lay M) (ha : mApiI Inv 129 226 [.int (xs (i + 1)), .int (xs (i + 2)), .int (xs (i + 3)), .int (xs (i + 4)), .int (xs (i + 5))]) (kk : ∀ l2 M2, Inv (n + 1) l2 M2 → lwW D cy t1 t2 p l e s m below meth c b 1403 (lwL i) [] l2 M2) : lwW D cy t1 t2 p l e s m below meth c b 1284 (lwL i) [] lay M := by
  refine lw_load X dw_1284 (k := 0) rfl ?_
  refine lw_arg X dw_1285 dw_1286 dw_1287 dw_1288 dw_1289 (k := 2) rfl (n := 1) (by omega) ?_
  refine lw_arg X dw_1290 dw_1291 dw_1292 dw_1293 dw_1294 (k := 2) rfl (n := 2) (by omega) ?_
  refine lw_arg X dw_1295 dw_1296 dw_1297 dw_1298 dw_1299 (k := 2) rfl (n := 3) (by omega) ?_
  refine lw_arg X dw_1300 dw_1301 dw_1302 dw_1303 dw_1304 (k := 2) rfl (n := 4) (by omega) ?_
  refine lw_arg X dw_1305 dw_1306 dw_1307 dw_1308 dw_1309 (k := 2) rfl (n := 5) (by omega) ?_
  refine lw_call X (j := 129) (As := [.int (xs (i + 1)), .int (xs (i + 2)), .int (xs (i + 3)), .int (xs (i + 4)), .int (xs (i + 5))]) dw_1310 (by decide) (mW (mem4 (i := 161) rfl) rfl) rfl rfl rfl (by decide) (hOk _ _ _ hI).2.2.1 (Nat.le_of_ble_eq_true rfl) rfl (ha _ _ _ hc hI) (fun v l1 M1 hP => ?_) (fun v l1 M1 hP => ?_)
  · obtain ⟨v2, l2, M2, g1, g2, -, -, g3⟩ := mF_le hP.2
    have g4 := hOk _ _ _ g3
    exact ⟨Nat.le_trans g1 g4.1, Nat.le_trans g2 g4.2.1⟩
  obtain ⟨hs80, hP⟩ := hP
  refine lw_load X dw_1313 (k := 1) rfl ?_
  refine lw_arg X dw_1314 dw_1315 dw_1316 dw_1317 dw_1318 (k := 2) rfl (n := 1) (by omega) ?_
  refine lw_arg X dw_1319 dw_1320 dw_1321 dw_1322 dw_1323 (k := 2) rfl (n := 2) (by omega) ?_
  refine lw_arg X dw_1324 dw_1325 dw_1326 dw_1327 dw_1328 (k := 2) rfl (n := 3) (by omega) ?_
  refine lw_arg X dw_1329 dw_1330 dw_1331 dw_1332 dw_1333 (k := 2) rfl (n := 4) (by omega) ?_
  refine lw_arg X dw_1334 dw_1335 dw_1336 dw_1337 dw_1338 (k := 2) rfl (n := 5) (by omega) ?_
  refine lw_call X (j := 226) (As := [.int (xs (i + 1)), .int (xs (i + 2)), .int (xs (i + 3)), .int (xs (i + 4)), .int (xs (i + 5))]) (rest := v.toList ++ []) dw_1339 (by decide) (mW (mem6 (i := 179) rfl) rfl) rfl rfl rfl (by decide) hs80 (mCat_opt v) rfl hP (fun v2 l2 M2 hP => ⟨(hOk _ _ _ hP.2.2).1, (hOk _ _ _ hP.2.2).2.1⟩) (fun v2 l2 M2 hP => ?_)
  obtain ⟨rfl, ⟨r, rfl⟩, hI2⟩ := hP
  exact lw_eqI X (t := 1403) dw_1342 (by decide) (kk _ _ hI2)
theorem lwc_37 (X : lwCx D cy t1 t2 p s m meth c b L xs) (hi : i + 5 < L) (hOk : mInvOk Inv) (hc : n < 512) (hI : Inv n lay M) (ha : mApiI Inv 130 227 [.int (xs (i + 1)), .int (xs (i + 2))]) (kk : ∀ l2 M2, Inv (n + 1) l2 M2 → lwW D cy t1 t2 p l e s m below meth c b 1403 (lwL i) [] l2 M2) : lwW D cy t1 t2 p l e s m below meth c b 1347 (lwL i) [] lay M := by
  refine lw_load X dw_1347 (k := 0) rfl ?_
  refine lw_arg X dw_1348 dw_1349 dw_1350 dw_1351 dw_1352 (k := 2) rfl (n := 1) (by omega) ?_
  refine lw_arg X dw_1353 dw_1354 dw_1355 dw_1356 dw_1357 (k := 2) rfl (n := 2) (by omega) ?_
  refine lw_call X (j := 130) (As := [.int (xs (i + 1)), .int (xs (i + 2))]) dw_1358 (by decide) (mW (mem4 (i := 178) rfl) rfl) rfl rfl rfl (by decide) (hOk _ _ _ hI).2.2.1 (Nat.le_of_ble_eq_true rfl) rfl (ha _ _ _ hc hI) (fun v l1 M1 hP => ?_) (fun v l1 M1 hP => ?_)
  · obtain ⟨v2, l2, M2, g1, g2, -, -, g3⟩ := mF_le hP.2
    have g4 := hOk _ _ _ g3
    exact ⟨Nat.le_trans g1 g4.1, Nat.le_trans g2 g4.2.1⟩
  obtain ⟨hs80, hP⟩ := hP
  refine lw_load X dw_1361 (k := 1) rfl ?_
  refine lw_arg X dw_1362 dw_1363 dw_1364 dw_1365 dw_1366 (k := 2) rfl (n := 1) (by omega) ?_
  refine lw_arg X dw_1367 dw_1368 dw_1369 dw_1370 dw_1371 (k := 2) rfl (n := 2) (by omega) ?_
  refine lw_call X (j := 227) (As := [.int (xs (i + 1)), .int (xs (i + 2))]) (rest := v.toList ++ []) dw_1372 (by decide) (mW (mem6 (i := 183) rfl) rfl) rfl rfl rfl (by decide) hs80 (mCat_opt v) rfl hP (fun v2 l2 M2 hP => ⟨(hOk _ _ _ hP.2.2).1, (hOk _ _ _ hP.2.2).2.1⟩) (fun v2 l2 M2 hP => ?_)
  obtain ⟨rfl, ⟨r, rfl⟩, hI2⟩ := hP
  exact lw_eqI X (t := 1403) dw_1375 (by decide) (kk _ _ hI2)
theorem lwc_38 (X : lwCx D cy t1 t2 p s m meth c b L xs) (hi : i + 5 < L) (hOk : mInvOk Inv) (hc : n < 512) (hI : Inv n lay M) (ha : mApiI Inv 131 228 [.int (xs (i + 1))]) (kk : ∀ l2 M2, Inv (n + 1) l2 M2 → lwW D cy t1 t2 p l e s m below meth c b 1403 (lwL i) [] l2 M2) : lwW D cy t1 t2 p l e s m below meth c b 1380 (lwL i) [] lay M := by
  refine lw_load X dw_1380 (k := 0) rfl ?_
  refine lw_arg X dw_1381 dw_1382 dw_1383 dw_1384 dw_1385 (k := 2) rfl (n := 1) (by omega) ?_
  refine lw_call X (j := 131) (As := [.int (xs (i + 1))]) dw_1386 (by decide) (mW (mem4 (i := 186) rfl) rfl) rfl rfl rfl (by decide) (hOk _ _ _ hI).2.2.1 (Nat.le_of_ble_eq_true rfl) rfl (ha _ _ _ hc hI) (fun v l1 M1 hP => ?_) (fun v l1 M1 hP => ?_)
  · obtain ⟨v2, l2, M2, g1, g2, -, -, g3⟩ := mF_le hP.2
    have g4 := hOk _ _ _ g3
    exact ⟨Nat.le_trans g1 g4.1, Nat.le_trans g2 g4.2.1⟩
  obtain ⟨hs80, hP⟩ := hP
  refine lw_load X dw_1389 (k := 1) rfl ?_
  refine lw_arg X dw_1390 dw_1391 dw_1392 dw_1393 dw_1394 (k := 2) rfl (n := 1) (by omega) ?_
  refine lw_call X (j := 228) (As := [.int (xs (i + 1))]) (rest := v.toList ++ []) dw_1395 (by decide) (mW (mem6 (i := 187) rfl) rfl) rfl rfl rfl (by decide) hs80 (mCat_opt v) rfl hP (fun v2 l2 M2 hP => ⟨(hOk _ _ _ hP.2.2).1, (hOk _ _ _ hP.2.2).2.1⟩) (fun v2 l2 M2 hP => ?_)
  obtain ⟨rfl, ⟨r, rfl⟩, hI2⟩ := hP
  exact lw_eqI X (t := 1403) dw_1398 (by decide) (kk _ _ hI2)
end LWC
