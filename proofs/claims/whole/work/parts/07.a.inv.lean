/-! ===== the invariant: class and reference side by side. Pieces speak of rows (I r : Nat → Int32) and single places, so that what a call doesn't write is carried over by rewriting ===== -/
def vNum (w : Nat) (n : Nat) (i : Nat) (v : Int) : Prop := (w = 0 → 0 ≤ v ∧ v ≤ 35) ∧ (w = 1 → 0 ≤ v ∧ v ≤ 9) ∧ (w = 2 → 0 ≤ v ∧ v ≤ 9) ∧ (w = 3 → 0 ≤ v ∧ v ≤ 99) ∧ (w = 4 → -1 ≤ v ∧ v < n ∧ v ≠ i)
/-- the town: n people, T w i the number w (0 place, 1 gives, 2 needs, 3 store, 4 whom) of i; T 5 0 wind, T 6 0 day -/
def vTownOk (n : Nat) (T : Nat → Nat → Int) : Prop := n ≤ 8 ∧ (∀ i, i < n → ∀ w, w < 5 → vNum w n i (T w i)) ∧ (0 ≤ T 5 0 ∧ T 5 0 ≤ 9) ∧ (0 ≤ T 6 0 ∧ T 6 0 ≤ 99)
/-- its rows in the class: places, gives, needs, stores, whom; many, wind, today -/
def vTownC (n : Nat) (T : Nat → Nat → Int) (p g d s w : Nat → Int32) (m wi to : Int32) : Prop := (∀ i, i < n → p i = jI (T 0 i) ∧ g i = jI (T 1 i) ∧ d i = jI (T 2 i) ∧ s i = jI (T 3 i) ∧ w i = jI (T 4 i)) ∧ m = jI n ∧ wi = jI (T 5 0) ∧ to = jI (T 6 0)
/-- its row in the reference -/
def vTownR (n : Nat) (T : Nat → Nat → Int) (now : Nat → Int32) (m : Int32) : Prop := (∀ i, i < n → ∀ w, w < 5 → now (5 * i + w) = jI (T w i)) ∧ now 40 = jI (T 5 0) ∧ now 41 = jI (T 6 0) ∧ m = jI n
def vLed (a b : Nat → Int32) : Prop := ∀ j, j < 5 → a j = b j
def vImg (n : Nat) (hc hr : Int32) (p1 p2 p3 p4 p5 : Nat → Int32) (pm pw pt : Int32) (kept : Nat → Int32) (km : Int32) (pl kl : Nat → Int32) : Prop := (hc = jI 0 ∧ hr = jI 0) ∨ (hc = jI 1 ∧ hr = jI 1 ∧ ∃ (pn : Nat) (Tp : Nat → Nat → Int), pn ≤ n ∧ vTownOk pn Tp ∧ vTownC pn Tp p1 p2 p3 p4 p5 pm pw pt ∧ vTownR pn Tp kept km ∧ vLed pl kl)
/-- a change: whose, which, what it was or became -/
def vChg (n : Nat) (num what v : Int) : Prop := (0 ≤ what ∧ what ≤ 4 ∧ 0 ≤ num ∧ num < n ∧ vNum what.toNat n num.toNat v) ∨ (what = 5 ∧ num = 0 ∧ 0 ≤ v ∧ v ≤ 9) ∨ (what = 6 ∧ num = 0 ∧ 0 ≤ v ∧ v ≤ 99)
def vCode (num what : Int) : Int := if what < 5 then 5 * num + what else 35 + what
def vChgs (n : Nat) (dc kc dr kr : Int32) (num what was bec chd old yng : Nat → Int32) : Prop := ∃ dn kn : Nat, dn ≤ kn ∧ kn ≤ 40 ∧ dc = jI dn ∧ dr = jI dn ∧ kc = jI kn ∧ kr = jI kn ∧ ∀ j, j < kn → ∃ a b v w : Int, num j = jI a ∧ what j = jI b ∧ was j = jI v ∧ old j = jI v ∧ bec j = jI w ∧ yng j = jI w ∧ chd j = jI (vCode a b) ∧ vChg n a b v ∧ vChg n a b w
def vTape (lc lr : Int32) (tc tr : Nat → Int32) : Prop := ∃ tl : Nat, tl ≤ 120 ∧ lc = jI tl ∧ lr = jI tl ∧ ∀ j, j < tl → ∃ b : Int, 0 ≤ b ∧ b ≤ 255 ∧ tc j = jI b ∧ tr j = jI b
def vBod (mc mr : Int32) (kc kr : Nat → Int32) (rc rr : Int32) (sc sr : Nat → Int32) (ab ac : Nat → Int32) (bn : Nat) : Prop := bn ≤ 50 ∧ mc = jI bn ∧ mr = jI bn ∧ (∀ j, j < bn → ∃ k : Int, 0 ≤ k ∧ k ≤ 7 ∧ kc j = jI k ∧ kr j = jI k) ∧ (∃ rn : Nat, rn ≤ 1000 ∧ rc = jI rn ∧ rr = jI rn ∧ ∀ j, j < 24 → j < rn → sc j = sr j) ∧ (∀ j, j < 8 → ab j = mAb j) ∧ (∀ j, j < 32 → ac j = mBo j)
def vShl (bn : Nat) (hc zc hr zr : Nat → Int32) (ec er : Nat → Int64) : Prop := (∀ s, s < 6 → (hc s = jI 6 ∧ hr s = jI (-1)) ∨ (hc s = jI 5 ∧ ∃ b : Nat, b < bn ∧ zc s = jI b ∧ hr s = jI (10 + b)) ∨ (∃ (h : Int) (z : Nat), 0 ≤ h ∧ h ≤ 4 ∧ z ≤ 60 ∧ hc s = jI h ∧ hr s = jI h ∧ zc s = jI z ∧ zr s = jI z ∧ (h = 0 → ∀ i, i < 60 → ∃ y : Int, -128 ≤ y ∧ y ≤ 127 ∧ ec (60 * s + i) = Int64.ofInt y))) ∧ ∀ q, q < 360 → ec q = er q
/-- the same off some places -/
def vAg (R : Nat → Nat → Prop) (I I' : Nat → Nat → Int32) : Prop := ∀ r j, ¬ R r j → I' r j = I r j
theorem vAg_rfl {R : Nat → Nat → Prop} {I : Nat → Nat → Int32} : vAg R I I := fun _ _ _ => rfl
theorem vAg_iU {R : Nat → Nat → Prop} {I I' : Nat → Nat → Int32} {k j : Nat} {x : Int32} (h : vAg R I I') (hk : R k j) : vAg R I (iU I' k j x) := fun r q hr => by
  by_cases e : r = k ∧ q = j
  · exact absurd (by rw [e.1, e.2]; exact hk) hr
  · rw [iU_ne e]
    exact h r q hr
theorem vAg_tr {R : Nat → Nat → Prop} {I I' I'' : Nat → Nat → Int32} (h : vAg R I I') (h' : vAg R I' I'') : vAg R I I'' := fun r j hr => (h' r j hr).trans (h r j hr)
theorem vAg_mono {R S : Nat → Nat → Prop} {I I' : Nat → Nat → Int32} (h : vAg R I I') (hs : ∀ r j, R r j → S r j) : vAg S I I' := fun r j hr => h r j (fun q => hr (hs r j q))
theorem vAg_row {R : Nat → Nat → Prop} {I I' : Nat → Nat → Int32} {r : Nat} (h : vAg R I I') (hr : ∀ j, ¬ R r j) : I' r = I r := by
  funext j
  exact h r j (hr j)
/-- what comes, by what is given, how far, what is needed, how many carers, the store, the day: held within 0 and 20 -/
abbrev vLw : Type := Int → Int → Int → Int → Int → Int → Int
def pHold (v m : Int) : Int := if v < 0 then 0 else if m < v then m else v
def vLo (lay : List mShp) (F : Nat → Nat → Nat) (l : Nat) : Prop := (¬ l = 0) ∧ mSh lay l = some (4, 5) ∧ mSh lay (l + 1) = some (0, 128) ∧ mSh lay (l + 2) = some (0, 128) ∧ mSh lay (l + 3) = some (0, 48) ∧ mSh lay (l + 4) = some (0, 6) ∧ F l 0 = l + 1 ∧ F l 1 = l + 2 ∧ F l 3 = l + 3 ∧ F l 4 = l + 4
def vIn (g q n k s t : Int) : Prop := (0 ≤ g ∧ g ≤ 9) ∧ (0 ≤ q ∧ q ≤ 10) ∧ (0 ≤ n ∧ n ≤ 9) ∧ (0 ≤ k ∧ k ≤ 8) ∧ (0 ≤ s ∧ s ≤ 99) ∧ (0 ≤ t ∧ t ≤ 99)
/-- the law's steps give lw: what its gift answers -/
def vLawC (lw : vLw) (steps wth : Nat → Int32) (size : Int32) : Prop := (∀ g q n k s t, 0 ≤ lw g q n k s t ∧ lw g q n k s t ≤ 20) ∧ ∀ (lay : List mShp) (F : Nat → Nat → Nat) (l : Nat) (I : Nat → Nat → Int32) (E : Nat → Nat → Int64) (d : Nat) (P : mPost) (g q n k s t : Int), vLo lay F l → I (l + 1) = steps → I (l + 2) = wth → I l 2 = size → vIn g q n k s t → (∀ I', vAg (fun r _ => r = l + 3 ∨ r = l + 4) I I' → P (some (.int (Int32.ofInt (lw g q n k s t)))) lay (I', E, F)) → mF (d + 3) 8 [.ref l, .int (Int32.ofInt g), .int (Int32.ofInt q), .int (Int32.ofInt n), .int (Int32.ofInt k), .int (Int32.ofInt s), .int (Int32.ofInt t)] lay (I, E, F) P
/-- what the reference's evaluation writes -/
def vScR (r j : Nat) : Prop := r = 88 ∨ (r = 80 ∧ 14 ≤ j ∧ j ≤ 17)
/-- the text gives lw: what comesBy answers, held -/
def vLawR (lw : vLw) (text : Nat → Int32) (texted isLaw : Int32) (lets : Nat → Int32) : Prop := ∀ (e : List mShp) (F : Nat → Nat → Nat) (st nx gf rl dr : Nat) (I : Nat → Nat → Int32) (E : Nat → Nat → Int64) (d : Nat) (P : mPost) (g q n k s t : Int), mFx F st nx gf rl dr → I 90 = lets → I 87 = text → I 80 11 = texted → I 80 12 = isLaw → I 89 0 = Int32.ofInt g → I 89 1 = Int32.ofInt q → I 89 2 = Int32.ofInt n → I 89 3 = Int32.ofInt k → I 89 4 = Int32.ofInt s → I 89 5 = Int32.ofInt t → vIn g q n k s t → (∀ I' z, vAg vScR I I' → -2147483648 ≤ z → z ≤ 2147483647 → pHold z 20 = lw g q n k s t → P (some (.int (Int32.ofInt z))) (mLay e) (I', E, F)) → mF (d + 70) 174 [.ref 80] (mLay e) (I, E, F) P
/-- how many of the first m care for j -/
def pCar (T : Nat → Nat → Int) (j : Nat) : Nat → Nat
  | 0 => 0
  | m + 1 => pCar T j m + if T 4 m = j then 1 else 0
def pAbs (z : Int) : Int := if 0 ≤ z then z else 0 - z
/-- how far two places lie from each other -/
def pFar (a b : Int) : Int := pAbs (a - a / 6 * 6 - (b - b / 6 * 6)) + pAbs (a / 6 - b / 6)
/-- what comes from one -/
def pCome (lw : vLw) (n : Nat) (T : Nat → Nat → Int) (i : Nat) : Int := if T 4 i = -1 ∨ T 3 i = 0 then 0 else lw (T 1 i) (pFar (T 0 i) (T 0 (T 4 i).toNat)) (T 2 (T 4 i).toNat) (pCar T (T 4 i).toNat n) (T 3 i) (T 6 0)
/-- what comes to j from the first m; what comes from the first m -/
def pIn (lw : vLw) (n : Nat) (T : Nat → Nat → Int) (j : Nat) : Nat → Int
  | 0 => 0
  | m + 1 => pIn lw n T j m + if T 4 m = j then pCome lw n T m else 0
def pLost (n : Nat) (T : Nat → Nat → Int) (j : Nat) : Int := T 2 j + if pCar T j n = 0 then T 5 0 else 0
def pNew (lw : vLw) (n : Nat) (T : Nat → Nat → Int) (j : Nat) : Int := pHold (T 3 j + pIn lw n T j n - pLost n T j) 99
/-- the town a day later -/
def pDay (lw : vLw) (n : Nat) (T : Nat → Nat → Int) : Nat → Nat → Int := fun w j => if w = 3 then pNew lw n T j else if w = 6 then (if 99 < T 6 0 + 1 then 99 else T 6 0 + 1) else T w j
/-- days, one after the other -/
def pDays (lw : vLw) (n : Nat) (T : Nat → Nat → Int) : Nat → Nat → Nat → Int
  | 0 => T
  | m + 1 => pDay lw n (pDays lw n T m)
/-- all stores -/
def pSum (T : Nat → Nat → Int) : Nat → Int
  | 0 => 0
  | m + 1 => pSum T m + T 3 m
def pBt (b i : Nat) : Bool := (b / 2 ^ i) % 2 == 1
/-- the search over all ways in which each cares for another one, each cared for once: abstract in what a leaf does -/
def qUp (w : Nat → Nat) (i v : Nat) : Nat → Nat := fun j => if j = i then v else w j
def qLp {α : Type} (f : Nat → α → α) : Nat → α → α
  | 0, st => st
  | m + 1, st => f m (qLp f m st)
def qFree (who b i : Nat) : Bool := !(i == who) && !(pBt b i)
def qOth (T : Nat → Nat → Int) (who i : Nat) : Int := if T 4 who = i then 0 else 1
def qSr {α : Type} (lf : (Nat → Nat) → Int → α → α) (T : Nat → Nat → Int) (n : Nat) : Nat → Nat → (Nat → Nat) → Nat → Int → α → α
  | 0, _, w, _, oth, st => lf w oth st
  | k + 1, who, w, b, oth, st => qLp (fun i st => if qFree who b i = true then qSr lf T n k (who + 1) (qUp w who i) (b ||| 2 ^ i) (oth + qOth T who i) st else st) n st
abbrev qSt : Type := Int × Int × (Nat → Nat)
def qTk (few most : Int) (w : Nat → Nat) (st : qSt) : qSt := if few < st.1 ∨ (few = st.1 ∧ st.2.1 < most) then (few, most, w) else st
/-- one ring of all -/
def qRg (w : Nat → Nat) : Nat → Nat → Bool
  | 0, x => w x == 0
  | k + 1, x => if w x = 0 then false else qRg w k (w x)
def qWho (T : Nat → Nat → Int) (n : Nat) (w : Nat → Nat) : Nat → Nat → Int := fun k j => if k = 4 ∧ j < n then ((w j : Nat) : Int) else T k j
/-- how many lack -/
def qLn (T : Nat → Nat → Int) : Nat → Int
  | 0 => 0
  | m + 1 => qLn T m + if T 3 m = 0 then 1 else 0
def qLf (lw : vLw) (n : Nat) (T : Nat → Nat → Int) (h : Nat) (w : Nat → Nat) (st : qSt) : qSt := if qRg w (n - 1) 0 = true then qTk (qLn (pDays lw n (qWho T n w) h) n) (pSum (pDays lw n (qWho T n w) h) n) w st else st
/-- what round finds -/
def qRd (lw : vLw) (n : Nat) (T : Nat → Nat → Int) (h : Nat) : qSt := qSr (fun w _ st => qLf lw n T h w st) T n n 0 (fun _ => 0) 0 0 (2147483647, -1, fun _ => 0)
/-- what rings remember: the gifts' row holds stamps up to the latest; what is held is what the full search finds -/
def vRing (c n : Nat) (T : Nat → Nat → Int) (lw : vLw) (best : Nat → Int32) (few most held stamp : Int32) (gf : Nat) (gifts : Nat → Int32) : Prop := (∃ sn : Nat, stamp = jI sn ∧ sn ≤ c ∧ (gf = 105 → ∀ s, s < 38400 → ∃ g : Nat, gifts s = jI g ∧ g < 32 * (sn + 1))) ∧ (held = jI (-1) ∨ ∃ h : Nat, h ≤ 6 ∧ held = jI h ∧ 2 ≤ n ∧ few = jI (qRd lw n T h).1 ∧ most = jI (qRd lw n T h).2.1 ∧ ∀ j, j < n → best j = jI ((qRd lw n T h).2.2 j))
def vLet (a : Nat → Int32) : Prop := a 0 = jI 103 ∧ a 1 = jI 100 ∧ a 2 = jI 110 ∧ a 3 = jI 107 ∧ a 4 = jI 115 ∧ a 5 = jI 116
def vInv (c : Nat) (e : List mShp) (I : Nat → Nat → Int32) (E : Nat → Nat → Int64) (F : Nat → Nat → Nat) (st nx gf rl dr n bn : Nat) (T : Nat → Nat → Int) (lw : vLw) : Prop :=
  mFx F st nx gf rl dr ∧ ((st = 25 ∧ nx = 26) ∨ (st = 26 ∧ nx = 25)) ∧ ((rl = 70 ∧ dr = 75) ∨ (rl = 75 ∧ dr = 70)) ∧ ((gf = 27 ∧ e = []) ∨ (gf = 105 ∧ e = [(0, 38400)])) ∧
  vTownOk n T ∧ vTownC n T (I 5) (I 6) (I 7) (I 8) (I 9) (I 4 0) (I 4 6) (I 4 7) ∧ vTownR n T (I 81) (I 80 2) ∧ I 80 20 = jI (-1) ∧ vLed (I 60) (I 98) ∧
  vImg n (I 3 12) (I 80 37) (I 62) (I 63) (I 64) (I 65) (I 66) (I 61 0) (I 61 6) (I 61 7) (I 99) (I 80 36) (I 69) (I 100) ∧
  vChgs n (I 48 4) (I 48 5) (I 80 6) (I 80 7) (I 49) (I 50) (I 51) (I 52) (I 83) (I 84) (I 85) ∧ vTape (I 20 1) (I 80 9) (I 21) (I 86) ∧
  vBod (I 53 1) (I 80 41) (I 54) (I 103) (I 53 3) (I 80 43) (I 55) (I 104) (I 101) (I 102) bn ∧ vShl bn (I 57) (I 58) (I 94) (I 95) (E 59) (E 96) ∧
  vLawC lw (I (rl + 1)) (I (rl + 2)) (I rl 2) ∧ vLawR lw (I 87) (I 80 11) (I 80 12) (I 90) ∧ vRing c n T lw (I 23) (I 22 1) (I 22 2) (I 22 3) (I 22 8) gf (I gf) ∧ vLet (I 90)
def vI : mInvT := fun c lay M => ∃ e I E F st nx gf rl dr n bn T lw, lay = mLay e ∧ M = (I, E, F) ∧ vInv c e I E F st nx gf rl dr n bn T lw
theorem vI_ok : mInvOk vI := by
  rintro c lay M ⟨e, I, E, F, st, nx, gf, rl, dr, n, bn, T, lw, rfl, rfl, -, -, -, he, -⟩
  refine ⟨?_, ?_, sh_3, sh_80⟩
  · rcases he with ⟨-, rfl⟩ | ⟨-, rfl⟩ <;> exact Nat.le_of_ble_eq_true rfl
  · rcases he with ⟨-, rfl⟩ | ⟨-, rfl⟩ <;> exact Nat.le_of_ble_eq_true rfl
/-- rows that a write leaves -/
theorem iU_row {I : Nat → Nat → Int32} {k j a : Nat} {x : Int32} (h : ¬ a = k) : iU I k j x a = I a := by
  funext b
  exact iU_nr h
theorem iU_same {I : Nat → Nat → Int32} {k j b : Nat} {x : Int32} (h : ¬ b = j) : iU I k j x k b = I k b := iU_ne (fun q => h q.2)
theorem eU_row {E : Nat → Nat → Int64} {k j a : Nat} {x : Int64} (h : ¬ a = k) : eU E k j x a = E a := by
  funext b
  simp [eU, h]
theorem j0_0 : (Int32.ofInt 0 = 0) = True := by simp
theorem j1_0 : (Int32.ofInt 1 = 0) = False := by decide
theorem j0_1 : (Int32.ofInt 0 = 1) = False := by decide
theorem j1_1 : (Int32.ofInt 1 = 1) = True := by decide
theorem vRing_up {c n : Nat} {T : Nat → Nat → Int} {lw : vLw} {best : Nat → Int32} {few most held stamp : Int32} {gf : Nat} {gifts : Nat → Int32} (h : vRing c n T lw best few most held stamp gf gifts) : vRing (c + 1) n T lw best few most held stamp gf gifts := by
  obtain ⟨⟨sn, a, b, q⟩, h2⟩ := h
  exact ⟨⟨sn, a, by omega, q⟩, h2⟩
theorem vInv_up {c : Nat} {e : List mShp} {I : Nat → Nat → Int32} {E : Nat → Nat → Int64} {F : Nat → Nat → Nat} {st nx gf rl dr n bn : Nat} {T : Nat → Nat → Int} {lw : vLw} (h : vInv c e I E F st nx gf rl dr n bn T lw) : vInv (c + 1) e I E F st nx gf rl dr n bn T lw := by
  obtain ⟨h1, h2, h3, h4, h5, h6, h7, h8, h9, h10, h11, h12, h13, h14, h15, h16, h17, h18⟩ := h
  exact ⟨h1, h2, h3, h4, h5, h6, h7, h8, h9, h10, h11, h12, h13, h14, h15, h16, vRing_up h17, h18⟩
theorem vI_of {c : Nat} {e : List mShp} {I : Nat → Nat → Int32} {E : Nat → Nat → Int64} {F : Nat → Nat → Nat} {st nx gf rl dr n bn : Nat} {T : Nat → Nat → Int} {lw : vLw} (h : vInv c e I E F st nx gf rl dr n bn T lw) : vI c (mLay e) (I, E, F) := ⟨e, I, E, F, st, nx, gf, rl, dr, n, bn, T, lw, rfl, rfl, h⟩
theorem vI_up {c : Nat} {lay : List mShp} {M : mMem} (h : vI c lay M) : vI (c + 1) lay M := by
  obtain ⟨e, I, E, F, st, nx, gf, rl, dr, n, bn, T, lw, rfl, rfl, h⟩ := h
  exact vI_of (vInv_up h)
theorem jI_lt0 {a : Int} (h0 : -2147483648 ≤ a) (h1 : a ≤ 2147483647) : (Int32.ofInt a < 0) = (a < 0) := jI_lt (b := 0) ⟨h0, h1⟩ (by omega)
theorem jI_0lt {a : Int} (h0 : -2147483648 ≤ a) (h1 : a ≤ 2147483647) : (0 < Int32.ofInt a) = (0 < a) := jI_lt (a := 0) (by omega) ⟨h0, h1⟩
theorem jI_eq0 {a : Int} (h0 : -2147483648 ≤ a) (h1 : a ≤ 2147483647) : (Int32.ofInt a = 0) = (a = 0) := jI_eq (b := 0) ⟨h0, h1⟩ (by omega)
theorem jI_0le {a : Int} (h0 : -2147483648 ≤ a) (h1 : a ≤ 2147483647) : (0 ≤ Int32.ofInt a) = (0 ≤ a) := by
  rw [Int32.le_iff_toInt_le, jI_toInt h0 h1]
  rfl
theorem jI_if {c : Prop} [Decidable c] {a b : Int} : (if c then Int32.ofInt a else Int32.ofInt b) = Int32.ofInt (if c then a else b) := by split <;> rfl
theorem jn_lo (n : Nat) : -2147483648 ≤ (n : Int) := by omega
