/-! ===== the law's text: reading, as numbers; what steps on a stack give ===== -/
abbrev lVal : Type := (Nat → Int32) → Int32
abbrev lCode : Type := List (Int × Int)
abbrev lRes : Type := Bool × Nat × lCode × lVal
def lDig (z : Int) : Bool := decide (48 ≤ z ∧ z ≤ 57)
def lNum (b : Nat → Int) (len : Nat) : Nat → Nat → Int → Nat × Int
  | 0, p, v => (p, v)
  | k + 1, p, v => if p < len ∧ lDig (b p) = true then lNum b len k (p + 1) (10 * v + b p - 48) else (p, v)
def lName (z : Int) : Int := if z = 103 then 0 else if z = 100 then 1 else if z = 110 then 2 else if z = 107 then 3 else if z = 115 then 4 else if z = 116 then 5 else -1
def lLev (z : Int) : Int := if z = 124 then 0 else if z = 38 then 1 else if z = 60 ∨ z = 61 ∨ z = 62 then 2 else if z = 43 ∨ z = 45 then 3 else if z = 42 ∨ z = 47 ∨ z = 37 then 4 else -1
def lJn (s : Int) (a c : Int32) : Int32 := if s = 124 then (if a = 0 ∧ c = 0 then jI 0 else jI 1) else if s = 38 then (if a = 0 ∨ c = 0 then jI 0 else jI 1) else if s = 60 then (if a < c then jI 1 else jI 0) else if s = 61 then (if a = c then jI 1 else jI 0) else if s = 62 then (if c < a then jI 1 else jI 0) else if s = 43 then a + c else if s = 45 then a - c else if s = 42 then a * c else if s = 47 then (if c = 0 then jI 0 else a / c) else if c = 0 then jI 0 else a - a / c * c
def lFail (p : Nat) : lRes := (false, p, [], fun _ => 0)
def lAdd (z : Int) (a q : lRes) : lRes := (true, q.2.1, a.2.2.1 ++ (q.2.2.1 ++ [(z, 0)]), fun e => lJn z (a.2.2.2 e) (q.2.2.2 e))
def lGo (b : Nat → Int) (len : Nat) (l : Int) (X : Nat → lRes) : Nat → lRes → lRes
  | 0, a => a
  | k + 1, a => if a.2.1 < len ∧ lLev (b a.2.1) = l then (if (X (a.2.1 + 1)).1 = true then lGo b len l X k (lAdd (b a.2.1) a (X (a.2.1 + 1))) else lFail (X (a.2.1 + 1)).2.1) else a
def lMost (l : Int) : Nat := if l = 2 then 1 else 120
def lLv (b : Nat → Int) (len : Nat) (l : Int) (X : Nat → lRes) (p : Nat) : lRes := if (X p).1 = true then lGo b len l X (lMost l) (X p) else lFail (X p).2.1
def lE (b : Nat → Int) (len : Nat) (X : Nat → lRes) : Nat → lRes := lLv b len 0 (lLv b len 1 (lLv b len 2 (lLv b len 3 (lLv b len 4 X))))
def lBase (b : Nat → Int) (len : Nat) (p : Nat) : lRes := if lDig (b p) = true then (true, (lNum b len 4 p 0).1, [(0, (lNum b len 4 p 0).2)], fun _ => jI (lNum b len 4 p 0).2) else if 0 ≤ lName (b p) then (true, p + 1, [(1, lName (b p))], fun e => e (lName (b p)).toNat) else lFail p
def lOpn (z : Int) : Bool := decide (z = 40 ∨ z = 33 ∨ z = 45)
def lPar (b : Nat → Int) (len : Nat) (q : lRes) : lRes := if q.1 = true ∧ q.2.1 < len ∧ b q.2.1 = 41 then (true, q.2.1 + 1, q.2.2.1, q.2.2.2) else lFail q.2.1
def lUn (z : Int) (q : lRes) : lRes := if q.1 = true then (true, q.2.1, q.2.2.1 ++ [(if z = 45 then 4 else 5, 0)], fun e => if z = 45 then -(q.2.2.2 e) else if q.2.2.2 e = 0 then jI 1 else jI 0) else lFail q.2.1
def lOp (b : Nat → Int) (len : Nat) : Nat → Nat → lRes
  | 0, p => if p < len then (if lOpn (b p) = true then lFail p else lBase b len p) else lFail p
  | r + 1, p => if p < len then (if lOpn (b p) = true then (if b p = 40 then lPar b len (lE b len (lOp b len r) (p + 1)) else lUn (b p) (lOp b len r (p + 1))) else lBase b len p) else lFail p
/-! lines: a test, if there is one; what counts -/
abbrev lLn : Type := Option (lCode × lVal) × lCode × lVal
def lLine (b : Nat → Int) (len : Nat) (p : Nat) : Bool × Nat × lLn :=
  if (lE b len (lOp b len 6) p).1 = true then (if (lE b len (lOp b len 6) p).2.1 < len ∧ b (lE b len (lOp b len 6) p).2.1 = 63 then ((lE b len (lOp b len 6) ((lE b len (lOp b len 6) p).2.1 + 1)).1, (lE b len (lOp b len 6) ((lE b len (lOp b len 6) p).2.1 + 1)).2.1, some (lE b len (lOp b len 6) p).2.2, (lE b len (lOp b len 6) ((lE b len (lOp b len 6) p).2.1 + 1)).2.2) else (true, (lE b len (lOp b len 6) p).2.1, none, (lE b len (lOp b len 6) p).2.2)) else (false, (lE b len (lOp b len 6) p).2.1, none, [], fun _ => 0)
def lText (b : Nat → Int) (len : Nat) : Nat → Nat → Bool × Nat × List lLn
  | 0, p => (false, p, [])
  | k + 1, p => if (lLine b len p).1 = true then (if len ≤ (lLine b len p).2.1 then (true, (lLine b len p).2.1, [(lLine b len p).2.2]) else if b (lLine b len p).2.1 = 59 then ((lText b len k ((lLine b len p).2.1 + 1)).1, (lText b len k ((lLine b len p).2.1 + 1)).2.1, (lLine b len p).2.2 :: (lText b len k ((lLine b len p).2.1 + 1)).2.2) else (false, (lLine b len p).2.1, [(lLine b len p).2.2])) else (false, (lLine b len p).2.1, [])
/-- the first line that counts -/
def lRun (e : Nat → Int32) : List lLn → Int32
  | [] => jI 0
  | (none, q) :: _ => q.2 e
  | (some t, q) :: r => if t.2 e = 0 then lRun e r else q.2 e
/-! the stack machine -/
def sU (S : Nat → Int32) (k : Nat) (v : Int32) : Nat → Int32 := fun j => if j = k then v else S j
def xSt (e : Nat → Int32) (a z : Int) (k : Nat) (S : Nat → Int32) : Option (Nat × (Nat → Int32)) :=
  if a = 0 then (if k < 48 then some (k + 1, sU S k (jI z)) else none)
  else if a = 1 then (if k < 48 ∧ 0 ≤ z ∧ z ≤ 5 then some (k + 1, sU S k (e z.toNat)) else none)
  else if a = 4 then (if 1 ≤ k then some (k, sU S (k - 1) (-(S (k - 1)))) else none)
  else if a = 5 then (if 1 ≤ k then some (k, sU S (k - 1) (if S (k - 1) = 0 then jI 1 else jI 0)) else none)
  else if 0 ≤ lLev a ∧ 2 ≤ k then some (k - 1, sU S (k - 2) (lJn a (S (k - 2)) (S (k - 1)))) else none
def xRn (e : Nat → Int32) : lCode → Nat → (Nat → Int32) → Option (Nat × (Nat → Int32))
  | [], k, S => some (k, S)
  | x :: c, k, S => match xSt e x.1 x.2 k S with
    | none => none
    | some q => xRn e c q.1 q.2
theorem xRn_app {e : Nat → Int32} {c' : lCode} {k' : Nat} {S' : Nat → Int32} {o : Option (Nat × (Nat → Int32))} (h' : xRn e c' k' S' = o) : ∀ (c : lCode) k S, xRn e c k S = some (k', S') → xRn e (c ++ c') k S = o
  | [], k, S, h => by
    cases h
    exact h'
  | x :: c, k, S, h => by
    rw [List.cons_append, xRn]
    rw [xRn] at h
    cases hx : xSt e x.1 x.2 k S with
    | none =>
      rw [hx] at h
      cases h
    | some q =>
      rw [hx] at h
      exact xRn_app h' c q.1 q.2 h
/-- steps that lay one value on the stack, with room for h -/
def lCm (c : lCode) (v : lVal) (h : Nat) : Prop := ∀ e k S, k + h ≤ 48 → ∃ S', xRn e c k S = some (k + 1, S') ∧ S' k = v e ∧ ∀ j, j < k → S' j = S j
theorem lCm_up {c : lCode} {v : lVal} {h h' : Nat} (hc : lCm c v h) (hh : h ≤ h') : lCm c v h' := fun e k S hk => hc e k S (by omega)
theorem lCm_num {z : Int} : lCm [(0, z)] (fun _ => jI z) 1 := fun e k S hk => by
  refine ⟨sU S k (jI z), ?_, if_pos rfl, fun j hj => if_neg (by omega)⟩
  show (match (if k < 48 then some (k + 1, sU S k (jI z)) else none) with | none => none | some q => xRn e [] q.1 q.2) = _
  rw [if_pos (by omega)]
  rfl
theorem lCm_name {z : Int} (h0 : 0 ≤ z) (h1 : z ≤ 5) : lCm [(1, z)] (fun e => e z.toNat) 1 := fun e k S hk => by
  refine ⟨sU S k (e z.toNat), ?_, if_pos rfl, fun j hj => if_neg (by omega)⟩
  show (match (if k < 48 ∧ 0 ≤ z ∧ z ≤ 5 then some (k + 1, sU S k (e z.toNat)) else none) with | none => none | some q => xRn e [] q.1 q.2) = _
  rw [if_pos ⟨by omega, h0, h1⟩]
  rfl
theorem lCm_un {c : lCode} {v : lVal} {h : Nat} {z : Int} (hc : lCm c v h) : lCm (c ++ [(if z = 45 then 4 else 5, 0)]) (fun e => if z = 45 then -(v e) else if v e = 0 then jI 1 else jI 0) h := fun e k S hk => by
  obtain ⟨S1, h1, h2, h3⟩ := hc e k S hk
  by_cases q : z = 45
  · refine ⟨sU S1 k (-(S1 k)), xRn_app ?_ c k S h1, ?_, fun j hj => ?_⟩
    · rw [if_pos q]
      show (match (if 1 ≤ k + 1 then some (k + 1, sU S1 (k + 1 - 1) (-(S1 (k + 1 - 1)))) else none) with | none => none | some q => xRn e [] q.1 q.2) = _
      rw [if_pos (by omega)]
      rfl
    · show (sU S1 k (-(S1 k))) k = if z = 45 then -(v e) else if v e = 0 then jI 1 else jI 0
      rw [sU, if_pos rfl, if_pos q, h2]
    · rw [sU, if_neg (by omega)]
      exact h3 j hj
  · refine ⟨sU S1 k (if S1 k = 0 then jI 1 else jI 0), xRn_app ?_ c k S h1, ?_, fun j hj => ?_⟩
    · rw [if_neg q]
      show (match (if 1 ≤ k + 1 then some (k + 1, sU S1 (k + 1 - 1) (if S1 (k + 1 - 1) = 0 then jI 1 else jI 0)) else none) with | none => none | some q => xRn e [] q.1 q.2) = _
      rw [if_pos (by omega)]
      rfl
    · show (sU S1 k (if S1 k = 0 then jI 1 else jI 0)) k = if z = 45 then -(v e) else if v e = 0 then jI 1 else jI 0
      rw [sU, if_pos rfl, if_neg q, h2]
    · rw [sU, if_neg (by omega)]
      exact h3 j hj
theorem lLev_sg {z l : Int} (hz : lLev z = l) (hl : 0 ≤ l) : 37 ≤ z ∧ z ≤ 124 := by
  unfold lLev at hz
  split at hz
  · omega
  · split at hz
    · omega
    · split at hz
      · omega
      · split at hz
        · omega
        · split at hz <;> omega
theorem xSt_sg {e : Nat → Int32} {a z : Int} {k : Nat} {S : Nat → Int32} (ha : 0 ≤ lLev a) (hk : 2 ≤ k) : xSt e a z k S = some (k - 1, sU S (k - 2) (lJn a (S (k - 2)) (S (k - 1)))) := by
  have hs := lLev_sg (z := a) rfl ha
  unfold xSt
  rw [if_neg (by omega), if_neg (by omega), if_neg (by omega), if_neg (by omega), if_pos ⟨ha, hk⟩]
theorem lCm_jn {c c' : lCode} {v v' : lVal} {h : Nat} {a : Int} (ha : 0 ≤ lLev a) (hc : lCm c v (h + 1)) (hc' : lCm c' v' h) : lCm (c ++ (c' ++ [(a, 0)])) (fun e => lJn a (v e) (v' e)) (h + 1) := fun e k S hk => by
  obtain ⟨S1, h1, h2, h3⟩ := hc e k S hk
  obtain ⟨S2, g1, g2, g3⟩ := hc' e (k + 1) S1 (by omega)
  refine ⟨sU S2 k (lJn a (S2 k) (S2 (k + 1))), xRn_app (xRn_app ?_ c' (k + 1) S1 g1) c k S h1, ?_, fun j hj => ?_⟩
  · rw [xRn, xSt_sg ha (by omega)]
    rfl
  · rw [sU, if_pos rfl, g2, g3 k (by omega), h2]
  · rw [sU, if_neg (by omega), g3 j (by omega)]
    exact h3 j hj
/-! what reading gives -/
def lGr (len h : Nat) (p : Nat) (q : lRes) : Prop := p ≤ q.2.1 ∧ q.2.1 ≤ len ∧ (q.1 = true → p + q.2.2.1.length ≤ q.2.1 ∧ p < q.2.1 ∧ lCm q.2.2.1 q.2.2.2 h)
def lGd (len h : Nat) (X : Nat → lRes) : Prop := ∀ p, p ≤ len → lGr len h p (X p)
section LRD
variable {b : Nat → Int} {len h : Nat} {X : Nat → lRes}
theorem lFail_ok {p p' : Nat} (h0 : p ≤ p') (h1 : p' ≤ len) : lGr len h p (lFail p') := ⟨h0, h1, fun q => by cases q⟩
theorem lGo_ok {l : Int} (hl : 0 ≤ l) (hX : lGd len h X) {p : Nat} : ∀ k (a : lRes), a.1 = true → lGr len (h + 1) p a → lGr len (h + 1) p (lGo b len l X k a)
  | 0, a, ha, hg => hg
  | k + 1, a, ha, hg => by
    rw [lGo]
    by_cases q : a.2.1 < len ∧ lLev (b a.2.1) = l
    · rw [if_pos q]
      obtain ⟨g1, g2, g3⟩ := hg
      obtain ⟨g4, g5, g6⟩ := g3 ha
      obtain ⟨x1, x2, x3⟩ := hX (a.2.1 + 1) (by omega)
      by_cases qx : (X (a.2.1 + 1)).1 = true
      · obtain ⟨x4, x5, x6⟩ := x3 qx
        rw [if_pos qx]
        refine lGo_ok hl hX k _ rfl ⟨by show p ≤ (X (a.2.1 + 1)).2.1; omega, x2, fun _ => ⟨?_, by show p < (X (a.2.1 + 1)).2.1; omega, lCm_jn (by rw [q.2]; exact hl) g6 x6⟩⟩
        show p + (a.2.2.1 ++ ((X (a.2.1 + 1)).2.2.1 ++ [(b a.2.1, 0)])).length ≤ (X (a.2.1 + 1)).2.1
        rw [List.length_append, List.length_append, List.length_singleton]
        omega
      · rw [if_neg qx]
        exact lFail_ok (by omega) x2
    · rw [if_neg q]
      exact hg
theorem lLv_ok {l : Int} (hl : 0 ≤ l) (hX : lGd len h X) : lGd len (h + 1) (lLv b len l X) := fun p hp => by
  have hx := hX p hp
  unfold lLv
  by_cases q : (X p).1 = true
  · rw [if_pos q]
    exact lGo_ok hl hX _ _ q ⟨hx.1, hx.2.1, fun w => ⟨(hx.2.2 w).1, (hx.2.2 w).2.1, lCm_up (hx.2.2 w).2.2 (by omega)⟩⟩
  · rw [if_neg q]
    exact lFail_ok hx.1 hx.2.1
theorem lE_ok (hX : lGd len h X) : lGd len (h + 5) (lE b len X) := lLv_ok (by omega) (lLv_ok (by omega) (lLv_ok (by omega) (lLv_ok (by omega) (lLv_ok (by omega) hX))))
theorem lNum_ok : ∀ k p v, p ≤ len → p ≤ (lNum b len k p v).1 ∧ (lNum b len k p v).1 ≤ len
  | 0, p, v, hp => ⟨Nat.le_refl _, hp⟩
  | k + 1, p, v, hp => by
    rw [lNum]
    split
    · next q =>
      have := lNum_ok k (p + 1) (10 * v + b p - 48) (by omega)
      omega
    · exact ⟨Nat.le_refl _, hp⟩
theorem lName_in (z : Int) : -1 ≤ lName z ∧ lName z ≤ 5 := by
  unfold lName
  repeat' split
  all_goals omega
theorem lBase_ok {p : Nat} (hp : p < len) : lGr len 1 p (lBase b len p) := by
  unfold lBase
  by_cases q : lDig (b p) = true
  · rw [if_pos q]
    have h1 : (lNum b len 4 p 0) = lNum b len 3 (p + 1) (10 * 0 + b p - 48) := by
      rw [lNum, if_pos ⟨hp, q⟩]
    have h2 := lNum_ok (b := b) (len := len) 3 (p + 1) (10 * 0 + b p - 48) (by omega)
    rw [← h1] at h2
    exact ⟨by show p ≤ (lNum b len 4 p 0).1; omega, h2.2, fun _ => ⟨by show p + 1 ≤ (lNum b len 4 p 0).1; omega, by show p < (lNum b len 4 p 0).1; omega, lCm_num⟩⟩
  · rw [if_neg q]
    by_cases q2 : 0 ≤ lName (b p)
    · rw [if_pos q2]
      exact ⟨by show p ≤ p + 1; omega, by show p + 1 ≤ len; omega, fun _ => ⟨Nat.le_refl _, by show p < p + 1; omega, lCm_name q2 (lName_in _).2⟩⟩
    · rw [if_neg q2]
      exact lFail_ok (Nat.le_refl _) (by omega)
theorem lGr_up {h' p : Nat} {q : lRes} (hq : lGr len h p q) (hh : h ≤ h') : lGr len h' p q := ⟨hq.1, hq.2.1, fun w => ⟨(hq.2.2 w).1, (hq.2.2 w).2.1, lCm_up (hq.2.2 w).2.2 hh⟩⟩
theorem lOp_ok : ∀ r, lGd len (1 + 5 * r) (lOp b len r)
  | 0 => fun p hp => by
    rw [lOp]
    split
    · split
      · exact lFail_ok (Nat.le_refl _) (by omega)
      · exact lBase_ok (by assumption)
    · exact lFail_ok (Nat.le_refl _) hp
  | r + 1 => fun p hp => by
    rw [lOp]
    by_cases q : p < len
    · rw [if_pos q]
      by_cases qo : lOpn (b p) = true
      · rw [if_pos qo]
        by_cases q40 : b p = 40
        · rw [if_pos q40]
          obtain ⟨x1, x2, x3⟩ := lE_ok (b := b) (lOp_ok r) (p + 1) (by omega)
          unfold lPar
          by_cases qq : (lE b len (lOp b len r) (p + 1)).1 = true ∧ (lE b len (lOp b len r) (p + 1)).2.1 < len ∧ b (lE b len (lOp b len r) (p + 1)).2.1 = 41
          · rw [if_pos qq]
            obtain ⟨x4, x5, x6⟩ := x3 qq.1
            exact ⟨by show p ≤ (lE b len (lOp b len r) (p + 1)).2.1 + 1; omega, by show (lE b len (lOp b len r) (p + 1)).2.1 + 1 ≤ len; omega, fun _ => ⟨by show p + (lE b len (lOp b len r) (p + 1)).2.2.1.length ≤ (lE b len (lOp b len r) (p + 1)).2.1 + 1; omega, by show p < (lE b len (lOp b len r) (p + 1)).2.1 + 1; omega, lCm_up x6 (by omega)⟩⟩
          · rw [if_neg qq]
            exact lFail_ok (by omega) x2
        · rw [if_neg q40]
          obtain ⟨x1, x2, x3⟩ := lOp_ok r (p + 1) (by omega)
          unfold lUn
          by_cases qq : (lOp b len r (p + 1)).1 = true
          · rw [if_pos qq]
            obtain ⟨x4, x5, x6⟩ := x3 qq
            refine ⟨by show p ≤ (lOp b len r (p + 1)).2.1; omega, x2, fun _ => ⟨?_, by show p < (lOp b len r (p + 1)).2.1; omega, lCm_up (lCm_un x6) (by omega)⟩⟩
            show p + ((lOp b len r (p + 1)).2.2.1 ++ [(if b p = 45 then 4 else 5, 0)]).length ≤ (lOp b len r (p + 1)).2.1
            rw [List.length_append, List.length_singleton]
            omega
          · rw [if_neg qq]
            exact lFail_ok (by omega) x2
      · rw [if_neg qo]
        exact lGr_up (lBase_ok q) (by omega)
    · rw [if_neg q]
      exact lFail_ok (Nat.le_refl _) hp
theorem lTop_ok : lGd len 36 (lE b len (lOp b len 6)) := lE_ok (lOp_ok 6)
end LRD
