/-! ===== all ways in which each cares for one: the full search and the pruned one, as numbers ===== -/
abbrev pSt2 : Type := Int × (Nat → Nat)
def pUp (w : Nat → Nat) (i v : Nat) : Nat → Nat := fun j => if j = i then v else w j
def pLp (f : Nat → pSt2 → pSt2) : Nat → pSt2 → pSt2
  | 0, st => st
  | m + 1, st => f m (pLp f m st)
theorem pLp_id {f : Nat → pSt2 → pSt2} {st : pSt2} (h : ∀ i, f i st = st) : ∀ m, pLp f m st = st
  | 0 => rfl
  | m + 1 => by rw [pLp, pLp_id h m, h]
theorem pLp_cg {f g : Nat → pSt2 → pSt2} (h : ∀ i st, f i st = g i st) : ∀ m st, pLp f m st = pLp g m st
  | 0, st => rfl
  | m + 1, st => by rw [pLp, pLp, pLp_cg h m st, h]
/-- may who care for i, when those of b are cared for -/
def pFree (who b i : Nat) : Bool := !(i == who) && !(pBt b i)
def pOth (T : Nat → Nat → Int) (who i : Nat) : Int := if T 4 who = i then 0 else 1
/-- the reference's search; the class's, which leaves where it can't be better -/
def pMr (T : Nat → Nat → Int) (n : Nat) : Nat → Nat → (Nat → Nat) → Nat → Int → pSt2 → pSt2
  | 0, _, w, _, oth, st => if oth < st.1 then (oth, w) else st
  | k + 1, who, w, b, oth, st => pLp (fun i st => if pFree who b i = true then pMr T n k (who + 1) (pUp w who i) (b ||| 2 ^ i) (oth + pOth T who i) st else st) n st
def pMc (T : Nat → Nat → Int) (n : Nat) : Nat → Nat → (Nat → Nat) → Nat → Int → pSt2 → pSt2
  | 0, _, w, _, oth, st => if oth < st.1 then (oth, w) else st
  | k + 1, who, w, b, oth, st => if oth < st.1 then pLp (fun i st => if pFree who b i = true then pMc T n k (who + 1) (pUp w who i) (b ||| 2 ^ i) (oth + pOth T who i) st else st) n st else st
theorem pOth_in (T : Nat → Nat → Int) (who i : Nat) : 0 ≤ pOth T who i ∧ pOth T who i ≤ 1 := by
  unfold pOth
  split <;> omega
theorem pMr_ge {T : Nat → Nat → Int} {n : Nat} : ∀ k who w b oth (st : pSt2), st.1 ≤ oth → pMr T n k who w b oth st = st
  | 0, who, w, b, oth, st, h => by
    rw [pMr, if_neg (by omega)]
  | k + 1, who, w, b, oth, st, h => by
    rw [pMr]
    refine pLp_id (fun i => ?_) n
    have ho := pOth_in T who i
    split
    · exact pMr_ge k _ _ _ _ st (by omega)
    · rfl
theorem pM_eq {T : Nat → Nat → Int} {n : Nat} : ∀ k who w b oth (st : pSt2), pMc T n k who w b oth st = pMr T n k who w b oth st
  | 0, who, w, b, oth, st => rfl
  | k + 1, who, w, b, oth, st => by
    by_cases h : oth < st.1
    · rw [pMc, if_pos h, pMr]
      refine pLp_cg (fun i st' => ?_) n st
      rw [pM_eq k]
    · rw [pMc, if_neg h, pMr_ge (k + 1) who w b oth st (by omega)]
/-- the same, or both have found nothing yet -/
def pRl (a b : pSt2) : Prop := a = b ∨ (a.1 = 9 ∧ b.1 = 2147483647)
theorem pLp_rl {f : Nat → pSt2 → pSt2} (h : ∀ i a b, pRl a b → pRl (f i a) (f i b)) : ∀ m a b, pRl a b → pRl (pLp f m a) (pLp f m b)
  | 0, a, b, q => q
  | m + 1, a, b, q => h m _ _ (pLp_rl h m a b q)
theorem pMr_rl {T : Nat → Nat → Int} {n : Nat} : ∀ (k who : Nat) (w : Nat → Nat) (b : Nat) (oth : Int) (x y : pSt2), oth + k ≤ 8 → pRl x y → pRl (pMr T n k who w b oth x) (pMr T n k who w b oth y)
  | 0, who, w, b, oth, x, y, ho, h => by
    rcases h with rfl | ⟨h1, h2⟩
    · exact .inl rfl
    · rw [pMr, pMr, if_pos (by omega), if_pos (by omega)]
      exact .inl rfl
  | k + 1, who, w, b, oth, x, y, ho, h => by
    rw [pMr, pMr]
    refine pLp_rl (fun i a c q => ?_) n x y h
    have hi := pOth_in T who i
    split
    · exact pMr_rl k _ _ _ _ a c (by omega) q
    · exact q
