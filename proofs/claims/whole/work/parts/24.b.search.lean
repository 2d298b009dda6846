/-! ===== the searches, as numbers: the full one, the one that leaves where it can't be better, the one that leaves closed circles ===== -/
theorem qLp_id {α : Type} {f : Nat → α → α} {st : α} (h : ∀ i, f i st = st) : ∀ m, qLp f m st = st
  | 0 => rfl
  | m + 1 => by rw [qLp, qLp_id h m, h]
theorem qLp_cg {α : Type} {f g : Nat → α → α} : ∀ m st, (∀ i st, i < m → f i st = g i st) → qLp f m st = qLp g m st
  | 0, st, h => rfl
  | m + 1, st, h => by rw [qLp, qLp, qLp_cg m st (fun i st hi => h i st (by omega)), h m _ (by omega)]
theorem qLp_rel {α β : Type} {R : α → β → Prop} {f : Nat → α → α} {g : Nat → β → β} : ∀ m a b, (∀ i a b, i < m → R a b → R (f i a) (g i b)) → R a b → R (qLp f m a) (qLp g m b)
  | 0, a, b, h, q => q
  | m + 1, a, b, h, q => h m _ _ (by omega) (qLp_rel m a b (fun i a b hi => h i a b (by omega)) q)
theorem qLp_hit {α : Type} {S : α → Prop} {f : Nat → α → α} (hk : ∀ i st, S st → S (f i st)) {i : Nat} (hi : ∀ st, S (f i st)) : ∀ m st, i < m → S (qLp f m st)
  | 0, st, h => absurd h (by omega)
  | m + 1, st, h => by
    rw [qLp]
    by_cases e : i = m
    · rw [← e]
      exact hi _
    · exact hk _ _ (qLp_hit hk hi m st (by omega))
theorem qBt_d : ∀ b : Fin 256, ∀ i j : Fin 8, pBt (b.val ||| 2 ^ i.val) j.val = (pBt b.val j.val || (i.val == j.val)) := by decide +kernel
theorem qBt_or {b i j : Nat} (hb : b < 256) (hi : i < 8) (hj : j < 8) : pBt (b ||| 2 ^ i) j = (pBt b j || (i == j)) := qBt_d ⟨b, hb⟩ ⟨i, hi⟩ ⟨j, hj⟩
theorem qOr_lt {b i : Nat} (hb : b < 256) (hi : i < 8) : b ||| 2 ^ i < 256 := (pLb_d ⟨i, hi⟩ ⟨b, hb⟩).2
/-- told so far: those below who; b has whom they care for -/
def qIn (n who : Nat) (w : Nat → Nat) (b : Nat) : Prop := b < 256 ∧ (∀ i, i < who → w i < n ∧ w i ≠ i ∧ pBt b (w i) = true) ∧ ∀ i j, i < who → j < who → w i = w j → i = j
theorem qIn_0 (n : Nat) (w : Nat → Nat) : qIn n 0 w 0 := ⟨by omega, fun i h => absurd h (by omega), fun i j h => absurd h (by omega)⟩
theorem qUp_lt {w : Nat → Nat} {who v j : Nat} (h : j < who) : qUp w who v j = w j := if_neg (by omega)
theorem qUp_eq {w : Nat → Nat} {who v : Nat} : qUp w who v who = v := if_pos rfl
theorem qFree_iff {who b i : Nat} : qFree who b i = true ↔ i ≠ who ∧ pBt b i = false := by
  unfold qFree
  rw [Bool.and_eq_true, Bool.not_eq_true', Bool.not_eq_true', beq_eq_false_iff_ne]
theorem qIn_up {n who b i : Nat} {w : Nat → Nat} (hn : n ≤ 8) (h : qIn n who w b) (hi : i < n) (hf : qFree who b i = true) : qIn n (who + 1) (qUp w who i) (b ||| 2 ^ i) := by
  obtain ⟨hb, h1, h2⟩ := h
  obtain ⟨f1, f2⟩ := qFree_iff.1 hf
  have hne : ∀ j, j < who → w j ≠ i := fun j hj e => by
    have := (h1 j hj).2.2
    rw [e, f2] at this
    cases this
  refine ⟨qOr_lt hb (by omega), fun j hj => ?_, fun a c ha hc e => ?_⟩
  · by_cases q : j = who
    · subst q
      rw [qUp_eq, qBt_or hb (by omega) (by omega)]
      exact ⟨hi, f1, by simp⟩
    · have hj' : j < who := by omega
      have h3 := h1 j hj'
      rw [qUp_lt hj', qBt_or hb (by omega) (by omega), h3.2.2]
      exact ⟨h3.1, h3.2.1, rfl⟩
  · by_cases q : a = who <;> by_cases q' : c = who
    · omega
    · rw [q, qUp_eq, qUp_lt (show c < who by omega)] at e
      exact absurd e.symm (hne c (by omega))
    · rw [q', qUp_eq, qUp_lt (show a < who by omega)] at e
      exact absurd e (hne a (by omega))
    · rw [qUp_lt (show a < who by omega), qUp_lt (show c < who by omega)] at e
      exact h2 a c (by omega) (by omega) e
theorem qIn_pm {n b : Nat} {w : Nat → Nat} (h : qIn n n w b) : qPm n w := ⟨fun i hi => (h.2.1 i hi).1, h.2.2⟩
theorem qOth_in (T : Nat → Nat → Int) (who i : Nat) : 0 ≤ qOth T who i ∧ qOth T who i ≤ 1 := by
  unfold qOth
  split <;> omega
/-- two searches whose leaves keep a relation keep it -/
theorem qSr_rel {α β : Type} {R : α → β → Prop} {lf : (Nat → Nat) → Int → α → α} {lg : (Nat → Nat) → Int → β → β} {T : Nat → Nat → Int} {n : Nat} (hn : n ≤ 8) (hl : ∀ w oth a b, qPm n w → 0 ≤ oth → oth ≤ 8 → R a b → R (lf w oth a) (lg w oth b)) : ∀ (k who : Nat) (w : Nat → Nat) (b : Nat) (oth : Int) x y, who + k = n → qIn n who w b → 0 ≤ oth → oth ≤ who → R x y → R (qSr lf T n k who w b oth x) (qSr lg T n k who w b oth y)
  | 0, who, w, b, oth, x, y, hk, hi, h0, h1, h => by
    have e : who = n := by omega
    subst e
    exact hl w oth x y (qIn_pm hi) h0 (by omega) h
  | k + 1, who, w, b, oth, x, y, hk, hi, h0, h1, h => by
    rw [qSr, qSr]
    refine qLp_rel n x y (fun i a c hin q => ?_) h
    have ho := qOth_in T who i
    by_cases hf : qFree who b i = true
    · rw [if_pos hf, if_pos hf]
      exact qSr_rel hn hl k _ _ _ _ a c (by omega) (qIn_up hn hi hin hf) (by omega) (by omega) q
    · rw [if_neg hf, if_neg hf]
      exact q
theorem qSr_kp {α : Type} {S : α → Prop} {lf : (Nat → Nat) → Int → α → α} {T : Nat → Nat → Int} {n : Nat} (hk : ∀ w oth st, oth ≤ 8 → S st → S (lf w oth st)) : ∀ (k who : Nat) (w : Nat → Nat) (b : Nat) (oth : Int) st, oth + k ≤ 8 → S st → S (qSr lf T n k who w b oth st)
  | 0, who, w, b, oth, st, ho, h => hk w oth st (by omega) h
  | k + 1, who, w, b, oth, st, ho, h => by
    rw [qSr]
    refine qLp_rel (R := fun a _ => S a) (g := fun _ (u : Unit) => u) n st () (fun i a c _ q => ?_) h
    have hi := qOth_in T who i
    by_cases hf : qFree who b i = true
    · rw [if_pos hf]
      exact qSr_kp hk k _ _ _ _ _ (by omega) q
    · rw [if_neg hf]
      exact q
/-- the way round: everyone cares for the next; the full search comes to it -/
theorem qSr_hit {α : Type} {S : α → Prop} {lf : (Nat → Nat) → Int → α → α} {T : Nat → Nat → Int} {n : Nat} (hn : n ≤ 8) (h2 : 2 ≤ n) (hk : ∀ w oth st, oth ≤ 8 → S st → S (lf w oth st)) (hl : ∀ w oth st, oth ≤ 8 → (∀ j, j + 1 < n → w j = j + 1) → w (n - 1) = 0 → S (lf w oth st)) : ∀ (k who : Nat) (w : Nat → Nat) (b : Nat) (oth : Int) st, who + (k + 1) = n → b < 256 → oth ≤ who → (∀ j, j < who → w j = j + 1) → (∀ j, j < 8 → pBt b j = true → 1 ≤ j ∧ j ≤ who) → S (qSr lf T n (k + 1) who w b oth st)
  | 0, who, w, b, oth, st, e, hb, ho, hw, hbt => by
    rw [qSr]
    have hi := qOth_in T who
    refine qLp_hit (i := 0) (fun i st h => ?_) (fun st => ?_) n st (by omega)
    · have hi' := hi i
      split
      · exact hk _ _ _ (by omega) h
      · exact h
    · have hf : qFree who b 0 = true := by
        rw [qFree_iff]
        refine ⟨by omega, ?_⟩
        cases hz : pBt b 0 with
        | false => rfl
        | true => exact absurd (hbt 0 (by omega) hz) (by omega)
      have hi' := hi 0
      rw [if_pos hf]
      refine hl _ _ _ (by omega) (fun j hj => ?_) ?_
      · rw [qUp_lt (show j < who by omega)]
        exact hw j (by omega)
      · rw [show n - 1 = who by omega, qUp_eq]
  | k + 1, who, w, b, oth, st, e, hb, ho, hw, hbt => by
    rw [qSr]
    have hi := qOth_in T who
    refine qLp_hit (i := who + 1) (fun i st h => ?_) (fun st => ?_) n st (by omega)
    · have hi' := hi i
      split
      · exact qSr_kp hk _ _ _ _ _ _ (by omega) h
      · exact h
    · have hf : qFree who b (who + 1) = true := by
        rw [qFree_iff]
        refine ⟨by omega, ?_⟩
        cases hz : pBt b (who + 1) with
        | false => rfl
        | true => exact absurd (hbt (who + 1) (by omega) hz) (by omega)
      have hi' := hi (who + 1)
      rw [if_pos hf]
      refine qSr_hit hn h2 hk hl k (who + 1) _ _ _ st (by omega) (qOr_lt hb (by omega)) (by omega) (fun j hj => ?_) (fun j hj hz => ?_)
      · by_cases ej : j = who
        · rw [ej, qUp_eq]
        · rw [qUp_lt (show j < who by omega)]
          exact hw j (by omega)
      · rw [qBt_or hb (by omega) hj, Bool.or_eq_true, beq_iff_eq] at hz
        rcases hz with hz | hz
        · have := hbt j hj hz
          omega
        · omega
theorem qTk_8 {few most : Int} {w : Nat → Nat} {st : qSt} (h : few ≤ 8) : (qTk few most w st).1 ≤ 8 := by
  unfold qTk
  split
  · exact h
  · omega
theorem qTk_k {few most : Int} {w : Nat → Nat} {st : qSt} (h : st.1 ≤ 8) : (qTk few most w st).1 ≤ 8 := by
  unfold qTk
  split
  · show few ≤ 8
    omega
  · exact h
theorem pBt_0 : ∀ j : Fin 8, pBt 0 j.val = false := by decide
/-! mended: the class leaves where it can't be better -/
def qLm (w : Nat → Nat) (oth : Int) (st : qSt) : qSt := if oth < st.1 then (oth, 0, w) else st
def qSm (T : Nat → Nat → Int) (n : Nat) : Nat → Nat → (Nat → Nat) → Nat → Int → qSt → qSt
  | 0, _, w, _, oth, st => qLm w oth st
  | k + 1, who, w, b, oth, st => if oth < st.1 then qLp (fun i st => if qFree who b i = true then qSm T n k (who + 1) (qUp w who i) (b ||| 2 ^ i) (oth + qOth T who i) st else st) n st else st
theorem qSr_ge {T : Nat → Nat → Int} {n : Nat} : ∀ k who w b oth (st : qSt), st.1 ≤ oth → qSr qLm T n k who w b oth st = st
  | 0, who, w, b, oth, st, h => by
    rw [qSr, qLm, if_neg (by omega)]
  | k + 1, who, w, b, oth, st, h => by
    rw [qSr]
    refine qLp_id (fun i => ?_) n
    have ho := qOth_in T who i
    split
    · exact qSr_ge k _ _ _ _ st (by omega)
    · rfl
theorem qSm_eq {T : Nat → Nat → Int} {n : Nat} : ∀ k who w b oth (st : qSt), qSm T n k who w b oth st = qSr qLm T n k who w b oth st
  | 0, who, w, b, oth, st => rfl
  | k + 1, who, w, b, oth, st => by
    by_cases h : oth < st.1
    · rw [qSm, if_pos h, qSr]
      refine qLp_cg n st (fun i st' _ => ?_)
      rw [qSm_eq k]
    · rw [qSm, if_neg h, qSr_ge (k + 1) who w b oth st (by omega)]
/-- the same, or both have found nothing yet -/
def qRl (a b : qSt) : Prop := (a = b ∧ a.2.1 = 0) ∨ (9 ≤ a.1 ∧ 9 ≤ b.1)
theorem qLm_rl {n : Nat} : ∀ (w : Nat → Nat) oth a b, qPm n w → 0 ≤ oth → oth ≤ 8 → qRl a b → qRl (qLm w oth a) (qTk oth 0 w b) := by
  intro w oth a b _ h0 h1 h
  rcases h with ⟨rfl, h⟩ | ⟨h2, h3⟩
  · unfold qLm qTk
    by_cases q : oth < a.1
    · rw [if_pos q, if_pos (.inl q)]
      exact .inl ⟨rfl, rfl⟩
    · rw [if_neg q, if_neg (by omega)]
      exact .inl ⟨rfl, h⟩
  · unfold qLm qTk
    rw [if_pos (by omega), if_pos (by omega)]
    exact .inl ⟨rfl, rfl⟩
/-- what mended finds -/
def qMd (T : Nat → Nat → Int) (n : Nat) (st : qSt) : qSt := qSr (fun w oth st => qTk oth 0 w st) T n n 0 (fun _ => 0) 0 0 st
theorem qMd_eq {T : Nat → Nat → Int} {n : Nat} (hn : n ≤ 8) {a b : qSt} (ha : 9 ≤ a.1) (hb : 9 ≤ b.1) : qRl (qSm T n n 0 (fun _ => 0) 0 0 a) (qMd T n b) := by
  rw [qSm_eq]
  exact qSr_rel hn qLm_rl n 0 _ 0 0 a b (by omega) (qIn_0 n _) (by omega) (by omega) (.inr ⟨ha, hb⟩)
theorem qMd_hit {T : Nat → Nat → Int} {n : Nat} (hn : n ≤ 8) (h2 : ¬ n = 1) (b : qSt) : (qMd T n b).1 ≤ 8 := by
  unfold qMd
  by_cases hn0 : n = 0
  · subst hn0
    exact qTk_8 (by omega)
  · obtain ⟨m, rfl⟩ : ∃ m, n = m + 2 := ⟨n - 2, by omega⟩
    refine qSr_hit (S := fun st : qSt => st.1 ≤ 8) hn (by omega) (fun w oth st _ h => qTk_k h) (fun w oth st ho _ _ => qTk_8 ho) (m + 1) 0 _ 0 0 b (by omega) (by omega) (by omega) (fun j hj => absurd hj (by omega)) (fun j hj hz => ?_)
    rw [pBt_0 ⟨j, hj⟩] at hz
    cases hz
