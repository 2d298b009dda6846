/-! ===== ways in which each cares for another one: what is a ring, when a circle closes early (pure) ===== -/
theorem qPH : ∀ (n : Nat) (f : Nat → Nat), (∀ i, i ≤ n → f i < n) → ∃ i j, i < j ∧ j ≤ n ∧ f i = f j
  | 0, f, h => absurd (h 0 (Nat.le_refl 0)) (by omega)
  | n + 1, f, h => by
    by_cases hx : ∃ i, i ≤ n ∧ f i = f (n + 1)
    · obtain ⟨i, hi, he⟩ := hx
      exact ⟨i, n + 1, by omega, by omega, he⟩
    · have hne : ∀ i, i ≤ n → f i ≠ f (n + 1) := fun i hi he => hx ⟨i, hi, he⟩
      have hL := h (n + 1) (by omega)
      obtain ⟨i, j, h1, h2, h3⟩ := qPH n (fun i => if f i = n then f (n + 1) else f i) (fun i hi => by
        have a := h i (by omega)
        have b := hne i hi
        show (if f i = n then f (n + 1) else f i) < n
        split <;> omega)
      have a := hne i (by omega)
      have b := hne j (by omega)
      refine ⟨i, j, h1, by omega, ?_⟩
      revert h3
      show (if f i = n then f (n + 1) else f i) = (if f j = n then f (n + 1) else f j) → f i = f j
      split <;> split <;> omega
def qIt (w : Nat → Nat) (x : Nat) : Nat → Nat
  | 0 => x
  | k + 1 => w (qIt w x k)
theorem qIt_add (w : Nat → Nat) (x b : Nat) : ∀ a, qIt w x (a + b) = qIt w (qIt w x b) a
  | 0 => by rw [Nat.zero_add, qIt]
  | a + 1 => by rw [Nat.add_right_comm, qIt, qIt, qIt_add w x b a]
theorem qIt_sh (w : Nat → Nat) (x k : Nat) : qIt w (w x) k = qIt w x (k + 1) := (qIt_add w x 1 k).symm
/-- a way: each of n cares for one of n, each is cared for by one -/
def qPm (n : Nat) (w : Nat → Nat) : Prop := (∀ i, i < n → w i < n) ∧ ∀ i j, i < n → j < n → w i = w j → i = j
section QPM
variable {n : Nat} {w : Nat → Nat}
theorem qIt_lt (h : qPm n w) {x : Nat} (hx : x < n) : ∀ k, qIt w x k < n
  | 0 => hx
  | k + 1 => h.1 _ (qIt_lt h hx k)
theorem qIt_inj (h : qPm n w) {x y : Nat} (hx : x < n) (hy : y < n) : ∀ k, qIt w x k = qIt w y k → x = y
  | 0, e => e
  | k + 1, e => qIt_inj h hx hy k (h.2 _ _ (qIt_lt h hx k) (qIt_lt h hy k) e)
theorem qIt_back (h : qPm n w) {x i j : Nat} (hx : x < n) (hij : i ≤ j) (e : qIt w x i = qIt w x j) : qIt w x (j - i) = x := by
  have e2 : qIt w x j = qIt w (qIt w x (j - i)) i := by
    rw [← qIt_add]
    congr 1
    omega
  exact (qIt_inj h hx (qIt_lt h hx _) i (e.trans e2)).symm
theorem qIt_ret (h : qPm n w) {x : Nat} (hx : x < n) : ∃ c, 1 ≤ c ∧ c ≤ n ∧ qIt w x c = x := by
  obtain ⟨i, j, h1, h2, h3⟩ := qPH n (fun i => qIt w x i) (fun i _ => qIt_lt h hx i)
  exact ⟨j - i, by omega, by omega, qIt_back h hx (by omega) h3⟩
theorem qPm_on (h : qPm n w) {y : Nat} (hy : y < n) : ∃ i, i < n ∧ w i = y := by
  obtain ⟨i, j, h1, h2, h3⟩ := qPH n (fun i => if i < n then w i else y) (fun i _ => by
    show (if i < n then w i else y) < n
    split
    · exact h.1 i (by assumption)
    · exact hy)
  have h3 : (if i < n then w i else y) = (if j < n then w j else y) := h3
  rw [if_pos (show i < n by omega)] at h3
  by_cases hj : j < n
  · rw [if_pos hj] at h3
    exact absurd (h.2 i j (by omega) hj h3) (by omega)
  · rw [if_neg hj] at h3
    exact ⟨i, by omega, h3⟩
theorem qRg_iff (w : Nat → Nat) : ∀ k x, qRg w k x = true ↔ (∀ j, 1 ≤ j → j ≤ k → qIt w x j ≠ 0) ∧ qIt w x (k + 1) = 0
  | 0, x => by
    rw [qRg, beq_iff_eq]
    exact ⟨fun h => ⟨fun j a b => absurd a (by omega), h⟩, fun h => h.2⟩
  | k + 1, x => by
    have ih := qRg_iff w k (w x)
    rw [qRg]
    by_cases q : w x = 0
    · rw [if_pos q]
      constructor
      · intro h
        cases h
      · intro h
        exact absurd q (h.1 1 (by omega) (by omega))
    · rw [if_neg q, ih]
      constructor
      · rintro ⟨h1, h2⟩
        refine ⟨fun j a b => ?_, ?_⟩
        · by_cases ej : j = 1
          · subst ej
            exact q
          · obtain ⟨t, rfl⟩ : ∃ t, j = t + 2 := ⟨j - 2, by omega⟩
            rw [← qIt_sh]
            exact h1 (t + 1) (by omega) (by omega)
        · rw [← qIt_sh]
          exact h2
      · rintro ⟨h1, h2⟩
        refine ⟨fun j a b => ?_, ?_⟩
        · rw [qIt_sh]
          exact h1 (j + 1) (by omega) (by omega)
        · rw [qIt_sh]
          exact h2
/-- as far as one comes below v -/
def qWk (w : Nat → Nat) (v : Nat) : Nat → Nat → Nat
  | 0, x => x
  | k + 1, x => if x < v then qWk w v k (w x) else x
theorem qWk_cg {w w' : Nat → Nat} {v : Nat} (h : ∀ j, j < v → w j = w' j) : ∀ k x, qWk w v k x = qWk w' v k x
  | 0, x => rfl
  | k + 1, x => by
    rw [qWk, qWk]
    by_cases q : x < v
    · rw [if_pos q, if_pos q, h x q, qWk_cg h k]
    · rw [if_neg q, if_neg q]
theorem qWk_it (w : Nat → Nat) (v : Nat) : ∀ k x, ∃ s, s ≤ k ∧ qIt w x s = qWk w v k x ∧ ∀ j, j < s → qIt w x j < v
  | 0, x => ⟨0, Nat.le_refl 0, rfl, fun j hj => absurd hj (by omega)⟩
  | k + 1, x => by
    rw [qWk]
    by_cases q : x < v
    · rw [if_pos q]
      obtain ⟨s, h1, h2, h3⟩ := qWk_it w v k (w x)
      refine ⟨s + 1, by omega, by rw [← qIt_sh]; exact h2, fun j hj => ?_⟩
      cases j with
      | zero => exact q
      | succ t =>
        rw [← qIt_sh]
        exact h3 t (by omega)
    · rw [if_neg q]
      exact ⟨0, by omega, rfl, fun j hj => absurd hj (by omega)⟩
theorem qWk_of {v : Nat} : ∀ k x s, s ≤ k → qIt w x s = v → (∀ j, j < s → qIt w x j < v) → qWk w v k x = v
  | 0, x, s, h1, h2, h3 => by
    have e : s = 0 := by omega
    subst e
    exact h2
  | k + 1, x, 0, h1, h2, h3 => by
    have h2 : x = v := h2
    rw [qWk, if_neg (by omega)]
    exact h2
  | k + 1, x, s + 1, h1, h2, h3 => by
    have h0 : x < v := h3 0 (by omega)
    rw [qWk, if_pos h0]
    refine qWk_of k (w x) s (by omega) (by rw [qIt_sh]; exact h2) (fun j hj => ?_)
    rw [qIt_sh]
    exact h3 (j + 1) (by omega)
/-- the circle through v closes when v's care is told -/
def qEv (w : Nat → Nat) (v : Nat) : Prop := qWk w v 8 (w v) = v
theorem qEv_le {v : Nat} (h : qEv w v) : ∀ j, qIt w v j ≤ v := by
  obtain ⟨s, h1, h2, h3⟩ := qWk_it w v 8 (w v)
  rw [show qWk w v 8 (w v) = v from h, qIt_sh] at h2
  have key : ∀ m j, j ≤ m → qIt w v j ≤ v := by
    intro m
    induction m with
    | zero =>
      intro j hj
      have e : j = 0 := by omega
      subst e
      exact Nat.le_refl v
    | succ m ih =>
      intro j hj
      rcases (by omega : j = 0 ∨ (1 ≤ j ∧ j ≤ s) ∨ s + 1 ≤ j) with rfl | q | q
      · exact Nat.le_refl v
      · have := h3 (j - 1) (by omega)
        rw [qIt_sh, show j - 1 + 1 = j by omega] at this
        omega
      · have e : qIt w v j = qIt w v (j - (s + 1)) := by
          have := qIt_add w v (s + 1) (j - (s + 1))
          rw [h2, show j - (s + 1) + (s + 1) = j by omega] at this
          exact this
        rw [e]
        exact ih _ (by omega)
  exact fun j => key j j (Nat.le_refl j)
theorem qRg_no (h : qPm n w) {v : Nat} (hv : v + 1 < n) (he : qEv w v) : qRg w (n - 1) 0 = false := by
  cases hq : qRg w (n - 1) 0 with
  | false => rfl
  | true =>
    obtain ⟨h1, h2⟩ := (qRg_iff w (n - 1) 0).1 hq
    rw [show n - 1 + 1 = n by omega] at h2
    have hall : ∀ y, y < n → ∃ a, a < n ∧ qIt w 0 a = y := by
      intro y hy
      obtain ⟨i, j, g1, g2, g3⟩ := qPH n (fun i => if i < n then qIt w 0 i else y) (fun i _ => by
        show (if i < n then qIt w 0 i else y) < n
        split
        · exact qIt_lt h (by omega) i
        · exact hy)
      have g3 : (if i < n then qIt w 0 i else y) = (if j < n then qIt w 0 j else y) := g3
      rw [if_pos (show i < n by omega)] at g3
      by_cases hj : j < n
      · rw [if_pos hj] at g3
        exact absurd (qIt_back h (by omega) (by omega) g3) (h1 (j - i) (by omega) (by omega))
      · rw [if_neg hj] at g3
        exact ⟨i, by omega, g3⟩
    obtain ⟨a, ha, ea⟩ := hall (n - 1) (by omega)
    obtain ⟨b, hb, eb⟩ := hall v (by omega)
    have hle := qEv_le he (a + n - b)
    rw [← eb, ← qIt_add, show a + n - b + b = a + n by omega, qIt_add, h2, ea] at hle
    omega
theorem qIt_min {x : Nat} : ∀ m c, c ≤ m → 1 ≤ c → qIt w x c = x → ∃ s, s + 1 ≤ c ∧ qIt w x (s + 1) = x ∧ ∀ j, j < s → qIt w x (j + 1) ≠ x
  | 0, c, h0, h1, h2 => absurd h1 (by omega)
  | m + 1, c, h0, h1, h2 => by
    by_cases q : ∃ j, j + 1 < c ∧ qIt w x (j + 1) = x
    · obtain ⟨j, g1, g2⟩ := q
      obtain ⟨s, k1, k2⟩ := qIt_min m (j + 1) (by omega) (by omega) g2
      exact ⟨s, by omega, k2⟩
    · refine ⟨c - 1, by omega, by rw [show c - 1 + 1 = c by omega]; exact h2, fun j hj hx => q ⟨j, by omega, hx⟩⟩
theorem qIt_max {x : Nat} : ∀ m, (∀ j, qIt w x j ≤ m) → ∃ v, (∃ j, qIt w x j = v) ∧ ∀ j, qIt w x j ≤ v
  | 0, h => ⟨0, ⟨0, by have := h 0; omega⟩, h⟩
  | m + 1, h => by
    by_cases q : ∃ j, qIt w x j = m + 1
    · exact ⟨m + 1, q, h⟩
    · exact qIt_max m (fun j => by
        have := h j
        have : qIt w x j ≠ m + 1 := fun e => q ⟨j, e⟩
        omega)
theorem qIt_mul {x c : Nat} (h : qIt w x c = x) : ∀ m, qIt w x (c * m) = x
  | 0 => rfl
  | m + 1 => by
    rw [Nat.mul_succ, qIt_add, h]
    exact qIt_mul h m
theorem qIt_mod {x c : Nat} (h : qIt w x c = x) (j : Nat) : qIt w x (j % c) = qIt w x j := by
  have e := qIt_add w x (c * (j / c)) (j % c)
  rw [Nat.mod_add_div, qIt_mul h] at e
  exact e.symm
theorem qRg_yes (h : qPm n w) (hn : 0 < n) (h8 : n ≤ 8) (he : ∀ v, v + 1 < n → ¬ qEv w v) : qRg w (n - 1) 0 = true := by
  refine Classical.byContradiction (fun hno => ?_)
  have hc : ∃ c, 1 ≤ c ∧ c < n ∧ qIt w 0 c = 0 := by
    refine Classical.byContradiction (fun hx => hno ((qRg_iff w (n - 1) 0).2 ⟨fun j a b e => hx ⟨j, a, by omega, e⟩, ?_⟩))
    obtain ⟨c, g1, g2, g3⟩ := qIt_ret h hn
    rcases (by omega : c = n ∨ c < n) with e | e
    · rw [show n - 1 + 1 = n by omega, ← e]
      exact g3
    · exact absurd ⟨c, g1, e, g3⟩ hx
  obtain ⟨c, c1, c2, c3⟩ := hc
  have hx : ∃ x, x < n ∧ ∀ j, qIt w x j ≠ n - 1 := by
    by_cases q : ∀ j, qIt w 0 j ≠ n - 1
    · exact ⟨0, hn, q⟩
    · obtain ⟨i0, e0⟩ : ∃ i, qIt w 0 i = n - 1 := Classical.byContradiction (fun hx => q (fun j e => hx ⟨j, e⟩))
      have hy : ∃ y, y < n ∧ ∀ j, qIt w 0 j ≠ y := by
        refine Classical.byContradiction (fun hx => ?_)
        have hf : ∀ y, ∃ j, y < n → j < c ∧ qIt w 0 j = y := by
          intro y
          by_cases hy : y < n
          · obtain ⟨j, ej⟩ : ∃ j, qIt w 0 j = y := Classical.byContradiction (fun hz => hx ⟨y, hy, fun j e => hz ⟨j, e⟩⟩)
            exact ⟨j % c, fun _ => ⟨Nat.mod_lt _ (by omega), (qIt_mod c3 j).trans ej⟩⟩
          · exact ⟨0, fun hz => absurd hz hy⟩
        obtain ⟨i, j, g1, g2, g3⟩ := qPH c (fun y => Classical.choose (hf y)) (fun y hy => (Classical.choose_spec (hf y) (by omega)).1)
        have g3 : Classical.choose (hf i) = Classical.choose (hf j) := g3
        have ei := (Classical.choose_spec (hf i) (by omega)).2
        have ej := (Classical.choose_spec (hf j) (by omega)).2
        rw [g3, ej] at ei
        omega
      obtain ⟨y, hy, hy2⟩ := hy
      refine ⟨y, hy, fun j ej => ?_⟩
      obtain ⟨cy, k1, k2, k3⟩ := qIt_ret h hy
      have hle : j ≤ cy * (j + 1) := Nat.le_trans (by omega) (Nat.le_mul_of_pos_left (j + 1) k1)
      have e1 : qIt w (qIt w y j) (cy * (j + 1) - j) = y := by
        rw [← qIt_add, show cy * (j + 1) - j + j = cy * (j + 1) by omega]
        exact qIt_mul k3 _
      rw [ej, ← e0, ← qIt_add] at e1
      exact hy2 _ e1
  obtain ⟨x, hx1, hx2⟩ := hx
  obtain ⟨v, ⟨j0, ej0⟩, hv⟩ := qIt_max (w := w) (x := x) n (fun j => Nat.le_of_lt (qIt_lt h hx1 j))
  have hvn : v < n := by
    rw [← ej0]
    exact qIt_lt h hx1 j0
  have hv1 : v + 1 < n := by
    have := hx2 j0
    omega
  have hvo : ∀ j, qIt w v j ≤ v := by
    intro j
    have := hv (j + j0)
    rw [qIt_add, ej0] at this
    exact this
  obtain ⟨cv, m1, m2, m3⟩ := qIt_ret h hvn
  obtain ⟨s, s1, s2, s3⟩ := qIt_min (w := w) (x := v) cv cv (Nat.le_refl _) m1 m3
  refine he v hv1 (qWk_of 8 (w v) s (by omega) (by rw [qIt_sh]; exact s2) (fun j hj => ?_))
  have a := hvo (j + 1)
  have b := s3 j hj
  rw [qIt_sh]
  omega
end QPM
