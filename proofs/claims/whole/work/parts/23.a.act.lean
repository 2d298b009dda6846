/-! ===== act ===== -/
theorem mB_0 : mBo 0 = Int32.ofInt 1 := by decide
theorem mB_1 : mBo 1 = Int32.ofInt 10 := by decide
theorem mB_2 : mBo 2 = Int32.ofInt 11 := by decide
theorem mB_3 : mBo 3 = Int32.ofInt 2 := by decide
theorem mB_4 : mBo 4 = Int32.ofInt 20 := by decide
theorem mB_5 : mBo 5 = Int32.ofInt 0 := by decide
theorem mB_6 : mBo 6 = Int32.ofInt 0 := by decide
theorem mB_7 : mBo 7 = Int32.ofInt 0 := by decide
theorem mB_8 : mBo 8 = Int32.ofInt 0 := by decide
theorem mB_9 : mBo 9 = Int32.ofInt 30 := by decide
theorem mB_10 : mBo 10 = Int32.ofInt 0 := by decide
theorem mB_11 : mBo 11 = Int32.ofInt 0 := by decide
theorem mB_12 : mBo 12 = Int32.ofInt 0 := by decide
theorem mB_13 : mBo 13 = Int32.ofInt 41 := by decide
theorem mB_14 : mBo 14 = Int32.ofInt 40 := by decide
theorem mB_15 : mBo 15 = Int32.ofInt 0 := by decide
theorem mB_16 : mBo 16 = Int32.ofInt 0 := by decide
theorem mB_17 : mBo 17 = Int32.ofInt 0 := by decide
theorem mB_18 : mBo 18 = Int32.ofInt 50 := by decide
theorem mB_19 : mBo 19 = Int32.ofInt 0 := by decide
theorem mB_20 : mBo 20 = Int32.ofInt 0 := by decide
theorem mB_21 : mBo 21 = Int32.ofInt 0 := by decide
theorem mB_22 : mBo 22 = Int32.ofInt 0 := by decide
theorem mB_23 : mBo 23 = Int32.ofInt 60 := by decide
theorem mB_24 : mBo 24 = Int32.ofInt 70 := by decide
theorem mB_25 : mBo 25 = Int32.ofInt 0 := by decide
theorem mB_26 : mBo 26 = Int32.ofInt 0 := by decide
theorem mB_27 : mBo 27 = Int32.ofInt 0 := by decide
theorem mB_28 : mBo 28 = Int32.ofInt 0 := by decide
theorem mB_29 : mBo 29 = Int32.ofInt 80 := by decide
theorem mB_30 : mBo 30 = Int32.ofInt 0 := by decide
theorem mB_31 : mBo 31 = Int32.ofInt 81 := by decide
section BOD
variable {d n : Nat} {e : List mShp} {I I' : Nat → Nat → Int32} {E : Nat → Nat → Int64} {F : Nat → Nat → Nat} {T : Nat → Nat → Int} {lw : vLw} {st nx gf rl dr bn c : Nat}
def vScB (r j : Nat) : Prop := (r = 53 ∧ (j = 3 ∨ j = 4)) ∨ r = 55 ∨ (r = 80 ∧ j = 43) ∨ r = 104
theorem vInv_bod (h : vInv c e I E F st nx gf rl dr n bn T lw) (ha : vAg vScB I I') {N : Nat} (hN : N ≤ 1000) (h0 : I' 53 3 = jI N) (h1 : I' 80 43 = jI N) (h2 : ∀ j, j < 24 → j < N → I' 55 j = I' 104 j) : vInv c e I' E F st nx gf rl dr n bn T lw := by
  obtain ⟨g1, g2, g3, g4, g5, g6, g7, g8, g9, g10, g11, g12, g13, g14, g15, g16, g17, g18⟩ := h
  have hrow : ∀ r, (∀ j, ¬ vScB r j) → I' r = I r := fun r hr => vAg_row ha hr
  have hpl : ∀ r j, ¬ vScB r j → I' r j = I r j := ha
  have hrl : rl = 70 ∨ rl = 75 := by omega
  have hgf : gf = 27 ∨ gf = 105 := by rcases g4 with ⟨h, -⟩ | ⟨h, -⟩ <;> omega
  obtain ⟨b0, b1, b2, b3, -, b5, b6⟩ := g13
  unfold vScB at hrow hpl
  refine ⟨g1, g2, g3, g4, g5, ?_, ?_, ?_, ?_, ?_, ?_, ?_, ⟨b0, ?_, ?_, ?_, ⟨N, hN, h0, h1, h2⟩, ?_, ?_⟩, ?_, ?_, ?_, ?_, ?_⟩
  · rw [hrow 5 (by omega), hrow 6 (by omega), hrow 7 (by omega), hrow 8 (by omega), hrow 9 (by omega), hpl 4 0 (by omega), hpl 4 6 (by omega), hpl 4 7 (by omega)]
    exact g6
  · rw [hrow 81 (by omega), hpl 80 2 (by omega)]
    exact g7
  · rw [hpl 80 20 (by omega)]
    exact g8
  · rw [hrow 60 (by omega), hrow 98 (by omega)]
    exact g9
  · rw [hpl 3 12 (by omega), hpl 80 37 (by omega), hrow 62 (by omega), hrow 63 (by omega), hrow 64 (by omega), hrow 65 (by omega), hrow 66 (by omega), hpl 61 0 (by omega), hpl 61 6 (by omega), hpl 61 7 (by omega), hrow 99 (by omega), hpl 80 36 (by omega), hrow 69 (by omega), hrow 100 (by omega)]
    exact g10
  · rw [hpl 48 4 (by omega), hpl 48 5 (by omega), hpl 80 6 (by omega), hpl 80 7 (by omega), hrow 49 (by omega), hrow 50 (by omega), hrow 51 (by omega), hrow 52 (by omega), hrow 83 (by omega), hrow 84 (by omega), hrow 85 (by omega)]
    exact g11
  · rw [hpl 20 1 (by omega), hpl 80 9 (by omega), hrow 21 (by omega), hrow 86 (by omega)]
    exact g12
  · rw [hpl 53 1 (by omega)]
    exact b1
  · rw [hpl 80 41 (by omega)]
    exact b2
  · rw [hrow 54 (by omega), hrow 103 (by omega)]
    exact b3
  · rw [hrow 101 (by omega)]
    exact b5
  · rw [hrow 102 (by omega)]
    exact b6
  · rw [hrow 57 (by omega), hrow 58 (by omega), hrow 94 (by omega), hrow 95 (by omega)]
    exact g14
  · rw [hrow (rl + 1) (by omega), hrow (rl + 2) (by omega), hpl rl 2 (by omega)]
    exact g15
  · rw [hrow 87 (by omega), hrow 90 (by omega), hpl 80 11 (by omega), hpl 80 12 (by omega)]
    exact g16
  · rw [hrow 23 (by omega), hpl 22 1 (by omega), hpl 22 2 (by omega), hpl 22 3 (by omega), hpl 22 8 (by omega), hrow gf (by omega)]
    exact g17
  · rw [hrow 90 (by omega)]
    exact g18
end BOD
theorem mN_81 : mNotIn (Int32.ofInt 81) [1, 2, 10, 11, 20, 30, 40, 41, 50, 60, 70, 80] = true := by decide
