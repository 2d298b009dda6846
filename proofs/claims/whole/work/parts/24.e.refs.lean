/-! ===== what refs hold, after a write ===== -/
def fU (F : Nat → Nat → Nat) (k j x : Nat) : Nat → Nat → Nat := fun a b => if a = k ∧ b = j then x else F a b
theorem mSetR_u {I : Nat → Nat → Int32} {E : Nat → Nat → Int64} {F : Nat → Nat → Nat} {k j x : Nat} : mSetR (I, E, F) k j x = (I, E, fU F k j x) := rfl
theorem fU_eq {F : Nat → Nat → Nat} {k j x : Nat} : fU F k j x k j = x := if_pos ⟨rfl, rfl⟩
theorem fU_ne {F : Nat → Nat → Nat} {k j x a b : Nat} (h : ¬ (a = k ∧ b = j)) : fU F k j x a b = F a b := if_neg h
theorem mFx_iff {F : Nat → Nat → Nat} {st nx gf rl dr : Nat} : mFx F st nx gf rl dr ↔ (F 3 0 = 4 ∧ F 3 1 = 12 ∧ F 3 2 = 20 ∧ F 3 3 = 22 ∧ F 3 4 = 28 ∧ F 3 5 = 31 ∧ F 3 6 = 48 ∧ F 3 7 = 53 ∧ F 3 8 = 56 ∧ F 3 9 = 60 ∧ F 3 10 = 61 ∧ F 3 11 = 69 ∧ F 3 13 = rl ∧ F 3 14 = dr ∧ F 4 1 = 5 ∧ F 4 2 = 6 ∧ F 4 3 = 7 ∧ F 4 4 = 8 ∧ F 4 5 = 9 ∧ F 4 8 = 10 ∧ F 4 9 = 11 ∧ F 12 1 = 13 ∧ F 12 2 = 14 ∧ F 12 3 = 15 ∧ F 12 4 = 16 ∧ F 12 5 = 17 ∧ F 12 8 = 18 ∧ F 12 9 = 19 ∧ F 20 0 = 21 ∧ F 22 0 = 23 ∧ F 22 4 = 24 ∧ F 22 5 = st ∧ F 22 6 = nx ∧ F 22 7 = gf ∧ F 28 0 = 29 ∧ F 28 2 = 30 ∧ F 31 0 = 32 ∧ F 31 1 = 40 ∧ F 32 1 = 33 ∧ F 32 2 = 34 ∧ F 32 3 = 35 ∧ F 32 4 = 36 ∧ F 32 5 = 37 ∧ F 32 8 = 38 ∧ F 32 9 = 39 ∧ F 40 1 = 41 ∧ F 40 2 = 42 ∧ F 40 3 = 43 ∧ F 40 4 = 44 ∧ F 40 5 = 45 ∧ F 40 8 = 46 ∧ F 40 9 = 47 ∧ F 48 0 = 49 ∧ F 48 1 = 50 ∧ F 48 2 = 51 ∧ F 48 3 = 52 ∧ F 53 0 = 54 ∧ F 53 2 = 55 ∧ F 56 0 = 57 ∧ F 56 1 = 58 ∧ F 56 2 = 59 ∧ F 61 1 = 62 ∧ F 61 2 = 63 ∧ F 61 3 = 64 ∧ F 61 4 = 65 ∧ F 61 5 = 66 ∧ F 61 8 = 67 ∧ F 61 9 = 68 ∧ F 70 0 = 71 ∧ F 70 1 = 72 ∧ F 70 3 = 73 ∧ F 70 4 = 74 ∧ F 75 0 = 76 ∧ F 75 1 = 77 ∧ F 75 3 = 78 ∧ F 75 4 = 79 ∧ F 80 0 = 81 ∧ F 80 1 = 82 ∧ F 80 3 = 83 ∧ F 80 4 = 84 ∧ F 80 5 = 85 ∧ F 80 8 = 86 ∧ F 80 10 = 87 ∧ F 80 13 = 88 ∧ F 80 18 = 89 ∧ F 80 19 = 90 ∧ F 80 21 = 91 ∧ F 80 23 = 92 ∧ F 80 24 = 93 ∧ F 80 28 = 94 ∧ F 80 29 = 95 ∧ F 80 30 = 96 ∧ F 80 31 = 97 ∧ F 80 33 = 98 ∧ F 80 34 = 99 ∧ F 80 35 = 100 ∧ F 80 38 = 101 ∧ F 80 39 = 102 ∧ F 80 40 = 103 ∧ F 80 42 = 104) := by
  unfold mFx
  simp only [List.forall_mem_cons, List.not_mem_nil, false_implies, implies_true, and_true]
theorem mFx_rl {F : Nat → Nat → Nat} {st nx gf rl dr : Nat} (h : mFx F st nx gf rl dr) : mFx (fU (fU F 3 13 dr) 3 14 rl) st nx gf dr rl := by
  obtain ⟨k0, k1, k2, k3, k4, k5, k6, k7, k8, k9, k10, k11, k12, k13, k14, k15, k16, k17, k18, k19, k20, k21, k22, k23, k24, k25, k26, k27, k28, k29, k30, k31, k32, k33, k34, k35, k36, k37, k38, k39, k40, k41, k42, k43, k44, k45, k46, k47, k48, k49, k50, k51, k52, k53, k54, k55, k56, k57, k58, k59, k60, k61, k62, k63, k64, k65, k66, k67, k68, k69, k70, k71, k72, k73, k74, k75, k76, k77, k78, k79, k80, k81, k82, k83, k84, k85, k86, k87, k88, k89, k90, k91, k92, k93, k94, k95, k96, k97, k98, k99⟩ := mFx_iff.1 h
  refine mFx_iff.2 ⟨?_, ?_, ?_, ?_, ?_, ?_, ?_, ?_, ?_, ?_, ?_, ?_, ?_, ?_, ?_, ?_, ?_, ?_, ?_, ?_, ?_, ?_, ?_, ?_, ?_, ?_, ?_, ?_, ?_, ?_, ?_, ?_, ?_, ?_, ?_, ?_, ?_, ?_, ?_, ?_, ?_, ?_, ?_, ?_, ?_, ?_, ?_, ?_, ?_, ?_, ?_, ?_, ?_, ?_, ?_, ?_, ?_, ?_, ?_, ?_, ?_, ?_, ?_, ?_, ?_, ?_, ?_, ?_, ?_, ?_, ?_, ?_, ?_, ?_, ?_, ?_, ?_, ?_, ?_, ?_, ?_, ?_, ?_, ?_, ?_, ?_, ?_, ?_, ?_, ?_, ?_, ?_, ?_, ?_, ?_, ?_, ?_, ?_, ?_, ?_⟩
  · exact (fU_ne (by omega)).trans ((fU_ne (by omega)).trans k0)
  · exact (fU_ne (by omega)).trans ((fU_ne (by omega)).trans k1)
  · exact (fU_ne (by omega)).trans ((fU_ne (by omega)).trans k2)
  · exact (fU_ne (by omega)).trans ((fU_ne (by omega)).trans k3)
  · exact (fU_ne (by omega)).trans ((fU_ne (by omega)).trans k4)
  · exact (fU_ne (by omega)).trans ((fU_ne (by omega)).trans k5)
  · exact (fU_ne (by omega)).trans ((fU_ne (by omega)).trans k6)
  · exact (fU_ne (by omega)).trans ((fU_ne (by omega)).trans k7)
  · exact (fU_ne (by omega)).trans ((fU_ne (by omega)).trans k8)
  · exact (fU_ne (by omega)).trans ((fU_ne (by omega)).trans k9)
  · exact (fU_ne (by omega)).trans ((fU_ne (by omega)).trans k10)
  · exact (fU_ne (by omega)).trans ((fU_ne (by omega)).trans k11)
  · exact (fU_ne (by omega)).trans fU_eq
  · exact fU_eq
  · exact (fU_ne (by omega)).trans ((fU_ne (by omega)).trans k14)
  · exact (fU_ne (by omega)).trans ((fU_ne (by omega)).trans k15)
  · exact (fU_ne (by omega)).trans ((fU_ne (by omega)).trans k16)
  · exact (fU_ne (by omega)).trans ((fU_ne (by omega)).trans k17)
  · exact (fU_ne (by omega)).trans ((fU_ne (by omega)).trans k18)
  · exact (fU_ne (by omega)).trans ((fU_ne (by omega)).trans k19)
  · exact (fU_ne (by omega)).trans ((fU_ne (by omega)).trans k20)
  · exact (fU_ne (by omega)).trans ((fU_ne (by omega)).trans k21)
  · exact (fU_ne (by omega)).trans ((fU_ne (by omega)).trans k22)
  · exact (fU_ne (by omega)).trans ((fU_ne (by omega)).trans k23)
  · exact (fU_ne (by omega)).trans ((fU_ne (by omega)).trans k24)
  · exact (fU_ne (by omega)).trans ((fU_ne (by omega)).trans k25)
  · exact (fU_ne (by omega)).trans ((fU_ne (by omega)).trans k26)
  · exact (fU_ne (by omega)).trans ((fU_ne (by omega)).trans k27)
  · exact (fU_ne (by omega)).trans ((fU_ne (by omega)).trans k28)
  · exact (fU_ne (by omega)).trans ((fU_ne (by omega)).trans k29)
  · exact (fU_ne (by omega)).trans ((fU_ne (by omega)).trans k30)
  · exact (fU_ne (by omega)).trans ((fU_ne (by omega)).trans k31)
  · exact (fU_ne (by omega)).trans ((fU_ne (by omega)).trans k32)
  · exact (fU_ne (by omega)).trans ((fU_ne (by omega)).trans k33)
  · exact (fU_ne (by omega)).trans ((fU_ne (by omega)).trans k34)
  · exact (fU_ne (by omega)).trans ((fU_ne (by omega)).trans k35)
  · exact (fU_ne (by omega)).trans ((fU_ne (by omega)).trans k36)
  · exact (fU_ne (by omega)).trans ((fU_ne (by omega)).trans k37)
  · exact (fU_ne (by omega)).trans ((fU_ne (by omega)).trans k38)
  · exact (fU_ne (by omega)).trans ((fU_ne (by omega)).trans k39)
  · exact (fU_ne (by omega)).trans ((fU_ne (by omega)).trans k40)
  · exact (fU_ne (by omega)).trans ((fU_ne (by omega)).trans k41)
  · exact (fU_ne (by omega)).trans ((fU_ne (by omega)).trans k42)
  · exact (fU_ne (by omega)).trans ((fU_ne (by omega)).trans k43)
  · exact (fU_ne (by omega)).trans ((fU_ne (by omega)).trans k44)
  · exact (fU_ne (by omega)).trans ((fU_ne (by omega)).trans k45)
  · exact (fU_ne (by omega)).trans ((fU_ne (by omega)).trans k46)
  · exact (fU_ne (by omega)).trans ((fU_ne (by omega)).trans k47)
  · exact (fU_ne (by omega)).trans ((fU_ne (by omega)).trans k48)
  · exact (fU_ne (by omega)).trans ((fU_ne (by omega)).trans k49)
  · exact (fU_ne (by omega)).trans ((fU_ne (by omega)).trans k50)
  · exact (fU_ne (by omega)).trans ((fU_ne (by omega)).trans k51)
  · exact (fU_ne (by omega)).trans ((fU_ne (by omega)).trans k52)
  · exact (fU_ne (by omega)).trans ((fU_ne (by omega)).trans k53)
  · exact (fU_ne (by omega)).trans ((fU_ne (by omega)).trans k54)
  · exact (fU_ne (by omega)).trans ((fU_ne (by omega)).trans k55)
  · exact (fU_ne (by omega)).trans ((fU_ne (by omega)).trans k56)
  · exact (fU_ne (by omega)).trans ((fU_ne (by omega)).trans k57)
  · exact (fU_ne (by omega)).trans ((fU_ne (by omega)).trans k58)
  · exact (fU_ne (by omega)).trans ((fU_ne (by omega)).trans k59)
  · exact (fU_ne (by omega)).trans ((fU_ne (by omega)).trans k60)
  · exact (fU_ne (by omega)).trans ((fU_ne (by omega)).trans k61)
  · exact (fU_ne (by omega)).trans ((fU_ne (by omega)).trans k62)
  · exact (fU_ne (by omega)).trans ((fU_ne (by omega)).trans k63)
  · exact (fU_ne (by omega)).trans ((fU_ne (by omega)).trans k64)
  · exact (fU_ne (by omega)).trans ((fU_ne (by omega)).trans k65)
  · exact (fU_ne (by omega)).trans ((fU_ne (by omega)).trans k66)
  · exact (fU_ne (by omega)).trans ((fU_ne (by omega)).trans k67)
  · exact (fU_ne (by omega)).trans ((fU_ne (by omega)).trans k68)
  · exact (fU_ne (by omega)).trans ((fU_ne (by omega)).trans k69)
  · exact (fU_ne (by omega)).trans ((fU_ne (by omega)).trans k70)
  · exact (fU_ne (by omega)).trans ((fU_ne (by omega)).trans k71)
  · exact (fU_ne (by omega)).trans ((fU_ne (by omega)).trans k72)
  · exact (fU_ne (by omega)).trans ((fU_ne (by omega)).trans k73)
  · exact (fU_ne (by omega)).trans ((fU_ne (by omega)).trans k74)
  · exact (fU_ne (by omega)).trans ((fU_ne (by omega)).trans k75)
  · exact (fU_ne (by omega)).trans ((fU_ne (by omega)).trans k76)
  · exact (fU_ne (by omega)).trans ((fU_ne (by omega)).trans k77)
  · exact (fU_ne (by omega)).trans ((fU_ne (by omega)).trans k78)
  · exact (fU_ne (by omega)).trans ((fU_ne (by omega)).trans k79)
  · exact (fU_ne (by omega)).trans ((fU_ne (by omega)).trans k80)
  · exact (fU_ne (by omega)).trans ((fU_ne (by omega)).trans k81)
  · exact (fU_ne (by omega)).trans ((fU_ne (by omega)).trans k82)
  · exact (fU_ne (by omega)).trans ((fU_ne (by omega)).trans k83)
  · exact (fU_ne (by omega)).trans ((fU_ne (by omega)).trans k84)
  · exact (fU_ne (by omega)).trans ((fU_ne (by omega)).trans k85)
  · exact (fU_ne (by omega)).trans ((fU_ne (by omega)).trans k86)
  · exact (fU_ne (by omega)).trans ((fU_ne (by omega)).trans k87)
  · exact (fU_ne (by omega)).trans ((fU_ne (by omega)).trans k88)
  · exact (fU_ne (by omega)).trans ((fU_ne (by omega)).trans k89)
  · exact (fU_ne (by omega)).trans ((fU_ne (by omega)).trans k90)
  · exact (fU_ne (by omega)).trans ((fU_ne (by omega)).trans k91)
  · exact (fU_ne (by omega)).trans ((fU_ne (by omega)).trans k92)
  · exact (fU_ne (by omega)).trans ((fU_ne (by omega)).trans k93)
  · exact (fU_ne (by omega)).trans ((fU_ne (by omega)).trans k94)
  · exact (fU_ne (by omega)).trans ((fU_ne (by omega)).trans k95)
  · exact (fU_ne (by omega)).trans ((fU_ne (by omega)).trans k96)
  · exact (fU_ne (by omega)).trans ((fU_ne (by omega)).trans k97)
  · exact (fU_ne (by omega)).trans ((fU_ne (by omega)).trans k98)
  · exact (fU_ne (by omega)).trans ((fU_ne (by omega)).trans k99)
theorem mFx_st {F : Nat → Nat → Nat} {st nx gf rl dr : Nat} (h : mFx F st nx gf rl dr) : mFx (fU (fU F 22 5 nx) 22 6 st) nx st gf rl dr := by
  obtain ⟨k0, k1, k2, k3, k4, k5, k6, k7, k8, k9, k10, k11, k12, k13, k14, k15, k16, k17, k18, k19, k20, k21, k22, k23, k24, k25, k26, k27, k28, k29, k30, k31, k32, k33, k34, k35, k36, k37, k38, k39, k40, k41, k42, k43, k44, k45, k46, k47, k48, k49, k50, k51, k52, k53, k54, k55, k56, k57, k58, k59, k60, k61, k62, k63, k64, k65, k66, k67, k68, k69, k70, k71, k72, k73, k74, k75, k76, k77, k78, k79, k80, k81, k82, k83, k84, k85, k86, k87, k88, k89, k90, k91, k92, k93, k94, k95, k96, k97, k98, k99⟩ := mFx_iff.1 h
  refine mFx_iff.2 ⟨?_, ?_, ?_, ?_, ?_, ?_, ?_, ?_, ?_, ?_, ?_, ?_, ?_, ?_, ?_, ?_, ?_, ?_, ?_, ?_, ?_, ?_, ?_, ?_, ?_, ?_, ?_, ?_, ?_, ?_, ?_, ?_, ?_, ?_, ?_, ?_, ?_, ?_, ?_, ?_, ?_, ?_, ?_, ?_, ?_, ?_, ?_, ?_, ?_, ?_, ?_, ?_, ?_, ?_, ?_, ?_, ?_, ?_, ?_, ?_, ?_, ?_, ?_, ?_, ?_, ?_, ?_, ?_, ?_, ?_, ?_, ?_, ?_, ?_, ?_, ?_, ?_, ?_, ?_, ?_, ?_, ?_, ?_, ?_, ?_, ?_, ?_, ?_, ?_, ?_, ?_, ?_, ?_, ?_, ?_, ?_, ?_, ?_, ?_, ?_⟩
  · exact (fU_ne (by omega)).trans ((fU_ne (by omega)).trans k0)
  · exact (fU_ne (by omega)).trans ((fU_ne (by omega)).trans k1)
  · exact (fU_ne (by omega)).trans ((fU_ne (by omega)).trans k2)
  · exact (fU_ne (by omega)).trans ((fU_ne (by omega)).trans k3)
  · exact (fU_ne (by omega)).trans ((fU_ne (by omega)).trans k4)
  · exact (fU_ne (by omega)).trans ((fU_ne (by omega)).trans k5)
  · exact (fU_ne (by omega)).trans ((fU_ne (by omega)).trans k6)
  · exact (fU_ne (by omega)).trans ((fU_ne (by omega)).trans k7)
  · exact (fU_ne (by omega)).trans ((fU_ne (by omega)).trans k8)
  · exact (fU_ne (by omega)).trans ((fU_ne (by omega)).trans k9)
  · exact (fU_ne (by omega)).trans ((fU_ne (by omega)).trans k10)
  · exact (fU_ne (by omega)).trans ((fU_ne (by omega)).trans k11)
  · exact (fU_ne (by omega)).trans ((fU_ne (by omega)).trans k12)
  · exact (fU_ne (by omega)).trans ((fU_ne (by omega)).trans k13)
  · exact (fU_ne (by omega)).trans ((fU_ne (by omega)).trans k14)
  · exact (fU_ne (by omega)).trans ((fU_ne (by omega)).trans k15)
  · exact (fU_ne (by omega)).trans ((fU_ne (by omega)).trans k16)
  · exact (fU_ne (by omega)).trans ((fU_ne (by omega)).trans k17)
  · exact (fU_ne (by omega)).trans ((fU_ne (by omega)).trans k18)
  · exact (fU_ne (by omega)).trans ((fU_ne (by omega)).trans k19)
  · exact (fU_ne (by omega)).trans ((fU_ne (by omega)).trans k20)
  · exact (fU_ne (by omega)).trans ((fU_ne (by omega)).trans k21)
  · exact (fU_ne (by omega)).trans ((fU_ne (by omega)).trans k22)
  · exact (fU_ne (by omega)).trans ((fU_ne (by omega)).trans k23)
  · exact (fU_ne (by omega)).trans ((fU_ne (by omega)).trans k24)
  · exact (fU_ne (by omega)).trans ((fU_ne (by omega)).trans k25)
  · exact (fU_ne (by omega)).trans ((fU_ne (by omega)).trans k26)
  · exact (fU_ne (by omega)).trans ((fU_ne (by omega)).trans k27)
  · exact (fU_ne (by omega)).trans ((fU_ne (by omega)).trans k28)
  · exact (fU_ne (by omega)).trans ((fU_ne (by omega)).trans k29)
  · exact (fU_ne (by omega)).trans ((fU_ne (by omega)).trans k30)
  · exact (fU_ne (by omega)).trans fU_eq
  · exact fU_eq
  · exact (fU_ne (by omega)).trans ((fU_ne (by omega)).trans k33)
  · exact (fU_ne (by omega)).trans ((fU_ne (by omega)).trans k34)
  · exact (fU_ne (by omega)).trans ((fU_ne (by omega)).trans k35)
  · exact (fU_ne (by omega)).trans ((fU_ne (by omega)).trans k36)
  · exact (fU_ne (by omega)).trans ((fU_ne (by omega)).trans k37)
  · exact (fU_ne (by omega)).trans ((fU_ne (by omega)).trans k38)
  · exact (fU_ne (by omega)).trans ((fU_ne (by omega)).trans k39)
  · exact (fU_ne (by omega)).trans ((fU_ne (by omega)).trans k40)
  · exact (fU_ne (by omega)).trans ((fU_ne (by omega)).trans k41)
  · exact (fU_ne (by omega)).trans ((fU_ne (by omega)).trans k42)
  · exact (fU_ne (by omega)).trans ((fU_ne (by omega)).trans k43)
  · exact (fU_ne (by omega)).trans ((fU_ne (by omega)).trans k44)
  · exact (fU_ne (by omega)).trans ((fU_ne (by omega)).trans k45)
  · exact (fU_ne (by omega)).trans ((fU_ne (by omega)).trans k46)
  · exact (fU_ne (by omega)).trans ((fU_ne (by omega)).trans k47)
  · exact (fU_ne (by omega)).trans ((fU_ne (by omega)).trans k48)
  · exact (fU_ne (by omega)).trans ((fU_ne (by omega)).trans k49)
  · exact (fU_ne (by omega)).trans ((fU_ne (by omega)).trans k50)
  · exact (fU_ne (by omega)).trans ((fU_ne (by omega)).trans k51)
  · exact (fU_ne (by omega)).trans ((fU_ne (by omega)).trans k52)
  · exact (fU_ne (by omega)).trans ((fU_ne (by omega)).trans k53)
  · exact (fU_ne (by omega)).trans ((fU_ne (by omega)).trans k54)
  · exact (fU_ne (by omega)).trans ((fU_ne (by omega)).trans k55)
  · exact (fU_ne (by omega)).trans ((fU_ne (by omega)).trans k56)
  · exact (fU_ne (by omega)).trans ((fU_ne (by omega)).trans k57)
  · exact (fU_ne (by omega)).trans ((fU_ne (by omega)).trans k58)
  · exact (fU_ne (by omega)).trans ((fU_ne (by omega)).trans k59)
  · exact (fU_ne (by omega)).trans ((fU_ne (by omega)).trans k60)
  · exact (fU_ne (by omega)).trans ((fU_ne (by omega)).trans k61)
  · exact (fU_ne (by omega)).trans ((fU_ne (by omega)).trans k62)
  · exact (fU_ne (by omega)).trans ((fU_ne (by omega)).trans k63)
  · exact (fU_ne (by omega)).trans ((fU_ne (by omega)).trans k64)
  · exact (fU_ne (by omega)).trans ((fU_ne (by omega)).trans k65)
  · exact (fU_ne (by omega)).trans ((fU_ne (by omega)).trans k66)
  · exact (fU_ne (by omega)).trans ((fU_ne (by omega)).trans k67)
  · exact (fU_ne (by omega)).trans ((fU_ne (by omega)).trans k68)
  · exact (fU_ne (by omega)).trans ((fU_ne (by omega)).trans k69)
  · exact (fU_ne (by omega)).trans ((fU_ne (by omega)).trans k70)
  · exact (fU_ne (by omega)).trans ((fU_ne (by omega)).trans k71)
  · exact (fU_ne (by omega)).trans ((fU_ne (by omega)).trans k72)
  · exact (fU_ne (by omega)).trans ((fU_ne (by omega)).trans k73)
  · exact (fU_ne (by omega)).trans ((fU_ne (by omega)).trans k74)
  · exact (fU_ne (by omega)).trans ((fU_ne (by omega)).trans k75)
  · exact (fU_ne (by omega)).trans ((fU_ne (by omega)).trans k76)
  · exact (fU_ne (by omega)).trans ((fU_ne (by omega)).trans k77)
  · exact (fU_ne (by omega)).trans ((fU_ne (by omega)).trans k78)
  · exact (fU_ne (by omega)).trans ((fU_ne (by omega)).trans k79)
  · exact (fU_ne (by omega)).trans ((fU_ne (by omega)).trans k80)
  · exact (fU_ne (by omega)).trans ((fU_ne (by omega)).trans k81)
  · exact (fU_ne (by omega)).trans ((fU_ne (by omega)).trans k82)
  · exact (fU_ne (by omega)).trans ((fU_ne (by omega)).trans k83)
  · exact (fU_ne (by omega)).trans ((fU_ne (by omega)).trans k84)
  · exact (fU_ne (by omega)).trans ((fU_ne (by omega)).trans k85)
  · exact (fU_ne (by omega)).trans ((fU_ne (by omega)).trans k86)
  · exact (fU_ne (by omega)).trans ((fU_ne (by omega)).trans k87)
  · exact (fU_ne (by omega)).trans ((fU_ne (by omega)).trans k88)
  · exact (fU_ne (by omega)).trans ((fU_ne (by omega)).trans k89)
  · exact (fU_ne (by omega)).trans ((fU_ne (by omega)).trans k90)
  · exact (fU_ne (by omega)).trans ((fU_ne (by omega)).trans k91)
  · exact (fU_ne (by omega)).trans ((fU_ne (by omega)).trans k92)
  · exact (fU_ne (by omega)).trans ((fU_ne (by omega)).trans k93)
  · exact (fU_ne (by omega)).trans ((fU_ne (by omega)).trans k94)
  · exact (fU_ne (by omega)).trans ((fU_ne (by omega)).trans k95)
  · exact (fU_ne (by omega)).trans ((fU_ne (by omega)).trans k96)
  · exact (fU_ne (by omega)).trans ((fU_ne (by omega)).trans k97)
  · exact (fU_ne (by omega)).trans ((fU_ne (by omega)).trans k98)
  · exact (fU_ne (by omega)).trans ((fU_ne (by omega)).trans k99)
theorem mFx_gf {F : Nat → Nat → Nat} {st nx gf rl dr : Nat} (h : mFx F st nx gf rl dr) : mFx (fU F 22 7 105) st nx 105 rl dr := by
  obtain ⟨k0, k1, k2, k3, k4, k5, k6, k7, k8, k9, k10, k11, k12, k13, k14, k15, k16, k17, k18, k19, k20, k21, k22, k23, k24, k25, k26, k27, k28, k29, k30, k31, k32, k33, k34, k35, k36, k37, k38, k39, k40, k41, k42, k43, k44, k45, k46, k47, k48, k49, k50, k51, k52, k53, k54, k55, k56, k57, k58, k59, k60, k61, k62, k63, k64, k65, k66, k67, k68, k69, k70, k71, k72, k73, k74, k75, k76, k77, k78, k79, k80, k81, k82, k83, k84, k85, k86, k87, k88, k89, k90, k91, k92, k93, k94, k95, k96, k97, k98, k99⟩ := mFx_iff.1 h
  refine mFx_iff.2 ⟨?_, ?_, ?_, ?_, ?_, ?_, ?_, ?_, ?_, ?_, ?_, ?_, ?_, ?_, ?_, ?_, ?_, ?_, ?_, ?_, ?_, ?_, ?_, ?_, ?_, ?_, ?_, ?_, ?_, ?_, ?_, ?_, ?_, ?_, ?_, ?_, ?_, ?_, ?_, ?_, ?_, ?_, ?_, ?_, ?_, ?_, ?_, ?_, ?_, ?_, ?_, ?_, ?_, ?_, ?_, ?_, ?_, ?_, ?_, ?_, ?_, ?_, ?_, ?_, ?_, ?_, ?_, ?_, ?_, ?_, ?_, ?_, ?_, ?_, ?_, ?_, ?_, ?_, ?_, ?_, ?_, ?_, ?_, ?_, ?_, ?_, ?_, ?_, ?_, ?_, ?_, ?_, ?_, ?_, ?_, ?_, ?_, ?_, ?_, ?_⟩
  · exact (fU_ne (by omega)).trans k0
  · exact (fU_ne (by omega)).trans k1
  · exact (fU_ne (by omega)).trans k2
  · exact (fU_ne (by omega)).trans k3
  · exact (fU_ne (by omega)).trans k4
  · exact (fU_ne (by omega)).trans k5
  · exact (fU_ne (by omega)).trans k6
  · exact (fU_ne (by omega)).trans k7
  · exact (fU_ne (by omega)).trans k8
  · exact (fU_ne (by omega)).trans k9
  · exact (fU_ne (by omega)).trans k10
  · exact (fU_ne (by omega)).trans k11
  · exact (fU_ne (by omega)).trans k12
  · exact (fU_ne (by omega)).trans k13
  · exact (fU_ne (by omega)).trans k14
  · exact (fU_ne (by omega)).trans k15
  · exact (fU_ne (by omega)).trans k16
  · exact (fU_ne (by omega)).trans k17
  · exact (fU_ne (by omega)).trans k18
  · exact (fU_ne (by omega)).trans k19
  · exact (fU_ne (by omega)).trans k20
  · exact (fU_ne (by omega)).trans k21
  · exact (fU_ne (by omega)).trans k22
  · exact (fU_ne (by omega)).trans k23
  · exact (fU_ne (by omega)).trans k24
  · exact (fU_ne (by omega)).trans k25
  · exact (fU_ne (by omega)).trans k26
  · exact (fU_ne (by omega)).trans k27
  · exact (fU_ne (by omega)).trans k28
  · exact (fU_ne (by omega)).trans k29
  · exact (fU_ne (by omega)).trans k30
  · exact (fU_ne (by omega)).trans k31
  · exact (fU_ne (by omega)).trans k32
  · exact fU_eq
  · exact (fU_ne (by omega)).trans k34
  · exact (fU_ne (by omega)).trans k35
  · exact (fU_ne (by omega)).trans k36
  · exact (fU_ne (by omega)).trans k37
  · exact (fU_ne (by omega)).trans k38
  · exact (fU_ne (by omega)).trans k39
  · exact (fU_ne (by omega)).trans k40
  · exact (fU_ne (by omega)).trans k41
  · exact (fU_ne (by omega)).trans k42
  · exact (fU_ne (by omega)).trans k43
  · exact (fU_ne (by omega)).trans k44
  · exact (fU_ne (by omega)).trans k45
  · exact (fU_ne (by omega)).trans k46
  · exact (fU_ne (by omega)).trans k47
  · exact (fU_ne (by omega)).trans k48
  · exact (fU_ne (by omega)).trans k49
  · exact (fU_ne (by omega)).trans k50
  · exact (fU_ne (by omega)).trans k51
  · exact (fU_ne (by omega)).trans k52
  · exact (fU_ne (by omega)).trans k53
  · exact (fU_ne (by omega)).trans k54
  · exact (fU_ne (by omega)).trans k55
  · exact (fU_ne (by omega)).trans k56
  · exact (fU_ne (by omega)).trans k57
  · exact (fU_ne (by omega)).trans k58
  · exact (fU_ne (by omega)).trans k59
  · exact (fU_ne (by omega)).trans k60
  · exact (fU_ne (by omega)).trans k61
  · exact (fU_ne (by omega)).trans k62
  · exact (fU_ne (by omega)).trans k63
  · exact (fU_ne (by omega)).trans k64
  · exact (fU_ne (by omega)).trans k65
  · exact (fU_ne (by omega)).trans k66
  · exact (fU_ne (by omega)).trans k67
  · exact (fU_ne (by omega)).trans k68
  · exact (fU_ne (by omega)).trans k69
  · exact (fU_ne (by omega)).trans k70
  · exact (fU_ne (by omega)).trans k71
  · exact (fU_ne (by omega)).trans k72
  · exact (fU_ne (by omega)).trans k73
  · exact (fU_ne (by omega)).trans k74
  · exact (fU_ne (by omega)).trans k75
  · exact (fU_ne (by omega)).trans k76
  · exact (fU_ne (by omega)).trans k77
  · exact (fU_ne (by omega)).trans k78
  · exact (fU_ne (by omega)).trans k79
  · exact (fU_ne (by omega)).trans k80
  · exact (fU_ne (by omega)).trans k81
  · exact (fU_ne (by omega)).trans k82
  · exact (fU_ne (by omega)).trans k83
  · exact (fU_ne (by omega)).trans k84
  · exact (fU_ne (by omega)).trans k85
  · exact (fU_ne (by omega)).trans k86
  · exact (fU_ne (by omega)).trans k87
  · exact (fU_ne (by omega)).trans k88
  · exact (fU_ne (by omega)).trans k89
  · exact (fU_ne (by omega)).trans k90
  · exact (fU_ne (by omega)).trans k91
  · exact (fU_ne (by omega)).trans k92
  · exact (fU_ne (by omega)).trans k93
  · exact (fU_ne (by omega)).trans k94
  · exact (fU_ne (by omega)).trans k95
  · exact (fU_ne (by omega)).trans k96
  · exact (fU_ne (by omega)).trans k97
  · exact (fU_ne (by omega)).trans k98
  · exact (fU_ne (by omega)).trans k99
