/-! ===== the world of the law: 77 cells of the class from 3 on, 25 of the reference from 80 on (by program: gen07.py) ===== -/
def mLayC : List mShp := [(12, 15), (10, 11), (0, 8), (0, 8), (0, 8), (0, 8), (0, 8), (0, 8), (0, 8), (10, 11), (0, 8), (0, 8), (0, 8), (0, 8), (0, 8), (0, 8), (0, 8), (6, 3), (0, 120), (7, 10), (0, 8), (0, 8), (0, 8), (0, 8), (0, 0), (5, 3), (0, 8), (0, 8), (11, 5), (10, 11), (0, 8), (0, 8), (0, 8), (0, 8), (0, 8), (0, 8), (0, 8), (10, 11), (0, 8), (0, 8), (0, 8), (0, 8), (0, 8), (0, 8), (0, 8), (3, 6), (0, 40), (0, 40), (0, 40), (0, 40), (9, 5), (0, 50), (0, 24), (8, 3), (0, 6), (0, 6), (1, 360), (0, 5), (10, 11), (0, 8), (0, 8), (0, 8), (0, 8), (0, 8), (0, 8), (0, 8), (0, 5), (4, 5), (0, 128), (0, 128), (0, 48), (0, 6), (4, 5), (0, 128), (0, 128), (0, 48), (0, 6), (13, 44), (0, 42), (0, 294), (0, 40), (0, 40), (0, 40), (0, 120), (0, 120), (0, 120), (0, 6), (2, 6), (0, 8), (0, 8), (0, 8), (0, 6), (0, 6), (1, 360), (1, 60), (0, 5), (0, 42), (0, 5), (0, 8), (0, 32), (0, 50), (0, 24)]
def mLay (e : List mShp) : List mShp := mLayC ++ e
theorem sh_3 {e : List mShp} : mSh (mLay e) 3 = some (12, 15) := by
  have h : mSh (mLay e) 3 = some (12, 15) := rfl
  exact h
theorem sh_4 {e : List mShp} : mSh (mLay e) 4 = some (10, 11) := by
  have h : mSh (mLay e) 4 = some (10, 11) := rfl
  exact h
theorem sh_5 {e : List mShp} : mSh (mLay e) 5 = some (0, 8) := by
  have h : mSh (mLay e) 5 = some (0, 8) := rfl
  exact h
theorem sh_6 {e : List mShp} : mSh (mLay e) 6 = some (0, 8) := by
  have h : mSh (mLay e) 6 = some (0, 8) := rfl
  exact h
theorem sh_7 {e : List mShp} : mSh (mLay e) 7 = some (0, 8) := by
  have h : mSh (mLay e) 7 = some (0, 8) := rfl
  exact h
theorem sh_8 {e : List mShp} : mSh (mLay e) 8 = some (0, 8) := by
  have h : mSh (mLay e) 8 = some (0, 8) := rfl
  exact h
theorem sh_9 {e : List mShp} : mSh (mLay e) 9 = some (0, 8) := by
  have h : mSh (mLay e) 9 = some (0, 8) := rfl
  exact h
theorem sh_10 {e : List mShp} : mSh (mLay e) 10 = some (0, 8) := by
  have h : mSh (mLay e) 10 = some (0, 8) := rfl
  exact h
theorem sh_11 {e : List mShp} : mSh (mLay e) 11 = some (0, 8) := by
  have h : mSh (mLay e) 11 = some (0, 8) := rfl
  exact h
theorem sh_12 {e : List mShp} : mSh (mLay e) 12 = some (10, 11) := by
  have h : mSh (mLay e) 12 = some (10, 11) := rfl
  exact h
theorem sh_13 {e : List mShp} : mSh (mLay e) 13 = some (0, 8) := by
  have h : mSh (mLay e) 13 = some (0, 8) := rfl
  exact h
theorem sh_14 {e : List mShp} : mSh (mLay e) 14 = some (0, 8) := by
  have h : mSh (mLay e) 14 = some (0, 8) := rfl
  exact h
theorem sh_15 {e : List mShp} : mSh (mLay e) 15 = some (0, 8) := by
  have h : mSh (mLay e) 15 = some (0, 8) := rfl
  exact h
theorem sh_16 {e : List mShp} : mSh (mLay e) 16 = some (0, 8) := by
  have h : mSh (mLay e) 16 = some (0, 8) := rfl
  exact h
theorem sh_17 {e : List mShp} : mSh (mLay e) 17 = some (0, 8) := by
  have h : mSh (mLay e) 17 = some (0, 8) := rfl
  exact h
theorem sh_18 {e : List mShp} : mSh (mLay e) 18 = some (0, 8) := by
  have h : mSh (mLay e) 18 = some (0, 8) := rfl
  exact h
theorem sh_19 {e : List mShp} : mSh (mLay e) 19 = some (0, 8) := by
  have h : mSh (mLay e) 19 = some (0, 8) := rfl
  exact h
theorem sh_20 {e : List mShp} : mSh (mLay e) 20 = some (6, 3) := by
  have h : mSh (mLay e) 20 = some (6, 3) := rfl
  exact h
theorem sh_21 {e : List mShp} : mSh (mLay e) 21 = some (0, 120) := by
  have h : mSh (mLay e) 21 = some (0, 120) := rfl
  exact h
theorem sh_22 {e : List mShp} : mSh (mLay e) 22 = some (7, 10) := by
  have h : mSh (mLay e) 22 = some (7, 10) := rfl
  exact h
theorem sh_23 {e : List mShp} : mSh (mLay e) 23 = some (0, 8) := by
  have h : mSh (mLay e) 23 = some (0, 8) := rfl
  exact h
theorem sh_24 {e : List mShp} : mSh (mLay e) 24 = some (0, 8) := by
  have h : mSh (mLay e) 24 = some (0, 8) := rfl
  exact h
theorem sh_25 {e : List mShp} : mSh (mLay e) 25 = some (0, 8) := by
  have h : mSh (mLay e) 25 = some (0, 8) := rfl
  exact h
theorem sh_26 {e : List mShp} : mSh (mLay e) 26 = some (0, 8) := by
  have h : mSh (mLay e) 26 = some (0, 8) := rfl
  exact h
theorem sh_27 {e : List mShp} : mSh (mLay e) 27 = some (0, 0) := by
  have h : mSh (mLay e) 27 = some (0, 0) := rfl
  exact h
theorem sh_28 {e : List mShp} : mSh (mLay e) 28 = some (5, 3) := by
  have h : mSh (mLay e) 28 = some (5, 3) := rfl
  exact h
theorem sh_29 {e : List mShp} : mSh (mLay e) 29 = some (0, 8) := by
  have h : mSh (mLay e) 29 = some (0, 8) := rfl
  exact h
theorem sh_30 {e : List mShp} : mSh (mLay e) 30 = some (0, 8) := by
  have h : mSh (mLay e) 30 = some (0, 8) := rfl
  exact h
theorem sh_31 {e : List mShp} : mSh (mLay e) 31 = some (11, 5) := by
  have h : mSh (mLay e) 31 = some (11, 5) := rfl
  exact h
theorem sh_32 {e : List mShp} : mSh (mLay e) 32 = some (10, 11) := by
  have h : mSh (mLay e) 32 = some (10, 11) := rfl
  exact h
theorem sh_33 {e : List mShp} : mSh (mLay e) 33 = some (0, 8) := by
  have h : mSh (mLay e) 33 = some (0, 8) := rfl
  exact h
theorem sh_34 {e : List mShp} : mSh (mLay e) 34 = some (0, 8) := by
  have h : mSh (mLay e) 34 = some (0, 8) := rfl
  exact h
theorem sh_35 {e : List mShp} : mSh (mLay e) 35 = some (0, 8) := by
  have h : mSh (mLay e) 35 = some (0, 8) := rfl
  exact h
theorem sh_36 {e : List mShp} : mSh (mLay e) 36 = some (0, 8) := by
  have h : mSh (mLay e) 36 = some (0, 8) := rfl
  exact h
theorem sh_37 {e : List mShp} : mSh (mLay e) 37 = some (0, 8) := by
  have h : mSh (mLay e) 37 = some (0, 8) := rfl
  exact h
theorem sh_38 {e : List mShp} : mSh (mLay e) 38 = some (0, 8) := by
  have h : mSh (mLay e) 38 = some (0, 8) := rfl
  exact h
theorem sh_39 {e : List mShp} : mSh (mLay e) 39 = some (0, 8) := by
  have h : mSh (mLay e) 39 = some (0, 8) := rfl
  exact h
theorem sh_40 {e : List mShp} : mSh (mLay e) 40 = some (10, 11) := by
  have h : mSh (mLay e) 40 = some (10, 11) := rfl
  exact h
theorem sh_41 {e : List mShp} : mSh (mLay e) 41 = some (0, 8) := by
  have h : mSh (mLay e) 41 = some (0, 8) := rfl
  exact h
theorem sh_42 {e : List mShp} : mSh (mLay e) 42 = some (0, 8) := by
  have h : mSh (mLay e) 42 = some (0, 8) := rfl
  exact h
theorem sh_43 {e : List mShp} : mSh (mLay e) 43 = some (0, 8) := by
  have h : mSh (mLay e) 43 = some (0, 8) := rfl
  exact h
theorem sh_44 {e : List mShp} : mSh (mLay e) 44 = some (0, 8) := by
  have h : mSh (mLay e) 44 = some (0, 8) := rfl
  exact h
theorem sh_45 {e : List mShp} : mSh (mLay e) 45 = some (0, 8) := by
  have h : mSh (mLay e) 45 = some (0, 8) := rfl
  exact h
theorem sh_46 {e : List mShp} : mSh (mLay e) 46 = some (0, 8) := by
  have h : mSh (mLay e) 46 = some (0, 8) := rfl
  exact h
theorem sh_47 {e : List mShp} : mSh (mLay e) 47 = some (0, 8) := by
  have h : mSh (mLay e) 47 = some (0, 8) := rfl
  exact h
theorem sh_48 {e : List mShp} : mSh (mLay e) 48 = some (3, 6) := by
  have h : mSh (mLay e) 48 = some (3, 6) := rfl
  exact h
theorem sh_49 {e : List mShp} : mSh (mLay e) 49 = some (0, 40) := by
  have h : mSh (mLay e) 49 = some (0, 40) := rfl
  exact h
theorem sh_50 {e : List mShp} : mSh (mLay e) 50 = some (0, 40) := by
  have h : mSh (mLay e) 50 = some (0, 40) := rfl
  exact h
theorem sh_51 {e : List mShp} : mSh (mLay e) 51 = some (0, 40) := by
  have h : mSh (mLay e) 51 = some (0, 40) := rfl
  exact h
theorem sh_52 {e : List mShp} : mSh (mLay e) 52 = some (0, 40) := by
  have h : mSh (mLay e) 52 = some (0, 40) := rfl
  exact h
theorem sh_53 {e : List mShp} : mSh (mLay e) 53 = some (9, 5) := by
  have h : mSh (mLay e) 53 = some (9, 5) := rfl
  exact h
theorem sh_54 {e : List mShp} : mSh (mLay e) 54 = some (0, 50) := by
  have h : mSh (mLay e) 54 = some (0, 50) := rfl
  exact h
theorem sh_55 {e : List mShp} : mSh (mLay e) 55 = some (0, 24) := by
  have h : mSh (mLay e) 55 = some (0, 24) := rfl
  exact h
theorem sh_56 {e : List mShp} : mSh (mLay e) 56 = some (8, 3) := by
  have h : mSh (mLay e) 56 = some (8, 3) := rfl
  exact h
theorem sh_57 {e : List mShp} : mSh (mLay e) 57 = some (0, 6) := by
  have h : mSh (mLay e) 57 = some (0, 6) := rfl
  exact h
theorem sh_58 {e : List mShp} : mSh (mLay e) 58 = some (0, 6) := by
  have h : mSh (mLay e) 58 = some (0, 6) := rfl
  exact h
theorem sh_59 {e : List mShp} : mSh (mLay e) 59 = some (1, 360) := by
  have h : mSh (mLay e) 59 = some (1, 360) := rfl
  exact h
theorem sh_60 {e : List mShp} : mSh (mLay e) 60 = some (0, 5) := by
  have h : mSh (mLay e) 60 = some (0, 5) := rfl
  exact h
theorem sh_61 {e : List mShp} : mSh (mLay e) 61 = some (10, 11) := by
  have h : mSh (mLay e) 61 = some (10, 11) := rfl
  exact h
theorem sh_62 {e : List mShp} : mSh (mLay e) 62 = some (0, 8) := by
  have h : mSh (mLay e) 62 = some (0, 8) := rfl
  exact h
theorem sh_63 {e : List mShp} : mSh (mLay e) 63 = some (0, 8) := by
  have h : mSh (mLay e) 63 = some (0, 8) := rfl
  exact h
theorem sh_64 {e : List mShp} : mSh (mLay e) 64 = some (0, 8) := by
  have h : mSh (mLay e) 64 = some (0, 8) := rfl
  exact h
theorem sh_65 {e : List mShp} : mSh (mLay e) 65 = some (0, 8) := by
  have h : mSh (mLay e) 65 = some (0, 8) := rfl
  exact h
theorem sh_66 {e : List mShp} : mSh (mLay e) 66 = some (0, 8) := by
  have h : mSh (mLay e) 66 = some (0, 8) := rfl
  exact h
theorem sh_67 {e : List mShp} : mSh (mLay e) 67 = some (0, 8) := by
  have h : mSh (mLay e) 67 = some (0, 8) := rfl
  exact h
theorem sh_68 {e : List mShp} : mSh (mLay e) 68 = some (0, 8) := by
  have h : mSh (mLay e) 68 = some (0, 8) := rfl
  exact h
theorem sh_69 {e : List mShp} : mSh (mLay e) 69 = some (0, 5) := by
  have h : mSh (mLay e) 69 = some (0, 5) := rfl
  exact h
theorem sh_70 {e : List mShp} : mSh (mLay e) 70 = some (4, 5) := by
  have h : mSh (mLay e) 70 = some (4, 5) := rfl
  exact h
theorem sh_71 {e : List mShp} : mSh (mLay e) 71 = some (0, 128) := by
  have h : mSh (mLay e) 71 = some (0, 128) := rfl
  exact h
theorem sh_72 {e : List mShp} : mSh (mLay e) 72 = some (0, 128) := by
  have h : mSh (mLay e) 72 = some (0, 128) := rfl
  exact h
theorem sh_73 {e : List mShp} : mSh (mLay e) 73 = some (0, 48) := by
  have h : mSh (mLay e) 73 = some (0, 48) := rfl
  exact h
theorem sh_74 {e : List mShp} : mSh (mLay e) 74 = some (0, 6) := by
  have h : mSh (mLay e) 74 = some (0, 6) := rfl
  exact h
theorem sh_75 {e : List mShp} : mSh (mLay e) 75 = some (4, 5) := by
  have h : mSh (mLay e) 75 = some (4, 5) := rfl
  exact h
theorem sh_76 {e : List mShp} : mSh (mLay e) 76 = some (0, 128) := by
  have h : mSh (mLay e) 76 = some (0, 128) := rfl
  exact h
theorem sh_77 {e : List mShp} : mSh (mLay e) 77 = some (0, 128) := by
  have h : mSh (mLay e) 77 = some (0, 128) := rfl
  exact h
theorem sh_78 {e : List mShp} : mSh (mLay e) 78 = some (0, 48) := by
  have h : mSh (mLay e) 78 = some (0, 48) := rfl
  exact h
theorem sh_79 {e : List mShp} : mSh (mLay e) 79 = some (0, 6) := by
  have h : mSh (mLay e) 79 = some (0, 6) := rfl
  exact h
theorem sh_80 {e : List mShp} : mSh (mLay e) 80 = some (13, 44) := by
  have h : mSh (mLay e) 80 = some (13, 44) := rfl
  exact h
theorem sh_81 {e : List mShp} : mSh (mLay e) 81 = some (0, 42) := by
  have h : mSh (mLay e) 81 = some (0, 42) := rfl
  exact h
theorem sh_82 {e : List mShp} : mSh (mLay e) 82 = some (0, 294) := by
  have h : mSh (mLay e) 82 = some (0, 294) := rfl
  exact h
theorem sh_83 {e : List mShp} : mSh (mLay e) 83 = some (0, 40) := by
  have h : mSh (mLay e) 83 = some (0, 40) := rfl
  exact h
theorem sh_84 {e : List mShp} : mSh (mLay e) 84 = some (0, 40) := by
  have h : mSh (mLay e) 84 = some (0, 40) := rfl
  exact h
theorem sh_85 {e : List mShp} : mSh (mLay e) 85 = some (0, 40) := by
  have h : mSh (mLay e) 85 = some (0, 40) := rfl
  exact h
theorem sh_86 {e : List mShp} : mSh (mLay e) 86 = some (0, 120) := by
  have h : mSh (mLay e) 86 = some (0, 120) := rfl
  exact h
theorem sh_87 {e : List mShp} : mSh (mLay e) 87 = some (0, 120) := by
  have h : mSh (mLay e) 87 = some (0, 120) := rfl
  exact h
theorem sh_88 {e : List mShp} : mSh (mLay e) 88 = some (0, 120) := by
  have h : mSh (mLay e) 88 = some (0, 120) := rfl
  exact h
theorem sh_89 {e : List mShp} : mSh (mLay e) 89 = some (0, 6) := by
  have h : mSh (mLay e) 89 = some (0, 6) := rfl
  exact h
theorem sh_90 {e : List mShp} : mSh (mLay e) 90 = some (2, 6) := by
  have h : mSh (mLay e) 90 = some (2, 6) := rfl
  exact h
theorem sh_91 {e : List mShp} : mSh (mLay e) 91 = some (0, 8) := by
  have h : mSh (mLay e) 91 = some (0, 8) := rfl
  exact h
theorem sh_92 {e : List mShp} : mSh (mLay e) 92 = some (0, 8) := by
  have h : mSh (mLay e) 92 = some (0, 8) := rfl
  exact h
theorem sh_93 {e : List mShp} : mSh (mLay e) 93 = some (0, 8) := by
  have h : mSh (mLay e) 93 = some (0, 8) := rfl
  exact h
theorem sh_94 {e : List mShp} : mSh (mLay e) 94 = some (0, 6) := by
  have h : mSh (mLay e) 94 = some (0, 6) := rfl
  exact h
theorem sh_95 {e : List mShp} : mSh (mLay e) 95 = some (0, 6) := by
  have h : mSh (mLay e) 95 = some (0, 6) := rfl
  exact h
theorem sh_96 {e : List mShp} : mSh (mLay e) 96 = some (1, 360) := by
  have h : mSh (mLay e) 96 = some (1, 360) := rfl
  exact h
theorem sh_97 {e : List mShp} : mSh (mLay e) 97 = some (1, 60) := by
  have h : mSh (mLay e) 97 = some (1, 60) := rfl
  exact h
theorem sh_98 {e : List mShp} : mSh (mLay e) 98 = some (0, 5) := by
  have h : mSh (mLay e) 98 = some (0, 5) := rfl
  exact h
theorem sh_99 {e : List mShp} : mSh (mLay e) 99 = some (0, 42) := by
  have h : mSh (mLay e) 99 = some (0, 42) := rfl
  exact h
theorem sh_100 {e : List mShp} : mSh (mLay e) 100 = some (0, 5) := by
  have h : mSh (mLay e) 100 = some (0, 5) := rfl
  exact h
theorem sh_101 {e : List mShp} : mSh (mLay e) 101 = some (0, 8) := by
  have h : mSh (mLay e) 101 = some (0, 8) := rfl
  exact h
theorem sh_102 {e : List mShp} : mSh (mLay e) 102 = some (0, 32) := by
  have h : mSh (mLay e) 102 = some (0, 32) := rfl
  exact h
theorem sh_103 {e : List mShp} : mSh (mLay e) 103 = some (0, 50) := by
  have h : mSh (mLay e) 103 = some (0, 50) := rfl
  exact h
theorem sh_104 {e : List mShp} : mSh (mLay e) 104 = some (0, 24) := by
  have h : mSh (mLay e) 104 = some (0, 24) := rfl
  exact h
def mFx (F : Nat → Nat → Nat) (st nx gf rl dr : Nat) : Prop := ∀ q ∈ ([(3, 0, 4), (3, 1, 12), (3, 2, 20), (3, 3, 22), (3, 4, 28), (3, 5, 31), (3, 6, 48), (3, 7, 53), (3, 8, 56), (3, 9, 60), (3, 10, 61), (3, 11, 69), (3, 13, rl), (3, 14, dr), (4, 1, 5), (4, 2, 6), (4, 3, 7), (4, 4, 8), (4, 5, 9), (4, 8, 10), (4, 9, 11), (12, 1, 13), (12, 2, 14), (12, 3, 15), (12, 4, 16), (12, 5, 17), (12, 8, 18), (12, 9, 19), (20, 0, 21), (22, 0, 23), (22, 4, 24), (22, 5, st), (22, 6, nx), (22, 7, gf), (28, 0, 29), (28, 2, 30), (31, 0, 32), (31, 1, 40), (32, 1, 33), (32, 2, 34), (32, 3, 35), (32, 4, 36), (32, 5, 37), (32, 8, 38), (32, 9, 39), (40, 1, 41), (40, 2, 42), (40, 3, 43), (40, 4, 44), (40, 5, 45), (40, 8, 46), (40, 9, 47), (48, 0, 49), (48, 1, 50), (48, 2, 51), (48, 3, 52), (53, 0, 54), (53, 2, 55), (56, 0, 57), (56, 1, 58), (56, 2, 59), (61, 1, 62), (61, 2, 63), (61, 3, 64), (61, 4, 65), (61, 5, 66), (61, 8, 67), (61, 9, 68), (70, 0, 71), (70, 1, 72), (70, 3, 73), (70, 4, 74), (75, 0, 76), (75, 1, 77), (75, 3, 78), (75, 4, 79), (80, 0, 81), (80, 1, 82), (80, 3, 83), (80, 4, 84), (80, 5, 85), (80, 8, 86), (80, 10, 87), (80, 13, 88), (80, 18, 89), (80, 19, 90), (80, 21, 91), (80, 23, 92), (80, 24, 93), (80, 28, 94), (80, 29, 95), (80, 30, 96), (80, 31, 97), (80, 33, 98), (80, 34, 99), (80, 35, 100), (80, 38, 101), (80, 39, 102), (80, 40, 103), (80, 42, 104)] : List (Nat × Nat × Nat)), F q.1 q.2.1 = q.2.2
theorem f_3_0 {F : Nat → Nat → Nat} {st nx gf rl dr : Nat} (h : mFx F st nx gf rl dr) : F 3 0 = 4 := h (3, 0, 4) (List.mem_of_getElem? (i := 0) rfl)
theorem f_3_1 {F : Nat → Nat → Nat} {st nx gf rl dr : Nat} (h : mFx F st nx gf rl dr) : F 3 1 = 12 := h (3, 1, 12) (List.mem_of_getElem? (i := 1) rfl)
theorem f_3_2 {F : Nat → Nat → Nat} {st nx gf rl dr : Nat} (h : mFx F st nx gf rl dr) : F 3 2 = 20 := h (3, 2, 20) (List.mem_of_getElem? (i := 2) rfl)
theorem f_3_3 {F : Nat → Nat → Nat} {st nx gf rl dr : Nat} (h : mFx F st nx gf rl dr) : F 3 3 = 22 := h (3, 3, 22) (List.mem_of_getElem? (i := 3) rfl)
theorem f_3_4 {F : Nat → Nat → Nat} {st nx gf rl dr : Nat} (h : mFx F st nx gf rl dr) : F 3 4 = 28 := h (3, 4, 28) (List.mem_of_getElem? (i := 4) rfl)
theorem f_3_5 {F : Nat → Nat → Nat} {st nx gf rl dr : Nat} (h : mFx F st nx gf rl dr) : F 3 5 = 31 := h (3, 5, 31) (List.mem_of_getElem? (i := 5) rfl)
theorem f_3_6 {F : Nat → Nat → Nat} {st nx gf rl dr : Nat} (h : mFx F st nx gf rl dr) : F 3 6 = 48 := h (3, 6, 48) (List.mem_of_getElem? (i := 6) rfl)
theorem f_3_7 {F : Nat → Nat → Nat} {st nx gf rl dr : Nat} (h : mFx F st nx gf rl dr) : F 3 7 = 53 := h (3, 7, 53) (List.mem_of_getElem? (i := 7) rfl)
theorem f_3_8 {F : Nat → Nat → Nat} {st nx gf rl dr : Nat} (h : mFx F st nx gf rl dr) : F 3 8 = 56 := h (3, 8, 56) (List.mem_of_getElem? (i := 8) rfl)
theorem f_3_9 {F : Nat → Nat → Nat} {st nx gf rl dr : Nat} (h : mFx F st nx gf rl dr) : F 3 9 = 60 := h (3, 9, 60) (List.mem_of_getElem? (i := 9) rfl)
theorem f_3_10 {F : Nat → Nat → Nat} {st nx gf rl dr : Nat} (h : mFx F st nx gf rl dr) : F 3 10 = 61 := h (3, 10, 61) (List.mem_of_getElem? (i := 10) rfl)
theorem f_3_11 {F : Nat → Nat → Nat} {st nx gf rl dr : Nat} (h : mFx F st nx gf rl dr) : F 3 11 = 69 := h (3, 11, 69) (List.mem_of_getElem? (i := 11) rfl)
theorem f_3_13 {F : Nat → Nat → Nat} {st nx gf rl dr : Nat} (h : mFx F st nx gf rl dr) : F 3 13 = rl := h (3, 13, rl) (List.mem_of_getElem? (i := 12) rfl)
theorem f_3_14 {F : Nat → Nat → Nat} {st nx gf rl dr : Nat} (h : mFx F st nx gf rl dr) : F 3 14 = dr := h (3, 14, dr) (List.mem_of_getElem? (i := 13) rfl)
theorem f_4_1 {F : Nat → Nat → Nat} {st nx gf rl dr : Nat} (h : mFx F st nx gf rl dr) : F 4 1 = 5 := h (4, 1, 5) (List.mem_of_getElem? (i := 14) rfl)
theorem f_4_2 {F : Nat → Nat → Nat} {st nx gf rl dr : Nat} (h : mFx F st nx gf rl dr) : F 4 2 = 6 := h (4, 2, 6) (List.mem_of_getElem? (i := 15) rfl)
theorem f_4_3 {F : Nat → Nat → Nat} {st nx gf rl dr : Nat} (h : mFx F st nx gf rl dr) : F 4 3 = 7 := h (4, 3, 7) (List.mem_of_getElem? (i := 16) rfl)
theorem f_4_4 {F : Nat → Nat → Nat} {st nx gf rl dr : Nat} (h : mFx F st nx gf rl dr) : F 4 4 = 8 := h (4, 4, 8) (List.mem_of_getElem? (i := 17) rfl)
theorem f_4_5 {F : Nat → Nat → Nat} {st nx gf rl dr : Nat} (h : mFx F st nx gf rl dr) : F 4 5 = 9 := h (4, 5, 9) (List.mem_of_getElem? (i := 18) rfl)
theorem f_4_8 {F : Nat → Nat → Nat} {st nx gf rl dr : Nat} (h : mFx F st nx gf rl dr) : F 4 8 = 10 := h (4, 8, 10) (List.mem_of_getElem? (i := 19) rfl)
theorem f_4_9 {F : Nat → Nat → Nat} {st nx gf rl dr : Nat} (h : mFx F st nx gf rl dr) : F 4 9 = 11 := h (4, 9, 11) (List.mem_of_getElem? (i := 20) rfl)
theorem f_12_1 {F : Nat → Nat → Nat} {st nx gf rl dr : Nat} (h : mFx F st nx gf rl dr) : F 12 1 = 13 := h (12, 1, 13) (List.mem_of_getElem? (i := 21) rfl)
theorem f_12_2 {F : Nat → Nat → Nat} {st nx gf rl dr : Nat} (h : mFx F st nx gf rl dr) : F 12 2 = 14 := h (12, 2, 14) (List.mem_of_getElem? (i := 22) rfl)
theorem f_12_3 {F : Nat → Nat → Nat} {st nx gf rl dr : Nat} (h : mFx F st nx gf rl dr) : F 12 3 = 15 := h (12, 3, 15) (List.mem_of_getElem? (i := 23) rfl)
theorem f_12_4 {F : Nat → Nat → Nat} {st nx gf rl dr : Nat} (h : mFx F st nx gf rl dr) : F 12 4 = 16 := h (12, 4, 16) (List.mem_of_getElem? (i := 24) rfl)
theorem f_12_5 {F : Nat → Nat → Nat} {st nx gf rl dr : Nat} (h : mFx F st nx gf rl dr) : F 12 5 = 17 := h (12, 5, 17) (List.mem_of_getElem? (i := 25) rfl)
theorem f_12_8 {F : Nat → Nat → Nat} {st nx gf rl dr : Nat} (h : mFx F st nx gf rl dr) : F 12 8 = 18 := h (12, 8, 18) (List.mem_of_getElem? (i := 26) rfl)
theorem f_12_9 {F : Nat → Nat → Nat} {st nx gf rl dr : Nat} (h : mFx F st nx gf rl dr) : F 12 9 = 19 := h (12, 9, 19) (List.mem_of_getElem? (i := 27) rfl)
theorem f_20_0 {F : Nat → Nat → Nat} {st nx gf rl dr : Nat} (h : mFx F st nx gf rl dr) : F 20 0 = 21 := h (20, 0, 21) (List.mem_of_getElem? (i := 28) rfl)
theorem f_22_0 {F : Nat → Nat → Nat} {st nx gf rl dr : Nat} (h : mFx F st nx gf rl dr) : F 22 0 = 23 := h (22, 0, 23) (List.mem_of_getElem? (i := 29) rfl)
theorem f_22_4 {F : Nat → Nat → Nat} {st nx gf rl dr : Nat} (h : mFx F st nx gf rl dr) : F 22 4 = 24 := h (22, 4, 24) (List.mem_of_getElem? (i := 30) rfl)
theorem f_22_5 {F : Nat → Nat → Nat} {st nx gf rl dr : Nat} (h : mFx F st nx gf rl dr) : F 22 5 = st := h (22, 5, st) (List.mem_of_getElem? (i := 31) rfl)
theorem f_22_6 {F : Nat → Nat → Nat} {st nx gf rl dr : Nat} (h : mFx F st nx gf rl dr) : F 22 6 = nx := h (22, 6, nx) (List.mem_of_getElem? (i := 32) rfl)
theorem f_22_7 {F : Nat → Nat → Nat} {st nx gf rl dr : Nat} (h : mFx F st nx gf rl dr) : F 22 7 = gf := h (22, 7, gf) (List.mem_of_getElem? (i := 33) rfl)
theorem f_28_0 {F : Nat → Nat → Nat} {st nx gf rl dr : Nat} (h : mFx F st nx gf rl dr) : F 28 0 = 29 := h (28, 0, 29) (List.mem_of_getElem? (i := 34) rfl)
theorem f_28_2 {F : Nat → Nat → Nat} {st nx gf rl dr : Nat} (h : mFx F st nx gf rl dr) : F 28 2 = 30 := h (28, 2, 30) (List.mem_of_getElem? (i := 35) rfl)
theorem f_31_0 {F : Nat → Nat → Nat} {st nx gf rl dr : Nat} (h : mFx F st nx gf rl dr) : F 31 0 = 32 := h (31, 0, 32) (List.mem_of_getElem? (i := 36) rfl)
theorem f_31_1 {F : Nat → Nat → Nat} {st nx gf rl dr : Nat} (h : mFx F st nx gf rl dr) : F 31 1 = 40 := h (31, 1, 40) (List.mem_of_getElem? (i := 37) rfl)
theorem f_32_1 {F : Nat → Nat → Nat} {st nx gf rl dr : Nat} (h : mFx F st nx gf rl dr) : F 32 1 = 33 := h (32, 1, 33) (List.mem_of_getElem? (i := 38) rfl)
theorem f_32_2 {F : Nat → Nat → Nat} {st nx gf rl dr : Nat} (h : mFx F st nx gf rl dr) : F 32 2 = 34 := h (32, 2, 34) (List.mem_of_getElem? (i := 39) rfl)
theorem f_32_3 {F : Nat → Nat → Nat} {st nx gf rl dr : Nat} (h : mFx F st nx gf rl dr) : F 32 3 = 35 := h (32, 3, 35) (List.mem_of_getElem? (i := 40) rfl)
theorem f_32_4 {F : Nat → Nat → Nat} {st nx gf rl dr : Nat} (h : mFx F st nx gf rl dr) : F 32 4 = 36 := h (32, 4, 36) (List.mem_of_getElem? (i := 41) rfl)
theorem f_32_5 {F : Nat → Nat → Nat} {st nx gf rl dr : Nat} (h : mFx F st nx gf rl dr) : F 32 5 = 37 := h (32, 5, 37) (List.mem_of_getElem? (i := 42) rfl)
theorem f_32_8 {F : Nat → Nat → Nat} {st nx gf rl dr : Nat} (h : mFx F st nx gf rl dr) : F 32 8 = 38 := h (32, 8, 38) (List.mem_of_getElem? (i := 43) rfl)
theorem f_32_9 {F : Nat → Nat → Nat} {st nx gf rl dr : Nat} (h : mFx F st nx gf rl dr) : F 32 9 = 39 := h (32, 9, 39) (List.mem_of_getElem? (i := 44) rfl)
theorem f_40_1 {F : Nat → Nat → Nat} {st nx gf rl dr : Nat} (h : mFx F st nx gf rl dr) : F 40 1 = 41 := h (40, 1, 41) (List.mem_of_getElem? (i := 45) rfl)
theorem f_40_2 {F : Nat → Nat → Nat} {st nx gf rl dr : Nat} (h : mFx F st nx gf rl dr) : F 40 2 = 42 := h (40, 2, 42) (List.mem_of_getElem? (i := 46) rfl)
theorem f_40_3 {F : Nat → Nat → Nat} {st nx gf rl dr : Nat} (h : mFx F st nx gf rl dr) : F 40 3 = 43 := h (40, 3, 43) (List.mem_of_getElem? (i := 47) rfl)
theorem f_40_4 {F : Nat → Nat → Nat} {st nx gf rl dr : Nat} (h : mFx F st nx gf rl dr) : F 40 4 = 44 := h (40, 4, 44) (List.mem_of_getElem? (i := 48) rfl)
theorem f_40_5 {F : Nat → Nat → Nat} {st nx gf rl dr : Nat} (h : mFx F st nx gf rl dr) : F 40 5 = 45 := h (40, 5, 45) (List.mem_of_getElem? (i := 49) rfl)
theorem f_40_8 {F : Nat → Nat → Nat} {st nx gf rl dr : Nat} (h : mFx F st nx gf rl dr) : F 40 8 = 46 := h (40, 8, 46) (List.mem_of_getElem? (i := 50) rfl)
theorem f_40_9 {F : Nat → Nat → Nat} {st nx gf rl dr : Nat} (h : mFx F st nx gf rl dr) : F 40 9 = 47 := h (40, 9, 47) (List.mem_of_getElem? (i := 51) rfl)
theorem f_48_0 {F : Nat → Nat → Nat} {st nx gf rl dr : Nat} (h : mFx F st nx gf rl dr) : F 48 0 = 49 := h (48, 0, 49) (List.mem_of_getElem? (i := 52) rfl)
theorem f_48_1 {F : Nat → Nat → Nat} {st nx gf rl dr : Nat} (h : mFx F st nx gf rl dr) : F 48 1 = 50 := h (48, 1, 50) (List.mem_of_getElem? (i := 53) rfl)
theorem f_48_2 {F : Nat → Nat → Nat} {st nx gf rl dr : Nat} (h : mFx F st nx gf rl dr) : F 48 2 = 51 := h (48, 2, 51) (List.mem_of_getElem? (i := 54) rfl)
theorem f_48_3 {F : Nat → Nat → Nat} {st nx gf rl dr : Nat} (h : mFx F st nx gf rl dr) : F 48 3 = 52 := h (48, 3, 52) (List.mem_of_getElem? (i := 55) rfl)
theorem f_53_0 {F : Nat → Nat → Nat} {st nx gf rl dr : Nat} (h : mFx F st nx gf rl dr) : F 53 0 = 54 := h (53, 0, 54) (List.mem_of_getElem? (i := 56) rfl)
theorem f_53_2 {F : Nat → Nat → Nat} {st nx gf rl dr : Nat} (h : mFx F st nx gf rl dr) : F 53 2 = 55 := h (53, 2, 55) (List.mem_of_getElem? (i := 57) rfl)
theorem f_56_0 {F : Nat → Nat → Nat} {st nx gf rl dr : Nat} (h : mFx F st nx gf rl dr) : F 56 0 = 57 := h (56, 0, 57) (List.mem_of_getElem? (i := 58) rfl)
theorem f_56_1 {F : Nat → Nat → Nat} {st nx gf rl dr : Nat} (h : mFx F st nx gf rl dr) : F 56 1 = 58 := h (56, 1, 58) (List.mem_of_getElem? (i := 59) rfl)
theorem f_56_2 {F : Nat → Nat → Nat} {st nx gf rl dr : Nat} (h : mFx F st nx gf rl dr) : F 56 2 = 59 := h (56, 2, 59) (List.mem_of_getElem? (i := 60) rfl)
theorem f_61_1 {F : Nat → Nat → Nat} {st nx gf rl dr : Nat} (h : mFx F st nx gf rl dr) : F 61 1 = 62 := h (61, 1, 62) (List.mem_of_getElem? (i := 61) rfl)
theorem f_61_2 {F : Nat → Nat → Nat} {st nx gf rl dr : Nat} (h : mFx F st nx gf rl dr) : F 61 2 = 63 := h (61, 2, 63) (List.mem_of_getElem? (i := 62) rfl)
theorem f_61_3 {F : Nat → Nat → Nat} {st nx gf rl dr : Nat} (h : mFx F st nx gf rl dr) : F 61 3 = 64 := h (61, 3, 64) (List.mem_of_getElem? (i := 63) rfl)
theorem f_61_4 {F : Nat → Nat → Nat} {st nx gf rl dr : Nat} (h : mFx F st nx gf rl dr) : F 61 4 = 65 := h (61, 4, 65) (List.mem_of_getElem? (i := 64) rfl)
theorem f_61_5 {F : Nat → Nat → Nat} {st nx gf rl dr : Nat} (h : mFx F st nx gf rl dr) : F 61 5 = 66 := h (61, 5, 66) (List.mem_of_getElem? (i := 65) rfl)
theorem f_61_8 {F : Nat → Nat → Nat} {st nx gf rl dr : Nat} (h : mFx F st nx gf rl dr) : F 61 8 = 67 := h (61, 8, 67) (List.mem_of_getElem? (i := 66) rfl)
theorem f_61_9 {F : Nat → Nat → Nat} {st nx gf rl dr : Nat} (h : mFx F st nx gf rl dr) : F 61 9 = 68 := h (61, 9, 68) (List.mem_of_getElem? (i := 67) rfl)
theorem f_70_0 {F : Nat → Nat → Nat} {st nx gf rl dr : Nat} (h : mFx F st nx gf rl dr) : F 70 0 = 71 := h (70, 0, 71) (List.mem_of_getElem? (i := 68) rfl)
theorem f_70_1 {F : Nat → Nat → Nat} {st nx gf rl dr : Nat} (h : mFx F st nx gf rl dr) : F 70 1 = 72 := h (70, 1, 72) (List.mem_of_getElem? (i := 69) rfl)
theorem f_70_3 {F : Nat → Nat → Nat} {st nx gf rl dr : Nat} (h : mFx F st nx gf rl dr) : F 70 3 = 73 := h (70, 3, 73) (List.mem_of_getElem? (i := 70) rfl)
theorem f_70_4 {F : Nat → Nat → Nat} {st nx gf rl dr : Nat} (h : mFx F st nx gf rl dr) : F 70 4 = 74 := h (70, 4, 74) (List.mem_of_getElem? (i := 71) rfl)
theorem f_75_0 {F : Nat → Nat → Nat} {st nx gf rl dr : Nat} (h : mFx F st nx gf rl dr) : F 75 0 = 76 := h (75, 0, 76) (List.mem_of_getElem? (i := 72) rfl)
theorem f_75_1 {F : Nat → Nat → Nat} {st nx gf rl dr : Nat} (h : mFx F st nx gf rl dr) : F 75 1 = 77 := h (75, 1, 77) (List.mem_of_getElem? (i := 73) rfl)
theorem f_75_3 {F : Nat → Nat → Nat} {st nx gf rl dr : Nat} (h : mFx F st nx gf rl dr) : F 75 3 = 78 := h (75, 3, 78) (List.mem_of_getElem? (i := 74) rfl)
theorem f_75_4 {F : Nat → Nat → Nat} {st nx gf rl dr : Nat} (h : mFx F st nx gf rl dr) : F 75 4 = 79 := h (75, 4, 79) (List.mem_of_getElem? (i := 75) rfl)
theorem f_80_0 {F : Nat → Nat → Nat} {st nx gf rl dr : Nat} (h : mFx F st nx gf rl dr) : F 80 0 = 81 := h (80, 0, 81) (List.mem_of_getElem? (i := 76) rfl)
theorem f_80_1 {F : Nat → Nat → Nat} {st nx gf rl dr : Nat} (h : mFx F st nx gf rl dr) : F 80 1 = 82 := h (80, 1, 82) (List.mem_of_getElem? (i := 77) rfl)
theorem f_80_3 {F : Nat → Nat → Nat} {st nx gf rl dr : Nat} (h : mFx F st nx gf rl dr) : F 80 3 = 83 := h (80, 3, 83) (List.mem_of_getElem? (i := 78) rfl)
theorem f_80_4 {F : Nat → Nat → Nat} {st nx gf rl dr : Nat} (h : mFx F st nx gf rl dr) : F 80 4 = 84 := h (80, 4, 84) (List.mem_of_getElem? (i := 79) rfl)
theorem f_80_5 {F : Nat → Nat → Nat} {st nx gf rl dr : Nat} (h : mFx F st nx gf rl dr) : F 80 5 = 85 := h (80, 5, 85) (List.mem_of_getElem? (i := 80) rfl)
theorem f_80_8 {F : Nat → Nat → Nat} {st nx gf rl dr : Nat} (h : mFx F st nx gf rl dr) : F 80 8 = 86 := h (80, 8, 86) (List.mem_of_getElem? (i := 81) rfl)
theorem f_80_10 {F : Nat → Nat → Nat} {st nx gf rl dr : Nat} (h : mFx F st nx gf rl dr) : F 80 10 = 87 := h (80, 10, 87) (List.mem_of_getElem? (i := 82) rfl)
theorem f_80_13 {F : Nat → Nat → Nat} {st nx gf rl dr : Nat} (h : mFx F st nx gf rl dr) : F 80 13 = 88 := h (80, 13, 88) (List.mem_of_getElem? (i := 83) rfl)
theorem f_80_18 {F : Nat → Nat → Nat} {st nx gf rl dr : Nat} (h : mFx F st nx gf rl dr) : F 80 18 = 89 := h (80, 18, 89) (List.mem_of_getElem? (i := 84) rfl)
theorem f_80_19 {F : Nat → Nat → Nat} {st nx gf rl dr : Nat} (h : mFx F st nx gf rl dr) : F 80 19 = 90 := h (80, 19, 90) (List.mem_of_getElem? (i := 85) rfl)
theorem f_80_21 {F : Nat → Nat → Nat} {st nx gf rl dr : Nat} (h : mFx F st nx gf rl dr) : F 80 21 = 91 := h (80, 21, 91) (List.mem_of_getElem? (i := 86) rfl)
theorem f_80_23 {F : Nat → Nat → Nat} {st nx gf rl dr : Nat} (h : mFx F st nx gf rl dr) : F 80 23 = 92 := h (80, 23, 92) (List.mem_of_getElem? (i := 87) rfl)
theorem f_80_24 {F : Nat → Nat → Nat} {st nx gf rl dr : Nat} (h : mFx F st nx gf rl dr) : F 80 24 = 93 := h (80, 24, 93) (List.mem_of_getElem? (i := 88) rfl)
theorem f_80_28 {F : Nat → Nat → Nat} {st nx gf rl dr : Nat} (h : mFx F st nx gf rl dr) : F 80 28 = 94 := h (80, 28, 94) (List.mem_of_getElem? (i := 89) rfl)
theorem f_80_29 {F : Nat → Nat → Nat} {st nx gf rl dr : Nat} (h : mFx F st nx gf rl dr) : F 80 29 = 95 := h (80, 29, 95) (List.mem_of_getElem? (i := 90) rfl)
theorem f_80_30 {F : Nat → Nat → Nat} {st nx gf rl dr : Nat} (h : mFx F st nx gf rl dr) : F 80 30 = 96 := h (80, 30, 96) (List.mem_of_getElem? (i := 91) rfl)
theorem f_80_31 {F : Nat → Nat → Nat} {st nx gf rl dr : Nat} (h : mFx F st nx gf rl dr) : F 80 31 = 97 := h (80, 31, 97) (List.mem_of_getElem? (i := 92) rfl)
theorem f_80_33 {F : Nat → Nat → Nat} {st nx gf rl dr : Nat} (h : mFx F st nx gf rl dr) : F 80 33 = 98 := h (80, 33, 98) (List.mem_of_getElem? (i := 93) rfl)
theorem f_80_34 {F : Nat → Nat → Nat} {st nx gf rl dr : Nat} (h : mFx F st nx gf rl dr) : F 80 34 = 99 := h (80, 34, 99) (List.mem_of_getElem? (i := 94) rfl)
theorem f_80_35 {F : Nat → Nat → Nat} {st nx gf rl dr : Nat} (h : mFx F st nx gf rl dr) : F 80 35 = 100 := h (80, 35, 100) (List.mem_of_getElem? (i := 95) rfl)
theorem f_80_38 {F : Nat → Nat → Nat} {st nx gf rl dr : Nat} (h : mFx F st nx gf rl dr) : F 80 38 = 101 := h (80, 38, 101) (List.mem_of_getElem? (i := 96) rfl)
theorem f_80_39 {F : Nat → Nat → Nat} {st nx gf rl dr : Nat} (h : mFx F st nx gf rl dr) : F 80 39 = 102 := h (80, 39, 102) (List.mem_of_getElem? (i := 97) rfl)
theorem f_80_40 {F : Nat → Nat → Nat} {st nx gf rl dr : Nat} (h : mFx F st nx gf rl dr) : F 80 40 = 103 := h (80, 40, 103) (List.mem_of_getElem? (i := 98) rfl)
theorem f_80_42 {F : Nat → Nat → Nat} {st nx gf rl dr : Nat} (h : mFx F st nx gf rl dr) : F 80 42 = 104 := h (80, 42, 104) (List.mem_of_getElem? (i := 99) rfl)
/-! reading what was written -/
theorem nl_ref (x : Nat) : mNoL (some (.ref x)) = true := by
  have h := mNoL_ref x
  exact h
theorem nl_int (x : Int32) : mNoL (some (.int x)) = true := by
  have h := mNoL_int x
  exact h
theorem nl_none : mNoL none = true := by
  have h := mNoL_none
  exact h
theorem mSetI_1 {I : Nat → Nat → Int32} {E : Nat → Nat → Int64} {F : Nat → Nat → Nat} {k j : Nat} {x : Int32} : mSetI (I, E, F) k j x = (fun a b => if a = k ∧ b = j then x else I a b, E, F) := rfl
theorem mSetL_1 {I : Nat → Nat → Int32} {E : Nat → Nat → Int64} {F : Nat → Nat → Nat} {k j : Nat} {x : Int64} : mSetL (I, E, F) k j x = (I, fun a b => if a = k ∧ b = j then x else E a b, F) := rfl
theorem mSetR_1 {I : Nat → Nat → Int32} {E : Nat → Nat → Int64} {F : Nat → Nat → Nat} {k j x : Nat} : mSetR (I, E, F) k j x = (I, E, fun a b => if a = k ∧ b = j then x else F a b) := rfl
theorem mCpyI_1 {I : Nat → Nat → Int32} {E : Nat → Nat → Int64} {F : Nat → Nat → Nat} {k0 k1 sp dp n : Nat} : mCpyI (I, E, F) k0 k1 sp dp n = (fun a b => if a = k1 then va_cpy (I k0) (I k1) sp dp n b else I a b, E, F) := rfl
theorem mCpyL_1 {I : Nat → Nat → Int32} {E : Nat → Nat → Int64} {F : Nat → Nat → Nat} {k0 k1 sp dp n : Nat} : mCpyL (I, E, F) k0 k1 sp dp n = (I, fun a b => if a = k1 then va_cpy (E k0) (E k1) sp dp n b else E a b, F) := rfl
/-- the int memory, one place written -/
def iU (I : Nat → Nat → Int32) (k j : Nat) (x : Int32) : Nat → Nat → Int32 := fun a b => if a = k ∧ b = j then x else I a b
theorem iU_eq {I : Nat → Nat → Int32} {k j : Nat} {x : Int32} : iU I k j x k j = x := by simp [iU]
theorem iU_ne {I : Nat → Nat → Int32} {k j a b : Nat} {x : Int32} (h : ¬ (a = k ∧ b = j)) : iU I k j x a b = I a b := by simp only [iU]; rw [if_neg h]
theorem iU_nr {I : Nat → Nat → Int32} {k j a b : Nat} {x : Int32} (h : a ≠ k) : iU I k j x a b = I a b := iU_ne (fun q => h q.1)
theorem iU_r {I : Nat → Nat → Int32} {k j b : Nat} {x : Int32} : iU I k j x k b = if b = j then x else I k b := by simp [iU]
def eU (E : Nat → Nat → Int64) (k j : Nat) (x : Int64) : Nat → Nat → Int64 := fun a b => if a = k ∧ b = j then x else E a b
theorem mSetI_u {I : Nat → Nat → Int32} {E : Nat → Nat → Int64} {F : Nat → Nat → Nat} {k j : Nat} {x : Int32} : mSetI (I, E, F) k j x = (iU I k j x, E, F) := rfl
theorem mSetL_u {I : Nat → Nat → Int32} {E : Nat → Nat → Int64} {F : Nat → Nat → Nat} {k j : Nat} {x : Int64} : mSetL (I, E, F) k j x = (I, eU E k j x, F) := rfl
/-! numbers -/
abbrev jI (z : Int) : Int32 := Int32.ofInt z
theorem jI_toInt {z : Int} (h0 : -2147483648 ≤ z) (h1 : z ≤ 2147483647) : (Int32.ofInt z).toInt = z := by
  rw [Int32.toInt_ofInt]
  exact Int.bmod_eq_of_le (m := 4294967296) (by omega) (by omega)
theorem jI_lt {a b : Int} (ha : -2147483648 ≤ a ∧ a ≤ 2147483647) (hb : -2147483648 ≤ b ∧ b ≤ 2147483647) : (Int32.ofInt a < Int32.ofInt b) = (a < b) := by
  rw [Int32.lt_iff_toInt_lt, jI_toInt ha.1 ha.2, jI_toInt hb.1 hb.2]
theorem jI_eq {a b : Int} (ha : -2147483648 ≤ a ∧ a ≤ 2147483647) (hb : -2147483648 ≤ b ∧ b ≤ 2147483647) : (Int32.ofInt a = Int32.ofInt b) = (a = b) := by
  rw [← Int32.toInt_inj, jI_toInt ha.1 ha.2, jI_toInt hb.1 hb.2]
theorem jI_add (a b : Int) : Int32.ofInt a + Int32.ofInt b = Int32.ofInt (a + b) := (Int32.ofInt_add a b).symm
theorem jI_sub (a b : Int) : Int32.ofInt a - Int32.ofInt b = Int32.ofInt (a - b) := (Int32.ofInt_sub a b).symm
theorem jI_mul (a b : Int) : Int32.ofInt a * Int32.ofInt b = Int32.ofInt (a * b) := (Int32.ofInt_mul a b).symm
theorem jI_neg (a : Int) : -Int32.ofInt a = Int32.ofInt (-a) := (Int32.ofInt_neg a).symm
theorem jI_nat (n : Nat) : Int32.ofNat n = Int32.ofInt (n : Int) := by
  rw [← Int32.toInt_inj, Int32.toInt_ofNat', Int32.toInt_ofInt]
theorem jI_self (x : Int32) : Int32.ofInt x.toInt = x := Int32.ofInt_toInt x
theorem jI_ix {z : Int} (h0 : 0 ≤ z) (h1 : z ≤ 2147483647) : (Int32.ofInt z).toNatClampNeg = z.toNat := by
  show (Int32.ofInt z).toInt.toNat = _
  rw [jI_toInt (by omega) h1]
theorem jI_ixn {n : Nat} (h1 : n ≤ 2147483647) : (Int32.ofInt (n : Int)).toNatClampNeg = n := by
  rw [jI_ix (by omega) (by omega)]; rfl
theorem jI_in {z : Int} {n : Nat} (h0 : 0 ≤ z) (h1 : z < n) (hn : n ≤ 2147483647) : mIdx (Int32.ofInt z) n = true := by
  simp only [mIdx, decide_eq_true_eq]
  rw [jI_toInt (by omega) (by omega)]
  exact ⟨h0, h1⟩
theorem i32_lo (x : Int32) : -2147483648 ≤ x.toInt := Int32.le_toInt x
theorem i32_hi (x : Int32) : x.toInt ≤ 2147483647 := by have := Int32.toInt_lt x; omega
theorem jI_of (x : Int32) : ∃ z : Int, -2147483648 ≤ z ∧ z ≤ 2147483647 ∧ x = Int32.ofInt z := ⟨x.toInt, i32_lo x, i32_hi x, (jI_self x).symm⟩
